/-! MinuteBook: questions about a row that is told -/
theorem dX11_rows_0 : decode cX11_rows 0 = .ok (.iload_n 1, 1) := by decide +kernel
theorem dX11_rows_1 : decode cX11_rows 1 = .ok (.invokestatic 252, 3) := by decide +kernel
theorem dX11_rows_4 : decode cX11_rows 4 = .ok (.ifCond .eq 13, 3) := by decide +kernel
theorem dX11_rows_7 : decode cX11_rows 7 = .ok (.iload_n 2, 1) := by decide +kernel
theorem dX11_rows_8 : decode cX11_rows 8 = .ok (.ifCond .lt 9, 3) := by decide +kernel
theorem dX11_rows_11 : decode cX11_rows 11 = .ok (.iload_n 2, 1) := by decide +kernel
theorem dX11_rows_12 : decode cX11_rows 12 = .ok (.bipush 10, 2) := by decide +kernel
theorem dX11_rows_14 : decode cX11_rows 14 = .ok (.if_icmp .le 7, 3) := by decide +kernel
theorem dX11_rows_17 : decode cX11_rows 17 = .ok (.ldc2_w 264, 3) := by decide +kernel
theorem dX11_rows_20 : decode cX11_rows 20 = .ok (.lreturn, 1) := by decide +kernel
theorem dX11_rows_21 : decode cX11_rows 21 = .ok (.aload_n 0, 1) := by decide +kernel
theorem dX11_rows_22 : decode cX11_rows 22 = .ok (.getfield 95, 3) := by decide +kernel
theorem dX11_rows_25 : decode cX11_rows 25 = .ok (.iload_n 2, 1) := by decide +kernel
theorem dX11_rows_26 : decode cX11_rows 26 = .ok (.invokevirtual 266, 3) := by decide +kernel
theorem dX11_rows_29 : decode cX11_rows 29 = .ok (.iconst 0, 1) := by decide +kernel
theorem dX11_rows_30 : decode cX11_rows 30 = .ok (.istore_n 3, 1) := by decide +kernel
theorem dX11_rows_31 : decode cX11_rows 31 = .ok (.iload_n 3, 1) := by decide +kernel
theorem dX11_rows_32 : decode cX11_rows 32 = .ok (.iload_n 2, 1) := by decide +kernel
theorem dX11_rows_33 : decode cX11_rows 33 = .ok (.if_icmp .ge 18, 3) := by decide +kernel
theorem dX11_rows_36 : decode cX11_rows 36 = .ok (.aload_n 0, 1) := by decide +kernel
theorem dX11_rows_37 : decode cX11_rows 37 = .ok (.getfield 95, 3) := by decide +kernel
theorem dX11_rows_40 : decode cX11_rows 40 = .ok (.iload_n 3, 1) := by decide +kernel
theorem dX11_rows_41 : decode cX11_rows 41 = .ok (.iconst (-1), 1) := by decide +kernel
theorem dX11_rows_42 : decode cX11_rows 42 = .ok (.invokevirtual 269, 3) := by decide +kernel
theorem dX11_rows_45 : decode cX11_rows 45 = .ok (.iinc 3 1, 3) := by decide +kernel
theorem dX11_rows_48 : decode cX11_rows 48 = .ok (.goto (-17), 3) := by decide +kernel
theorem dX11_rows_51 : decode cX11_rows 51 = .ok (.aload_n 0, 1) := by decide +kernel
theorem dX11_rows_52 : decode cX11_rows 52 = .ok (.getfield 79, 3) := by decide +kernel
theorem dX11_rows_55 : decode cX11_rows 55 = .ok (.aload_n 0, 1) := by decide +kernel
theorem dX11_rows_56 : decode cX11_rows 56 = .ok (.getfield 30, 3) := by decide +kernel
theorem dX11_rows_59 : decode cX11_rows 59 = .ok (.getfield 139, 3) := by decide +kernel
theorem dX11_rows_62 : decode cX11_rows 62 = .ok (.invokevirtual 273, 3) := by decide +kernel
theorem dX11_rows_65 : decode cX11_rows 65 = .ok (.aload_n 0, 1) := by decide +kernel
theorem dX11_rows_66 : decode cX11_rows 66 = .ok (.getfield 95, 3) := by decide +kernel
theorem dX11_rows_69 : decode cX11_rows 69 = .ok (.aload_n 0, 1) := by decide +kernel
theorem dX11_rows_70 : decode cX11_rows 70 = .ok (.getfield 30, 3) := by decide +kernel
theorem dX11_rows_73 : decode cX11_rows 73 = .ok (.getfield 151, 3) := by decide +kernel
theorem dX11_rows_76 : decode cX11_rows 76 = .ok (.iload_n 1, 1) := by decide +kernel
theorem dX11_rows_77 : decode cX11_rows 77 = .ok (.invokevirtual 277, 3) := by decide +kernel
theorem dX11_rows_80 : decode cX11_rows 80 = .ok (.lreturn, 1) := by decide +kernel
theorem dX11_baulk_0 : decode cX11_baulk 0 = .ok (.aload_n 0, 1) := by decide +kernel
theorem dX11_baulk_1 : decode cX11_baulk 1 = .ok (.iload_n 1, 1) := by decide +kernel
theorem dX11_baulk_2 : decode cX11_baulk 2 = .ok (.invokevirtual 317, 3) := by decide +kernel
theorem dX11_baulk_5 : decode cX11_baulk 5 = .ok (.istore_n 2, 1) := by decide +kernel
theorem dX11_baulk_6 : decode cX11_baulk 6 = .ok (.iload_n 2, 1) := by decide +kernel
theorem dX11_baulk_7 : decode cX11_baulk 7 = .ok (.ifCond .eq 5, 3) := by decide +kernel
theorem dX11_baulk_10 : decode cX11_baulk 10 = .ok (.iload_n 2, 1) := by decide +kernel
theorem dX11_baulk_11 : decode cX11_baulk 11 = .ok (.ireturn, 1) := by decide +kernel
theorem dX11_baulk_12 : decode cX11_baulk 12 = .ok (.aload_n 0, 1) := by decide +kernel
theorem dX11_baulk_13 : decode cX11_baulk 13 = .ok (.getfield 79, 3) := by decide +kernel
theorem dX11_baulk_16 : decode cX11_baulk 16 = .ok (.aload_n 0, 1) := by decide +kernel
theorem dX11_baulk_17 : decode cX11_baulk 17 = .ok (.getfield 30, 3) := by decide +kernel
theorem dX11_baulk_20 : decode cX11_baulk 20 = .ok (.getfield 139, 3) := by decide +kernel
theorem dX11_baulk_23 : decode cX11_baulk 23 = .ok (.invokevirtual 273, 3) := by decide +kernel
theorem dX11_baulk_26 : decode cX11_baulk 26 = .ok (.aload_n 0, 1) := by decide +kernel
theorem dX11_baulk_27 : decode cX11_baulk 27 = .ok (.getfield 95, 3) := by decide +kernel
theorem dX11_baulk_30 : decode cX11_baulk 30 = .ok (.aload_n 0, 1) := by decide +kernel
theorem dX11_baulk_31 : decode cX11_baulk 31 = .ok (.getfield 30, 3) := by decide +kernel
theorem dX11_baulk_34 : decode cX11_baulk 34 = .ok (.getfield 151, 3) := by decide +kernel
theorem dX11_baulk_37 : decode cX11_baulk 37 = .ok (.invokevirtual 320, 3) := by decide +kernel
theorem dX11_baulk_40 : decode cX11_baulk 40 = .ok (.ireturn, 1) := by decide +kernel
theorem dX11_errata_0 : decode cX11_errata 0 = .ok (.aload_n 0, 1) := by decide +kernel
theorem dX11_errata_1 : decode cX11_errata 1 = .ok (.iload_n 1, 1) := by decide +kernel
theorem dX11_errata_2 : decode cX11_errata 2 = .ok (.iload_n 2, 1) := by decide +kernel
theorem dX11_errata_3 : decode cX11_errata 3 = .ok (.iconst 0, 1) := by decide +kernel
theorem dX11_errata_4 : decode cX11_errata 4 = .ok (.invokevirtual 323, 3) := by decide +kernel
theorem dX11_errata_7 : decode cX11_errata 7 = .ok (.istore_n 3, 1) := by decide +kernel
theorem dX11_errata_8 : decode cX11_errata 8 = .ok (.iload_n 3, 1) := by decide +kernel
theorem dX11_errata_9 : decode cX11_errata 9 = .ok (.ifCond .eq 5, 3) := by decide +kernel
theorem dX11_errata_12 : decode cX11_errata 12 = .ok (.iload_n 3, 1) := by decide +kernel
theorem dX11_errata_13 : decode cX11_errata 13 = .ok (.ireturn, 1) := by decide +kernel
theorem dX11_errata_14 : decode cX11_errata 14 = .ok (.aload_n 0, 1) := by decide +kernel
theorem dX11_errata_15 : decode cX11_errata 15 = .ok (.iload_n 2, 1) := by decide +kernel
theorem dX11_errata_16 : decode cX11_errata 16 = .ok (.invokevirtual 326, 3) := by decide +kernel
theorem dX11_errata_19 : decode cX11_errata 19 = .ok (.ireturn, 1) := by decide +kernel
theorem dX11_right_0 : decode cX11_right 0 = .ok (.aload_n 0, 1) := by decide +kernel
theorem dX11_right_1 : decode cX11_right 1 = .ok (.iload_n 1, 1) := by decide +kernel
theorem dX11_right_2 : decode cX11_right 2 = .ok (.iload_n 2, 1) := by decide +kernel
theorem dX11_right_3 : decode cX11_right 3 = .ok (.iload_n 3, 1) := by decide +kernel
theorem dX11_right_4 : decode cX11_right 4 = .ok (.invokevirtual 323, 3) := by decide +kernel
theorem dX11_right_7 : decode cX11_right 7 = .ok (.istore 4, 2) := by decide +kernel
theorem dX11_right_9 : decode cX11_right 9 = .ok (.iload 4, 2) := by decide +kernel
theorem dX11_right_11 : decode cX11_right 11 = .ok (.ifCond .eq 6, 3) := by decide +kernel
theorem dX11_right_14 : decode cX11_right 14 = .ok (.iload 4, 2) := by decide +kernel
theorem dX11_right_16 : decode cX11_right 16 = .ok (.ireturn, 1) := by decide +kernel
theorem dX11_right_17 : decode cX11_right 17 = .ok (.aload_n 0, 1) := by decide +kernel
theorem dX11_right_18 : decode cX11_right 18 = .ok (.iload_n 2, 1) := by decide +kernel
theorem dX11_right_19 : decode cX11_right 19 = .ok (.invokevirtual 326, 3) := by decide +kernel
theorem dX11_right_22 : decode cX11_right 22 = .ok (.iconst (-1), 1) := by decide +kernel
theorem dX11_right_23 : decode cX11_right 23 = .ok (.if_icmp .ne 7, 3) := by decide +kernel
theorem dX11_right_26 : decode cX11_right 26 = .ok (.iconst (-1), 1) := by decide +kernel
theorem dX11_right_27 : decode cX11_right 27 = .ok (.goto 11, 3) := by decide +kernel
theorem dX11_right_30 : decode cX11_right 30 = .ok (.aload_n 0, 1) := by decide +kernel
theorem dX11_right_31 : decode cX11_right 31 = .ok (.getfield 95, 3) := by decide +kernel
theorem dX11_right_34 : decode cX11_right 34 = .ok (.iload_n 3, 1) := by decide +kernel
theorem dX11_right_35 : decode cX11_right 35 = .ok (.invokevirtual 329, 3) := by decide +kernel
theorem dX11_right_38 : decode cX11_right 38 = .ok (.ireturn, 1) := by decide +kernel
theorem dX11_back_0 : decode cX11_back 0 = .ok (.aload_n 0, 1) := by decide +kernel
theorem dX11_back_1 : decode cX11_back 1 = .ok (.iload_n 1, 1) := by decide +kernel
theorem dX11_back_2 : decode cX11_back 2 = .ok (.iload_n 2, 1) := by decide +kernel
theorem dX11_back_3 : decode cX11_back 3 = .ok (.iconst 0, 1) := by decide +kernel
theorem dX11_back_4 : decode cX11_back 4 = .ok (.invokevirtual 323, 3) := by decide +kernel
theorem dX11_back_7 : decode cX11_back 7 = .ok (.istore_n 3, 1) := by decide +kernel
theorem dX11_back_8 : decode cX11_back 8 = .ok (.iload_n 3, 1) := by decide +kernel
theorem dX11_back_9 : decode cX11_back 9 = .ok (.ifCond .eq 5, 3) := by decide +kernel
theorem dX11_back_12 : decode cX11_back 12 = .ok (.iload_n 3, 1) := by decide +kernel
theorem dX11_back_13 : decode cX11_back 13 = .ok (.ireturn, 1) := by decide +kernel
theorem dX11_back_14 : decode cX11_back 14 = .ok (.aload_n 0, 1) := by decide +kernel
theorem dX11_back_15 : decode cX11_back 15 = .ok (.iload_n 2, 1) := by decide +kernel
theorem dX11_back_16 : decode cX11_back 16 = .ok (.invokevirtual 326, 3) := by decide +kernel
theorem dX11_back_19 : decode cX11_back 19 = .ok (.iconst (-1), 1) := by decide +kernel
theorem dX11_back_20 : decode cX11_back 20 = .ok (.if_icmp .ne 7, 3) := by decide +kernel
theorem dX11_back_23 : decode cX11_back 23 = .ok (.iconst (-1), 1) := by decide +kernel
theorem dX11_back_24 : decode cX11_back 24 = .ok (.goto 10, 3) := by decide +kernel
theorem dX11_back_27 : decode cX11_back 27 = .ok (.aload_n 0, 1) := by decide +kernel
theorem dX11_back_28 : decode cX11_back 28 = .ok (.getfield 95, 3) := by decide +kernel
theorem dX11_back_31 : decode cX11_back 31 = .ok (.invokevirtual 332, 3) := by decide +kernel
theorem dX11_back_34 : decode cX11_back 34 = .ok (.ireturn, 1) := by decide +kernel
theorem dX11_weighErrata_0 : decode cX11_weighErrata 0 = .ok (.aload_n 0, 1) := by decide +kernel
theorem dX11_weighErrata_1 : decode cX11_weighErrata 1 = .ok (.getfield 79, 3) := by decide +kernel
theorem dX11_weighErrata_4 : decode cX11_weighErrata 4 = .ok (.aload_n 0, 1) := by decide +kernel
theorem dX11_weighErrata_5 : decode cX11_weighErrata 5 = .ok (.getfield 30, 3) := by decide +kernel
theorem dX11_weighErrata_8 : decode cX11_weighErrata 8 = .ok (.getfield 139, 3) := by decide +kernel
theorem dX11_weighErrata_11 : decode cX11_weighErrata 11 = .ok (.invokevirtual 273, 3) := by decide +kernel
theorem dX11_weighErrata_14 : decode cX11_weighErrata 14 = .ok (.aload_n 0, 1) := by decide +kernel
theorem dX11_weighErrata_15 : decode cX11_weighErrata 15 = .ok (.getfield 95, 3) := by decide +kernel
theorem dX11_weighErrata_18 : decode cX11_weighErrata 18 = .ok (.aload_n 0, 1) := by decide +kernel
theorem dX11_weighErrata_19 : decode cX11_weighErrata 19 = .ok (.getfield 30, 3) := by decide +kernel
theorem dX11_weighErrata_22 : decode cX11_weighErrata 22 = .ok (.getfield 151, 3) := by decide +kernel
theorem dX11_weighErrata_25 : decode cX11_weighErrata 25 = .ok (.iload_n 1, 1) := by decide +kernel
theorem dX11_weighErrata_26 : decode cX11_weighErrata 26 = .ok (.iconst 0, 1) := by decide +kernel
theorem dX11_weighErrata_27 : decode cX11_weighErrata 27 = .ok (.invokevirtual 336, 3) := by decide +kernel
theorem dX11_weighErrata_30 : decode cX11_weighErrata 30 = .ok (.ireturn, 1) := by decide +kernel
theorem dX11_lost_0 : decode cX11_lost 0 = .ok (.aload_n 0, 1) := by decide +kernel
theorem dX11_lost_1 : decode cX11_lost 1 = .ok (.iload_n 1, 1) := by decide +kernel
theorem dX11_lost_2 : decode cX11_lost 2 = .ok (.invokevirtual 340, 3) := by decide +kernel
theorem dX11_lost_5 : decode cX11_lost 5 = .ok (.istore_n 2, 1) := by decide +kernel
theorem dX11_lost_6 : decode cX11_lost 6 = .ok (.iload_n 2, 1) := by decide +kernel
theorem dX11_lost_7 : decode cX11_lost 7 = .ok (.ifCond .eq 6, 3) := by decide +kernel
theorem dX11_lost_10 : decode cX11_lost 10 = .ok (.iload_n 2, 1) := by decide +kernel
theorem dX11_lost_11 : decode cX11_lost 11 = .ok (.i2l, 1) := by decide +kernel
theorem dX11_lost_12 : decode cX11_lost 12 = .ok (.lreturn, 1) := by decide +kernel
theorem dX11_lost_13 : decode cX11_lost 13 = .ok (.aload_n 0, 1) := by decide +kernel
theorem dX11_lost_14 : decode cX11_lost 14 = .ok (.getfield 79, 3) := by decide +kernel
theorem dX11_lost_17 : decode cX11_lost 17 = .ok (.aload_n 0, 1) := by decide +kernel
theorem dX11_lost_18 : decode cX11_lost 18 = .ok (.getfield 30, 3) := by decide +kernel
theorem dX11_lost_21 : decode cX11_lost 21 = .ok (.getfield 139, 3) := by decide +kernel
theorem dX11_lost_24 : decode cX11_lost 24 = .ok (.invokevirtual 273, 3) := by decide +kernel
theorem dX11_lost_27 : decode cX11_lost 27 = .ok (.aload_n 0, 1) := by decide +kernel
theorem dX11_lost_28 : decode cX11_lost 28 = .ok (.getfield 95, 3) := by decide +kernel
theorem dX11_lost_31 : decode cX11_lost 31 = .ok (.aload_n 0, 1) := by decide +kernel
theorem dX11_lost_32 : decode cX11_lost 32 = .ok (.getfield 30, 3) := by decide +kernel
theorem dX11_lost_35 : decode cX11_lost 35 = .ok (.getfield 151, 3) := by decide +kernel
theorem dX11_lost_38 : decode cX11_lost 38 = .ok (.iconst (-1), 1) := by decide +kernel
theorem dX11_lost_39 : decode cX11_lost 39 = .ok (.invokevirtual 277, 3) := by decide +kernel
theorem dX11_lost_42 : decode cX11_lost 42 = .ok (.lreturn, 1) := by decide +kernel
section
variable {sh : mbSh} {ct c : mbCt} {b : Int} {β : Bk} {s : Sit} {q : Int} {N : Nat} {V : Int}
theorem CY.cnt (Y : CY sh ct b β s q N V) (h : CRes ct b β s.2.2 c) : CY sh c b β s q N V ∧ kF q ct c := by
  obtain ⟨e, hM, hZ, h8, h9, hk⟩ := h
  have hq := Y.x.qc
  have k : kF q ct c := (e.bq).mono (by decide)
  have hK := Y.2.2.2.1
  have hv := Y.2.2.2.2.2.1
  have f : ∀ x : Int, x ∉ ([68, 69, 72, 73, 75, 76, 80, 83, 84, 85, 86] : List Int) → c x = ct x := e
  have e70 : c 70 = ct 70 := f 70 (by decide)
  have eq : c q = ct q := f q (by rcases hq with h | h <;> simp <;> omega)
  obtain ⟨l1, ⟨z, z1, z2, z3⟩, l3, l4, l5, l6, l7⟩ := hK.2.2.2.2
  refine ⟨Y.k k ⟨hM, hK.2.1, hK.2.2.1.mv (f 77 (by decide)) eq (f 79 (by decide)) e70, hK.2.2.2.1.cg e70 (f 87 (by decide)) (f 88 (by decide)) (f 89 (by decide)), hZ, ⟨z, by rw [hk 2 (by decide) (by decide) (by decide) (by decide)]; exact z1, z2, fun hh => ?_⟩, by rw [f 81 (by decide)]; exact l3, Or.inr h8, by rw [h9, e70]; omega, by rw [hk 10 (by decide) (by decide) (by decide) (by decide)]; exact l6, by rw [hk 11 (by decide) (by decide) (by decide) (by decide)]; exact l7⟩ (by rw [e70]), k⟩
  rw [h9, e70] at hh
  omega
/-- the told row is weighed -/
def WE (c : mbCt) (β : Bk) (s : Sit) (tone str : Int) (sz : Nat) (tl : Int → Int) : Prop := c 81 = tl ∧ c 80 2 = sz ∧ c 80 8 = str ∧ c 80 10 = s.1 ∧ c 80 11 = tone ∧ WG c β s.2.2 sz
theorem CY.wgh {tone str : Int} {z0 : Nat} (Y : CY sh ct b β s q N V) (hz0 : ct 80 2 = z0) (t0 : -1 ≤ tone) (t1 : tone ≤ 10) (hs : str = 0 ∨ str = 1) (h : WgRes ct b β s.2.2 s.1 tone str z0 c) : (WE c β s tone str z0 (ct 81) ∧ CY sh c b β s q N V) ∧ kF q ct c := by
  obtain ⟨e, hM, hk, h8, h9, h10, h11, hW⟩ := h
  have hq := Y.x.qc
  have k : kF q ct c := (e.bq).mono (by decide)
  have hK := Y.2.2.2.1
  have hv := Y.2.2.2.2.2.1
  have hrg := Y.2.2.1.1.1
  have f : ∀ x : Int, x ∉ ([68, 69, 72, 73, 75, 76, 80, 82, 83, 84] : List Int) → c x = ct x := e
  have e70 : c 70 = ct 70 := f 70 (by decide)
  have eq : c q = ct q := f q (by rcases hq with h | h <;> simp <;> omega)
  obtain ⟨l1, ⟨z, z1, z2, z3⟩, l3, l4, l5, l6, l7⟩ := hK.2.2.2.2
  have h2 : c 80 2 = z0 := by rw [hk 2 (by decide) (by decide) (by decide) (by decide)]; exact hz0
  refine ⟨⟨⟨f 81 (by decide), h2, h8, h10, h11, hW⟩, Y.k k ⟨hM, hK.2.1, hK.2.2.1.mv (f 77 (by decide)) eq (f 79 (by decide)) e70, hK.2.2.2.1.cg e70 (f 87 (by decide)) (f 88 (by decide)) (f 89 (by decide)), ?_, ⟨z0, h2, by omega, fun _ => hW⟩, by rw [f 81 (by decide)]; exact l3, by rw [h8]; exact hs, by rw [h9, e70]; omega, by rw [h10]; exact hrg, by rw [h11]; omega⟩ (by rw [e70])⟩, k⟩
  unfold LZ
  rw [hk 6 (by decide) (by decide) (by decide) (by decide), hk 7 (by decide) (by decide) (by decide) (by decide), f 85 (by decide), f 86 (by decide)]
  exact l1
theorem okN_to {lost u : Int} (h : okN β lost u) : toldOk β u := by
  rcases h with h | h
  · exact Or.inr h
  · exact Or.inl h.2
end
section
variable (d : Nat) (sh : mbSh) (ct : mbCt) {b : Int} {β : Bk} {s : Sit} {q : Int} {N : Nat} {V : Int} {sz bt : Int → Int} {vl : Int → Int → Int}
theorem x_countRows {tone : Int} {z : Nat} (S : SH sh) (Y : CY sh ct b β s q N V) (t0 : -1 ≤ tone) (t1 : tone ≤ 10) (hz : ct 80 2 = z) (hz1 : z ≤ 10) (hto : ∀ i : Nat, i < z → toldOk β (ct 81 i)) : Mt YX3_countRows (d + 5) [.inr (.inr 80), .inl s.1, .inl tone] sh sh ct (pL fun r c => r = cW β s.2.2 tone (ct 81) z z s.1 ∧ CY sh c b β s q N V ∧ kF q ct c) := by
  have hrg := Y.2.2.1.1.1
  have hK := Y.2.2.2.1
  refine Mt.imp (c_countRows d sh ct S hK.1 hK.2.2.2.2.1 hrg.1 hrg.2 t0 t1 hz hz1 hto) ?_
  rintro r c ⟨x, rfl, h1, h2⟩
  exact ⟨_, rfl, h1, Y.cnt h2⟩
theorem x_weigh {tone str : Int} {z : Nat} (S : SH sh) (Y : CY sh ct b β s q N V) (t0 : -1 ≤ tone) (t1 : tone ≤ 10) (hs : str = 0 ∨ str = 1) (hz : ct 80 2 = z) (hto : ∀ i : Nat, i < z → toldOk β (ct 81 i)) : Mt YX3_weigh (d + 5) [.inr (.inr 80), .inl s.1, .inl tone, .inl str] sh sh ct (pI fun r c => r = (if eW str β s.2.2 tone (ct 81) z z s.1 = 100 then -1 else eW str β s.2.2 tone (ct 81) z z s.1) ∧ (WE c β s tone str z (ct 81) ∧ CY sh c b β s q N V) ∧ kF q ct c) := by
  have hrg := Y.2.2.1.1.1
  have hK := Y.2.2.2.1
  have hv := Y.2.2.2.2.2
  obtain ⟨l1, ⟨z', z1, z2, z3⟩, l3, l4, l5, l6, l7⟩ := hK.2.2.2.2
  have hzz : z' = z := by omega
  subst hzz
  refine Mt.imp (c_weigh d sh ct S hK.1 hrg.1 hrg.2 t0 t1 hs hz z2 hto l4 (by omega) l6 l7 z3) ?_
  rintro r c ⟨x, rfl, h1, h2⟩
  exact ⟨_, rfl, h1, Y.wgh hz t0 t1 hs h2⟩
theorem x_rows {tone n : Int} (S : SH sh) (X : CX sh ct b β s q N V) (hV : V + 1 < 900000) (ht : i32 tone) (hn : i32 n) : Mt YX11_rows (d + 6) [.inr (.inr 0), .inl tone, .inl n] sh sh ct (pL fun r c => qRows β s.2.2 s.1 tone n r ∧ CX sh c b β s q N (V + 1) ∧ kF q ct c) := by
  have L := X.L
  unfold i32 at hn
  have wn := w32_id hn.1 hn.2
  generalize hP : (pL fun r c => qRows β s.2.2 s.1 tone n r ∧ CX sh c b β s q N (V + 1) ∧ kF q ct c) = Po
  have bad : ¬ (isTn tone ∧ 0 ≤ n ∧ n ≤ 10) → G (mkK YX11_rows (d + 6) sh sh Po) 17 [some (.inr (.inr 0)), some (.inl tone), some (.inl n), none] [] sh ct := by
    intro h
    refine g_ldc2 (q := 20) dX11_rows_17 kX11_264 rfl ?_
    refine g_lreturn dX11_rows_20 rfl ?_
    rw [← hP]
    exact ⟨_, rfl, Or.inr ⟨h, rfl⟩, X.up (by omega) hV, kF.rf⟩
  refine Mt.of rfl (Nat.le_of_ble_eq_true rfl) ?_
  show G _ 0 [some (.inr (.inr 0)), some (.inl tone), some (.inl n), none] [] sh ct
  refine g_iload_n (q := 1) dX11_rows_0 rfl rfl ?_
  refine g_callS (q := 4) lX11_252 mX11_isTone sX11_isTone rfl (x_isTone (d + 5) sh _ ht) shLe.rf (rmOk.mk (by omega) (by first | exact shLe.rf | assumption)) (Nat.le_of_ble_eq_true rfl) dX11_rows_1 rfl rfl (kI fun r_ c_ hp => ?_)
  obtain ⟨hr, hq⟩ := hp
  replace hr := hr.symm
  replace hq := hq.symm
  subst hr hq
  refine g_if_eq (q := 7) (tg := 17) dX11_rows_4 (by decide) rfl (fun c_4 => ?_) (fun c_4 => ?_)
  · exact bad (fun z => wb0.mp c_4 z.1)
  · have htn := wbn.mp c_4
    refine g_iload_n (q := 8) dX11_rows_7 rfl rfl ?_
    refine g_if_lt (q := 11) (tg := 17) dX11_rows_8 (by decide) rfl (fun c_8 => ?_) (fun c_8 => ?_)
    · exact bad (fun z => by omega)
    · refine g_iload_n (q := 12) dX11_rows_11 rfl rfl ?_
      refine g_bipush (q := 14) dX11_rows_12 (by decide +kernel) rfl ?_
      refine g_icmp_le (q := 17) (tg := 21) dX11_rows_14 (by decide) rfl (fun c_14 => ?_) (fun c_14 => ?_)
      · have hn0 : 0 ≤ n := by omega
        have hn1 : n ≤ 10 := by unfold w32 at c_14; omega
        refine g_aload_n (q := 22) dX11_rows_21 rfl rfl ?_
        refine g_getO (q := 25) (kI := 13) fX11_95 (by first | assumption | exact S.at _ rfl) dX11_rows_22 rfl rfl (by first | assumption | exact L.at _ _ rfl | exact LK.at (by assumption) _ _ rfl | ((repeat first | rewrite [wr_na (by decide)] | rewrite [wr_nk (by decide)] | rewrite [wa_na (by decide)]); first | assumption | exact LK.at (by assumption) _ _ rfl) | exact rfl) ?_
        refine g_iload_n (q := 26) dX11_rows_25 rfl rfl ?_
        refine g_callV (q := 29) lX11_266 mX3_tellSize nX3_tellSize rfl (x_tellSize (d + 5) sh _ S X hn0 (by omega)) (by first | assumption | exact S.at _ rfl) rfl rfl shLe.rf (rmOk.mk (by omega) (by first | exact shLe.rf | assumption)) (Nat.le_of_ble_eq_true rfl) dX11_rows_26 rfl rfl (kN fun c1 hp => ?_)
        obtain ⟨g1, X1, f1⟩ := hp
        refine g_iconst (q := 30) dX11_rows_29 rfl ?_
        refine s_istore_n_4_3 (q := 31) dX11_rows_30 rfl rfl rfl ?_
        refine g_for (fun i => [some (.inr (.inr 0)), some (.inl tone), some (.inl n), some (.inl i)]) (fun i c => 0 ≤ i ∧ CX sh c b β s q N V ∧ kF q ct c ∧ c 80 2 = n ∧ ∀ j, 0 ≤ j → j < i → c 81 j = -1) n ?_ ?_ (i := 0) hn0 ⟨by omega, X1, f1, g1, fun j _ _ => by omega⟩ (by simp [lsSub])
        · rintro i c hi ⟨i0, X2, f2, g2, hv⟩ kk
          have L2 := X2.L
          refine g_iload_n (q := 32) dX11_rows_31 rfl rfl ?_
          refine g_iload_n (q := 33) dX11_rows_32 rfl rfl ?_
          refine g_icmp_ge (q := 36) (tg := 51) dX11_rows_33 (by decide) rfl (fun c_33 => ?_) (fun c_33 => ?_)
          · exact absurd c_33 (by unfold w32; omega)
          · refine g_aload_n (q := 37) dX11_rows_36 rfl rfl ?_
            refine g_getO (q := 40) (kI := 13) fX11_95 (by first | assumption | exact S.at _ rfl) dX11_rows_37 rfl rfl (by first | assumption | exact L.at _ _ rfl | exact LK.at (by assumption) _ _ rfl | ((repeat first | rewrite [wr_na (by decide)] | rewrite [wr_nk (by decide)] | rewrite [wa_na (by decide)]); first | assumption | exact LK.at (by assumption) _ _ rfl) | exact rfl) ?_
            refine g_iload_n (q := 41) dX11_rows_40 rfl rfl ?_
            refine g_iconst (q := 42) dX11_rows_41 rfl ?_
            refine g_callV (q := 45) lX11_269 mX3_tell nX3_tell rfl (x_tell (d + 5) sh _ S X2 i0 hi g2 (by omega) (by decide) (by decide)) (by first | assumption | exact S.at _ rfl) rfl rfl shLe.rf (rmOk.mk (by omega) (by first | exact shLe.rf | assumption)) (Nat.le_of_ble_eq_true rfl) dX11_rows_42 rfl rfl (kN fun c3 hp => ?_)
            obtain ⟨⟨k1, k2, k3⟩, X3, f3⟩ := hp
            refine s_iinc_4_3 (q := 48) dX11_rows_45 rfl rfl rfl ?_
            refine g_goto (q := 31) dX11_rows_48 (by decide) ?_
            refine kk _ _ (by simp [lsSub]) ⟨by omega, X3, f2.tr f3, k1, fun j j0 j1 => ?_⟩
            by_cases hj : j = i
            · rw [hj, k2]
            · rw [k3 j hj]
              exact hv j j0 (by omega)
        · rintro c ⟨-, X2, f2, g2, hv⟩
          have L2 := X2.L
          refine g_iload_n (q := 32) dX11_rows_31 rfl rfl ?_
          refine g_iload_n (q := 33) dX11_rows_32 rfl rfl ?_
          refine g_icmp_ge (q := 36) (tg := 51) dX11_rows_33 (by decide) rfl (fun c_33 => ?_) (fun c_33 => ?_)
          · refine g_aload_n (q := 52) dX11_rows_51 rfl rfl ?_
            refine g_getO (q := 55) (kI := 11) fX11_79 (by first | assumption | exact S.at _ rfl) dX11_rows_52 rfl rfl (by first | assumption | exact L.at _ _ rfl | exact LK.at (by assumption) _ _ rfl | ((repeat first | rewrite [wr_na (by decide)] | rewrite [wr_nk (by decide)] | rewrite [wa_na (by decide)]); first | assumption | exact LK.at (by assumption) _ _ rfl) | exact rfl) ?_
            refine g_aload_n (q := 56) dX11_rows_55 rfl rfl ?_
            refine g_getO (q := 59) (kI := 4) fX11_30 (by first | assumption | exact S.at _ rfl) dX11_rows_56 rfl rfl (by first | assumption | exact L.at _ _ rfl | exact LK.at (by assumption) _ _ rfl | ((repeat first | rewrite [wr_na (by decide)] | rewrite [wr_nk (by decide)] | rewrite [wa_na (by decide)]); first | assumption | exact LK.at (by assumption) _ _ rfl) | exact rfl) ?_
            refine g_getA (q := 62) (kI := 2) fX11_139 (by first | assumption | exact S.at _ rfl) dX11_rows_59 rfl rfl (by first | assumption | exact L.at _ _ rfl | exact LK.at (by assumption) _ _ rfl | ((repeat first | rewrite [wr_na (by decide)] | rewrite [wr_nk (by decide)] | rewrite [wa_na (by decide)]); first | assumption | exact LK.at (by assumption) _ _ rfl) | exact rfl) ?_
            refine g_callV (q := 65) lX11_273 mX4_heed nX4_heed rfl (x_heedE (d + 4) sh _ S X2 hV) (by first | assumption | exact S.at _ rfl) rfl rfl shLe.rf (rmOk.mk (by omega) (by first | exact shLe.rf | assumption)) (Nat.le_of_ble_eq_true rfl) dX11_rows_62 rfl rfl (kN fun c3 hp => ?_)
            obtain ⟨⟨Y, f3⟩, e3⟩ := hp
            have L3 := Y.x.L
            have e81 : c3 81 = c 81 := e3 81 (by decide)
            have e80 : c3 80 = c 80 := e3 80 (by decide)
            have hst : c3 12 0 = s.1 := Y.2.1.1
            refine g_aload_n (q := 66) dX11_rows_65 rfl rfl ?_
            refine g_getO (q := 69) (kI := 13) fX11_95 (by first | assumption | exact S.at _ rfl) dX11_rows_66 rfl rfl (by first | assumption | exact L.at _ _ rfl | exact LK.at (by assumption) _ _ rfl | ((repeat first | rewrite [wr_na (by decide)] | rewrite [wr_nk (by decide)] | rewrite [wa_na (by decide)]); first | assumption | exact LK.at (by assumption) _ _ rfl) | exact rfl) ?_
            refine g_aload_n (q := 70) dX11_rows_69 rfl rfl ?_
            refine g_getO (q := 73) (kI := 4) fX11_30 (by first | assumption | exact S.at _ rfl) dX11_rows_70 rfl rfl (by first | assumption | exact L.at _ _ rfl | exact LK.at (by assumption) _ _ rfl | ((repeat first | rewrite [wr_na (by decide)] | rewrite [wr_nk (by decide)] | rewrite [wa_na (by decide)]); first | assumption | exact LK.at (by assumption) _ _ rfl) | exact rfl) ?_
            refine g_getI (q := 76) (kI := 0) fX11_151 (by first | assumption | exact S.at _ rfl) dX11_rows_73 rfl rfl ?_
            rw [hst]
            refine g_iload_n (q := 77) dX11_rows_76 rfl rfl ?_
            refine g_callV (q := 80) lX11_277 mX3_countRows nX3_countRows rfl (x_countRows d sh _ S Y htn.1 (by have := htn.2; omega) (z := n.toNat) (by rw [e80]; omega) (by omega) (fun i hi => Or.inl (by rw [e81]; exact hv i (by omega) (by omega)))) (by first | assumption | exact S.at _ rfl) rfl rfl shLe.rf (rmOk.mk (by omega) (by first | exact shLe.rf | assumption)) (Nat.le_of_ble_eq_true rfl) dX11_rows_77 rfl rfl (kL fun r c4 hp => ?_)
            obtain ⟨h1, h2, h3⟩ := hp
            refine g_lreturn dX11_rows_80 rfl ?_
            rw [← hP]
            refine ⟨_, rfl, Or.inl ⟨htn, ⟨hn0, hn1⟩, ?_⟩, h2.x, (f2.tr f3).tr h3⟩
            rw [h1, e81]
            exact cW_cong (Nat.le_refl _) (fun j _ hj => hv j (by omega) (by omega))
          · exact absurd c_33 (Int.lt_irrefl _)
      · exact bad (fun z => by unfold w32 at c_14; omega)
theorem x_baulk {t : Int} (S : SH sh) (X : CX sh ct b β s q N V) (hV : V + 1 < 900000) (T : TC ct sz bt vl) (ht : i32 t) : Mt YX11_baulk (d + 5) [.inr (.inr 0), .inl t] sh sh ct (pI fun r c => (∃ tl, told sz vl t tl ∧ ∃ no, rowR β sz vl t 12 0 no ∧ ((no ≠ 0 ∧ r = no) ∨ (no = 0 ∧ r = fbS β s.2.2 tl (sz t).toNat (sz t).toNat s.1))) ∧ CX sh c b β s q N (V + 1) ∧ kF q ct c) := by
  have hrg := X.2.2.1.1.1
  refine Mt.of rfl (Nat.le_of_ble_eq_true rfl) ?_
  show G _ 0 [some (.inr (.inr 0)), some (.inl t), none] [] sh ct
  refine g_aload_n (q := 1) dX11_baulk_0 rfl rfl ?_
  refine g_iload_n (q := 2) dX11_baulk_1 rfl rfl ?_
  refine g_callV (q := 5) lX11_317 mX11_refusedMinutes nX11_refusedMinutes rfl (x_refusedMinutes (d + 1) sh _ S X T ht) (by first | assumption | exact S.at _ rfl) rfl rfl shLe.rf (rmOk.mk (by omega) (by first | exact shLe.rf | assumption)) (Nat.le_of_ble_eq_true rfl) dX11_baulk_2 rfl rfl (kI fun no c1 hp => ?_)
  obtain ⟨hR, hT, X1, f1⟩ := hp
  have L1 := X1.L
  have hno := hR.rg
  refine s_istore_n_3_2 (q := 6) dX11_baulk_5 rfl rfl rfl ?_
  refine g_iload_n (q := 7) dX11_baulk_6 rfl rfl ?_
  refine g_if_eq (q := 10) (tg := 12) dX11_baulk_7 (by decide) rfl (fun c_7 => ?_) (fun c_7 => ?_)
  · have h0 : no = 0 := by unfold w32 at c_7; omega
    obtain ⟨g1, g2⟩ := hT h0
    obtain ⟨o1, o2, o3⟩ := (show rowOk β sz vl t 12 0 from rowR.zero (by have z := hR; rw [h0] at z; exact z))
    refine g_aload_n (q := 13) dX11_baulk_12 rfl rfl ?_
    refine g_getO (q := 16) (kI := 11) fX11_79 (by first | assumption | exact S.at _ rfl) dX11_baulk_13 rfl rfl (by first | assumption | exact L.at _ _ rfl | exact LK.at (by assumption) _ _ rfl | ((repeat first | rewrite [wr_na (by decide)] | rewrite [wr_nk (by decide)] | rewrite [wa_na (by decide)]); first | assumption | exact LK.at (by assumption) _ _ rfl) | exact rfl) ?_
    refine g_aload_n (q := 17) dX11_baulk_16 rfl rfl ?_
    refine g_getO (q := 20) (kI := 4) fX11_30 (by first | assumption | exact S.at _ rfl) dX11_baulk_17 rfl rfl (by first | assumption | exact L.at _ _ rfl | exact LK.at (by assumption) _ _ rfl | ((repeat first | rewrite [wr_na (by decide)] | rewrite [wr_nk (by decide)] | rewrite [wa_na (by decide)]); first | assumption | exact LK.at (by assumption) _ _ rfl) | exact rfl) ?_
    refine g_getA (q := 23) (kI := 2) fX11_139 (by first | assumption | exact S.at _ rfl) dX11_baulk_20 rfl rfl (by first | assumption | exact L.at _ _ rfl | exact LK.at (by assumption) _ _ rfl | ((repeat first | rewrite [wr_na (by decide)] | rewrite [wr_nk (by decide)] | rewrite [wa_na (by decide)]); first | assumption | exact LK.at (by assumption) _ _ rfl) | exact rfl) ?_
    refine g_callV (q := 26) lX11_273 mX4_heed nX4_heed rfl (x_heedE (d + 3) sh _ S X1 hV) (by first | assumption | exact S.at _ rfl) rfl rfl shLe.rf (rmOk.mk (by omega) (by first | exact shLe.rf | assumption)) (Nat.le_of_ble_eq_true rfl) dX11_baulk_23 rfl rfl (kN fun c3 hp => ?_)
    obtain ⟨⟨Y, f3⟩, e3⟩ := hp
    have L3 := Y.x.L
    have e81 : c3 81 = c1 81 := e3 81 (by decide)
    have e80 : c3 80 = c1 80 := e3 80 (by decide)
    have hst : c3 12 0 = s.1 := Y.2.1.1
    refine g_aload_n (q := 27) dX11_baulk_26 rfl rfl ?_
    refine g_getO (q := 30) (kI := 13) fX11_95 (by first | assumption | exact S.at _ rfl) dX11_baulk_27 rfl rfl (by first | assumption | exact L.at _ _ rfl | exact LK.at (by assumption) _ _ rfl | ((repeat first | rewrite [wr_na (by decide)] | rewrite [wr_nk (by decide)] | rewrite [wa_na (by decide)]); first | assumption | exact LK.at (by assumption) _ _ rfl) | exact rfl) ?_
    refine g_aload_n (q := 31) dX11_baulk_30 rfl rfl ?_
    refine g_getO (q := 34) (kI := 4) fX11_30 (by first | assumption | exact S.at _ rfl) dX11_baulk_31 rfl rfl (by first | assumption | exact L.at _ _ rfl | exact LK.at (by assumption) _ _ rfl | ((repeat first | rewrite [wr_na (by decide)] | rewrite [wr_nk (by decide)] | rewrite [wa_na (by decide)]); first | assumption | exact LK.at (by assumption) _ _ rfl) | exact rfl) ?_
    refine g_getI (q := 37) (kI := 0) fX11_151 (by first | assumption | exact S.at _ rfl) dX11_baulk_34 rfl rfl ?_
    rw [hst]
    refine g_callV (q := 40) lX11_320 mX3_firstBaulk nX3_firstBaulk rfl (c_firstBaulk d sh _ S Y.2.2.2.1.1 (sz := (sz t).toNat) (by rw [e80]; omega) (by omega) (fun i hi => by rw [e81, g2 i (by omega)]; exact okN_to (o3 i (by omega) (by omega))) hrg.1 hrg.2) (by first | assumption | exact S.at _ rfl) rfl rfl shLe.rf (rmOk.mk (by omega) (by first | exact shLe.rf | assumption)) (Nat.le_of_ble_eq_true rfl) dX11_baulk_37 rfl rfl (kI fun r c4 hp => ?_)
    obtain ⟨h1, m⟩ := hp
    refine g_ireturn dX11_baulk_40 rfl ?_
    exact ⟨_, rfl, ⟨c3 81, by rw [e81]; exact g2, no, hR, Or.inr ⟨h0, h1⟩⟩, (Y.mvt m).x, (f1.tr f3).tr m.k⟩
  · have h0 : no ≠ 0 := fun z => c_7 (by rw [z]; rfl)
    refine g_iload_n (q := 11) dX11_baulk_10 rfl rfl ?_
    refine g_ireturn dX11_baulk_11 rfl ?_
    exact ⟨_, rfl, ⟨fun i => vl t i, fun i _ => rfl, no, hR, Or.inl ⟨h0, rfl⟩⟩, X1.up (by omega) hV, f1⟩
theorem x_refusedErrata {t tone i : Int} (S : SH sh) (X : CX sh ct b β s q N V) (T : TC ct sz bt vl) (ht : i32 t) (hto : i32 tone) (hi : i32 i) : Mt YX11_refusedErrata (d + 4) [.inr (.inr 0), .inl t, .inl tone, .inl i] sh sh ct (pI fun r c => (∃ no, rowR β sz vl t 12 0 no ∧ (no = 0 → RT c sz vl t) ∧ ((no ≠ 0 ∧ r = no) ∨ (no = 0 ∧ r = if isTn tone ∧ 0 ≤ i then 0 else -3))) ∧ CX sh c b β s q N V ∧ kF q ct c) := by
  unfold i32 at hi
  have wi := w32_id hi.1 hi.2
  generalize hP : (pI fun r c => (∃ no, rowR β sz vl t 12 0 no ∧ (no = 0 → RT c sz vl t) ∧ ((no ≠ 0 ∧ r = no) ∨ (no = 0 ∧ r = if isTn tone ∧ 0 ≤ i then 0 else -3))) ∧ CX sh c b β s q N V ∧ kF q ct c) = Po
  refine Mt.of rfl (Nat.le_of_ble_eq_true rfl) ?_
  show G _ 0 [some (.inr (.inr 0)), some (.inl t), some (.inl tone), some (.inl i), none] [] sh ct
  refine g_aload_n (q := 1) dX11_refusedErrata_0 rfl rfl ?_
  refine g_iload_n (q := 2) dX11_refusedErrata_1 rfl rfl ?_
  refine g_callV (q := 5) lX11_317 mX11_refusedMinutes nX11_refusedMinutes rfl (x_refusedMinutes d sh _ S X T ht) (by first | assumption | exact S.at _ rfl) rfl rfl shLe.rf (rmOk.mk (by omega) (by first | exact shLe.rf | assumption)) (Nat.le_of_ble_eq_true rfl) dX11_refusedErrata_2 rfl rfl (kI fun no c1 hp => ?_)
  obtain ⟨hR, hT, X1, f1⟩ := hp
  have hno := hR.rg
  refine s_istore_5_4 (q := 7) dX11_refusedErrata_5 rfl rfl rfl ?_
  refine g_iload (q := 9) dX11_refusedErrata_7 rfl rfl ?_
  refine g_if_ne (q := 12) (tg := 27) dX11_refusedErrata_9 (by decide) rfl (fun c_9 => ?_) (fun c_9 => ?_)
  · have h0 : no ≠ 0 := fun z => c_9 (by rw [z]; rfl)
    refine g_iload (q := 29) dX11_refusedErrata_27 rfl rfl ?_
    refine g_ireturn dX11_refusedErrata_29 rfl ?_
    rw [← hP]
    exact ⟨_, rfl, ⟨no, hR, hT, Or.inl ⟨h0, rfl⟩⟩, X1, f1⟩
  · have h0 : no = 0 := by unfold w32 at c_9; omega
    refine g_iload_n (q := 13) dX11_refusedErrata_12 rfl rfl ?_
    refine g_callS (q := 16) lX11_252 mX11_isTone sX11_isTone rfl (x_isTone (d + 3) sh _ hto) shLe.rf (rmOk.mk (by omega) (by first | exact shLe.rf | assumption)) (Nat.le_of_ble_eq_true rfl) dX11_refusedErrata_13 rfl rfl (kI fun r_ c_ hp => ?_)
    obtain ⟨hr, hq⟩ := hp
    replace hr := hr.symm
    replace hq := hq.symm
    subst hr hq
    have bad : ¬ (isTn tone ∧ 0 ≤ i) → G (mkK YX11_refusedErrata (d + 4) sh sh Po) 23 [some (.inr (.inr 0)), some (.inl t), some (.inl tone), some (.inl i), some (.inl no)] [] sh c1 := by
      intro h
      refine g_bipush (q := 25) dX11_refusedErrata_23 (by decide +kernel) rfl ?_
      refine s_istore_5_4 (q := 27) dX11_refusedErrata_25 rfl rfl rfl ?_
      refine g_iload (q := 29) dX11_refusedErrata_27 rfl rfl ?_
      refine g_ireturn dX11_refusedErrata_29 rfl ?_
      rw [← hP]
      exact ⟨_, rfl, ⟨no, hR, hT, Or.inr ⟨h0, by rw [if_neg h]⟩⟩, X1, f1⟩
    refine g_if_eq (q := 19) (tg := 23) dX11_refusedErrata_16 (by decide) rfl (fun c_16 => ?_) (fun c_16 => ?_)
    · exact bad (fun z => wb0.mp c_16 z.1)
    · refine g_iload_n (q := 20) dX11_refusedErrata_19 rfl rfl ?_
      refine g_if_ge (q := 23) (tg := 27) dX11_refusedErrata_20 (by decide) rfl (fun c_20 => ?_) (fun c_20 => ?_)
      · refine g_iload (q := 29) dX11_refusedErrata_27 rfl rfl ?_
        refine g_ireturn dX11_refusedErrata_29 rfl ?_
        rw [← hP]
        exact ⟨_, rfl, ⟨no, hR, hT, Or.inr ⟨h0, by rw [if_pos ⟨wbn.mp c_16, by omega⟩]; exact h0⟩⟩, X1, f1⟩
      · exact bad (fun z => by omega)
theorem x_weighErrata {t tone : Int} (S : SH sh) (X : CX sh ct b β s q N V) (hV : V + 1 < 900000) (t0 : -1 ≤ tone) (t1 : tone ≤ 10) (hR : rowOk β sz vl t 12 0) (hT : RT ct sz vl t) : Mt YX11_weighErrata (d + 6) [.inr (.inr 0), .inl tone] sh sh ct (pI fun r c => (r = errV β s.2.2 tone (ct 81) (sz t).toNat s.1 ∧ WE c β s tone 0 (sz t).toNat (ct 81)) ∧ CY sh c b β s q N (V + 1) ∧ kF q ct c) := by
  have L := X.L
  obtain ⟨o1, o2, o3⟩ := hR
  obtain ⟨g1, g2⟩ := hT
  refine Mt.of rfl (Nat.le_of_ble_eq_true rfl) ?_
  show G _ 0 [some (.inr (.inr 0)), some (.inl tone)] [] sh ct
  refine g_aload_n (q := 1) dX11_weighErrata_0 rfl rfl ?_
  refine g_getO (q := 4) (kI := 11) fX11_79 (by first | assumption | exact S.at _ rfl) dX11_weighErrata_1 rfl rfl (by first | assumption | exact L.at _ _ rfl | exact LK.at (by assumption) _ _ rfl | ((repeat first | rewrite [wr_na (by decide)] | rewrite [wr_nk (by decide)] | rewrite [wa_na (by decide)]); first | assumption | exact LK.at (by assumption) _ _ rfl) | exact rfl) ?_
  refine g_aload_n (q := 5) dX11_weighErrata_4 rfl rfl ?_
  refine g_getO (q := 8) (kI := 4) fX11_30 (by first | assumption | exact S.at _ rfl) dX11_weighErrata_5 rfl rfl (by first | assumption | exact L.at _ _ rfl | exact LK.at (by assumption) _ _ rfl | ((repeat first | rewrite [wr_na (by decide)] | rewrite [wr_nk (by decide)] | rewrite [wa_na (by decide)]); first | assumption | exact LK.at (by assumption) _ _ rfl) | exact rfl) ?_
  refine g_getA (q := 11) (kI := 2) fX11_139 (by first | assumption | exact S.at _ rfl) dX11_weighErrata_8 rfl rfl (by first | assumption | exact L.at _ _ rfl | exact LK.at (by assumption) _ _ rfl | ((repeat first | rewrite [wr_na (by decide)] | rewrite [wr_nk (by decide)] | rewrite [wa_na (by decide)]); first | assumption | exact LK.at (by assumption) _ _ rfl) | exact rfl) ?_
  refine g_callV (q := 14) lX11_273 mX4_heed nX4_heed rfl (x_heedE (d + 4) sh _ S X hV) (by first | assumption | exact S.at _ rfl) rfl rfl shLe.rf (rmOk.mk (by omega) (by first | exact shLe.rf | assumption)) (Nat.le_of_ble_eq_true rfl) dX11_weighErrata_11 rfl rfl (kN fun c3 hp => ?_)
  obtain ⟨⟨Y, f3⟩, e3⟩ := hp
  have L3 := Y.x.L
  have e81 : c3 81 = ct 81 := e3 81 (by decide)
  have e80 : c3 80 = ct 80 := e3 80 (by decide)
  have hst : c3 12 0 = s.1 := Y.2.1.1
  refine g_aload_n (q := 15) dX11_weighErrata_14 rfl rfl ?_
  refine g_getO (q := 18) (kI := 13) fX11_95 (by first | assumption | exact S.at _ rfl) dX11_weighErrata_15 rfl rfl (by first | assumption | exact L.at _ _ rfl | exact LK.at (by assumption) _ _ rfl | ((repeat first | rewrite [wr_na (by decide)] | rewrite [wr_nk (by decide)] | rewrite [wa_na (by decide)]); first | assumption | exact LK.at (by assumption) _ _ rfl) | exact rfl) ?_
  refine g_aload_n (q := 19) dX11_weighErrata_18 rfl rfl ?_
  refine g_getO (q := 22) (kI := 4) fX11_30 (by first | assumption | exact S.at _ rfl) dX11_weighErrata_19 rfl rfl (by first | assumption | exact L.at _ _ rfl | exact LK.at (by assumption) _ _ rfl | ((repeat first | rewrite [wr_na (by decide)] | rewrite [wr_nk (by decide)] | rewrite [wa_na (by decide)]); first | assumption | exact LK.at (by assumption) _ _ rfl) | exact rfl) ?_
  refine g_getI (q := 25) (kI := 0) fX11_151 (by first | assumption | exact S.at _ rfl) dX11_weighErrata_22 rfl rfl ?_
  rw [hst]
  refine g_iload_n (q := 26) dX11_weighErrata_25 rfl rfl ?_
  refine g_iconst (q := 27) dX11_weighErrata_26 rfl ?_
  refine g_callV (q := 30) lX11_336 mX3_weigh nX3_weigh rfl (x_weigh d sh _ S Y t0 t1 (Or.inl rfl) (z := (sz t).toNat) (by rw [e80]; omega) (fun i hi => by rw [e81, g2 i (by omega)]; exact okN_to (o3 i (by omega) (by omega)))) (by first | assumption | exact S.at _ rfl) rfl rfl shLe.rf (rmOk.mk (by omega) (by first | exact shLe.rf | assumption)) (Nat.le_of_ble_eq_true rfl) dX11_weighErrata_27 rfl rfl (kI fun r c4 hp => ?_)
  obtain ⟨h1, ⟨h2, Y4⟩, f4⟩ := hp
  rw [e81] at h1 h2
  refine g_ireturn dX11_weighErrata_30 rfl ?_
  exact ⟨_, rfl, ⟨h1, h2⟩, Y4, f3.tr f4⟩
theorem x_errata {t tone : Int} (S : SH sh) (X : CX sh ct b β s q N V) (hV : V + 1 < 900000) (T : TC ct sz bt vl) (ht : i32 t) (hto : i32 tone) : Mt YX11_errata (d + 7) [.inr (.inr 0), .inl t, .inl tone] sh sh ct (pI fun r c => (∃ tl, told sz vl t tl ∧ ∃ no, errNo β sz vl t tone no ∧ ((no ≠ 0 ∧ r = no) ∨ (no = 0 ∧ r = errV β s.2.2 tone tl (sz t).toNat s.1))) ∧ CX sh c b β s q N (V + 1) ∧ kF q ct c) := by
  refine Mt.of rfl (Nat.le_of_ble_eq_true rfl) ?_
  show G _ 0 [some (.inr (.inr 0)), some (.inl t), some (.inl tone), none] [] sh ct
  refine g_aload_n (q := 1) dX11_errata_0 rfl rfl ?_
  refine g_iload_n (q := 2) dX11_errata_1 rfl rfl ?_
  refine g_iload_n (q := 3) dX11_errata_2 rfl rfl ?_
  refine g_iconst (q := 4) dX11_errata_3 rfl ?_
  refine g_callV (q := 7) lX11_323 mX11_refusedErrata nX11_refusedErrata rfl (x_refusedErrata (d + 2) sh _ S X T ht hto (i := 0) (by unfold i32; omega)) (by first | assumption | exact S.at _ rfl) rfl rfl shLe.rf (rmOk.mk (by omega) (by first | exact shLe.rf | assumption)) (Nat.le_of_ble_eq_true rfl) dX11_errata_4 rfl rfl (kI fun no c1 hp => ?_)
  obtain ⟨⟨n1, hR, hT, hn⟩, X1, f1⟩ := hp
  have hno := hR.rg
  have hE : errNo β sz vl t tone no := ⟨n1, hR, by
    rcases hn with h | h
    · exact Or.inl h
    · refine Or.inr ⟨h.1, h.2.trans ?_⟩
      by_cases htn : isTn tone
      · rw [if_pos ⟨htn, by decide⟩, if_pos htn]
      · rw [if_neg (fun z => htn z.1), if_neg htn]⟩
  have hnr : -7 ≤ no ∧ no ≤ 0 := by
    rcases hn with h | h
    · omega
    · have := h.2
      split at this <;> omega
  refine s_istore_n_4_3 (q := 8) dX11_errata_7 rfl rfl rfl ?_
  refine g_iload_n (q := 9) dX11_errata_8 rfl rfl ?_
  refine g_if_eq (q := 12) (tg := 14) dX11_errata_9 (by decide) rfl (fun c_9 => ?_) (fun c_9 => ?_)
  · have h0 : no = 0 := by unfold w32 at c_9; omega
    have hn1 : n1 = 0 ∧ isTn tone := by
      rcases hn with h | h
      · omega
      · have h2 := h.2
        split at h2
        · rename_i hh
          exact ⟨h.1, hh.1⟩
        · omega
    have hOk : rowOk β sz vl t 12 0 := rowR.zero (by have z := hR; rw [hn1.1] at z; exact z)
    have hT1 := hT hn1.1
    refine g_aload_n (q := 15) dX11_errata_14 rfl rfl ?_
    refine g_iload_n (q := 16) dX11_errata_15 rfl rfl ?_
    refine g_callV (q := 19) lX11_326 mX11_weighErrata nX11_weighErrata rfl (x_weighErrata d sh _ S X1 hV hn1.2.1 (by have := hn1.2.2; omega) hOk hT1) (by first | assumption | exact S.at _ rfl) rfl rfl shLe.rf (rmOk.mk (by omega) (by first | exact shLe.rf | assumption)) (Nat.le_of_ble_eq_true rfl) dX11_errata_16 rfl rfl (kI fun r c2 hp => ?_)
    obtain ⟨⟨h1, h2⟩, Y, f2⟩ := hp
    refine g_ireturn dX11_errata_19 rfl ?_
    exact ⟨_, rfl, ⟨c1 81, hT1.2, no, hE, Or.inr ⟨h0, h1⟩⟩, Y.x, f1.tr f2⟩
  · have h0 : no ≠ 0 := fun z => c_9 (by rw [z]; rfl)
    refine g_iload_n (q := 13) dX11_errata_12 rfl rfl ?_
    refine g_ireturn dX11_errata_13 rfl ?_
    exact ⟨_, rfl, ⟨fun i => vl t i, fun i _ => rfl, no, hE, Or.inl ⟨h0, rfl⟩⟩, X1.up (by omega) hV, f1⟩
theorem errV_n {β : Bk} {mk : Int → Int} {tone : Int} {tl : Int → Int} {n : Nat} {st : Int} : (errV β mk tone tl n st = -1 ↔ ¬ eW 0 β mk tone tl n n st < 100) ∧ -1 ≤ errV β mk tone tl n st ∧ errV β mk tone tl n st ≤ 100 := by
  have := eW_in (s := 0) (β := β) (mk := mk) (tone := tone) (tl := tl) (n := n) n st
  unfold errV
  split <;> omega
theorem x_right {t tone i : Int} (S : SH sh) (X : CX sh ct b β s q N V) (hV : V + 1 < 900000) (T : TC ct sz bt vl) (ht : i32 t) (hto : i32 tone) (hi : i32 i) : Mt YX11_right (d + 7) [.inr (.inr 0), .inl t, .inl tone, .inl i] sh sh ct (pI fun r c => (∃ tl, told sz vl t tl ∧ qRight β s.2.2 s.1 sz vl t tone i tl r) ∧ CX sh c b β s q N (V + 1) ∧ kF q ct c) := by
  have hi2 := hi
  unfold i32 at hi2
  have hrg := X.2.2.1.1.1
  generalize hP : (pI fun r c => (∃ tl, told sz vl t tl ∧ qRight β s.2.2 s.1 sz vl t tone i tl r) ∧ CX sh c b β s q N (V + 1) ∧ kF q ct c) = Po
  refine Mt.of rfl (Nat.le_of_ble_eq_true rfl) ?_
  show G _ 0 [some (.inr (.inr 0)), some (.inl t), some (.inl tone), some (.inl i), none] [] sh ct
  refine g_aload_n (q := 1) dX11_right_0 rfl rfl ?_
  refine g_iload_n (q := 2) dX11_right_1 rfl rfl ?_
  refine g_iload_n (q := 3) dX11_right_2 rfl rfl ?_
  refine g_iload_n (q := 4) dX11_right_3 rfl rfl ?_
  refine g_callV (q := 7) lX11_323 mX11_refusedErrata nX11_refusedErrata rfl (x_refusedErrata (d + 2) sh _ S X T ht hto hi) (by first | assumption | exact S.at _ rfl) rfl rfl shLe.rf (rmOk.mk (by omega) (by first | exact shLe.rf | assumption)) (Nat.le_of_ble_eq_true rfl) dX11_right_4 rfl rfl (kI fun no c1 hp => ?_)
  obtain ⟨⟨n1, hR, hT, hn⟩, X1, f1⟩ := hp
  have hno := hR.rg
  have hnr : -7 ≤ no ∧ no ≤ 0 := by
    rcases hn with h | h
    · omega
    · have := h.2
      split at this <;> omega
  refine s_istore_5_4 (q := 9) dX11_right_7 rfl rfl rfl ?_
  refine g_iload (q := 11) dX11_right_9 rfl rfl ?_
  refine g_if_eq (q := 14) (tg := 17) dX11_right_11 (by decide) rfl (fun c_11 => ?_) (fun c_11 => ?_)
  · have h0 : no = 0 := by unfold w32 at c_11; omega
    have hn1 : n1 = 0 ∧ isTn tone ∧ 0 ≤ i := by
      rcases hn with h | h
      · omega
      · have h2 := h.2
        split at h2
        · rename_i hh
          exact ⟨h.1, hh⟩
        · omega
    have hOk : rowOk β sz vl t 12 0 := rowR.zero (by have z := hR; rw [hn1.1] at z; exact z)
    obtain ⟨o1, o2, o3⟩ := id hOk
    have hT1 := hT hn1.1
    have hE : errNo β sz vl t tone 0 := ⟨n1, hR, Or.inr ⟨hn1.1, by rw [if_pos hn1.2.1]⟩⟩
    refine g_aload_n (q := 18) dX11_right_17 rfl rfl ?_
    refine g_iload_n (q := 19) dX11_right_18 rfl rfl ?_
    refine g_callV (q := 22) lX11_326 mX11_weighErrata nX11_weighErrata rfl (x_weighErrata d sh _ S X1 hV hn1.2.1.1 (by have := hn1.2.1.2; omega) hOk hT1) (by first | assumption | exact S.at _ rfl) rfl rfl shLe.rf (rmOk.mk (by omega) (by first | exact shLe.rf | assumption)) (Nat.le_of_ble_eq_true rfl) dX11_right_19 rfl rfl (kI fun r c2 hp => ?_)
    obtain ⟨⟨h1, w1, w2, w3, w4, w5, w6⟩, Y, f2⟩ := hp
    have hev := errV_n (β := β) (mk := s.2.2) (tone := tone) (tl := c1 81) (n := (sz t).toNat) (st := s.1)
    have L2 := Y.x.L
    refine g_iconst (q := 23) dX11_right_22 rfl ?_
    refine g_icmp_ne (q := 26) (tg := 30) dX11_right_23 (by decide) rfl (fun c_23 => ?_) (fun c_23 => ?_)
    · have hne : r ≠ -1 := fun z => c_23 (by rw [z])
      refine g_aload_n (q := 31) dX11_right_30 rfl rfl ?_
      refine g_getO (q := 34) (kI := 13) fX11_95 (by first | assumption | exact S.at _ rfl) dX11_right_31 rfl rfl (by first | assumption | exact L.at _ _ rfl | exact LK.at (by assumption) _ _ rfl | ((repeat first | rewrite [wr_na (by decide)] | rewrite [wr_nk (by decide)] | rewrite [wa_na (by decide)]); first | assumption | exact LK.at (by assumption) _ _ rfl) | exact rfl) ?_
      refine g_iload_n (q := 35) dX11_right_34 rfl rfl ?_
      refine g_callV (q := 38) lX11_329 mX3_rightMinute nX3_rightMinute rfl (c_rightMinute (d + 1) sh _ S Y.2.2.2.1.1 hn1.2.2 (by omega) w2 (by omega) (fun j hj => by rw [w1, hT1.2 j (by omega)]; exact okN_to (o3 j (by omega) (by omega))) (Or.inl w3) (by rw [w4]; exact hrg) w6 (by rw [w3, w5, w1, w4]; apply Classical.byContradiction; intro z; exact hne (h1.trans (hev.1.mpr z)))) (by first | assumption | exact S.at _ rfl) rfl rfl shLe.rf (rmOk.mk (by omega) (by first | exact shLe.rf | assumption)) (Nat.le_of_ble_eq_true rfl) dX11_right_35 rfl rfl (kI fun v c3 hp => ?_)
      obtain ⟨hv, m⟩ := hp
      rw [w3, w5, w1, w4] at hv
      refine g_ireturn dX11_right_38 rfl ?_
      rw [← hP]
      refine ⟨_, rfl, ⟨c1 81, hT1.2, 0, hE, Or.inr ⟨rfl, Or.inr ⟨hn1.2.2, ?_⟩⟩⟩, (Y.mvt m).x, (f1.tr f2).tr m.k⟩
      rcases hv with ⟨a, e⟩ | ⟨a, e⟩
      · exact Or.inr ⟨by rw [← h1]; exact hne, by omega, e⟩
      · exact Or.inl ⟨Or.inr (by omega), e⟩
    · have he : r = -1 := by unfold w32 at c_23; omega
      refine g_iconst (q := 27) dX11_right_26 rfl ?_
      refine g_goto (q := 38) dX11_right_27 (by decide) ?_
      refine g_ireturn dX11_right_38 rfl ?_
      rw [← hP]
      exact ⟨_, rfl, ⟨c1 81, hT1.2, 0, hE, Or.inr ⟨rfl, Or.inr ⟨hn1.2.2, Or.inl ⟨Or.inl (by rw [← h1]; exact he), rfl⟩⟩⟩⟩, Y.x, f1.tr f2⟩
  · have h0 : no ≠ 0 := fun z => c_11 (by rw [z]; rfl)
    refine g_iload (q := 16) dX11_right_14 rfl rfl ?_
    refine g_ireturn dX11_right_16 rfl ?_
    rw [← hP]
    refine ⟨_, rfl, ⟨fun i => vl t i, fun i _ => rfl, ?_⟩, X1.up (by omega) hV, f1⟩
    rcases hn with h | ⟨h, h2⟩
    · exact ⟨no, ⟨n1, hR, Or.inl h⟩, Or.inl ⟨h0, rfl⟩⟩
    · by_cases htn : isTn tone
      · have hi0 : ¬ 0 ≤ i := fun z => h0 (by rw [h2, if_pos ⟨htn, z⟩])
        refine ⟨0, ⟨n1, hR, Or.inr ⟨h, by rw [if_pos htn]⟩⟩, Or.inr ⟨rfl, Or.inl ⟨by omega, ?_⟩⟩⟩
        rw [h2, if_neg (fun z => hi0 z.2)]
      · refine ⟨no, ⟨n1, hR, Or.inr ⟨h, ?_⟩⟩, Or.inl ⟨h0, rfl⟩⟩
        rw [h2, if_neg (fun z => htn z.1), if_neg htn]
theorem x_back {t tone : Int} (S : SH sh) (X : CX sh ct b β s q N V) (hV : V + 1 < 900000) (T : TC ct sz bt vl) (ht : i32 t) (hto : i32 tone) : Mt YX11_back (d + 7) [.inr (.inr 0), .inl t, .inl tone] sh sh ct (pI fun r c => (∃ tl, told sz vl t tl ∧ qBack β s.2.2 s.1 sz vl t tone tl r) ∧ CX sh c b β s q N (V + 1) ∧ kF q ct c) := by
  have hrg := X.2.2.1.1.1
  generalize hP : (pI fun r c => (∃ tl, told sz vl t tl ∧ qBack β s.2.2 s.1 sz vl t tone tl r) ∧ CX sh c b β s q N (V + 1) ∧ kF q ct c) = Po
  refine Mt.of rfl (Nat.le_of_ble_eq_true rfl) ?_
  show G _ 0 [some (.inr (.inr 0)), some (.inl t), some (.inl tone), none] [] sh ct
  refine g_aload_n (q := 1) dX11_back_0 rfl rfl ?_
  refine g_iload_n (q := 2) dX11_back_1 rfl rfl ?_
  refine g_iload_n (q := 3) dX11_back_2 rfl rfl ?_
  refine g_iconst (q := 4) dX11_back_3 rfl ?_
  refine g_callV (q := 7) lX11_323 mX11_refusedErrata nX11_refusedErrata rfl (x_refusedErrata (d + 2) sh _ S X T ht hto (i := 0) (by unfold i32; omega)) (by first | assumption | exact S.at _ rfl) rfl rfl shLe.rf (rmOk.mk (by omega) (by first | exact shLe.rf | assumption)) (Nat.le_of_ble_eq_true rfl) dX11_back_4 rfl rfl (kI fun no c1 hp => ?_)
  obtain ⟨⟨n1, hR, hT, hn⟩, X1, f1⟩ := hp
  have hno := hR.rg
  have hE : errNo β sz vl t tone no := ⟨n1, hR, by
    rcases hn with h | h
    · exact Or.inl h
    · refine Or.inr ⟨h.1, h.2.trans ?_⟩
      by_cases htn : isTn tone
      · rw [if_pos ⟨htn, by decide⟩, if_pos htn]
      · rw [if_neg (fun z => htn z.1), if_neg htn]⟩
  have hnr : -7 ≤ no ∧ no ≤ 0 := by
    rcases hn with h | h
    · omega
    · have := h.2
      split at this <;> omega
  refine s_istore_n_4_3 (q := 8) dX11_back_7 rfl rfl rfl ?_
  refine g_iload_n (q := 9) dX11_back_8 rfl rfl ?_
  refine g_if_eq (q := 12) (tg := 14) dX11_back_9 (by decide) rfl (fun c_9 => ?_) (fun c_9 => ?_)
  · have h0 : no = 0 := by unfold w32 at c_9; omega
    have hn1 : n1 = 0 ∧ isTn tone := by
      rcases hn with h | h
      · omega
      · have h2 := h.2
        split at h2
        · rename_i hh
          exact ⟨h.1, hh.1⟩
        · omega
    have hOk : rowOk β sz vl t 12 0 := rowR.zero (by have z := hR; rw [hn1.1] at z; exact z)
    obtain ⟨o1, o2, o3⟩ := id hOk
    have hT1 := hT hn1.1
    refine g_aload_n (q := 15) dX11_back_14 rfl rfl ?_
    refine g_iload_n (q := 16) dX11_back_15 rfl rfl ?_
    refine g_callV (q := 19) lX11_326 mX11_weighErrata nX11_weighErrata rfl (x_weighErrata d sh _ S X1 hV hn1.2.1 (by have := hn1.2.2; omega) hOk hT1) (by first | assumption | exact S.at _ rfl) rfl rfl shLe.rf (rmOk.mk (by omega) (by first | exact shLe.rf | assumption)) (Nat.le_of_ble_eq_true rfl) dX11_back_16 rfl rfl (kI fun r c2 hp => ?_)
    obtain ⟨⟨h1, w1, w2, w3, w4, w5, w6⟩, Y, f2⟩ := hp
    have hev := errV_n (β := β) (mk := s.2.2) (tone := tone) (tl := c1 81) (n := (sz t).toNat) (st := s.1)
    have L2 := Y.x.L
    refine g_iconst (q := 20) dX11_back_19 rfl ?_
    refine g_icmp_ne (q := 23) (tg := 27) dX11_back_20 (by decide) rfl (fun c_20 => ?_) (fun c_20 => ?_)
    · have hne : r ≠ -1 := fun z => c_20 (by rw [z])
      refine g_aload_n (q := 28) dX11_back_27 rfl rfl ?_
      refine g_getO (q := 31) (kI := 13) fX11_95 (by first | assumption | exact S.at _ rfl) dX11_back_28 rfl rfl (by first | assumption | exact L.at _ _ rfl | exact LK.at (by assumption) _ _ rfl | ((repeat first | rewrite [wr_na (by decide)] | rewrite [wr_nk (by decide)] | rewrite [wa_na (by decide)]); first | assumption | exact LK.at (by assumption) _ _ rfl) | exact rfl) ?_
      refine g_callV (q := 34) lX11_332 mX3_longestKept nX3_longestKept rfl (c_longestKept (d + 2) sh _ S Y.2.2.2.1.1 w2 (by omega) (fun j hj => by rw [w1, hT1.2 j (by omega)]; exact okN_to (o3 j (by omega) (by omega))) w3 (by rw [w4]; exact hrg) w6) (by first | assumption | exact S.at _ rfl) rfl rfl shLe.rf (rmOk.mk (by omega) (by first | exact shLe.rf | assumption)) (Nat.le_of_ble_eq_true rfl) dX11_back_31 rfl rfl (kI fun v c3 hp => ?_)
      obtain ⟨hv, m⟩ := hp
      rw [w5, w1, w4] at hv
      refine g_ireturn dX11_back_34 rfl ?_
      rw [← hP]
      exact ⟨_, rfl, ⟨c1 81, hT1.2, no, hE, Or.inr ⟨h0, Or.inr ⟨by rw [← h1]; exact hne, hv⟩⟩⟩, (Y.mvt m).x, (f1.tr f2).tr m.k⟩
    · have he : r = -1 := by unfold w32 at c_20; omega
      refine g_iconst (q := 24) dX11_back_23 rfl ?_
      refine g_goto (q := 34) dX11_back_24 (by decide) ?_
      refine g_ireturn dX11_back_34 rfl ?_
      rw [← hP]
      exact ⟨_, rfl, ⟨c1 81, hT1.2, no, hE, Or.inr ⟨h0, Or.inl ⟨by rw [← h1]; exact he, rfl⟩⟩⟩, Y.x, f1.tr f2⟩
  · have h0 : no ≠ 0 := fun z => c_9 (by rw [z]; rfl)
    refine g_iload_n (q := 13) dX11_back_12 rfl rfl ?_
    refine g_ireturn dX11_back_13 rfl ?_
    rw [← hP]
    exact ⟨_, rfl, ⟨fun i => vl t i, fun i _ => rfl, no, hE, Or.inl ⟨h0, rfl⟩⟩, X1.up (by omega) hV, f1⟩
theorem x_refusedLost {t : Int} (S : SH sh) (X : CX sh ct b β s q N V) (T : TC ct sz bt vl) (ht : i32 t) : Mt YX11_refusedLost (d + 3) [.inr (.inr 0), .inl t] sh sh ct (pI fun r c => rowR β sz vl t 10 1 r ∧ (r = 0 → RT c sz vl t) ∧ CX sh c b β s q N V ∧ kF q ct c) := by
  refine Mt.of rfl (Nat.le_of_ble_eq_true rfl) ?_
  show G _ 0 [some (.inr (.inr 0)), some (.inl t), none] [] sh ct
  refine g_aload_n (q := 1) dX11_refusedLost_0 rfl rfl ?_
  refine g_iload_n (q := 2) dX11_refusedLost_1 rfl rfl ?_
  refine g_callV (q := 5) lX11_233 mX11_refusedTray nX11_refusedTray rfl (x_refusedTray (d + 1) sh _ S X T ht) (by first | assumption | exact S.at _ rfl) rfl rfl shLe.rf (rmOk.mk (by omega) (by first | exact shLe.rf | assumption)) (Nat.le_of_ble_eq_true rfl) dX11_refusedLost_2 rfl rfl (kI fun r_ c_ hp => ?_)
  obtain ⟨hr, hq⟩ := hp
  replace hr := hr.symm
  replace hq := hq.symm
  subst hr hq
  by_cases h4 : isTr t
  · by_cases hs : sz t = -1
    · rw [if_pos h4, if_pos hs]
      refine s_istore_n_3_2 (q := 6) dX11_refusedLost_5 rfl rfl rfl ?_
      refine g_iload_n (q := 7) dX11_refusedLost_6 rfl rfl ?_
      refine g_if_eq (q := 10) (tg := 14) dX11_refusedLost_7 (by decide) rfl (fun c_7 => ?_) (fun c_7 => ?_)
      · exact absurd c_7 (by decide)
      · refine g_iload_n (q := 11) dX11_refusedLost_10 rfl rfl ?_
        refine g_goto (q := 22) dX11_refusedLost_11 (by decide) ?_
        refine g_ireturn dX11_refusedLost_22 rfl ?_
        exact ⟨_, rfl, Or.inr (Or.inl ⟨h4, hs, rfl⟩), fun z => absurd z (by decide), X, kF.rf⟩
    · rw [if_pos h4, if_neg hs]
      refine s_istore_n_3_2 (q := 6) dX11_refusedLost_5 rfl rfl rfl ?_
      refine g_iload_n (q := 7) dX11_refusedLost_6 rfl rfl ?_
      refine g_if_eq (q := 10) (tg := 14) dX11_refusedLost_7 (by decide) rfl (fun c_7 => ?_) (fun c_7 => ?_)
      · refine g_aload_n (q := 15) dX11_refusedLost_14 rfl rfl ?_
        refine g_iload_n (q := 16) dX11_refusedLost_15 rfl rfl ?_
        refine g_bipush (q := 18) dX11_refusedLost_16 (by decide +kernel) rfl ?_
        refine g_iconst (q := 19) dX11_refusedLost_18 rfl ?_
        refine g_callV (q := 22) lX11_354 mX11_refusedNumbers nX11_refusedNumbers rfl (x_refusedNumbers d sh _ S X T h4 (by decide) (by decide) hs) (by first | assumption | exact S.at _ rfl) rfl rfl shLe.rf (rmOk.mk (by omega) (by first | exact shLe.rf | assumption)) (Nat.le_of_ble_eq_true rfl) dX11_refusedLost_19 rfl rfl (kI fun r c1 hp => ?_)
        refine g_ireturn dX11_refusedLost_22 rfl ?_
        exact ⟨_, rfl, hp⟩
      · exact absurd rfl c_7
  · rw [if_neg h4]
    refine s_istore_n_3_2 (q := 6) dX11_refusedLost_5 rfl rfl rfl ?_
    refine g_iload_n (q := 7) dX11_refusedLost_6 rfl rfl ?_
    refine g_if_eq (q := 10) (tg := 14) dX11_refusedLost_7 (by decide) rfl (fun c_7 => ?_) (fun c_7 => ?_)
    · exact absurd c_7 (by decide)
    · refine g_iload_n (q := 11) dX11_refusedLost_10 rfl rfl ?_
      refine g_goto (q := 22) dX11_refusedLost_11 (by decide) ?_
      refine g_ireturn dX11_refusedLost_22 rfl ?_
      exact ⟨_, rfl, Or.inl ⟨h4, rfl⟩, fun z => absurd z (by decide), X, kF.rf⟩
theorem x_lost {t : Int} (S : SH sh) (X : CX sh ct b β s q N V) (hV : V + 1 < 900000) (T : TC ct sz bt vl) (ht : i32 t) : Mt YX11_lost (d + 6) [.inr (.inr 0), .inl t] sh sh ct (pL fun r c => (∃ tl, told sz vl t tl ∧ ∃ no, rowR β sz vl t 10 1 no ∧ ((no ≠ 0 ∧ r = no) ∨ (no = 0 ∧ r = cW β s.2.2 (-1) tl (sz t).toNat (sz t).toNat s.1))) ∧ CX sh c b β s q N (V + 1) ∧ kF q ct c) := by
  refine Mt.of rfl (Nat.le_of_ble_eq_true rfl) ?_
  show G _ 0 [some (.inr (.inr 0)), some (.inl t), none] [] sh ct
  refine g_aload_n (q := 1) dX11_lost_0 rfl rfl ?_
  refine g_iload_n (q := 2) dX11_lost_1 rfl rfl ?_
  refine g_callV (q := 5) lX11_340 mX11_refusedLost nX11_refusedLost rfl (x_refusedLost (d + 2) sh _ S X T ht) (by first | assumption | exact S.at _ rfl) rfl rfl shLe.rf (rmOk.mk (by omega) (by first | exact shLe.rf | assumption)) (Nat.le_of_ble_eq_true rfl) dX11_lost_2 rfl rfl (kI fun no c1 hp => ?_)
  obtain ⟨hR, hT, X1, f1⟩ := hp
  have L1 := X1.L
  have hno := hR.rg
  refine s_istore_n_3_2 (q := 6) dX11_lost_5 rfl rfl rfl ?_
  refine g_iload_n (q := 7) dX11_lost_6 rfl rfl ?_
  refine g_if_eq (q := 10) (tg := 13) dX11_lost_7 (by decide) rfl (fun c_7 => ?_) (fun c_7 => ?_)
  · have h0 : no = 0 := by unfold w32 at c_7; omega
    obtain ⟨g1, g2⟩ := hT h0
    obtain ⟨o1, o2, o3⟩ := (show rowOk β sz vl t 10 1 from rowR.zero (by have z := hR; rw [h0] at z; exact z))
    refine g_aload_n (q := 14) dX11_lost_13 rfl rfl ?_
    refine g_getO (q := 17) (kI := 11) fX11_79 (by first | assumption | exact S.at _ rfl) dX11_lost_14 rfl rfl (by first | assumption | exact L.at _ _ rfl | exact LK.at (by assumption) _ _ rfl | ((repeat first | rewrite [wr_na (by decide)] | rewrite [wr_nk (by decide)] | rewrite [wa_na (by decide)]); first | assumption | exact LK.at (by assumption) _ _ rfl) | exact rfl) ?_
    refine g_aload_n (q := 18) dX11_lost_17 rfl rfl ?_
    refine g_getO (q := 21) (kI := 4) fX11_30 (by first | assumption | exact S.at _ rfl) dX11_lost_18 rfl rfl (by first | assumption | exact L.at _ _ rfl | exact LK.at (by assumption) _ _ rfl | ((repeat first | rewrite [wr_na (by decide)] | rewrite [wr_nk (by decide)] | rewrite [wa_na (by decide)]); first | assumption | exact LK.at (by assumption) _ _ rfl) | exact rfl) ?_
    refine g_getA (q := 24) (kI := 2) fX11_139 (by first | assumption | exact S.at _ rfl) dX11_lost_21 rfl rfl (by first | assumption | exact L.at _ _ rfl | exact LK.at (by assumption) _ _ rfl | ((repeat first | rewrite [wr_na (by decide)] | rewrite [wr_nk (by decide)] | rewrite [wa_na (by decide)]); first | assumption | exact LK.at (by assumption) _ _ rfl) | exact rfl) ?_
    refine g_callV (q := 27) lX11_273 mX4_heed nX4_heed rfl (x_heedE (d + 4) sh _ S X1 hV) (by first | assumption | exact S.at _ rfl) rfl rfl shLe.rf (rmOk.mk (by omega) (by first | exact shLe.rf | assumption)) (Nat.le_of_ble_eq_true rfl) dX11_lost_24 rfl rfl (kN fun c3 hp => ?_)
    obtain ⟨⟨Y, f3⟩, e3⟩ := hp
    have L3 := Y.x.L
    have e81 : c3 81 = c1 81 := e3 81 (by decide)
    have e80 : c3 80 = c1 80 := e3 80 (by decide)
    have hst : c3 12 0 = s.1 := Y.2.1.1
    refine g_aload_n (q := 28) dX11_lost_27 rfl rfl ?_
    refine g_getO (q := 31) (kI := 13) fX11_95 (by first | assumption | exact S.at _ rfl) dX11_lost_28 rfl rfl (by first | assumption | exact L.at _ _ rfl | exact LK.at (by assumption) _ _ rfl | ((repeat first | rewrite [wr_na (by decide)] | rewrite [wr_nk (by decide)] | rewrite [wa_na (by decide)]); first | assumption | exact LK.at (by assumption) _ _ rfl) | exact rfl) ?_
    refine g_aload_n (q := 32) dX11_lost_31 rfl rfl ?_
    refine g_getO (q := 35) (kI := 4) fX11_30 (by first | assumption | exact S.at _ rfl) dX11_lost_32 rfl rfl (by first | assumption | exact L.at _ _ rfl | exact LK.at (by assumption) _ _ rfl | ((repeat first | rewrite [wr_na (by decide)] | rewrite [wr_nk (by decide)] | rewrite [wa_na (by decide)]); first | assumption | exact LK.at (by assumption) _ _ rfl) | exact rfl) ?_
    refine g_getI (q := 38) (kI := 0) fX11_151 (by first | assumption | exact S.at _ rfl) dX11_lost_35 rfl rfl ?_
    rw [hst]
    refine g_iconst (q := 39) dX11_lost_38 rfl ?_
    refine g_callV (q := 42) lX11_277 mX3_countRows nX3_countRows rfl (x_countRows d sh _ S Y (by decide) (by decide) (z := (sz t).toNat) (by rw [e80]; omega) (by omega) (fun i hi => by rw [e81, g2 i (by omega)]; exact okN_to (o3 i (by omega) (by omega)))) (by first | assumption | exact S.at _ rfl) rfl rfl shLe.rf (rmOk.mk (by omega) (by first | exact shLe.rf | assumption)) (Nat.le_of_ble_eq_true rfl) dX11_lost_39 rfl rfl (kL fun r c4 hp => ?_)
    obtain ⟨h1, h2, h3⟩ := hp
    refine g_lreturn dX11_lost_42 rfl ?_
    exact ⟨_, rfl, ⟨c3 81, by rw [e81]; exact g2, no, hR, Or.inr ⟨h0, h1⟩⟩, h2.x, (f1.tr f3).tr h3⟩
  · have h0 : no ≠ 0 := fun z => c_7 (by rw [z]; rfl)
    refine g_iload_n (q := 11) dX11_lost_10 rfl rfl ?_
    refine g_i2l (q := 12) dX11_lost_11 rfl ?_
    refine g_lreturn dX11_lost_12 rfl ?_
    refine ⟨_, rfl, ⟨fun i => vl t i, fun i _ => rfl, no, hR, Or.inl ⟨h0, ?_⟩⟩, X1.up (by omega) hV, f1⟩
    unfold w32
    omega
end
