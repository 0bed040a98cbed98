/-! MinuteBook: the shortest minutes written into a tray -/
theorem dX11_lists_0 : decode cX11_lists 0 = .ok (.aload_n 0, 1) := by decide +kernel
theorem dX11_lists_1 : decode cX11_lists 1 = .ok (.iload_n 1, 1) := by decide +kernel
theorem dX11_lists_2 : decode cX11_lists 2 = .ok (.invokevirtual 233, 3) := by decide +kernel
theorem dX11_lists_5 : decode cX11_lists 5 = .ok (.istore_n 3, 1) := by decide +kernel
theorem dX11_lists_6 : decode cX11_lists 6 = .ok (.iload_n 3, 1) := by decide +kernel
theorem dX11_lists_7 : decode cX11_lists 7 = .ok (.ifCond .eq 5, 3) := by decide +kernel
theorem dX11_lists_10 : decode cX11_lists 10 = .ok (.iload_n 3, 1) := by decide +kernel
theorem dX11_lists_11 : decode cX11_lists 11 = .ok (.ireturn, 1) := by decide +kernel
theorem dX11_lists_12 : decode cX11_lists 12 = .ok (.iload_n 2, 1) := by decide +kernel
theorem dX11_lists_13 : decode cX11_lists 13 = .ok (.invokestatic 252, 3) := by decide +kernel
theorem dX11_lists_16 : decode cX11_lists 16 = .ok (.ifCond .ne 6, 3) := by decide +kernel
theorem dX11_lists_19 : decode cX11_lists 19 = .ok (.bipush (-3), 2) := by decide +kernel
theorem dX11_lists_21 : decode cX11_lists 21 = .ok (.ireturn, 1) := by decide +kernel
theorem dX11_lists_22 : decode cX11_lists 22 = .ok (.aload_n 0, 1) := by decide +kernel
theorem dX11_lists_23 : decode cX11_lists 23 = .ok (.iload_n 2, 1) := by decide +kernel
theorem dX11_lists_24 : decode cX11_lists 24 = .ok (.ldc2_w 255, 3) := by decide +kernel
theorem dX11_lists_27 : decode cX11_lists 27 = .ok (.invokevirtual 257, 3) := by decide +kernel
theorem dX11_lists_30 : decode cX11_lists 30 = .ok (.istore 4, 2) := by decide +kernel
theorem dX11_lists_32 : decode cX11_lists 32 = .ok (.iload 4, 2) := by decide +kernel
theorem dX11_lists_34 : decode cX11_lists 34 = .ok (.iconst (-1), 1) := by decide +kernel
theorem dX11_lists_35 : decode cX11_lists 35 = .ok (.if_icmp .ne 6, 3) := by decide +kernel
theorem dX11_lists_38 : decode cX11_lists 38 = .ok (.bipush (-5), 2) := by decide +kernel
theorem dX11_lists_40 : decode cX11_lists 40 = .ok (.ireturn, 1) := by decide +kernel
theorem dX11_lists_41 : decode cX11_lists 41 = .ok (.iload 4, 2) := by decide +kernel
theorem dX11_lists_43 : decode cX11_lists 43 = .ok (.aload_n 0, 1) := by decide +kernel
theorem dX11_lists_44 : decode cX11_lists 44 = .ok (.getfield 46, 3) := by decide +kernel
theorem dX11_lists_47 : decode cX11_lists 47 = .ok (.iload_n 1, 1) := by decide +kernel
theorem dX11_lists_48 : decode cX11_lists 48 = .ok (.aaload, 1) := by decide +kernel
theorem dX11_lists_49 : decode cX11_lists 49 = .ok (.getfield 225, 3) := by decide +kernel
theorem dX11_lists_52 : decode cX11_lists 52 = .ok (.invokestatic 371, 3) := by decide +kernel
theorem dX11_lists_55 : decode cX11_lists 55 = .ok (.istore 5, 2) := by decide +kernel
theorem dX11_lists_57 : decode cX11_lists 57 = .ok (.iconst 0, 1) := by decide +kernel
theorem dX11_lists_58 : decode cX11_lists 58 = .ok (.istore 6, 2) := by decide +kernel
theorem dX11_lists_60 : decode cX11_lists 60 = .ok (.iload 6, 2) := by decide +kernel
theorem dX11_lists_62 : decode cX11_lists 62 = .ok (.iload 5, 2) := by decide +kernel
theorem dX11_lists_64 : decode cX11_lists 64 = .ok (.if_icmp .ge 31, 3) := by decide +kernel
theorem dX11_lists_67 : decode cX11_lists 67 = .ok (.aload_n 0, 1) := by decide +kernel
theorem dX11_lists_68 : decode cX11_lists 68 = .ok (.getfield 46, 3) := by decide +kernel
theorem dX11_lists_71 : decode cX11_lists 71 = .ok (.iload_n 1, 1) := by decide +kernel
theorem dX11_lists_72 : decode cX11_lists 72 = .ok (.aaload, 1) := by decide +kernel
theorem dX11_lists_73 : decode cX11_lists 73 = .ok (.iload 6, 2) := by decide +kernel
theorem dX11_lists_75 : decode cX11_lists 75 = .ok (.aload_n 0, 1) := by decide +kernel
theorem dX11_lists_76 : decode cX11_lists 76 = .ok (.getfield 88, 3) := by decide +kernel
theorem dX11_lists_79 : decode cX11_lists 79 = .ok (.iload 6, 2) := by decide +kernel
theorem dX11_lists_81 : decode cX11_lists 81 = .ok (.invokevirtual 261, 3) := by decide +kernel
theorem dX11_lists_84 : decode cX11_lists 84 = .ok (.i2l, 1) := by decide +kernel
theorem dX11_lists_85 : decode cX11_lists 85 = .ok (.invokevirtual 414, 3) := by decide +kernel
theorem dX11_lists_88 : decode cX11_lists 88 = .ok (.pop2, 1) := by decide +kernel
theorem dX11_lists_89 : decode cX11_lists 89 = .ok (.iinc 6 1, 3) := by decide +kernel
theorem dX11_lists_92 : decode cX11_lists 92 = .ok (.goto (-32), 3) := by decide +kernel
theorem dX11_lists_95 : decode cX11_lists 95 = .ok (.iload 5, 2) := by decide +kernel
theorem dX11_lists_97 : decode cX11_lists 97 = .ok (.ireturn, 1) := by decide +kernel
theorem miS_in {β : Bk} {mk : Int → Int} {st tone m j v : Int} (hw : wyS β mk st (-1) (-1) 9 tone 0 m) (hm : m ≠ -1) (j0 : 0 ≤ j) (j1 : j < m) (h : miS β mk st (-1) (-1) 9 tone 0 j v) : 0 ≤ v ∧ v < 60 := by
  rcases h with ⟨a1, b1⟩ | ⟨q, l, b1, b2, b3, ⟨b4, b5, b6⟩ | ⟨b4, b5⟩⟩
  · rcases hw with ⟨z1, z2⟩ | ⟨q, z1, z2, -⟩
    · exact absurd z1 hm
    · exact absurd z2 (b1 q)
  · have hlen := b3.len
    have hin : j.toNat < l.length := by omega
    rw [b6, List.getD_eq_getElem?_getD, List.getElem?_eq_getElem hin]
    show 0 ≤ mnt l[j.toNat] ∧ mnt l[j.toNat] < 60
    have hk48 : l[j.toNat] < 48 := by
      have : ∀ (n : Nat) (x : Int × Int) (l : List Nat), Gr (scW β mk (useN (-1) (-1)) 9 (wM 0)) (goalW β tone (wM 0)) n x l → ∀ i ∈ l, i < 48 := by
        intro n
        induction n with
        | zero =>
          intro x l h i hi
          unfold Gr at h
          rw [h] at hi
          cases hi
        | succ n ih =>
          intro x l h i hi
          match l, h with
          | v :: l2, ⟨pre, y, post, q1, q2, q3, q4⟩ =>
            rcases List.mem_cons.mp hi with q5 | q5
            · rw [q5]
              have hmem : (v, y) ∈ scW β mk (useN (-1) (-1)) 9 (wM 0) x := by rw [q1]; simp
              rw [scW_eq] at hmem
              obtain ⟨i2, hi2, hi3⟩ := List.mem_map.mp hmem
              have := List.mem_range.mp (List.mem_filter.mp hi2).1
              have hv : i2 = v := congrArg Prod.fst hi3
              omega
            · exact ih y l2 q4 i q5
      exact this q _ l b3 _ (List.getElem_mem hin)
    have := mnt_in hk48
    omega
  · exfalso
    rcases hw with ⟨z1, z2⟩ | ⟨q2, z1, z2, z3⟩
    · exact hm z1
    · have : q = q2 := by
        rcases Nat.lt_trichotomy q q2 with h | h | h
        · exact absurd b1 (z3 q h)
        · exact h
        · exact absurd z2 (b2 q2 h)
      omega
theorem cut_sm {bt v : Int} (hb : bt = 8 ∨ bt = 16 ∨ bt = 32 ∨ bt = 64) (h0 : 0 ≤ v) (h1 : v < 60) : cutL bt v = v := by
  rcases hb with rfl | rfl | rfl | rfl
  · rw [cut_0]; unfold w8; omega
  · rw [cut_1]; unfold w16; omega
  · rw [cut_2]; unfold w32; omega
  · rw [cut_3]; unfold w64; omega
def lsF (ct c : mbCt) : Prop := ∀ x : Int, x < 114 → x ∉ (78 :: KF) → (x < 39 ∨ 46 < x) → c x = ct x
theorem SB.mv {c c2 : mbCt} {β : Bk} {s : Sit} {q : Int} {N : Nat} {tone use cap : Int} {M : Nat} {r : Int} (h : SB c β s q N tone use cap M r) (e77 : c2 77 = c 77) (eq : c2 q = c q) : SB c2 β s q N tone use cap M r := by
  obtain ⟨h1, h2, h3, h4, h5, h6, h7⟩ := h
  have := h2.mv e77 eq
  unfold SB U9 at *
  rw [e77]
  exact ⟨h1, this, h3, h4, h5, h6, h7⟩
theorem CY.trg {sh : mbSh} {ct c : mbCt} {b : Int} {β : Bk} {s : Sit} {q : Int} {N : Nat} {V : Int} (Y : CY sh ct b β s q N V) (hL : LK c) (e : trG ct c) : CY sh c b β s q N V := by
  have hq := Y.x.qc
  obtain ⟨g0, gs, ⟨gB, gc, gbk⟩, hK, sq, hv, hV⟩ := Y
  have e70 : c 70 = ct 70 := e 70 (by omega)
  have eq : c q = ct q := e q (by rcases hq with h | h <;> omega)
  exact ⟨by rw [e 0 (by omega)]; exact g0, gs.cg (e 12 (by omega)) (e 13 (by omega)), ⟨gB, gc, gbk⟩, ⟨hK.1.of hL (fun x a b => e x (by omega)) (fun x a => e x (by omega)), hK.2.1, hK.2.2.1.mv (e 77 (by omega)) eq (e 79 (by omega)) e70, hK.2.2.2.1.cg e70 (e 87 (by omega)) (e 88 (by omega)) (e 89 (by omega)), hK.2.2.2.2.cg (by rw [e70]) (fun x a b => e x (by omega))⟩, sq, by rw [e70]; exact hv, hV⟩
section
variable (d : Nat) (sh : mbSh) (ct : mbCt) {b : Int} {β : Bk} {s : Sit} {q : Int} {N : Nat} {V : Int} {sz bt : Int → Int} {vl : Int → Int → Int}
theorem x_lists {t tone : Int} (S : SH sh) (X : CX sh ct b β s q N V) (hV : V + 1 < 900000) (T : TC ct sz bt vl) (hbt : isTr t → sz t ≠ -1 → bt t = 8 ∨ bt t = 16 ∨ bt t = 32 ∨ bt t = 64) (ht : i32 t) (hto : i32 tone) : Mt YX11_lists (d + 6) [.inr (.inr 0), .inl t, .inl tone] sh sh ct (pI fun r c => ((¬ isTr t ∧ r = -2 ∧ TC c sz bt vl) ∨ (isTr t ∧ sz t = -1 ∧ r = -6 ∧ TC c sz bt vl) ∨ (isTr t ∧ sz t ≠ -1 ∧ ¬ isTn tone ∧ r = -3 ∧ TC c sz bt vl) ∨ (isTr t ∧ sz t ≠ -1 ∧ isTn tone ∧ ∃ m, wyS β s.2.2 s.1 (-1) (-1) 9 tone 0 m ∧ ((m = -1 ∧ r = -5 ∧ TC c sz bt vl) ∨ (m ≠ -1 ∧ r = (if m < sz t then m else sz t) ∧ ∃ f : Int → Int, (∀ k, 0 ≤ k → k < r → miS β s.2.2 s.1 (-1) (-1) 9 tone 0 k (f k)) ∧ TC c sz bt (upR vl t (fun i => if i < r then f i else vl t i)))))) ∧ CX sh c b β s q N (V + 1) ∧ lsF ct c) := by
  have L := X.L
  generalize hP : (pI fun r c => ((¬ isTr t ∧ r = -2 ∧ TC c sz bt vl) ∨ (isTr t ∧ sz t = -1 ∧ r = -6 ∧ TC c sz bt vl) ∨ (isTr t ∧ sz t ≠ -1 ∧ ¬ isTn tone ∧ r = -3 ∧ TC c sz bt vl) ∨ (isTr t ∧ sz t ≠ -1 ∧ isTn tone ∧ ∃ m, wyS β s.2.2 s.1 (-1) (-1) 9 tone 0 m ∧ ((m = -1 ∧ r = -5 ∧ TC c sz bt vl) ∨ (m ≠ -1 ∧ r = (if m < sz t then m else sz t) ∧ ∃ f : Int → Int, (∀ k, 0 ≤ k → k < r → miS β s.2.2 s.1 (-1) (-1) 9 tone 0 k (f k)) ∧ TC c sz bt (upR vl t (fun i => if i < r then f i else vl t i)))))) ∧ CX sh c b β s q N (V + 1) ∧ lsF ct c) = Po
  refine Mt.of rfl (Nat.le_of_ble_eq_true rfl) ?_
  show G _ 0 [some (.inr (.inr 0)), some (.inl t), some (.inl tone), none, none, none, none] [] sh ct
  refine g_aload_n (q := 1) dX11_lists_0 rfl rfl ?_
  refine g_iload_n (q := 2) dX11_lists_1 rfl rfl ?_
  refine g_callV (q := 5) lX11_233 mX11_refusedTray nX11_refusedTray rfl (x_refusedTray (d + 4) sh _ S X T ht) (by first | assumption | exact S.at _ rfl) rfl rfl shLe.rf (rmOk.mk (by omega) (by first | exact shLe.rf | assumption)) (Nat.le_of_ble_eq_true rfl) dX11_lists_2 rfl rfl (kI fun r_ c_ hp => ?_)
  obtain ⟨hr, hq⟩ := hp
  replace hr := hr.symm
  replace hq := hq.symm
  subst hr hq
  by_cases htr : isTr t
  · rw [if_pos htr]
    have hi0 := htr.1
    have hi1 := htr.2
    by_cases hz : sz t = -1
    · rw [if_pos hz]
      refine s_istore_n_7_3 (q := 6) dX11_lists_5 rfl rfl rfl ?_
      refine g_iload_n (q := 7) dX11_lists_6 rfl rfl ?_
      refine g_if_eq (q := 10) (tg := 12) dX11_lists_7 (by decide) rfl (fun c_7 => ?_) (fun c_7 => ?_)
      · exact absurd c_7 (by decide)
      · refine g_iload_n (q := 11) dX11_lists_10 rfl rfl ?_
        refine g_ireturn dX11_lists_11 rfl ?_
        rw [← hP]
        exact ⟨_, rfl, Or.inr (Or.inl ⟨htr, hz, rfl, T⟩), X.up (by omega) hV, fun _ _ _ _ => rfl⟩
    · rw [if_neg hz]
      have hbt' := hbt htr hz
      have h40 : 0 ≤ sz t ∧ sz t ≤ 40 := by have := (T t htr.1 htr.2).2; omega
      have st := (S.tray htr.1 htr.2).1
      refine s_istore_n_7_3 (q := 6) dX11_lists_5 rfl rfl rfl ?_
      refine g_iload_n (q := 7) dX11_lists_6 rfl rfl ?_
      refine g_if_eq (q := 10) (tg := 12) dX11_lists_7 (by decide) rfl (fun c_7 => ?_) (fun c_7 => ?_)
      · refine g_iload_n (q := 13) dX11_lists_12 rfl rfl ?_
        refine g_callS (q := 16) lX11_252 mX11_isTone sX11_isTone rfl (x_isTone (d + 5) sh _ hto) shLe.rf (rmOk.mk (by omega) (by first | exact shLe.rf | assumption)) (Nat.le_of_ble_eq_true rfl) dX11_lists_13 rfl rfl (kI fun r_ c_ hp => ?_)
        obtain ⟨hr, hq⟩ := hp
        replace hr := hr.symm
        replace hq := hq.symm
        subst hr hq
        refine g_if_ne (q := 19) (tg := 22) dX11_lists_16 (by decide) rfl (fun c_16 => ?_) (fun c_16 => ?_)
        · have htn := wbn.mp c_16
          refine g_aload_n (q := 23) dX11_lists_22 rfl rfl ?_
          refine g_iload_n (q := 24) dX11_lists_23 rfl rfl ?_
          refine g_ldc2 (q := 27) dX11_lists_24 kX11_255 rfl ?_
          refine g_callV (q := 30) lX11_257 mX11_shortestBy nX11_shortestBy rfl (x_shortestBy d sh _ S X hV htn.1 (by have := htn.2; omega)) (by first | assumption | exact S.at _ rfl) rfl rfl shLe.rf (rmOk.mk (by omega) (by first | exact shLe.rf | assumption)) (Nat.le_of_ble_eq_true rfl) dX11_lists_27 rfl rfl (kI fun m c1 hp => ?_)
          obtain ⟨B, Y, f1⟩ := hp
          have hq := Y.x.qc
          have g1 := f1.g hq
          have L1 := Y.x.L
          have hN := Y.2.2.2.1.2.2.1.1.2.2.1
          have hml := B.lt hN.2
          have hwy := B.way use_all
          have T1 : TC c1 sz bt vl := T.k g1
          have l38 := (L1.tray htr.1 htr.2).1
          have hT1 := (T1 t htr.1 htr.2).1
          have l1 : lsF ct c1 := fun x a b _ => g1 x a b
          have wm : w32 m = m := w32_id (by omega) (by omega)
          have wz : w32 (sz t) = sz t := w32_id (by omega) (by omega)
          refine s_istore_7_4 (q := 32) dX11_lists_30 rfl rfl rfl ?_
          refine g_iload (q := 34) dX11_lists_32 rfl rfl ?_
          refine g_iconst (q := 35) dX11_lists_34 rfl ?_
          refine g_icmp_ne (q := 38) (tg := 41) dX11_lists_35 (by decide) rfl (fun c_35 => ?_) (fun c_35 => ?_)
          · have hm1 : m ≠ -1 := fun z => c_35 (by rw [z])
            refine g_iload (q := 43) dX11_lists_41 rfl rfl ?_
            refine g_aload_n (q := 44) dX11_lists_43 rfl rfl ?_
            refine g_getA (q := 47) (kI := 7) fX11_46 (by first | assumption | exact S.at _ rfl) dX11_lists_44 rfl rfl (by first | assumption | exact L.at _ _ rfl | exact LK.at (by assumption) _ _ rfl | ((repeat first | rewrite [wr_na (by decide)] | rewrite [wr_nk (by decide)] | rewrite [wa_na (by decide)]); first | assumption | exact LK.at (by assumption) _ _ rfl) | exact rfl) ?_
            refine g_iload_n (q := 48) dX11_lists_47 rfl rfl ?_
            refine g_aaload (q := 49) (S.at _ rfl) (by decide) (by omega) (by omega) (by omega) l38 dX11_lists_48 rfl ?_
            refine g_getI (q := 52) (kI := 1) fX11_225 st dX11_lists_49 rfl rfl ?_
            rw [hT1]
            refine g_mmin (q := 55) lX11_371 tb_mminS tb_mI tb_mminC (rmOk.mk (by omega) (by first | exact shLe.rf | assumption)) (Nat.le_of_ble_eq_true rfl) dX11_lists_52 rfl ?_
            rw [wm, wz]
            have hn : (if sz t < m then sz t else m) = (if m < sz t then m else sz t) := by
              split <;> split <;> omega
            rw [hn]
            generalize hR : (if m < sz t then m else sz t) = R
            have hRb : 0 ≤ R ∧ R ≤ m ∧ R ≤ sz t := by
              rw [← hR]
              split <;> omega
            refine s_istore_7_5 (q := 57) dX11_lists_55 rfl rfl rfl ?_
            refine g_iconst (q := 58) dX11_lists_57 rfl ?_
            refine s_istore_7_6 (q := 60) dX11_lists_58 rfl rfl rfl ?_
            refine g_forA (α := Int → Int) (fun k _ => [some (.inr (.inr 0)), some (.inl t), some (.inl tone), some (.inl 0), some (.inl m), some (.inl R), some (.inl k)]) (fun k f c => 0 ≤ k ∧ (∀ j, 0 ≤ j → j < k → miS β s.2.2 s.1 (-1) (-1) 9 tone 0 j (f j)) ∧ TC c sz bt (upR vl t (fun i => if i < k then f i else vl t i)) ∧ CY sh c b β s q N (V + 1) ∧ SB c β s q N tone 281474976710655 9 0 m ∧ lsF ct c ∧ TC c sz bt vl = TC c sz bt vl) R ?_ ?_ (i := 0) (a := vl t) (by omega) ⟨by omega, fun j _ _ => by omega, ?_, Y, B, l1, rfl⟩ (by simp [lsSub])
            · rintro k f c hk ⟨k0, hf, Tc, Yc, Bc, lc, -⟩ kk
              have Lc := Yc.x.L
              have l38' := (Lc.tray htr.1 htr.2).1
              have hKc := Yc.2.2.2.1
              refine g_iload (q := 62) dX11_lists_60 rfl rfl ?_
              refine g_iload (q := 64) dX11_lists_62 rfl rfl ?_
              refine g_icmp_ge (q := 67) (tg := 95) dX11_lists_64 (by decide) rfl (fun c_64 => ?_) (fun c_64 => ?_)
              · exact absurd c_64 (by unfold w32; omega)
              · refine g_aload_n (q := 68) dX11_lists_67 rfl rfl ?_
                refine g_getA (q := 71) (kI := 7) fX11_46 (by first | assumption | exact S.at _ rfl) dX11_lists_68 rfl rfl (by first | assumption | exact L.at _ _ rfl | exact LK.at (by assumption) _ _ rfl | ((repeat first | rewrite [wr_na (by decide)] | rewrite [wr_nk (by decide)] | rewrite [wa_na (by decide)]); first | assumption | exact LK.at (by assumption) _ _ rfl) | exact rfl) ?_
                refine g_iload_n (q := 72) dX11_lists_71 rfl rfl ?_
                refine g_aaload (q := 73) (S.at _ rfl) (by decide) (by omega) (by omega) (by omega) l38' dX11_lists_72 rfl ?_
                refine g_iload (q := 75) dX11_lists_73 rfl rfl ?_
                refine g_aload_n (q := 76) dX11_lists_75 rfl rfl ?_
                refine g_getO (q := 79) (kI := 12) fX11_88 (by first | assumption | exact S.at _ rfl) dX11_lists_76 rfl rfl (by first | assumption | exact L.at _ _ rfl | exact LK.at (by assumption) _ _ rfl | ((repeat first | rewrite [wr_na (by decide)] | rewrite [wr_nk (by decide)] | rewrite [wa_na (by decide)]); first | assumption | exact LK.at (by assumption) _ _ rfl) | exact rfl) ?_
                refine g_iload (q := 81) dX11_lists_79 rfl rfl ?_
                refine g_callV (q := 84) lX11_261 mX10_minuteAt nX10_minuteAt rfl (c_minuteAt (d + 2) sh _ S hKc.1 hKc.2.2.1 Bc.2.1 Yc.2.2.2.2.1 (i := k) (by omega) (by omega)) (by first | assumption | exact S.at _ rfl) rfl rfl shLe.rf (rmOk.mk (by omega) (by first | exact shLe.rf | assumption)) (Nat.le_of_ble_eq_true rfl) dX11_lists_81 rfl rfl (kI fun v c2 hp => ?_)
                obtain ⟨hmi, hMt⟩ := hp
                have hmS : miS β s.2.2 s.1 (-1) (-1) 9 tone 0 k v := by
                  obtain ⟨h1, h2, h3, h4, h5, h6, h7⟩ := Bc
                  rw [h3, h4, h5, h6, h7, scW_use use_all (useN_ok (-1) (-1))] at hmi
                  exact hmi
                have hvb := miS_in hwy hm1 k0 (by omega) hmS
                have Y2 := Yc.mvt hMt
                have L2 := Y2.x.L
                have e2 : ∀ x : Int, x < 68 → c2 x = c x := fun x hx => hMt.1 x (by simp; omega)
                have B2 : SB c2 β s q N tone 281474976710655 9 0 m := Bc.mv (hMt.1 77 (by decide)) (hMt.1 q (by rcases hq with h | h <;> simp <;> omega))
                have T2 : TC c2 sz bt (upR vl t (fun i => if i < k then f i else vl t i)) := TC.cg c Tc (fun x h0 h1 => e2 x (by omega))
                have h2b : c2 (39 + 2 * t) 2 = bt t := by
                  rcases (T2 t htr.1 htr.2).2 with h | h
                  · exact absurd h hz
                  · exact h.2.1
                have h21 : c2 (39 + 2 * t) 1 = sz t := (T2 t htr.1 htr.2).1
                refine g_i2l (q := 85) dX11_lists_84 rfl ?_
                rw [w32_id (x := v) (by omega) (by omega)]
                refine g_callV (q := 88) lX11_414 mX9_put nX9_put rfl (c_put (d + 5) sh _ (trAt_t S L2 htr.1 htr.2) (by omega) (i := k) (by omega) (by omega)) st rfl rfl shLe.rf (rmOk.mk (by omega) (by first | exact shLe.rf | assumption)) (Nat.le_of_ble_eq_true rfl) dX11_lists_85 rfl rfl (kL fun r_ c_ hp => ?_)
                obtain ⟨hr, hq⟩ := hp
                replace hr := hr.symm
                replace hq := hq.symm
                subst hr hq
                rw [h2b, cut_sm hbt' hvb.1 hvb.2]
                have hL3 : LK (wr c2 (39 + 2 * t + 1) k v) := L2.wr (lk_trR htr.1 htr.2 _)
                have hG3 : trG c2 (wr c2 (39 + 2 * t + 1) k v) := fun x hx => wr_other _ _ _ _ _ (by omega)
                have T3 := TC.put c2 (i := k) (v := v) T2 htr hz (by unfold i64; omega)
                refine g_pop2L (q := 89) dX11_lists_88 rfl rfl ?_
                refine s_iinc_7_6 (q := 92) dX11_lists_89 rfl rfl rfl ?_
                refine g_goto (q := 60) dX11_lists_92 (by decide) ?_
                refine kk (up1 f k v) _ _ (by simp [lsSub]) ⟨by omega, fun j j0 j1 => ?_, ?_, Y2.trg hL3 hG3, B2.mv (hG3 77 (by omega)) (hG3 q (by rcases hq with h | h <;> omega)), fun x a b e => ?_, rfl⟩
                · unfold up1
                  by_cases hj : j = k
                  · rw [if_pos hj, hj]
                    exact hmS
                  · rw [if_neg hj]
                    exact hf j j0 (by omega)
                · have : upR (upR vl t (fun i => if i < k then f i else vl t i)) t (up1 (upR vl t (fun i => if i < k then f i else vl t i) t) k v) = upR vl t (fun i => if i < k + 1 then up1 f k v i else vl t i) := by
                    funext u j
                    unfold upR up1
                    by_cases hu : u = t
                    · simp only [hu, if_true]
                      by_cases hj : j = k
                      · simp only [hj, if_true]
                        rw [if_pos (by omega)]
                      · simp only [hj, if_false]
                        by_cases hj2 : j < k
                        · rw [if_pos hj2, if_pos (by omega)]
                        · rw [if_neg hj2, if_neg (by omega)]
                    · simp only [hu, if_false]
                  rw [← this]
                  exact T3
                · rw [hG3 x e, hMt.1 x (fun z => b (by simp [KF] at z ⊢; omega))]
                  exact lc x a b e
            · rintro f c ⟨-, hf, Tc, Yc, Bc, lc, -⟩
              refine g_iload (q := 62) dX11_lists_60 rfl rfl ?_
              refine g_iload (q := 64) dX11_lists_62 rfl rfl ?_
              refine g_icmp_ge (q := 67) (tg := 95) dX11_lists_64 (by decide) rfl (fun c_64 => ?_) (fun c_64 => ?_)
              · refine g_iload (q := 97) dX11_lists_95 rfl rfl ?_
                refine g_ireturn dX11_lists_97 rfl ?_
                rw [← hP]
                exact ⟨_, rfl, Or.inr (Or.inr (Or.inr ⟨htr, hz, htn, m, hwy, Or.inr ⟨hm1, hR.symm, f, hf, Tc⟩⟩)), Yc.x, lc⟩
              · exact absurd c_64 (Int.lt_irrefl _)
            · have : upR vl t (fun i => if i < 0 then vl t i else vl t i) = vl := by
                funext u j
                unfold upR
                by_cases hu : u = t
                · simp only [hu, if_true]
                  split <;> rfl
                · simp only [hu, if_false]
              rw [this]
              exact T1
          · refine g_bipush (q := 40) dX11_lists_38 (by decide +kernel) rfl ?_
            refine g_ireturn dX11_lists_40 rfl ?_
            rw [← hP]
            exact ⟨_, rfl, Or.inr (Or.inr (Or.inr ⟨htr, hz, htn, m, hwy, Or.inl ⟨by rw [wm, show w32 (-1) = -1 from rfl] at c_35; omega, rfl, T1⟩⟩)), Y.x, l1⟩
        · refine g_bipush (q := 21) dX11_lists_19 (by decide +kernel) rfl ?_
          refine g_ireturn dX11_lists_21 rfl ?_
          rw [← hP]
          exact ⟨_, rfl, Or.inr (Or.inr (Or.inl ⟨htr, hz, wb0.mp c_16, rfl, T⟩)), X.up (by omega) hV, fun _ _ _ _ => rfl⟩
      · exact absurd rfl c_7
  · rw [if_neg htr]
    refine s_istore_n_7_3 (q := 6) dX11_lists_5 rfl rfl rfl ?_
    refine g_iload_n (q := 7) dX11_lists_6 rfl rfl ?_
    refine g_if_eq (q := 10) (tg := 12) dX11_lists_7 (by decide) rfl (fun c_7 => ?_) (fun c_7 => ?_)
    · exact absurd c_7 (by decide)
    · refine g_iload_n (q := 11) dX11_lists_10 rfl rfl ?_
      refine g_ireturn dX11_lists_11 rfl ?_
      rw [← hP]
      exact ⟨_, rfl, Or.inl ⟨htr, rfl, T⟩, X.up (by omega) hV, fun _ _ _ _ => rfl⟩
end
