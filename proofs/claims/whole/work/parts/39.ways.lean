/-! Ways as a whole -/
/-- what stands in Ways between calls -/
def WR (c : mbCt) (q : Int) (N : Nat) : Prop := c 77 1 = q ∧ qcN q ∧ (700 ≤ N ∧ N ≤ 19201) ∧ rclr c ∧ (0 ≤ c 77 7 ∧ c 77 7 < 700) ∧ (-1 ≤ c 77 8 ∧ c 77 8 ≤ 10) ∧ (0 ≤ c 77 10 ∧ c 77 10 ≤ 9) ∧ (0 ≤ c 77 11 ∧ c 77 11 < 64) ∧ (-1 ≤ c 77 6 ∧ c 77 6 ≤ c 70 7 ∧ c 70 7 < 1000000) ∧ (∃ M, M ≤ 6 ∧ c 77 11 = ((2 ^ M - 1 : Nat) : Int) ∧ ndM M ≤ N)
def WI (c : mbCt) (q : Int) (N : Nat) (β : Bk) (mk : Int → Int) : Prop := WR c q N ∧ (c 77 6 = c 70 7 → WD c q N β mk)
/-- what is known behind a search -/
def FRes (ct : mbCt) (b : Int) (β : Bk) (mk : Int → Int) (q : Int) (N : Nat) (from' tone use cap w : Int) (c : mbCt) : Prop := eqBq [68, 69, 72, 73, 75, 76, 77, 79] q ct c ∧ MV c b β mk ∧ WI c q N β mk ∧ WD c q N β mk ∧ c 77 6 = c 70 7 ∧ c 77 7 = from' ∧ c 77 8 = tone ∧ U9 c = (use % 18446744073709551616).toNat ∧ c 77 10 = cap ∧ c 77 11 = w
section
variable (d : Nat) (sh : mbSh) (ct : mbCt)
/-- the keys are written, then there is a search -/
def keyC (ct : mbCt) (from' tone use cap w : Int) : mbCt := wr (wr (wr (wr (wr (wr ct 77 6 (ct 70 7)) 77 7 from') 77 8 tone) 77 9 use) 77 10 cap) 77 11 w
theorem keyC_k (from' tone use cap w k : Int) : keyC ct from' tone use cap w 77 k = if k = 6 then ct 70 7 else if k = 7 then from' else if k = 8 then tone else if k = 9 then use else if k = 10 then cap else if k = 11 then w else ct 77 k := by
  unfold keyC wr
  grind
theorem keyC_x (from' tone use cap w : Int) {x : Int} (h : x ≠ 77) : keyC ct from' tone use cap w x = ct x := by
  unfold keyC
  rw [wr_other _ _ _ _ _ h, wr_other _ _ _ _ _ h, wr_other _ _ _ _ _ h, wr_other _ _ _ _ _ h, wr_other _ _ _ _ _ h, wr_other _ _ _ _ _ h]
theorem MV.key {ct : mbCt} {b : Int} {β : Bk} {mk : Int → Int} (h : MV ct b β mk) (from' tone use cap w : Int) : MV (keyC ct from' tone use cap w) b β mk := (((((h.w (k := 6) rfl rfl).w (k := 7) rfl rfl).w (k := 8) rfl rfl).w (k := 9) rfl rfl).w (k := 10) rfl rfl).w (k := 11) rfl rfl
theorem rclr.key {ct : mbCt} (h : rclr ct) (from' tone use cap w : Int) : rclr (keyC ct from' tone use cap w) := by
  intro st sp a0 a1 a2
  have := h st sp a0 a1 a2
  unfold rbit at this ⊢
  rw [keyC_x ct from' tone use cap w (by decide)]
  exact this
theorem FRes.of {b : Int} {β : Bk} {mk : Int → Int} {q from' tone use cap w : Int} {N : Nat} {c0 c : mbCt} (W : WR ct q N) (hN : WR ct q N) {q2 : Int} {N2 : Nat} (hq2 : qcN q2) (hN2 : 700 ≤ N2 ∧ N2 ≤ 19201) (f0 : 0 ≤ from') (f1 : from' < 700) (t0 : -1 ≤ tone) (t1 : tone ≤ 10) (hc0 : 0 ≤ cap) (hc1 : cap ≤ 9) (hw0 : 0 ≤ w) (hw1 : w < 64) (hwM : ∃ M, M ≤ 6 ∧ w = ((2 ^ M - 1 : Nat) : Int) ∧ ndM M ≤ N2) (e0 : eqBq [77] q2 ct c0) (k1 : c0 77 1 = q2) (kk : ∀ k, k ≠ 1 → c0 77 k = keyC ct from' tone use cap w 77 k) (h : FPost c0 b β mk q2 N2 c) : FRes ct b β mk q2 N2 from' tone use cap w c := by
  obtain ⟨p1, p2, p3, p4, p5⟩ := h
  have q70 : (70 : Int) ≠ q2 := by rcases hq2 with h | h <;> omega
  have e70 : c 70 = ct 70 := by rw [p1 70 (by decide) q70, e0 70 (by decide) q70]
  have g : ∀ k, k ≠ 1 → k ≠ 2 → k ≠ 4 → k ≠ 5 → c 77 k = keyC ct from' tone use cap w 77 k := fun k a b' c' d' => by rw [p3 k b' c' d', kk k a]
  have g6 : c 77 6 = ct 70 7 := by rw [g 6 (by decide) (by decide) (by decide) (by decide), keyC_k]; rfl
  have g7 : c 77 7 = from' := by rw [g 7 (by decide) (by decide) (by decide) (by decide), keyC_k]; rfl
  have g8 : c 77 8 = tone := by rw [g 8 (by decide) (by decide) (by decide) (by decide), keyC_k]; rfl
  have g9 : c 77 9 = use := by rw [g 9 (by decide) (by decide) (by decide) (by decide), keyC_k]; rfl
  have g10 : c 77 10 = cap := by rw [g 10 (by decide) (by decide) (by decide) (by decide), keyC_k]; rfl
  have g11 : c 77 11 = w := by rw [g 11 (by decide) (by decide) (by decide) (by decide), keyC_k]; rfl
  refine ⟨(e0.mono (by decide)).tr p1, p2, ⟨⟨by rw [p3 1 (by decide) (by decide) (by decide)]; exact k1, hq2, hN2, p4, by rw [g7]; exact ⟨f0, f1⟩, by rw [g8]; exact ⟨t0, t1⟩, by rw [g10]; exact ⟨hc0, hc1⟩, by rw [g11]; exact ⟨hw0, hw1⟩, ?_, by rw [g11]; exact hwM⟩, fun _ => p5⟩, p5, by rw [g6, e70], g7, g8, by unfold U9; rw [g9], g10, g11⟩
  rw [g6, e70]
  have := W.2.2.2.2.2.2.2.2.1
  omega
theorem c_find {q b from' tone use cap : Int} {β : Bk} {mk : Int → Int} {N M : Nat} (S : SH sh) (MM : MV ct b β mk) (W : WI ct q N β mk) (sq : shA sh q = some (20, N)) (f0 : 0 ≤ from') (f1 : from' < 700) (t0 : -1 ≤ tone) (t1 : tone ≤ 10) (hc0 : 0 ≤ cap) (hc1 : cap ≤ 9) (hcool : coolB cap from' = true) (hM : M ≤ 6) (hm : M = 0 ∨ (M : Int) = β.n 2) (hroom : ndM M ≤ N) : Mt YX10_find (d + 4) [.inr (.inr 77), .inl from', .inl tone, .inr (.inl use), .inl cap, .inl ((2 ^ M - 1 : Nat) : Int)] sh sh ct (pI fun r c => r = c 77 5 ∧ FRes ct b β mk q N from' tone use cap ((2 ^ M - 1 : Nat) : Int) c) := by
  obtain ⟨w1, w2, w3, w4, w5, w6, w7, w8, w9, w10⟩ := id W.1
  have L := MM.L
  have hw : 2 ^ M - 1 < 64 := by
    have : 2 ^ M ≤ 2 ^ 6 := Nat.pow_le_pow_right (by decide) hM
    omega
  generalize hwe : ((2 ^ M - 1 : Nat) : Int) = w
  have hw0 : 0 ≤ w ∧ w < 64 := by omega
  generalize hP : (pI fun r c => r = c 77 5 ∧ FRes ct b β mk q N from' tone use cap w c) = Po
  have q70 : (70 : Int) ≠ q := by rcases w2 with h | h <;> omega
  have search : G (mkK YX10_find (d + 4) sh sh Po) 62 [some (.inr (.inr 77)), some (.inl from'), some (.inl tone), some (.inr (.inl use)), none, some (.inl cap), some (.inl w), none] [] sh ct := by
    refine g_aload_n (q := 63) dX10_find_62 rfl rfl ?_
    refine g_aload_n (q := 64) dX10_find_63 rfl rfl ?_
    refine g_getO (q := 67) (kI := 0) fX10_29 (by first | assumption | exact S.at _ rfl) dX10_find_64 rfl rfl (by first | assumption | exact L.at _ _ rfl | exact LK.at (by assumption) _ _ rfl | ((repeat first | rewrite [wr_na (by decide)] | rewrite [wr_nk (by decide)] | rewrite [wa_na (by decide)]); first | assumption | exact LK.at (by assumption) _ _ rfl) | exact rfl) ?_
    refine g_getI (q := 70) (kI := 7) fX10_33 (by first | assumption | exact S.at _ rfl) dX10_find_67 rfl rfl ?_
    refine g_putI (q := 73) (kI := 6) fX10_26 (by first | assumption | exact S.at _ rfl) dX10_find_70 rfl rfl ?_
    refine g_aload_n (q := 74) dX10_find_73 rfl rfl ?_
    refine g_iload_n (q := 75) dX10_find_74 rfl rfl ?_
    refine g_putI (q := 78) (kI := 7) fX10_36 (by first | assumption | exact S.at _ rfl) dX10_find_75 rfl rfl ?_
    refine g_aload_n (q := 79) dX10_find_78 rfl rfl ?_
    refine g_iload_n (q := 80) dX10_find_79 rfl rfl ?_
    refine g_putI (q := 83) (kI := 8) fX10_39 (by first | assumption | exact S.at _ rfl) dX10_find_80 rfl rfl ?_
    refine g_aload_n (q := 84) dX10_find_83 rfl rfl ?_
    refine g_lload_n (q := 85) dX10_find_84 rfl rfl ?_
    refine g_putJ (q := 88) (kI := 9) fX10_42 (by first | assumption | exact S.at _ rfl) dX10_find_85 rfl rfl ?_
    refine g_aload_n (q := 89) dX10_find_88 rfl rfl ?_
    refine g_iload (q := 91) dX10_find_89 rfl rfl ?_
    refine g_putI (q := 94) (kI := 10) fX10_46 (by first | assumption | exact S.at _ rfl) dX10_find_91 rfl rfl ?_
    refine g_aload_n (q := 95) dX10_find_94 rfl rfl ?_
    refine g_iload (q := 97) dX10_find_95 rfl rfl ?_
    refine g_putI (q := 100) (kI := 11) fX10_49 (by first | assumption | exact S.at _ rfl) dX10_find_97 rfl rfl ?_
    show G _ 100 _ _ sh (keyC ct from' tone use cap w)
    refine g_aload_n (q := 101) dX10_find_100 rfl rfl ?_
    refine g_callV (q := 104) lX10_52 mX10_makeRoom nX10_makeRoom rfl (c_room0 (d + 2) sh _ S (q := q) (by rw [keyC_k]; exact w1) sq w3.2 hM (by rw [keyC_k]; exact hwe.symm) hroom) (by first | assumption | exact S.at _ rfl) rfl rfl shLe.rf (rmOk.mk (by omega) (by first | exact shLe.rf | assumption)) (Nat.le_of_ble_eq_true rfl) dX10_find_101 rfl rfl (kN fun c hp => ?_)
    subst hp
    refine g_find d sh sh _ (ok := okW M (from', 0)) S (MM.key from' tone use cap w) w2 sq w3.1 w3.2 (by rw [keyC_k]; exact w1) (by rw [keyC_k]; rfl) f0 f1 (by rw [keyC_k]; rfl) t0 t1 (by rw [keyC_k]; rfl) hc0 hc1 hcool (by rw [keyC_k]; rfl) hw0.1 hw0.2 (w4.key _ _ _ _ _) ?_ ?_ (cap_M hM hroom) ?_
    · refine ⟨⟨f0, f1⟩, ?_⟩
      by_cases h0 : M = 0
      · exact Or.inl ⟨h0, rfl⟩
      · exact Or.inr ⟨by omega, Or.inl rfl⟩
    · rw [← hwe]
      exact ok_M hM hm rfl
    · intro c hc
      rw [← hP]
      refine ⟨_, rfl, rfl, FRes.of ct W.1 W.1 w2 w3 f0 f1 t0 t1 hc0 hc1 hw0.1 hw0.2 ⟨M, hM, hwe.symm, hroom⟩ ?_ ?_ (fun _ _ => rfl) hc⟩
      · intro x hx hq
        exact keyC_x ct _ _ _ _ _ (by simpa using hx)
      · rw [keyC_k]
        exact w1
  refine Mt.of rfl (Nat.le_of_ble_eq_true rfl) ?_
  show G _ 0 [some (.inr (.inr 77)), some (.inl from'), some (.inl tone), some (.inr (.inl use)), none, some (.inl cap), some (.inl w), none] [] sh ct
  refine g_aload_n (q := 1) dX10_find_0 rfl rfl ?_
  refine g_getI (q := 4) (kI := 6) fX10_26 (by first | assumption | exact S.at _ rfl) dX10_find_1 rfl rfl ?_
  refine g_aload_n (q := 5) dX10_find_4 rfl rfl ?_
  refine g_getO (q := 8) (kI := 0) fX10_29 (by first | assumption | exact S.at _ rfl) dX10_find_5 rfl rfl (by first | assumption | exact L.at _ _ rfl | exact LK.at (by assumption) _ _ rfl | ((repeat first | rewrite [wr_na (by decide)] | rewrite [wr_nk (by decide)] | rewrite [wa_na (by decide)]); first | assumption | exact LK.at (by assumption) _ _ rfl) | exact rfl) ?_
  refine g_getI (q := 11) (kI := 7) fX10_33 (by first | assumption | exact S.at _ rfl) dX10_find_8 rfl rfl ?_
  refine g_icmp_ne (q := 14) (tg := 62) dX10_find_11 (by decide) rfl (fun c_11 => ?_) (fun c_11 => ?_)
  · exact search
  · refine g_aload_n (q := 15) dX10_find_14 rfl rfl ?_
    refine g_getI (q := 18) (kI := 7) fX10_36 (by first | assumption | exact S.at _ rfl) dX10_find_15 rfl rfl ?_
    refine g_iload_n (q := 19) dX10_find_18 rfl rfl ?_
    refine g_icmp_ne (q := 22) (tg := 62) dX10_find_19 (by decide) rfl (fun c_19 => ?_) (fun c_19 => ?_)
    · exact search
    · refine g_aload_n (q := 23) dX10_find_22 rfl rfl ?_
      refine g_getI (q := 26) (kI := 8) fX10_39 (by first | assumption | exact S.at _ rfl) dX10_find_23 rfl rfl ?_
      refine g_iload_n (q := 27) dX10_find_26 rfl rfl ?_
      refine g_icmp_ne (q := 30) (tg := 62) dX10_find_27 (by decide) rfl (fun c_27 => ?_) (fun c_27 => ?_)
      · exact search
      · refine g_aload_n (q := 31) dX10_find_30 rfl rfl ?_
        refine g_getJ (q := 34) (kI := 9) fX10_42 (by first | assumption | exact S.at _ rfl) dX10_find_31 rfl rfl ?_
        refine g_lload_n (q := 35) dX10_find_34 rfl rfl ?_
        refine g_lcmp (q := 36) dX10_find_35 rfl ?_
        refine g_if_ne (q := 39) (tg := 62) dX10_find_36 (by decide) rfl (fun c_36 => ?_) (fun c_36 => ?_)
        · exact search
        · refine g_aload_n (q := 40) dX10_find_39 rfl rfl ?_
          refine g_getI (q := 43) (kI := 10) fX10_46 (by first | assumption | exact S.at _ rfl) dX10_find_40 rfl rfl ?_
          refine g_iload (q := 45) dX10_find_43 rfl rfl ?_
          refine g_icmp_ne (q := 48) (tg := 62) dX10_find_45 (by decide) rfl (fun c_45 => ?_) (fun c_45 => ?_)
          · exact search
          · refine g_aload_n (q := 49) dX10_find_48 rfl rfl ?_
            refine g_getI (q := 52) (kI := 11) fX10_49 (by first | assumption | exact S.at _ rfl) dX10_find_49 rfl rfl ?_
            refine g_iload (q := 54) dX10_find_52 rfl rfl ?_
            refine g_icmp_ne (q := 57) (tg := 62) dX10_find_54 (by decide) rfl (fun c_54 => ?_) (fun c_54 => ?_)
            · exact search
            · refine g_aload_n (q := 58) dX10_find_57 rfl rfl ?_
              refine g_getI (q := 61) (kI := 5) fX10_23 (by first | assumption | exact S.at _ rfl) dX10_find_58 rfl rfl ?_
              refine g_ireturn dX10_find_61 rfl ?_
              have hv : ct 77 6 = ct 70 7 := by unfold w32 at c_11; omega
              have hs : ct 77 7 = from' := by unfold w32 at c_19; omega
              have ht : ct 77 8 = tone := by unfold w32 at c_27; omega
              have hc : ct 77 10 = cap := by unfold w32 at c_45; omega
              have hww : ct 77 11 = w := by unfold w32 at c_54; omega
              have hu : U9 ct = (use % 18446744073709551616).toNat := by
                have : w64 (ct 77 9) = w64 use := by
                  unfold cmpL at c_36
                  split at c_36
                  · assumption
                  · split at c_36
                    · exact absurd c_36 (by decide)
                    · exact absurd c_36 (by decide)
                unfold U9
                rw [← w64_em (ct 77 9), this, w64_em]
              rw [← hP]
              exact ⟨_, rfl, rfl, eqBq.rf, MM, W, W.2 hv, hv, hs, ht, hu, hc, hww⟩
theorem c_find1 {q b from' tone use cap : Int} {β : Bk} {mk : Int → Int} {N M : Nat} (S : SH sh) (hl : 114 ≤ sh.length) (MM : MV ct b β mk) (W : WI ct q N β mk) (sq : shA sh q = some (20, N)) (f0 : 0 ≤ from') (f1 : from' < 700) (t0 : -1 ≤ tone) (t1 : tone ≤ 10) (hc0 : 0 ≤ cap) (hc1 : cap ≤ 9) (hcool : coolB cap from' = true) (hM : M ≤ 6) (hm : M = 0 ∨ (M : Int) = β.n 2) (hroom : N < ndM M) : Mt YX10_find (d + 4) [.inr (.inr 77), .inl from', .inl tone, .inr (.inl use), .inl cap, .inl ((2 ^ M - 1 : Nat) : Int)] sh (sh ++ [(20, ndM M)]) ct (pI fun r c => r = c 77 5 ∧ FRes ct b β mk sh.length (ndM M) from' tone use cap ((2 ^ M - 1 : Nat) : Int) c) := by
  obtain ⟨w1, w2, w3, w4, w5, w6, w7, w8, w9, w10⟩ := id W.1
  have L := MM.L
  have hnd := ndM_le M hM
  have hw : 2 ^ M - 1 < 64 := by
    have : 2 ^ M ≤ 2 ^ 6 := Nat.pow_le_pow_right (by decide) hM
    omega
  generalize hwe : ((2 ^ M - 1 : Nat) : Int) = w
  have hw0 : 0 ≤ w ∧ w < 64 := by omega
  generalize hP : (pI fun r c => r = c 77 5 ∧ FRes ct b β mk sh.length (ndM M) from' tone use cap w c) = Po
  have S2 : SH (sh ++ [(20, ndM M)]) := S.app hl
  have hq2 : qcN sh.length := Or.inr (by omega)
  have hle : shLe sh (sh ++ [(20, ndM M)]) := shLe.app _ _
  have search : G (mkK YX10_find (d + 4) sh (sh ++ [(20, ndM M)]) Po) 62 [some (.inr (.inr 77)), some (.inl from'), some (.inl tone), some (.inr (.inl use)), none, some (.inl cap), some (.inl w), none] [] sh ct := by
    refine g_aload_n (q := 63) dX10_find_62 rfl rfl ?_
    refine g_aload_n (q := 64) dX10_find_63 rfl rfl ?_
    refine g_getO (q := 67) (kI := 0) fX10_29 (by first | assumption | exact S.at _ rfl) dX10_find_64 rfl rfl (by first | assumption | exact L.at _ _ rfl | exact LK.at (by assumption) _ _ rfl | ((repeat first | rewrite [wr_na (by decide)] | rewrite [wr_nk (by decide)] | rewrite [wa_na (by decide)]); first | assumption | exact LK.at (by assumption) _ _ rfl) | exact rfl) ?_
    refine g_getI (q := 70) (kI := 7) fX10_33 (by first | assumption | exact S.at _ rfl) dX10_find_67 rfl rfl ?_
    refine g_putI (q := 73) (kI := 6) fX10_26 (by first | assumption | exact S.at _ rfl) dX10_find_70 rfl rfl ?_
    refine g_aload_n (q := 74) dX10_find_73 rfl rfl ?_
    refine g_iload_n (q := 75) dX10_find_74 rfl rfl ?_
    refine g_putI (q := 78) (kI := 7) fX10_36 (by first | assumption | exact S.at _ rfl) dX10_find_75 rfl rfl ?_
    refine g_aload_n (q := 79) dX10_find_78 rfl rfl ?_
    refine g_iload_n (q := 80) dX10_find_79 rfl rfl ?_
    refine g_putI (q := 83) (kI := 8) fX10_39 (by first | assumption | exact S.at _ rfl) dX10_find_80 rfl rfl ?_
    refine g_aload_n (q := 84) dX10_find_83 rfl rfl ?_
    refine g_lload_n (q := 85) dX10_find_84 rfl rfl ?_
    refine g_putJ (q := 88) (kI := 9) fX10_42 (by first | assumption | exact S.at _ rfl) dX10_find_85 rfl rfl ?_
    refine g_aload_n (q := 89) dX10_find_88 rfl rfl ?_
    refine g_iload (q := 91) dX10_find_89 rfl rfl ?_
    refine g_putI (q := 94) (kI := 10) fX10_46 (by first | assumption | exact S.at _ rfl) dX10_find_91 rfl rfl ?_
    refine g_aload_n (q := 95) dX10_find_94 rfl rfl ?_
    refine g_iload (q := 97) dX10_find_95 rfl rfl ?_
    refine g_putI (q := 100) (kI := 11) fX10_49 (by first | assumption | exact S.at _ rfl) dX10_find_97 rfl rfl ?_
    show G _ 100 _ _ sh (keyC ct from' tone use cap w)
    refine g_aload_n (q := 101) dX10_find_100 rfl rfl ?_
    refine g_callV (q := 104) lX10_52 mX10_makeRoom nX10_makeRoom rfl (c_room1 (d + 2) sh _ S (q := q) (by rw [keyC_k]; exact w1) sq w3.2 hM (by rw [keyC_k]; exact hwe.symm) hroom) (by first | assumption | exact S.at _ rfl) rfl rfl hle (rmOk.mk (by omega) (by first | exact shLe.rf | assumption)) (Nat.le_of_ble_eq_true rfl) dX10_find_101 rfl rfl (kN fun c hp => ?_)
    have kk : ∀ k, k ≠ 1 → c 77 k = keyC ct from' tone use cap w 77 k := fun k hk => by rw [hp, wr_nk hk, wa_na (by omega)]
    have k1 : c 77 1 = sh.length := by rw [hp, wr_eq]
    have e0 : eqBq [77] sh.length ct c := by
      intro x hx hq
      rw [hp, wr_other _ _ _ _ _ (by simpa using hx), wa_other _ _ _ _ hq]
      exact keyC_x ct _ _ _ _ _ (by simpa using hx)
    have M2 : MV c b β mk := by
      refine (MM.key from' tone use cap w).q hq2 ?_ ?_
      · intro x hx hq
        rw [hp, wr_other _ _ _ _ _ (by simp at hx; exact hx.1), wa_other _ _ _ _ hq]
      · intro k v hv
        have hk : k ≠ 1 := fun e => by rw [e] at hv; cases hv
        rw [kk k hk]
        exact (MM.key from' tone use cap w).L 77 k v hv
    have hr : rclr c := by
      intro st sp a0 a1 a2
      have := (w4.key from' tone use cap w) st sp a0 a1 a2
      unfold rbit at this ⊢
      rw [hp, wr_na (by decide), wa_na (by omega)]
      exact this
    have kv : ∀ k, k ≠ 1 → ∀ v, keyC ct from' tone use cap w 77 k = v → c 77 k = v := fun k hk v hv => by rw [kk k hk]; exact hv
    refine g_find d sh _ c (ok := okW M (from', 0)) S2 M2 hq2 shA_end hnd.1 hnd.2 k1 (kv 7 (by decide) _ (by rw [keyC_k]; rfl)) f0 f1 (kv 8 (by decide) _ (by rw [keyC_k]; rfl)) t0 t1 (kv 10 (by decide) _ (by rw [keyC_k]; rfl)) hc0 hc1 hcool (kv 11 (by decide) _ (by rw [keyC_k]; rfl)) hw0.1 hw0.2 hr ?_ ?_ (cap_M hM (Nat.le_refl _)) ?_
    · refine ⟨⟨f0, f1⟩, ?_⟩
      by_cases h0 : M = 0
      · exact Or.inl ⟨h0, rfl⟩
      · exact Or.inr ⟨by omega, Or.inl rfl⟩
    · rw [← hwe]
      exact ok_M hM hm rfl
    · intro c2 hc
      rw [← hP]
      exact ⟨_, rfl, rfl, FRes.of ct W.1 W.1 hq2 hnd f0 f1 t0 t1 hc0 hc1 hw0.1 hw0.2 ⟨M, hM, hwe.symm, Nat.le_refl _⟩ e0 k1 kk hc⟩
  refine Mt.of rfl (Nat.le_of_ble_eq_true rfl) ?_
  show G _ 0 [some (.inr (.inr 77)), some (.inl from'), some (.inl tone), some (.inr (.inl use)), none, some (.inl cap), some (.inl w), none] [] sh ct
  refine g_aload_n (q := 1) dX10_find_0 rfl rfl ?_
  refine g_getI (q := 4) (kI := 6) fX10_26 (by first | assumption | exact S.at _ rfl) dX10_find_1 rfl rfl ?_
  refine g_aload_n (q := 5) dX10_find_4 rfl rfl ?_
  refine g_getO (q := 8) (kI := 0) fX10_29 (by first | assumption | exact S.at _ rfl) dX10_find_5 rfl rfl (by first | assumption | exact L.at _ _ rfl | exact LK.at (by assumption) _ _ rfl | ((repeat first | rewrite [wr_na (by decide)] | rewrite [wr_nk (by decide)] | rewrite [wa_na (by decide)]); first | assumption | exact LK.at (by assumption) _ _ rfl) | exact rfl) ?_
  refine g_getI (q := 11) (kI := 7) fX10_33 (by first | assumption | exact S.at _ rfl) dX10_find_8 rfl rfl ?_
  refine g_icmp_ne (q := 14) (tg := 62) dX10_find_11 (by decide) rfl (fun c_11 => ?_) (fun c_11 => ?_)
  · exact search
  · refine g_aload_n (q := 15) dX10_find_14 rfl rfl ?_
    refine g_getI (q := 18) (kI := 7) fX10_36 (by first | assumption | exact S.at _ rfl) dX10_find_15 rfl rfl ?_
    refine g_iload_n (q := 19) dX10_find_18 rfl rfl ?_
    refine g_icmp_ne (q := 22) (tg := 62) dX10_find_19 (by decide) rfl (fun c_19 => ?_) (fun c_19 => ?_)
    · exact search
    · refine g_aload_n (q := 23) dX10_find_22 rfl rfl ?_
      refine g_getI (q := 26) (kI := 8) fX10_39 (by first | assumption | exact S.at _ rfl) dX10_find_23 rfl rfl ?_
      refine g_iload_n (q := 27) dX10_find_26 rfl rfl ?_
      refine g_icmp_ne (q := 30) (tg := 62) dX10_find_27 (by decide) rfl (fun c_27 => ?_) (fun c_27 => ?_)
      · exact search
      · refine g_aload_n (q := 31) dX10_find_30 rfl rfl ?_
        refine g_getJ (q := 34) (kI := 9) fX10_42 (by first | assumption | exact S.at _ rfl) dX10_find_31 rfl rfl ?_
        refine g_lload_n (q := 35) dX10_find_34 rfl rfl ?_
        refine g_lcmp (q := 36) dX10_find_35 rfl ?_
        refine g_if_ne (q := 39) (tg := 62) dX10_find_36 (by decide) rfl (fun c_36 => ?_) (fun c_36 => ?_)
        · exact search
        · refine g_aload_n (q := 40) dX10_find_39 rfl rfl ?_
          refine g_getI (q := 43) (kI := 10) fX10_46 (by first | assumption | exact S.at _ rfl) dX10_find_40 rfl rfl ?_
          refine g_iload (q := 45) dX10_find_43 rfl rfl ?_
          refine g_icmp_ne (q := 48) (tg := 62) dX10_find_45 (by decide) rfl (fun c_45 => ?_) (fun c_45 => ?_)
          · exact search
          · refine g_aload_n (q := 49) dX10_find_48 rfl rfl ?_
            refine g_getI (q := 52) (kI := 11) fX10_49 (by first | assumption | exact S.at _ rfl) dX10_find_49 rfl rfl ?_
            refine g_iload (q := 54) dX10_find_52 rfl rfl ?_
            refine g_icmp_ne (q := 57) (tg := 62) dX10_find_54 (by decide) rfl (fun c_54 => ?_) (fun c_54 => ?_)
            · exact search
            · exfalso
              have hww : ct 77 11 = w := by unfold w32 at c_54; omega
              obtain ⟨M2, m1, m2, m3⟩ := w10
              have : M2 = M := by
                have e : ((2 ^ M2 - 1 : Nat) : Int) = ((2 ^ M - 1 : Nat) : Int) := by rw [← m2, hww, hwe]
                have p1 : 0 < 2 ^ M := Nat.pow_pos (by decide)
                have p2 : 0 < 2 ^ M2 := Nat.pow_pos (by decide)
                have e2 : 2 ^ M2 = 2 ^ M := by omega
                exact (Nat.pow_right_inj (by decide)).mp e2
              subst this
              omega
end
/-- the first of a list that is so -/
theorem first_of {β : Type} {P : β → Prop} : ∀ {l : List β}, (∃ q ∈ l, P q) → ∃ pre q post, l = pre ++ q :: post ∧ P q ∧ ∀ x ∈ pre, ¬ P x
  | [], ⟨_, h, _⟩ => by cases h
  | a :: l, h => by
    by_cases ha : P a
    · exact ⟨[], a, l, rfl, ha, fun x hx => (by cases hx)⟩
    · have : ∃ q ∈ l, P q := by
        obtain ⟨q, hq, hp⟩ := h
        rcases List.mem_cons.mp hq with e | e
        · subst e
          exact absurd hp ha
        · exact ⟨q, e, hp⟩
      obtain ⟨pre, q, post, e, h1, h2⟩ := first_of this
      refine ⟨a :: pre, q, post, by rw [e]; rfl, h1, fun x hx => ?_⟩
      rcases List.mem_cons.mp hx with e2 | e2
      · subst e2
        exact ha
      · exact h2 x e2
/-- how many steps are the fewest; none -/
def WayOk {α : Type} (sc : α → List (Nat × α)) (goal : α → Prop) (s0 : α) (r : Int) : Prop := (r = -1 ∧ ∀ n, ¬ Rn sc goal n s0) ∨ ∃ n : Nat, r = n ∧ Rn sc goal n s0 ∧ ∀ m, m < n → ¬ Rn sc goal m s0
/-- the i-th step of the first way of the fewest steps; none -/
def MinOk {α : Type} (sc : α → List (Nat × α)) (goal : α → Prop) (s0 : α) (i r : Int) : Prop := (r = -1 ∧ ∀ n, ¬ Rn sc goal n s0) ∨ ∃ (n : Nat) (l : List Nat), Rn sc goal n s0 ∧ (∀ m, m < n → ¬ Rn sc goal m s0) ∧ Gr sc goal n s0 l ∧ ((0 ≤ i ∧ i < n ∧ r = mnt (l.getD i.toNat 0)) ∨ (¬ (0 ≤ i ∧ i < n) ∧ r = -1))
theorem WayOk.uni {α : Type} {sc : α → List (Nat × α)} {goal : α → Prop} {s0 : α} {r r2 : Int} (h : WayOk sc goal s0 r) (h2 : WayOk sc goal s0 r2) : r = r2 := by
  rcases h with ⟨a, b⟩ | ⟨n, a, b, c⟩
  · rcases h2 with ⟨a2, b2⟩ | ⟨n2, a2, b2, c2⟩
    · rw [a, a2]
    · exact absurd b2 (b n2)
  · rcases h2 with ⟨a2, b2⟩ | ⟨n2, a2, b2, c2⟩
    · exact absurd b (b2 n)
    · have : n = n2 := by
        rcases Nat.lt_trichotomy n n2 with h | h | h
        · exact absurd b (c2 n h)
        · exact h
        · exact absurd b2 (c n2 h)
      rw [a, a2, this]
theorem MinOk.uni {α : Type} {sc : α → List (Nat × α)} {goal : α → Prop} {s0 : α} {i r r2 : Int} (h : MinOk sc goal s0 i r) (h2 : MinOk sc goal s0 i r2) : r = r2 := by
  rcases h with ⟨a, b⟩ | ⟨n, l, b, c, g, a⟩
  · rcases h2 with ⟨a2, b2⟩ | ⟨n2, l2, b2, c2, g2, a2⟩
    · rw [a, a2]
    · exact absurd b2 (b n2)
  · rcases h2 with ⟨a2, b2⟩ | ⟨n2, l2, b2, c2, g2, a2⟩
    · exact absurd b (b2 n)
    · have : n = n2 := by
        rcases Nat.lt_trichotomy n n2 with h | h | h
        · exact absurd b (c2 n h)
        · exact h
        · exact absurd b2 (c n2 h)
      subst this
      have := g.uni g2
      subst this
      rcases a with ⟨a1, a3, a4⟩ | ⟨a1, a4⟩ <;> rcases a2 with ⟨x1, x3, x4⟩ | ⟨x1, x4⟩ <;> omega
theorem BF.lab {α : Type} {sc : α → List (Nat × α)} {s0 : α} {nd : Nat → α} {pr : Nat → Nat} {n e : Nat} (h : BF sc s0 nd pr n e []) : ∃ lab : Nat → Nat, ∀ j, 0 < j → j < n → ∃ pre post, sc (nd (pr j)) = pre ++ (lab j, nd j) :: post ∧ ∀ q ∈ pre, q.2 ≠ nd j := by
  have key : ∀ j, ∃ v : Nat, 0 < j → j < n → ∃ pre post, sc (nd (pr j)) = pre ++ (v, nd j) :: post ∧ ∀ q ∈ pre, q.2 ≠ nd j := by
    intro j
    by_cases hj : 0 < j ∧ j < n
    · obtain ⟨pre, q, post, e, h1, h2⟩ := first_of (P := fun q : Nat × α => q.2 = nd j) (h.pl hj.1 hj.2).2.2
      refine ⟨q.1, fun _ _ => ⟨pre, post, ?_, h2⟩⟩
      rw [e, ← h1]
    · exact ⟨0, fun a b => absurd ⟨a, b⟩ hj⟩
  exact ⟨fun j => Classical.choose (key j), fun j => Classical.choose_spec (key j)⟩
/-- what the length of a search tells -/
theorem WD.len {c : mbCt} {q : Int} {N : Nat} {β : Bk} {mk : Int → Int} (h : WD c q N β mk) : WayOk (scW β mk (U9 c) (c 77 10) (c 77 11)) (goalW β (c 77 8) (c 77 11)) (c 77 7, 0) (c 77 5) := by
  obtain ⟨n, f, h1, h2, h3, B, h5, h6⟩ := h
  rcases h6 with ⟨a, b, e, g⟩ | ⟨a, b, e⟩
  · obtain ⟨lab, hl⟩ := B.lab
    have := B.way h5 a b hl
    exact Or.inr ⟨_, g, this.2.1, this.2.2⟩
  · subst a
    exact Or.inl ⟨e, B.none h5⟩
