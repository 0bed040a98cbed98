/-! MinuteBook: what is forced -/
theorem dX11_forcedBy_0 : decode cX11_forcedBy 0 = .ok (.aload_n 0, 1) := by decide +kernel
theorem dX11_forcedBy_1 : decode cX11_forcedBy 1 = .ok (.getfield 79, 3) := by decide +kernel
theorem dX11_forcedBy_4 : decode cX11_forcedBy 4 = .ok (.aload_n 0, 1) := by decide +kernel
theorem dX11_forcedBy_5 : decode cX11_forcedBy 5 = .ok (.getfield 30, 3) := by decide +kernel
theorem dX11_forcedBy_8 : decode cX11_forcedBy 8 = .ok (.getfield 139, 3) := by decide +kernel
theorem dX11_forcedBy_11 : decode cX11_forcedBy 11 = .ok (.invokevirtual 273, 3) := by decide +kernel
theorem dX11_forcedBy_14 : decode cX11_forcedBy 14 = .ok (.aload_n 0, 1) := by decide +kernel
theorem dX11_forcedBy_15 : decode cX11_forcedBy 15 = .ok (.getfield 104, 3) := by decide +kernel
theorem dX11_forcedBy_18 : decode cX11_forcedBy 18 = .ok (.aload_n 0, 1) := by decide +kernel
theorem dX11_forcedBy_19 : decode cX11_forcedBy 19 = .ok (.getfield 30, 3) := by decide +kernel
theorem dX11_forcedBy_22 : decode cX11_forcedBy 22 = .ok (.getfield 151, 3) := by decide +kernel
theorem dX11_forcedBy_25 : decode cX11_forcedBy 25 = .ok (.iload_n 1, 1) := by decide +kernel
theorem dX11_forcedBy_26 : decode cX11_forcedBy 26 = .ok (.invokevirtual 384, 3) := by decide +kernel
theorem dX11_forcedBy_29 : decode cX11_forcedBy 29 = .ok (.ireturn, 1) := by decide +kernel
theorem dX11_forces_0 : decode cX11_forces 0 = .ok (.iload_n 1, 1) := by decide +kernel
theorem dX11_forces_1 : decode cX11_forces 1 = .ok (.invokestatic 252, 3) := by decide +kernel
theorem dX11_forces_4 : decode cX11_forces 4 = .ok (.ifCond .eq 11, 3) := by decide +kernel
theorem dX11_forces_7 : decode cX11_forces 7 = .ok (.aload_n 0, 1) := by decide +kernel
theorem dX11_forces_8 : decode cX11_forces 8 = .ok (.iload_n 1, 1) := by decide +kernel
theorem dX11_forces_9 : decode cX11_forces 9 = .ok (.invokevirtual 378, 3) := by decide +kernel
theorem dX11_forces_12 : decode cX11_forces 12 = .ok (.goto 5, 3) := by decide +kernel
theorem dX11_forces_15 : decode cX11_forces 15 = .ok (.bipush (-3), 2) := by decide +kernel
theorem dX11_forces_17 : decode cX11_forces 17 = .ok (.ireturn, 1) := by decide +kernel
theorem dX11_best_0 : decode cX11_best 0 = .ok (.iload_n 1, 1) := by decide +kernel
theorem dX11_best_1 : decode cX11_best 1 = .ok (.invokestatic 252, 3) := by decide +kernel
theorem dX11_best_4 : decode cX11_best 4 = .ok (.ifCond .ne 6, 3) := by decide +kernel
theorem dX11_best_7 : decode cX11_best 7 = .ok (.bipush (-3), 2) := by decide +kernel
theorem dX11_best_9 : decode cX11_best 9 = .ok (.ireturn, 1) := by decide +kernel
theorem dX11_best_10 : decode cX11_best 10 = .ok (.aload_n 0, 1) := by decide +kernel
theorem dX11_best_11 : decode cX11_best 11 = .ok (.iload_n 1, 1) := by decide +kernel
theorem dX11_best_12 : decode cX11_best 12 = .ok (.invokevirtual 378, 3) := by decide +kernel
theorem dX11_best_15 : decode cX11_best 15 = .ok (.istore_n 2, 1) := by decide +kernel
theorem dX11_best_16 : decode cX11_best 16 = .ok (.iload_n 2, 1) := by decide +kernel
theorem dX11_best_17 : decode cX11_best 17 = .ok (.ifCond .le 21, 3) := by decide +kernel
theorem dX11_best_20 : decode cX11_best 20 = .ok (.aload_n 0, 1) := by decide +kernel
theorem dX11_best_21 : decode cX11_best 21 = .ok (.getfield 104, 3) := by decide +kernel
theorem dX11_best_24 : decode cX11_best 24 = .ok (.aload_n 0, 1) := by decide +kernel
theorem dX11_best_25 : decode cX11_best 25 = .ok (.getfield 30, 3) := by decide +kernel
theorem dX11_best_28 : decode cX11_best 28 = .ok (.getfield 151, 3) := by decide +kernel
theorem dX11_best_31 : decode cX11_best 31 = .ok (.iload_n 2, 1) := by decide +kernel
theorem dX11_best_32 : decode cX11_best 32 = .ok (.invokevirtual 381, 3) := by decide +kernel
theorem dX11_best_35 : decode cX11_best 35 = .ok (.goto 4, 3) := by decide +kernel
theorem dX11_best_38 : decode cX11_best 38 = .ok (.iconst (-1), 1) := by decide +kernel
theorem dX11_best_39 : decode cX11_best 39 = .ok (.ireturn, 1) := by decide +kernel
theorem dX11_power_0 : decode cX11_power 0 = .ok (.iconst 0, 1) := by decide +kernel
theorem dX11_power_1 : decode cX11_power 1 = .ok (.istore_n 1, 1) := by decide +kernel
theorem dX11_power_2 : decode cX11_power 2 = .ok (.iconst 0, 1) := by decide +kernel
theorem dX11_power_3 : decode cX11_power 3 = .ok (.istore_n 2, 1) := by decide +kernel
theorem dX11_power_4 : decode cX11_power 4 = .ok (.iload_n 2, 1) := by decide +kernel
theorem dX11_power_5 : decode cX11_power 5 = .ok (.bipush 9, 2) := by decide +kernel
theorem dX11_power_7 : decode cX11_power 7 = .ok (.if_icmp .gt 24, 3) := by decide +kernel
theorem dX11_power_10 : decode cX11_power 10 = .ok (.aload_n 0, 1) := by decide +kernel
theorem dX11_power_11 : decode cX11_power 11 = .ok (.iload_n 2, 1) := by decide +kernel
theorem dX11_power_12 : decode cX11_power 12 = .ok (.invokevirtual 378, 3) := by decide +kernel
theorem dX11_power_15 : decode cX11_power 15 = .ok (.iconst (-1), 1) := by decide +kernel
theorem dX11_power_16 : decode cX11_power 16 = .ok (.if_icmp .eq 9, 3) := by decide +kernel
theorem dX11_power_19 : decode cX11_power 19 = .ok (.iload_n 1, 1) := by decide +kernel
theorem dX11_power_20 : decode cX11_power 20 = .ok (.iconst 1, 1) := by decide +kernel
theorem dX11_power_21 : decode cX11_power 21 = .ok (.iload_n 2, 1) := by decide +kernel
theorem dX11_power_22 : decode cX11_power 22 = .ok (.ishl, 1) := by decide +kernel
theorem dX11_power_23 : decode cX11_power 23 = .ok (.ior, 1) := by decide +kernel
theorem dX11_power_24 : decode cX11_power 24 = .ok (.istore_n 1, 1) := by decide +kernel
theorem dX11_power_25 : decode cX11_power 25 = .ok (.iinc 2 1, 3) := by decide +kernel
theorem dX11_power_28 : decode cX11_power 28 = .ok (.goto (-24), 3) := by decide +kernel
theorem dX11_power_31 : decode cX11_power 31 = .ok (.iload_n 1, 1) := by decide +kernel
theorem dX11_power_32 : decode cX11_power 32 = .ok (.ireturn, 1) := by decide +kernel
theorem exA_j {f : Int → Int} {P : Nat → Int → Prop} (hP : ∀ m n st, m ≤ n → P m st → P n st) {lv j : Nat} {st : Int} (hj : j ≤ lv) (h : exA f P lv st) : (f st ≠ -1 ∧ f st < ((j + 1 : Nat) : Int)) ↔ P j st := by
  rcases h with ⟨h1, h2⟩ | ⟨i, i1, i2, i3, i4⟩
  · rw [h1]
    exact ⟨fun z => absurd rfl z.1, fun z => absurd (hP j lv st hj z) h2⟩
  · rw [i2]
    constructor
    · intro z
      exact hP i j st (by omega) i3
    · intro z
      refine ⟨by omega, ?_⟩
      apply Classical.byContradiction
      intro h
      exact i4 j (by omega) z
section
variable (d : Nat) (sh : mbSh) (ct : mbCt) {b : Int} {β : Bk} {s : Sit} {q : Int} {N : Nat} {V : Int}
theorem CY.game {ct c : mbCt} {from' tone : Int} (Y : CY sh ct b β s q N V) (h : GRes ct b β s.2.2 q N from' tone c) : CY sh c b β s q N V ∧ kF q ct c := by
  obtain ⟨e, hM, hW, hG, -⟩ := h
  have hq := Y.x.qc
  have f : ∀ x : Int, x ∉ ([68, 69, 72, 73, 75, 76, 77, 79, 87, 88, 89, 90, 91] : List Int) → x < 114 → x ≠ 78 → c x = ct x := fun x h1 h2 h3 => e x h1 (q_ne hq h2 h3)
  have e70 : c 70 7 = ct 70 7 := by rw [f 70 (by decide) (by decide) (by decide)]
  have k : kF q ct c := e.mono (by decide)
  exact ⟨Y.k k ⟨hM, Y.2.2.2.1.2.1, hW, hG, Y.2.2.2.1.2.2.2.2.cg e70 (fun x h0 h1 => f x (by simp; omega) (by omega) (by omega))⟩ e70, k⟩
def FB (c : mbCt) (β : Bk) (s : Sit) (tone r : Int) : Prop := r = c 88 s.1 ∧ GD c β s.2.2 s.1 tone ∧ rngG (c 88) ∧ rngG (c 89)
theorem FB.fc {c : mbCt} {tone r : Int} (h : FB c β s tone r) : fcS β s.2.2 tone s.1 r := by
  obtain ⟨rfl, ⟨R, lv, h1, h2, h3, h4, h5⟩, -⟩ := h
  have h6 := h4 true s.1 h1
  by_cases hm : c 88 s.1 = -1
  · exact Or.inl ⟨hm, h5 hm⟩
  · rcases h6 with ⟨a, -⟩ | ⟨i, i1, i2, i3, i4⟩
    · exact absurd a hm
    · exact Or.inr ⟨i, i2, i3, i4⟩
theorem x_forcedBy {tone : Int} (S : SH sh) (X : CX sh ct b β s q N V) (hV : V + 1 < 900000) (t0 : -1 ≤ tone) (t1 : tone ≤ 9) : Mt YX11_forcedBy (d + 6) [.inr (.inr 0), .inl tone] sh sh ct (pI fun r c => FB c β s tone r ∧ (-1 ≤ r ∧ r ≤ 1400) ∧ CY sh c b β s q N (V + 1) ∧ kF q ct c) := by
  have L := X.L
  have hrg := X.2.2.1.1.1
  refine Mt.of rfl (Nat.le_of_ble_eq_true rfl) ?_
  show G _ 0 [some (.inr (.inr 0)), some (.inl tone)] [] sh ct
  refine g_aload_n (q := 1) dX11_forcedBy_0 rfl rfl ?_
  refine g_getO (q := 4) (kI := 11) fX11_79 (by first | assumption | exact S.at _ rfl) dX11_forcedBy_1 rfl rfl (by first | assumption | exact L.at _ _ rfl | exact LK.at (by assumption) _ _ rfl | ((repeat first | rewrite [wr_na (by decide)] | rewrite [wr_nk (by decide)] | rewrite [wa_na (by decide)]); first | assumption | exact LK.at (by assumption) _ _ rfl) | exact rfl) ?_
  refine g_aload_n (q := 5) dX11_forcedBy_4 rfl rfl ?_
  refine g_getO (q := 8) (kI := 4) fX11_30 (by first | assumption | exact S.at _ rfl) dX11_forcedBy_5 rfl rfl (by first | assumption | exact L.at _ _ rfl | exact LK.at (by assumption) _ _ rfl | ((repeat first | rewrite [wr_na (by decide)] | rewrite [wr_nk (by decide)] | rewrite [wa_na (by decide)]); first | assumption | exact LK.at (by assumption) _ _ rfl) | exact rfl) ?_
  refine g_getA (q := 11) (kI := 2) fX11_139 (by first | assumption | exact S.at _ rfl) dX11_forcedBy_8 rfl rfl (by first | assumption | exact L.at _ _ rfl | exact LK.at (by assumption) _ _ rfl | ((repeat first | rewrite [wr_na (by decide)] | rewrite [wr_nk (by decide)] | rewrite [wa_na (by decide)]); first | assumption | exact LK.at (by assumption) _ _ rfl) | exact rfl) ?_
  refine g_callV (q := 14) lX11_273 mX4_heed nX4_heed rfl (x_heed (d + 4) sh _ S X hV) (by first | assumption | exact S.at _ rfl) rfl rfl shLe.rf (rmOk.mk (by omega) (by first | exact shLe.rf | assumption)) (Nat.le_of_ble_eq_true rfl) dX11_forcedBy_11 rfl rfl (kN fun c1 hp => ?_)
  obtain ⟨Y, f1⟩ := hp
  have L1 := Y.x.L
  have hst : c1 12 0 = s.1 := Y.2.1.1
  refine g_aload_n (q := 15) dX11_forcedBy_14 rfl rfl ?_
  refine g_getO (q := 18) (kI := 14) fX11_104 (by first | assumption | exact S.at _ rfl) dX11_forcedBy_15 rfl rfl (by first | assumption | exact L.at _ _ rfl | exact LK.at (by assumption) _ _ rfl | ((repeat first | rewrite [wr_na (by decide)] | rewrite [wr_nk (by decide)] | rewrite [wa_na (by decide)]); first | assumption | exact LK.at (by assumption) _ _ rfl) | exact rfl) ?_
  refine g_aload_n (q := 19) dX11_forcedBy_18 rfl rfl ?_
  refine g_getO (q := 22) (kI := 4) fX11_30 (by first | assumption | exact S.at _ rfl) dX11_forcedBy_19 rfl rfl (by first | assumption | exact L.at _ _ rfl | exact LK.at (by assumption) _ _ rfl | ((repeat first | rewrite [wr_na (by decide)] | rewrite [wr_nk (by decide)] | rewrite [wa_na (by decide)]); first | assumption | exact LK.at (by assumption) _ _ rfl) | exact rfl) ?_
  refine g_getI (q := 25) (kI := 0) fX11_151 (by first | assumption | exact S.at _ rfl) dX11_forcedBy_22 rfl rfl ?_
  rw [hst]
  refine g_iload_n (q := 26) dX11_forcedBy_25 rfl rfl ?_
  refine g_callV (q := 29) lX11_384 mX1_forcedWithin nX1_forcedWithin rfl (c_forcedWithin d sh _ S Y.2.2.2.1.1 Y.2.2.2.1.2.2.1 Y.2.2.2.2.1 Y.2.2.2.1.2.2.2.1 hrg.1 hrg.2 t0 t1) (by first | assumption | exact S.at _ rfl) rfl rfl shLe.rf (rmOk.mk (by omega) (by first | exact shLe.rf | assumption)) (Nat.le_of_ble_eq_true rfl) dX11_forcedBy_26 rfl rfl (kI fun r c2 hp => ?_)
  obtain ⟨h1, h2⟩ := hp
  obtain ⟨Y2, f2⟩ := CY.game sh Y h2
  obtain ⟨e, hM, hW, hG, g6, g7, g8⟩ := h2
  have r1 : rngG (c2 88) := hG.1 true
  have r2 : rngG (c2 89) := hG.1 false
  refine g_ireturn dX11_forcedBy_29 rfl ?_
  refine ⟨_, rfl, ⟨h1, ?_, r1, r2⟩, ?_, Y2, f1.tr f2⟩
  · have := hG.2.2.2.2 g6
    rw [g7, g8] at this
    exact this
  · rw [h1]
    exact r1 _ hrg.1 hrg.2
theorem x_forces {tone : Int} (S : SH sh) (X : CX sh ct b β s q N V) (hV : V + 1 < 900000) (ht : i32 tone) : Mt YX11_forces (d + 7) [.inr (.inr 0), .inl tone] sh sh ct (pI fun r c => ((isTn tone ∧ fcS β s.2.2 tone s.1 r) ∨ (¬ isTn tone ∧ r = -3)) ∧ CX sh c b β s q N (V + 1) ∧ kF q ct c) := by
  refine Mt.of rfl (Nat.le_of_ble_eq_true rfl) ?_
  show G _ 0 [some (.inr (.inr 0)), some (.inl tone)] [] sh ct
  refine g_iload_n (q := 1) dX11_forces_0 rfl rfl ?_
  refine g_callS (q := 4) lX11_252 mX11_isTone sX11_isTone rfl (x_isTone (d + 6) sh _ ht) shLe.rf (rmOk.mk (by omega) (by first | exact shLe.rf | assumption)) (Nat.le_of_ble_eq_true rfl) dX11_forces_1 rfl rfl (kI fun r_1 s_1 hp => ?_)
  obtain ⟨hr, hq⟩ := hp
  replace hr := hr.symm
  replace hq := hq.symm
  subst hr hq
  refine g_if_eq (q := 7) (tg := 15) dX11_forces_4 (by decide) rfl (fun c_4 => ?_) (fun c_4 => ?_)
  · refine g_bipush (q := 17) dX11_forces_15 (by decide +kernel) rfl ?_
    refine g_ireturn dX11_forces_17 rfl ?_
    first | exact ⟨_, rfl, Or.inr ⟨wb0.mp c_4, rfl⟩, X.up (by omega) hV, kF.rf⟩ | exact ⟨_, rfl, Or.inl ⟨wbn.mp c_4, h1.fc⟩, h2.x, h3⟩
  · refine g_aload_n (q := 8) dX11_forces_7 rfl rfl ?_
    refine g_iload_n (q := 9) dX11_forces_8 rfl rfl ?_
    refine g_callV (q := 12) lX11_378 mX11_forcedBy nX11_forcedBy rfl (x_forcedBy d sh _ S X hV (wbn.mp c_4).1 (by have := (wbn.mp c_4).2; omega)) (by first | assumption | exact S.at _ rfl) rfl rfl shLe.rf (rmOk.mk (by omega) (by first | exact shLe.rf | assumption)) (Nat.le_of_ble_eq_true rfl) dX11_forces_9 rfl rfl (kI fun r_9 s_9 hp => ?_)
    obtain ⟨h1, h0, h2, h3⟩ := hp
    refine g_goto (q := 17) dX11_forces_12 (by decide) ?_
    refine g_ireturn dX11_forces_17 rfl ?_
    first | exact ⟨_, rfl, Or.inr ⟨wb0.mp c_4, rfl⟩, X.up (by omega) hV, kF.rf⟩ | exact ⟨_, rfl, Or.inl ⟨wbn.mp c_4, h1.fc⟩, h2.x, h3⟩
theorem x_best {tone : Int} (S : SH sh) (X : CX sh ct b β s q N V) (hV : V + 1 < 900000) (ht : i32 tone) : Mt YX11_best (d + 7) [.inr (.inr 0), .inl tone] sh sh ct (pI fun r c => qBest β s.2.2 tone s.1 r ∧ CX sh c b β s q N (V + 1) ∧ kF q ct c) := by
  have hrg := X.2.2.1.1.1
  generalize hP : (pI fun r c => qBest β s.2.2 tone s.1 r ∧ CX sh c b β s q N (V + 1) ∧ kF q ct c) = Po
  refine Mt.of rfl (Nat.le_of_ble_eq_true rfl) ?_
  show G _ 0 [some (.inr (.inr 0)), some (.inl tone), none] [] sh ct
  refine g_iload_n (q := 1) dX11_best_0 rfl rfl ?_
  refine g_callS (q := 4) lX11_252 mX11_isTone sX11_isTone rfl (x_isTone (d + 6) sh _ ht) shLe.rf (rmOk.mk (by omega) (by first | exact shLe.rf | assumption)) (Nat.le_of_ble_eq_true rfl) dX11_best_1 rfl rfl (kI fun r_ c_ hp => ?_)
  obtain ⟨hr, hq⟩ := hp
  replace hr := hr.symm
  replace hq := hq.symm
  subst hr hq
  refine g_if_ne (q := 7) (tg := 10) dX11_best_4 (by decide) rfl (fun c_4 => ?_) (fun c_4 => ?_)
  · have htn := wbn.mp c_4
    refine g_aload_n (q := 11) dX11_best_10 rfl rfl ?_
    refine g_iload_n (q := 12) dX11_best_11 rfl rfl ?_
    refine g_callV (q := 15) lX11_378 mX11_forcedBy nX11_forcedBy rfl (x_forcedBy d sh _ S X hV htn.1 (by have := htn.2; omega)) (by first | assumption | exact S.at _ rfl) rfl rfl shLe.rf (rmOk.mk (by omega) (by first | exact shLe.rf | assumption)) (Nat.le_of_ble_eq_true rfl) dX11_best_12 rfl rfl (kI fun n c1 hp => ?_)
    obtain ⟨hFB, hn, Y, f1⟩ := hp
    have hf := hFB.fc
    have L1 := Y.x.L
    have hst : c1 12 0 = s.1 := Y.2.1.1
    refine s_istore_n_3_2 (q := 16) dX11_best_15 rfl rfl rfl ?_
    refine g_iload_n (q := 17) dX11_best_16 rfl rfl ?_
    refine g_if_le (q := 20) (tg := 38) dX11_best_17 (by decide) rfl (fun c_17 => ?_) (fun c_17 => ?_)
    · refine g_iconst (q := 39) dX11_best_38 rfl ?_
      refine g_ireturn dX11_best_39 rfl ?_
      rw [← hP]
      exact ⟨_, rfl, Or.inr ⟨htn, n, hf, Or.inl ⟨by unfold w32 at c_17; omega, rfl⟩⟩, Y.x, f1⟩
    · have hpos : 0 < n := by unfold w32 at c_17; omega
      refine g_aload_n (q := 21) dX11_best_20 rfl rfl ?_
      refine g_getO (q := 24) (kI := 14) fX11_104 (by first | assumption | exact S.at _ rfl) dX11_best_21 rfl rfl (by first | assumption | exact L.at _ _ rfl | exact LK.at (by assumption) _ _ rfl | ((repeat first | rewrite [wr_na (by decide)] | rewrite [wr_nk (by decide)] | rewrite [wa_na (by decide)]); first | assumption | exact LK.at (by assumption) _ _ rfl) | exact rfl) ?_
      refine g_aload_n (q := 25) dX11_best_24 rfl rfl ?_
      refine g_getO (q := 28) (kI := 4) fX11_30 (by first | assumption | exact S.at _ rfl) dX11_best_25 rfl rfl (by first | assumption | exact L.at _ _ rfl | exact LK.at (by assumption) _ _ rfl | ((repeat first | rewrite [wr_na (by decide)] | rewrite [wr_nk (by decide)] | rewrite [wa_na (by decide)]); first | assumption | exact LK.at (by assumption) _ _ rfl) | exact rfl) ?_
      refine g_getI (q := 31) (kI := 0) fX11_151 (by first | assumption | exact S.at _ rfl) dX11_best_28 rfl rfl ?_
      rw [hst]
      refine g_iload_n (q := 32) dX11_best_31 rfl rfl ?_
      refine g_callV (q := 35) lX11_381 mX1_firstForcing nX1_firstForcing rfl (c_firstForcing (d + 3) sh _ S Y.2.2.2.1.1 hrg.1 hrg.2 (by omega) (by omega) hFB.2.2.2) (by first | assumption | exact S.at _ rfl) rfl rfl shLe.rf (rmOk.mk (by omega) (by first | exact shLe.rf | assumption)) (Nat.le_of_ble_eq_true rfl) dX11_best_32 rfl rfl (kI fun r c2 hp => ?_)
      obtain ⟨m2, hff⟩ := hp
      have Y2 := Y.mvt m2
      refine g_goto (q := 39) dX11_best_35 (by decide) ?_
      refine g_ireturn dX11_best_39 rfl ?_
      rw [← hP]
      refine ⟨_, rfl, Or.inr ⟨htn, n, hf, Or.inr ⟨hpos, ?_⟩⟩, Y2.x, f1.tr m2.k⟩
      obtain ⟨i, hi, hg, hmin⟩ : ∃ i : Nat, n = i ∧ gP β s.2.2 tone true i s.1 ∧ ∀ m, m < i → ¬ gP β s.2.2 tone true m s.1 := by
        rcases hf with h | h
        · omega
        · exact h
      obtain ⟨j, rfl⟩ : ∃ j, i = j + 1 := ⟨i - 1, by omega⟩
      have hnen : ¬ gP β s.2.2 tone true 0 s.1 := hmin 0 (by omega)
      have hjn : (n - 1).toNat = j := by omega
      have hex : ∃ y ∈ scG β s.2.2 s.1, gP β s.2.2 tone false j y := by
        rcases hg with h | h
        · exact absurd h hnen
        · exact h
      obtain ⟨hr, ⟨R, lv, a1, a2, a3, a4, a5⟩, -⟩ := hFB
      have hjl : j ≤ lv := by
        rcases a4 true s.1 a1 with ⟨z, -⟩ | ⟨i', i1, i2, -⟩
        · have z' : c1 88 s.1 = -1 := z
          omega
        · have z' : c1 88 s.1 = i' := i2
          omega
      have hk : ∀ k ∈ brL (msN β s.2.2 s.1) 48, (c1 89 (nxB β s.1 (k / 8 : Nat) (k % 8 : Nat)) ≠ -1 ∧ c1 89 (nxB β s.1 (k / 8 : Nat) (k % 8 : Nat)) < n) ↔ gP β s.2.2 tone false j (nxB β s.1 (k / 8 : Nat) (k % 8 : Nat)) := by
        intro k hk
        have hR : R (nxB β s.1 (k / 8 : Nat) (k % 8 : Nat)) := a3 _ a1 _ (List.mem_map.mpr ⟨k, hk, rfl⟩)
        have := exA_j (f := c1 89) (P := gP β s.2.2 tone false) gP_le hjl (a4 false _ hR)
        rw [hi]
        exact this
      rw [hjn]
      rcases hff with ⟨pre, k, post, e1, e2, e3, e4⟩ | ⟨e1, e2⟩
      · refine ⟨pre, k, post, e1, (hk k (by rw [e1]; simp)).mp e3, fun k' hk' z => e4 k' hk' ((hk k' (by rw [e1]; simp [hk'])).mpr z), e2⟩
      · obtain ⟨y, hy, hgy⟩ := hex
        obtain ⟨k, hkm, rfl⟩ := List.mem_map.mp hy
        exact absurd ((hk k hkm).mpr hgy) (e2 k hkm)
  · refine g_bipush (q := 9) dX11_best_7 (by decide +kernel) rfl ?_
    refine g_ireturn dX11_best_9 rfl ?_
    rw [← hP]
    exact ⟨_, rfl, Or.inl ⟨wb0.mp c_4, rfl⟩, X.up (by omega) hV, kF.rf⟩
theorem x_power (S : SH sh) (X : CX sh ct b β s q N V) (hV : V + 20 < 900000) : Mt YX11_power (d + 7) [.inr (.inr 0)] sh sh ct (pI fun r c => isSet 10 (fun t => ∃ m, gP β s.2.2 t true m s.1) r ∧ CX sh c b β s q N (V + 20) ∧ kF q ct c) := by
  generalize hP : (pI fun r c => isSet 10 (fun t => ∃ m, gP β s.2.2 t true m s.1) r ∧ CX sh c b β s q N (V + 20) ∧ kF q ct c) = Po
  refine Mt.of rfl (Nat.le_of_ble_eq_true rfl) ?_
  show G _ 0 [some (.inr (.inr 0)), none, none] [] sh ct
  refine g_iconst (q := 1) dX11_power_0 rfl ?_
  refine s_istore_n_3_1 (q := 2) dX11_power_1 rfl rfl rfl ?_
  refine g_iconst (q := 3) dX11_power_2 rfl ?_
  refine s_istore_n_3_2 (q := 4) dX11_power_3 rfl rfl rfl ?_
  refine g_forA (α := Int) (fun t a => [some (.inr (.inr 0)), some (.inl a), some (.inl t)]) (fun t a c => 0 ≤ t ∧ CX sh c b β s q N (V + t) ∧ kF q ct c ∧ isSet t.toNat (fun t => ∃ m, gP β s.2.2 t true m s.1) a) 10 ?_ ?_ (i := 0) (a := 0) (by omega) ⟨by omega, by rw [Int.add_zero]; exact X, kF.rf, isSet.zero⟩ (by simp [lsSub])
  · rintro t a c ht ⟨t0, X1, f, hs⟩ kk
    have hrg := hs.rg (by omega)
    refine g_iload_n (q := 5) dX11_power_4 rfl rfl ?_
    refine g_bipush (q := 7) dX11_power_5 (by decide +kernel) rfl ?_
    refine g_icmp_gt (q := 10) (tg := 31) dX11_power_7 (by decide) rfl (fun c_7 => ?_) (fun c_7 => ?_)
    · exact absurd c_7 (by unfold w32; omega)
    · refine g_aload_n (q := 11) dX11_power_10 rfl rfl ?_
      refine g_iload_n (q := 12) dX11_power_11 rfl rfl ?_
      refine g_callV (q := 15) lX11_378 mX11_forcedBy nX11_forcedBy rfl (x_forcedBy d sh _ S X1 (by omega) (by omega) (by omega)) (by first | assumption | exact S.at _ rfl) rfl rfl shLe.rf (rmOk.mk (by omega) (by first | exact shLe.rf | assumption)) (Nat.le_of_ble_eq_true rfl) dX11_power_12 rfl rfl (kI fun r2 c2 hp => ?_)
      obtain ⟨hFB, hn, Y, f1⟩ := hp
      have hf := hFB.fc
      have em : ((t.toNat : Nat) : Int) = t := by omega
      have nxt : ∀ v, (((∃ m, gP β s.2.2 t.toNat true m s.1) ∧ v = orI a (shlI 1 t.toNat)) ∨ (¬ (∃ m, gP β s.2.2 t.toNat true m s.1) ∧ v = a)) → G (mkK YX11_power (d + 7) sh sh Po) 25 [some (.inr (.inr 0)), some (.inl v), some (.inl t)] [] sh c2 := by
        intro v hv
        refine s_iinc_3_2 (q := 28) dX11_power_25 rfl rfl rfl ?_
        refine g_goto (q := 4) dX11_power_28 (by decide) ?_
        refine kk v _ _ (by simp [lsSub]) ⟨by omega, by rw [show V + (t + 1) = V + t + 1 by omega]; exact Y.x, f.tr f1, ?_⟩
        rw [show (t + 1).toNat = t.toNat + 1 by omega]
        rcases hv with ⟨h1, rfl⟩ | ⟨h1, rfl⟩
        · exact hs.up (by omega) (Or.inl ⟨h1, rfl⟩)
        · have := hs.up (v := 0) (by omega) (Or.inr ⟨h1, rfl⟩)
          rw [orI_0 hrg.1 (by omega)] at this
          exact this
      refine g_iconst (q := 16) dX11_power_15 rfl ?_
      refine g_icmp_eq (q := 19) (tg := 25) dX11_power_16 (by decide) rfl (fun c_16 => ?_) (fun c_16 => ?_)
      · refine nxt a (Or.inr ⟨?_, rfl⟩)
        rw [em]
        rintro ⟨m, hm⟩
        rcases hf with h | ⟨i, h1, h2, -⟩
        · exact h.2 m hm
        · unfold w32 at c_16
          omega
      · refine g_iload_n (q := 20) dX11_power_19 rfl rfl ?_
        refine g_iconst (q := 21) dX11_power_20 rfl ?_
        refine g_iload_n (q := 22) dX11_power_21 rfl rfl ?_
        refine g_ishl (q := 23) dX11_power_22 rfl ?_
        refine g_ior (q := 24) dX11_power_23 rfl ?_
        refine s_istore_n_3_1 (q := 25) dX11_power_24 rfl rfl rfl ?_
        refine nxt _ (Or.inl ⟨?_, by rw [em]⟩)
        rw [em]
        rcases hf with h | ⟨i, h1, h2, -⟩
        · exact absurd (by rw [h.1]) c_16
        · exact ⟨i, h2⟩
  · rintro a c ⟨-, X1, f, hs⟩
    refine g_iload_n (q := 5) dX11_power_4 rfl rfl ?_
    refine g_bipush (q := 7) dX11_power_5 (by decide +kernel) rfl ?_
    refine g_icmp_gt (q := 10) (tg := 31) dX11_power_7 (by decide) rfl (fun c_7 => ?_) (fun c_7 => ?_)
    · refine g_iload_n (q := 32) dX11_power_31 rfl rfl ?_
      refine g_ireturn dX11_power_32 rfl ?_
      rw [← hP]
      exact ⟨_, rfl, hs, X1.up (by omega) hV, f⟩
    · exact absurd c_7 (by decide)
end
