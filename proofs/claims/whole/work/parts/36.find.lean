/-! Ways: how far, how much room, the search -/
theorem dep_le {pr : Nat → Nat} : ∀ j, dep pr j ≤ j := by
  intro j
  induction j using Nat.strongRecOn with
  | ind j ih =>
    by_cases h : 0 < j ∧ pr j < j
    · rw [dep_s h.1 h.2]
      have := ih (pr j) h.2
      omega
    · rw [dep, dif_neg h]
      omega
def shrB (x k : Int) : Int := x + ushI x k
def bcI (x : Int) : Int := andI (shrB (shrB (andI (shrB (andI (x - andI (ushI x 1) 1431655765) 858993459 + andI (ushI (x - andI (ushI x 1) 1431655765) 2) 858993459) 4) 252645135) 8) 16) 63
def popN (x : Nat) : Nat := (brL x 10).length
theorem bcI_pop : ∀ x : Nat, x < 1024 → bcI x = popN x := by decide +kernel
def ndM (M : Nat) : Nat := if 100 * M * 2 ^ M / 2 + 1 < 700 then 700 else 100 * M * 2 ^ M / 2 + 1
theorem dJ6_bitCount_0f7a4_0 : decode cJ6_bitCount_0f7a4 0 = .ok (.iload_n 0, 1) := by decide +kernel
theorem dJ6_bitCount_0f7a4_1 : decode cJ6_bitCount_0f7a4 1 = .ok (.iload_n 0, 1) := by decide +kernel
theorem dJ6_bitCount_0f7a4_2 : decode cJ6_bitCount_0f7a4 2 = .ok (.iconst 1, 1) := by decide +kernel
theorem dJ6_bitCount_0f7a4_3 : decode cJ6_bitCount_0f7a4 3 = .ok (.iushr, 1) := by decide +kernel
theorem dJ6_bitCount_0f7a4_4 : decode cJ6_bitCount_0f7a4 4 = .ok (.ldc_w 265, 3) := by decide +kernel
theorem dJ6_bitCount_0f7a4_7 : decode cJ6_bitCount_0f7a4 7 = .ok (.iand, 1) := by decide +kernel
theorem dJ6_bitCount_0f7a4_8 : decode cJ6_bitCount_0f7a4 8 = .ok (.isub, 1) := by decide +kernel
theorem dJ6_bitCount_0f7a4_9 : decode cJ6_bitCount_0f7a4 9 = .ok (.istore_n 0, 1) := by decide +kernel
theorem dJ6_bitCount_0f7a4_10 : decode cJ6_bitCount_0f7a4 10 = .ok (.iload_n 0, 1) := by decide +kernel
theorem dJ6_bitCount_0f7a4_11 : decode cJ6_bitCount_0f7a4 11 = .ok (.ldc_w 266, 3) := by decide +kernel
theorem dJ6_bitCount_0f7a4_14 : decode cJ6_bitCount_0f7a4 14 = .ok (.iand, 1) := by decide +kernel
theorem dJ6_bitCount_0f7a4_15 : decode cJ6_bitCount_0f7a4 15 = .ok (.iload_n 0, 1) := by decide +kernel
theorem dJ6_bitCount_0f7a4_16 : decode cJ6_bitCount_0f7a4 16 = .ok (.iconst 2, 1) := by decide +kernel
theorem dJ6_bitCount_0f7a4_17 : decode cJ6_bitCount_0f7a4 17 = .ok (.iushr, 1) := by decide +kernel
theorem dJ6_bitCount_0f7a4_18 : decode cJ6_bitCount_0f7a4 18 = .ok (.ldc_w 266, 3) := by decide +kernel
theorem dJ6_bitCount_0f7a4_21 : decode cJ6_bitCount_0f7a4 21 = .ok (.iand, 1) := by decide +kernel
theorem dJ6_bitCount_0f7a4_22 : decode cJ6_bitCount_0f7a4 22 = .ok (.iadd, 1) := by decide +kernel
theorem dJ6_bitCount_0f7a4_23 : decode cJ6_bitCount_0f7a4 23 = .ok (.istore_n 0, 1) := by decide +kernel
theorem dJ6_bitCount_0f7a4_24 : decode cJ6_bitCount_0f7a4 24 = .ok (.iload_n 0, 1) := by decide +kernel
theorem dJ6_bitCount_0f7a4_25 : decode cJ6_bitCount_0f7a4 25 = .ok (.iload_n 0, 1) := by decide +kernel
theorem dJ6_bitCount_0f7a4_26 : decode cJ6_bitCount_0f7a4 26 = .ok (.iconst 4, 1) := by decide +kernel
theorem dJ6_bitCount_0f7a4_27 : decode cJ6_bitCount_0f7a4 27 = .ok (.iushr, 1) := by decide +kernel
theorem dJ6_bitCount_0f7a4_28 : decode cJ6_bitCount_0f7a4 28 = .ok (.iadd, 1) := by decide +kernel
theorem dJ6_bitCount_0f7a4_29 : decode cJ6_bitCount_0f7a4 29 = .ok (.ldc_w 267, 3) := by decide +kernel
theorem dJ6_bitCount_0f7a4_32 : decode cJ6_bitCount_0f7a4 32 = .ok (.iand, 1) := by decide +kernel
theorem dJ6_bitCount_0f7a4_33 : decode cJ6_bitCount_0f7a4 33 = .ok (.istore_n 0, 1) := by decide +kernel
theorem dJ6_bitCount_0f7a4_34 : decode cJ6_bitCount_0f7a4 34 = .ok (.iload_n 0, 1) := by decide +kernel
theorem dJ6_bitCount_0f7a4_35 : decode cJ6_bitCount_0f7a4 35 = .ok (.iload_n 0, 1) := by decide +kernel
theorem dJ6_bitCount_0f7a4_36 : decode cJ6_bitCount_0f7a4 36 = .ok (.bipush 8, 2) := by decide +kernel
theorem dJ6_bitCount_0f7a4_38 : decode cJ6_bitCount_0f7a4 38 = .ok (.iushr, 1) := by decide +kernel
theorem dJ6_bitCount_0f7a4_39 : decode cJ6_bitCount_0f7a4 39 = .ok (.iadd, 1) := by decide +kernel
theorem dJ6_bitCount_0f7a4_40 : decode cJ6_bitCount_0f7a4 40 = .ok (.istore_n 0, 1) := by decide +kernel
theorem dJ6_bitCount_0f7a4_41 : decode cJ6_bitCount_0f7a4 41 = .ok (.iload_n 0, 1) := by decide +kernel
theorem dJ6_bitCount_0f7a4_42 : decode cJ6_bitCount_0f7a4 42 = .ok (.iload_n 0, 1) := by decide +kernel
theorem dJ6_bitCount_0f7a4_43 : decode cJ6_bitCount_0f7a4 43 = .ok (.bipush 16, 2) := by decide +kernel
theorem dJ6_bitCount_0f7a4_45 : decode cJ6_bitCount_0f7a4 45 = .ok (.iushr, 1) := by decide +kernel
theorem dJ6_bitCount_0f7a4_46 : decode cJ6_bitCount_0f7a4 46 = .ok (.iadd, 1) := by decide +kernel
theorem dJ6_bitCount_0f7a4_47 : decode cJ6_bitCount_0f7a4 47 = .ok (.istore_n 0, 1) := by decide +kernel
theorem dJ6_bitCount_0f7a4_48 : decode cJ6_bitCount_0f7a4 48 = .ok (.iload_n 0, 1) := by decide +kernel
theorem dJ6_bitCount_0f7a4_49 : decode cJ6_bitCount_0f7a4 49 = .ok (.bipush 63, 2) := by decide +kernel
theorem dJ6_bitCount_0f7a4_51 : decode cJ6_bitCount_0f7a4 51 = .ok (.iand, 1) := by decide +kernel
theorem dJ6_bitCount_0f7a4_52 : decode cJ6_bitCount_0f7a4 52 = .ok (.ireturn, 1) := by decide +kernel
theorem nw_c {Y : mbY} {d kd n : Nat} {sh0 shE sh : mbSh} {Po : Option gV → mbCt → Prop} (hs : shLe (sh ++ [(kd, n)]) shE) : sh.length + 1 - (mkK Y d sh0 shE Po).2.2.1.length ≤ (mkK Y d sh0 shE Po).2.1.cells := by
  show sh.length + 1 - sh0.length ≤ shE.length - sh0.length
  have := hs.1
  rw [List.length_append] at this
  simp at this
  omega
theorem nw_s {Y : mbY} {d kd n : Nat} {sh0 shE sh : mbSh} {Po : Option gV → mbCt → Prop} (hs : shLe (sh ++ [(kd, n)]) shE) : ssz sh + n - ssz (mkK Y d sh0 shE Po).2.2.1 ≤ (mkK Y d sh0 shE Po).2.1.slots := by
  show ssz sh + n - ssz sh0 ≤ ssz shE - ssz sh0
  have := hs.2
  rw [ssz_push] at this
  omega
theorem shA_app {sh t : mbSh} {x : Int} {z : Nat × Nat} (h : shA sh x = some z) : shA (sh ++ t) x = some z := by
  obtain ⟨k, rfl, hk⟩ := shA_some h
  unfold shA
  rw [if_pos (by omega)]
  show (sh ++ t)[k]? = _
  rw [List.getElem?_append_left (List.getElem?_eq_some_iff.mp hk).1]
  exact hk
theorem shA_end {sh : mbSh} {z : Nat × Nat} : shA (sh ++ [z]) sh.length = some z := by
  unfold shA
  rw [if_pos (by omega)]
  show (sh ++ [z])[sh.length]? = _
  simp
section
variable (d : Nat) (sh : mbSh) (ct : mbCt)
theorem c_bitCount {x : Nat} (hx : x < 1024) : Mt YJ6_bitCount_0f7a4 d [.inl x] sh sh ct (pI fun r c => r = popN x ∧ c = ct) := by
  refine Mt.of rfl (Nat.le_of_ble_eq_true rfl) ?_
  show G _ 0 [some (.inl x)] [] sh ct
  refine g_iload_n (q := 1) dJ6_bitCount_0f7a4_0 rfl rfl ?_
  refine g_iload_n (q := 2) dJ6_bitCount_0f7a4_1 rfl rfl ?_
  refine g_iconst (q := 3) dJ6_bitCount_0f7a4_2 rfl ?_
  refine g_iushr (q := 4) dJ6_bitCount_0f7a4_3 rfl ?_
  refine g_ldcw (q := 7) dJ6_bitCount_0f7a4_4 kJ6_265 rfl ?_
  refine g_iand (q := 8) dJ6_bitCount_0f7a4_7 rfl ?_
  refine g_isub (q := 9) dJ6_bitCount_0f7a4_8 rfl ?_
  refine s_istore_n_1_0 (q := 10) dJ6_bitCount_0f7a4_9 rfl rfl rfl ?_
  refine g_iload_n (q := 11) dJ6_bitCount_0f7a4_10 rfl rfl ?_
  refine g_ldcw (q := 14) dJ6_bitCount_0f7a4_11 kJ6_266 rfl ?_
  refine g_iand (q := 15) dJ6_bitCount_0f7a4_14 rfl ?_
  refine g_iload_n (q := 16) dJ6_bitCount_0f7a4_15 rfl rfl ?_
  refine g_iconst (q := 17) dJ6_bitCount_0f7a4_16 rfl ?_
  refine g_iushr (q := 18) dJ6_bitCount_0f7a4_17 rfl ?_
  refine g_ldcw (q := 21) dJ6_bitCount_0f7a4_18 kJ6_266 rfl ?_
  refine g_iand (q := 22) dJ6_bitCount_0f7a4_21 rfl ?_
  refine g_iadd (q := 23) dJ6_bitCount_0f7a4_22 rfl ?_
  refine s_istore_n_1_0 (q := 24) dJ6_bitCount_0f7a4_23 rfl rfl rfl ?_
  refine g_iload_n (q := 25) dJ6_bitCount_0f7a4_24 rfl rfl ?_
  refine g_iload_n (q := 26) dJ6_bitCount_0f7a4_25 rfl rfl ?_
  refine g_iconst (q := 27) dJ6_bitCount_0f7a4_26 rfl ?_
  refine g_iushr (q := 28) dJ6_bitCount_0f7a4_27 rfl ?_
  refine g_iadd (q := 29) dJ6_bitCount_0f7a4_28 rfl ?_
  refine g_ldcw (q := 32) dJ6_bitCount_0f7a4_29 kJ6_267 rfl ?_
  refine g_iand (q := 33) dJ6_bitCount_0f7a4_32 rfl ?_
  refine s_istore_n_1_0 (q := 34) dJ6_bitCount_0f7a4_33 rfl rfl rfl ?_
  refine g_iload_n (q := 35) dJ6_bitCount_0f7a4_34 rfl rfl ?_
  refine g_iload_n (q := 36) dJ6_bitCount_0f7a4_35 rfl rfl ?_
  refine g_bipush (q := 38) dJ6_bitCount_0f7a4_36 (by decide +kernel) rfl ?_
  refine g_iushr (q := 39) dJ6_bitCount_0f7a4_38 rfl ?_
  refine g_iadd (q := 40) dJ6_bitCount_0f7a4_39 rfl ?_
  refine s_istore_n_1_0 (q := 41) dJ6_bitCount_0f7a4_40 rfl rfl rfl ?_
  refine g_iload_n (q := 42) dJ6_bitCount_0f7a4_41 rfl rfl ?_
  refine g_iload_n (q := 43) dJ6_bitCount_0f7a4_42 rfl rfl ?_
  refine g_bipush (q := 45) dJ6_bitCount_0f7a4_43 (by decide +kernel) rfl ?_
  refine g_iushr (q := 46) dJ6_bitCount_0f7a4_45 rfl ?_
  refine g_iadd (q := 47) dJ6_bitCount_0f7a4_46 rfl ?_
  refine s_istore_n_1_0 (q := 48) dJ6_bitCount_0f7a4_47 rfl rfl rfl ?_
  refine g_iload_n (q := 49) dJ6_bitCount_0f7a4_48 rfl rfl ?_
  refine g_bipush (q := 51) dJ6_bitCount_0f7a4_49 (by decide +kernel) rfl ?_
  refine g_iand (q := 52) dJ6_bitCount_0f7a4_51 rfl ?_
  refine g_ireturn dJ6_bitCount_0f7a4_52 rfl ?_
  exact ⟨_, rfl, bcI_pop x hx, rfl⟩
theorem c_lengthTo {q : Int} {N n f : Nat} (S : SH sh) (L : LK ct) (hq : ct 77 1 = q) (sq : shA sh q = some (20, N)) (hN : N ≤ 19201) (h2 : ct 77 2 = n) (hn : n ≤ N) (hr : ∀ j : Nat, j < n → 0 ≤ ct q j ∧ ct q j < 2147483648) (hp : ∀ j, 0 < j → j < n → prQ ct q j < j) (hf : f < n) : Mt YX10_lengthTo (d + 1) [.inr (.inr 77), .inl f] sh sh ct (pI fun r c => r = dep (prQ ct q) f ∧ c = ct) := by
  generalize hP : (pI fun r c => r = ((dep (prQ ct q) f : Nat) : Int) ∧ c = ct) = Po
  have loop : ∀ (at' s : Nat), at' < n → s + dep (prQ ct q) at' = dep (prQ ct q) f → G (mkK YX10_lengthTo (d + 1) sh sh Po) 4 [some (.inr (.inr 77)), some (.inl f), some (.inl s), some (.inl at')] [] sh ct := by
    intro at'
    induction at' using Nat.strongRecOn with
    | ind at' ih =>
      intro s ha hs
      have hd := dep_le (pr := prQ ct q) f
      refine g_iload_n (q := 5) dX10_lengthTo_4 rfl rfl ?_
      refine g_if_le (q := 8) (tg := 28) dX10_lengthTo_5 (by decide) rfl (fun c_5 => ?_) (fun c_5 => ?_)
      · have : at' = 0 := by unfold w32 at c_5; omega
        subst this
        rw [dep_0] at hs
        refine g_iload_n (q := 29) dX10_lengthTo_28 rfl rfl ?_
        refine g_ireturn dX10_lengthTo_29 rfl ?_
        rw [← hP]
        exact ⟨_, rfl, by omega, rfl⟩
      · have h0 : 0 < at' := by unfold w32 at c_5; omega
        have hpa := hp at' h0 ha
        have hds := dep_s h0 hpa
        have hra := hr at' ha
        refine g_iload_n (q := 9) dX10_lengthTo_8 rfl rfl ?_
        refine g_aload_n (q := 10) dX10_lengthTo_9 rfl rfl ?_
        refine g_getI (q := 13) (kI := 2) fX10_55 (by first | assumption | exact S.at _ rfl) dX10_lengthTo_10 rfl rfl ?_
        rw [h2]
        refine g_icmp_ge (q := 16) (tg := 28) dX10_lengthTo_13 (by decide) rfl (fun c_13 => ?_) (fun c_13 => ?_)
        · exact absurd c_13 (by unfold w32; omega)
        · refine s_iinc_4_2 (q := 19) dX10_lengthTo_16 rfl rfl rfl ?_
          refine g_aload_n (q := 20) dX10_lengthTo_19 rfl rfl ?_
          refine g_iload_n (q := 21) dX10_lengthTo_20 rfl rfl ?_
          refine g_callV (q := 24) lX10_105 mX10_ahead nX10_ahead rfl (c_ahead d sh ct S hq sq (by omega) (by omega) (by omega) hra.1 hra.2) (by first | assumption | exact S.at _ rfl) rfl rfl shLe.rf (rmOk.mk (by omega) (by first | exact shLe.rf | assumption)) (Nat.le_of_ble_eq_true rfl) dX10_lengthTo_21 rfl rfl (kI fun r c hp => ?_)
          obtain ⟨rfl, rfl⟩ := hp
          have e : qFr (c q at') = ((prQ c q at' : Nat) : Int) := by
            unfold prQ qFr
            omega
          rw [e]
          refine s_istore_n_4_3 (q := 25) dX10_lengthTo_24 rfl rfl rfl ?_
          refine g_goto (q := 4) dX10_lengthTo_25 (by decide) ?_
          have := ih _ hpa (s + 1) (by omega) (by omega)
          rw [Int.natCast_succ] at this
          exact this
  refine Mt.of rfl (Nat.le_of_ble_eq_true rfl) ?_
  show G _ 0 [some (.inr (.inr 77)), some (.inl f), none, none] [] sh ct
  refine g_iconst (q := 1) dX10_lengthTo_0 rfl ?_
  refine s_istore_n_4_2 (q := 2) dX10_lengthTo_1 rfl rfl rfl ?_
  refine g_iload_n (q := 3) dX10_lengthTo_2 rfl rfl ?_
  refine s_istore_n_4_3 (q := 4) dX10_lengthTo_3 rfl rfl rfl ?_
  exact loop f 0 hf (by omega)
theorem pop_2M : ∀ M : Nat, M ≤ 6 → popN (2 ^ M - 1) = M := by decide +kernel
theorem ndM_e : ∀ M : Nat, M ≤ 6 → (if w32 700 < w32 ((w32 (100 * (M : Int) * shlI 1 M)).tdiv (w32 2) + 1) then (w32 (100 * (M : Int) * shlI 1 M)).tdiv (w32 2) + 1 else 700) = ((ndM M : Nat) : Int) := by decide +kernel
theorem ndM_le : ∀ M : Nat, M ≤ 6 → 700 ≤ ndM M ∧ ndM M ≤ 19201 := by decide +kernel
theorem c_room0 {q : Int} {N M : Nat} (S : SH sh) (hq : ct 77 1 = q) (sq : shA sh q = some (20, N)) (hN : N ≤ 19201) (hM : M ≤ 6) (hw : ct 77 11 = ((2 ^ M - 1 : Nat) : Int)) (h : ndM M ≤ N) : Mt YX10_makeRoom (d + 1) [.inr (.inr 77)] sh sh ct (pN fun c => c = ct) := by
  have hl := ndM_le M hM
  have h10 : 2 ^ M - 1 < 1024 := by
    have : 2 ^ M ≤ 2 ^ 6 := Nat.pow_le_pow_right (by decide) hM
    omega
  refine Mt.of rfl (Nat.le_of_ble_eq_true rfl) ?_
  show G _ 0 [some (.inr (.inr 77)), none, none] [] sh ct
  refine g_aload_n (q := 1) dX10_makeRoom_0 rfl rfl ?_
  refine g_getI (q := 4) (kI := 11) fX10_49 (by first | assumption | exact S.at _ rfl) dX10_makeRoom_1 rfl rfl ?_
  rw [hw]
  refine g_callS (q := 7) lX10_80 mJ6_bitCount_0f7a4 sJ6_bitCount_0f7a4 rfl (c_bitCount d sh ct h10) shLe.rf (rmOk.mk (by omega) (by first | exact shLe.rf | assumption)) (Nat.le_of_ble_eq_true rfl) dX10_makeRoom_4 rfl rfl (kI fun r c hp => ?_)
  obtain ⟨rfl, rfl⟩ := hp
  rw [pop_2M M hM]
  refine s_istore_n_3_1 (q := 8) dX10_makeRoom_7 rfl rfl rfl ?_
  refine g_sipush (q := 11) dX10_makeRoom_8 (by decide +kernel) rfl ?_
  refine g_bipush (q := 13) dX10_makeRoom_11 (by decide +kernel) rfl ?_
  refine g_iload_n (q := 14) dX10_makeRoom_13 rfl rfl ?_
  refine g_imul (q := 15) dX10_makeRoom_14 rfl ?_
  refine g_iconst (q := 16) dX10_makeRoom_15 rfl ?_
  refine g_iload_n (q := 17) dX10_makeRoom_16 rfl rfl ?_
  refine g_ishl (q := 18) dX10_makeRoom_17 rfl ?_
  refine g_imul (q := 19) dX10_makeRoom_18 rfl ?_
  refine g_iconst (q := 20) dX10_makeRoom_19 rfl ?_
  refine g_idiv (q := 21) dX10_makeRoom_20 (by decide) rfl ?_
  refine g_iconst (q := 22) dX10_makeRoom_21 rfl ?_
  refine g_iadd (q := 23) dX10_makeRoom_22 rfl ?_
  refine g_mmax (q := 26) lX10_85 tb_mmaxS tb_mI tb_mmaxC (rmOk.mk (by omega) (by first | exact shLe.rf | assumption)) (Nat.le_of_ble_eq_true rfl) dX10_makeRoom_23 rfl ?_
  rw [ndM_e M hM]
  refine s_istore_n_3_2 (q := 27) dX10_makeRoom_26 rfl rfl rfl ?_
  refine g_aload_n (q := 28) dX10_makeRoom_27 rfl rfl ?_
  refine g_getA (q := 31) (kI := 1) fX10_11 (by first | assumption | exact S.at _ rfl) dX10_makeRoom_28 rfl rfl (by first | assumption | exact L.at _ _ rfl | exact LK.at (by assumption) _ _ rfl | ((repeat first | rewrite [wr_na (by decide)] | rewrite [wr_nk (by decide)] | rewrite [wa_na (by decide)]); first | assumption | exact LK.at (by assumption) _ _ rfl) | exact rfl) ?_
  refine g_alen (q := 32) (by first | assumption | exact S.at _ rfl) (by decide) dX10_makeRoom_31 rfl rfl ?_
  refine g_iload_n (q := 33) dX10_makeRoom_32 rfl rfl ?_
  refine g_icmp_ge (q := 36) (tg := 43) dX10_makeRoom_33 (by decide) rfl (fun c_33 => ?_) (fun c_33 => ?_)
  · refine g_return dX10_makeRoom_43 rfl ?_
    exact ⟨rfl, rfl⟩
  · exact absurd c_33 (by unfold w32; omega)
theorem c_room1 {q : Int} {N M : Nat} (S : SH sh) (hq : ct 77 1 = q) (sq : shA sh q = some (20, N)) (hN : N ≤ 19201) (hM : M ≤ 6) (hw : ct 77 11 = ((2 ^ M - 1 : Nat) : Int)) (h : N < ndM M) : Mt YX10_makeRoom (d + 1) [.inr (.inr 77)] sh (sh ++ [(20, ndM M)]) ct (pN fun c => c = wr (wa ct sh.length (fun _ => 0)) 77 1 sh.length) := by
  have hl := ndM_le M hM
  have h10 : 2 ^ M - 1 < 1024 := by
    have : 2 ^ M ≤ 2 ^ 6 := Nat.pow_le_pow_right (by decide) hM
    omega
  have hle : shLe sh (sh ++ [(20, ndM M)]) := shLe.app _ _
  refine Mt.of rfl (Nat.le_of_ble_eq_true rfl) ?_
  show G _ 0 [some (.inr (.inr 77)), none, none] [] sh ct
  refine g_aload_n (q := 1) dX10_makeRoom_0 rfl rfl ?_
  refine g_getI (q := 4) (kI := 11) fX10_49 (by first | assumption | exact S.at _ rfl) dX10_makeRoom_1 rfl rfl ?_
  rw [hw]
  refine g_callS (q := 7) lX10_80 mJ6_bitCount_0f7a4 sJ6_bitCount_0f7a4 rfl (c_bitCount d sh ct h10) shLe.rf (rmOk.mk (by omega) hle) (Nat.le_of_ble_eq_true rfl) dX10_makeRoom_4 rfl rfl (kI fun r c hp => ?_)
  obtain ⟨rfl, rfl⟩ := hp
  rw [pop_2M M hM]
  refine s_istore_n_3_1 (q := 8) dX10_makeRoom_7 rfl rfl rfl ?_
  refine g_sipush (q := 11) dX10_makeRoom_8 (by decide +kernel) rfl ?_
  refine g_bipush (q := 13) dX10_makeRoom_11 (by decide +kernel) rfl ?_
  refine g_iload_n (q := 14) dX10_makeRoom_13 rfl rfl ?_
  refine g_imul (q := 15) dX10_makeRoom_14 rfl ?_
  refine g_iconst (q := 16) dX10_makeRoom_15 rfl ?_
  refine g_iload_n (q := 17) dX10_makeRoom_16 rfl rfl ?_
  refine g_ishl (q := 18) dX10_makeRoom_17 rfl ?_
  refine g_imul (q := 19) dX10_makeRoom_18 rfl ?_
  refine g_iconst (q := 20) dX10_makeRoom_19 rfl ?_
  refine g_idiv (q := 21) dX10_makeRoom_20 (by decide) rfl ?_
  refine g_iconst (q := 22) dX10_makeRoom_21 rfl ?_
  refine g_iadd (q := 23) dX10_makeRoom_22 rfl ?_
  refine g_mmax (q := 26) lX10_85 tb_mmaxS tb_mI tb_mmaxC (rmOk.mk (by omega) (by first | exact shLe.rf | assumption)) (Nat.le_of_ble_eq_true rfl) dX10_makeRoom_23 rfl ?_
  rw [ndM_e M hM]
  refine s_istore_n_3_2 (q := 27) dX10_makeRoom_26 rfl rfl rfl ?_
  refine g_aload_n (q := 28) dX10_makeRoom_27 rfl rfl ?_
  refine g_getA (q := 31) (kI := 1) fX10_11 (by first | assumption | exact S.at _ rfl) dX10_makeRoom_28 rfl rfl (by first | assumption | exact L.at _ _ rfl | exact LK.at (by assumption) _ _ rfl | ((repeat first | rewrite [wr_na (by decide)] | rewrite [wr_nk (by decide)] | rewrite [wa_na (by decide)]); first | assumption | exact LK.at (by assumption) _ _ rfl) | exact rfl) ?_
  refine g_alen (q := 32) (by first | assumption | exact S.at _ rfl) (by decide) dX10_makeRoom_31 rfl rfl ?_
  refine g_iload_n (q := 33) dX10_makeRoom_32 rfl rfl ?_
  refine g_icmp_ge (q := 36) (tg := 43) dX10_makeRoom_33 (by decide) rfl (fun c_33 => ?_) (fun c_33 => ?_)
  · exact absurd c_33 (by unfold w32; omega)
  · refine g_aload_n (q := 37) dX10_makeRoom_36 rfl rfl ?_
    refine g_iload_n (q := 38) dX10_makeRoom_37 rfl rfl ?_
    refine g_newarray (q := 40) (n := ndM M) (kd := 20) (by decide) (by decide) rfl ac_int rfl (by omega) (nw_c shLe.rf) (nw_s shLe.rf) rfl dX10_makeRoom_38 rfl ?_
    refine g_putA (q := 43) (kI := 1) fX10_11 (by first | exact SH.at (by assumption) _ rfl | exact shA_app (SH.at (by assumption) _ rfl)) dX10_makeRoom_40 rfl rfl ?_
    refine g_return dX10_makeRoom_43 rfl ?_
    exact ⟨rfl, rfl⟩
end
