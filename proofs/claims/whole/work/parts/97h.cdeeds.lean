/-! MinuteBook: a deed, told by its number -/
theorem dX11_tryDeed_0 : decode cX11_tryDeed 0 = .ok (.lload_n 2, 1) := by decide +kernel
theorem dX11_tryDeed_1 : decode cX11_tryDeed 1 = .ok (.ldc2_w 240, 3) := by decide +kernel
theorem dX11_tryDeed_4 : decode cX11_tryDeed 4 = .ok (.lcmp, 1) := by decide +kernel
theorem dX11_tryDeed_5 : decode cX11_tryDeed 5 = .ok (.ifCond .ne 13, 3) := by decide +kernel
theorem dX11_tryDeed_8 : decode cX11_tryDeed 8 = .ok (.aload_n 1, 1) := by decide +kernel
theorem dX11_tryDeed_9 : decode cX11_tryDeed 9 = .ok (.aload_n 0, 1) := by decide +kernel
theorem dX11_tryDeed_10 : decode cX11_tryDeed 10 = .ok (.getfield 20, 3) := by decide +kernel
theorem dX11_tryDeed_13 : decode cX11_tryDeed 13 = .ok (.invokevirtual 204, 3) := by decide +kernel
theorem dX11_tryDeed_16 : decode cX11_tryDeed 16 = .ok (.iconst 0, 1) := by decide +kernel
theorem dX11_tryDeed_17 : decode cX11_tryDeed 17 = .ok (.ireturn, 1) := by decide +kernel
theorem dX11_tryDeed_18 : decode cX11_tryDeed 18 = .ok (.lload_n 2, 1) := by decide +kernel
theorem dX11_tryDeed_19 : decode cX11_tryDeed 19 = .ok (.lconst 0, 1) := by decide +kernel
theorem dX11_tryDeed_20 : decode cX11_tryDeed 20 = .ok (.lcmp, 1) := by decide +kernel
theorem dX11_tryDeed_21 : decode cX11_tryDeed 21 = .ok (.ifCond .lt 11, 3) := by decide +kernel
theorem dX11_tryDeed_24 : decode cX11_tryDeed 24 = .ok (.lload_n 2, 1) := by decide +kernel
theorem dX11_tryDeed_25 : decode cX11_tryDeed 25 = .ok (.ldc2_w 242, 3) := by decide +kernel
theorem dX11_tryDeed_28 : decode cX11_tryDeed 28 = .ok (.lcmp, 1) := by decide +kernel
theorem dX11_tryDeed_29 : decode cX11_tryDeed 29 = .ok (.ifCond .le 5, 3) := by decide +kernel
theorem dX11_tryDeed_32 : decode cX11_tryDeed 32 = .ok (.iconst 1, 1) := by decide +kernel
theorem dX11_tryDeed_33 : decode cX11_tryDeed 33 = .ok (.ireturn, 1) := by decide +kernel
theorem dX11_tryDeed_34 : decode cX11_tryDeed 34 = .ok (.lload_n 2, 1) := by decide +kernel
theorem dX11_tryDeed_35 : decode cX11_tryDeed 35 = .ok (.l2i, 1) := by decide +kernel
theorem dX11_tryDeed_36 : decode cX11_tryDeed 36 = .ok (.istore 4, 2) := by decide +kernel
theorem dX11_tryDeed_38 : decode cX11_tryDeed 38 = .ok (.iload 4, 2) := by decide +kernel
theorem dX11_tryDeed_40 : decode cX11_tryDeed 40 = .ok (.bipush 100, 2) := by decide +kernel
theorem dX11_tryDeed_42 : decode cX11_tryDeed 42 = .ok (.if_icmp .ge 21, 3) := by decide +kernel
theorem dX11_tryDeed_45 : decode cX11_tryDeed 45 = .ok (.aload_n 0, 1) := by decide +kernel
theorem dX11_tryDeed_46 : decode cX11_tryDeed 46 = .ok (.aload_n 1, 1) := by decide +kernel
theorem dX11_tryDeed_47 : decode cX11_tryDeed 47 = .ok (.iload 4, 2) := by decide +kernel
theorem dX11_tryDeed_49 : decode cX11_tryDeed 49 = .ok (.bipush 10, 2) := by decide +kernel
theorem dX11_tryDeed_51 : decode cX11_tryDeed 51 = .ok (.idiv, 1) := by decide +kernel
theorem dX11_tryDeed_52 : decode cX11_tryDeed 52 = .ok (.iload 4, 2) := by decide +kernel
theorem dX11_tryDeed_54 : decode cX11_tryDeed 54 = .ok (.bipush 10, 2) := by decide +kernel
theorem dX11_tryDeed_56 : decode cX11_tryDeed 56 = .ok (.irem, 1) := by decide +kernel
theorem dX11_tryDeed_57 : decode cX11_tryDeed 57 = .ok (.invokevirtual 188, 3) := by decide +kernel
theorem dX11_tryDeed_60 : decode cX11_tryDeed 60 = .ok (.goto 21, 3) := by decide +kernel
theorem dX11_tryDeed_63 : decode cX11_tryDeed 63 = .ok (.aload_n 0, 1) := by decide +kernel
theorem dX11_tryDeed_64 : decode cX11_tryDeed 64 = .ok (.aload_n 1, 1) := by decide +kernel
theorem dX11_tryDeed_65 : decode cX11_tryDeed 65 = .ok (.iload 4, 2) := by decide +kernel
theorem dX11_tryDeed_67 : decode cX11_tryDeed 67 = .ok (.bipush 100, 2) := by decide +kernel
theorem dX11_tryDeed_69 : decode cX11_tryDeed 69 = .ok (.isub, 1) := by decide +kernel
theorem dX11_tryDeed_70 : decode cX11_tryDeed 70 = .ok (.bipush 10, 2) := by decide +kernel
theorem dX11_tryDeed_72 : decode cX11_tryDeed 72 = .ok (.idiv, 1) := by decide +kernel
theorem dX11_tryDeed_73 : decode cX11_tryDeed 73 = .ok (.iload 4, 2) := by decide +kernel
theorem dX11_tryDeed_75 : decode cX11_tryDeed 75 = .ok (.bipush 10, 2) := by decide +kernel
theorem dX11_tryDeed_77 : decode cX11_tryDeed 77 = .ok (.irem, 1) := by decide +kernel
theorem dX11_tryDeed_78 : decode cX11_tryDeed 78 = .ok (.invokevirtual 198, 3) := by decide +kernel
theorem dX11_tryDeed_81 : decode cX11_tryDeed 81 = .ok (.ireturn, 1) := by decide +kernel
theorem dX11_tryDeeds_0 : decode cX11_tryDeeds 0 = .ok (.iconst 0, 1) := by decide +kernel
theorem dX11_tryDeeds_1 : decode cX11_tryDeeds 1 = .ok (.istore_n 3, 1) := by decide +kernel
theorem dX11_tryDeeds_2 : decode cX11_tryDeeds 2 = .ok (.iload_n 3, 1) := by decide +kernel
theorem dX11_tryDeeds_3 : decode cX11_tryDeeds 3 = .ok (.aload_n 2, 1) := by decide +kernel
theorem dX11_tryDeeds_4 : decode cX11_tryDeeds 4 = .ok (.getfield 225, 3) := by decide +kernel
theorem dX11_tryDeeds_7 : decode cX11_tryDeeds 7 = .ok (.if_icmp .ge 24, 3) := by decide +kernel
theorem dX11_tryDeeds_10 : decode cX11_tryDeeds 10 = .ok (.aload_n 0, 1) := by decide +kernel
theorem dX11_tryDeeds_11 : decode cX11_tryDeeds 11 = .ok (.aload_n 1, 1) := by decide +kernel
theorem dX11_tryDeeds_12 : decode cX11_tryDeeds 12 = .ok (.aload_n 2, 1) := by decide +kernel
theorem dX11_tryDeeds_13 : decode cX11_tryDeeds 13 = .ok (.iload_n 3, 1) := by decide +kernel
theorem dX11_tryDeeds_14 : decode cX11_tryDeeds 14 = .ok (.invokevirtual 226, 3) := by decide +kernel
theorem dX11_tryDeeds_17 : decode cX11_tryDeeds 17 = .ok (.invokevirtual 229, 3) := by decide +kernel
theorem dX11_tryDeeds_20 : decode cX11_tryDeeds 20 = .ok (.ifCond .eq 5, 3) := by decide +kernel
theorem dX11_tryDeeds_23 : decode cX11_tryDeeds 23 = .ok (.iload_n 3, 1) := by decide +kernel
theorem dX11_tryDeeds_24 : decode cX11_tryDeeds 24 = .ok (.ireturn, 1) := by decide +kernel
theorem dX11_tryDeeds_25 : decode cX11_tryDeeds 25 = .ok (.iinc 3 1, 3) := by decide +kernel
theorem dX11_tryDeeds_28 : decode cX11_tryDeeds 28 = .ok (.goto (-26), 3) := by decide +kernel
theorem dX11_tryDeeds_31 : decode cX11_tryDeeds 31 = .ok (.aload_n 2, 1) := by decide +kernel
theorem dX11_tryDeeds_32 : decode cX11_tryDeeds 32 = .ok (.getfield 225, 3) := by decide +kernel
theorem dX11_tryDeeds_35 : decode cX11_tryDeeds 35 = .ok (.ireturn, 1) := by decide +kernel
section
variable (d : Nat) (sh : mbSh) (ct : mbCt) {b : Int} {β : Bk} {s z : Sit} {q : Int} {N : Nat} {V : Int} {a : Int}
/-- what a try leaves: z2 on the sitting a -/
def TY (sh : mbSh) (ct : mbCt) (b : Int) (β : Bk) (s : Sit) (q : Int) (N : Nat) (V a : Int) (z2 : Sit) (c : mbCt) : Prop := (∃ s', ((a = 14 ∧ s' = s) ∨ (a = 12 ∧ s' = z2)) ∧ CX sh c b β s' q N V) ∧ sitC c a z2 ∧ dE a ct c
theorem TY.rf {c : mbCt} (X : CX sh c b β s q N V) (ha : (a = 12 ∧ z = s) ∨ a = 14) (hz : sitC c a z) : TY sh c b β s q N V a z c := by
  refine ⟨⟨s, ?_, X⟩, hz, eqBut.rf, rfl⟩
  rcases ha with h | h
  · exact Or.inr ⟨h.1, h.2.symm⟩
  · exact Or.inl ⟨h, rfl⟩
theorem x_adjournTo (S : SH sh) (X : CX sh ct b β s q N V) (ha : (a = 12 ∧ z = s) ∨ a = 14) (hz : sitC ct a z) (hzB : sitB z) (hzc : cnM β z.2.2) : Mt YX8_adjournTo (d + 1) [.inr (.inr a), .inr (.inr b)] sh sh ct (pN fun c => TY sh ct b β s q N V a (adjS β z) c) := by
  have L := X.L
  have ha' : a = 12 ∨ a = 14 := by omega
  have bb : b = 2 ∨ b = 7 := X.hb
  have hat := sitAt_n S L ha'
  have sb := (X.bb S).1
  have hbk := X.2.2.1.2.2
  refine Mt.imp (c_adjournTo d sh ct hat.1 sb) ?_
  rintro r c ⟨rfl, rfl⟩
  have n0 := X.n 0
  have n1 := X.n 1
  have k0 : adC ct a b a 0 = (β.n 0 * 10 + β.n 1) * 7 + 6 := by
    unfold adC
    rw [if_pos ⟨rfl, rfl⟩, n0, n1]
  have k1 : adC ct a b a 1 = 0 := by
    unfold adC
    rw [if_neg (by omega), if_pos ⟨rfl, rfl⟩]
  have kk : ∀ x j, (x ≠ a ∨ (j ≠ 0 ∧ j ≠ 1)) → adC ct a b x j = ct x j := by
    intro x j h
    unfold adC
    rw [if_neg (by omega), if_neg (by omega)]
  generalize adC ct a b = c at k0 k1 kk
  have oth : ∀ x, x ≠ a → c x = ct x := fun x hx => by
    funext j
    exact kk x j (Or.inl hx)
  have hL : LK c := by
    intro x k v hv
    by_cases hx : x = a ∧ (k = 0 ∨ k = 1)
    · rw [hx.1, lk_sit ha' hx.2] at hv
      cases hv
    · rw [kk x k (by omega)]
      exact L x k v hv
  have hs2 : sitC c a (adjS β z) := ⟨k0, k1, fun m m0 m1 => by rw [oth (a + 1) (by omega)]; exact hz.2.2 m m0 m1⟩
  have hB2 : sitB (adjS β z) := by
    refine ⟨?_, hzB.2⟩
    have h1 := hbk.1
    have h2 := hbk.2.1
    show 0 ≤ (β.n 0 * 10 + β.n 1) * 7 + 6 ∧ (β.n 0 * 10 + β.n 1) * 7 + 6 < 700
    omega
  refine ⟨rfl, ?_, hs2, fun x hx => oth x (fun z => hx (by simp [z])), kk a 2 (Or.inr (by decide))⟩
  rcases ha with h | h
  · exact ⟨_, Or.inr ⟨h.1, rfl⟩, X.sit hL (by rw [oth 0 (by omega)]) (fun x h1 h2 => oth x (by omega)) (fun x h1 => oth x (by omega)) (by rw [← h.1]; exact hs2) hB2 hzc⟩
  · exact ⟨s, Or.inl ⟨h, rfl⟩, X.sit hL (by rw [oth 0 (by omega)]) (fun x h1 h2 => oth x (by omega)) (fun x h1 => oth x (by omega)) (X.2.1.cg (oth 12 (by omega)) (oth 13 (by omega))) X.2.2.1.1 X.2.2.1.2.1⟩
theorem x_tryDeed {v : Int} (S : SH sh) (X : CX sh ct b β s q N V) (ha : (a = 12 ∧ z = s) ∨ a = 14) (hz : sitC ct a z) (hzB : sitB z) (hzc : cnM β z.2.2) (hv : i64 v) : Mt YX11_tryDeed (d + 3) [.inr (.inr 0), .inr (.inr a), .inr (.inl v)] sh sh ct (pI fun r c => r = whyV β z v ∧ TY sh ct b β s q N V a (if whyV β z v = 0 then doV β z v else z) c) := by
  have ha' : a = 12 ∨ a = 14 := by omega
  have hat := sitAt_n S X.L ha'
  have sa := hat.1
  have h02 := X.1
  have hb2 := X.2.2.1.2.2.2.2.1
  unfold i64 at hv
  have wv := w64_id hv.1 hv.2
  generalize hP : (pI fun r c => r = whyV β z v ∧ TY sh ct b β s q N V a (if whyV β z v = 0 then doV β z v else z) c) = Po
  refine Mt.of rfl (Nat.le_of_ble_eq_true rfl) ?_
  show G _ 0 [some (.inr (.inr 0)), some (.inr (.inr a)), some (.inr (.inl v)), none, none] [] sh ct
  refine g_lload_n (q := 1) dX11_tryDeed_0 rfl rfl ?_
  refine g_ldc2 (q := 4) dX11_tryDeed_1 kX11_240 rfl ?_
  refine g_lcmp (q := 5) dX11_tryDeed_4 rfl ?_
  refine g_if_ne (q := 8) (tg := 18) dX11_tryDeed_5 (by decide) rfl (fun c_5 => ?_) (fun c_5 => ?_)
  · have hne : v ≠ -1 := fun h => c_5 (cmp_eq.mpr (by rw [h]))
    have bad : (v < 0 ∨ 199 < v) → G (mkK YX11_tryDeed (d + 3) sh sh Po) 32 [some (.inr (.inr 0)), some (.inr (.inr a)), some (.inr (.inl v)), none, none] [] sh ct := by
      intro h
      have h1 : whyV β z v = 1 := by
        unfold whyV
        rw [if_neg hne, if_neg (by omega), if_neg (by omega)]
      refine g_iconst (q := 33) dX11_tryDeed_32 rfl ?_
      refine g_ireturn dX11_tryDeed_33 rfl ?_
      rw [← hP]
      refine ⟨_, rfl, h1.symm, ?_⟩
      rw [h1, if_neg (by decide)]
      exact TY.rf sh X ha hz
    refine g_lload_n (q := 19) dX11_tryDeed_18 rfl rfl ?_
    refine g_lconst0 (q := 20) dX11_tryDeed_19 rfl ?_
    refine g_lcmp (q := 21) dX11_tryDeed_20 rfl ?_
    refine g_if_lt (q := 24) (tg := 32) dX11_tryDeed_21 (by decide) rfl (fun c_21 => ?_) (fun c_21 => ?_)
    · refine bad (Or.inl ?_)
      have h := cmp_lt.mp c_21
      rw [wv, show w64 0 = 0 from rfl] at h
      exact h
    · have hv0 : 0 ≤ v := by
        apply Classical.byContradiction
        intro h
        have : w64 v < w64 0 := by
          rw [wv, show w64 0 = 0 from rfl]
          omega
        have := cmp_lt.mpr this
        omega
      refine g_lload_n (q := 25) dX11_tryDeed_24 rfl rfl ?_
      refine g_ldc2 (q := 28) dX11_tryDeed_25 kX11_242 rfl ?_
      refine g_lcmp (q := 29) dX11_tryDeed_28 rfl ?_
      refine g_if_le (q := 32) (tg := 34) dX11_tryDeed_29 (by decide) rfl (fun c_29 => ?_) (fun c_29 => ?_)
      · have hv1 : v ≤ 199 := by
          apply Classical.byContradiction
          intro h
          have h2 : w64 199 < w64 v := by
            rw [wv, show w64 199 = 199 from rfl]
            omega
          have := cmp_gt.mpr h2
          omega
        have w3 : w32 v = v := w32_id (by omega) (by omega)
        have e1 : (w32 v).tdiv (w32 10) = v / 10 := by rw [w3, td_pos hv0]; rfl
        have e2 : (w32 v).tmod (w32 10) = v % 10 := by rw [w3, tm_pos hv0]; rfl
        refine g_lload_n (q := 35) dX11_tryDeed_34 rfl rfl ?_
        refine g_l2i (q := 36) dX11_tryDeed_35 rfl ?_
        refine s_istore_5_4 (q := 38) dX11_tryDeed_36 rfl rfl rfl ?_
        refine g_iload (q := 40) dX11_tryDeed_38 rfl rfl ?_
        refine g_bipush (q := 42) dX11_tryDeed_40 (by decide +kernel) rfl ?_
        refine g_icmp_ge (q := 45) (tg := 63) dX11_tryDeed_42 (by decide) rfl (fun c_42 => ?_) (fun c_42 => ?_)
        · have h100 : 100 ≤ v := by
            rw [w3, show w32 100 = 100 from rfl] at c_42
            exact c_42
          have w4 : w32 (v - 100) = v - 100 := w32_id (by omega) (by omega)
          have e3 : (w32 (v - 100)).tdiv (w32 10) = (v - 100) / 10 := by rw [w4, td_pos (by omega)]; rfl
          refine g_aload_n (q := 64) dX11_tryDeed_63 rfl rfl ?_
          refine g_aload_n (q := 65) dX11_tryDeed_64 rfl rfl ?_
          refine g_iload (q := 67) dX11_tryDeed_65 rfl rfl ?_
          refine g_bipush (q := 69) dX11_tryDeed_67 (by decide +kernel) rfl ?_
          refine g_isub (q := 70) dX11_tryDeed_69 rfl ?_
          refine g_bipush (q := 72) dX11_tryDeed_70 (by decide +kernel) rfl ?_
          refine g_idiv (q := 73) dX11_tryDeed_72 (by decide) rfl ?_
          rw [e3]
          refine g_iload (q := 75) dX11_tryDeed_73 rfl rfl ?_
          refine g_bipush (q := 77) dX11_tryDeed_75 (by decide +kernel) rfl ?_
          refine g_irem (q := 78) dX11_tryDeed_77 (by decide) rfl ?_
          rw [e2]
          refine g_callV (q := 81) lX11_198 mX11_tryMarking nX11_tryMarking rfl (x_tryMarking (d + 1) sh _ S X ha hz hzB hzc (m := (v - 100) / 10) (v := v % 10) (by unfold i32; omega) (by unfold i32; omega)) (by first | assumption | exact S.at _ rfl) rfl rfl shLe.rf (rmOk.mk (by omega) (by first | exact shLe.rf | assumption)) (Nat.le_of_ble_eq_true rfl) dX11_tryDeed_78 rfl rfl (kI fun r c1 hp => ?_)
          refine g_ireturn dX11_tryDeed_81 rfl ?_
          rw [← hP]
          rcases hp with ⟨h1, h2, rfl⟩ | ⟨h1, h2, h3, h4, h5⟩
          · have hw : whyV β z v = 1 := by
              unfold whyV
              rw [if_neg hne, if_neg (by omega), if_neg (fun h => h1 ⟨⟨by omega, h.2⟩, by omega, by omega⟩)]
            refine ⟨_, rfl, by rw [hw]; exact h2, ?_⟩
            rw [hw, if_neg (by decide)]
            exact TY.rf sh X ha hz
          · have hw : whyV β z v = 0 := by
              unfold whyV
              rw [if_neg hne, if_neg (by omega), if_pos ⟨⟨h100, hv1⟩, h1.1.2⟩]
            have hdo : doV β z v = mrkS z ((v - 100) / 10) (v % 10) := by
              unfold doV
              rw [if_neg hne, if_neg (by omega)]
            refine ⟨_, rfl, by rw [hw]; exact h2, ?_⟩
            rw [hw, if_pos rfl, hdo]
            exact ⟨h3, h4, h5⟩
        · have h100 : v < 100 := by
            rw [w3, show w32 100 = 100 from rfl] at c_42
            exact c_42
          refine g_aload_n (q := 46) dX11_tryDeed_45 rfl rfl ?_
          refine g_aload_n (q := 47) dX11_tryDeed_46 rfl rfl ?_
          refine g_iload (q := 49) dX11_tryDeed_47 rfl rfl ?_
          refine g_bipush (q := 51) dX11_tryDeed_49 (by decide +kernel) rfl ?_
          refine g_idiv (q := 52) dX11_tryDeed_51 (by decide) rfl ?_
          rw [e1]
          refine g_iload (q := 54) dX11_tryDeed_52 rfl rfl ?_
          refine g_bipush (q := 56) dX11_tryDeed_54 (by decide +kernel) rfl ?_
          refine g_irem (q := 57) dX11_tryDeed_56 (by decide) rfl ?_
          rw [e2]
          refine g_callV (q := 60) lX11_188 mX11_trySaying nX11_trySaying rfl (x_trySaying d sh _ S X ha hz hzB hzc (m := v / 10) (y := v % 10) (by unfold i32; omega) (by unfold i32; omega)) (by first | assumption | exact S.at _ rfl) rfl rfl shLe.rf (rmOk.mk (by omega) (by first | exact shLe.rf | assumption)) (Nat.le_of_ble_eq_true rfl) dX11_tryDeed_57 rfl rfl (kI fun r c1 hp => ?_)
          obtain ⟨h2, h3, h4, h5⟩ := hp
          have hw : whyV β z v = whyS β z (v / 10) (v % 10) := by
            unfold whyV
            rw [if_neg hne, if_pos (by omega)]
          have hdo : doV β z v = sayS β z (v / 10) (v % 10) := by
            unfold doV
            rw [if_neg hne, if_pos h100]
          refine g_goto (q := 81) dX11_tryDeed_60 (by decide) ?_
          refine g_ireturn dX11_tryDeed_81 rfl ?_
          rw [← hP]
          refine ⟨_, rfl, by rw [hw]; exact h2, ?_⟩
          rw [hw, hdo]
          exact ⟨h3, h4, h5⟩
      · refine bad (Or.inr ?_)
        have h := cmp_gt.mp c_29
        rw [wv, show w64 199 = 199 from rfl] at h
        exact h
  · have he : v = -1 := by
      have h := cmp_eq.mp c_5
      rw [wv] at h
      exact h
    refine g_aload_n (q := 9) dX11_tryDeed_8 rfl rfl ?_
    refine g_aload_n (q := 10) dX11_tryDeed_9 rfl rfl ?_
    refine g_getO (q := 13) (kI := 2) fX11_20 (by first | assumption | exact S.at _ rfl) dX11_tryDeed_10 rfl rfl (by first | assumption | exact L.at _ _ rfl | exact LK.at (by assumption) _ _ rfl | ((repeat first | rewrite [wr_na (by decide)] | rewrite [wr_nk (by decide)] | rewrite [wa_na (by decide)]); first | assumption | exact LK.at (by assumption) _ _ rfl) | exact rfl) ?_
    refine g_callV (q := 16) lX11_204 mX8_adjournTo nX8_adjournTo rfl (x_adjournTo (d + 1) sh _ S X ha hz hzB hzc) (by first | assumption | exact S.at _ rfl) rfl rfl shLe.rf (rmOk.mk (by omega) (by first | exact shLe.rf | assumption)) (Nat.le_of_ble_eq_true rfl) dX11_tryDeed_13 rfl rfl (kN fun c1 hp => ?_)
    have hw : whyV β z v = 0 := by
      unfold whyV
      rw [if_pos he]
    have hdo : doV β z v = adjS β z := by
      unfold doV
      rw [if_pos he]
    refine g_iconst (q := 17) dX11_tryDeed_16 rfl ?_
    refine g_ireturn dX11_tryDeed_17 rfl ?_
    rw [← hP]
    refine ⟨_, rfl, hw.symm, ?_⟩
    rw [hw, if_pos rfl, hdo]
    exact hp
end
