/-! the reference: strokes -/
def linesV (m : Int) : Nat := if 1 < m then (m - 1).toNat else 0
def stkV (s w : Int) (k : Nat) : Int := (if w = 0 then mbAb.getD s.toNat 0 else mbBe.getD s.toNat 0) ^ k
theorem stk_chk : ∀ s : Fin 11, ∀ k : Fin 16, (10 - s.val) ^ k.val / Nat.gcd ((10 - s.val) ^ k.val) (10 ^ k.val) = (mbAb.getD s.val 0).toNat ^ k.val ∧ 10 ^ k.val / Nat.gcd ((10 - s.val) ^ k.val) (10 ^ k.val) = (mbBe.getD s.val 0).toNat ^ k.val ∧ 0 < Nat.gcd ((10 - s.val) ^ k.val) (10 ^ k.val) ∧ 0 ≤ mbAb.getD s.val 0 ∧ 0 ≤ mbBe.getD s.val 0 := by decide +kernel
theorem stk_eq {s : Int} {k : Nat} (h0 : 0 ≤ s) (h1 : s ≤ 10) (hk : k ≤ 15) : (((10 - s.toNat) ^ k / Nat.gcd ((10 - s.toNat) ^ k) (10 ^ k) : Nat) : Int) = stkV s 0 k ∧ ((10 ^ k / Nat.gcd ((10 - s.toNat) ^ k) (10 ^ k) : Nat) : Int) = stkV s 1 k ∧ 0 < Nat.gcd ((10 - s.toNat) ^ k) (10 ^ k) := by
  obtain ⟨a, b, c, e, f⟩ := stk_chk ⟨s.toNat, by omega⟩ ⟨k, by omega⟩
  refine ⟨?_, ?_, c⟩
  · have a' : (10 - s.toNat) ^ k / Nat.gcd ((10 - s.toNat) ^ k) (10 ^ k) = (mbAb.getD s.toNat 0).toNat ^ k := a
    rw [a']
    unfold stkV
    rw [if_pos rfl, Int.natCast_pow, Int.toNat_of_nonneg e]
  · have b' : 10 ^ k / Nat.gcd ((10 - s.toNat) ^ k) (10 ^ k) = (mbBe.getD s.toNat 0).toNat ^ k := b
    rw [b']
    unfold stkV
    rw [if_neg (by decide), Int.natCast_pow, Int.toNat_of_nonneg f]
def qStroke (β : Bk) (mk : Int → Int) (st tone w r : Int) : Prop := (¬ (w = 0 ∨ w = 1) ∧ r = -2) ∨ ((w = 0 ∨ w = 1) ∧ ¬ isTn tone ∧ r = -3) ∨ ((w = 0 ∨ w = 1) ∧ isTn tone ∧ ∃ m, wyS β mk st (-1) (-1) 9 tone 0 m ∧ ((m = -1 ∧ r = -1) ∨ (16 < m ∧ r = -4) ∨ (m ≠ -1 ∧ m ≤ 16 ∧ r = stkV (β.n 4) w (linesV m))))
theorem qStroke.uni {β : Bk} {mk : Int → Int} {st tone w r r2 : Int} (h : qStroke β mk st tone w r) (h2 : qStroke β mk st tone w r2) : r = r2 := by
  rcases h with ⟨a, b⟩ | ⟨a, b, c⟩ | ⟨a, b, m, c, e⟩ <;> rcases h2 with ⟨a2, b2⟩ | ⟨a2, b2, c2⟩ | ⟨a2, b2, m2, c2, e2⟩
  · omega
  · exact absurd a2 a
  · exact absurd a2 a
  · exact absurd a a2
  · omega
  · exact absurd b2 b
  · exact absurd a a2
  · exact absurd b b2
  · have := WayOk.uni c c2
    subst this
    rcases e with e | e | e <;> rcases e2 with e2 | e2 | e2
    · omega
    · omega
    · exact absurd e.1 e2.1
    · omega
    · omega
    · omega
    · exact absurd e2.1 e.1
    · omega
    · rw [e.2.2, e2.2.2]
theorem p10 {k : Nat} (h : k ≤ 15) : 10 ^ k < 4611686018427387904 := by
  rcases (show k = 0 ∨ k = 1 ∨ k = 2 ∨ k = 3 ∨ k = 4 ∨ k = 5 ∨ k = 6 ∨ k = 7 ∨ k = 8 ∨ k = 9 ∨ k = 10 ∨ k = 11 ∨ k = 12 ∨ k = 13 ∨ k = 14 ∨ k = 15 by omega) with rfl | rfl | rfl | rfl | rfl | rfl | rfl | rfl | rfl | rfl | rfl | rfl | rfl | rfl | rfl | rfl <;> decide
theorem p10b {k : Nat} (h : k ≤ 15) : 10 ^ k < 2 ^ 50 := by
  rcases (show k = 0 ∨ k = 1 ∨ k = 2 ∨ k = 3 ∨ k = 4 ∨ k = 5 ∨ k = 6 ∨ k = 7 ∨ k = 8 ∨ k = 9 ∨ k = 10 ∨ k = 11 ∨ k = 12 ∨ k = 13 ∨ k = 14 ∨ k = 15 by omega) with rfl | rfl | rfl | rfl | rfl | rfl | rfl | rfl | rfl | rfl | rfl | rfl | rfl | rfl | rfl | rfl <;> decide
section
variable (d : Nat) (sh : mbSh) (ct : mbCt) {β : Bk} {mk : Int → Int} {st : Int}
set_option maxRecDepth 4000 in
theorem tw_stroke {tone w : Int} (S : SH sh) (M : MD ct β mk st) (ht : i32 tone) (hw : i32 w) : Mt YX12_stroke (d + 101) [.inr (.inr 92), .inl tone, .inl w] sh sh ct (pL fun r c => qStroke β mk st tone w r ∧ mF ct c) := by
  have hB := M.B
  have hb4 := hB.2.2.2.2.1
  unfold i32 at hw
  generalize hP : (pL fun r c => qStroke β mk st tone w r ∧ mF ct c) = Po
  refine Mt.of rfl (Nat.le_of_ble_eq_true rfl) ?_
  show G _ 0 [some (.inr (.inr 92)), some (.inl tone), some (.inl w), none, none, none, none, none, none] [] sh ct
  refine g_aload_n (q := 1) dX12_stroke_0 rfl rfl ?_
  refine g_iconst (q := 2) dX12_stroke_1 rfl ?_
  refine g_putI (q := 5) (kI := 0) fX12_1 (by first | assumption | exact S.at _ rfl) dX12_stroke_2 rfl rfl ?_
  refine g_iload_n (q := 6) dX12_stroke_5 rfl rfl ?_
  refine g_i2l (q := 7) dX12_stroke_6 rfl ?_
  refine g_lconst0 (q := 8) dX12_stroke_7 rfl ?_
  refine g_lconst1 (q := 9) dX12_stroke_8 rfl ?_
  rw [w32_id (x := w) hw.1 hw.2]
  refine g_callS (q := 12) lX12_150 mX12_within sX12_within rfl (tw_within d sh _) shLe.rf (rmOk.mk (by omega) (by first | exact shLe.rf | assumption)) (Nat.le_of_ble_eq_true rfl) dX12_stroke_9 rfl rfl (kI fun r_ c_ hp => ?_)
  obtain ⟨hr, hq⟩ := hp
  replace hr := hr.symm
  replace hq := hq.symm
  subst hr hq
  refine g_if_ne (q := 15) (tg := 19) dX12_stroke_12 (by decide) rfl (fun c_12 => ?_) (fun c_12 => ?_)
  · have hw01 : w = 0 ∨ w = 1 := by
      have := wbn.mp c_12
      unfold w64 at this
      omega
    refine g_iload_n (q := 20) dX12_stroke_19 rfl rfl ?_
    refine g_callS (q := 23) lX12_358 mX12_isTone sX12_isTone rfl (tw_isTone d sh _ ht) shLe.rf (rmOk.mk (by omega) (by first | exact shLe.rf | assumption)) (Nat.le_of_ble_eq_true rfl) dX12_stroke_20 rfl rfl (kI fun r_ c_ hp => ?_)
    obtain ⟨hr, hq⟩ := hp
    replace hr := hr.symm
    replace hq := hq.symm
    subst hr hq
    refine g_if_ne (q := 26) (tg := 30) dX12_stroke_23 (by decide) rfl (fun c_23 => ?_) (fun c_23 => ?_)
    · have htn := wbn.mp c_23
      refine g_aload_n (q := 31) dX12_stroke_30 rfl rfl ?_
      refine g_iload_n (q := 32) dX12_stroke_31 rfl rfl ?_
      refine g_callV (q := 35) lX12_361 mX12_shortestNow nX12_shortestNow rfl (tw_shortestNow d sh _ S (M.mf mF.th) htn.1 (by have := htn.2; omega)) (by first | assumption | exact S.at _ rfl) rfl rfl shLe.rf (rmOk.mk (by omega) (by first | exact shLe.rf | assumption)) (Nat.le_of_ble_eq_true rfl) dX12_stroke_32 rfl rfl (kI fun m c1 hp => ?_)
      obtain ⟨hL, e1⟩ := hp
      have hwy := hL.way (useN_ok _ _)
      have hge := hwy.1.ge
      have e1' := mF.th.tr e1
      have M1 := M.mf e1'
      have L1 := M1.L
      have h5 : c1 93 5 = β.n 4 := M1.bk.1.2.2.2.2.2
      have fin : ∀ r c, mF ct c → ((m = -1 ∧ r = -1) ∨ (16 < m ∧ r = -4) ∨ (m ≠ -1 ∧ m ≤ 16 ∧ r = stkV (β.n 4) w (linesV m))) → Po (some (.inr (.inl r))) c := by
        intro r c e h
        rw [← hP]
        exact ⟨_, rfl, Or.inr (Or.inr ⟨hw01, htn, m, hwy.1, h⟩), e⟩
      refine s_istore_n_9_3 (q := 36) dX12_stroke_35 rfl rfl rfl ?_
      refine g_iload_n (q := 37) dX12_stroke_36 rfl rfl ?_
      refine g_iconst (q := 38) dX12_stroke_37 rfl ?_
      refine g_icmp_ne (q := 41) (tg := 45) dX12_stroke_38 (by decide) rfl (fun c_38 => ?_) (fun c_38 => ?_)
      · have hm1 : m ≠ -1 := fun z => c_38 (by rw [z])
        refine g_iload_n (q := 46) dX12_stroke_45 rfl rfl ?_
        refine g_bipush (q := 48) dX12_stroke_46 (by decide +kernel) rfl ?_
        refine g_icmp_le (q := 51) (tg := 55) dX12_stroke_48 (by decide) rfl (fun c_48 => ?_) (fun c_48 => ?_)
        · have hm16 : m ≤ 16 := by unfold w32 at c_48; omega
          have hk15 : linesV m ≤ 15 := by
            unfold linesV
            split <;> omega
          have hst := stk_eq (s := β.n 4) hb4.1 hb4.2 hk15
          have tail : ∀ v : Int, v = (linesV m : Nat) → G (mkK YX12_stroke (d + 101) sh sh Po) 67 [some (.inr (.inr 92)), some (.inl tone), some (.inl w), some (.inl m), none, none, none, none, none] [.inl v] sh c1 := by
            rintro v rfl
            generalize linesV m = k at hk15 hst fin ⊢
            have ha : (10 - β.n 4 : Int) ^ k = (((10 - (β.n 4).toNat) ^ k : Nat) : Int) := by
              rw [Int.natCast_pow]
              congr 1
              omega
            have hb : (10 : Int) ^ k = ((10 ^ k : Nat) : Int) := by
              rw [Int.natCast_pow]
              rfl
            have hal : (10 - (β.n 4).toNat) ^ k ≤ 10 ^ k := Nat.pow_le_pow_left (by omega) k
            have h10 := p10 hk15
            have hgl : Nat.gcd ((10 - (β.n 4).toNat) ^ k) (10 ^ k) ≤ 10 ^ k := Nat.gcd_le_right _ (Nat.pow_pos (by decide))
            have wn : ∀ x : Nat, x < 4611686018427387904 → w64 (x : Int) = x := fun x hx => w64_id (by omega) (by omega)
            have quo : ∀ x : Nat, x ≤ 10 ^ k → (w64 (x : Int)).tdiv (w64 ((Nat.gcd ((10 - (β.n 4).toNat) ^ k) (10 ^ k) : Nat) : Int)) = ((x / Nat.gcd ((10 - (β.n 4).toNat) ^ k) (10 ^ k) : Nat) : Int) := by
              intro x hx
              rw [wn x (by omega), wn _ (by omega), td_pos (by omega)]
              simp
            refine s_istore_9_4 (q := 69) dX12_stroke_67 rfl rfl rfl ?_
            refine g_bipush (q := 71) dX12_stroke_69 (by decide +kernel) rfl ?_
            refine g_aload_n (q := 72) dX12_stroke_71 rfl rfl ?_
            refine g_getA (q := 75) (kI := 1) fX12_13 (by first | assumption | exact S.at _ rfl) dX12_stroke_72 rfl rfl (by first | assumption | exact L.at _ _ rfl | exact LK.at (by assumption) _ _ rfl | ((repeat first | rewrite [wr_na (by decide)] | rewrite [wr_nk (by decide)] | rewrite [wa_na (by decide)]); first | assumption | exact LK.at (by assumption) _ _ rfl) | exact rfl) ?_
            refine g_iconst (q := 76) dX12_stroke_75 rfl ?_
            refine g_iaload (q := 77) (by first | assumption | exact S.at _ rfl) (by omega) (by omega) (by omega) dX12_stroke_76 rfl ?_
            refine g_isub (q := 78) dX12_stroke_77 rfl ?_
            refine g_iload (q := 80) dX12_stroke_78 rfl rfl ?_
            rw [h5]
            refine g_callS (q := 83) lX12_438 mX12_powerOf sX12_powerOf rfl (tw_powerOf (d + 0) sh _ (b := 10 - β.n 4) (n := k) (by omega) (by omega)) shLe.rf (rmOk.mk (by omega) (by first | exact shLe.rf | assumption)) (Nat.le_of_ble_eq_true rfl) dX12_stroke_80 rfl rfl (kL fun r_ c_ hp => ?_)
            obtain ⟨hr, hq⟩ := hp
            replace hr := hr.symm
            replace hq := hq.symm
            subst hr hq
            rw [ha]
            refine s_lstore_9_5 (q := 85) dX12_stroke_83 rfl rfl rfl ?_
            refine g_lload (q := 87) dX12_stroke_85 rfl rfl ?_
            refine g_bipush (q := 89) dX12_stroke_87 (by decide +kernel) rfl ?_
            refine g_iload (q := 91) dX12_stroke_89 rfl rfl ?_
            refine g_callS (q := 94) lX12_438 mX12_powerOf sX12_powerOf rfl (tw_powerOf (d + 0) sh _ (b := 10) (n := k) (by omega) (by omega)) shLe.rf (rmOk.mk (by omega) (by first | exact shLe.rf | assumption)) (Nat.le_of_ble_eq_true rfl) dX12_stroke_91 rfl rfl (kL fun r_ c_ hp => ?_)
            obtain ⟨hr, hq⟩ := hp
            replace hr := hr.symm
            replace hq := hq.symm
            subst hr hq
            rw [hb]
            refine g_callS (q := 97) lX12_430 mX12_common sX12_common rfl (tw_common d sh _ 50 _ _ (by omega) (by omega) (p10b hk15)) shLe.rf (rmOk.mk (by omega) (by first | exact shLe.rf | assumption)) (Nat.le_of_ble_eq_true rfl) dX12_stroke_94 rfl rfl (kL fun r_ c_ hp => ?_)
            obtain ⟨hr, hq⟩ := hp
            replace hr := hr.symm
            replace hq := hq.symm
            subst hr hq
            have hg0 : ¬ w64 ((Nat.gcd ((10 - (β.n 4).toNat) ^ k) (10 ^ k) : Nat) : Int) = 0 := by
              rw [wn _ (by omega)]
              have := hst.2.2
              omega
            refine s_lstore_9_7 (q := 99) dX12_stroke_97 rfl rfl rfl ?_
            refine g_iload_n (q := 100) dX12_stroke_99 rfl rfl ?_
            refine g_if_ne (q := 103) (tg := 108) dX12_stroke_100 (by decide) rfl (fun c_100 => ?_) (fun c_100 => ?_)
            · have hw1 : w = 1 := by
                rcases hw01 with h | h
                · rw [h] at c_100
                  exact absurd rfl c_100
                · exact h
              refine g_bipush (q := 110) dX12_stroke_108 (by decide +kernel) rfl ?_
              refine g_iload (q := 112) dX12_stroke_110 rfl rfl ?_
              refine g_callS (q := 115) lX12_438 mX12_powerOf sX12_powerOf rfl (tw_powerOf (d + 0) sh _ (b := 10) (n := k) (by omega) (by omega)) shLe.rf (rmOk.mk (by omega) (by first | exact shLe.rf | assumption)) (Nat.le_of_ble_eq_true rfl) dX12_stroke_112 rfl rfl (kL fun r_ c_ hp => ?_)
              obtain ⟨hr, hq⟩ := hp
              replace hr := hr.symm
              replace hq := hq.symm
              subst hr hq
              rw [hb]
              refine g_lload (q := 117) dX12_stroke_115 rfl rfl ?_
              refine g_ldiv (q := 118) dX12_stroke_117 hg0 rfl ?_
              rw [quo _ (Nat.le_refl _)]
              refine g_lreturn dX12_stroke_118 rfl ?_
              refine fin _ _ e1' (Or.inr (Or.inr ⟨hm1, hm16, ?_⟩))
              rw [hst.2.1, hw1]
            · have hw0 : w = 0 := by
                rcases hw01 with h | h
                · exact h
                · rw [h] at c_100
                  exact absurd c_100 (by decide)
              refine g_lload (q := 105) dX12_stroke_103 rfl rfl ?_
              refine g_goto (q := 115) dX12_stroke_105 (by decide) ?_
              refine g_lload (q := 117) dX12_stroke_115 rfl rfl ?_
              refine g_ldiv (q := 118) dX12_stroke_117 hg0 rfl ?_
              rw [quo _ hal]
              refine g_lreturn dX12_stroke_118 rfl ?_
              refine fin _ _ e1' (Or.inr (Or.inr ⟨hm1, hm16, ?_⟩))
              rw [hst.1, hw0]
          refine g_iload_n (q := 56) dX12_stroke_55 rfl rfl ?_
          refine g_iconst (q := 57) dX12_stroke_56 rfl ?_
          refine g_icmp_le (q := 60) (tg := 66) dX12_stroke_57 (by decide) rfl (fun c_57 => ?_) (fun c_57 => ?_)
          · refine g_iconst (q := 67) dX12_stroke_66 rfl ?_
            refine tail 0 ?_
            unfold linesV
            rw [if_neg (by unfold w32 at c_57; omega)]
            rfl
          · have h1m : 1 < m := by unfold w32 at c_57; omega
            refine g_iload_n (q := 61) dX12_stroke_60 rfl rfl ?_
            refine g_iconst (q := 62) dX12_stroke_61 rfl ?_
            refine g_isub (q := 63) dX12_stroke_62 rfl ?_
            refine g_goto (q := 67) dX12_stroke_63 (by decide) ?_
            refine tail _ ?_
            unfold linesV
            rw [if_pos h1m]
            omega
        · refine g_ldc2 (q := 54) dX12_stroke_51 kX12_436 rfl ?_
          refine g_lreturn dX12_stroke_54 rfl ?_
          exact fin _ _ e1' (Or.inr (Or.inl ⟨by unfold w32 at c_48; omega, rfl⟩))
      · refine g_ldc2 (q := 44) dX12_stroke_41 kX12_291 rfl ?_
        refine g_lreturn dX12_stroke_44 rfl ?_
        exact fin _ _ e1' (Or.inl ⟨by unfold w32 at c_38; omega, rfl⟩)
    · refine g_ldc2 (q := 29) dX12_stroke_26 kX12_367 rfl ?_
      refine g_lreturn dX12_stroke_29 rfl ?_
      rw [← hP]
      exact ⟨_, rfl, Or.inr (Or.inl ⟨hw01, wb0.mp c_23, rfl⟩), mF.th⟩
  · refine g_ldc2 (q := 18) dX12_stroke_15 kX12_434 rfl ?_
    refine g_lreturn dX12_stroke_18 rfl ?_
    rw [← hP]
    refine ⟨_, rfl, Or.inl ⟨?_, rfl⟩, mF.th⟩
    have := wb0.mp c_12
    unfold w64 at this
    omega
def badV (s m : Int) : Int := if s = 0 then 0 else if s = 10 then (if 0 < linesV m then 1 else 0) else linesV m
theorem badV_in {s m : Int} (h : m ≤ 100000) : 0 ≤ badV s m ∧ badV s m ≤ 100000 := by
  unfold badV linesV
  (repeat' split) <;> omega
theorem tw_badness {m : Int} (S : SH sh) (M : MD ct β mk st) (h0 : 0 ≤ m) (h1 : m ≤ 100000) : Mt YX12_badness d [.inr (.inr 92), .inl m] sh sh ct (pI fun r c => r = badV (β.n 4) m ∧ c = ct) := by
  have L := M.L
  have hb4 := M.B.2.2.2.2.1
  have h5 : ct 93 5 = β.n 4 := M.bk.1.2.2.2.2.2
  refine Mt.of rfl (Nat.le_of_ble_eq_true rfl) ?_
  show G _ 0 [some (.inr (.inr 92)), some (.inl m), none] [] sh ct
  refine g_iload_n (q := 1) dX12_badness_0 rfl rfl ?_
  refine g_iconst (q := 2) dX12_badness_1 rfl ?_
  refine g_icmp_le (q := 5) (tg := 11) dX12_badness_2 (by decide) rfl (fun c_2 => ?_) (fun c_2 => ?_)
  · refine g_iconst (q := 12) dX12_badness_11 rfl ?_
    refine s_istore_n_3_2 (q := 13) dX12_badness_12 rfl rfl rfl ?_
    refine g_aload_n (q := 14) dX12_badness_13 rfl rfl ?_
    refine g_getA (q := 17) (kI := 1) fX12_13 (by first | assumption | exact S.at _ rfl) dX12_badness_14 rfl rfl (by first | assumption | exact L.at _ _ rfl | exact LK.at (by assumption) _ _ rfl | ((repeat first | rewrite [wr_na (by decide)] | rewrite [wr_nk (by decide)] | rewrite [wa_na (by decide)]); first | assumption | exact LK.at (by assumption) _ _ rfl) | exact rfl) ?_
    refine g_iconst (q := 18) dX12_badness_17 rfl ?_
    refine g_iaload (q := 19) (by first | assumption | exact S.at _ rfl) (by omega) (by omega) (by omega) dX12_badness_18 rfl ?_
    refine g_if_ne (q := 22) (tg := 26) dX12_badness_19 (by decide) rfl (fun c_19 => ?_) (fun c_19 => ?_)
    · refine g_aload_n (q := 27) dX12_badness_26 rfl rfl ?_
      refine g_getA (q := 30) (kI := 1) fX12_13 (by first | assumption | exact S.at _ rfl) dX12_badness_27 rfl rfl (by first | assumption | exact L.at _ _ rfl | exact LK.at (by assumption) _ _ rfl | ((repeat first | rewrite [wr_na (by decide)] | rewrite [wr_nk (by decide)] | rewrite [wa_na (by decide)]); first | assumption | exact LK.at (by assumption) _ _ rfl) | exact rfl) ?_
      refine g_iconst (q := 31) dX12_badness_30 rfl ?_
      refine g_iaload (q := 32) (by first | assumption | exact S.at _ rfl) (by omega) (by omega) (by omega) dX12_badness_31 rfl ?_
      refine g_bipush (q := 34) dX12_badness_32 (by decide +kernel) rfl ?_
      refine g_icmp_ne (q := 37) (tg := 49) dX12_badness_34 (by decide) rfl (fun c_34 => ?_) (fun c_34 => ?_)
      · refine g_iload_n (q := 50) dX12_badness_49 rfl rfl ?_
        refine g_ireturn dX12_badness_50 rfl ?_
        refine ⟨_, rfl, ?_, rfl⟩; (try rw [h5] at c_19); (try rw [h5] at c_34); unfold badV linesV; unfold w32 at *; (repeat' split) <;> omega
      · refine g_iload_n (q := 38) dX12_badness_37 rfl rfl ?_
        refine g_if_le (q := 41) (tg := 45) dX12_badness_38 (by decide) rfl (fun c_38 => ?_) (fun c_38 => ?_)
        · refine g_iconst (q := 46) dX12_badness_45 rfl ?_
          refine g_goto (q := 50) dX12_badness_46 (by decide) ?_
          refine g_ireturn dX12_badness_50 rfl ?_
          refine ⟨_, rfl, ?_, rfl⟩; (try rw [h5] at c_19); (try rw [h5] at c_34); unfold badV linesV; unfold w32 at *; (repeat' split) <;> omega
        · refine g_iconst (q := 42) dX12_badness_41 rfl ?_
          refine g_goto (q := 50) dX12_badness_42 (by decide) ?_
          refine g_ireturn dX12_badness_50 rfl ?_
          refine ⟨_, rfl, ?_, rfl⟩; (try rw [h5] at c_19); (try rw [h5] at c_34); unfold badV linesV; unfold w32 at *; (repeat' split) <;> omega
    · refine g_iconst (q := 23) dX12_badness_22 rfl ?_
      refine g_goto (q := 50) dX12_badness_23 (by decide) ?_
      refine g_ireturn dX12_badness_50 rfl ?_
      refine ⟨_, rfl, ?_, rfl⟩; (try rw [h5] at c_19); (try rw [h5] at c_34); unfold badV linesV; unfold w32 at *; (repeat' split) <;> omega
  · refine g_iload_n (q := 6) dX12_badness_5 rfl rfl ?_
    refine g_iconst (q := 7) dX12_badness_6 rfl ?_
    refine g_isub (q := 8) dX12_badness_7 rfl ?_
    refine g_goto (q := 12) dX12_badness_8 (by decide) ?_
    refine s_istore_n_3_2 (q := 13) dX12_badness_12 rfl rfl rfl ?_
    refine g_aload_n (q := 14) dX12_badness_13 rfl rfl ?_
    refine g_getA (q := 17) (kI := 1) fX12_13 (by first | assumption | exact S.at _ rfl) dX12_badness_14 rfl rfl (by first | assumption | exact L.at _ _ rfl | exact LK.at (by assumption) _ _ rfl | ((repeat first | rewrite [wr_na (by decide)] | rewrite [wr_nk (by decide)] | rewrite [wa_na (by decide)]); first | assumption | exact LK.at (by assumption) _ _ rfl) | exact rfl) ?_
    refine g_iconst (q := 18) dX12_badness_17 rfl ?_
    refine g_iaload (q := 19) (by first | assumption | exact S.at _ rfl) (by omega) (by omega) (by omega) dX12_badness_18 rfl ?_
    refine g_if_ne (q := 22) (tg := 26) dX12_badness_19 (by decide) rfl (fun c_19 => ?_) (fun c_19 => ?_)
    · refine g_aload_n (q := 27) dX12_badness_26 rfl rfl ?_
      refine g_getA (q := 30) (kI := 1) fX12_13 (by first | assumption | exact S.at _ rfl) dX12_badness_27 rfl rfl (by first | assumption | exact L.at _ _ rfl | exact LK.at (by assumption) _ _ rfl | ((repeat first | rewrite [wr_na (by decide)] | rewrite [wr_nk (by decide)] | rewrite [wa_na (by decide)]); first | assumption | exact LK.at (by assumption) _ _ rfl) | exact rfl) ?_
      refine g_iconst (q := 31) dX12_badness_30 rfl ?_
      refine g_iaload (q := 32) (by first | assumption | exact S.at _ rfl) (by omega) (by omega) (by omega) dX12_badness_31 rfl ?_
      refine g_bipush (q := 34) dX12_badness_32 (by decide +kernel) rfl ?_
      refine g_icmp_ne (q := 37) (tg := 49) dX12_badness_34 (by decide) rfl (fun c_34 => ?_) (fun c_34 => ?_)
      · refine g_iload_n (q := 50) dX12_badness_49 rfl rfl ?_
        refine g_ireturn dX12_badness_50 rfl ?_
        refine ⟨_, rfl, ?_, rfl⟩; (try rw [h5] at c_19); (try rw [h5] at c_34); unfold badV linesV; unfold w32 at *; (repeat' split) <;> omega
      · refine g_iload_n (q := 38) dX12_badness_37 rfl rfl ?_
        refine g_if_le (q := 41) (tg := 45) dX12_badness_38 (by decide) rfl (fun c_38 => ?_) (fun c_38 => ?_)
        · refine g_iconst (q := 46) dX12_badness_45 rfl ?_
          refine g_goto (q := 50) dX12_badness_46 (by decide) ?_
          refine g_ireturn dX12_badness_50 rfl ?_
          refine ⟨_, rfl, ?_, rfl⟩; (try rw [h5] at c_19); (try rw [h5] at c_34); unfold badV linesV; unfold w32 at *; (repeat' split) <;> omega
        · refine g_iconst (q := 42) dX12_badness_41 rfl ?_
          refine g_goto (q := 50) dX12_badness_42 (by decide) ?_
          refine g_ireturn dX12_badness_50 rfl ?_
          refine ⟨_, rfl, ?_, rfl⟩; (try rw [h5] at c_19); (try rw [h5] at c_34); unfold badV linesV; unfold w32 at *; (repeat' split) <;> omega
    · refine g_iconst (q := 23) dX12_badness_22 rfl ?_
      refine g_goto (q := 50) dX12_badness_23 (by decide) ?_
      refine g_ireturn dX12_badness_50 rfl ?_
      refine ⟨_, rfl, ?_, rfl⟩; (try rw [h5] at c_19); (try rw [h5] at c_34); unfold badV linesV; unfold w32 at *; (repeat' split) <;> omega
def lkL (s v : Int) : Int := if v = -1 then -268435456 else -(badV s v)
def qLik (β : Bk) (mk : Int → Int) (st r : Int) : Prop := ∃ L : Nat → Int, (∀ t : Nat, t < 10 → ∃ v, wyS β mk st (-1) (-1) 9 t 0 v ∧ L t = lkL (β.n 4) v) ∧ r = (kwS L (-268435456) 10).1
theorem kwS_cg {L L2 : Nat → Int} {now : Int} : ∀ {n : Nat}, (∀ k, k < n → L k = L2 k) → kwS L now n = kwS L2 now n
  | 0, _ => rfl
  | n + 1, h => by
    unfold kwS
    rw [kwS_cg (n := n) (fun k hk => h k (by omega)), h n (by omega)]
theorem qLik.uni {r r2 : Int} (h : qLik β mk st r) (h2 : qLik β mk st r2) : r = r2 := by
  obtain ⟨L, a, b⟩ := h
  obtain ⟨L2, a2, b2⟩ := h2
  rw [b, b2, kwS_cg]
  intro k hk
  obtain ⟨v, c, e⟩ := a k hk
  obtain ⟨v2, c2, e2⟩ := a2 k hk
  rw [e, e2, WayOk.uni c c2]
theorem kwS_lo {L : Nat → Int} {now : Int} : ∀ n, now ≤ (kwS L now n).2
  | 0 => Int.le_refl _
  | n + 1 => by
    have := kwS_lo (L := L) (now := now) n
    unfold kwS
    split
    · exact this
    · show now ≤ L n
      omega
set_option maxRecDepth 4000 in
theorem tw_likeliest (S : SH sh) (M : MD ct β mk st) : Mt YX12_likeliest (d + 6) [.inr (.inr 92)] sh sh ct (pI fun r c => qLik β mk st r ∧ mF ct c) := by
  generalize hP : (pI fun r c => qLik β mk st r ∧ mF ct c) = Po
  refine Mt.of rfl (Nat.le_of_ble_eq_true rfl) ?_
  show G _ 0 [some (.inr (.inr 92)), none, none, none, none] [] sh ct
  refine g_aload_n (q := 1) dX12_likeliest_0 rfl rfl ?_
  refine g_iconst (q := 2) dX12_likeliest_1 rfl ?_
  refine g_putI (q := 5) (kI := 0) fX12_1 (by first | assumption | exact S.at _ rfl) dX12_likeliest_2 rfl rfl ?_
  refine g_aload_n (q := 6) dX12_likeliest_5 rfl rfl ?_
  refine g_callV (q := 9) lX12_351 mX12_laysPlain nX12_laysPlain rfl (tw_laysPlain d sh _ S (M.mf mF.th)) (by first | assumption | exact S.at _ rfl) rfl rfl shLe.rf (rmOk.mk (by omega) (by first | exact shLe.rf | assumption)) (Nat.le_of_ble_eq_true rfl) dX12_likeliest_6 rfl rfl (kN fun c1 hp => ?_)
  obtain ⟨D, e1⟩ := hp
  have e1' := (mF.th (v := 0)).tr (mF.of e1 rfl)
  refine g_iconst (q := 10) dX12_likeliest_9 rfl ?_
  refine s_istore_n_5_1 (q := 11) dX12_likeliest_10 rfl rfl rfl ?_
  refine g_ldcw (q := 14) dX12_likeliest_11 kX12_334 rfl ?_
  refine s_istore_n_5_2 (q := 15) dX12_likeliest_14 rfl rfl rfl ?_
  refine g_iconst (q := 16) dX12_likeliest_15 rfl ?_
  refine s_istore_n_5_3 (q := 17) dX12_likeliest_16 rfl rfl rfl ?_
  refine g_forA (α := (Nat → Int)) (fun t LL => [some (.inr (.inr 92)), some (.inl (kwS LL (-268435456) t.toNat).1), some (.inl (-(kwS LL (-268435456) t.toNat).2)), some (.inl t), none]) (fun t LL c => 0 ≤ t ∧ mF ct c ∧ LD c β mk (-1) (-1) 9 ∧ (∀ k, LL k ≤ 0) ∧ ∀ k : Nat, (k : Int) < t → ∃ v, wyS β mk st (-1) (-1) 9 k 0 v ∧ v ≤ 44800 ∧ LL k = lkL (β.n 4) v) 10 ?_ ?_ (i := 0) (a := fun _ => 0) (by omega) ⟨by omega, e1', D, fun _ => Int.le_refl _, fun k hk => by omega⟩ (by simp [lsSub, kwS])
  · rintro t LL c ht ⟨t0, e, D2, hle0, hv⟩ kk
    have M2 := M.mf e
    have hlo := kwS_lo (L := LL) (now := -268435456) t.toNat
    have hhi : (kwS LL (-268435456) t.toNat).2 ≤ 0 := by
      have : ∀ n, (kwS LL (-268435456) n).2 ≤ 0 := by
        intro n
        induction n with
        | zero => show (-268435456 : Int) ≤ 0; omega
        | succ n ih =>
          unfold kwS
          split
          · exact ih
          · exact hle0 n
      exact this _
    have et : ((t.toNat : Nat) : Int) = t := by omega
    refine g_iload_n (q := 18) dX12_likeliest_17 rfl rfl ?_
    refine g_bipush (q := 20) dX12_likeliest_18 (by decide +kernel) rfl ?_
    refine g_icmp_ge (q := 23) (tg := 65) dX12_likeliest_20 (by decide) rfl (fun c_20 => ?_) (fun c_20 => ?_)
    · exact absurd c_20 (by unfold w32; omega)
    · refine g_aload_n (q := 24) dX12_likeliest_23 rfl rfl ?_
      refine g_iload_n (q := 25) dX12_likeliest_24 rfl rfl ?_
      refine g_iconst (q := 26) dX12_likeliest_25 rfl ?_
      refine g_callV (q := 29) lX12_354 mX12_laysMinutes nX12_laysMinutes rfl (tw_laysMinutes (d + 2) sh _ S M2 D2 (useN_ok _ _) (by omega) fulM_0 (by omega) (by omega)) (by first | assumption | exact S.at _ rfl) rfl rfl shLe.rf (rmOk.mk (by omega) (by first | exact shLe.rf | assumption)) (Nat.le_of_ble_eq_true rfl) dX12_likeliest_26 rfl rfl (kI fun v c2 hp => ?_)
      obtain ⟨hL2, e2⟩ := hp
      have hw2 := hL2.way (useN_ok _ _)
      have hge2 := hw2.1.ge
      have e2' := e.tr (mF.of e2 rfl)
      have M3 := M.mf e2'
      have hbad := badV_in (s := β.n 4) (m := v) (by omega)
      have hlk0 : lkL (β.n 4) v ≤ 0 := by
        unfold lkL
        split <;> omega
      have inv : ∀ LL2 : Nat → Int, LL2 = (fun k => if k = t.toNat then lkL (β.n 4) v else LL k) → (0 ≤ t + 1 ∧ mF ct c2 ∧ LD c2 β mk (-1) (-1) 9 ∧ (∀ k, LL2 k ≤ 0) ∧ ∀ k : Nat, (k : Int) < t + 1 → ∃ v, wyS β mk st (-1) (-1) 9 k 0 v ∧ v ≤ 44800 ∧ LL2 k = lkL (β.n 4) v) := by
        rintro LL2 rfl
        refine ⟨by omega, e2', D2.eq (e2 100 (by decide)) (e2 103 (by decide)), fun k => ?_, fun k hk => ?_⟩
        · show (if k = t.toNat then _ else _) ≤ 0
          split
          · exact hlk0
          · exact hle0 k
        · by_cases hke : k = t.toNat
          · subst hke
            refine ⟨v, ?_, hw2.2, by simp⟩
            rw [et]
            exact hw2.1
          · obtain ⟨v', h1, h2, h3⟩ := hv k (by omega)
            exact ⟨v', h1, h2, by show (if k = t.toNat then _ else _) = _; rw [if_neg hke]; exact h3⟩
      have same : kwS (fun k => if k = t.toNat then lkL (β.n 4) v else LL k) (-268435456) t.toNat = kwS LL (-268435456) t.toNat := kwS_cg (fun k hk => by show (if k = t.toNat then _ else _) = _; rw [if_neg (by omega)])
      have stp : kwS (fun k => if k = t.toNat then lkL (β.n 4) v else LL k) (-268435456) (t + 1).toNat = if lkL (β.n 4) v ≤ (kwS LL (-268435456) t.toNat).2 then kwS LL (-268435456) t.toNat else ((t.toNat : Int), lkL (β.n 4) v) := by
        rw [show (t + 1).toNat = t.toNat + 1 by omega]
        show (if (if t.toNat = t.toNat then lkL (β.n 4) v else LL t.toNat) ≤ _ then _ else _) = _
        rw [same]
        simp
      have skip' : lkL (β.n 4) v ≤ (kwS LL (-268435456) t.toNat).2 → ∀ o4, G (mkK YX12_likeliest (d + 6) sh sh Po) 59 [some (.inr (.inr 92)), some (.inl (kwS LL (-268435456) t.toNat).1), some (.inl (-(kwS LL (-268435456) t.toNat).2)), some (.inl t), o4] [] sh c2 := by
        intro h o4
        rw [if_pos h] at stp
        refine s_iinc_5_3 (q := 62) dX12_likeliest_59 rfl rfl rfl ?_
        refine g_goto (q := 17) dX12_likeliest_62 (by decide) ?_
        refine kk (fun k => if k = t.toNat then lkL (β.n 4) v else LL k) _ _ ?_ (inv _ rfl)
        rw [stp]
        simp [lsSub]
      refine s_istore_5_4 (q := 31) dX12_likeliest_29 rfl rfl rfl ?_
      refine g_iload (q := 33) dX12_likeliest_31 rfl rfl ?_
      refine g_iconst (q := 34) dX12_likeliest_33 rfl ?_
      refine g_icmp_eq (q := 37) (tg := 59) dX12_likeliest_34 (by decide) rfl (fun c_34 => ?_) (fun c_34 => ?_)
      · have hv1 : v = -1 := by unfold w32 at c_34; omega
        refine skip' ?_ _
        unfold lkL
        rw [if_pos hv1]
        exact hlo
      · have hv1 : v ≠ -1 := fun z => c_34 (by rw [z])
        have hlk : lkL (β.n 4) v = -(badV (β.n 4) v) := by unfold lkL; rw [if_neg hv1]
        refine g_aload_n (q := 38) dX12_likeliest_37 rfl rfl ?_
        refine g_iload (q := 40) dX12_likeliest_38 rfl rfl ?_
        refine g_callV (q := 43) lX12_442 mX12_badness nX12_badness rfl (tw_badness (d + 5) sh _ S M3 (by omega) (by omega)) (by first | assumption | exact S.at _ rfl) rfl rfl shLe.rf (rmOk.mk (by omega) (by first | exact shLe.rf | assumption)) (Nat.le_of_ble_eq_true rfl) dX12_likeliest_40 rfl rfl (kI fun r_ c_ hp => ?_)
        obtain ⟨hr, hq⟩ := hp
        replace hr := hr.symm
        replace hq := hq.symm
        subst hr hq
        refine g_iload_n (q := 44) dX12_likeliest_43 rfl rfl ?_
        refine g_icmp_lt (q := 47) (tg := 50) dX12_likeliest_44 (by decide) rfl (fun c_44 => ?_) (fun c_44 => ?_)
        · have hlt : ¬ lkL (β.n 4) v ≤ (kwS LL (-268435456) t.toNat).2 := by
            rw [hlk]
            unfold w32 at c_44
            omega
          rw [if_neg hlt] at stp
          refine g_iload_n (q := 51) dX12_likeliest_50 rfl rfl ?_
          refine s_istore_n_5_1 (q := 52) dX12_likeliest_51 rfl rfl rfl ?_
          refine g_aload_n (q := 53) dX12_likeliest_52 rfl rfl ?_
          refine g_iload (q := 55) dX12_likeliest_53 rfl rfl ?_
          refine g_callV (q := 58) lX12_442 mX12_badness nX12_badness rfl (tw_badness (d + 5) sh _ S M3 (by omega) (by omega)) (by first | assumption | exact S.at _ rfl) rfl rfl shLe.rf (rmOk.mk (by omega) (by first | exact shLe.rf | assumption)) (Nat.le_of_ble_eq_true rfl) dX12_likeliest_55 rfl rfl (kI fun r_ c_ hp => ?_)
          obtain ⟨hr, hq⟩ := hp
          replace hr := hr.symm
          replace hq := hq.symm
          subst hr hq
          refine s_istore_n_5_2 (q := 59) dX12_likeliest_58 rfl rfl rfl ?_
          refine s_iinc_5_3 (q := 62) dX12_likeliest_59 rfl rfl rfl ?_
          refine g_goto (q := 17) dX12_likeliest_62 (by decide) ?_
          refine kk (fun k => if k = t.toNat then lkL (β.n 4) v else LL k) _ _ ?_ (inv _ rfl)
          rw [stp, hlk]
          simp [lsSub]
          omega
        · refine g_goto (q := 59) dX12_likeliest_47 (by decide) ?_
          refine skip' ?_ _
          rw [hlk]
          unfold w32 at c_44
          omega
  · rintro LL c ⟨-, e, -, -, hv⟩
    refine g_iload_n (q := 18) dX12_likeliest_17 rfl rfl ?_
    refine g_bipush (q := 20) dX12_likeliest_18 (by decide +kernel) rfl ?_
    refine g_icmp_ge (q := 23) (tg := 65) dX12_likeliest_20 (by decide) rfl (fun c_20 => ?_) (fun c_20 => ?_)
    · refine g_iload_n (q := 66) dX12_likeliest_65 rfl rfl ?_
      refine g_ireturn dX12_likeliest_66 rfl ?_
      rw [← hP]
      refine ⟨_, rfl, ⟨LL, fun t ht => ?_, rfl⟩, e⟩
      obtain ⟨v, h1, h2, h3⟩ := hv t (by omega)
      exact ⟨v, h1, h3⟩
    · exact absurd c_20 (by decide)
end
