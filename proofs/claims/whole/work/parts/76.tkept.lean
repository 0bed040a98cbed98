/-! the reference: marks kept, what to try -/
def stT (β : Bk) (tl : Int → Int) (st : Int) : Nat → Int
  | 0 => st
  | i + 1 => nxB β (stT β tl st i) (tl i / 10) (tl i % 10)
theorem stT_in {β : Bk} {tl : Int → Int} {st : Int} {n : Nat} (h : 0 ≤ st ∧ st < 700) (ht : ∀ i : Nat, i < n → 0 ≤ tl i ∧ tl i / 10 ≤ 6) : ∀ {i : Nat}, i ≤ n → 0 ≤ stT β tl st i ∧ stT β tl st i < 700
  | 0, _ => h
  | i + 1, hi => by
    have := ht i (by omega)
    exact nxB_in (by omega) (by omega)
def keptP (β : Bk) (tl : Int → Int) (st m : Int) (n k : Nat) : Prop := ∀ i : Nat, i < n → tl i / 10 = m → β.W (stT β tl st i) m k (tl i % 10) = true
def cntB (p : Nat → Bool) : Nat → Nat
  | 0 => 0
  | n + 1 => cntB p n + if p n = true then 1 else 0
theorem cntB_le (p : Nat → Bool) : ∀ n, cntB p n ≤ n
  | 0 => Nat.le_refl _
  | n + 1 => by
    have := cntB_le p n
    unfold cntB
    split <;> omega
theorem cntB_cong {p q : Nat → Bool} : ∀ {n : Nat}, (∀ i, i < n → p i = q i) → cntB p n = cntB q n
  | 0, _ => rfl
  | n + 1, h => by
    unfold cntB
    rw [cntB_cong (fun i hi => h i (by omega)), h n (by omega)]
theorem cntB_mono {p q : Nat → Bool} : ∀ {n : Nat}, (∀ i, i < n → p i = true → q i = true) → cntB p n ≤ cntB q n
  | 0, _ => Nat.le_refl _
  | n + 1, h => by
    unfold cntB
    have := cntB_mono (p := p) (q := q) (n := n) (fun i hi => h i (by omega))
    have h2 := h n (by omega)
    by_cases hp : p n = true
    · rw [if_pos hp, if_pos (h2 hp)]
      omega
    · rw [if_neg hp]
      omega
def attL (β : Bk) (st m : Int) (q : Nat → Bool) (s : Nat) : Int := if (cntB (fun k => q k && β.W st m k s) 10 : Int) < (cntB q 10 : Int) - cntB (fun k => q k && β.W st m k s) 10 then (cntB (fun k => q k && β.W st m k s) 10 : Int) else (cntB q 10 : Int) - cntB (fun k => q k && β.W st m k s) 10
theorem attL_in (β : Bk) (st m : Int) (q : Nat → Bool) (s : Nat) : 0 ≤ attL β st m q s ∧ attL β st m q s ≤ 10 := by
  have h1 := cntB_le q 10
  have h2 := cntB_mono (p := fun k => q k && β.W st m k s) (q := q) (n := 10) (fun i _ h => (Bool.and_eq_true _ _ ▸ h).1)
  unfold attL
  split <;> omega
def qAtt (β : Bk) (tl : Int → Int) (st m : Int) (n : Nat) (r : Int) : Prop := ∃ q : Nat → Bool, (∀ k, k < 10 → (q k = true ↔ keptP β tl st m n k)) ∧ ((bset q 10 = 0 ∧ r = -1) ∨ (bset q 10 ≠ 0 ∧ r = (kwS (attL β st m q) (-1) (β.n 3).toNat).1))
theorem kwS_cong {L L2 : Nat → Int} (h : ∀ k, L k = L2 k) (now : Int) (n : Nat) : kwS L now n = kwS L2 now n := by
  have : L = L2 := funext h
  rw [this]
theorem qAtt.uni {β : Bk} {tl : Int → Int} {st m : Int} {n : Nat} {r r2 : Int} (h : qAtt β tl st m n r) (h2 : qAtt β tl st m n r2) : r = r2 := by
  obtain ⟨q, a, b⟩ := h
  obtain ⟨q2, a2, b2⟩ := h2
  have hq : ∀ k, k < 10 → q k = q2 k := by
    intro k hk
    have e1 := a k hk
    have e2 := a2 k hk
    cases h1 : q k <;> cases h3 : q2 k
    · rfl
    · exact absurd (e1.mpr (e2.mp h3)) (by rw [h1]; decide)
    · exact absurd (e2.mpr (e1.mp h1)) (by rw [h3]; decide)
    · rfl
  have hb : bset q 10 = bset q2 10 := bset_cong 10 hq
  have hL : ∀ s, attL β st m q s = attL β st m q2 s := by
    intro s
    unfold attL
    rw [cntB_cong hq, cntB_cong (p := fun k => q k && β.W st m k s) (q := fun k => q2 k && β.W st m k s) (fun i hi => by rw [hq i hi])]
  rcases b with ⟨b, c⟩ | ⟨b, c⟩ <;> rcases b2 with ⟨b2, c2⟩ | ⟨b2, c2⟩
  · rw [c, c2]
  · omega
  · omega
  · rw [c, c2, kwS_cong hL]
theorem isBit_v {Z k : Nat} (hZ : Z < 2147483648) (hk : k < 31) : andI (shrI Z k) 1 = b01 (Z.testBit k = true) := by
  unfold andI shrI
  rw [w32_id (by omega) (by omega), show ((k : Int) % 32).toNat = k by omega]
  have e1 : ((Z : Int) / 2 ^ k) = ((Z / 2 ^ k : Nat) : Int) := by simp
  rw [e1]
  have h1 : Z / 2 ^ k ≤ Z := Nat.div_le_self _ _
  rw [Nat.testBit_eq_decide_div_mod_eq]
  generalize Z / 2 ^ k = Q at h1 ⊢
  rw [show ((Q : Int) % 4294967296).toNat = Q by omega, show ((1 : Int) % 4294967296).toNat = 2 ^ 1 - 1 from rfl, Nat.and_two_pow_sub_one_eq_mod]
  unfold b01
  by_cases h : Q % 2 = 1
  · rw [if_pos (by simpa using h)]
    show ((Q % 2 : Nat) : Int) = 1
    omega
  · rw [if_neg (by simpa using h)]
    show ((Q % 2 : Nat) : Int) = 0
    omega
theorem bset_clr {q : Nat → Bool} {k n : Nat} (hk : k < n) (hn : n < 31) : andI ((bset q n : Nat) : Int) (xorI ((2 ^ k : Nat) : Int) (-1)) = ((bset (fun i => q i && !decide (i = k)) n : Nat) : Int) := by
  have h1 := bset_lt q n
  have h2 : 2 ^ n < 2 ^ 31 := Nat.pow_lt_pow_right (by decide) hn
  have h3 : 2 ^ k < 2 ^ 31 := Nat.pow_lt_pow_right (by decide) (by omega)
  unfold andI xorI
  have hn2 : ∀ a : Nat, a < 4294967296 → ((a : Int) % 4294967296).toNat = a := fun a h => by omega
  rw [hn2 (bset q n) (by omega), hn2 (2 ^ k) (by omega), show ((-1 : Int) % 4294967296).toNat = 2 ^ 32 - 1 from rfl]
  have h4 : (2 ^ k ^^^ (2 ^ 32 - 1)) < 2 ^ 32 := Nat.xor_lt_two_pow (by omega) (by decide)
  rw [hn2 (2 ^ k ^^^ (2 ^ 32 - 1)) h4]
  congr 1
  apply Nat.eq_of_testBit_eq
  intro i
  rw [Nat.testBit_and, bset_bit, bset_bit, Nat.testBit_xor, Nat.testBit_two_pow, Nat.testBit_two_pow_sub_one]
  by_cases hi : i < n
  · have h32 : i < 32 := by omega
    by_cases e : k = i
    · subst e
      simp [h32]
    · have e2 : ¬ i = k := fun z => e z.symm
      simp [h32, e, e2]
  · simp [hi]
theorem dX12_noKept_0 : decode cX12_noKept 0 = .ok (.iload_n 1, 1) := by decide +kernel
theorem dX12_noKept_1 : decode cX12_noKept 1 = .ok (.i2l, 1) := by decide +kernel
theorem dX12_noKept_2 : decode cX12_noKept 2 = .ok (.lconst 0, 1) := by decide +kernel
theorem dX12_noKept_3 : decode cX12_noKept 3 = .ok (.ldc2_w 307, 3) := by decide +kernel
theorem dX12_noKept_6 : decode cX12_noKept 6 = .ok (.invokestatic 150, 3) := by decide +kernel
theorem dX12_noKept_9 : decode cX12_noKept 9 = .ok (.ifCond .eq 12, 3) := by decide +kernel
theorem dX12_noKept_12 : decode cX12_noKept 12 = .ok (.aload_n 0, 1) := by decide +kernel
theorem dX12_noKept_13 : decode cX12_noKept 13 = .ok (.iload_n 2, 1) := by decide +kernel
theorem dX12_noKept_14 : decode cX12_noKept 14 = .ok (.i2l, 1) := by decide +kernel
theorem dX12_noKept_15 : decode cX12_noKept 15 = .ok (.invokevirtual 220, 3) := by decide +kernel
theorem dX12_noKept_18 : decode cX12_noKept 18 = .ok (.ifCond .ne 8, 3) := by decide +kernel
theorem dX12_noKept_21 : decode cX12_noKept 21 = .ok (.bipush (-2), 2) := by decide +kernel
theorem dX12_noKept_23 : decode cX12_noKept 23 = .ok (.goto 11, 3) := by decide +kernel
theorem dX12_noKept_26 : decode cX12_noKept 26 = .ok (.aload_n 0, 1) := by decide +kernel
theorem dX12_noKept_27 : decode cX12_noKept 27 = .ok (.iload_n 1, 1) := by decide +kernel
theorem dX12_noKept_28 : decode cX12_noKept 28 = .ok (.bipush 12, 2) := by decide +kernel
theorem dX12_noKept_30 : decode cX12_noKept 30 = .ok (.iconst 0, 1) := by decide +kernel
theorem dX12_noKept_31 : decode cX12_noKept 31 = .ok (.invokevirtual 390, 3) := by decide +kernel
theorem dX12_noKept_34 : decode cX12_noKept 34 = .ok (.ireturn, 1) := by decide +kernel
theorem dX12_keptSet_0 : decode cX12_keptSet 0 = .ok (.sipush 1023, 3) := by decide +kernel
theorem dX12_keptSet_3 : decode cX12_keptSet 3 = .ok (.istore_n 3, 1) := by decide +kernel
theorem dX12_keptSet_4 : decode cX12_keptSet 4 = .ok (.aload_n 0, 1) := by decide +kernel
theorem dX12_keptSet_5 : decode cX12_keptSet 5 = .ok (.invokevirtual 251, 3) := by decide +kernel
theorem dX12_keptSet_8 : decode cX12_keptSet 8 = .ok (.istore 4, 2) := by decide +kernel
theorem dX12_keptSet_10 : decode cX12_keptSet 10 = .ok (.iconst 0, 1) := by decide +kernel
theorem dX12_keptSet_11 : decode cX12_keptSet 11 = .ok (.istore 5, 2) := by decide +kernel
theorem dX12_keptSet_13 : decode cX12_keptSet 13 = .ok (.iload 5, 2) := by decide +kernel
theorem dX12_keptSet_15 : decode cX12_keptSet 15 = .ok (.aload_n 0, 1) := by decide +kernel
theorem dX12_keptSet_16 : decode cX12_keptSet 16 = .ok (.getfield 78, 3) := by decide +kernel
theorem dX12_keptSet_19 : decode cX12_keptSet 19 = .ok (.iload_n 1, 1) := by decide +kernel
theorem dX12_keptSet_20 : decode cX12_keptSet 20 = .ok (.iaload, 1) := by decide +kernel
theorem dX12_keptSet_21 : decode cX12_keptSet 21 = .ok (.if_icmp .ge 87, 3) := by decide +kernel
theorem dX12_keptSet_24 : decode cX12_keptSet 24 = .ok (.aload_n 0, 1) := by decide +kernel
theorem dX12_keptSet_25 : decode cX12_keptSet 25 = .ok (.iload_n 1, 1) := by decide +kernel
theorem dX12_keptSet_26 : decode cX12_keptSet 26 = .ok (.iload 5, 2) := by decide +kernel
theorem dX12_keptSet_28 : decode cX12_keptSet 28 = .ok (.invokevirtual 387, 3) := by decide +kernel
theorem dX12_keptSet_31 : decode cX12_keptSet 31 = .ok (.istore 6, 2) := by decide +kernel
theorem dX12_keptSet_33 : decode cX12_keptSet 33 = .ok (.iconst 0, 1) := by decide +kernel
theorem dX12_keptSet_34 : decode cX12_keptSet 34 = .ok (.istore 7, 2) := by decide +kernel
theorem dX12_keptSet_36 : decode cX12_keptSet 36 = .ok (.iload 7, 2) := by decide +kernel
theorem dX12_keptSet_38 : decode cX12_keptSet 38 = .ok (.bipush 10, 2) := by decide +kernel
theorem dX12_keptSet_40 : decode cX12_keptSet 40 = .ok (.if_icmp .ge 44, 3) := by decide +kernel
theorem dX12_keptSet_43 : decode cX12_keptSet 43 = .ok (.iload 6, 2) := by decide +kernel
theorem dX12_keptSet_45 : decode cX12_keptSet 45 = .ok (.bipush 10, 2) := by decide +kernel
theorem dX12_keptSet_47 : decode cX12_keptSet 47 = .ok (.idiv, 1) := by decide +kernel
theorem dX12_keptSet_48 : decode cX12_keptSet 48 = .ok (.iload_n 2, 1) := by decide +kernel
theorem dX12_keptSet_49 : decode cX12_keptSet 49 = .ok (.if_icmp .ne 29, 3) := by decide +kernel
theorem dX12_keptSet_52 : decode cX12_keptSet 52 = .ok (.aload_n 0, 1) := by decide +kernel
theorem dX12_keptSet_53 : decode cX12_keptSet 53 = .ok (.iload 4, 2) := by decide +kernel
theorem dX12_keptSet_55 : decode cX12_keptSet 55 = .ok (.iload_n 2, 1) := by decide +kernel
theorem dX12_keptSet_56 : decode cX12_keptSet 56 = .ok (.iload 6, 2) := by decide +kernel
theorem dX12_keptSet_58 : decode cX12_keptSet 58 = .ok (.bipush 10, 2) := by decide +kernel
theorem dX12_keptSet_60 : decode cX12_keptSet 60 = .ok (.irem, 1) := by decide +kernel
theorem dX12_keptSet_61 : decode cX12_keptSet 61 = .ok (.iload 7, 2) := by decide +kernel
theorem dX12_keptSet_63 : decode cX12_keptSet 63 = .ok (.invokevirtual 244, 3) := by decide +kernel
theorem dX12_keptSet_66 : decode cX12_keptSet 66 = .ok (.ifCond .ne 12, 3) := by decide +kernel
theorem dX12_keptSet_69 : decode cX12_keptSet 69 = .ok (.iload_n 3, 1) := by decide +kernel
theorem dX12_keptSet_70 : decode cX12_keptSet 70 = .ok (.iconst 1, 1) := by decide +kernel
theorem dX12_keptSet_71 : decode cX12_keptSet 71 = .ok (.iload 7, 2) := by decide +kernel
theorem dX12_keptSet_73 : decode cX12_keptSet 73 = .ok (.ishl, 1) := by decide +kernel
theorem dX12_keptSet_74 : decode cX12_keptSet 74 = .ok (.iconst (-1), 1) := by decide +kernel
theorem dX12_keptSet_75 : decode cX12_keptSet 75 = .ok (.ixor, 1) := by decide +kernel
theorem dX12_keptSet_76 : decode cX12_keptSet 76 = .ok (.iand, 1) := by decide +kernel
theorem dX12_keptSet_77 : decode cX12_keptSet 77 = .ok (.istore_n 3, 1) := by decide +kernel
theorem dX12_keptSet_78 : decode cX12_keptSet 78 = .ok (.iinc 7 1, 3) := by decide +kernel
theorem dX12_keptSet_81 : decode cX12_keptSet 81 = .ok (.goto (-45), 3) := by decide +kernel
theorem dX12_keptSet_84 : decode cX12_keptSet 84 = .ok (.aload_n 0, 1) := by decide +kernel
theorem dX12_keptSet_85 : decode cX12_keptSet 85 = .ok (.iload 4, 2) := by decide +kernel
theorem dX12_keptSet_87 : decode cX12_keptSet 87 = .ok (.iload 6, 2) := by decide +kernel
theorem dX12_keptSet_89 : decode cX12_keptSet 89 = .ok (.bipush 10, 2) := by decide +kernel
theorem dX12_keptSet_91 : decode cX12_keptSet 91 = .ok (.idiv, 1) := by decide +kernel
theorem dX12_keptSet_92 : decode cX12_keptSet 92 = .ok (.iload 6, 2) := by decide +kernel
theorem dX12_keptSet_94 : decode cX12_keptSet 94 = .ok (.bipush 10, 2) := by decide +kernel
theorem dX12_keptSet_96 : decode cX12_keptSet 96 = .ok (.irem, 1) := by decide +kernel
theorem dX12_keptSet_97 : decode cX12_keptSet 97 = .ok (.invokevirtual 271, 3) := by decide +kernel
theorem dX12_keptSet_100 : decode cX12_keptSet 100 = .ok (.istore 4, 2) := by decide +kernel
theorem dX12_keptSet_102 : decode cX12_keptSet 102 = .ok (.iinc 5 1, 3) := by decide +kernel
theorem dX12_keptSet_105 : decode cX12_keptSet 105 = .ok (.goto (-92), 3) := by decide +kernel
theorem dX12_keptSet_108 : decode cX12_keptSet 108 = .ok (.iload_n 3, 1) := by decide +kernel
theorem dX12_keptSet_109 : decode cX12_keptSet 109 = .ok (.ireturn, 1) := by decide +kernel
theorem dX12_kept_0 : decode cX12_kept 0 = .ok (.aload_n 0, 1) := by decide +kernel
theorem dX12_kept_1 : decode cX12_kept 1 = .ok (.iconst 0, 1) := by decide +kernel
theorem dX12_kept_2 : decode cX12_kept 2 = .ok (.putfield 1, 3) := by decide +kernel
theorem dX12_kept_5 : decode cX12_kept 5 = .ok (.aload_n 0, 1) := by decide +kernel
theorem dX12_kept_6 : decode cX12_kept 6 = .ok (.iload_n 1, 1) := by decide +kernel
theorem dX12_kept_7 : decode cX12_kept 7 = .ok (.iload_n 2, 1) := by decide +kernel
theorem dX12_kept_8 : decode cX12_kept 8 = .ok (.invokevirtual 417, 3) := by decide +kernel
theorem dX12_kept_11 : decode cX12_kept 11 = .ok (.istore_n 3, 1) := by decide +kernel
theorem dX12_kept_12 : decode cX12_kept 12 = .ok (.iload_n 3, 1) := by decide +kernel
theorem dX12_kept_13 : decode cX12_kept 13 = .ok (.ifCond .eq 7, 3) := by decide +kernel
theorem dX12_kept_16 : decode cX12_kept 16 = .ok (.iload_n 3, 1) := by decide +kernel
theorem dX12_kept_17 : decode cX12_kept 17 = .ok (.goto 9, 3) := by decide +kernel
theorem dX12_kept_20 : decode cX12_kept 20 = .ok (.aload_n 0, 1) := by decide +kernel
theorem dX12_kept_21 : decode cX12_kept 21 = .ok (.iload_n 1, 1) := by decide +kernel
theorem dX12_kept_22 : decode cX12_kept 22 = .ok (.iload_n 2, 1) := by decide +kernel
theorem dX12_kept_23 : decode cX12_kept 23 = .ok (.invokevirtual 420, 3) := by decide +kernel
theorem dX12_kept_26 : decode cX12_kept 26 = .ok (.ireturn, 1) := by decide +kernel
theorem dX12_attempt_0 : decode cX12_attempt 0 = .ok (.aload_n 0, 1) := by decide +kernel
theorem dX12_attempt_1 : decode cX12_attempt 1 = .ok (.iconst 0, 1) := by decide +kernel
theorem dX12_attempt_2 : decode cX12_attempt 2 = .ok (.putfield 1, 3) := by decide +kernel
theorem dX12_attempt_5 : decode cX12_attempt 5 = .ok (.aload_n 0, 1) := by decide +kernel
theorem dX12_attempt_6 : decode cX12_attempt 6 = .ok (.iload_n 1, 1) := by decide +kernel
theorem dX12_attempt_7 : decode cX12_attempt 7 = .ok (.iload_n 2, 1) := by decide +kernel
theorem dX12_attempt_8 : decode cX12_attempt 8 = .ok (.invokevirtual 417, 3) := by decide +kernel
theorem dX12_attempt_11 : decode cX12_attempt 11 = .ok (.istore_n 3, 1) := by decide +kernel
theorem dX12_attempt_12 : decode cX12_attempt 12 = .ok (.iload_n 3, 1) := by decide +kernel
theorem dX12_attempt_13 : decode cX12_attempt 13 = .ok (.ifCond .eq 5, 3) := by decide +kernel
theorem dX12_attempt_16 : decode cX12_attempt 16 = .ok (.iload_n 3, 1) := by decide +kernel
theorem dX12_attempt_17 : decode cX12_attempt 17 = .ok (.ireturn, 1) := by decide +kernel
theorem dX12_attempt_18 : decode cX12_attempt 18 = .ok (.aload_n 0, 1) := by decide +kernel
theorem dX12_attempt_19 : decode cX12_attempt 19 = .ok (.iload_n 1, 1) := by decide +kernel
theorem dX12_attempt_20 : decode cX12_attempt 20 = .ok (.iload_n 2, 1) := by decide +kernel
theorem dX12_attempt_21 : decode cX12_attempt 21 = .ok (.invokevirtual 420, 3) := by decide +kernel
theorem dX12_attempt_24 : decode cX12_attempt 24 = .ok (.istore 4, 2) := by decide +kernel
theorem dX12_attempt_26 : decode cX12_attempt 26 = .ok (.iconst (-1), 1) := by decide +kernel
theorem dX12_attempt_27 : decode cX12_attempt 27 = .ok (.istore 5, 2) := by decide +kernel
theorem dX12_attempt_29 : decode cX12_attempt 29 = .ok (.iconst (-1), 1) := by decide +kernel
theorem dX12_attempt_30 : decode cX12_attempt 30 = .ok (.istore 6, 2) := by decide +kernel
theorem dX12_attempt_32 : decode cX12_attempt 32 = .ok (.iconst 0, 1) := by decide +kernel
theorem dX12_attempt_33 : decode cX12_attempt 33 = .ok (.istore 7, 2) := by decide +kernel
theorem dX12_attempt_35 : decode cX12_attempt 35 = .ok (.iload 7, 2) := by decide +kernel
theorem dX12_attempt_37 : decode cX12_attempt 37 = .ok (.aload_n 0, 1) := by decide +kernel
theorem dX12_attempt_38 : decode cX12_attempt 38 = .ok (.getfield 13, 3) := by decide +kernel
theorem dX12_attempt_41 : decode cX12_attempt 41 = .ok (.iconst 2, 1) := by decide +kernel
theorem dX12_attempt_42 : decode cX12_attempt 42 = .ok (.iaload, 1) := by decide +kernel
theorem dX12_attempt_43 : decode cX12_attempt 43 = .ok (.if_icmp .ge 116, 3) := by decide +kernel
theorem dX12_attempt_46 : decode cX12_attempt 46 = .ok (.iload 4, 2) := by decide +kernel
theorem dX12_attempt_48 : decode cX12_attempt 48 = .ok (.ifCond .eq 111, 3) := by decide +kernel
theorem dX12_attempt_51 : decode cX12_attempt 51 = .ok (.iconst 0, 1) := by decide +kernel
theorem dX12_attempt_52 : decode cX12_attempt 52 = .ok (.istore 8, 2) := by decide +kernel
theorem dX12_attempt_54 : decode cX12_attempt 54 = .ok (.iconst 0, 1) := by decide +kernel
theorem dX12_attempt_55 : decode cX12_attempt 55 = .ok (.istore 9, 2) := by decide +kernel
theorem dX12_attempt_57 : decode cX12_attempt 57 = .ok (.iload 9, 2) := by decide +kernel
theorem dX12_attempt_59 : decode cX12_attempt 59 = .ok (.bipush 10, 2) := by decide +kernel
theorem dX12_attempt_61 : decode cX12_attempt 61 = .ok (.if_icmp .ge 46, 3) := by decide +kernel
theorem dX12_attempt_64 : decode cX12_attempt 64 = .ok (.iload 8, 2) := by decide +kernel
theorem dX12_attempt_66 : decode cX12_attempt 66 = .ok (.iload 4, 2) := by decide +kernel
theorem dX12_attempt_68 : decode cX12_attempt 68 = .ok (.i2l, 1) := by decide +kernel
theorem dX12_attempt_69 : decode cX12_attempt 69 = .ok (.iload 9, 2) := by decide +kernel
theorem dX12_attempt_71 : decode cX12_attempt 71 = .ok (.invokestatic 413, 3) := by decide +kernel
theorem dX12_attempt_74 : decode cX12_attempt 74 = .ok (.ifCond .eq 23, 3) := by decide +kernel
theorem dX12_attempt_77 : decode cX12_attempt 77 = .ok (.aload_n 0, 1) := by decide +kernel
theorem dX12_attempt_78 : decode cX12_attempt 78 = .ok (.aload_n 0, 1) := by decide +kernel
theorem dX12_attempt_79 : decode cX12_attempt 79 = .ok (.invokevirtual 251, 3) := by decide +kernel
theorem dX12_attempt_82 : decode cX12_attempt 82 = .ok (.iload_n 2, 1) := by decide +kernel
theorem dX12_attempt_83 : decode cX12_attempt 83 = .ok (.iload 7, 2) := by decide +kernel
theorem dX12_attempt_85 : decode cX12_attempt 85 = .ok (.iload 9, 2) := by decide +kernel
theorem dX12_attempt_87 : decode cX12_attempt 87 = .ok (.invokevirtual 244, 3) := by decide +kernel
theorem dX12_attempt_90 : decode cX12_attempt 90 = .ok (.ifCond .eq 7, 3) := by decide +kernel
theorem dX12_attempt_93 : decode cX12_attempt 93 = .ok (.iconst 1, 1) := by decide +kernel
theorem dX12_attempt_94 : decode cX12_attempt 94 = .ok (.goto 4, 3) := by decide +kernel
theorem dX12_attempt_97 : decode cX12_attempt 97 = .ok (.iconst 0, 1) := by decide +kernel
theorem dX12_attempt_98 : decode cX12_attempt 98 = .ok (.iadd, 1) := by decide +kernel
theorem dX12_attempt_99 : decode cX12_attempt 99 = .ok (.istore 8, 2) := by decide +kernel
theorem dX12_attempt_101 : decode cX12_attempt 101 = .ok (.iinc 9 1, 3) := by decide +kernel
theorem dX12_attempt_104 : decode cX12_attempt 104 = .ok (.goto (-47), 3) := by decide +kernel
theorem dX12_attempt_107 : decode cX12_attempt 107 = .ok (.iload 8, 2) := by decide +kernel
theorem dX12_attempt_109 : decode cX12_attempt 109 = .ok (.iload 4, 2) := by decide +kernel
theorem dX12_attempt_111 : decode cX12_attempt 111 = .ok (.invokestatic 268, 3) := by decide +kernel
theorem dX12_attempt_114 : decode cX12_attempt 114 = .ok (.iload 8, 2) := by decide +kernel
theorem dX12_attempt_116 : decode cX12_attempt 116 = .ok (.isub, 1) := by decide +kernel
theorem dX12_attempt_117 : decode cX12_attempt 117 = .ok (.if_icmp .ge 8, 3) := by decide +kernel
theorem dX12_attempt_120 : decode cX12_attempt 120 = .ok (.iload 8, 2) := by decide +kernel
theorem dX12_attempt_122 : decode cX12_attempt 122 = .ok (.goto 11, 3) := by decide +kernel
theorem dX12_attempt_125 : decode cX12_attempt 125 = .ok (.iload 4, 2) := by decide +kernel
theorem dX12_attempt_127 : decode cX12_attempt 127 = .ok (.invokestatic 268, 3) := by decide +kernel
theorem dX12_attempt_130 : decode cX12_attempt 130 = .ok (.iload 8, 2) := by decide +kernel
theorem dX12_attempt_132 : decode cX12_attempt 132 = .ok (.isub, 1) := by decide +kernel
theorem dX12_attempt_133 : decode cX12_attempt 133 = .ok (.istore 9, 2) := by decide +kernel
theorem dX12_attempt_135 : decode cX12_attempt 135 = .ok (.iload 9, 2) := by decide +kernel
theorem dX12_attempt_137 : decode cX12_attempt 137 = .ok (.iload 6, 2) := by decide +kernel
theorem dX12_attempt_139 : decode cX12_attempt 139 = .ok (.if_icmp .gt 6, 3) := by decide +kernel
theorem dX12_attempt_142 : decode cX12_attempt 142 = .ok (.goto 11, 3) := by decide +kernel
theorem dX12_attempt_145 : decode cX12_attempt 145 = .ok (.iload 7, 2) := by decide +kernel
theorem dX12_attempt_147 : decode cX12_attempt 147 = .ok (.istore 5, 2) := by decide +kernel
theorem dX12_attempt_149 : decode cX12_attempt 149 = .ok (.iload 9, 2) := by decide +kernel
theorem dX12_attempt_151 : decode cX12_attempt 151 = .ok (.istore 6, 2) := by decide +kernel
theorem dX12_attempt_153 : decode cX12_attempt 153 = .ok (.iinc 7 1, 3) := by decide +kernel
theorem dX12_attempt_156 : decode cX12_attempt 156 = .ok (.goto (-121), 3) := by decide +kernel
theorem dX12_attempt_159 : decode cX12_attempt 159 = .ok (.iload 5, 2) := by decide +kernel
theorem dX12_attempt_161 : decode cX12_attempt 161 = .ok (.ireturn, 1) := by decide +kernel
section
variable (d : Nat) (sh : mbSh) (ct : mbCt) {β : Bk} {mk : Int → Int} {st : Int} {sz bt : Int → Int} {vl : Int → Int → Int}
theorem tw_bitsOf {q : Nat → Bool} : Mt YX12_bitsOf d [.inl ((bset q 10 : Nat) : Int)] sh sh ct (pI fun r c => r = (cntB q 10 : Nat) ∧ c = ct) := by
  have h10 := bset_lt q 10
  refine Mt.of rfl (Nat.le_of_ble_eq_true rfl) ?_
  show G _ 0 [some (.inl ((bset q 10 : Nat) : Int)), none, none] [] sh ct
  refine g_iconst (q := 1) dX12_bitsOf_0 rfl ?_
  refine s_istore_n_3_1 (q := 2) dX12_bitsOf_1 rfl rfl rfl ?_
  refine g_iconst (q := 3) dX12_bitsOf_2 rfl ?_
  refine s_istore_n_3_2 (q := 4) dX12_bitsOf_3 rfl rfl rfl ?_
  refine g_for (fun k => [some (.inl ((bset q 10 : Nat) : Int)), some (.inl ((cntB q k.toNat : Nat) : Int)), some (.inl k)]) (fun k c => 0 ≤ k ∧ c = ct) 10 ?_ ?_ (i := 0) (by omega) ⟨by omega, rfl⟩ (by simp [lsSub]; rfl)
  · rintro k c hk ⟨k0, hc⟩ kk
    subst hc
    have ek : ((k.toNat : Nat) : Int) = k := by omega
    have hv := isBit_v (Z := bset q 10) (k := k.toNat) (by omega) (by omega)
    rw [ek, bset_bit, decide_eq_true (show k.toNat < 10 by omega), Bool.true_and] at hv
    refine g_iload_n (q := 5) dX12_bitsOf_4 rfl rfl ?_
    refine g_bipush (q := 7) dX12_bitsOf_5 (by decide +kernel) rfl ?_
    refine g_icmp_ge (q := 10) (tg := 24) dX12_bitsOf_7 (by decide) rfl (fun c_7 => ?_) (fun c_7 => ?_)
    · exact absurd c_7 (by unfold w32; omega)
    · refine g_iload_n (q := 11) dX12_bitsOf_10 rfl rfl ?_
      refine g_iload_n (q := 12) dX12_bitsOf_11 rfl rfl ?_
      refine g_iload_n (q := 13) dX12_bitsOf_12 rfl rfl ?_
      refine g_ishr (q := 14) dX12_bitsOf_13 rfl ?_
      refine g_iconst (q := 15) dX12_bitsOf_14 rfl ?_
      refine g_iand (q := 16) dX12_bitsOf_15 rfl ?_
      rw [hv]
      refine g_iadd (q := 17) dX12_bitsOf_16 rfl ?_
      refine s_istore_n_3_1 (q := 18) dX12_bitsOf_17 rfl rfl rfl ?_
      refine s_iinc_3_2 (q := 21) dX12_bitsOf_18 rfl rfl rfl ?_
      refine g_goto (q := 4) dX12_bitsOf_21 (by decide) ?_
      refine kk _ _ ?_ ⟨by omega, rfl⟩
      have hs : ((cntB q (k + 1).toNat : Nat) : Int) = (cntB q k.toNat : Nat) + b01 (q k.toNat = true) := by
        rw [show (k + 1).toNat = k.toNat + 1 by omega]
        show ((cntB q k.toNat + (if q k.toNat = true then 1 else 0) : Nat) : Int) = _
        unfold b01
        split <;> simp
      rw [hs]
      simp [lsSub]
  · rintro c ⟨-, hc⟩
    subst hc
    refine g_iload_n (q := 5) dX12_bitsOf_4 rfl rfl ?_
    refine g_bipush (q := 7) dX12_bitsOf_5 (by decide +kernel) rfl ?_
    refine g_icmp_ge (q := 10) (tg := 24) dX12_bitsOf_7 (by decide) rfl (fun c_7 => ?_) (fun c_7 => ?_)
    · refine g_iload_n (q := 25) dX12_bitsOf_24 rfl rfl ?_
      refine g_ireturn dX12_bitsOf_25 rfl ?_
      exact ⟨_, rfl, rfl, rfl⟩
    · exact absurd c_7 (by decide)
abbrev isMb (β : Bk) (m : Int) : Prop := 0 ≤ m ∧ m < β.n 2
def keptNo (β : Bk) (sz : Int → Int) (vl : Int → Int → Int) (t m r : Int) : Prop := (¬ isMb β m ∧ r = -2) ∨ (isMb β m ∧ rowR β sz vl t 12 0 r)
theorem keptNo.rg {t m r : Int} (h : keptNo β sz vl t m r) : -7 ≤ r ∧ r ≤ 0 := by
  rcases h with h | h
  · omega
  · exact h.2.rg
theorem keptNo.uni {t m r r2 : Int} (h : keptNo β sz vl t m r) (h2 : keptNo β sz vl t m r2) : r = r2 := by
  rcases h with ⟨a, b⟩ | ⟨a, b⟩ <;> rcases h2 with ⟨a2, b2⟩ | ⟨a2, b2⟩
  · omega
  · omega
  · omega
  · exact b.uni b2
theorem keptNo.zero {t m : Int} (h : keptNo β sz vl t m 0) : isMb β m ∧ rowOk β sz vl t 12 0 := by
  rcases h with h | h
  · omega
  · exact ⟨h.1, h.2.zero⟩
theorem tw_noKept {t m : Int} (S : SH sh) (M : MD ct β mk st) (T : MT ct sz bt vl) (ht : i32 t) (hm : i32 m) : Mt YX12_noKept (d + 4) [.inr (.inr 92), .inl t, .inl m] sh sh ct (pI fun r c => keptNo β sz vl t m r ∧ c = ct) := by
  have ht2 := ht
  unfold i32 at ht2 hm
  refine Mt.of rfl (Nat.le_of_ble_eq_true rfl) ?_
  show G _ 0 [some (.inr (.inr 92)), some (.inl t), some (.inl m)] [] sh ct
  refine g_iload_n (q := 1) dX12_noKept_0 rfl rfl ?_
  refine g_i2l (q := 2) dX12_noKept_1 rfl ?_
  refine g_lconst0 (q := 3) dX12_noKept_2 rfl ?_
  refine g_ldc2 (q := 6) dX12_noKept_3 kX12_307 rfl ?_
  rw [w32_id (x := t) ht2.1 ht2.2]
  refine g_callS (q := 9) lX12_150 mX12_within sX12_within rfl (tw_within (d + 3) sh _) shLe.rf (rmOk.mk (by omega) (by first | exact shLe.rf | assumption)) (Nat.le_of_ble_eq_true rfl) dX12_noKept_6 rfl rfl (kI fun r_ c_ hp => ?_)
  obtain ⟨hr, hq⟩ := hp
  replace hr := hr.symm
  replace hq := hq.symm
  subst hr hq
  refine g_if_eq (q := 12) (tg := 21) dX12_noKept_9 (by decide) rfl (fun c_9 => ?_) (fun c_9 => ?_)
  · have h9 := wb0.mp c_9
    refine g_bipush (q := 23) dX12_noKept_21 (by decide +kernel) rfl ?_
    refine g_goto (q := 34) dX12_noKept_23 (by decide) ?_
    refine g_ireturn dX12_noKept_34 rfl ?_
    refine ⟨_, rfl, ?_, rfl⟩
    by_cases h : isMb β m
    · exact Or.inr ⟨h, Or.inl ⟨by unfold w64 at h9; unfold isTr; omega, rfl⟩⟩
    · exact Or.inl ⟨h, rfl⟩
  · refine g_aload_n (q := 13) dX12_noKept_12 rfl rfl ?_
    refine g_iload_n (q := 14) dX12_noKept_13 rfl rfl ?_
    refine g_i2l (q := 15) dX12_noKept_14 rfl ?_
    rw [w32_id (x := m) hm.1 hm.2]
    refine g_callV (q := 18) lX12_220 mX12_isMember nX12_isMember rfl (tw_isMember (d + 2) sh _ M S (by unfold i64; omega)) (by first | assumption | exact S.at _ rfl) rfl rfl shLe.rf (rmOk.mk (by omega) (by first | exact shLe.rf | assumption)) (Nat.le_of_ble_eq_true rfl) dX12_noKept_15 rfl rfl (kI fun r_ c_ hp => ?_)
    obtain ⟨hr, hq⟩ := hp
    replace hr := hr.symm
    replace hq := hq.symm
    subst hr hq
    refine g_if_ne (q := 21) (tg := 26) dX12_noKept_18 (by decide) rfl (fun c_18 => ?_) (fun c_18 => ?_)
    · have h18 := wbn.mp c_18
      refine g_aload_n (q := 27) dX12_noKept_26 rfl rfl ?_
      refine g_iload_n (q := 28) dX12_noKept_27 rfl rfl ?_
      refine g_bipush (q := 30) dX12_noKept_28 (by decide +kernel) rfl ?_
      refine g_iconst (q := 31) dX12_noKept_30 rfl ?_
      refine g_callV (q := 34) lX12_390 mX12_noRow nX12_noRow rfl (tw_noRow d sh _ S M T ht (by omega) (Or.inl rfl)) (by first | assumption | exact S.at _ rfl) rfl rfl shLe.rf (rmOk.mk (by omega) (by first | exact shLe.rf | assumption)) (Nat.le_of_ble_eq_true rfl) dX12_noKept_31 rfl rfl (kI fun no c1 hp1 => ?_)
      obtain ⟨hno, rfl⟩ := hp1
      refine g_ireturn dX12_noKept_34 rfl ?_
      exact ⟨_, rfl, Or.inr ⟨h18, hno⟩, rfl⟩
    · have h18 := wb0.mp c_18
      refine g_bipush (q := 23) dX12_noKept_21 (by decide +kernel) rfl ?_
      refine g_goto (q := 34) dX12_noKept_23 (by decide) ?_
      refine g_ireturn dX12_noKept_34 rfl ?_
      exact ⟨_, rfl, Or.inl ⟨h18, rfl⟩, rfl⟩
set_option maxRecDepth 4000 in
theorem tw_keptSet {t m : Int} {n : Nat} {tl : Int → Int} (S : SH sh) (M : MD ct β mk st) (R : rowT ct t n tl) (hr : ∀ i : Nat, i < n → okN β 0 (tl i)) (hm : isMb β m) : Mt YX12_keptSet (d + 3) [.inr (.inr 92), .inl t, .inl m] sh sh ct (pI fun r c => (∃ q : Nat → Bool, r = (bset q 10 : Nat) ∧ ∀ k, k < 10 → (q k = true ↔ keptP β tl st m n k)) ∧ eqBut [97, 98] ct c) := by
  have hB := M.B
  have hb2 := hB.2.2.1
  have hb3 := hB.2.2.2.1
  have hrg := M.rg
  have h1 := R.1
  have hn40 := R.2.1
  have s112 : shA sh 112 = some (20, 4) := S.at _ rfl
  have hok : ∀ i : Nat, i < n → 0 ≤ tl i ∧ tl i / 10 < β.n 2 ∧ tl i % 10 < β.n 3 := fun i hi => by
    rcases hr i hi with h | h
    · exact h
    · omega
  have hst : ∀ {i : Nat}, i ≤ n → 0 ≤ stT β tl st i ∧ stT β tl st i < 700 := fun hi => stT_in hrg (fun i hi => by have := hok i hi; omega) hi
  generalize hP : (pI fun r c => (∃ q : Nat → Bool, r = (bset q 10 : Nat) ∧ ∀ k, k < 10 → (q k = true ↔ keptP β tl st m n k)) ∧ eqBut [97, 98] ct c) = Po
  refine Mt.of rfl (Nat.le_of_ble_eq_true rfl) ?_
  show G _ 0 [some (.inr (.inr 92)), some (.inl t), some (.inl m), none, none, none, none, none] [] sh ct
  refine g_sipush (q := 3) dX12_keptSet_0 (by decide +kernel) rfl ?_
  refine s_istore_n_8_3 (q := 4) dX12_keptSet_3 rfl rfl rfl ?_
  refine g_aload_n (q := 5) dX12_keptSet_4 rfl rfl ?_
  refine g_callV (q := 8) lX12_251 mX12_standNow nX12_standNow rfl (tw_standNow (d + 2) sh _ M S) (by first | assumption | exact S.at _ rfl) rfl rfl shLe.rf (rmOk.mk (by omega) (by first | exact shLe.rf | assumption)) (Nat.le_of_ble_eq_true rfl) dX12_keptSet_5 rfl rfl (kI fun r_ c_ hp => ?_)
  obtain ⟨hr, hq⟩ := hp
  replace hr := hr.symm
  replace hq := hq.symm
  subst hr hq
  refine s_istore_8_4 (q := 10) dX12_keptSet_8 rfl rfl rfl ?_
  refine g_iconst (q := 11) dX12_keptSet_10 rfl ?_
  refine s_istore_8_5 (q := 13) dX12_keptSet_11 rfl rfl rfl ?_
  refine g_forA (α := Nat → Bool) (fun i q => [some (.inr (.inr 92)), some (.inl t), some (.inl m), some (.inl ((bset q 10 : Nat) : Int)), some (.inl (stT β tl st i.toNat)), some (.inl i), none, none]) (fun i q c => 0 ≤ i ∧ eqBut [97, 98] ct c ∧ ∀ k, k < 10 → (q k = true ↔ keptP β tl st m i.toNat k)) n ?_ ?_ (i := 0) (a := fun _ => true) (by omega) ⟨by omega, eqBut.rf, fun k _ => ⟨fun _ j hj => by omega, fun _ => rfl⟩⟩ (by simp [lsSub, stT]; decide)
  · rintro i q c hi ⟨i0, e, hq⟩ kk
    have L1 : LK c := M.L.eb e rfl
    have M1 : MD c β mk st := M.eq L1 (e 93 (by decide))
    have R1 : rowT c t n tl := R.eq ct (e 112 (by decide)) (e 113 (by decide))
    have h112 := R1.2.2.1
    have ei : ((i.toNat : Nat) : Int) = i := by omega
    have hin : i.toNat < n := by omega
    have hoki := hok i.toNat hin
    have hRi := R1.2.2.2 i.toNat hin
    have hsti := hst (i := i.toNat) (by omega)
    rw [ei] at hoki hRi
    have hd10 : (w32 (tl i)).tdiv (w32 10) = tl i / 10 := by rw [w32_id (x := tl i) (by omega) (by omega), td_pos hoki.1]; rfl
    have hm10 : (w32 (tl i)).tmod (w32 10) = tl i % 10 := by rw [w32_id (x := tl i) (by omega) (by omega), tm_pos hoki.1]; rfl
    have h1a := h1
    refine g_iload (q := 15) dX12_keptSet_13 rfl rfl ?_
    refine g_aload_n (q := 16) dX12_keptSet_15 rfl rfl ?_
    refine g_getA (q := 19) (kI := 33) fX12_78 (by first | assumption | exact S.at _ rfl) dX12_keptSet_16 rfl rfl (by first | assumption | exact L.at _ _ rfl | exact LK.at (by assumption) _ _ rfl | ((repeat first | rewrite [wr_na (by decide)] | rewrite [wr_nk (by decide)] | rewrite [wa_na (by decide)]); first | assumption | exact LK.at (by assumption) _ _ rfl) | exact rfl) ?_
    refine g_iload_n (q := 20) dX12_keptSet_19 rfl rfl ?_
    refine g_iaload (q := 21) (by first | assumption | exact S.at _ rfl) (by omega) (by omega) (by omega) dX12_keptSet_20 rfl ?_
    refine g_icmp_ge (q := 24) (tg := 108) dX12_keptSet_21 (by decide) rfl (fun c_21 => ?_) (fun c_21 => ?_)
    · rw [h112] at c_21
      exact absurd c_21 (by unfold w32; omega)
    · refine g_aload_n (q := 25) dX12_keptSet_24 rfl rfl ?_
      refine g_iload_n (q := 26) dX12_keptSet_25 rfl rfl ?_
      refine g_iload (q := 28) dX12_keptSet_26 rfl rfl ?_
      have hmm := tw_minuteIn (d + 2) sh c (k := i.toNat) S L1 R1 hin
      rw [ei] at hmm
      refine g_callV (q := 31) lX12_387 mX12_minuteIn nX12_minuteIn rfl (hmm) (by first | assumption | exact S.at _ rfl) rfl rfl shLe.rf (rmOk.mk (by omega) (by first | exact shLe.rf | assumption)) (Nat.le_of_ble_eq_true rfl) dX12_keptSet_28 rfl rfl (kI fun r_ c_ hp => ?_)
      obtain ⟨hr, hq⟩ := hp
      replace hr := hr.symm
      replace hq := hq.symm
      subst hr hq
      refine s_istore_8_6 (q := 33) dX12_keptSet_31 rfl rfl rfl ?_
      refine g_iconst (q := 34) dX12_keptSet_33 rfl ?_
      refine s_istore_8_7 (q := 36) dX12_keptSet_34 rfl rfl rfl ?_
      refine g_forA (α := Nat → Bool) (fun k q => [some (.inr (.inr 92)), some (.inl t), some (.inl m), some (.inl ((bset q 10 : Nat) : Int)), some (.inl (stT β tl st i.toNat)), some (.inl i), some (.inl (tl i)), some (.inl k)]) (fun k q c => 0 ≤ k ∧ eqBut [97, 98] ct c ∧ ∀ j : Nat, j < 10 → (q j = true ↔ keptP β tl st m i.toNat j ∧ ((j : Int) < k → tl i / 10 = m → β.W (stT β tl st i.toNat) m j (tl i % 10) = true))) 10 ?_ ?_ (i := 0) (a := q) (by omega) ⟨by omega, e, fun j hj => by rw [hq j hj]; exact ⟨fun h => ⟨h, fun z => by omega⟩, fun h => h.1⟩⟩ (by simp [lsSub])
      · rintro k q c hk ⟨k0, e, hq⟩ k2
        have L1 : LK c := M.L.eb e rfl
        have M1 : MD c β mk st := M.eq L1 (e 93 (by decide))
        have ek : ((k.toNat : Nat) : Int) = k := by omega
        have same : ∀ c3, eqBut [97, 98] ct c3 → (tl i / 10 = m → β.W (stT β tl st i.toNat) m k (tl i % 10) = true) → G (mkK YX12_keptSet (d + 3) sh sh Po) 78 [some (.inr (.inr 92)), some (.inl t), some (.inl m), some (.inl ((bset q 10 : Nat) : Int)), some (.inl (stT β tl st i.toNat)), some (.inl i), some (.inl (tl i)), some (.inl k)] [] sh c3 := by
          intro c3 e3 h
          refine s_iinc_8_7 (q := 81) dX12_keptSet_78 rfl rfl rfl ?_
          refine g_goto (q := 36) dX12_keptSet_81 (by decide) ?_
          refine k2 q _ _ (by simp [lsSub]) ⟨by omega, e3, fun j hj => ?_⟩
          rw [hq j hj]
          constructor
          · rintro ⟨a, b⟩
            refine ⟨a, fun hj2 hm2 => ?_⟩
            by_cases hjk : (j : Int) = k
            · rw [hjk]
              exact h hm2
            · exact b (by omega) hm2
          · rintro ⟨a, b⟩
            exact ⟨a, fun hj2 => b (by omega)⟩
        refine g_iload (q := 38) dX12_keptSet_36 rfl rfl ?_
        refine g_bipush (q := 40) dX12_keptSet_38 (by decide +kernel) rfl ?_
        refine g_icmp_ge (q := 43) (tg := 84) dX12_keptSet_40 (by decide) rfl (fun c_40 => ?_) (fun c_40 => ?_)
        · exact absurd c_40 (by unfold w32; omega)
        · refine g_iload (q := 45) dX12_keptSet_43 rfl rfl ?_
          refine g_bipush (q := 47) dX12_keptSet_45 (by decide +kernel) rfl ?_
          refine g_idiv (q := 48) dX12_keptSet_47 (by decide) rfl ?_
          rw [hd10]
          refine g_iload_n (q := 49) dX12_keptSet_48 rfl rfl ?_
          refine g_icmp_ne (q := 52) (tg := 78) dX12_keptSet_49 (by decide) rfl (fun c_49 => ?_) (fun c_49 => ?_)
          · exact same c e (fun z => absurd (by rw [z]) c_49)
          · have hmi : tl i / 10 = m := by unfold w32 at c_49; omega
            refine g_aload_n (q := 53) dX12_keptSet_52 rfl rfl ?_
            refine g_iload (q := 55) dX12_keptSet_53 rfl rfl ?_
            refine g_iload_n (q := 56) dX12_keptSet_55 rfl rfl ?_
            refine g_iload (q := 58) dX12_keptSet_56 rfl rfl ?_
            refine g_bipush (q := 60) dX12_keptSet_58 (by decide +kernel) rfl ?_
            refine g_irem (q := 61) dX12_keptSet_60 (by decide) rfl ?_
            rw [hm10]
            refine g_iload (q := 63) dX12_keptSet_61 rfl rfl ?_
            refine g_callV (q := 66) lX12_244 mX12_wouldBy nX12_wouldBy rfl (tw_wouldBy d sh _ S M1 hsti.1 hsti.2 hm.1 (by omega) (by omega) (by omega) k0 (by omega)) (by first | assumption | exact S.at _ rfl) rfl rfl shLe.rf (rmOk.mk (by omega) (by first | exact shLe.rf | assumption)) (Nat.le_of_ble_eq_true rfl) dX12_keptSet_63 rfl rfl (kI fun r c3 hp3 => ?_)
            obtain ⟨rfl, e3⟩ := hp3
            refine g_if_ne (q := 69) (tg := 78) dX12_keptSet_66 (by decide) rfl (fun c_66 => ?_) (fun c_66 => ?_)
            · exact same c3 (e.tr e3) (fun _ => wbn.mp c_66)
            · have hnw := wb0.mp c_66
              have hs1 : shlI 1 k = ((2 ^ k.toNat : Nat) : Int) := by
                have := shlI_1 (m := k.toNat) (by omega)
                rw [ek] at this
                exact this
              refine g_iload_n (q := 70) dX12_keptSet_69 rfl rfl ?_
              refine g_iconst (q := 71) dX12_keptSet_70 rfl ?_
              refine g_iload (q := 73) dX12_keptSet_71 rfl rfl ?_
              refine g_ishl (q := 74) dX12_keptSet_73 rfl ?_
              rw [hs1]
              refine g_iconst (q := 75) dX12_keptSet_74 rfl ?_
              refine g_ixor (q := 76) dX12_keptSet_75 rfl ?_
              refine g_iand (q := 77) dX12_keptSet_76 rfl ?_
              rw [bset_clr (q := q) (k := k.toNat) (n := 10) (by omega) (by omega)]
              refine s_istore_n_8_3 (q := 78) dX12_keptSet_77 rfl rfl rfl ?_
              refine s_iinc_8_7 (q := 81) dX12_keptSet_78 rfl rfl rfl ?_
              refine g_goto (q := 36) dX12_keptSet_81 (by decide) ?_
              refine k2 (fun i => q i && !decide (i = k.toNat)) _ _ (by simp [lsSub]) ⟨by omega, e.tr e3, fun j hj => ?_⟩
              rw [Bool.and_eq_true, hq j hj]
              simp only [Bool.not_eq_true', decide_eq_false_iff_not]
              constructor
              · rintro ⟨⟨a, b⟩, hne⟩
                exact ⟨a, fun hj2 hm2 => b (by omega) hm2⟩
              · rintro ⟨a, b⟩
                refine ⟨⟨a, fun hj2 => b (by omega)⟩, fun z => hnw ?_⟩
                have := b (by omega) hmi
                rw [z, ek] at this
                exact this
      · rintro q c ⟨-, e, hq⟩
        have L1 : LK c := M.L.eb e rfl
        have M1 : MD c β mk st := M.eq L1 (e 93 (by decide))
        refine g_iload (q := 38) dX12_keptSet_36 rfl rfl ?_
        refine g_bipush (q := 40) dX12_keptSet_38 (by decide +kernel) rfl ?_
        refine g_icmp_ge (q := 43) (tg := 84) dX12_keptSet_40 (by decide) rfl (fun c_40 => ?_) (fun c_40 => ?_)
        · refine g_aload_n (q := 85) dX12_keptSet_84 rfl rfl ?_
          refine g_iload (q := 87) dX12_keptSet_85 rfl rfl ?_
          refine g_iload (q := 89) dX12_keptSet_87 rfl rfl ?_
          refine g_bipush (q := 91) dX12_keptSet_89 (by decide +kernel) rfl ?_
          refine g_idiv (q := 92) dX12_keptSet_91 (by decide) rfl ?_
          rw [hd10]
          refine g_iload (q := 94) dX12_keptSet_92 rfl rfl ?_
          refine g_bipush (q := 96) dX12_keptSet_94 (by decide +kernel) rfl ?_
          refine g_irem (q := 97) dX12_keptSet_96 (by decide) rfl ?_
          rw [hm10]
          refine g_callV (q := 100) lX12_271 mX12_behindMinute nX12_behindMinute rfl (tw_behindMinute (d + 1) sh _ M1 S hsti.1 hsti.2 (by omega) (by omega)) (by first | assumption | exact S.at _ rfl) rfl rfl shLe.rf (rmOk.mk (by omega) (by first | exact shLe.rf | assumption)) (Nat.le_of_ble_eq_true rfl) dX12_keptSet_97 rfl rfl (kI fun r_ c_ hp => ?_)
          obtain ⟨hr, hq⟩ := hp
          replace hr := hr.symm
          replace hq := hq.symm
          subst hr hq
          refine s_istore_8_4 (q := 102) dX12_keptSet_100 rfl rfl rfl ?_
          refine s_iinc_8_5 (q := 105) dX12_keptSet_102 rfl rfl rfl ?_
          refine g_goto (q := 13) dX12_keptSet_105 (by decide) ?_
          refine kk q _ _ ?_ ⟨by omega, e, fun j hj => ?_⟩
          · rw [show (i + 1).toNat = i.toNat + 1 by omega]
            simp only [stT, ei]
            simp [lsSub]
          · rw [hq j hj, show (i + 1).toNat = i.toNat + 1 by omega]
            constructor
            · rintro ⟨a, b⟩ i' hi' hm'
              by_cases he : i' = i.toNat
              · subst he
                rw [ei] at hm' ⊢
                exact b (by omega) hm'
              · exact a i' (by omega) hm'
            · intro h
              refine ⟨fun i' hi' => h i' (by omega), fun _ hm2 => ?_⟩
              have := h i.toNat (by omega)
              rw [ei] at this
              exact this hm2
        · exact absurd c_40 (by decide)
  · rintro q c ⟨-, e, hq⟩
    have L1 : LK c := M.L.eb e rfl
    have R1 : rowT c t n tl := R.eq ct (e 112 (by decide)) (e 113 (by decide))
    have h112 := R1.2.2.1
    have h1a := h1
    refine g_iload (q := 15) dX12_keptSet_13 rfl rfl ?_
    refine g_aload_n (q := 16) dX12_keptSet_15 rfl rfl ?_
    refine g_getA (q := 19) (kI := 33) fX12_78 (by first | assumption | exact S.at _ rfl) dX12_keptSet_16 rfl rfl (by first | assumption | exact L.at _ _ rfl | exact LK.at (by assumption) _ _ rfl | ((repeat first | rewrite [wr_na (by decide)] | rewrite [wr_nk (by decide)] | rewrite [wa_na (by decide)]); first | assumption | exact LK.at (by assumption) _ _ rfl) | exact rfl) ?_
    refine g_iload_n (q := 20) dX12_keptSet_19 rfl rfl ?_
    refine g_iaload (q := 21) (by first | assumption | exact S.at _ rfl) (by omega) (by omega) (by omega) dX12_keptSet_20 rfl ?_
    refine g_icmp_ge (q := 24) (tg := 108) dX12_keptSet_21 (by decide) rfl (fun c_21 => ?_) (fun c_21 => ?_)
    · refine g_iload_n (q := 109) dX12_keptSet_108 rfl rfl ?_
      refine g_ireturn dX12_keptSet_109 rfl ?_
      rw [← hP]
      refine ⟨_, rfl, ⟨q, rfl, hq⟩, e⟩
    · rw [h112] at c_21
      exact absurd c_21 (Int.lt_irrefl _)
theorem tw_kept {t m : Int} {tl : Int → Int} (S : SH sh) (M : MD ct β mk st) (T : MT ct sz bt vl) (ht : i32 t) (hm : i32 m) (htl : told sz vl t tl) : Mt YX12_kept (d + 5) [.inr (.inr 92), .inl t, .inl m] sh sh ct (pI fun r c => (∃ no, keptNo β sz vl t m no ∧ ((no ≠ 0 ∧ r = no) ∨ (no = 0 ∧ isSet 10 (fun k => keptP β tl st m (sz t).toNat k) r))) ∧ mF ct c) := by
  have hB := M.B
  generalize hP : (pI fun r c => (∃ no, keptNo β sz vl t m no ∧ ((no ≠ 0 ∧ r = no) ∨ (no = 0 ∧ isSet 10 (fun k => keptP β tl st m (sz t).toNat k) r))) ∧ mF ct c) = Po
  refine Mt.of rfl (Nat.le_of_ble_eq_true rfl) ?_
  show G _ 0 [some (.inr (.inr 92)), some (.inl t), some (.inl m), none] [] sh ct
  refine g_aload_n (q := 1) dX12_kept_0 rfl rfl ?_
  refine g_iconst (q := 2) dX12_kept_1 rfl ?_
  refine g_putI (q := 5) (kI := 0) fX12_1 (by first | assumption | exact S.at _ rfl) dX12_kept_2 rfl rfl ?_
  refine g_aload_n (q := 6) dX12_kept_5 rfl rfl ?_
  refine g_iload_n (q := 7) dX12_kept_6 rfl rfl ?_
  refine g_iload_n (q := 8) dX12_kept_7 rfl rfl ?_
  refine g_callV (q := 11) lX12_417 mX12_noKept nX12_noKept rfl (tw_noKept d sh _ S (M.mf mF.th) (T.mf mF.th) ht hm) (by first | assumption | exact S.at _ rfl) rfl rfl shLe.rf (rmOk.mk (by omega) (by first | exact shLe.rf | assumption)) (Nat.le_of_ble_eq_true rfl) dX12_kept_8 rfl rfl (kI fun no c1 hp1 => ?_)
  obtain ⟨hno, rfl⟩ := hp1
  have hng := hno.rg
  refine s_istore_n_4_3 (q := 12) dX12_kept_11 rfl rfl rfl ?_
  refine g_iload_n (q := 13) dX12_kept_12 rfl rfl ?_
  refine g_if_eq (q := 16) (tg := 20) dX12_kept_13 (by decide) rfl (fun c_13 => ?_) (fun c_13 => ?_)
  · have h0 : no = 0 := by unfold w32 at c_13; omega
    subst h0
    obtain ⟨hmb, hrow⟩ := hno.zero
    have h2 := hrow.2.1
    have R := hrow.row _ hB (T.mf (mF.th (v := 0))) (show (((sz t).toNat : Nat) : Int) = sz t by omega) (fun i hi => htl i (by omega))
    refine g_aload_n (q := 21) dX12_kept_20 rfl rfl ?_
    refine g_iload_n (q := 22) dX12_kept_21 rfl rfl ?_
    refine g_iload_n (q := 23) dX12_kept_22 rfl rfl ?_
    refine g_callV (q := 26) lX12_420 mX12_keptSet nX12_keptSet rfl (tw_keptSet (d + 1) sh _ S (M.mf mF.th) R.1 R.2 hmb) (by first | assumption | exact S.at _ rfl) rfl rfl shLe.rf (rmOk.mk (by omega) (by first | exact shLe.rf | assumption)) (Nat.le_of_ble_eq_true rfl) dX12_kept_23 rfl rfl (kI fun r c2 hp2 => ?_)
    obtain ⟨hr, e2⟩ := hp2
    refine g_ireturn dX12_kept_26 rfl ?_
    rw [← hP]
    exact ⟨_, rfl, ⟨0, hno, Or.inr ⟨rfl, hr⟩⟩, (mF.th (v := 0)).tr (mF.of e2 rfl)⟩
  · refine g_iload_n (q := 17) dX12_kept_16 rfl rfl ?_
    refine g_goto (q := 26) dX12_kept_17 (by decide) ?_
    refine g_ireturn dX12_kept_26 rfl ?_
    rw [← hP]
    exact ⟨_, rfl, ⟨no, hno, Or.inl ⟨fun z => c_13 (by rw [z]; rfl), rfl⟩⟩, mF.th⟩
end
