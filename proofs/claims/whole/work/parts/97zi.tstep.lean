/-! the reference's small steps of reading -/
theorem dX12_fails_0 : decode cX12_fails 0 = .ok (.aload_n 0, 1) := by decide +kernel
theorem dX12_fails_1 : decode cX12_fails 1 = .ok (.getfield 134, 3) := by decide +kernel
theorem dX12_fails_4 : decode cX12_fails 4 = .ok (.ifCond .eq 4, 3) := by decide +kernel
theorem dX12_fails_7 : decode cX12_fails 7 = .ok (.return_, 1) := by decide +kernel
theorem dX12_fails_8 : decode cX12_fails 8 = .ok (.aload_n 0, 1) := by decide +kernel
theorem dX12_fails_9 : decode cX12_fails 9 = .ok (.aload_n 0, 1) := by decide +kernel
theorem dX12_fails_10 : decode cX12_fails 10 = .ok (.getfield 116, 3) := by decide +kernel
theorem dX12_fails_13 : decode cX12_fails 13 = .ok (.bipush 25, 2) := by decide +kernel
theorem dX12_fails_15 : decode cX12_fails 15 = .ok (.if_icmp .ne 7, 3) := by decide +kernel
theorem dX12_fails_18 : decode cX12_fails 18 = .ok (.iconst 1, 1) := by decide +kernel
theorem dX12_fails_19 : decode cX12_fails 19 = .ok (.goto 4, 3) := by decide +kernel
theorem dX12_fails_22 : decode cX12_fails 22 = .ok (.iload_n 1, 1) := by decide +kernel
theorem dX12_fails_23 : decode cX12_fails 23 = .ok (.putfield 134, 3) := by decide +kernel
theorem dX12_fails_26 : decode cX12_fails 26 = .ok (.aload_n 0, 1) := by decide +kernel
theorem dX12_fails_27 : decode cX12_fails 27 = .ok (.aload_n 0, 1) := by decide +kernel
theorem dX12_fails_28 : decode cX12_fails 28 = .ok (.getfield 106, 3) := by decide +kernel
theorem dX12_fails_31 : decode cX12_fails 31 = .ok (.putfield 137, 3) := by decide +kernel
theorem dX12_fails_34 : decode cX12_fails 34 = .ok (.return_, 1) := by decide +kernel
theorem dX12_is_0 : decode cX12_is 0 = .ok (.aload_n 0, 1) := by decide +kernel
theorem dX12_is_1 : decode cX12_is 1 = .ok (.getfield 134, 3) := by decide +kernel
theorem dX12_is_4 : decode cX12_is 4 = .ok (.ifCond .ne 15, 3) := by decide +kernel
theorem dX12_is_7 : decode cX12_is 7 = .ok (.aload_n 0, 1) := by decide +kernel
theorem dX12_is_8 : decode cX12_is 8 = .ok (.getfield 116, 3) := by decide +kernel
theorem dX12_is_11 : decode cX12_is 11 = .ok (.iload_n 1, 1) := by decide +kernel
theorem dX12_is_12 : decode cX12_is 12 = .ok (.if_icmp .ne 7, 3) := by decide +kernel
theorem dX12_is_15 : decode cX12_is 15 = .ok (.iconst 1, 1) := by decide +kernel
theorem dX12_is_16 : decode cX12_is 16 = .ok (.goto 4, 3) := by decide +kernel
theorem dX12_is_19 : decode cX12_is 19 = .ok (.iconst 0, 1) := by decide +kernel
theorem dX12_is_20 : decode cX12_is 20 = .ok (.ireturn, 1) := by decide +kernel
theorem dX12_eats_0 : decode cX12_eats 0 = .ok (.aload_n 0, 1) := by decide +kernel
theorem dX12_eats_1 : decode cX12_eats 1 = .ok (.iload_n 1, 1) := by decide +kernel
theorem dX12_eats_2 : decode cX12_eats 2 = .ok (.invokevirtual 140, 3) := by decide +kernel
theorem dX12_eats_5 : decode cX12_eats 5 = .ok (.ifCond .ne 5, 3) := by decide +kernel
theorem dX12_eats_8 : decode cX12_eats 8 = .ok (.iconst 0, 1) := by decide +kernel
theorem dX12_eats_9 : decode cX12_eats 9 = .ok (.ireturn, 1) := by decide +kernel
theorem dX12_eats_10 : decode cX12_eats 10 = .ok (.aload_n 0, 1) := by decide +kernel
theorem dX12_eats_11 : decode cX12_eats 11 = .ok (.invokevirtual 143, 3) := by decide +kernel
theorem dX12_eats_14 : decode cX12_eats 14 = .ok (.iconst 1, 1) := by decide +kernel
theorem dX12_eats_15 : decode cX12_eats 15 = .ok (.ireturn, 1) := by decide +kernel
theorem dX12_takes_0 : decode cX12_takes 0 = .ok (.aload_n 0, 1) := by decide +kernel
theorem dX12_takes_1 : decode cX12_takes 1 = .ok (.bipush 23, 2) := by decide +kernel
theorem dX12_takes_3 : decode cX12_takes 3 = .ok (.invokevirtual 140, 3) := by decide +kernel
theorem dX12_takes_6 : decode cX12_takes 6 = .ok (.ifCond .ne 11, 3) := by decide +kernel
theorem dX12_takes_9 : decode cX12_takes 9 = .ok (.aload_n 0, 1) := by decide +kernel
theorem dX12_takes_10 : decode cX12_takes 10 = .ok (.iconst 2, 1) := by decide +kernel
theorem dX12_takes_11 : decode cX12_takes 11 = .ok (.invokevirtual 146, 3) := by decide +kernel
theorem dX12_takes_14 : decode cX12_takes 14 = .ok (.goto 23, 3) := by decide +kernel
theorem dX12_takes_17 : decode cX12_takes 17 = .ok (.aload_n 0, 1) := by decide +kernel
theorem dX12_takes_18 : decode cX12_takes 18 = .ok (.getfield 129, 3) := by decide +kernel
theorem dX12_takes_21 : decode cX12_takes 21 = .ok (.i2l, 1) := by decide +kernel
theorem dX12_takes_22 : decode cX12_takes 22 = .ok (.iload_n 1, 1) := by decide +kernel
theorem dX12_takes_23 : decode cX12_takes 23 = .ok (.i2l, 1) := by decide +kernel
theorem dX12_takes_24 : decode cX12_takes 24 = .ok (.iload_n 2, 1) := by decide +kernel
theorem dX12_takes_25 : decode cX12_takes 25 = .ok (.i2l, 1) := by decide +kernel
theorem dX12_takes_26 : decode cX12_takes 26 = .ok (.invokestatic 150, 3) := by decide +kernel
theorem dX12_takes_29 : decode cX12_takes 29 = .ok (.ifCond .ne 8, 3) := by decide +kernel
theorem dX12_takes_32 : decode cX12_takes 32 = .ok (.aload_n 0, 1) := by decide +kernel
theorem dX12_takes_33 : decode cX12_takes 33 = .ok (.iconst 3, 1) := by decide +kernel
theorem dX12_takes_34 : decode cX12_takes 34 = .ok (.invokevirtual 146, 3) := by decide +kernel
theorem dX12_takes_37 : decode cX12_takes 37 = .ok (.aload_n 0, 1) := by decide +kernel
theorem dX12_takes_38 : decode cX12_takes 38 = .ok (.getfield 129, 3) := by decide +kernel
theorem dX12_takes_41 : decode cX12_takes 41 = .ok (.istore_n 3, 1) := by decide +kernel
theorem dX12_takes_42 : decode cX12_takes 42 = .ok (.aload_n 0, 1) := by decide +kernel
theorem dX12_takes_43 : decode cX12_takes 43 = .ok (.getfield 134, 3) := by decide +kernel
theorem dX12_takes_46 : decode cX12_takes 46 = .ok (.ifCond .ne 7, 3) := by decide +kernel
theorem dX12_takes_49 : decode cX12_takes 49 = .ok (.aload_n 0, 1) := by decide +kernel
theorem dX12_takes_50 : decode cX12_takes 50 = .ok (.invokevirtual 143, 3) := by decide +kernel
theorem dX12_takes_53 : decode cX12_takes 53 = .ok (.iload_n 3, 1) := by decide +kernel
theorem dX12_takes_54 : decode cX12_takes 54 = .ok (.ireturn, 1) := by decide +kernel
theorem dX12_wordOf_0 : decode cX12_wordOf 0 = .ok (.iload_n 1, 1) := by decide +kernel
theorem dX12_wordOf_1 : decode cX12_wordOf 1 = .ok (.tableswitch 116 1 14 #[71, 73, 116, 90, 103, 116, 116, 116, 116, 116, 116, 116, 75, 77], 71) := by decide +kernel
theorem dX12_wordOf_72 : decode cX12_wordOf 72 = .ok (.iconst 0, 1) := by decide +kernel
theorem dX12_wordOf_73 : decode cX12_wordOf 73 = .ok (.ireturn, 1) := by decide +kernel
theorem dX12_wordOf_74 : decode cX12_wordOf 74 = .ok (.iconst 1, 1) := by decide +kernel
theorem dX12_wordOf_75 : decode cX12_wordOf 75 = .ok (.ireturn, 1) := by decide +kernel
theorem dX12_wordOf_76 : decode cX12_wordOf 76 = .ok (.iconst 2, 1) := by decide +kernel
theorem dX12_wordOf_77 : decode cX12_wordOf 77 = .ok (.ireturn, 1) := by decide +kernel
theorem dX12_wordOf_78 : decode cX12_wordOf 78 = .ok (.aload_n 0, 1) := by decide +kernel
theorem dX12_wordOf_79 : decode cX12_wordOf 79 = .ok (.getfield 154, 3) := by decide +kernel
theorem dX12_wordOf_82 : decode cX12_wordOf 82 = .ok (.ifCond .ne 7, 3) := by decide +kernel
theorem dX12_wordOf_85 : decode cX12_wordOf 85 = .ok (.iconst 3, 1) := by decide +kernel
theorem dX12_wordOf_86 : decode cX12_wordOf 86 = .ok (.goto 4, 3) := by decide +kernel
theorem dX12_wordOf_89 : decode cX12_wordOf 89 = .ok (.iconst (-1), 1) := by decide +kernel
theorem dX12_wordOf_90 : decode cX12_wordOf 90 = .ok (.ireturn, 1) := by decide +kernel
theorem dX12_wordOf_91 : decode cX12_wordOf 91 = .ok (.aload_n 0, 1) := by decide +kernel
theorem dX12_wordOf_92 : decode cX12_wordOf 92 = .ok (.getfield 154, 3) := by decide +kernel
theorem dX12_wordOf_95 : decode cX12_wordOf 95 = .ok (.ifCond .ne 7, 3) := by decide +kernel
theorem dX12_wordOf_98 : decode cX12_wordOf 98 = .ok (.iconst 4, 1) := by decide +kernel
theorem dX12_wordOf_99 : decode cX12_wordOf 99 = .ok (.goto 4, 3) := by decide +kernel
theorem dX12_wordOf_102 : decode cX12_wordOf 102 = .ok (.iconst (-1), 1) := by decide +kernel
theorem dX12_wordOf_103 : decode cX12_wordOf 103 = .ok (.ireturn, 1) := by decide +kernel
theorem dX12_wordOf_104 : decode cX12_wordOf 104 = .ok (.aload_n 0, 1) := by decide +kernel
theorem dX12_wordOf_105 : decode cX12_wordOf 105 = .ok (.getfield 154, 3) := by decide +kernel
theorem dX12_wordOf_108 : decode cX12_wordOf 108 = .ok (.ifCond .ne 7, 3) := by decide +kernel
theorem dX12_wordOf_111 : decode cX12_wordOf 111 = .ok (.iconst 5, 1) := by decide +kernel
theorem dX12_wordOf_112 : decode cX12_wordOf 112 = .ok (.goto 4, 3) := by decide +kernel
theorem dX12_wordOf_115 : decode cX12_wordOf 115 = .ok (.iconst (-1), 1) := by decide +kernel
theorem dX12_wordOf_116 : decode cX12_wordOf 116 = .ok (.ireturn, 1) := by decide +kernel
theorem dX12_wordOf_117 : decode cX12_wordOf 117 = .ok (.iconst (-1), 1) := by decide +kernel
theorem dX12_wordOf_118 : decode cX12_wordOf 118 = .ok (.ireturn, 1) := by decide +kernel
theorem dX12_codes_0 : decode cX12_codes 0 = .ok (.aload_n 0, 1) := by decide +kernel
theorem dX12_codes_1 : decode cX12_codes 1 = .ok (.getfield 134, 3) := by decide +kernel
theorem dX12_codes_4 : decode cX12_codes 4 = .ok (.ifCond .eq 4, 3) := by decide +kernel
theorem dX12_codes_7 : decode cX12_codes 7 = .ok (.return_, 1) := by decide +kernel
theorem dX12_codes_8 : decode cX12_codes 8 = .ok (.aload_n 0, 1) := by decide +kernel
theorem dX12_codes_9 : decode cX12_codes 9 = .ok (.getfield 24, 3) := by decide +kernel
theorem dX12_codes_12 : decode cX12_codes 12 = .ok (.sipush 140, 3) := by decide +kernel
theorem dX12_codes_15 : decode cX12_codes 15 = .ok (.aload_n 0, 1) := by decide +kernel
theorem dX12_codes_16 : decode cX12_codes 16 = .ok (.getfield 24, 3) := by decide +kernel
theorem dX12_codes_19 : decode cX12_codes 19 = .ok (.sipush 139, 3) := by decide +kernel
theorem dX12_codes_22 : decode cX12_codes 22 = .ok (.iaload, 1) := by decide +kernel
theorem dX12_codes_23 : decode cX12_codes 23 = .ok (.iadd, 1) := by decide +kernel
theorem dX12_codes_24 : decode cX12_codes 24 = .ok (.iload_n 1, 1) := by decide +kernel
theorem dX12_codes_25 : decode cX12_codes 25 = .ok (.iastore, 1) := by decide +kernel
theorem dX12_codes_26 : decode cX12_codes 26 = .ok (.aload_n 0, 1) := by decide +kernel
theorem dX12_codes_27 : decode cX12_codes 27 = .ok (.getfield 24, 3) := by decide +kernel
theorem dX12_codes_30 : decode cX12_codes 30 = .ok (.sipush 139, 3) := by decide +kernel
theorem dX12_codes_33 : decode cX12_codes 33 = .ok (.dup2, 1) := by decide +kernel
theorem dX12_codes_34 : decode cX12_codes 34 = .ok (.iaload, 1) := by decide +kernel
theorem dX12_codes_35 : decode cX12_codes 35 = .ok (.iconst 1, 1) := by decide +kernel
theorem dX12_codes_36 : decode cX12_codes 36 = .ok (.iadd, 1) := by decide +kernel
theorem dX12_codes_37 : decode cX12_codes 37 = .ok (.iastore, 1) := by decide +kernel
theorem dX12_codes_38 : decode cX12_codes 38 = .ok (.return_, 1) := by decide +kernel
theorem dX12_goesIn_0 : decode cX12_goesIn 0 = .ok (.iload_n 1, 1) := by decide +kernel
theorem dX12_goesIn_1 : decode cX12_goesIn 1 = .ok (.bipush 6, 2) := by decide +kernel
theorem dX12_goesIn_3 : decode cX12_goesIn 3 = .ok (.if_icmp .ne 8, 3) := by decide +kernel
theorem dX12_goesIn_6 : decode cX12_goesIn 6 = .ok (.aload_n 0, 1) := by decide +kernel
theorem dX12_goesIn_7 : decode cX12_goesIn 7 = .ok (.iconst 4, 1) := by decide +kernel
theorem dX12_goesIn_8 : decode cX12_goesIn 8 = .ok (.invokevirtual 146, 3) := by decide +kernel
theorem dX12_goesIn_11 : decode cX12_goesIn 11 = .ok (.aload_n 0, 1) := by decide +kernel
theorem dX12_goesIn_12 : decode cX12_goesIn 12 = .ok (.getfield 134, 3) := by decide +kernel
theorem dX12_goesIn_15 : decode cX12_goesIn 15 = .ok (.ifCond .ne 7, 3) := by decide +kernel
theorem dX12_goesIn_18 : decode cX12_goesIn 18 = .ok (.aload_n 0, 1) := by decide +kernel
theorem dX12_goesIn_19 : decode cX12_goesIn 19 = .ok (.invokevirtual 143, 3) := by decide +kernel
theorem dX12_goesIn_22 : decode cX12_goesIn 22 = .ok (.aload_n 0, 1) := by decide +kernel
theorem dX12_goesIn_23 : decode cX12_goesIn 23 = .ok (.getfield 134, 3) := by decide +kernel
theorem dX12_goesIn_26 : decode cX12_goesIn 26 = .ok (.ifCond .ne 7, 3) := by decide +kernel
theorem dX12_goesIn_29 : decode cX12_goesIn 29 = .ok (.iconst 1, 1) := by decide +kernel
theorem dX12_goesIn_30 : decode cX12_goesIn 30 = .ok (.goto 4, 3) := by decide +kernel
theorem dX12_goesIn_33 : decode cX12_goesIn 33 = .ok (.iconst 0, 1) := by decide +kernel
theorem dX12_goesIn_34 : decode cX12_goesIn 34 = .ok (.ireturn, 1) := by decide +kernel
def sKd : List Int := [59, 58, 43, 45, 42, 40, 41, 91, 93, 61, 60, 62, 128, 129, 130, 131, 132, 133, 134, 135, 136, 137, 138, 139, 140, 141, 142, 143, 144, 145, 200, 201, 202]
def pKd : List (Int × Int) := [(30, 59), (31, 58), (32, 43), (33, 45), (34, 42), (35, 40), (36, 41), (37, 91), (38, 93), (39, 61), (40, 60), (41, 62), (0, 128), (1, 129), (2, 130), (3, 131), (4, 132), (5, 133), (6, 134), (7, 135), (8, 136), (9, 137), (10, 138), (11, 139), (12, 140), (16, 141), (15, 142), (17, 143), (13, 144), (14, 145), (22, 200), (24, 201), (25, 202)]
theorem kR_p : ∀ k ∈ sKd, ∀ p ∈ pKd, (kR k = p.1 ↔ k = p.2) := by decide +kernel
theorem pK_b : ∀ p ∈ pKd, p.1 ≠ 23 ∧ p.2 < 1000 ∧ p.2 ≠ 203 ∧ 0 ≤ p.1 ∧ p.1 < 42 := by decide +kernel
theorem kR_b : ∀ k ∈ sKd, kR k ≠ 23 ∧ k < 1000 ∧ 0 ≤ kR k ∧ kR k < 42 := by decide +kernel
theorem sg_in : ∀ j : Fin 12, strB 2 j.val ∈ sKd := by decide +kernel
theorem wd_in : ∀ w : Fin 18, (128 + (w.val : Int)) ∈ sKd := by decide +kernel
def kV (k : Int) : Prop := k ∈ sKd ∨ (1000 ≤ k ∧ k < 2000)
theorem kR_iff {k x y : Int} (h : kV k) (hp : (x, y) ∈ pKd) : kR k = x ↔ k = y := by
  rcases h with h | h
  · exact kR_p k h _ hp
  · have hb := pK_b _ hp
    have e : kR k = 23 := by unfold kR; rw [if_pos h.1]
    rw [e]
    dsimp only at hb
    constructor
    · intro z; exact absurd z.symm hb.1
    · intro z; omega
theorem kR_23 {k : Int} (h : kV k) : (kR k = 23 ↔ 1000 ≤ k) ∧ 0 ≤ kR k ∧ kR k < 42 := by
  rcases h with h | h
  · have hb := kR_b k h
    exact ⟨⟨fun z => absurd z hb.1, fun z => by omega⟩, hb.2.2⟩
  · have e : kR k = 23 := by unfold kR; rw [if_pos h.1]
    rw [e]
    exact ⟨⟨fun _ => h.1, fun _ => rfl⟩, by decide, by decide⟩
theorem tokR.kv {f : Int → Int} {n p s e k : Int} (h : tokR f n p s e k) : kV k := by
  obtain ⟨a, b⟩ := h
  rcases b with ⟨b1, b3, b4⟩ | ⟨b1, b⟩
  · rw [b4]; exact Or.inl (by decide)
  · rcases b with ⟨d1, d2, d3⟩ | ⟨d1, d2, d3⟩ | ⟨d1, d2, d3, d4⟩
    · rcases d3 with ⟨w, w1, w2, w3⟩ | ⟨w1, w2⟩
      · rw [w3]; exact Or.inl (wd_in ⟨w, w1⟩)
      · rw [w2]; exact Or.inl (by decide)
    · rcases digK_in d2 with h | h
      · rw [d3, h]; exact Or.inl (by decide)
      · rw [d3]; exact Or.inr h
    · rcases d4 with ⟨⟨j, hj, hj2⟩, x2⟩ | ⟨x1, x2⟩
      · rw [x2, ← hj2]; exact Or.inl (sg_in ⟨j, hj⟩)
      · rw [x2]; exact Or.inl (by decide)
/-- the reference's reader stands as the pure state says -/
def MR (ct : mbCt) (f : Int → Int) (n T : Int) (K Pl E : Int → Int) (σ : PS) : Prop := LK ct ∧ (ct 92 8 = n ∧ n ≤ 900 ∧ tpR ct f n ∧ TS f n K Pl E T) ∧ (0 ≤ σ.1 ∧ σ.1 < T) ∧ (ct 92 6 = Pl σ.1 ∧ ct 92 7 = E (σ.1 + 1) ∧ ct 92 9 = kR (K σ.1) ∧ (1000 ≤ K σ.1 → ct 92 10 = K σ.1 - 1000)) ∧ (ct 92 11 = σ.2.1 ∧ (0 ≤ σ.2.1 ∧ σ.2.1 ≤ 4) ∧ (¬ σ.2.1 = 0 → ct 92 12 = σ.2.2.1)) ∧ (σ.2.1 = 0 → ct 96 139 = (σ.2.2.2.length : Nat) ∧ ∀ j : Nat, j < σ.2.2.2.length → ct 96 (140 + j) = mTr (σ.2.2.2.getD j 0))
def mrF (ct c : mbCt) : Prop := (∀ j, j ≠ 6 → j ≠ 7 → j ≠ 9 → j ≠ 10 → j ≠ 11 → j ≠ 12 → c 92 j = ct 92 j) ∧ (∀ j, j < 139 → c 96 j = ct 96 j) ∧ eqBut [92, 96] ct c
theorem mrF.rf {ct : mbCt} : mrF ct ct := ⟨fun _ _ _ _ _ _ _ => rfl, fun _ _ => rfl, eqBut.rf⟩
theorem mrF.tr {x y z : mbCt} (h : mrF x y) (h2 : mrF y z) : mrF x z := ⟨fun j a b c d e f => (h2.1 j a b c d e f).trans (h.1 j a b c d e f), fun j a => (h2.2.1 j a).trans (h.2.1 j a), h.2.2.tr h2.2.2⟩
theorem mrF.L {ct c : mbCt} (L : LK ct) (h : mrF ct c) : LK c := by
  intro x k v hv
  by_cases hx : x = 92
  · subst hx
    by_cases h6 : k = 6
    · subst h6; cases hv
    · by_cases h7 : k = 7
      · subst h7; cases hv
      · by_cases h9 : k = 9
        · subst h9; cases hv
        · by_cases h10 : k = 10
          · subst h10; cases hv
          · by_cases h11 : k = 11
            · subst h11; cases hv
            · by_cases h12 : k = 12
              · subst h12; cases hv
              · rw [h.1 k h6 h7 h9 h10 h11 h12]; exact L _ _ _ hv
  · by_cases hx6 : x = 96
    · rw [hx6, lkF_none rfl k] at hv; cases hv
    · rw [h.2.2 x (by simp; omega)]
      exact L _ _ _ hv
section
variable (d : Nat) (sh : mbSh) (ct : mbCt) {f K Pl E : Int → Int} {n T x y : Int} {σ : PS}
theorem MR.kd (M : MR ct f n T K Pl E σ) : kd T K ∧ ∀ i, 0 ≤ i → i < T → K i < 2000 := M.2.1.2.2.2.kd M.2.1.2.1
theorem MR.kv (M : MR ct f n T K Pl E σ) : kV (K σ.1) := (M.2.1.2.2.2.2.2.1 σ.1 M.2.2.1.1 M.2.2.1.2).kv
theorem tw_fails {k : Int} (S : SH sh) (M : MR ct f n T K Pl E σ) (hk : 1 ≤ k ∧ k ≤ 4) : Mt YX12_fails d [.inr (.inr 92), .inl k] sh sh ct (pN fun c => MR c f n T K Pl E (failP K Pl k σ) ∧ mrF ct c) := by
  have hkv := kR_iff M.kv (x := 25) (y := 202) (by decide)
  have hkb := (kR_23 M.kv).2
  obtain ⟨L, ⟨g1, g2, g3, g4⟩, ⟨i0, i1⟩, ⟨h6, h7, h9, h10⟩, ⟨h11, hwb, h12⟩, hc⟩ := M
  refine Mt.of rfl (Nat.le_of_ble_eq_true rfl) ?_
  show G _ 0 [some (.inr (.inr 92)), some (.inl k)] [] sh ct
  refine g_aload_n (q := 1) dX12_fails_0 rfl rfl ?_
  refine g_getI (q := 4) (kI := 11) fX12_134 (by first | assumption | exact S.at _ rfl) dX12_fails_1 rfl rfl ?_
  rw [h11]
  by_cases hw : σ.2.1 = 0
  · have tail : ∀ v, v = (if K σ.1 = 202 then 1 else k) → G (mkK YX12_fails d sh sh (pN fun c => MR c f n T K Pl E (failP K Pl k σ) ∧ mrF ct c)) 23 [some (.inr (.inr 92)), some (.inl k)] [.inl v, .inr (.inr 92)] sh ct := by
      intro v hv
      have hvb : 1 ≤ v ∧ v ≤ 4 := by rw [hv]; split <;> omega
      refine g_putI (q := 26) (kI := 11) fX12_134 (by first | assumption | exact S.at _ rfl) dX12_fails_23 rfl rfl ?_
      refine g_aload_n (q := 27) dX12_fails_26 rfl rfl ?_
      refine g_aload_n (q := 28) dX12_fails_27 rfl rfl ?_
      refine g_getI (q := 31) (kI := 6) fX12_106 (by first | assumption | exact S.at _ rfl) dX12_fails_28 rfl rfl ?_
      rw [wr_nk (by decide), h6]
      refine g_putI (q := 34) (kI := 12) fX12_137 (by first | assumption | exact S.at _ rfl) dX12_fails_31 rfl rfl ?_
      refine g_return dX12_fails_34 rfl ?_
      have hf : failP K Pl k σ = (σ.1, v, Pl σ.1, σ.2.2.2) := by
        unfold failP
        rw [if_pos hw, hv]
      rw [hf]
      have F : mrF ct (wr (wr ct 92 11 v) 92 12 (Pl σ.1)) := ⟨fun j _ _ _ _ j11 j12 => by rw [wr_nk j12, wr_nk j11], fun j _ => by rw [wr_na (by decide), wr_na (by decide)], (eqBut.rf.wr (by decide)).wr (by decide)⟩
      refine ⟨rfl, ⟨F.L L, ⟨?_, g2, ?_, g4⟩, ⟨i0, i1⟩, ⟨?_, ?_, ?_, ?_⟩, ⟨?_, ?_, fun _ => wr_eq⟩, fun z => ?_⟩, F⟩
      · rw [wr_nk (by decide), wr_nk (by decide)]; exact g1
      · intro j j0 j1; rw [wr_na (by decide), wr_na (by decide)]; exact g3 j j0 j1
      · rw [wr_nk (by decide), wr_nk (by decide)]; exact h6
      · rw [wr_nk (by decide), wr_nk (by decide)]; exact h7
      · rw [wr_nk (by decide), wr_nk (by decide)]; exact h9
      · intro z; rw [wr_nk (by decide), wr_nk (by decide)]; exact h10 z
      · rw [wr_nk (by decide), wr_eq]
      · show 0 ≤ v ∧ v ≤ 4; omega
      · have : v = 0 := z
        omega
    refine g_if_eq (q := 7) (tg := 8) dX12_fails_4 (by decide) rfl (fun c_4 => ?_) (fun c_4 => ?_)
    · refine g_aload_n (q := 9) dX12_fails_8 rfl rfl ?_
      refine g_aload_n (q := 10) dX12_fails_9 rfl rfl ?_
      refine g_getI (q := 13) (kI := 9) fX12_116 (by first | assumption | exact S.at _ rfl) dX12_fails_10 rfl rfl ?_
      rw [h9]
      refine g_bipush (q := 15) dX12_fails_13 (by decide +kernel) rfl ?_
      refine g_icmp_ne (q := 18) (tg := 22) dX12_fails_15 (by decide) rfl (fun c_15 => ?_) (fun c_15 => ?_)
      · rw [w32_id (x := kR (K σ.1)) (by omega) (by omega), show w32 25 = 25 from rfl] at c_15
        refine g_iload_n (q := 23) dX12_fails_22 rfl rfl ?_
        exact tail k (by rw [if_neg (fun z => c_15 (hkv.mpr z))])
      · rw [w32_id (x := kR (K σ.1)) (by omega) (by omega), show w32 25 = 25 from rfl] at c_15
        refine g_iconst (q := 19) dX12_fails_18 rfl ?_
        refine g_goto (q := 23) dX12_fails_19 (by decide) ?_
        exact tail 1 (by rw [if_pos (hkv.mp (by omega))])
    · exact absurd (show w32 σ.2.1 = 0 by rw [hw]; rfl) c_4
  · refine g_if_eq (q := 7) (tg := 8) dX12_fails_4 (by decide) rfl (fun c_4 => ?_) (fun c_4 => ?_)
    · exact absurd c_4 (by rw [w32_id (x := σ.2.1) (by omega) (by omega)]; exact hw)
    · refine g_return dX12_fails_7 rfl ?_
      rw [failP_stop hw]
      exact ⟨rfl, ⟨L, ⟨g1, g2, g3, g4⟩, ⟨i0, i1⟩, ⟨h6, h7, h9, h10⟩, ⟨h11, hwb, h12⟩, hc⟩, mrF.rf⟩
theorem tw_is (S : SH sh) (M : MR ct f n T K Pl E σ) (hp : (x, y) ∈ pKd) : Mt YX12_is d [.inr (.inr 92), .inl x] sh sh ct (pI fun r c => r = b01 (tkP K σ = y) ∧ c = ct) := by
  have hkv := kR_iff M.kv hp
  have hkb := (kR_23 M.kv).2
  have hpb := pK_b _ hp
  dsimp only at hpb
  obtain ⟨L, ⟨g1, g2, g3, g4⟩, ⟨i0, i1⟩, ⟨h6, h7, h9, h10⟩, ⟨h11, hwb, h12⟩, hc⟩ := M
  refine Mt.of rfl (Nat.le_of_ble_eq_true rfl) ?_
  show G _ 0 [some (.inr (.inr 92)), some (.inl x)] [] sh ct
  refine g_aload_n (q := 1) dX12_is_0 rfl rfl ?_
  refine g_getI (q := 4) (kI := 11) fX12_134 (by first | assumption | exact S.at _ rfl) dX12_is_1 rfl rfl ?_
  rw [h11]
  refine g_if_ne (q := 7) (tg := 19) dX12_is_4 (by decide) rfl (fun c_4 => ?_) (fun c_4 => ?_)
  · rw [w32_id (x := σ.2.1) (by omega) (by omega)] at c_4
    refine g_iconst (q := 20) dX12_is_19 rfl ?_
    refine g_zreturn dX12_is_20 rfl (by decide +kernel) ?_
    exact ⟨_, rfl, (b01_f (fun z => by rw [tk_stop c_4] at z; omega)), rfl⟩
  · rw [w32_id (x := σ.2.1) (by omega) (by omega)] at c_4
    have hw : σ.2.1 = 0 := by omega
    refine g_aload_n (q := 8) dX12_is_7 rfl rfl ?_
    refine g_getI (q := 11) (kI := 9) fX12_116 (by first | assumption | exact S.at _ rfl) dX12_is_8 rfl rfl ?_
    rw [h9]
    refine g_iload_n (q := 12) dX12_is_11 rfl rfl ?_
    refine g_icmp_ne (q := 15) (tg := 19) dX12_is_12 (by decide) rfl (fun c_12 => ?_) (fun c_12 => ?_)
    · rw [w32_id (x := kR (K σ.1)) (by omega) (by omega), w32_id (x := x) (by omega) (by omega)] at c_12
      refine g_iconst (q := 20) dX12_is_19 rfl ?_
      refine g_zreturn dX12_is_20 rfl (by decide +kernel) ?_
      exact ⟨_, rfl, (b01_f (fun z => by rw [tk_go hw] at z; exact c_12 (hkv.mpr z))), rfl⟩
    · rw [w32_id (x := kR (K σ.1)) (by omega) (by omega), w32_id (x := x) (by omega) (by omega)] at c_12
      refine g_iconst (q := 16) dX12_is_15 rfl ?_
      refine g_goto (q := 20) dX12_is_16 (by decide) ?_
      refine g_zreturn dX12_is_20 rfl (by decide +kernel) ?_
      exact ⟨_, rfl, (b01_t (by rw [tk_go hw]; exact hkv.mp (by omega))), rfl⟩
theorem tw_isD (S : SH sh) (M : MR ct f n T K Pl E σ) : Mt YX12_is d [.inr (.inr 92), .inl 23] sh sh ct (pI fun r c => r = b01 (1000 ≤ tkP K σ) ∧ c = ct) := by
  have hkv := (kR_23 M.kv).1
  have hkb := (kR_23 M.kv).2
  obtain ⟨L, ⟨g1, g2, g3, g4⟩, ⟨i0, i1⟩, ⟨h6, h7, h9, h10⟩, ⟨h11, hwb, h12⟩, hc⟩ := M
  refine Mt.of rfl (Nat.le_of_ble_eq_true rfl) ?_
  show G _ 0 [some (.inr (.inr 92)), some (.inl 23)] [] sh ct
  refine g_aload_n (q := 1) dX12_is_0 rfl rfl ?_
  refine g_getI (q := 4) (kI := 11) fX12_134 (by first | assumption | exact S.at _ rfl) dX12_is_1 rfl rfl ?_
  rw [h11]
  refine g_if_ne (q := 7) (tg := 19) dX12_is_4 (by decide) rfl (fun c_4 => ?_) (fun c_4 => ?_)
  · rw [w32_id (x := σ.2.1) (by omega) (by omega)] at c_4
    refine g_iconst (q := 20) dX12_is_19 rfl ?_
    refine g_zreturn dX12_is_20 rfl (by decide +kernel) ?_
    exact ⟨_, rfl, (b01_f (fun z => by rw [tk_stop c_4] at z; omega)), rfl⟩
  · rw [w32_id (x := σ.2.1) (by omega) (by omega)] at c_4
    have hw : σ.2.1 = 0 := by omega
    refine g_aload_n (q := 8) dX12_is_7 rfl rfl ?_
    refine g_getI (q := 11) (kI := 9) fX12_116 (by first | assumption | exact S.at _ rfl) dX12_is_8 rfl rfl ?_
    rw [h9]
    refine g_iload_n (q := 12) dX12_is_11 rfl rfl ?_
    refine g_icmp_ne (q := 15) (tg := 19) dX12_is_12 (by decide) rfl (fun c_12 => ?_) (fun c_12 => ?_)
    · rw [w32_id (x := kR (K σ.1)) (by omega) (by omega), show w32 23 = 23 from rfl] at c_12
      refine g_iconst (q := 20) dX12_is_19 rfl ?_
      refine g_zreturn dX12_is_20 rfl (by decide +kernel) ?_
      exact ⟨_, rfl, (b01_f (fun z => by rw [tk_go hw] at z; exact c_12 (hkv.mpr z))), rfl⟩
    · rw [w32_id (x := kR (K σ.1)) (by omega) (by omega), show w32 23 = 23 from rfl] at c_12
      refine g_iconst (q := 16) dX12_is_15 rfl ?_
      refine g_goto (q := 20) dX12_is_16 (by decide) ?_
      refine g_zreturn dX12_is_20 rfl (by decide +kernel) ?_
      exact ⟨_, rfl, (b01_t (by rw [tk_go hw]; exact hkv.mp (by omega))), rfl⟩
theorem step_in (hk : kd T K) (hi : σ.1 < T) (h1 : tkP K σ ≠ 203) (h2 : tkP K σ ≠ 201) (h3 : tkP K σ ≠ 202) : σ.2.1 = 0 ∧ σ.1 + 1 < T ∧ stepP T σ = (σ.1 + 1, σ.2) := by
  have hw := tk_w h1
  rw [tk_go hw] at h2 h3
  have h4 : σ.1 + 1 < T := by
    apply Classical.byContradiction
    intro z
    have e : σ.1 = T - 1 := by omega
    rw [e] at h2 h3
    exact hk.2.1.elim h2 h3
  refine ⟨hw, h4, ?_⟩
  unfold stepP
  rw [if_pos ⟨hw, h4⟩]
/-- a token is passed -/
theorem tw_nextN (S : SH sh) (M : MR ct f n T K Pl E σ) (h1 : tkP K σ ≠ 203) (h2 : tkP K σ ≠ 201) (h3 : tkP K σ ≠ 202) : Mt YX12_next (d + 5) [.inr (.inr 92)] sh sh ct (pN fun c => MR c f n T K Pl E (stepP T σ) ∧ mrF ct c) := by
  obtain ⟨s1, s2, s3⟩ := step_in M.kd.1 M.2.2.1.2 h1 h2 h3
  obtain ⟨L, ⟨g1, g2, g3, g4⟩, ⟨i0, i1⟩, ⟨h6, h7, h9, h10⟩, ⟨h11, hwb, h12⟩, hc⟩ := M
  have t0 := g4.2.2.1 σ.1 i0 i1
  have t1 := g4.2.2.1 (σ.1 + 1) (by omega) s2
  have hle := t0.le
  have hE : 0 ≤ E σ.1 := by
    have : ∀ m : Nat, (m : Int) < T → 0 ≤ E m := by
      intro m
      induction m with
      | zero => intro _; rw [show ((0 : Nat) : Int) = 0 from rfl, g4.1]; exact Int.le_refl _
      | succ m ih =>
        intro hm
        have := (g4.2.2.1 (m : Int) (by omega) (by omega)).le
        have := ih (by omega)
        rw [show ((m + 1 : Nat) : Int) = (m : Int) + 1 by omega]
        omega
    have := this σ.1.toNat (by omega)
    rw [show ((σ.1.toNat : Nat) : Int) = σ.1 by omega] at this
    exact this
  refine (tw_next d sh ct S L h7 g1 (by omega) g2 g3 t1).imp ?_
  rintro r c ⟨hr, ⟨hk, hn⟩, N⟩
  have F : mrF ct c := ⟨fun j j6 j7 j9 j10 _ _ => N.2.2.1 j j6 j7 j9 j10, fun j _ => by rw [N.2.2.2 96 (by decide)], N.2.2.2.mono (by simp)⟩
  refine ⟨hr, ?_, F⟩
  rw [s3]
  refine ⟨F.L L, ⟨by rw [N.2.2.1 8 (by decide) (by decide) (by decide) (by decide)]; exact g1, g2, fun j j0 j1 => by rw [N.2.2.2 95 (by decide)]; exact g3 j j0 j1, g4⟩, ⟨by dsimp only; omega, s2⟩, ⟨N.1, N.2.1, hk, hn⟩, ⟨by rw [N.2.2.1 11 (by decide) (by decide) (by decide) (by decide)]; exact h11, hwb, fun z => absurd s1 z⟩, fun z => ?_⟩
  rw [N.2.2.2 96 (by decide)]
  exact hc s1
theorem tw_nextM (S : SH sh) (M : MR ct f n T K Pl E σ) (_ : gd T σ) (h1 : tkP K σ ≠ 203) (h2 : tkP K σ ≠ 201) (h3 : tkP K σ ≠ 202) : Mt YX12_next (d + 5) [.inr (.inr 92)] sh sh ct (pN fun c => MR c f n T K Pl E (stepP T σ) ∧ mrF ct c) := tw_nextN d sh ct S M h1 h2 h3
theorem tw_eats (S : SH sh) (M : MR ct f n T K Pl E σ) (hg : gd T σ) (hp : (x, y) ∈ pKd) (hy : y ≠ 201 ∧ y ≠ 202) : Mt YX12_eats (d + 6) [.inr (.inr 92), .inl x] sh sh ct (pI fun r c => ((tkP K σ = y ∧ r = 1 ∧ MR c f n T K Pl E (stepP T σ)) ∨ (tkP K σ ≠ y ∧ r = 0 ∧ MR c f n T K Pl E σ)) ∧ mrF ct c) := by
  have hpb := pK_b _ hp
  dsimp only at hpb
  refine Mt.of rfl (Nat.le_of_ble_eq_true rfl) ?_
  show G _ 0 [some (.inr (.inr 92)), some (.inl x)] [] sh ct
  refine g_aload_n (q := 1) dX12_eats_0 rfl rfl ?_
  refine g_iload_n (q := 2) dX12_eats_1 rfl rfl ?_
  refine g_callV (q := 5) lX12_140 mX12_is nX12_is rfl (tw_is 0 sh _ S M hp) (by first | assumption | exact S.at _ rfl) rfl rfl shLe.rf (rmOk.mk (by omega) (by first | exact shLe.rf | assumption)) (Nat.le_of_ble_eq_true rfl) dX12_eats_2 rfl rfl (kI fun r_ c_ hp => ?_)
  obtain ⟨hr, hq⟩ := hp
  replace hr := hr.symm
  replace hq := hq.symm
  subst hr hq
  refine g_if_ne (q := 8) (tg := 10) dX12_eats_5 (by decide) rfl (fun c_5 => ?_) (fun c_5 => ?_)
  · have h := wbn.mp c_5
    refine g_aload_n (q := 11) dX12_eats_10 rfl rfl ?_
    refine g_callV (q := 14) lX12_143 mX12_next nX12_next rfl (tw_nextM d sh _ S M hg (by omega) (by omega) (by omega)) (by first | assumption | exact S.at _ rfl) rfl rfl shLe.rf (rmOk.mk (by omega) (by first | exact shLe.rf | assumption)) (Nat.le_of_ble_eq_true rfl) dX12_eats_11 rfl rfl (kN fun c1 hq => ?_)
    refine g_iconst (q := 15) dX12_eats_14 rfl ?_
    refine g_zreturn dX12_eats_15 rfl (by decide +kernel) ?_
    exact ⟨_, rfl, Or.inl ⟨h, rfl, hq.1⟩, hq.2⟩
  · refine g_iconst (q := 9) dX12_eats_8 rfl ?_
    refine g_zreturn dX12_eats_9 rfl (by decide +kernel) ?_
    exact ⟨_, rfl, Or.inr ⟨wb0.mp c_5, rfl, M⟩, mrF.rf⟩
end
