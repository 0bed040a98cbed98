/-! how many nodes a search can come to -/
theorem pig : ∀ (N n : Nat) (f : Nat → Nat), (∀ j, j < n → f j < N) → (∀ j k, j < n → k < n → f j = f k → j = k) → n ≤ N
  | 0, n, f, h, _ => by
    apply Nat.le_of_not_lt
    intro h0
    have := h 0 h0
    omega
  | N + 1, n, f, h, hi => by
    by_cases hx : ∃ j0, j0 < n ∧ f j0 = N
    · obtain ⟨j0, a, b⟩ := hx
      have := pig N (n - 1) (fun j => if j < j0 then f j else f (j + 1)) ?_ ?_
      · omega
      · intro j hj
        have key : ∀ x, x < n → x ≠ j0 → f x < N := by
          intro x hx hne
          have h1 := h x hx
          have h2 : f x ≠ N := fun e => hne (hi x j0 hx a (e.trans b.symm))
          omega
        by_cases e : j < j0
        · simp only [if_pos e]
          exact key j (by omega) (by omega)
        · simp only [if_neg e]
          exact key (j + 1) (by omega) (by omega)
      · intro j k hj hk he
        by_cases e : j < j0
        · by_cases e2 : k < j0
          · simp only [if_pos e, if_pos e2] at he
            exact hi j k (by omega) (by omega) he
          · simp only [if_pos e, if_neg e2] at he
            have := hi j (k + 1) (by omega) (by omega) he
            omega
        · by_cases e2 : k < j0
          · simp only [if_neg e, if_pos e2] at he
            have := hi (j + 1) k (by omega) (by omega) he
            omega
          · simp only [if_neg e, if_neg e2] at he
            have := hi (j + 1) (k + 1) (by omega) (by omega) he
            omega
    · have := pig N n f (fun j hj => by
        have h1 := h j hj
        have h2 : f j ≠ N := fun e => hx ⟨j, hj, e⟩
        omega) hi
      omega
def rmB (sp m : Nat) : Nat := sp / 2 ^ (m + 1) * 2 ^ m + sp % 2 ^ m
theorem rmB_inj {m a b : Nat} (hm : m < 6) (h1 : a.testBit m = true) (h2 : b.testBit m = true) (h3 : rmB a m = rmB b m) : a = b := by
  rw [Nat.testBit_eq_decide_div_mod_eq, decide_eq_true_eq] at h1 h2
  unfold rmB at h3
  have hc : m = 0 ∨ m = 1 ∨ m = 2 ∨ m = 3 ∨ m = 4 ∨ m = 5 := by omega
  rcases hc with rfl | rfl | rfl | rfl | rfl | rfl <;> simp only [Nat.reducePow, Nat.reduceAdd] at h1 h2 h3 <;> omega
theorem rmB_lt : ∀ M, M < 7 → ∀ m, m < M → ∀ a, a < 2 ^ M → rmB a m < 2 ^ (M - 1) := by decide +kernel
/-- the nodes that a search can come to, by how many are wanted -/
def okW (M : Nat) (s0 x : Int × Int) : Prop := (0 ≤ x.1 ∧ x.1 < 700) ∧ ((M = 0 ∧ x.2 = 0) ∨ (0 < M ∧ (x = s0 ∨ (0 ≤ x.2 ∧ x.2 < 2 ^ M ∧ x.1 % 7 < M ∧ x.2.toNat.testBit (x.1 % 7).toNat = true))))
def cdW (M : Nat) (x : Int × Int) : Nat := if x.2 = 0 then 0 else 1 + ((x.1 / 7).toNat * M + (x.1 % 7).toNat) * 2 ^ (M - 1) + rmB x.2.toNat (x.1 % 7).toNat
theorem okW_bit {M : Nat} {x : Int × Int} (h : x.2.toNat.testBit (x.1 % 7).toNat = true) : x.2 ≠ 0 := by
  intro e
  rw [e] at h
  simp at h
theorem cap_M {M N : Nat} (hM : M ≤ 6) (hN : ndM M ≤ N) {from' : Int} : capOk (okW M (from', 0)) N := by
  intro n nd hi ho
  have hl := ndM_le M hM
  by_cases h0 : M = 0
  · subst h0
    have := pig 700 n (fun j => (nd j).1.toNat) (fun j hj => by have := (ho j hj).1; omega) ?_
    · omega
    · intro j k hj hk he
      apply hi j k hj hk
      obtain ⟨a1, a2⟩ := ho j hj
      obtain ⟨b1, b2⟩ := ho k hk
      have e2 : (nd j).2 = (nd k).2 := by
        rcases a2 with ⟨-, a2⟩ | ⟨a2, -⟩
        · rcases b2 with ⟨-, b2⟩ | ⟨b2, -⟩
          · rw [a2, b2]
          · omega
        · omega
      exact Prod.ext (by omega) e2
  · have hp : ∀ j, j < n → (nd j).2 = 0 ∧ nd j = (from', 0) ∨ (nd j).2 ≠ 0 ∧ (0 ≤ (nd j).1 ∧ (nd j).1 < 700 ∧ 0 ≤ (nd j).2 ∧ (nd j).2.toNat < 2 ^ M ∧ (nd j).1 % 7 < M ∧ (nd j).2.toNat.testBit ((nd j).1 % 7).toNat = true) := by
      intro j hj
      obtain ⟨a1, a2⟩ := ho j hj
      rcases a2 with ⟨a2, -⟩ | ⟨-, a2⟩
      · omega
      · rcases a2 with a2 | ⟨a2, a3, a4, a5⟩
        · exact Or.inl ⟨by rw [a2], a2⟩
        · refine Or.inr ⟨okW_bit (M := M) a5, a1.1, a1.2, a2, ?_, a4, a5⟩
          have : ((2 : Int) ^ M) = ((2 ^ M : Nat) : Int) := by rw [Int.natCast_pow]; rfl
          rw [this] at a3
          generalize (2 : Nat) ^ M = p at a3
          omega
    have hpw : 2 ^ M = 2 * 2 ^ (M - 1) := by
      rw [← Nat.pow_succ']
      congr 1
      omega
    have key := pig (100 * M * 2 ^ (M - 1) + 1) n (fun j => cdW M (nd j)) ?_ ?_
    · have : 100 * M * 2 ^ M / 2 = 100 * M * 2 ^ (M - 1) := by
        rw [hpw, show 100 * M * (2 * 2 ^ (M - 1)) = 100 * M * 2 ^ (M - 1) * 2 by rw [Nat.mul_comm 2, ← Nat.mul_assoc], Nat.mul_div_cancel _ (by decide)]
      unfold ndM at hN
      rw [this] at hN
      split at hN <;> omega
    · intro j hj
      show cdW M (nd j) < _
      unfold cdW
      rcases hp j hj with ⟨a, -⟩ | ⟨a, b1, b2, b3, b4, b5, b6⟩
      · rw [if_pos a]
        omega
      · rw [if_neg a]
        have h1 := rmB_lt M (by omega) ((nd j).1 % 7).toNat (by omega) _ b4
        generalize rmB (nd j).2.toNat ((nd j).1 % 7).toNat = r at h1
        generalize 2 ^ (M - 1) = P at h1 ⊢
        have h2 : ((nd j).1 / 7).toNat * M + ((nd j).1 % 7).toNat + 1 ≤ 100 * M := by
          have : ((nd j).1 / 7).toNat + 1 ≤ 100 := by omega
          have := Nat.mul_le_mul_right M this
          rw [Nat.add_mul] at this
          omega
        have h3 := Nat.mul_le_mul_right P h2
        rw [Nat.add_mul, Nat.one_mul] at h3
        omega
    · intro j k hj hk he
      apply hi j k hj hk
      have he : cdW M (nd j) = cdW M (nd k) := he
      unfold cdW at he
      rcases hp j hj with ⟨a, a2⟩ | ⟨a, b1, b2, b3, b4, b5, b6⟩
      · rcases hp k hk with ⟨c, c2⟩ | ⟨c, -⟩
        · rw [a2, c2]
        · rw [if_pos a, if_neg c] at he
          omega
      · rcases hp k hk with ⟨c, -⟩ | ⟨c, d1, d2, d3, d4, d5, d6⟩
        · rw [if_neg a, if_pos c] at he
          omega
        · rw [if_neg a, if_neg c] at he
          have h1 := rmB_lt M (by omega) ((nd j).1 % 7).toNat (by omega) _ b4
          have h2 := rmB_lt M (by omega) ((nd k).1 % 7).toNat (by omega) _ d4
          have hP : 0 < 2 ^ (M - 1) := Nat.pow_pos (by decide)
          have h64 : 2 ^ M ≤ 64 := by
            have : 2 ^ M ≤ 2 ^ 6 := Nat.pow_le_pow_right (by decide) hM
            omega
          generalize hr1 : rmB (nd j).2.toNat ((nd j).1 % 7).toNat = r1 at h1 he
          generalize hr2 : rmB (nd k).2.toNat ((nd k).1 % 7).toNat = r2 at h2 he
          generalize 2 ^ (M - 1) = P at h1 h2 hP he
          generalize hA : ((nd j).1 / 7).toNat * M + ((nd j).1 % 7).toNat = A at he
          generalize hB : ((nd k).1 / 7).toNat * M + ((nd k).1 % 7).toNat = B at he
          have e1 : (A * P + r1) / P = A := by rw [Nat.mul_comm, Nat.mul_add_div hP, Nat.div_eq_of_lt h1, Nat.add_zero]
          have e2 : (B * P + r2) / P = B := by rw [Nat.mul_comm, Nat.mul_add_div hP, Nat.div_eq_of_lt h2, Nat.add_zero]
          have e3 : A * P + r1 = B * P + r2 := by omega
          have e4 : A = B := by rw [← e1, ← e2, e3]
          have e5 : r1 = r2 := by
            rw [e4] at e3
            omega
          have hM0 : 0 < M := by omega
          have f1 : (((nd j).1 / 7).toNat * M + ((nd j).1 % 7).toNat) / M = ((nd j).1 / 7).toNat := by rw [Nat.mul_comm, Nat.mul_add_div hM0, Nat.div_eq_of_lt (by omega), Nat.add_zero]
          have f2 : (((nd k).1 / 7).toNat * M + ((nd k).1 % 7).toNat) / M = ((nd k).1 / 7).toNat := by rw [Nat.mul_comm, Nat.mul_add_div hM0, Nat.div_eq_of_lt (by omega), Nat.add_zero]
          have g1 : ((nd j).1 / 7).toNat = ((nd k).1 / 7).toNat := by rw [← f1, ← f2, hA, hB, e4]
          have g2 : ((nd j).1 % 7).toNat = ((nd k).1 % 7).toNat := by
            rw [g1] at hA
            omega
          rw [g2] at hr1 b6
          have h3 := rmB_inj (m := ((nd k).1 % 7).toNat) (by omega) b6 d6 (by rw [hr1, hr2, e5])
          exact Prod.ext (by omega) (by omega)
theorem canB_in {β : Bk} {mk : Int → Int} {st : Int} {U k : Nat} (h : (msN β mk st &&& U).testBit k = true) : k < 48 ∧ ((k / 8 : Nat) : Int) < β.n 2 ∧ ((k % 8 : Nat) : Int) < β.n 3 := by
  rw [Nat.testBit_and, msN_bit] at h
  simp only [Bool.and_eq_true, decide_eq_true_eq] at h
  have h2 := h.1.2
  unfold canB at h2
  simp only [Bool.and_eq_true, decide_eq_true_eq] at h2
  exact ⟨h.1.1, h2.1.1, h2.1.2⟩
theorem nxB_mod {β : Bk} {st m s : Int} (h0 : 0 ≤ m) (h1 : m < 7) : nxB β st m s % 7 = m := by
  unfold nxB
  omega
theorem scW_mem {β : Bk} {mk : Int → Int} {U : Nat} {cap w : Int} {x : Int × Int} {p : Nat × (Int × Int)} (h : p ∈ scW β mk U cap w x) : ∃ i, (msN β mk x.1 &&& U).testBit i = true ∧ i < 48 ∧ p = scN β w x i ∧ coolB cap p.2.1 = true := by
  unfold scW scK at h
  obtain ⟨h1, h2⟩ := List.mem_filter.mp h
  obtain ⟨i, h3, h4⟩ := List.mem_map.mp h1
  have := brL_mem.mp h3
  exact ⟨i, this.2, this.1, h4.symm, h2⟩
theorem ok_M {β : Bk} {mk : Int → Int} {U M : Nat} {cap : Int} {s0 : Int × Int} (hM : M ≤ 6) (hm : M = 0 ∨ (M : Int) = β.n 2) (hs0 : s0.2 = 0) : ∀ x, okW M s0 x → ∀ p ∈ scW β mk U cap ((2 ^ M - 1 : Nat) : Int) x, okW M s0 p.2 := by
  intro x hx p hp
  obtain ⟨i, hb, hi, rfl, -⟩ := scW_mem hp
  obtain ⟨-, h2, h3⟩ := canB_in hb
  have hn := nxB_in (β := β) (st := x.1) (m := ((i / 8 : Nat) : Int)) (s := ((i % 8 : Nat) : Int)) (by omega) (by omega)
  have hmod := nxB_mod (β := β) (st := x.1) (m := ((i / 8 : Nat) : Int)) (s := ((i % 8 : Nat) : Int)) (by omega) (by omega)
  refine ⟨hn, ?_⟩
  by_cases h0 : M = 0
  · subst h0
    refine Or.inl ⟨rfl, ?_⟩
    have e : spN ((2 ^ 0 - 1 : Nat) : Int) x.2.toNat (i / 8) = 0 := if_pos rfl
    show ((spN ((2 ^ 0 - 1 : Nat) : Int) x.2.toNat (i / 8) : Nat) : Int) = 0
    rw [e]
    rfl
  · refine Or.inr ⟨by omega, Or.inr ?_⟩
    have hMe : (M : Int) = β.n 2 := by rcases hm with h | h; exact absurd h h0; exact h
    have hpw : 2 ≤ 2 ^ M := by
      have : 2 ^ 1 ≤ 2 ^ M := Nat.pow_le_pow_right (by decide) (by omega)
      omega
    have e : spN ((2 ^ M - 1 : Nat) : Int) x.2.toNat (i / 8) = x.2.toNat ||| 2 ^ (i / 8) := by
      unfold spN
      rw [if_neg]
      generalize 2 ^ M = p at hpw
      omega
    have hx2 : x.2.toNat < 2 ^ M := by
      rcases hx.2 with ⟨h, -⟩ | ⟨-, h⟩
      · exact absurd h h0
      · rcases h with h | ⟨a, b, -⟩
        · rw [h, hs0]
          show 0 < 2 ^ M
          omega
        · have : ((2 : Int) ^ M) = ((2 ^ M : Nat) : Int) := by rw [Int.natCast_pow]; rfl
          rw [this] at b
          generalize (2 : Nat) ^ M = p at b
          omega
    have hlt : x.2.toNat ||| 2 ^ (i / 8) < 2 ^ M := Nat.or_lt_two_pow hx2 (Nat.pow_lt_pow_right (by decide) (by omega))
    show (0 : Int) ≤ ((spN _ _ _ : Nat) : Int) ∧ ((spN _ _ _ : Nat) : Int) < 2 ^ M ∧ nxB _ _ _ _ % 7 < (M : Int) ∧ ((spN _ _ _ : Nat) : Int).toNat.testBit (nxB _ _ _ _ % 7).toNat = true
    rw [e, hmod]
    refine ⟨by omega, ?_, by omega, ?_⟩
    · have : ((2 : Int) ^ M) = ((2 ^ M : Nat) : Int) := by rw [Int.natCast_pow]; rfl
      rw [this]
      omega
    · rw [show (((x.2.toNat ||| 2 ^ (i / 8) : Nat) : Int)).toNat = x.2.toNat ||| 2 ^ (i / 8) by omega, show (((i / 8 : Nat) : Int)).toNat = i / 8 by omega, Nat.testBit_or, Nat.testBit_two_pow_self, Bool.or_true]
