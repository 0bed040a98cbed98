/-! the reference's search: what its steps are -/
def alB (β : Bk) (mk : Int → Int) (U : Nat) (cap x : Int) (i : Nat) : Bool := (msN β mk x &&& U).testBit i && coolB cap (nxB β x (i / 8 : Nat) (i % 8 : Nat))
theorem scW_eq (β : Bk) (mk : Int → Int) (U : Nat) (cap w : Int) (x : Int × Int) : scW β mk U cap w x = ((List.range 48).filter (alB β mk U cap x.1)).map (scN β w x) := by
  unfold scW scK brL
  rw [List.filter_map, List.filter_filter]
  congr 1
  apply List.filter_congr
  intro i _
  unfold alB
  rw [Bool.and_comm]
  rfl
theorem rng_split {γ : Type} (P : Nat → Bool) (f : Nat → γ) {i : Nat} (h : P i = true) : ∀ n, i < n → ∃ post, ((List.range n).filter P).map f = ((List.range i).filter P).map f ++ f i :: post
  | 0, hi => by omega
  | n + 1, hi => by
    rw [List.range_succ, List.filter_append, List.map_append]
    by_cases hn : i = n
    · subst hn
      refine ⟨[], ?_⟩
      rw [List.filter_cons_of_pos h]
      rfl
    · obtain ⟨post, e⟩ := rng_split P f h n (by omega)
      rw [e]
      exact ⟨post ++ ((List.filter P [n]).map f), by simp⟩
theorem scW_split {β : Bk} {mk : Int → Int} {U : Nat} {cap : Int} (w : Int) {x : Int × Int} {i : Nat} (hi : i < 48) (h : alB β mk U cap x.1 i = true) : ∃ post, scW β mk U cap w x = ((List.range i).filter (alB β mk U cap x.1)).map (scN β w x) ++ scN β w x i :: post := by
  rw [scW_eq]
  exact rng_split _ _ h 48 hi
theorem mnt_in {i : Nat} (hi : i < 48) : 0 ≤ mnt i ∧ mnt i < 60 ∧ mnt i / 10 = (i / 8 : Nat) ∧ mnt i % 10 = (i % 8 : Nat) := by
  unfold mnt
  omega
theorem mnt_of {v : Int} (h0 : 0 ≤ v) (h1 : v / 10 < 6) (h2 : v % 10 < 8) : ∃ i : Nat, i < 48 ∧ mnt i = v ∧ ((i / 8 : Nat) : Int) = v / 10 ∧ ((i % 8 : Nat) : Int) = v % 10 := by
  refine ⟨(8 * (v / 10) + v % 10).toNat, ?_, ?_, ?_, ?_⟩
  · omega
  · unfold mnt; omega
  · omega
  · omega
/-- which minutes a search uses, by who is quiet and what is unsaid -/
def useOk (U : Nat) (qu un : Int) : Prop := ∀ i, i < 48 → (U.testBit i = true ↔ (((i / 8 : Nat) : Int) ≠ qu ∧ ((i % 8 : Nat) : Int) ≠ un))
theorem cool_iff {cap x : Int} (h1 : cap ≤ 9) : coolB cap x = true ↔ x / 7 % 10 ≤ cap := by
  unfold coolB
  simp
  omega
section
variable {β : Bk} {mk : Int → Int} {U : Nat} {cap w qu un x : Int}
theorem ld_al (hU : useOk U qu un) (hc : cap ≤ 9) {i : Nat} (hi : i < 48) : ldP β mk qu un cap x (mnt i) ↔ alB β mk U cap x i = true := by
  obtain ⟨-, -, e1, e2⟩ := mnt_in hi
  unfold alB ldP
  rw [Bool.and_eq_true, cool_iff hc, Nat.testBit_and, Bool.and_eq_true, msN_bit, hU i hi, e1, e2]
  unfold canB
  simp only [hi, decide_true, Bool.true_and, Bool.and_eq_true, decide_eq_true_eq]
  constructor
  · rintro ⟨⟨a, b, c, d, e⟩, f⟩
    exact ⟨⟨⟨⟨a, b⟩, e⟩, c, d⟩, f⟩
  · rintro ⟨⟨⟨⟨a, b⟩, e⟩, c, d⟩, f⟩
    exact ⟨⟨a, b, c, d, e⟩, f⟩
theorem ld_in (hB : bkB β) {v : Int} (h0 : 0 ≤ v) (h : ldP β mk qu un cap x v) : ∃ i : Nat, i < 48 ∧ mnt i = v ∧ ((i / 8 : Nat) : Int) = v / 10 ∧ ((i % 8 : Nat) : Int) = v % 10 := by
  have h1 := h.1.1
  have h2 := h.1.2.1
  have h3 := hB.2.2.1
  have h4 := hB.2.2.2.1
  exact mnt_of h0 (by omega) (by omega)
theorem ex_al (hU : useOk U qu un) (hc : cap ≤ 9) (hB : bkB β) {P : Int × Int → Prop} {s : Int} : (∃ q ∈ scW β mk U cap w (x, s), P q.2) ↔ ∃ v, 0 ≤ v ∧ v < 60 ∧ ldP β mk qu un cap x v ∧ P (nxB β x (v / 10) (v % 10), (spN w s.toNat (v / 10).toNat : Nat)) := by
  rw [scW_eq]
  constructor
  · rintro ⟨q, hq, hP⟩
    obtain ⟨i, hi, rfl⟩ := List.mem_map.mp hq
    obtain ⟨h1, h2⟩ := List.mem_filter.mp hi
    have h3 := List.mem_range.mp h1
    obtain ⟨a1, a2, a3, a4⟩ := mnt_in h3
    refine ⟨mnt i, a1, a2, (ld_al hU hc h3).mpr h2, ?_⟩
    rw [a3, a4, show ((i / 8 : Nat) : Int).toNat = i / 8 by omega]
    exact hP
  · rintro ⟨v, v0, v1, hl, hP⟩
    obtain ⟨i, h1, rfl, h3, h4⟩ := ld_in hB v0 hl
    refine ⟨scN β w (x, s) i, List.mem_map.mpr ⟨i, List.mem_filter.mpr ⟨List.mem_range.mpr h1, (ld_al hU hc h1).mp hl⟩, rfl⟩, ?_⟩
    rw [← h3, ← h4, show ((i / 8 : Nat) : Int).toNat = i / 8 by omega] at hP
    exact hP
end
theorem spI_eq {f s m : Int} (hf : f ≠ 0) (s0 : 0 ≤ s) (s1 : s < 64) (m0 : 0 ≤ m) (m1 : m < 6) : spI f s m = ((s.toNat ||| 2 ^ m.toNat : Nat) : Int) := by
  unfold spI orI shlI
  rw [if_neg hf, show s % 4294967296 = s by omega, show m % 32 = m by omega, Int.one_mul]
  have h : ((2 : Int) ^ m.toNat % 4294967296).toNat = 2 ^ m.toNat := by
    rcases (show m = 0 ∨ m = 1 ∨ m = 2 ∨ m = 3 ∨ m = 4 ∨ m = 5 by omega) with rfl | rfl | rfl | rfl | rfl | rfl <;> decide
  rw [h]
theorem or_lt {a m M : Nat} (h1 : a < 2 ^ M) (h2 : m < M) : a ||| 2 ^ m < 2 ^ M := Nat.or_lt_two_pow h1 (Nat.pow_lt_pow_right (by decide) h2)
theorem spI_lt {f s m : Int} (s0 : 0 ≤ s) (s1 : s < 64) (m0 : 0 ≤ m) (m1 : m < 6) : 0 ≤ spI f s m ∧ spI f s m < 64 := by
  by_cases hf : f = 0
  · unfold spI
    rw [if_pos hf]
    omega
  · rw [spI_eq hf s0 s1 m0 m1]
    have := or_lt (a := s.toNat) (m := m.toNat) (M := 6) (by omega) (by omega)
    omega
/-- how many sets there are, and which is wanted -/
def fulM (β : Bk) (f : Int) (M : Nat) : Prop := M ≤ 6 ∧ ((f = 0 ∧ M = 0) ∨ (f = 1 ∧ (M : Int) = β.n 2))
def wM (M : Nat) : Int := ((2 ^ M - 1 : Nat) : Int)
theorem wM_0 {M : Nat} : wM M = 0 ↔ M = 0 := by
  unfold wM
  constructor
  · intro h
    match M, h with
    | 0, _ => rfl
    | n + 1, h =>
      have : 1 ≤ 2 ^ n := Nat.one_le_two_pow
      rw [Nat.pow_succ] at h
      omega
  · rintro rfl
    rfl
theorem sp_fm {β : Bk} {f : Int} {M : Nat} (h : fulM β f M) {s m : Int} (s0 : 0 ≤ s) (s1 : s < 2 ^ M) (m0 : 0 ≤ m) (m1 : m < β.n 2) : spI f s m = (spN (wM M) s.toNat m.toNat : Nat) ∧ 0 ≤ spI f s m ∧ spI f s m < 2 ^ M := by
  have hM : (2 : Int) ^ M ≤ 64 := by
    have : (2 : Nat) ^ M ≤ 2 ^ 6 := Nat.pow_le_pow_right (by decide) h.1
    have e : ((2 ^ M : Nat) : Int) = (2 : Int) ^ M := by simp
    omega
  rcases h.2 with ⟨rfl, rfl⟩ | ⟨rfl, hm⟩
  · unfold spI spN
    rw [if_pos rfl, if_pos (wM_0.mpr rfl)]
    simp
  · have hM6 := h.1
    have hM1 : M ≠ 0 := by omega
    rw [spI_eq (by decide) s0 (by omega) m0 (by omega)]
    unfold spN
    rw [if_neg (fun z => hM1 (wM_0.mp z))]
    refine ⟨rfl, by omega, ?_⟩
    have e : ((2 ^ M : Nat) : Int) = (2 : Int) ^ M := by simp
    have := or_lt (a := s.toNat) (m := m.toNat) (M := M) (by omega) (by omega)
    rw [← e]
    omega
/-- a number that tells the fewest steps, as far as lv; for good -/
def exS (v : Int) (R : Nat → Prop) (lv : Nat) : Prop := (v = 268435456 ∧ ∀ m, m ≤ lv → ¬ R m) ∨ ∃ i : Nat, i ≤ lv ∧ v = i ∧ R i ∧ ∀ m, m < i → ¬ R m
def exF (v : Int) (R : Nat → Prop) : Prop := (v = 268435456 ∧ ∀ m, ¬ R m) ∨ ∃ i : Nat, i ≤ 44800 ∧ v = i ∧ R i ∧ ∀ m, m < i → ¬ R m
theorem exS.up0 {v : Int} {R : Nat → Prop} {lv : Nat} (h : exS v R lv) (hn : v ≠ 268435456) : exS v R (lv + 1) := by
  rcases h with ⟨h1, -⟩ | ⟨i, h1, h2⟩
  · exact absurd h1 hn
  · exact Or.inr ⟨i, by omega, h2⟩
theorem exS.no {v : Int} {R : Nat → Prop} {lv : Nat} (h : exS v R lv) (hv : v = 268435456) (hl : lv < 50000) : ∀ m, m ≤ lv → ¬ R m := by
  rcases h with ⟨-, h⟩ | ⟨i, h1, h2, -⟩
  · exact h
  · omega
theorem exS.le {v : Int} {R : Nat → Prop} {lv : Nat} (h : exS v R lv) : 0 ≤ v := by
  rcases h with ⟨h1, -⟩ | ⟨i, h1, h2, -⟩ <;> omega
