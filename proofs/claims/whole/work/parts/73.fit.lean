/-! rows that fit: counts and what stands at a place -/
def updT (tl : Int → Int) (p m : Int) : Int → Int := fun k => if k = p ∧ m ≠ -1 then m else tl k
theorem sm_add {f g : Int → Int} : ∀ n : Nat, sm (fun i => f i + g i) n = sm f n + sm g n
  | 0 => rfl
  | n + 1 => by
    unfold sm
    rw [sm_add n]
    omega
theorem sm_lsum {g : Int → Nat → Int} {n : Nat} : ∀ L : List Nat, sm (fun i => lsum (g i) L) n = lsum (fun j => sm (fun i => g i j) n) L
  | [] => sm_z n
  | a :: L => by
    show sm (fun i => g i a + lsum (g i) L) n = sm (fun i => g i a) n + lsum _ L
    rw [sm_add, sm_lsum L]
theorem lsum_cong {f g : Nat → Int} : ∀ {L : List Nat}, (∀ j ∈ L, f j = g j) → lsum f L = lsum g L
  | [], _ => rfl
  | a :: L, h => by
    show f a + lsum f L = g a + lsum g L
    rw [h a (by simp), lsum_cong (fun j hj => h j (by simp [hj]))]
theorem lsum_nn {f : Nat → Int} : ∀ {L : List Nat}, (∀ j ∈ L, 0 ≤ f j) → 0 ≤ lsum f L ∧ (0 < lsum f L ↔ ∃ j ∈ L, 0 < f j)
  | [], _ => ⟨Int.le_refl _, ⟨fun h => absurd h (Int.lt_irrefl _), fun ⟨j, h, _⟩ => by cases h⟩⟩
  | a :: L, h => by
    have ih := lsum_nn (f := f) (L := L) (fun j hj => h j (by simp [hj]))
    have ha := h a (by simp)
    show 0 ≤ f a + lsum f L ∧ (0 < f a + lsum f L ↔ _)
    refine ⟨by omega, ?_⟩
    constructor
    · intro h2
      by_cases h3 : 0 < f a
      · exact ⟨a, by simp, h3⟩
      · obtain ⟨j, hj, h4⟩ := ih.2.mp (by omega)
        exact ⟨j, by simp [hj], h4⟩
    · rintro ⟨j, hj, h4⟩
      rcases List.mem_cons.mp hj with e | e
      · subst e
        omega
      · have := ih.2.mpr ⟨j, e, h4⟩
        omega
theorem br_one {Z i : Nat} : ∀ k, brL (Z &&& 2 ^ i) k = if i < k ∧ Z.testBit i = true then [i] else []
  | 0 => by rw [if_neg (by omega)]; rfl
  | k + 1 => by
    rw [brL_succ, br_one k, Nat.testBit_and, Nat.testBit_two_pow]
    by_cases hz : Z.testBit i = true
    · rcases Nat.lt_trichotomy i k with h | h | h
      · have e1 : (Z.testBit k && decide (i = k)) = false := by
          rw [decide_eq_false (show ¬ i = k by omega), Bool.and_false]
        rw [if_pos (show i < k ∧ Z.testBit i = true from ⟨h, hz⟩), e1, if_neg (by decide), if_pos (show i < k + 1 ∧ Z.testBit i = true from ⟨by omega, hz⟩)]
        rfl
      · subst h
        have e1 : (Z.testBit i && decide (i = i)) = true := by
          rw [hz]
          simp
        rw [if_neg (show ¬ (i < i ∧ Z.testBit i = true) by omega), e1, if_pos rfl, if_pos (show i < i + 1 ∧ Z.testBit i = true from ⟨by omega, hz⟩)]
        rfl
      · have e1 : (Z.testBit k && decide (i = k)) = false := by
          rw [decide_eq_false (show ¬ i = k by omega), Bool.and_false]
        rw [if_neg (show ¬ (i < k ∧ Z.testBit i = true) by omega), e1, if_neg (by decide), if_neg (show ¬ (i < k + 1 ∧ Z.testBit i = true) by omega)]
        rfl
    · have e1 : (Z.testBit k && decide (i = k)) = false := by
        by_cases h : i = k
        · subst h
          simp [hz]
        · rw [decide_eq_false h, Bool.and_false]
      rw [if_neg (show ¬ (i < k ∧ Z.testBit i = true) from fun z => hz z.2), e1, if_neg (by decide), if_neg (show ¬ (i < k + 1 ∧ Z.testBit i = true) from fun z => hz z.2)]
      rfl
section
variable {β : Bk} {mk : Int → Int} {tone : Int} {tl tl2 : Int → Int} {n : Nat}
theorem cW_nn : ∀ r x, 0 ≤ cW β mk tone tl n r x
  | 0, x => by
    unfold cW
    rcases b01_in (enB β x tone = true) with h | h <;> omega
  | r + 1, x => by
    unfold cW
    exact (lsum_nn (fun j _ => cW_nn r _)).1
theorem cW_cong : ∀ {r : Nat} {x : Int}, r ≤ n → (∀ j : Nat, n - r ≤ j → j < n → tl j = tl2 j) → cW β mk tone tl n r x = cW β mk tone tl2 n r x
  | 0, x, _, _ => rfl
  | r + 1, x, hr, h => by
    unfold cW
    rw [h (n - (r + 1)) (Nat.le_refl _) (by omega)]
    apply lsum_cong
    intro j _
    exact cW_cong (by omega) (fun k a b => h k (by omega) b)
theorem tIdx_mnt {i : Nat} (hi : i < 48) : tIdx (mnt i) = i := by
  unfold tIdx mnt
  omega
theorem mnt_ne (i : Nat) : mnt i ≠ -1 := by
  unfold mnt
  omega
theorem cW_sum {p : Nat} (hp : p < n) (htl : tl p = -1) : ∀ (k : Nat) (x : Int), k ≤ p → sm (fun i => cW β mk tone (updT tl p (mnt i.toNat)) n (n - (p - k)) x) 48 = cW β mk tone tl n (n - (p - k)) x
  | 0, x, _ => by
    obtain ⟨r, hr⟩ : ∃ r, n - (p - 0) = r + 1 := ⟨n - p - 1, by omega⟩
    rw [hr]
    have hp2 : n - (r + 1) = p := by omega
    have e : cW β mk tone tl n (r + 1) x = lsum (fun i => cW β mk tone tl n r (nxB β x (i / 8 : Nat) (i % 8 : Nat))) (brL (msN β mk x) 48) := by
      show lsum _ (brL (alwN 1 β mk x (tl ((n - (r + 1) : Nat) : Int))) 48) = _
      rw [hp2, htl]
      rfl
    rw [e, lsum_br]
    apply sm_cong
    intro i i0 i1
    have hi : i.toNat < 48 := by omega
    show lsum (fun j => cW β mk tone (updT tl p (mnt i.toNat)) n r (nxB β x (j / 8 : Nat) (j % 8 : Nat))) (brL (alwN 1 β mk x (updT tl p (mnt i.toNat) ((n - (r + 1) : Nat) : Int))) 48) = _
    have e1 : updT tl p (mnt i.toNat) ((n - (r + 1) : Nat) : Int) = mnt i.toNat := by
      unfold updT
      rw [if_pos ⟨by rw [hp2], mnt_ne _⟩]
    rw [e1]
    unfold alwN
    rw [if_pos ⟨rfl, mnt_ne _⟩, tIdx_mnt hi, br_one]
    have hc : ∀ y, cW β mk tone (updT tl p (mnt i.toNat)) n r y = cW β mk tone tl n r y := by
      intro y
      apply cW_cong (by omega)
      intro j a b
      unfold updT
      rw [if_neg (fun z => by omega)]
    by_cases h : (msN β mk x).testBit i.toNat = true
    · rw [if_pos ⟨hi, h⟩, if_pos h]
      show cW β mk tone _ n r _ + 0 = _
      rw [hc, Int.add_zero]
    · rw [if_neg (fun z => h z.2), if_neg h]
      rfl
  | k + 1, x, hk => by
    obtain ⟨r, hr⟩ : ∃ r, n - (p - (k + 1)) = r + 1 := ⟨n - (p - (k + 1)) - 1, by omega⟩
    have hr2 : n - (p - k) = r := by omega
    rw [hr]
    have hq : ((n - (r + 1) : Nat) : Int) ≠ p := by omega
    show sm (fun i => lsum (fun j => cW β mk tone (updT tl p (mnt i.toNat)) n r (nxB β x (j / 8 : Nat) (j % 8 : Nat))) (brL (alwN 1 β mk x (updT tl p (mnt i.toNat) ((n - (r + 1) : Nat) : Int))) 48)) 48 = lsum (fun j => cW β mk tone tl n r (nxB β x (j / 8 : Nat) (j % 8 : Nat))) (brL (alwN 1 β mk x (tl ((n - (r + 1) : Nat) : Int))) 48)
    have e : ∀ i : Int, updT tl p (mnt i.toNat) ((n - (r + 1) : Nat) : Int) = tl ((n - (r + 1) : Nat) : Int) := by
      intro i
      unfold updT
      rw [if_neg (fun z => hq z.1)]
    simp only [e]
    rw [sm_lsum]
    apply lsum_cong
    intro j _
    have := cW_sum hp htl k (nxB β x (j / 8 : Nat) (j % 8 : Nat)) (by omega)
    rw [hr2] at this
    exact this
theorem eW_cW : ∀ r x, eW 1 β mk tone tl n r x = 0 ↔ 0 < cW β mk tone tl n r x
  | 0, x => by
    unfold eW cW b01
    split <;> simp
  | r + 1, x => by
    unfold eW cW
    rw [(lsum_nn (fun j _ => cW_nn r _)).2]
    have hm := lmin_le (fun k => eW 1 β mk tone tl n r (nxB β x (k / 8 : Nat) (k % 8 : Nat)) + cost 1 (tl ((n - (r + 1) : Nat) : Int)) k) (brL (alwN 1 β mk x (tl ((n - (r + 1) : Nat) : Int))) 48)
    have hc : ∀ k, cost 1 (tl ((n - (r + 1) : Nat) : Int)) k = 0 := fun k => by unfold cost; rw [if_pos (Or.inl rfl)]
    constructor
    · intro h
      obtain ⟨k, hk, e⟩ := hm.2.2.resolve_left (fun z => by omega)
      rw [h] at e
      have e' : eW 1 β mk tone tl n r (nxB β x (k / 8 : Nat) (k % 8 : Nat)) + cost 1 (tl ((n - (r + 1) : Nat) : Int)) k = 0 := e
      rw [hc, Int.add_zero] at e'
      exact ⟨k, hk, (eW_cW r _).mp e'⟩
    · rintro ⟨k, hk, e⟩
      have e2 := (eW_cW r _).mpr e
      have h1 := hm.2.1 k hk
      have h2 := lmin_nn (f := fun k => eW 1 β mk tone tl n r (nxB β x (k / 8 : Nat) (k % 8 : Nat)) + cost 1 (tl ((n - (r + 1) : Nat) : Int)) k) (l := brL (alwN 1 β mk x (tl ((n - (r + 1) : Nat) : Int))) 48) (fun k _ => by
        have := (eW_in (s := 1) (β := β) (mk := mk) (tone := tone) (tl := tl) (n := n) r (nxB β x (k / 8 : Nat) (k % 8 : Nat))).1
        show 0 ≤ eW 1 β mk tone tl n r _ + cost 1 _ k
        rw [hc]
        omega)
      have h1' : lmin _ _ ≤ eW 1 β mk tone tl n r (nxB β x (k / 8 : Nat) (k % 8 : Nat)) + cost 1 (tl ((n - (r + 1) : Nat) : Int)) k := h1
      rw [e2, hc] at h1'
      omega
theorem cW_reach {st : Int} : ∀ {p : Nat}, p ≤ n → (0 < cW β mk tone tl n n st ↔ ∃ x, Rch 1 β mk tl st p x ∧ 0 < cW β mk tone tl n (n - p) x)
  | 0, _ => by
    constructor
    · intro h
      exact ⟨st, rfl, h⟩
    · rintro ⟨x, hx, h⟩
      have hx' : x = st := hx
      subst hx'
      exact h
  | p + 1, hp => by
    rw [cW_reach (p := p) (by omega)]
    obtain ⟨r, hr⟩ : ∃ r, n - p = r + 1 := ⟨n - p - 1, by omega⟩
    have hr2 : n - (p + 1) = r := by omega
    have hp2 : n - (r + 1) = p := by omega
    rw [hr, hr2]
    constructor
    · rintro ⟨x, hx, h⟩
      unfold cW at h
      rw [hp2] at h
      obtain ⟨k, hk, h2⟩ := (lsum_nn (fun j _ => cW_nn r _)).2.mp h
      exact ⟨_, ⟨x, k, hx, hk, rfl⟩, h2⟩
    · rintro ⟨y, ⟨x, k, hx, hk, rfl⟩, h⟩
      refine ⟨x, hx, ?_⟩
      unfold cW
      rw [hp2]
      exact (lsum_nn (fun j _ => cW_nn r _)).2.mpr ⟨k, hk, h⟩
theorem Rch_cong {st : Int} : ∀ {p : Nat} {x : Int}, (∀ j : Nat, j < p → tl j = tl2 j) → (Rch 1 β mk tl st p x ↔ Rch 1 β mk tl2 st p x)
  | 0, x, _ => Iff.rfl
  | p + 1, x, h => by
    have ih := fun y => Rch_cong (st := st) (p := p) (x := y) (fun j hj => h j (by omega))
    show (∃ y k, _ ∧ k ∈ brL (alwN 1 β mk y (tl p)) 48 ∧ _) ↔ (∃ y k, _ ∧ k ∈ brL (alwN 1 β mk y (tl2 p)) 48 ∧ _)
    rw [h p (by omega)]
    constructor
    · rintro ⟨y, k, a, b⟩
      exact ⟨y, k, (ih y).mp a, b⟩
    · rintro ⟨y, k, a, b⟩
      exact ⟨y, k, (ih y).mpr a, b⟩
/-- how many rows have a minute at a place -/
def cntV (β : Bk) (mk : Int → Int) (tl : Int → Int) (n : Nat) (st p v : Int) : Int := if tl p ≠ -1 ∧ tl p ≠ v then 0 else cW β mk (-1) (updT tl p v) n n st
theorem fit_iff {st : Int} {p k : Nat} (hp : p < n) (hk : k < 48) (hB : bkB β) (ht : toldOk β (tl p)) : fitP 1 β mk (-1) tl n st p k ↔ 0 < cntV β mk tl n st p (mnt k) := by
  have hb2 := hB.2.2.1
  have hb3 := hB.2.2.2.1
  have hc : cost 1 (tl p) k = 0 := by unfold cost; rw [if_pos (Or.inl rfl)]
  have hal : ∀ x, k ∈ brL (alwN 1 β mk x (tl p)) 48 ↔ (¬ (tl p ≠ -1 ∧ tl p ≠ mnt k)) ∧ k ∈ brL (alwN 1 β mk x (mnt k)) 48 := by
    intro x
    rw [brL_mem, brL_mem]
    unfold alwN
    rw [if_pos (show (1 : Int) = 1 ∧ mnt k ≠ -1 from ⟨rfl, mnt_ne k⟩), tIdx_mnt hk, Nat.testBit_and, Nat.testBit_two_pow]
    by_cases e : tl p = -1
    · rw [if_neg (fun z => z.2 e)]
      simp [e, hk]
    · rw [if_pos ⟨rfl, e⟩, Nat.testBit_and, Nat.testBit_two_pow]
      have hid : tIdx (tl p) = k ↔ tl p = mnt k := by
        rcases ht with h | ⟨a, b, c⟩
        · exact absurd h e
        · unfold tIdx mnt
          omega
      simp [e, hk, hid]
      exact And.comm
  have hup : updT tl p (mnt k) p = mnt k := by
    unfold updT
    rw [if_pos ⟨rfl, mnt_ne k⟩]
  have key : 0 < cW β mk (-1) (updT tl p (mnt k)) n n st ↔ ∃ x, Rch 1 β mk tl st p x ∧ k ∈ brL (alwN 1 β mk x (mnt k)) 48 ∧ 0 < cW β mk (-1) tl n (n - (p + 1)) (nxB β x (k / 8 : Nat) (k % 8 : Nat)) := by
    rw [cW_reach (p := p) (by omega)]
    obtain ⟨r, hr⟩ : ∃ r, n - p = r + 1 := ⟨n - p - 1, by omega⟩
    have hr2 : n - (p + 1) = r := by omega
    have hp2 : n - (r + 1) = p := by omega
    rw [hr, hr2]
    have hcc : ∀ y, cW β mk (-1) (updT tl p (mnt k)) n r y = cW β mk (-1) tl n r y := by
      intro y
      apply cW_cong (by omega)
      intro j a b
      unfold updT
      rw [if_neg (fun z => by omega)]
    have hrc : ∀ y, Rch 1 β mk (updT tl p (mnt k)) st p y ↔ Rch 1 β mk tl st p y := by
      intro y
      apply Rch_cong
      intro j hj
      unfold updT
      rw [if_neg (fun z => by omega)]
    constructor
    · rintro ⟨x, hx, h⟩
      unfold cW at h
      rw [hp2, hup] at h
      obtain ⟨k2, hk2, h2⟩ := (lsum_nn (fun j _ => cW_nn r _)).2.mp h
      have : k2 = k := by
        have h3 := (brL_mem.mp hk2).2
        unfold alwN at h3
        rw [if_pos ⟨rfl, mnt_ne k⟩, tIdx_mnt hk, Nat.testBit_and, Nat.testBit_two_pow] at h3
        simp at h3
        omega
      subst this
      rw [hcc] at h2
      exact ⟨x, (hrc x).mp hx, hk2, h2⟩
    · rintro ⟨x, hx, hk2, h⟩
      refine ⟨x, (hrc x).mpr hx, ?_⟩
      unfold cW
      rw [hp2, hup]
      exact (lsum_nn (fun j _ => cW_nn r _)).2.mpr ⟨k, hk2, by rw [hcc]; exact h⟩
  unfold fitP cntV
  rw [hc]
  by_cases hz : tl p ≠ -1 ∧ tl p ≠ mnt k
  · rw [if_pos hz]
    constructor
    · rintro ⟨x, -, hx, -⟩
      exact absurd hz ((hal x).mp hx).1
    · intro h
      omega
  · rw [if_neg hz, key]
    constructor
    · rintro ⟨x, a, b, c⟩
      rw [Int.add_zero] at c
      exact ⟨x, a, ((hal x).mp b).2, (eW_cW _ _).mp c⟩
    · rintro ⟨x, a, b, c⟩
      exact ⟨x, a, (hal x).mpr ⟨hz, b⟩, by rw [Int.add_zero]; exact (eW_cW _ _).mpr c⟩
/-- all rows are told by what stands at the place -/
theorem cnt_sum {st : Int} {p : Nat} (hp : p < n) (hB : bkB β) (ht : toldOk β (tl p)) : sm (fun i => cntV β mk tl n st p (mnt i.toNat)) 48 = cW β mk (-1) tl n n st := by
  have hb2 := hB.2.2.1
  have hb3 := hB.2.2.2.1
  by_cases e : tl p = -1
  · have h := cW_sum (β := β) (mk := mk) (tone := -1) hp e p st (Nat.le_refl _)
    rw [Nat.sub_self, Nat.sub_zero] at h
    rw [← h]
    apply sm_cong
    intro i _ _
    show cntV β mk tl n st p (mnt i.toNat) = _
    unfold cntV
    rw [if_neg (fun z => z.1 e)]
  · obtain ⟨a, b, c⟩ := ht.resolve_left e
    obtain ⟨i, hi, hm, -, -⟩ := mnt_of a (by omega) (by omega)
    have h0 : ∀ j : Int, j ≠ i → cntV β mk tl n st p (mnt j.toNat) = 0 ∨ j < 0 := by
      intro j hj
      by_cases hj0 : j < 0
      · exact Or.inr hj0
      · left
        have hne : tl p ≠ mnt j.toNat := by
          intro z
          rw [← hm] at z
          unfold mnt at z
          omega
        unfold cntV
        rw [if_pos ⟨e, hne⟩]
    rw [sm_cong (g := fun j => if j = (i : Int) then cntV β mk tl n st p (mnt i) else 0) (fun j j0 j1 => by
      show cntV β mk tl n st p (mnt j.toNat) = if j = (i : Int) then _ else _
      by_cases hj : j = i
      · rw [if_pos hj, hj]
        rfl
      · rw [if_neg hj]
        rcases h0 j hj with h | h
        · exact h
        · omega), sm_upd (f := fun _ => 0) (j := i) (by omega) (fun j hj => by show (if j = (i : Int) then _ else _) = _; rw [if_neg hj]) (by omega), sm_z]
    show 0 + ((if (i : Int) = (i : Int) then cntV β mk tl n st p (mnt i) else 0) - 0) = _
    rw [if_pos rfl]
    unfold cntV
    rw [if_neg (fun z => z.2 hm.symm)]
    have : cW β mk (-1) (updT tl p (mnt i)) n n st = cW β mk (-1) tl n n st := by
      apply cW_cong (Nat.le_refl _)
      intro j a b
      unfold updT
      by_cases hj : (j : Int) = p
      · rw [if_pos ⟨hj, mnt_ne i⟩, hj, hm]
      · rw [if_neg (fun z => hj z.1)]
    rw [this]
    omega
end
