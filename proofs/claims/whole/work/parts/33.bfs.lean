/-! a search, the fewest steps first: what it finds -/
def Rn {α : Type} (sc : α → List (Nat × α)) (goal : α → Prop) : Nat → α → Prop
  | 0, x => goal x
  | n + 1, x => ∃ q ∈ sc x, Rn sc goal n q.2
/-- the way that is first, step by step -/
def Gr {α : Type} (sc : α → List (Nat × α)) (goal : α → Prop) : Nat → α → List Nat → Prop
  | 0, _, l => l = []
  | _ + 1, _, [] => False
  | n + 1, x, v :: l => ∃ pre y post, sc x = pre ++ (v, y) :: post ∧ Rn sc goal n y ∧ (∀ q ∈ pre, ¬ Rn sc goal n q.2) ∧ Gr sc goal n y l
theorem split_u {β : Type} {P : β → Prop} : ∀ {p1 p2 r1 r2 : List β} {x y : β}, p1 ++ x :: r1 = p2 ++ y :: r2 → (∀ q ∈ p1, ¬ P q) → (∀ q ∈ p2, ¬ P q) → P x → P y → p1 = p2 ∧ x = y
  | [], [], r1, r2, x, y, h, _, _, _, _ => ⟨rfl, by simp at h; exact h.1⟩
  | [], b :: p2, r1, r2, x, y, h, _, h2, hx, _ => by
    simp at h
    exact absurd hx (by rw [h.1]; exact h2 b (by simp))
  | a :: p1, [], r1, r2, x, y, h, h1, _, _, hy => by
    simp at h
    exact absurd hy (by rw [← h.1]; exact h1 a (by simp))
  | a :: p1, b :: p2, r1, r2, x, y, h, h1, h2, hx, hy => by
    simp at h
    have := split_u h.2 (fun q hq => h1 q (by simp [hq])) (fun q hq => h2 q (by simp [hq])) hx hy
    exact ⟨by rw [h.1, this.1], this.2⟩
theorem Gr.uni {α : Type} {sc : α → List (Nat × α)} {goal : α → Prop} : ∀ {n : Nat} {x : α} {l l2 : List Nat}, Gr sc goal n x l → Gr sc goal n x l2 → l = l2
  | 0, _, _, _, h, h2 => by
    unfold Gr at h h2
    rw [h, h2]
  | _ + 1, _, [], _, h, _ => h.elim
  | _ + 1, _, _ :: _, [], _, h2 => h2.elim
  | n + 1, x, v :: l, v2 :: l2, h, h2 => by
    obtain ⟨pre, y, post, e, r, np, g⟩ := h
    obtain ⟨pre2, y2, post2, e2, r2, np2, g2⟩ := h2
    have := split_u (P := fun q : Nat × α => Rn sc goal n q.2) (e.symm.trans e2) np np2 r r2
    cases this.2
    rw [Gr.uni g g2]
theorem Gr.len {α : Type} {sc : α → List (Nat × α)} {goal : α → Prop} : ∀ {n : Nat} {x : α} {l : List Nat}, Gr sc goal n x l → l.length = n
  | 0, _, _, h => by
    unfold Gr at h
    rw [h]
    rfl
  | _ + 1, _, [], h => h.elim
  | n + 1, _, _ :: _, ⟨_, _, _, _, _, _, g⟩ => by simp [g.len]
def BF {α : Type} (sc : α → List (Nat × α)) (s0 : α) (nd : Nat → α) (pr : Nat → Nat) (n i : Nat) (l : List (Nat × α)) : Prop :=
  (0 < n ∧ nd 0 = s0) ∧
  (∀ j k, j < n → k < n → nd j = nd k → j = k) ∧
  (∀ j, 0 < j → j < n → pr j < j ∧ ((pr j < i ∧ ∃ q ∈ sc (nd (pr j)), q.2 = nd j) ∨ (pr j = i ∧ ∃ q ∈ l, q.2 = nd j))) ∧
  (∀ j k, 0 < j → j ≤ k → k < n → pr j ≤ pr k) ∧
  (∀ k, k < i → ∀ q ∈ sc (nd k), ∃ j, j < n ∧ nd j = q.2 ∧ (j = 0 ∨ pr j ≤ k)) ∧
  (∀ q ∈ l, ∃ j, j < n ∧ nd j = q.2) ∧
  (∀ j k, 0 < j → j < k → k < n → pr j = pr k → pr j < i → ∀ pre q post, sc (nd (pr j)) = pre ++ q :: post → q.2 = nd k → ∃ q' ∈ pre, q'.2 = nd j) ∧
  (∀ j k, 0 < j → j < k → k < n → pr j = i → pr k = i → ∀ pre q post, l = pre ++ q :: post → q.2 = nd k → ∃ q' ∈ pre, q'.2 = nd j)
section
variable {α : Type} {sc : α → List (Nat × α)} {s0 : α} {nd nd' : Nat → α} {pr pr' : Nat → Nat} {n i : Nat} {l : List (Nat × α)}
theorem BF.one (h : nd 0 = s0) : BF sc s0 nd pr 1 0 [] := by
  refine ⟨⟨by omega, h⟩, fun j k h1 h2 _ => by omega, fun j h1 h2 => by omega, fun j k h1 h2 h3 => by omega, fun k h => by omega, fun q h => (by cases h), fun j k h1 h2 h3 => by omega, fun j k h1 h2 h3 => by omega⟩
theorem app_sing {β : Type} {l pre post : List β} {q0 q : β} (h : l ++ [q0] = pre ++ q :: post) : (∃ p2, l = pre ++ q :: p2) ∨ (pre = l ∧ q = q0) := by
  rcases List.eq_nil_or_concat post with e | ⟨p2, z, e⟩
  · subst e
    have := List.append_inj' h rfl
    exact Or.inr ⟨this.1.symm, by simpa using this.2.symm⟩
  · subst e
    rw [List.concat_eq_append] at h
    have h2 : l ++ [q0] = (pre ++ q :: p2) ++ [z] := by simpa using h
    exact Or.inl ⟨p2, (List.append_inj' h2 rfl).1⟩
/-- one that was there already -/
theorem BF.old (h : BF sc s0 nd pr n i l) {q0 : Nat × α} {j0 : Nat} (h1 : j0 < n) (h2 : nd j0 = q0.2) : BF sc s0 nd pr n i (l ++ [q0]) := by
  obtain ⟨a, b, c, d, e, f, g, k⟩ := h
  refine ⟨a, b, fun j p1 p2 => ?_, d, e, fun q hq => ?_, g, fun j k' p1 p2 p3 p4 p5 pre q post he hq => ?_⟩
  · obtain ⟨c1, c2⟩ := c j p1 p2
    refine ⟨c1, ?_⟩
    rcases c2 with c2 | ⟨c2, q, hq, hq2⟩
    · exact Or.inl c2
    · exact Or.inr ⟨c2, q, by simp [hq], hq2⟩
  · rcases List.mem_append.mp hq with hq | hq
    · exact f q hq
    · simp at hq
      subst hq
      exact ⟨j0, h1, h2⟩
  · rcases app_sing he with ⟨p2', e2⟩ | ⟨e2, e3⟩
    · exact k j k' p1 p2 p3 p4 p5 pre q p2' e2 hq
    · obtain ⟨c1, c2⟩ := c k' (by omega) p3
      rcases c2 with ⟨c2, -⟩ | ⟨-, q1, hq1, hq2⟩
      · omega
      · obtain ⟨x1, x2, e4⟩ := List.append_of_mem hq1
        obtain ⟨q', hq', hq3⟩ := k j k' p1 p2 p3 p4 p5 x1 q1 x2 e4 hq2
        refine ⟨q', ?_, hq3⟩
        rw [e2, e4]
        simp [hq']
/-- one that is new -/
theorem BF.new (h : BF sc s0 nd pr n i l) (hi : i < n) {q0 : Nat × α} (h1 : ∀ j, j < n → nd j ≠ q0.2) (hn : ∀ j, j < n → nd' j = nd j ∧ pr' j = pr j) (hx : nd' n = q0.2) (hp : pr' n = i) : BF sc s0 nd' pr' (n + 1) i (l ++ [q0]) := by
  obtain ⟨a, b, c, d, e, f, g, k⟩ := h
  have lt : ∀ j, 0 < j → j < n → pr j < n := fun j p1 p2 => by have := (c j p1 p2).1; omega
  have le : ∀ j, 0 < j → j < n → pr j ≤ i := fun j p1 p2 => by rcases (c j p1 p2).2 with ⟨h, -⟩ | ⟨h, -⟩ <;> omega
  refine ⟨⟨by omega, by rw [(hn 0 a.1).1]; exact a.2⟩, fun j k' p1 p2 p3 => ?_, fun j p1 p2 => ?_, fun j k' p1 p2 p3 => ?_, fun k' p1 q hq => ?_, fun q hq => ?_, fun j k' p1 p2 p3 p4 p5 pre q post he hq => ?_, fun j k' p1 p2 p3 p4 p5 pre q post he hq => ?_⟩
  · by_cases e1 : j = n
    · by_cases e2 : k' = n
      · omega
      · rw [e1, hx, (hn k' (by omega)).1] at p3
        exact absurd p3.symm (h1 k' (by omega))
    · by_cases e2 : k' = n
      · rw [e2, hx, (hn j (by omega)).1] at p3
        exact absurd p3 (h1 j (by omega))
      · rw [(hn j (by omega)).1, (hn k' (by omega)).1] at p3
        exact b j k' (by omega) (by omega) p3
  · by_cases e1 : j = n
    · subst e1
      rw [hp, hx]
      exact ⟨hi, Or.inr ⟨rfl, q0, by simp, rfl⟩⟩
    · obtain ⟨c1, c2⟩ := c j p1 (by omega)
      rw [(hn j (by omega)).1, (hn j (by omega)).2, (hn _ (lt j p1 (by omega))).1]
      refine ⟨c1, ?_⟩
      rcases c2 with c2 | ⟨c2, q, hq, hq2⟩
      · exact Or.inl c2
      · exact Or.inr ⟨c2, q, by simp [hq], hq2⟩
  · by_cases e1 : k' = n
    · subst e1
      by_cases e2 : j = k'
      · rw [e2]
        exact Nat.le_refl _
      · rw [hp, (hn j (by omega)).2]
        exact le j p1 (by omega)
    · rw [(hn j (by omega)).2, (hn k' (by omega)).2]
      exact d j k' p1 p2 (by omega)
  · rw [(hn k' (by omega)).1] at hq
    obtain ⟨j, j1, j2, j3⟩ := e k' p1 q hq
    exact ⟨j, by omega, by rw [(hn j j1).1]; exact j2, by rw [(hn j j1).2]; exact j3⟩
  · rcases List.mem_append.mp hq with hq | hq
    · obtain ⟨j, j1, j2⟩ := f q hq
      exact ⟨j, by omega, by rw [(hn j j1).1]; exact j2⟩
    · simp at hq
      subst hq
      exact ⟨n, by omega, hx⟩
  · by_cases e1 : k' = n
    · subst e1
      omega
    · rw [(hn j (by omega)).2, (hn k' (by omega)).2] at p4
      rw [(hn j (by omega)).2] at p5 he
      rw [(hn _ (lt j p1 (by omega))).1] at he
      rw [(hn k' (by omega)).1] at hq
      obtain ⟨q', h2, h3⟩ := g j k' p1 p2 (by omega) p4 p5 pre q post he hq
      exact ⟨q', h2, by rw [(hn j (by omega)).1]; exact h3⟩
  · rw [(hn j (by omega)).2] at p4
    have cj := (c j p1 (by omega)).2
    have inl : ∃ q ∈ l, q.2 = nd j := by
      rcases cj with ⟨h, -⟩ | ⟨-, h⟩
      · omega
      · exact h
    by_cases e1 : k' = n
    · subst e1
      rcases app_sing he with ⟨p2', e2⟩ | ⟨e2, e3⟩
      · obtain ⟨j', j1, j2⟩ := f q (by rw [e2]; simp)
        exact absurd (j2.trans (hq.trans hx)) (h1 j' j1)
      · obtain ⟨q', h2, h3⟩ := inl
        exact ⟨q', by rw [e2]; exact h2, by rw [(hn j (by omega)).1]; exact h3⟩
    · rw [(hn k' (by omega)).2] at p5
      rw [(hn k' (by omega)).1] at hq
      rw [(hn j (by omega)).1]
      rcases app_sing he with ⟨p2', e2⟩ | ⟨e2, e3⟩
      · exact k j k' p1 p2 (by omega) p4 p5 pre q p2' e2 hq
      · exact absurd (hq.symm.trans (by rw [e3])) (h1 k' (by omega))
/-- all that follow the i-th one are there -/
theorem BF.next (h : BF sc s0 nd pr n i (sc (nd i))) : BF sc s0 nd pr n (i + 1) [] := by
  obtain ⟨a, b, c, d, e, f, g, k⟩ := h
  have le : ∀ j, 0 < j → j < n → pr j ≤ i := fun j p1 p2 => by rcases (c j p1 p2).2 with ⟨h, -⟩ | ⟨h, -⟩ <;> omega
  refine ⟨a, b, fun j p1 p2 => ?_, d, fun k' p1 q hq => ?_, fun q hq => (by cases hq), fun j k' p1 p2 p3 p4 p5 pre q post he hq => ?_, fun j k' p1 p2 p3 p4 p5 pre q post he hq => ?_⟩
  · obtain ⟨c1, c2⟩ := c j p1 p2
    refine ⟨c1, Or.inl ?_⟩
    rcases c2 with ⟨c2, c3⟩ | ⟨c2, c3⟩
    · exact ⟨by omega, c3⟩
    · exact ⟨by omega, by rw [c2]; exact c3⟩
  · by_cases e1 : k' = i
    · subst e1
      obtain ⟨j, j1, j2⟩ := f q hq
      refine ⟨j, j1, j2, ?_⟩
      by_cases j0 : j = 0
      · exact Or.inl j0
      · exact Or.inr (le j (by omega) j1)
    · exact e k' (by omega) q hq
  · by_cases e1 : pr j = i
    · rw [e1] at he
      exact k j k' p1 p2 p3 e1 (by omega) pre q post he hq
    · exact g j k' p1 p2 p3 p4 (by omega) pre q post he hq
  · have := (congrArg List.length he)
    simp at this
end
/-- how many steps lead to the j-th -/
def dep (pr : Nat → Nat) (j : Nat) : Nat := if h : 0 < j ∧ pr j < j then dep pr (pr j) + 1 else 0
termination_by j
decreasing_by exact h.2
/-- the k-th ahead of the j-th -/
def upN (pr : Nat → Nat) : Nat → Nat → Nat
  | 0, j => j
  | k + 1, j => upN pr k (pr j)
def pth (pr : Nat → Nat) (lab : Nat → Nat) (j : Nat) : List Nat := if h : 0 < j ∧ pr j < j then pth pr lab (pr j) ++ [lab j] else []
termination_by j
decreasing_by exact h.2
theorem dep_0 (pr : Nat → Nat) : dep pr 0 = 0 := by rw [dep, dif_neg (by omega)]
theorem dep_s {pr : Nat → Nat} {j : Nat} (h : 0 < j) (h2 : pr j < j) : dep pr j = dep pr (pr j) + 1 := by rw [dep, dif_pos ⟨h, h2⟩]
theorem pth_0 (pr lab : Nat → Nat) : pth pr lab 0 = [] := by rw [pth, dif_neg (by omega)]
theorem pth_s {pr lab : Nat → Nat} {j : Nat} (h : 0 < j) (h2 : pr j < j) : pth pr lab j = pth pr lab (pr j) ++ [lab j] := by rw [pth, dif_pos ⟨h, h2⟩]
theorem pth_at {pr lab : Nat → Nat} {n : Nat} (hp : ∀ j, 0 < j → j < n → pr j < j) : ∀ j, j < n → (pth pr lab j).length = dep pr j ∧ ∀ i, i < dep pr j → (pth pr lab j)[i]? = some (lab (upN pr (dep pr j - 1 - i) j)) := by
  intro j
  induction j using Nat.strongRecOn with
  | ind j ih =>
    intro hjn
    by_cases h : 0 < j
    · have h2 := hp j h hjn
      obtain ⟨a, b⟩ := ih (pr j) h2 (by omega)
      rw [pth_s h h2, dep_s h h2]
      refine ⟨by simp [a], fun i hi => ?_⟩
      by_cases e : i < dep pr (pr j)
      · rw [List.getElem?_append_left (by omega), b i e]
        congr 2
        rw [show dep pr (pr j) + 1 - 1 - i = (dep pr (pr j) - 1 - i) + 1 by omega]
        rfl
      · have : i = dep pr (pr j) := by omega
        subst this
        rw [← a, List.getElem?_concat_length, show (pth pr lab (pr j)).length + 1 - 1 - (pth pr lab (pr j)).length = 0 by omega]
        rfl
    · have : j = 0 := by omega
      subst this
      rw [pth_0, dep_0]
      exact ⟨rfl, fun i hi => by omega⟩
section
variable {α : Type} {sc : α → List (Nat × α)} {goal : α → Prop} {s0 : α} {nd : Nat → α} {pr : Nat → Nat} {n f : Nat}
theorem BF.pl (h : BF sc s0 nd pr n f []) {j : Nat} (h0 : 0 < j) (h1 : j < n) : pr j < j ∧ pr j < f ∧ ∃ q ∈ sc (nd (pr j)), q.2 = nd j := by
  obtain ⟨c1, c2⟩ := h.2.2.1 j h0 h1
  rcases c2 with ⟨c2, c3⟩ | ⟨-, q, hq, -⟩
  · exact ⟨c1, c2, c3⟩
  · cases hq
theorem BF.mono (h : BF sc s0 nd pr n f []) : ∀ k, k < n → ∀ j, j ≤ k → dep pr j ≤ dep pr k := by
  intro k
  induction k using Nat.strongRecOn with
  | ind k ih =>
    intro hk j hj
    by_cases j0 : 0 < j
    · have p1 := h.pl j0 (by omega)
      have p2 := h.pl (show 0 < k by omega) hk
      rw [dep_s j0 p1.1, dep_s (by omega) p2.1]
      have := ih (pr k) p2.1 (by omega) (pr j) (h.2.2.2.1 j k j0 hj hk)
      omega
    · rw [show j = 0 by omega, dep_0]
      omega
theorem BF.up (h : BF sc s0 nd pr n f []) : ∀ j, j < n → ∀ m, Rn sc goal m (nd j) → Rn sc goal (m + dep pr j) s0 := by
  intro j
  induction j using Nat.strongRecOn with
  | ind j ih =>
    intro hj m hm
    by_cases j0 : 0 < j
    · have p1 := h.pl j0 hj
      obtain ⟨q, hq, hq2⟩ := p1.2.2
      have := ih (pr j) p1.1 (by omega) (m + 1) ⟨q, hq, by rw [hq2]; exact hm⟩
      rw [dep_s j0 p1.1, show m + (dep pr (pr j) + 1) = m + 1 + dep pr (pr j) by omega]
      exact this
    · have : j = 0 := by omega
      subst this
      rw [dep_0, ← h.1.2]
      exact hm
theorem BF.step (h : BF sc s0 nd pr n f []) {k : Nat} (hk : k < f) (hkn : k < n) {q : Nat × α} (hq : q ∈ sc (nd k)) : ∃ j, j < n ∧ nd j = q.2 ∧ (j = 0 ∨ pr j ≤ k) ∧ dep pr j ≤ dep pr k + 1 := by
  obtain ⟨j, j1, j2, j3⟩ := h.2.2.2.2.1 k hk q hq
  refine ⟨j, j1, j2, j3, ?_⟩
  rcases j3 with rfl | j3
  · rw [dep_0]
    omega
  · by_cases j0 : 0 < j
    · rw [dep_s j0 (h.pl j0 j1).1]
      have := h.mono k hkn (pr j) j3
      omega
    · rw [show j = 0 by omega, dep_0]
      omega
theorem BF.walk {e : Nat} (h : BF sc s0 nd pr n e []) (hfe : f ≤ e) (hn : ∀ j, j < f → ¬ goal (nd j)) (hfn : f < n) : ∀ m j, j < n → Rn sc goal m (nd j) → dep pr f ≤ dep pr j + m := by
  intro m
  induction m with
  | zero =>
    intro j hj hr
    have : f ≤ j := by
      apply Nat.le_of_not_lt
      intro h2
      exact hn j h2 hr
    exact h.mono j hj f this
  | succ m ih =>
    intro j hj hr
    by_cases hjf : j < f
    · obtain ⟨q, hq, hq2⟩ := hr
      obtain ⟨j', j1, j2, -, j4⟩ := h.step (show j < e by omega) hj hq
      have := ih j' j1 (by rw [j2]; exact hq2)
      omega
    · have := h.mono j hj f (by omega)
      omega
theorem BF.none (h : BF sc s0 nd pr n n []) (hn : ∀ j, j < n → ¬ goal (nd j)) : ∀ m, ¬ Rn sc goal m s0 := by
  have : ∀ m j, j < n → ¬ Rn sc goal m (nd j) := by
    intro m
    induction m with
    | zero => exact hn
    | succ m ih =>
      intro j hj ⟨q, hq, hq2⟩
      obtain ⟨j', j1, j2, -⟩ := h.step hj hj hq
      exact ih j' j1 (by rw [j2]; exact hq2)
  intro m
  have h0 := this m 0 h.1.1
  rw [h.1.2] at h0
  exact h0
/-- the least one of its depth from which as few steps as there are left lead to an end -/
def lst (sc : α → List (Nat × α)) (goal : α → Prop) (nd : Nat → α) (pr : Nat → Nat) (n f j : Nat) : Prop := dep pr j ≤ dep pr f ∧ Rn sc goal (dep pr f - dep pr j) (nd j) ∧ ∀ y, y < n → dep pr y = dep pr j → Rn sc goal (dep pr f - dep pr j) (nd y) → j ≤ y
theorem BF.good (h : BF sc s0 nd pr n f []) (hn : ∀ j, j < f → ¬ goal (nd j)) (hfn : f < n) {y : Nat} (hy : y < n) {m : Nat} (hd : dep pr y + (m + 1) = dep pr f) {q : Nat × α} (hq : q ∈ sc (nd y)) (hr : Rn sc goal m q.2) : ∃ j, 0 < j ∧ j < n ∧ nd j = q.2 ∧ pr j ≤ y ∧ dep pr j = dep pr y + 1 := by
  have hyf : y < f := by
    apply Nat.lt_of_not_le
    intro h2
    have := h.mono y hy f h2
    omega
  obtain ⟨j, j1, j2, j3, j4⟩ := h.step hyf hy hq
  have h5 := h.walk (Nat.le_refl _) hn hfn m j j1 (by rw [j2]; exact hr)
  have h6 : dep pr j = dep pr y + 1 := by omega
  have h7 : 0 < j := by
    apply Nat.pos_of_ne_zero
    intro h0
    rw [h0, dep_0] at h6
    omega
  refine ⟨j, h7, j1, j2, ?_, h6⟩
  rcases j3 with j3 | j3
  · omega
  · exact j3
theorem BF.lstp (h : BF sc s0 nd pr n f []) (hn : ∀ j, j < f → ¬ goal (nd j)) (hfn : f < n) {j : Nat} (h0 : 0 < j) (h1 : j < n) (hl : lst sc goal nd pr n f j) : lst sc goal nd pr n f (pr j) := by
  have p := h.pl h0 h1
  have hd := dep_s h0 p.1
  obtain ⟨a, b, c⟩ := hl
  refine ⟨by omega, ?_, ?_⟩
  · rw [show dep pr f - dep pr (pr j) = (dep pr f - dep pr j) + 1 by omega]
    obtain ⟨q, hq, hq2⟩ := p.2.2
    exact ⟨q, hq, by rw [hq2]; exact b⟩
  · intro y y1 y2 y3
    rw [show dep pr f - dep pr (pr j) = (dep pr f - dep pr j) + 1 by omega] at y3
    obtain ⟨q, hq, hq2⟩ := y3
    obtain ⟨j', j0, j1, j2, j3, j4⟩ := h.good hn hfn y1 (by omega) hq hq2
    have := c j' j1 (by omega) (by rw [j2]; exact hq2)
    have := h.2.2.2.1 j j' h0 this j1
    omega
theorem BF.first (h : BF sc s0 nd pr n f []) (hn : ∀ j, j < f → ¬ goal (nd j)) (hfn : f < n) {j : Nat} (h0 : 0 < j) (h1 : j < n) (hl : lst sc goal nd pr n f j) {pre post : List (Nat × α)} {v : Nat} (he : sc (nd (pr j)) = pre ++ (v, nd j) :: post) (hv : ∀ q ∈ pre, q.2 ≠ nd j) : ∀ q ∈ pre, ¬ Rn sc goal (dep pr f - dep pr j) q.2 := by
  intro q hq hr
  have p := h.pl h0 h1
  have hd := dep_s h0 p.1
  obtain ⟨a, b, c⟩ := hl
  have hq' : q ∈ sc (nd (pr j)) := by rw [he]; simp [hq]
  obtain ⟨j', j0, j1, j2, j3, j4⟩ := h.good hn hfn (y := pr j) (by omega) (by omega) hq' hr
  have h5 := c j' j1 (by omega) (by rw [j2]; exact hr)
  have h6 := h.2.2.2.1 j j' h0 h5 j1
  have h7 : pr j = pr j' := by omega
  have h8 : j ≠ j' := by
    intro e
    rw [← e] at j2
    exact hv q hq j2.symm
  obtain ⟨x1, x2, e4⟩ := List.append_of_mem hq
  obtain ⟨q', h9, h10⟩ := h.2.2.2.2.2.2.1 j j' h0 (by omega) j1 h7 p.2.1 x1 q (x2 ++ (v, nd j) :: post) (by rw [he, e4]; simp) j2.symm
  exact hv q' (by rw [e4]; simp [h9]) h10
theorem BF.way (h : BF sc s0 nd pr n f []) (hn : ∀ j, j < f → ¬ goal (nd j)) (hfn : f < n) (hg : goal (nd f)) {lab : Nat → Nat} (hlab : ∀ j, 0 < j → j < n → ∃ pre post, sc (nd (pr j)) = pre ++ (lab j, nd j) :: post ∧ ∀ q ∈ pre, q.2 ≠ nd j) : Gr sc goal (dep pr f) s0 (pth pr lab f) ∧ Rn sc goal (dep pr f) s0 ∧ ∀ m, m < dep pr f → ¬ Rn sc goal m s0 := by
  have key : ∀ j, j < n → lst sc goal nd pr n f j → ∀ L, Gr sc goal (dep pr f - dep pr j) (nd j) L → Gr sc goal (dep pr f) s0 (pth pr lab j ++ L) := by
    intro j
    induction j using Nat.strongRecOn with
    | ind j ih =>
      intro hj hl L hL
      by_cases h0 : 0 < j
      · have p := h.pl h0 hj
        have hd := dep_s h0 p.1
        have hl2 := hl
        obtain ⟨a, b, c⟩ := hl2
        obtain ⟨pre, post, he, hv⟩ := hlab j h0 hj
        rw [pth_s h0 p.1, List.append_assoc]
        refine ih (pr j) p.1 (by omega) (h.lstp hn hfn h0 hj hl) _ ?_
        rw [show dep pr f - dep pr (pr j) = (dep pr f - dep pr j) + 1 by omega]
        exact ⟨pre, nd j, post, he, b, h.first hn hfn h0 hj hl he hv, hL⟩
      · have : j = 0 := by omega
        subst this
        rw [dep_0, h.1.2] at hL
        rw [pth_0]
        exact hL
  refine ⟨?_, ?_, ?_⟩
  · have := key f hfn ⟨Nat.le_refl _, by rw [Nat.sub_self]; exact hg, fun y y1 _ y3 => ?_⟩ [] (by rw [Nat.sub_self]; rfl)
    · rw [List.append_nil] at this
      exact this
    · rw [Nat.sub_self] at y3
      apply Nat.le_of_not_lt
      intro h2
      exact hn y h2 y3
  · have := h.up (goal := goal) f hfn 0 hg
    rw [Nat.zero_add] at this
    exact this
  · intro m hm hr
    have := h.walk (Nat.le_refl _) hn hfn m 0 h.1.1 (by rw [h.1.2]; exact hr)
    rw [dep_0] at this
    omega
end
