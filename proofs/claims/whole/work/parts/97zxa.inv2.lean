/-! how the invariant goes on behind deeds, trays, images -/
section
variable {sh : mbSh} {ct c : mbCt} {b o : Int} {β γ : Bk} {s s2 : Sit} {n n2 : Int} {pl pl2 : Int → Sit} {q : Int} {N : Nat} {V W : Int} {hi hi2 : Int → Int} {bi bi2 : Int → Bk} {si si2 : Int → Sit} {sz bt sz2 bt2 : Int → Int} {vl vl2 : Int → Int → Int} {tn tn2 : Int}
theorem INC.t (h : INC sh ct b o β s n pl q N V hi bi si sz bt vl tn) (L : LK c) (e : trG ct c) (T : TC c sz2 bt2 vl2) : INC sh c b o β s n pl q N V hi bi si sz2 bt2 vl2 tn ∧ clF ct c ∧ (c 1 = ct 1 ∧ c 64 = ct 64) := by
  have hbo := h.bo
  obtain ⟨C, -, I, ⟨t1, t2, t3⟩, ⟨-, h3⟩, z1, z2, z3⟩ := h
  exact ⟨⟨C.mid L (by omega) (fun x hx => e x (by omega)), T, I.cg (fun x a b => e x (by omega)), ⟨by rw [e 0 (by decide)]; exact t1, t2, by rw [e 1 (by decide)]; exact t3⟩, ⟨hbo, by rw [e 0 (by decide)]; exact h3⟩, z1.cg (e _ (by omega)), z2.cg (e _ (by omega)), z3.cg (e _ (by omega))⟩, fun x a b => e x (by omega), e 1 (by decide), e 64 (by decide)⟩
theorem INC.ls (h : INC sh ct b o β s n pl q N V hi bi si sz bt vl tn) (X : CX sh c b β s q N W) (e : lsF ct c) (T : TC c sz2 bt2 vl2) : INC sh c b o β s n pl q N W hi bi si sz2 bt2 vl2 tn ∧ clF ct c ∧ (c 1 = ct 1 ∧ c 64 = ct 64) := by
  have hbo := h.bo
  obtain ⟨⟨-, P⟩, -, I, ⟨t1, t2, t3⟩, ⟨-, h3⟩, z1, z2, z3⟩ := h
  have e' : ∀ x : Int, x < 68 → (x < 39 ∨ 46 < x) → c x = ct x := fun x hx h => e x (by omega) (by simp [KF]; omega) h
  exact ⟨⟨⟨X, P.cg (fun x a b => e' x (by omega) (by omega))⟩, T, I.cg (fun x a b => e' x (by omega) (by omega)), ⟨by rw [e' 0 (by decide) (by decide)]; exact t1, t2, by rw [e' 1 (by decide) (by decide)]; exact t3⟩, ⟨hbo, by rw [e' 0 (by decide) (by decide)]; exact h3⟩, z1.cg (e' _ (by omega) (by omega)), z2.cg (e' _ (by omega) (by omega)), z3.cg (e' _ (by omega) (by omega))⟩, fun x a b => e x b (by simp [KF]; omega) (by omega), e' 1 (by decide) (by decide), e' 64 (by decide) (by decide)⟩
theorem INC.i (h : INC sh ct b o β s n pl q N V hi bi si sz bt vl tn) (L : LK c) (e : iG ct c) (I : IC c hi2 bi2 si2) : INC sh c b o β s n pl q N V hi2 bi2 si2 sz bt vl tn ∧ clF ct c ∧ (c 1 = ct 1) := by
  have hbo := h.bo
  obtain ⟨C, T, -, ⟨t1, t2, t3⟩, ⟨-, h3⟩, z1, z2, z3⟩ := h
  exact ⟨⟨C.mid L (by omega) (fun x hx => e x (by omega)), TC.cg ct T (fun x a b => e x (by omega)), I, ⟨by rw [e 0 (by decide)]; exact t1, t2, by rw [e 1 (by decide)]; exact t3⟩, ⟨hbo, by rw [e 0 (by decide)]; exact h3⟩, z1.cg (e _ (by omega)), z2.cg (e _ (by omega)), z3.cg (e _ (by omega))⟩, fun x a b => e x (by omega), e 1 (by decide)⟩
theorem INM.t (h : INM ct β s n pl hi bi si sz bt vl tn) (T : MT c sz2 bt2 vl2) (e : rF ct c) : INM c β s n pl hi bi si sz2 bt2 vl2 tn := by
  have L : LK c := by
    intro x k v hv
    by_cases hx : x = 92
    · subst hx
      by_cases hk : k = 0
      · subst hk; cases hv
      · rw [e.2 k hk]; exact h.L _ _ _ hv
    · by_cases h2 : x ∈ ([97, 98, 100, 101, 102, 103, 111, 112, 113] : List Int)
      · simp only [List.mem_cons, List.not_mem_nil, or_false] at h2
        rcases h2 with h2 | h2 | h2 | h2 | h2 | h2 | h2 | h2 | h2 <;> (rw [h2, lkF_none rfl k] at hv; cases hv)
      · rw [e.1 x (by simp at h2 ⊢; omega)]
        exact h.L _ _ _ hv
  exact ⟨h.1.eq L (e.1 93 (by decide)), T, h.2.2.1.eq (fun j _ => by rw [e.1 93 (by decide)]) (e.1 94 (by decide)), by rw [e.2 5 (by decide)]; exact h.2.2.2⟩
theorem INM.i (h : INM ct β s n pl hi bi si sz bt vl tn) (M : MP c γ s2 n2 pl2) (I : MI c hi2 bi2 si2) (e : eqBut [92, 93, 94] ct c) (e2 : ∀ k, k ≠ 0 → c 92 k = ct 92 k) : INM c γ s2 n2 pl2 hi2 bi2 si2 sz bt vl tn := ⟨M, h.2.1.eq (e 111 (by decide)) (e 112 (by decide)) (e 113 (by decide)), I, by rw [e2 5 (by decide)]; exact h.2.2.2⟩
theorem JO.i (h : JO ct tn) (e : eqBut [92, 93, 94] ct c) (e2 : ∀ k, k ≠ 0 → c 92 k = ct 92 k) : JO c tn := h.r (fun x hx => e x (by simp; omega)) (e 95 (by decide)) (e2 13 (by decide)) (e2 14 (by decide))
theorem eq3.rf' (e : eqBut [92, 93, 94] ct c) : rfF ct c := fun x hx => e x (by simp; omega)
theorem MP.ev (h : MP ct β s n pl) (e : bkE γ β) : MP ct γ s n pl := ⟨⟨h.1.1, h.1.2.1.ev e, h.1.2.2⟩, h.2⟩
theorem MT.bts {t : Int} (h : MT ct sz bt vl) (ht : isTr t) (hs : sz t ≠ -1) : bt t = 8 ∨ bt t = 16 ∨ bt t = 32 ∨ bt t = 64 := by
  rcases h t ht.1 (by have := ht.2; omega) with ⟨a, -⟩ | ⟨-, -, ⟨a, b, c⟩, -⟩
  · exact absurd a hs
  · have hk : ct 111 t = 0 ∨ ct 111 t = 1 ∨ ct 111 t = 2 ∨ ct 111 t = 3 := by omega
    rcases hk with hk | hk | hk | hk <;> rw [hk] at c
    · exact Or.inl c
    · exact Or.inr (Or.inl c)
    · exact Or.inr (Or.inr (Or.inl c))
    · exact Or.inr (Or.inr (Or.inr c))
end
