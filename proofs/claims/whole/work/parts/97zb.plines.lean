/-! the lines of a book as they are read: functions of the tokens, and what is known of them -/
abbrev BS : Type := (Int → Int) × (Int → Int) × (Int → Int) × (Int → Int)
def upP (f : Int → Int) (k v : Int) : Int → Int := fun j => if j = k then v else f j
theorem upP_eq {f : Int → Int} {k v : Int} : upP f k v k = v := if_pos rfl
theorem upP_ne {f : Int → Int} {k v j : Int} (h : j ≠ k) : upP f k v j = f j := if_neg h
def mkL (T : Int) (K Pl : Int → Int) (m : Int) : Nat → PS × (Int → Int) → PS × (Int → Int)
  | 0, a => a
  | n + 1, a => if tkP K a.1 = 132 then mkL T K Pl m n ((numP T K Pl 9 (stepP T a.1)).2, upP a.2 m (numP T K Pl 9 (stepP T a.1)).1) else a
def syT (t s v : Int) (f : Int → Int) : Int → Int := if t = 134 then upP f s v else if t = 135 then upP f s (-v) else f
def syH (t s v : Int) (f : Int → Int) : Int → Int := if t = 136 then upP f s v else if t = 137 then upP f s (-v) else f
def syL (T : Int) (K Pl : Int → Int) (s : Int) : Nat → PS × (Int → Int) × (Int → Int) → PS × (Int → Int) × (Int → Int)
  | 0, a => a
  | n + 1, a => if 134 ≤ tkP K a.1 ∧ tkP K a.1 ≤ 137 then syL T K Pl s n ((numP T K Pl 9 (stepP T a.1)).2, syT (tkP K a.1) s (numP T K Pl 9 (stepP T a.1)).1 a.2.1, syH (tkP K a.1) s (numP T K Pl 9 (stepP T a.1)).1 a.2.2) else a
def lawP (T : Int) (K Pl : Int → Int) (om : Bool) (σ : PS) : PS := truthP T K (unitP T K Pl om 6) (takeP T K Pl 58 (stepP T σ))
def lenP (σ : PS) : Int := (σ.2.2.2.length : Nat)
def lineB (T : Int) (K Pl : Int → Int) (a : PS × BS) : PS × BS :=
  if tkP K a.1 = 131 then (if 6 ≤ a.2.1 2 then (failP K Pl 4 a.1, a.2) else ((mkL T K Pl (a.2.1 2) T.toNat (stepP T a.1, a.2.2.1)).1, upP a.2.1 2 (a.2.1 2 + 1), (mkL T K Pl (a.2.1 2) T.toNat (stepP T a.1, a.2.2.1)).2, a.2.2.2))
  else if tkP K a.1 = 133 then (if 8 ≤ a.2.1 3 then (failP K Pl 4 a.1, a.2) else ((syL T K Pl (a.2.1 3) T.toNat (stepP T a.1, a.2.2.2)).1, upP a.2.1 3 (a.2.1 3 + 1), a.2.2.1, (syL T K Pl (a.2.1 3) T.toNat (stepP T a.1, a.2.2.2)).2))
  else if tkP K a.1 = 138 then (lawP T K Pl true a.1, upP (upP a.2.1 7 (lenP a.1)) 8 (lenP (lawP T K Pl true a.1)), a.2.2)
  else if tkP K a.1 = 139 then (lawP T K Pl false a.1, upP (upP a.2.1 9 (lenP a.1)) 10 (lenP (lawP T K Pl false a.1)), a.2.2)
  else if tkP K a.1 = 140 then ((numP T K Pl 10 (stepP T a.1)).2, upP a.2.1 4 (numP T K Pl 10 (stepP T a.1)).1, a.2.2)
  else (failP K Pl 2 a.1, a.2)
def lnEnd (T : Int) (K Pl : Int → Int) (a : PS × BS) : PS × BS := (takeP T K Pl 59 a.1, upP a.2.1 5 (a.2.1 5 + 1), a.2.2)
def linesP (T : Int) (K Pl : Int → Int) : Nat → PS × BS → PS × BS
  | 0, a => a
  | n + 1, a => if tkP K a.1 = 201 ∨ tkP K a.1 = 203 then a else linesP T K Pl n (lnEnd T K Pl (lineB T K Pl a))
def tonP (T : Int) (K Pl : Int → Int) : Int × PS := numP T K Pl 9 (takeP T K Pl 129 (takeP T K Pl 128 (0, 0, 0, [])))
def heaP (T : Int) (K Pl : Int → Int) : Int × PS := numP T K Pl 9 (takeP T K Pl 130 (tonP T K Pl).2)
def firstP (T : Int) (K Pl : Int → Int) : PS × BS := lnEnd T K Pl ((heaP T K Pl).2, upP (upP (fun _ => 0) 0 (tonP T K Pl).1) 1 (heaP T K Pl).1, (fun _ => 0), (fun _ => 0), (fun _ => 0))
def textP (T : Int) (K Pl : Int → Int) : PS × BS := linesP T K Pl T.toNat (firstP T K Pl)
section
variable {T : Int} {K Pl : Int → Int} {σ τ υ : PS} {om : Bool}
/-- read on, and no code laid down -/
def NC (T : Int) (σ τ : PS) : Prop := gd T τ ∧ σ.1 ≤ τ.1 ∧ (¬ σ.2.1 = 0 → τ = σ) ∧ (τ.2.1 = 0 → τ.2 = σ.2)
theorem NC.rf (h : gd T σ) : NC T σ σ := ⟨h, Int.le_refl _, fun _ => rfl, fun _ => rfl⟩
theorem NC.tr (h : NC T σ τ) (h2 : NC T τ υ) : NC T σ υ := by
  refine ⟨h2.1, Int.le_trans h.2.1 h2.2.1, fun z => ?_, fun z => ?_⟩
  · have e := h.2.2.1 z
    have := h2.2.2.1 (by rw [e]; exact z)
    rw [this, e]
  · have e := h2.2.2.2 z
    rw [e]
    refine h.2.2.2 ?_
    rw [← e]
    exact z
theorem NC.w (h : NC T σ τ) (z : τ.2.1 = 0) : σ.2.1 = 0 := by rw [← h.2.2.2 z]; exact z
theorem stepNC (h : gd T σ) : NC T σ (stepP T σ) := ⟨(stepP_gd h).1, (stepP_gd h).2.1, fun z => stepP_stop z, fun _ => (stepP_gd h).2.2⟩
theorem failNC {k : Int} (hk : 1 ≤ k ∧ k ≤ 4) (h : gd T σ) : NC T σ (failP K Pl k σ) := ⟨(failP_gd hk h).1, by have := (failP_gd (K := K) (Pl := Pl) hk h).2; omega, fun z => failP_stop z, fun z => absurd z (failP_w hk)⟩
theorem takeNC {x : Int} (h : gd T σ) : NC T σ (takeP T K Pl x σ) := ⟨(takeP_gd h).1, (takeP_gd h).2.1, fun z => takeP_stop z, (takeP_gd h).2.2⟩
theorem takeP_tk {x : Int} (hz : (takeP T K Pl x σ).2.1 = 0) : tkP K σ = x := by
  unfold takeP at hz
  split at hz
  · assumption
  · exact absurd hz (failP_w (by decide))
theorem numNC {most : Int} (h : gd T σ) : NC T σ (numP T K Pl most σ).2 ∧ ((numP T K Pl most σ).2.2.1 = 0 → 0 ≤ (numP T K Pl most σ).1 ∧ (numP T K Pl most σ).1 ≤ most ∧ 1000 ≤ tkP K σ ∧ (numP T K Pl most σ).2 = stepP T σ ∧ (numP T K Pl most σ).1 = tkP K σ - 1000) := by
  unfold numP
  split
  · exact ⟨failNC (by decide) h, fun z => absurd z (failP_w (by decide))⟩
  · split
    · exact ⟨failNC (by decide) h, fun z => absurd z (failP_w (by decide))⟩
    · refine ⟨stepNC h, fun _ => ?_⟩
      dsimp only
      exact ⟨by omega, by omega, by omega, rfl, rfl⟩
theorem mkNC {m : Int} : ∀ (n : Nat) (a : PS × (Int → Int)), gd T a.1 → NC T a.1 (mkL T K Pl m n a).1 ∧ ((mkL T K Pl m n a).1.2.1 = 0 → (∀ j, 0 ≤ a.2 j ∧ a.2 j ≤ 9) → ∀ j, 0 ≤ (mkL T K Pl m n a).2 j ∧ (mkL T K Pl m n a).2 j ≤ 9)
  | 0, a, h => ⟨NC.rf h, fun _ hb => hb⟩
  | n + 1, a, h => by
    show NC T a.1 (if tkP K a.1 = 132 then _ else a).1 ∧ ((if tkP K a.1 = 132 then _ else a : PS × (Int → Int)).1.2.1 = 0 → _ → ∀ j, 0 ≤ (if tkP K a.1 = 132 then _ else a : PS × (Int → Int)).2 j ∧ (if tkP K a.1 = 132 then _ else a : PS × (Int → Int)).2 j ≤ 9)
    by_cases ht : tkP K a.1 = 132
    · simp only [if_pos ht]
      have h1 := stepNC h
      obtain ⟨h2, h3⟩ := numNC (K := K) (Pl := Pl) (most := 9) h1.1
      obtain ⟨h4, h5⟩ := mkNC n ((numP T K Pl 9 (stepP T a.1)).2, upP a.2 m (numP T K Pl 9 (stepP T a.1)).1) h2.1
      refine ⟨(h1.tr h2).tr h4, fun z hb => h5 z (fun j => ?_)⟩
      have := h3 (h4.w z)
      dsimp only
      by_cases hj : j = m
      · rw [hj, upP_eq]; omega
      · rw [upP_ne hj]; exact hb j
    · simp only [if_neg ht]
      exact ⟨NC.rf h, fun _ hb => hb⟩
theorem syNC {s : Int} : ∀ (n : Nat) (a : PS × (Int → Int) × (Int → Int)), gd T a.1 → NC T a.1 (syL T K Pl s n a).1 ∧ ((syL T K Pl s n a).1.2.1 = 0 → (∀ j, (-9 ≤ a.2.1 j ∧ a.2.1 j ≤ 9) ∧ (-9 ≤ a.2.2 j ∧ a.2.2 j ≤ 9)) → ∀ j, (-9 ≤ (syL T K Pl s n a).2.1 j ∧ (syL T K Pl s n a).2.1 j ≤ 9) ∧ (-9 ≤ (syL T K Pl s n a).2.2 j ∧ (syL T K Pl s n a).2.2 j ≤ 9))
  | 0, a, h => ⟨NC.rf h, fun _ hb => hb⟩
  | n + 1, a, h => by
    unfold syL
    by_cases ht : 134 ≤ tkP K a.1 ∧ tkP K a.1 ≤ 137
    · simp only [if_pos ht]
      have h1 := stepNC h
      obtain ⟨h2, h3⟩ := numNC (K := K) (Pl := Pl) (most := 9) h1.1
      obtain ⟨h4, h5⟩ := syNC n ((numP T K Pl 9 (stepP T a.1)).2, syT (tkP K a.1) s (numP T K Pl 9 (stepP T a.1)).1 a.2.1, syH (tkP K a.1) s (numP T K Pl 9 (stepP T a.1)).1 a.2.2) h2.1
      refine ⟨(h1.tr h2).tr h4, fun z hb => h5 z (fun j => ?_)⟩
      have h6 := h3 (h4.w z)
      have hbj := hb j
      dsimp only
      constructor
      · unfold syT upP
        split
        · dsimp only; split <;> omega
        · split
          · dsimp only; split <;> omega
          · exact hbj.1
      · unfold syH upP
        split
        · dsimp only; split <;> omega
        · split
          · dsimp only; split <;> omega
          · exact hbj.2
    · simp only [if_neg ht]
      exact ⟨NC.rf h, fun _ hb => hb⟩
theorem mkL_ne {m : Int} : ∀ (n : Nat) (a : PS × (Int → Int)) (j : Int), j ≠ m → (mkL T K Pl m n a).2 j = a.2 j
  | 0, a, j, _ => rfl
  | n + 1, a, j, hj => by
    unfold mkL
    split
    · rw [mkL_ne n _ j hj]
      dsimp only
      exact upP_ne hj
    · rfl
/-- the law l stands in the codes from a on, ahead of z -/
def lawS (cs : List Int) (a z : Int) (l : List Int) : Prop := 0 ≤ a ∧ z = a + (l.length : Nat) ∧ z ≤ (cs.length : Nat) ∧ ∀ k : Nat, k < l.length → cs.getD (a.toNat + k) 0 = l.getD k 0
theorem lawS.app {cs l m : List Int} {a z : Int} (h : lawS cs a z l) : lawS (cs ++ m) a z l := by
  obtain ⟨h1, h2, h3, h4⟩ := h
  refine ⟨h1, h2, by rw [List.length_append]; omega, fun k hk => ?_⟩
  rw [← h4 k hk, List.getD_eq_getElem?_getD, List.getD_eq_getElem?_getD, List.getElem?_append_left (by omega)]
theorem lawS.new {cs l : List Int} : lawS (cs ++ l) (cs.length : Nat) ((cs ++ l).length : Nat) l := by
  refine ⟨by omega, by rw [List.length_append]; omega, Int.le_refl _, fun k hk => ?_⟩
  rw [Int.toNat_natCast, List.getD_eq_getElem?_getD, List.getD_eq_getElem?_getD, List.getElem?_append_right (by omega), show cs.length + k - cs.length = k by omega]
/-- a book that was read without fault -/
def bkRd (a : PS × BS) : Prop := ((0 ≤ a.2.1 0 ∧ a.2.1 0 ≤ 9) ∧ (0 ≤ a.2.1 1 ∧ a.2.1 1 ≤ 9) ∧ (0 ≤ a.2.1 2 ∧ a.2.1 2 ≤ 6) ∧ (0 ≤ a.2.1 3 ∧ a.2.1 3 ≤ 8) ∧ (0 ≤ a.2.1 4 ∧ a.2.1 4 ≤ 10) ∧ (0 ≤ a.2.1 5 ∧ a.2.1 5 ≤ a.1.1)) ∧ ((∀ m, 0 ≤ a.2.2.1 m ∧ a.2.2.1 m ≤ 9) ∧ ∀ m, ¬ (0 ≤ m ∧ m < a.2.1 2) → a.2.2.1 m = 0) ∧ (∀ s, (-9 ≤ a.2.2.2.1 s ∧ a.2.2.2.1 s ≤ 9) ∧ (-9 ≤ a.2.2.2.2 s ∧ a.2.2.2.2 s ≤ 9)) ∧ ∃ lw lc, lawS a.1.2.2.2 (a.2.1 7) (a.2.1 8) lw ∧ lawS a.1.2.2.2 (a.2.1 9) (a.2.1 10) lc ∧ lawOk lw ∧ lawOk lc ∧ ∀ op ∈ lc, ¬ (-6 ≤ op ∧ op ≤ -4)
def bkRi (T : Int) (a : PS × BS) : Prop := gd T a.1 ∧ (a.1.2.1 = 0 → bkRd a)
theorem lawQ (hk : kd T K) (hb : ∀ i, 0 ≤ i → i < T → K i < 2000) (h : gd T σ) : QQ T om True 18 σ (lawP T K Pl om σ) := by
  have h1 := (stepNC h).tr (takeNC (K := K) (Pl := Pl) (x := 58) (stepNC h).1)
  obtain ⟨a1, a2, a3, a4⟩ := ((truthQ hk (unitQ hk hb 6)).mono (nd2 := 18) (by omega)) _ h1.1
  unfold lawP
  refine ⟨a1, Int.le_trans h1.2.1 a2, fun z => ?_, fun z => ?_⟩
  · have e := h1.2.2.1 z
    rw [e] at a3 ⊢
    exact a3 z
  · obtain ⟨b0, l, b1, b2, b3, b4⟩ := a4 z
    have e := h1.2.2.2 b0
    rw [e] at b0 b1
    exact ⟨b0, l, b1, by have := h1.2.1; omega, b3, b4⟩
/-- what a line does: it reads on; a fault stays -/
theorem lineQ (hk : kd T K) (hb : ∀ i, 0 ≤ i → i < T → K i < 2000) {a : PS × BS} (h : bkRi T a) : bkRi T (lineB T K Pl a) ∧ a.1.1 ≤ (lineB T K Pl a).1.1 ∧ (¬ a.1.2.1 = 0 → (lineB T K Pl a).1 = a.1) ∧ ((lineB T K Pl a).1.2.1 = 0 → a.1.2.1 = 0) := by
  obtain ⟨hg, hF⟩ := h
  have law : ∀ om : Bool, gd T (lawP T K Pl om a.1) ∧ a.1.1 ≤ (lawP T K Pl om a.1).1 ∧ (¬ a.1.2.1 = 0 → lawP T K Pl om a.1 = a.1) ∧ ((lawP T K Pl om a.1).2.1 = 0 → a.1.2.1 = 0 ∧ ∃ l, (lawP T K Pl om a.1).2.2.2 = a.1.2.2.2 ++ l ∧ lawOk l ∧ (¬ om = true → ∀ op ∈ l, ¬ (-6 ≤ op ∧ op ≤ -4))) := by
    intro om
    obtain ⟨a1, a2, a3, a4⟩ := lawQ (Pl := Pl) (om := om) hk hb hg
    refine ⟨a1, a2, a3, fun z => ?_⟩
    obtain ⟨b0, l, b1, b2, b3, b4⟩ := a4 z
    exact ⟨b0, l, b1, Or.inr (b4 [] (by decide)), b3⟩
  unfold lineB
  by_cases t1 : tkP K a.1 = 131
  · rw [if_pos t1]
    by_cases m6 : 6 ≤ a.2.1 2
    · rw [if_pos m6]
      have := failNC (K := K) (Pl := Pl) (k := 4) (by decide) hg
      exact ⟨⟨this.1, fun z => absurd z (failP_w (by decide))⟩, this.2.1, this.2.2.1, this.w⟩
    · rw [if_neg m6]
      have h1 := stepNC hg
      obtain ⟨h2, h3⟩ := mkNC (K := K) (Pl := Pl) (m := a.2.1 2) T.toNat (stepP T a.1, a.2.2.1) h1.1
      have h4 := h1.tr h2
      refine ⟨⟨h4.1, fun z => ?_⟩, h4.2.1, h4.2.2.1, h4.w⟩
      obtain ⟨⟨f0, f1, f2, f3, f4, f5⟩, fm, fs, lw, lc, g1, g2, g3, g4, g5⟩ := hF (h4.w z)
      have e := h4.2.2.2 z
      refine ⟨⟨?_, ?_, ?_, ?_, ?_, ?_⟩, ⟨h3 z fm.1, fun m hm => ?_⟩, fs, lw, lc, ?_, ?_, g3, g4, g5⟩
      · dsimp only; rw [upP_ne (by decide)]; exact f0
      · dsimp only; rw [upP_ne (by decide)]; exact f1
      · dsimp only; rw [upP_eq]; omega
      · dsimp only; rw [upP_ne (by decide)]; exact f3
      · dsimp only; rw [upP_ne (by decide)]; exact f4
      · dsimp only; rw [upP_ne (by decide)]; have := h4.2.1; omega
      · dsimp only at hm ⊢
        rw [upP_eq] at hm
        rw [mkL_ne _ _ _ (by omega)]
        exact fm.2 m (by omega)
      · dsimp only; rw [upP_ne (by decide), upP_ne (by decide), e]; exact g1
      · dsimp only; rw [upP_ne (by decide), upP_ne (by decide), e]; exact g2
  · rw [if_neg t1]
    by_cases t2 : tkP K a.1 = 133
    · rw [if_pos t2]
      by_cases m6 : 8 ≤ a.2.1 3
      · rw [if_pos m6]
        have := failNC (K := K) (Pl := Pl) (k := 4) (by decide) hg
        exact ⟨⟨this.1, fun z => absurd z (failP_w (by decide))⟩, this.2.1, this.2.2.1, this.w⟩
      · rw [if_neg m6]
        have h1 := stepNC hg
        obtain ⟨h2, h3⟩ := syNC (K := K) (Pl := Pl) (s := a.2.1 3) T.toNat (stepP T a.1, a.2.2.2) h1.1
        have h4 := h1.tr h2
        refine ⟨⟨h4.1, fun z => ?_⟩, h4.2.1, h4.2.2.1, h4.w⟩
        obtain ⟨⟨f0, f1, f2, f3, f4, f5⟩, fm, fs, lw, lc, g1, g2, g3, g4, g5⟩ := hF (h4.w z)
        have e := h4.2.2.2 z
        refine ⟨⟨?_, ?_, ?_, ?_, ?_, ?_⟩, ⟨fm.1, by dsimp only; rw [upP_ne (by decide)]; exact fm.2⟩, h3 z fs, lw, lc, ?_, ?_, g3, g4, g5⟩
        · dsimp only; rw [upP_ne (by decide)]; exact f0
        · dsimp only; rw [upP_ne (by decide)]; exact f1
        · dsimp only; rw [upP_ne (by decide)]; exact f2
        · dsimp only; rw [upP_eq]; omega
        · dsimp only; rw [upP_ne (by decide)]; exact f4
        · dsimp only; rw [upP_ne (by decide)]; have := h4.2.1; omega
        · dsimp only; rw [upP_ne (by decide), upP_ne (by decide), e]; exact g1
        · dsimp only; rw [upP_ne (by decide), upP_ne (by decide), e]; exact g2
    · rw [if_neg t2]
      by_cases t3 : tkP K a.1 = 138
      · rw [if_pos t3]
        obtain ⟨l1, l2, l3, l4⟩ := law true
        refine ⟨⟨l1, fun z => ?_⟩, l2, l3, fun z => (l4 z).1⟩
        obtain ⟨w0, l, e, ok, -⟩ := l4 z
        obtain ⟨⟨f0, f1, f2, f3, f4, f5⟩, fm, fs, lw, lc, g1, g2, g3, g4, g5⟩ := hF w0
        refine ⟨⟨?_, ?_, ?_, ?_, ?_, ?_⟩, ⟨fm.1, by dsimp only; rw [upP_ne (by decide), upP_ne (by decide)]; exact fm.2⟩, fs, l, lc, ?_, ?_, ok, g4, g5⟩
        · dsimp only; rw [upP_ne (by decide), upP_ne (by decide)]; exact f0
        · dsimp only; rw [upP_ne (by decide), upP_ne (by decide)]; exact f1
        · dsimp only; rw [upP_ne (by decide), upP_ne (by decide)]; exact f2
        · dsimp only; rw [upP_ne (by decide), upP_ne (by decide)]; exact f3
        · dsimp only; rw [upP_ne (by decide), upP_ne (by decide)]; exact f4
        · dsimp only; rw [upP_ne (by decide), upP_ne (by decide)]; omega
        · dsimp only; rw [upP_ne (by decide), upP_eq, upP_eq]; unfold lenP; rw [e]; exact lawS.new
        · dsimp only; rw [upP_ne (by decide), upP_ne (by decide), upP_ne (by decide), upP_ne (by decide), e]; exact g2.app
      · rw [if_neg t3]
        by_cases t4 : tkP K a.1 = 139
        · rw [if_pos t4]
          obtain ⟨l1, l2, l3, l4⟩ := law false
          refine ⟨⟨l1, fun z => ?_⟩, l2, l3, fun z => (l4 z).1⟩
          obtain ⟨w0, l, e, ok, hn⟩ := l4 z
          obtain ⟨⟨f0, f1, f2, f3, f4, f5⟩, fm, fs, lw, lc, g1, g2, g3, g4, g5⟩ := hF w0
          refine ⟨⟨?_, ?_, ?_, ?_, ?_, ?_⟩, ⟨fm.1, by dsimp only; rw [upP_ne (by decide), upP_ne (by decide)]; exact fm.2⟩, fs, lw, l, ?_, ?_, g3, ok, hn (by decide)⟩
          · dsimp only; rw [upP_ne (by decide), upP_ne (by decide)]; exact f0
          · dsimp only; rw [upP_ne (by decide), upP_ne (by decide)]; exact f1
          · dsimp only; rw [upP_ne (by decide), upP_ne (by decide)]; exact f2
          · dsimp only; rw [upP_ne (by decide), upP_ne (by decide)]; exact f3
          · dsimp only; rw [upP_ne (by decide), upP_ne (by decide)]; exact f4
          · dsimp only; rw [upP_ne (by decide), upP_ne (by decide)]; omega
          · dsimp only; rw [upP_ne (by decide), upP_ne (by decide), upP_ne (by decide), upP_ne (by decide), e]; exact g1.app
          · dsimp only; rw [upP_ne (by decide), upP_eq, upP_eq]; unfold lenP; rw [e]; exact lawS.new
        · rw [if_neg t4]
          by_cases t5 : tkP K a.1 = 140
          · rw [if_pos t5]
            have h1 := stepNC hg
            obtain ⟨h2, h3⟩ := numNC (K := K) (Pl := Pl) (most := 10) h1.1
            have h4 := h1.tr h2
            refine ⟨⟨h4.1, fun z => ?_⟩, h4.2.1, h4.2.2.1, h4.w⟩
            obtain ⟨⟨f0, f1, f2, f3, f4, f5⟩, fm, fs, lw, lc, g1, g2, g3, g4, g5⟩ := hF (h4.w z)
            have e := h4.2.2.2 z
            have h5 := h3 z
            refine ⟨⟨?_, ?_, ?_, ?_, ?_, ?_⟩, ⟨fm.1, by dsimp only; rw [upP_ne (by decide)]; exact fm.2⟩, fs, lw, lc, ?_, ?_, g3, g4, g5⟩
            · dsimp only; rw [upP_ne (by decide)]; exact f0
            · dsimp only; rw [upP_ne (by decide)]; exact f1
            · dsimp only; rw [upP_ne (by decide)]; exact f2
            · dsimp only; rw [upP_ne (by decide)]; exact f3
            · dsimp only; rw [upP_eq]; exact ⟨h5.1, h5.2.1⟩
            · dsimp only; rw [upP_ne (by decide)]; have := h4.2.1; omega
            · dsimp only; rw [upP_ne (by decide), upP_ne (by decide), e]; exact g1
            · dsimp only; rw [upP_ne (by decide), upP_ne (by decide), e]; exact g2
          · rw [if_neg t5]
            have := failNC (K := K) (Pl := Pl) (k := 2) (by decide) hg
            exact ⟨⟨this.1, fun z => absurd z (failP_w (by decide))⟩, this.2.1, this.2.2.1, this.w⟩
theorem endQ (hk : kd T K) {a : PS × BS} (h : bkRi T a) : bkRi T (lnEnd T K Pl a) ∧ a.1.1 ≤ (lnEnd T K Pl a).1.1 ∧ (¬ a.1.2.1 = 0 → (lnEnd T K Pl a).1 = a.1) ∧ ((lnEnd T K Pl a).1.2.1 = 0 → a.1.2.1 = 0 ∧ a.1.1 + 1 ≤ (lnEnd T K Pl a).1.1) := by
  obtain ⟨hg, hF⟩ := h
  have h1 := takeNC (K := K) (Pl := Pl) (x := 59) hg
  have hgo : (takeP T K Pl 59 a.1).2.1 = 0 → a.1.1 + 1 ≤ (takeP T K Pl 59 a.1).1 := by
    intro z
    have ht := takeP_tk z
    obtain ⟨-, -, g3⟩ := step_go hk hg (by omega) (by omega) (by omega)
    unfold takeP
    rw [if_pos ht, g3]
    exact Int.le_refl _
  unfold lnEnd
  refine ⟨⟨h1.1, fun z => ?_⟩, h1.2.1, h1.2.2.1, fun z => ⟨h1.w z, hgo z⟩⟩
  obtain ⟨⟨f0, f1, f2, f3, f4, f5⟩, fm, fs, lw, lc, g1, g2, g3, g4, g5⟩ := hF (h1.w z)
  have e := h1.2.2.2 z
  refine ⟨⟨?_, ?_, ?_, ?_, ?_, ?_⟩, ⟨fm.1, by dsimp only; rw [upP_ne (by decide)]; exact fm.2⟩, fs, lw, lc, ?_, ?_, g3, g4, g5⟩
  · dsimp only; rw [upP_ne (by decide)]; exact f0
  · dsimp only; rw [upP_ne (by decide)]; exact f1
  · dsimp only; rw [upP_ne (by decide)]; exact f2
  · dsimp only; rw [upP_ne (by decide)]; exact f3
  · dsimp only; rw [upP_ne (by decide)]; exact f4
  · dsimp only; rw [upP_eq]; have := hgo z; omega
  · dsimp only; rw [upP_ne (by decide), upP_ne (by decide), e]; exact g1
  · dsimp only; rw [upP_ne (by decide), upP_ne (by decide), e]; exact g2
theorem linesQ (hk : kd T K) (hb : ∀ i, 0 ≤ i → i < T → K i < 2000) : ∀ (n : Nat) (a : PS × BS), bkRi T a → bkRi T (linesP T K Pl n a)
  | 0, a, h => h
  | n + 1, a, h => by
    unfold linesP
    split
    · exact h
    · exact linesQ hk hb n _ (endQ hk (lineQ hk hb h).1).1
theorem gd0 (hk : kd T K) : gd T ((0, 0, 0, []) : PS) := ⟨⟨Int.le_refl _, by have := hk.1; show (0 : Int) < T; omega⟩, by decide, fun _ => Int.le_refl _⟩
theorem tonNC (hk : kd T K) : NC T (0, 0, 0, []) (tonP T K Pl).2 ∧ ((tonP T K Pl).2.2.1 = 0 → 0 ≤ (tonP T K Pl).1 ∧ (tonP T K Pl).1 ≤ 9) := by
  have h1 := takeNC (K := K) (Pl := Pl) (x := 128) (gd0 hk)
  have h2 := takeNC (K := K) (Pl := Pl) (x := 129) h1.1
  obtain ⟨h3, h4⟩ := numNC (K := K) (Pl := Pl) (most := 9) h2.1
  exact ⟨(h1.tr h2).tr h3, fun z => ⟨(h4 z).1, (h4 z).2.1⟩⟩
theorem heaNC (hk : kd T K) : NC T (tonP T K Pl).2 (heaP T K Pl).2 ∧ ((heaP T K Pl).2.2.1 = 0 → 0 ≤ (heaP T K Pl).1 ∧ (heaP T K Pl).1 ≤ 9) := by
  have h1 := tonNC (Pl := Pl) hk
  have h2 := takeNC (K := K) (Pl := Pl) (x := 130) h1.1.1
  obtain ⟨h3, h4⟩ := numNC (K := K) (Pl := Pl) (most := 9) h2.1
  exact ⟨h2.tr h3, fun z => ⟨(h4 z).1, (h4 z).2.1⟩⟩
theorem firstQ (hk : kd T K) : bkRi T (firstP T K Pl) := by
  unfold firstP
  refine (endQ hk ?_).1
  obtain ⟨h1, h2⟩ := tonNC (Pl := Pl) hk
  obtain ⟨h3, h4⟩ := heaNC (Pl := Pl) hk
  refine ⟨h3.1, fun z => ?_⟩
  have e := (h1.tr h3).2.2.2 z
  have b1 := h2 (h3.w z)
  have b2 := h4 z
  have b3 := (h1.tr h3).2.1
  refine ⟨⟨?_, ?_, ?_, ?_, ?_, ?_⟩, ⟨fun m => by dsimp only; omega, fun m _ => rfl⟩, fun s => by dsimp only; omega, [], [], ?_, ?_, Or.inl rfl, Or.inl rfl, fun op h => by cases h⟩
  · dsimp only; rw [upP_ne (by decide), upP_eq]; exact b1
  · dsimp only; rw [upP_eq]; exact b2
  · dsimp only; rw [upP_ne (by decide), upP_ne (by decide)]; omega
  · dsimp only; rw [upP_ne (by decide), upP_ne (by decide)]; omega
  · dsimp only; rw [upP_ne (by decide), upP_ne (by decide)]; omega
  · dsimp only; rw [upP_ne (by decide), upP_ne (by decide)]; exact ⟨by omega, b3⟩
  · dsimp only; rw [upP_ne (by decide), upP_ne (by decide), upP_ne (by decide), upP_ne (by decide)]; exact ⟨by omega, by decide, by omega, fun k hk => absurd hk (Nat.not_lt_zero _)⟩
  · dsimp only; rw [upP_ne (by decide), upP_ne (by decide), upP_ne (by decide), upP_ne (by decide)]; exact ⟨by omega, by decide, by omega, fun k hk => absurd hk (Nat.not_lt_zero _)⟩
theorem textQ (hk : kd T K) (hb : ∀ i, 0 ≤ i → i < T → K i < 2000) : bkRi T (textP T K Pl) := linesQ hk hb _ _ (firstQ hk)
end
