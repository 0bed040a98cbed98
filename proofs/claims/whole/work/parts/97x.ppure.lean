/-! the laws as they are read: functions of the tokens, and what is known of them -/
/-- while the token is one of those: it is passed, what stands behind it is read, its code laid down -/
def loopP (T : Int) (K : Int → Int) (isO : Int → Prop) [DecidablePred isO] (cd : Int → Int) (sub : PS → PS) : Nat → PS → PS
  | 0, σ => σ
  | n + 1, σ => if isO (tkP K σ) then loopP T K isO cd sub n (codeP (cd (tkP K σ)) (sub (stepP T σ))) else σ
abbrev isTi (t : Int) : Prop := t = 42
abbrev isPm (t : Int) : Prop := t = 43 ∨ t = 45
abbrev isAn (t : Int) : Prop := t = 142
abbrev isOr (t : Int) : Prop := t = 141
abbrev isCm (t : Int) : Prop := t = 61 ∨ t = 60 ∨ t = 62
def cdPm (t : Int) : Int := if t = 43 then -7 else -8
def cdCm (t : Int) : Int := if t = 61 then -10 else if t = 60 then -11 else -12
def termP (T : Int) (K : Int → Int) (at' : PS → PS) (σ : PS) : PS := loopP T K isTi (fun _ => -9) at' T.toNat (at' σ)
def sumP (T : Int) (K : Int → Int) (at' : PS → PS) (σ : PS) : PS := loopP T K isPm cdPm (termP T K at') T.toNat (termP T K at' σ)
def bothP (T : Int) (K : Int → Int) (un : PS → PS) (σ : PS) : PS := loopP T K isAn (fun _ => -14) un T.toNat (un σ)
def truthP (T : Int) (K : Int → Int) (un : PS → PS) (σ : PS) : PS := loopP T K isOr (fun _ => -15) (bothP T K un) T.toNat (bothP T K un σ)
def atB (T : Int) (K Pl : Int → Int) (om : Bool) (par : PS → PS) (σ : PS) : PS := if tkP K σ = 40 then par σ else if 1000 ≤ tkP K σ then stepP T (codeP (tkP K σ - 1000) σ) else if askC om (tkP K σ) = -16 then failP K Pl 2 σ else stepP T (codeP (askC om (tkP K σ)) σ)
def atomP (T : Int) (K Pl : Int → Int) (om : Bool) : Nat → PS → PS
  | 0 => atB T K Pl om (failP K Pl 4)
  | r + 1 => atB T K Pl om (fun σ => takeP T K Pl 41 (sumP T K (atomP T K Pl om r) (stepP T σ)))
def cmpP (T : Int) (K Pl : Int → Int) (sm : PS → PS) (σ : PS) : PS := if isCm (tkP K (sm σ)) then codeP (cdCm (tkP K (sm σ))) (sm (stepP T (sm σ))) else failP K Pl 2 (sm σ)
def unB (T : Int) (K Pl : Int → Int) (neg brk sm : PS → PS) (σ : PS) : PS := if tkP K σ = 143 then neg σ else if tkP K σ = 91 then brk σ else cmpP T K Pl sm σ
def unitP (T : Int) (K Pl : Int → Int) (om : Bool) : Nat → PS → PS
  | 0 => unB T K Pl (failP K Pl 4) (failP K Pl 4) (sumP T K (atomP T K Pl om 0))
  | r + 1 => unB T K Pl (fun σ => codeP (-13) (unitP T K Pl om r (stepP T σ))) (fun σ => takeP T K Pl 93 (truthP T K (unitP T K Pl om r) (stepP T σ))) (sumP T K (atomP T K Pl om (r + 1)))
/-- a state in order -/
def gd (T : Int) (σ : PS) : Prop := (0 ≤ σ.1 ∧ σ.1 < T) ∧ (0 ≤ σ.2.1 ∧ σ.2.1 ≤ 4) ∧ (σ.2.1 = 0 → (σ.2.2.2.length : Int) ≤ σ.1)
/-- the tokens in order -/
def kd (T : Int) (K : Int → Int) : Prop := (1 ≤ T ∧ T ≤ 901) ∧ (K (T - 1) = 201 ∨ K (T - 1) = 202) ∧ ∀ i, 0 ≤ i → i < T → 0 ≤ K i ∧ K i < 3000 ∧ K i ≠ 203
section
variable {T : Int} {K Pl : Int → Int} {σ : PS} {om : Bool}
theorem tk_stop (h : ¬ σ.2.1 = 0) : tkP K σ = 203 := by unfold tkP; exact if_neg h
theorem tk_go (h : σ.2.1 = 0) : tkP K σ = K σ.1 := by unfold tkP; exact if_pos h
theorem tk_w (h : tkP K σ ≠ 203) : σ.2.1 = 0 := by
  apply Classical.byContradiction
  intro z
  exact h (tk_stop z)
theorem step_go (hk : kd T K) (hg : gd T σ) (h1 : tkP K σ ≠ 203) (h2 : tkP K σ ≠ 201) (h3 : tkP K σ ≠ 202) : σ.2.1 = 0 ∧ σ.1 + 1 < T ∧ stepP T σ = (σ.1 + 1, σ.2) := by
  have hw := tk_w h1
  rw [tk_go hw] at h2 h3
  have h4 : σ.1 + 1 < T := by
    apply Classical.byContradiction
    intro z
    have e : σ.1 = T - 1 := by have := hg.1.2; omega
    rw [e] at h2 h3
    exact hk.2.1.elim h2 h3
  refine ⟨hw, h4, ?_⟩
  unfold stepP
  rw [if_pos ⟨hw, h4⟩]
theorem stepP_stop (h : ¬ σ.2.1 = 0) : stepP T σ = σ := by unfold stepP; rw [if_neg (fun z => h z.1)]
theorem failP_stop {k : Int} (h : ¬ σ.2.1 = 0) : failP K Pl k σ = σ := by unfold failP; rw [if_neg h]
theorem codeP_stop {k : Int} (h : ¬ σ.2.1 = 0) : codeP k σ = σ := by unfold codeP; rw [if_neg h]
theorem codeP_go {k : Int} (h : σ.2.1 = 0) : codeP k σ = (σ.1, σ.2.1, σ.2.2.1, σ.2.2.2 ++ [k]) := by unfold codeP; rw [if_pos h]
theorem failP_w {k : Int} (hk : 1 ≤ k ∧ k ≤ 4) : ¬ (failP K Pl k σ).2.1 = 0 := by
  unfold failP
  split
  · dsimp only
    split <;> omega
  · assumption
theorem failP_gd {k : Int} (hk : 1 ≤ k ∧ k ≤ 4) (hg : gd T σ) : gd T (failP K Pl k σ) ∧ (failP K Pl k σ).1 = σ.1 := by
  refine ⟨⟨?_, ?_, fun z => absurd z (failP_w hk)⟩, ?_⟩
  · unfold failP
    split
    · exact hg.1
    · exact hg.1
  · unfold failP
    split
    · dsimp only
      split <;> omega
    · exact hg.2.1
  · unfold failP
    split <;> rfl
theorem stepP_gd (hg : gd T σ) : gd T (stepP T σ) ∧ σ.1 ≤ (stepP T σ).1 ∧ (stepP T σ).2 = σ.2 := by
  unfold stepP
  split
  · rename_i h
    exact ⟨⟨⟨by dsimp only; have := hg.1; omega, h.2⟩, hg.2.1, fun z => by dsimp only at z ⊢; have := hg.2.2 z; omega⟩, by dsimp only; omega, rfl⟩
  · exact ⟨hg, Int.le_refl _, rfl⟩
theorem takeP_stop {x : Int} (h : ¬ σ.2.1 = 0) : takeP T K Pl x σ = σ := by
  unfold takeP
  split
  · exact stepP_stop h
  · exact failP_stop h
theorem takeP_gd {x : Int} (hg : gd T σ) : gd T (takeP T K Pl x σ) ∧ σ.1 ≤ (takeP T K Pl x σ).1 ∧ ((takeP T K Pl x σ).2.1 = 0 → (takeP T K Pl x σ).2 = σ.2) := by
  unfold takeP
  split
  · have := stepP_gd hg
    exact ⟨this.1, this.2.1, fun _ => this.2.2⟩
  · have := failP_gd (K := K) (Pl := Pl) (k := 2) (by decide) hg
    exact ⟨this.1, by omega, fun z => absurd z (failP_w (by decide))⟩
/-- what is known of a part that is read from σ to τ: z a truth, nd how much of the stack it needs -/
abbrev QQ (T : Int) (om : Bool) (z : Prop) [Decidable z] (nd : Nat) (σ τ : PS) : Prop := gd T τ ∧ σ.1 ≤ τ.1 ∧ (¬ σ.2.1 = 0 → τ = σ) ∧ (τ.2.1 = 0 → σ.2.1 = 0 ∧ ∃ l, τ.2.2.2 = σ.2.2.2 ++ l ∧ σ.1 + (l.length : Int) ≤ τ.1 ∧ (¬ om = true → ∀ op ∈ l, ¬ (-6 ≤ op ∧ op ≤ -4)) ∧ ∀ ts : List Bool, ts.length + nd ≤ 64 → typL l ts = some (decide z :: ts))
def PQ (T : Int) (om : Bool) (z : Prop) [Decidable z] (nd : Nat) (P : PS → PS) : Prop := ∀ σ, gd T σ → QQ T om z nd σ (P σ)
/-- .. of the loop behind it -/
def LQ (T : Int) (om : Bool) (z : Prop) [Decidable z] (nd : Nat) (P : PS → PS) : Prop := ∀ σ, gd T σ → gd T (P σ) ∧ σ.1 ≤ (P σ).1 ∧ (¬ σ.2.1 = 0 → P σ = σ) ∧ ((P σ).2.1 = 0 → σ.2.1 = 0 ∧ ∃ l, (P σ).2.2.2 = σ.2.2.2 ++ l ∧ σ.1 + (l.length : Int) ≤ (P σ).1 ∧ (¬ om = true → ∀ op ∈ l, ¬ (-6 ≤ op ∧ op ≤ -4)) ∧ ∀ ts : List Bool, ts.length + nd ≤ 64 → typL l (decide z :: ts) = some (decide z :: ts))
theorem typL_app : ∀ (l m : List Int) (ts : List Bool), typL (l ++ m) ts = (typL l ts).bind (typL m)
  | [], _, _ => rfl
  | op :: r, m, ts => by
    show (match typS op ts with | some ts' => typL (r ++ m) ts' | none => none) = (match typS op ts with | some ts' => typL r ts' | none => none).bind (typL m)
    cases typS op ts with
    | none => rfl
    | some t => exact typL_app r m t
theorem PQ.mono {z : Prop} [Decidable z] {nd nd2 : Nat} {P : PS → PS} (h : PQ T om z nd P) (hn : nd ≤ nd2) : PQ T om z nd2 P := fun σ hg => by
  obtain ⟨a, b, c, e⟩ := h σ hg
  refine ⟨a, b, c, fun hz => ?_⟩
  obtain ⟨e0, l, e1, e2, e3, e4⟩ := e hz
  exact ⟨e0, l, e1, e2, e3, fun ts ht => e4 ts (by omega)⟩
/-- a part read behind a token that was passed leaves room for a code -/
theorem PQ.room {z : Prop} [Decidable z] {nd : Nat} {P : PS → PS} (h : PQ T om z nd P) (hk : kd T K) (hg : gd T σ) (h1 : tkP K σ ≠ 203) (h2 : tkP K σ ≠ 201) (h3 : tkP K σ ≠ 202) (hw : (P (stepP T σ)).2.1 = 0) : ((P (stepP T σ)).2.2.2.length : Int) < (P (stepP T σ)).1 ∧ (P (stepP T σ)).2.2.2.length < 900 := by
  obtain ⟨g1, g2, g3⟩ := step_go hk hg h1 h2 h3
  obtain ⟨q1, q2, q3, q4⟩ := h (stepP T σ) (stepP_gd hg).1
  obtain ⟨e0, l, e1, e2, -, -⟩ := q4 hw
  have hl := hg.2.2 g1
  have hs : (stepP T σ).1 = σ.1 + 1 := by rw [g3]
  have hs2 : (stepP T σ).2.2.2 = σ.2.2.2 := by rw [g3]
  rw [hs] at e2
  have e5 : (P (stepP T σ)).2.2.2.length = σ.2.2.2.length + l.length := by rw [e1, hs2, List.length_append]
  have := q1.1.2
  have := hk.1
  omega
theorem codeP_gd {k : Int} (hg : gd T σ) (h : σ.2.1 = 0 → (σ.2.2.2.length : Int) < σ.1) : gd T (codeP k σ) ∧ (codeP k σ).1 = σ.1 ∧ (codeP k σ).2.1 = σ.2.1 := by
  unfold codeP
  split
  · rename_i hw
    refine ⟨⟨hg.1, hg.2.1, fun _ => ?_⟩, rfl, rfl⟩
    have := h hw
    dsimp only
    rw [List.length_append, List.length_singleton]
    omega
  · exact ⟨hg, rfl, rfl⟩
theorem loopP_stop {isO : Int → Prop} [DecidablePred isO] {cd : Int → Int} {sub : PS → PS} (h : ¬ isO (tkP K σ)) : ∀ n, loopP T K isO cd sub n σ = σ
  | 0 => rfl
  | n + 1 => by show (if isO (tkP K σ) then _ else σ) = σ; rw [if_neg h]
theorem loopP_go {isO : Int → Prop} [DecidablePred isO] {cd : Int → Int} {sub : PS → PS} {n : Nat} (h : isO (tkP K σ)) : loopP T K isO cd sub (n + 1) σ = loopP T K isO cd sub n (codeP (cd (tkP K σ)) (sub (stepP T σ))) := by show (if isO (tkP K σ) then _ else σ) = _; rw [if_pos h]
theorem loopQ {z : Prop} [Decidable z] {nd : Nat} {isO : Int → Prop} [DecidablePred isO] {cd : Int → Int} {sub : PS → PS} (hk : kd T K) (hs : PQ T om z nd sub) (hi : ∀ t, isO t → t ≠ 203 ∧ t ≠ 201 ∧ t ≠ 202 ∧ ¬ (-6 ≤ cd t ∧ cd t ≤ -4) ∧ ∀ ts, typS (cd t) (decide z :: decide z :: ts) = some (decide z :: ts)) : ∀ n, LQ T om z (nd + 1) (loopP T K isO cd sub n)
  | 0 => fun σ hg => ⟨hg, Int.le_refl _, fun _ => rfl, fun hw => ⟨hw, [], by simp [loopP], by show σ.1 + ((0 : Nat) : Int) ≤ σ.1; omega, fun _ op h => (by cases h), fun ts _ => rfl⟩⟩
  | n + 1 => fun σ hg => by
    by_cases ho : isO (tkP K σ)
    · obtain ⟨i1, i2, i3, i4, i5⟩ := hi _ ho
      rw [loopP_go ho]
      obtain ⟨g1, g2, g3⟩ := step_go hk hg i1 i2 i3
      have hgs := (stepP_gd hg).1
      obtain ⟨q1, q2, q3, q4⟩ := hs (stepP T σ) hgs
      have hrm := hs.room hk hg i1 i2 i3
      have hc := codeP_gd (k := cd (tkP K σ)) q1 (fun hw => (hrm hw).1)
      obtain ⟨r1, r2, r3, r4⟩ := loopQ hk hs hi n (codeP (cd (tkP K σ)) (sub (stepP T σ))) hc.1
      have hs1 : (stepP T σ).1 = σ.1 + 1 := by rw [g3]
      refine ⟨r1, by have := hc.2.1; omega, fun h => absurd g1 h, fun hw => ?_⟩
      obtain ⟨w1, l2, a1, a2, a3, a4⟩ := r4 hw
      rw [hc.2.2] at w1
      obtain ⟨-, l1, b1, b2, b3, b4⟩ := q4 w1
      have hcc : (codeP (cd (tkP K σ)) (sub (stepP T σ))).2.2.2 = (sub (stepP T σ)).2.2.2 ++ [cd (tkP K σ)] := by rw [codeP_go w1]
      have hs2 : (stepP T σ).2.2.2 = σ.2.2.2 := by rw [g3]
      rw [hcc, b1, hs2] at a1
      refine ⟨g1, l1 ++ [cd (tkP K σ)] ++ l2, by rw [a1]; simp only [List.append_assoc], ?_, fun hom op hop => ?_, fun ts ht => ?_⟩
      · rw [List.length_append, List.length_append, List.length_singleton]
        have := hc.2.1
        omega
      · rcases List.mem_append.mp hop with h | h
        · rcases List.mem_append.mp h with h | h
          · exact b3 hom op h
          · rw [List.mem_singleton.mp h]
            exact i4
        · exact a3 hom op h
      · rw [typL_app, typL_app, b4 (decide z :: ts) (by rw [List.length_cons]; omega)]
        show ((typL [cd (tkP K σ)] (decide z :: decide z :: ts))).bind (typL l2) = _
        have : typL [cd (tkP K σ)] (decide z :: decide z :: ts) = some (decide z :: ts) := by
          show (match typS (cd (tkP K σ)) (decide z :: decide z :: ts) with | some ts' => typL [] ts' | none => none) = _
          rw [i5 ts]
          rfl
        rw [this]
        exact a4 ts ht
    · rw [loopP_stop ho]
      exact ⟨hg, Int.le_refl _, fun _ => rfl, fun hw => ⟨hw, [], by simp, by show σ.1 + ((0 : Nat) : Int) ≤ σ.1; omega, fun _ op h => (by cases h), fun ts _ => rfl⟩⟩
theorem PQ.loop {z : Prop} [Decidable z] {nd : Nat} {P L : PS → PS} (h : PQ T om z nd P) (hl : LQ T om z (nd + 1) L) : PQ T om z (nd + 1) (fun σ => L (P σ)) := fun σ hg => by
  obtain ⟨a1, a2, a3, a4⟩ := h σ hg
  obtain ⟨b1, b2, b3, b4⟩ := hl (P σ) a1
  show QQ T om z (nd + 1) σ (L (P σ))
  refine ⟨b1, Int.le_trans a2 b2, fun hw => ?_, fun hw => ?_⟩
  · rw [a3 hw] at b3 ⊢
    exact b3 hw
  · obtain ⟨w1, l2, c1, c2, c3, c4⟩ := b4 hw
    obtain ⟨w0, l1, e1, e2, e3, e4⟩ := a4 w1
    refine ⟨w0, l1 ++ l2, by rw [c1, e1, List.append_assoc], by rw [List.length_append]; omega, fun hom op hop => ?_, fun ts ht => ?_⟩
    · rcases List.mem_append.mp hop with h | h
      · exact e3 hom op h
      · exact c3 hom op h
    · rw [typL_app, e4 ts (by omega)]
      exact c4 ts ht
theorem termQ {nd : Nat} {P : PS → PS} (hk : kd T K) (h : PQ T om False nd P) : PQ T om False (nd + 1) (termP T K P) := h.loop (loopQ hk h (fun t ht => by
  have : t = 42 := ht
  refine ⟨by omega, by omega, by omega, by decide, fun ts => rfl⟩) T.toNat)
theorem sumQ {nd : Nat} {P : PS → PS} (hk : kd T K) (h : PQ T om False nd P) : PQ T om False (nd + 2) (sumP T K P) := (termQ hk h).loop (loopQ hk (termQ hk h) (fun t ht => by
  rcases ht with h | h
  · subst h
    exact ⟨by omega, by omega, by omega, by decide, fun ts => rfl⟩
  · subst h
    exact ⟨by omega, by omega, by omega, by decide, fun ts => rfl⟩) T.toNat)
theorem bothQ {nd : Nat} {P : PS → PS} (hk : kd T K) (h : PQ T om True nd P) : PQ T om True (nd + 1) (bothP T K P) := h.loop (loopQ hk h (fun t ht => by
  have : t = 142 := ht
  refine ⟨by omega, by omega, by omega, by decide, fun ts => rfl⟩) T.toNat)
theorem truthQ {nd : Nat} {P : PS → PS} (hk : kd T K) (h : PQ T om True nd P) : PQ T om True (nd + 2) (truthP T K P) := (bothQ hk h).loop (loopQ hk (bothQ hk h) (fun t ht => by
  have : t = 141 := ht
  refine ⟨by omega, by omega, by omega, by decide, fun ts => rfl⟩) T.toNat)
theorem failQ {z : Prop} [Decidable z] {nd : Nat} {k : Int} (hk : 1 ≤ k ∧ k ≤ 4) : PQ T om z nd (failP K Pl k) := fun σ hg => by
  have := failP_gd (K := K) (Pl := Pl) hk hg
  exact ⟨this.1, by omega, fun h => failP_stop h, fun h => absurd h (failP_w hk)⟩
/-- within not [ ( .. -/
theorem brkQ {z : Prop} [Decidable z] {nd : Nat} {x : Int} {P : PS → PS} (h : PQ T om z nd P) : PQ T om z nd (fun σ => takeP T K Pl x (P (stepP T σ))) := fun σ hg => by
  obtain ⟨s1, s2, s3⟩ := stepP_gd hg
  obtain ⟨a1, a2, a3, a4⟩ := h (stepP T σ) s1
  obtain ⟨t1, t2, t3⟩ := takeP_gd (K := K) (Pl := Pl) (x := x) a1
  show QQ T om z nd σ (takeP T K Pl x (P (stepP T σ)))
  refine ⟨t1, by omega, fun hw => ?_, fun hw => ?_⟩
  · have e := stepP_stop (T := T) hw
    rw [e] at a3 ⊢
    rw [a3 hw]
    exact takeP_stop hw
  · have e := t3 hw
    have hw2 : (P (stepP T σ)).2.1 = 0 := by rw [← e]; exact hw
    obtain ⟨w0, l, e1, e2, e3, e4⟩ := a4 hw2
    rw [s3] at w0 e1
    refine ⟨w0, l, by rw [e]; exact e1, by omega, e3, e4⟩
theorem askC_in (t : Int) : (askC om t = -16) ∨ ((-6 ≤ askC om t ∧ askC om t ≤ -1) ∧ (¬ om = true → ¬ (-6 ≤ askC om t ∧ askC om t ≤ -4)) ∧ 128 ≤ t ∧ t < 146) := by
  unfold askC
  by_cases h1 : t = 129
  · rw [if_pos h1]; exact Or.inr ⟨by omega, fun _ => by omega, by omega⟩
  · rw [if_neg h1]
    by_cases h2 : t = 130
    · rw [if_pos h2]; exact Or.inr ⟨by omega, fun _ => by omega, by omega⟩
    · rw [if_neg h2]
      by_cases h3 : t = 144
      · rw [if_pos h3]; exact Or.inr ⟨by omega, fun _ => by omega, by omega⟩
      · rw [if_neg h3]
        by_cases h4 : t = 145 ∧ om = true
        · rw [if_pos h4]; exact Or.inr ⟨by omega, fun z => absurd h4.2 z, by omega⟩
        · rw [if_neg h4]
          by_cases h5 : t = 132 ∧ om = true
          · rw [if_pos h5]; exact Or.inr ⟨by omega, fun z => absurd h5.2 z, by omega⟩
          · rw [if_neg h5]
            by_cases h6 : t = 133 ∧ om = true
            · rw [if_pos h6]; exact Or.inr ⟨by omega, fun z => absurd h6.2 z, by omega⟩
            · rw [if_neg h6]; exact Or.inl rfl
/-- a code and a token passed -/
theorem oneQ {c : Int} (hk : kd T K) (hg : gd T σ) (h1 : tkP K σ ≠ 203) (h2 : tkP K σ ≠ 201) (h3 : tkP K σ ≠ 202) (hc : -6 ≤ c ∧ c ≤ 999) (hom : ¬ om = true → ¬ (-6 ≤ c ∧ c ≤ -4)) {nd : Nat} (hnd : 1 ≤ nd) : QQ T om False nd σ (stepP T (codeP c σ)) := by
  obtain ⟨g1, g2, g3⟩ := step_go hk hg h1 h2 h3
  rw [codeP_go g1]
  have e : stepP T (σ.1, σ.2.1, σ.2.2.1, σ.2.2.2 ++ [c]) = (σ.1 + 1, σ.2.1, σ.2.2.1, σ.2.2.2 ++ [c]) := by
    unfold stepP
    rw [if_pos ⟨g1, g2⟩]
  rw [e]
  refine ⟨⟨⟨by dsimp only; have := hg.1; omega, g2⟩, hg.2.1, fun z => ?_⟩, by dsimp only; omega, fun h => absurd g1 h, fun _ => ⟨g1, [c], rfl, by dsimp only; rw [List.length_singleton]; omega, fun h op hop => ?_, fun ts ht => ?_⟩⟩
  · dsimp only
    rw [List.length_append, List.length_singleton]
    have := hg.2.2 g1
    omega
  · rw [List.mem_singleton.mp hop]
    exact hom h
  · show (match typS c ts with | some ts' => typL [] ts' | none => none) = _
    unfold typS
    rw [if_pos hc, if_pos (by omega)]
    rfl
theorem atBQ {nd : Nat} {P : PS → PS} (hk : kd T K) (hnd : 1 ≤ nd) (hb : ∀ i, 0 ≤ i → i < T → K i < 2000) (h : PQ T om False nd P) : PQ T om False nd (atB T K Pl om P) := fun σ hg => by
  unfold atB
  by_cases h1 : tkP K σ = 40
  · rw [if_pos h1]
    exact h σ hg
  · rw [if_neg h1]
    by_cases h2 : 1000 ≤ tkP K σ
    · rw [if_pos h2]
      have hw := tk_w (K := K) (σ := σ) (by omega)
      have := hb σ.1 hg.1.1 hg.1.2
      rw [← tk_go (K := K) hw] at this
      exact oneQ hk hg (by omega) (by omega) (by omega) (by omega) (fun _ => by omega) hnd
    · rw [if_neg h2]
      rcases askC_in (om := om) (tkP K σ) with h3 | ⟨h3, h4, h5⟩
      · rw [if_pos h3]
        exact failQ (by decide) σ hg
      · rw [if_neg (by omega)]
        exact oneQ hk hg (by omega) (by omega) (by omega) (by omega) h4 hnd
theorem atomQ (hk : kd T K) (hb : ∀ i, 0 ≤ i → i < T → K i < 2000) : ∀ r : Nat, PQ T om False (2 * r + 1) (atomP T K Pl om r)
  | 0 => atBQ hk (by omega) hb (failQ (by decide))
  | r + 1 => atBQ hk (by omega) hb (brkQ ((sumQ hk (atomQ hk hb r)).mono (by omega)))
theorem cmpQ {nd : Nat} {P : PS → PS} (hk : kd T K) (h : PQ T om False nd P) : PQ T om True (nd + 1) (cmpP T K Pl P) := fun σ hg => by
  obtain ⟨a1, a2, a3, a4⟩ := h σ hg
  unfold cmpP
  by_cases hc : isCm (tkP K (P σ))
  · rw [if_pos hc]
    have hc1 : tkP K (P σ) ≠ 203 ∧ tkP K (P σ) ≠ 201 ∧ tkP K (P σ) ≠ 202 := by
      rcases hc with h | h | h <;> omega
    obtain ⟨g1, g2, g3⟩ := step_go hk a1 hc1.1 hc1.2.1 hc1.2.2
    obtain ⟨b1, b2, b3, b4⟩ := h (stepP T (P σ)) (stepP_gd a1).1
    have hrm := h.room hk a1 hc1.1 hc1.2.1 hc1.2.2
    obtain ⟨c1, c2, c3⟩ := codeP_gd (k := cdCm (tkP K (P σ))) b1 (fun hw => (hrm hw).1)
    have hs1 : (stepP T (P σ)).1 = (P σ).1 + 1 := by rw [g3]
    refine ⟨c1, by omega, fun hw => ?_, fun hw => ?_⟩
    · rw [a3 hw] at g1
      exact absurd g1 hw
    · rw [c3] at hw
      obtain ⟨w1, l2, e1, e2, e3, e4⟩ := b4 hw
      obtain ⟨w0, l1, f1, f2, f3, f4⟩ := a4 g1
      have hs2 : (stepP T (P σ)).2.2.2 = (P σ).2.2.2 := by rw [g3]
      rw [hs2, f1] at e1
      have hcd : (cdCm (tkP K (P σ)) = -10 ∨ cdCm (tkP K (P σ)) = -11 ∨ cdCm (tkP K (P σ)) = -12) := by
        unfold cdCm
        split
        · exact Or.inl rfl
        · split
          · exact Or.inr (Or.inl rfl)
          · exact Or.inr (Or.inr rfl)
      refine ⟨w0, l1 ++ l2 ++ [cdCm (tkP K (P σ))], ?_, ?_, fun hom op hop => ?_, fun ts ht => ?_⟩
      · rw [codeP_go hw]
        dsimp only
        rw [e1]
        simp only [List.append_assoc]
      · rw [List.length_append, List.length_append, List.length_singleton]
        omega
      · rcases List.mem_append.mp hop with h | h
        · rcases List.mem_append.mp h with h | h
          · exact f3 hom op h
          · exact e3 hom op h
        · rw [List.mem_singleton.mp h]
          omega
      · rw [typL_app, typL_app, f4 ts (by omega)]
        show ((typL l2 (decide False :: ts))).bind _ = _
        rw [e4 _ (by rw [List.length_cons]; omega)]
        show typL [cdCm (tkP K (P σ))] (decide False :: decide False :: ts) = _
        rcases hcd with h | h | h <;> rw [h] <;> rfl
  · rw [if_neg hc]
    obtain ⟨f1, f2⟩ := failP_gd (K := K) (Pl := Pl) (k := 2) (by decide) a1
    refine ⟨f1, by omega, fun hw => ?_, fun hw => absurd hw (failP_w (by decide))⟩
    rw [a3 hw]
    exact failP_stop hw
theorem unBQ {nd : Nat} {A B C : PS → PS} (hk : kd T K) (h1 : ∀ σ, gd T σ → tkP K σ = 143 → QQ T om True (nd + 1) σ (A σ)) (h2 : PQ T om True (nd + 1) B) (h3 : PQ T om False nd C) : PQ T om True (nd + 1) (unB T K Pl A B C) := fun σ hg => by
  unfold unB
  by_cases c1 : tkP K σ = 143
  · rw [if_pos c1]
    exact h1 σ hg c1
  · rw [if_neg c1]
    by_cases c2 : tkP K σ = 91
    · rw [if_pos c2]
      exact h2 σ hg
    · rw [if_neg c2]
      exact cmpQ hk h3 σ hg
theorem negQ {nd : Nat} {P : PS → PS} (hk : kd T K) (h : PQ T om True nd P) (hg : gd T σ) (hn : tkP K σ = 143) : QQ T om True nd σ (codeP (-13) (P (stepP T σ))) := by
  obtain ⟨g1, g2, g3⟩ := step_go hk hg (by omega) (by omega) (by omega)
  obtain ⟨s1, s2, s3⟩ := stepP_gd hg
  obtain ⟨a1, a2, a3, a4⟩ := h (stepP T σ) s1
  have hrm := h.room hk hg (by omega) (by omega) (by omega)
  obtain ⟨c1, c2, c3⟩ := codeP_gd (k := -13) a1 (fun hw => (hrm hw).1)
  have hs1 : (stepP T σ).1 = σ.1 + 1 := by rw [g3]
  refine ⟨c1, by omega, fun hw => absurd g1 hw, fun hw => ?_⟩
  rw [c3] at hw
  obtain ⟨w1, l, e1, e2, e3, e4⟩ := a4 hw
  rw [s3] at e1
  refine ⟨g1, l ++ [-13], ?_, ?_, fun hom op hop => ?_, fun ts ht => ?_⟩
  · rw [codeP_go hw]
    dsimp only
    rw [e1, List.append_assoc]
  · rw [List.length_append, List.length_singleton]
    omega
  · rcases List.mem_append.mp hop with h | h
    · exact e3 hom op h
    · rw [List.mem_singleton.mp h]
      omega
  · rw [typL_app, e4 ts ht]
    rfl
theorem unitQ (hk : kd T K) (hb : ∀ i, 0 ≤ i → i < T → K i < 2000) : ∀ r : Nat, PQ T om True (2 * r + 4) (unitP T K Pl om r)
  | 0 => unBQ hk (fun σ hg _ => failQ (by decide) σ hg) (failQ (by decide)) (sumQ hk (atomQ hk hb 0))
  | r + 1 => unBQ (nd := 2 * (r + 1) + 3) hk (fun σ hg hn => negQ hk ((unitQ hk hb r).mono (by omega)) hg hn) (brkQ ((truthQ hk (unitQ hk hb r)).mono (by omega))) (sumQ hk (atomQ hk hb (r + 1)))
end
