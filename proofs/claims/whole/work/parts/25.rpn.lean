/-! laws as rows of codes: their kinds, their values -/
def cl6 (v : Int) : Int := if v > 1000000 then 1000000 else if v < -1000000 then -1000000 else v
def opV (op a b : Int) : Int := if op = -7 then cl6 (a + b) else if op = -8 then cl6 (a - b) else if op = -9 then cl6 (a * b) else if op = -10 then b01 (a = b) else if op = -11 then b01 (a < b) else if op = -12 then b01 (b < a) else if op = -14 then b01 (a = 1 ∧ b = 1) else b01 (a = 1 ∨ b = 1)
/-- what a code makes of the kinds on the stack (true: a truth; false: a number); at most 64 lie there -/
def typS (op : Int) (ts : List Bool) : Option (List Bool) :=
  if -6 ≤ op ∧ op ≤ 999 then (if ts.length < 64 then some (false :: ts) else none)
  else match ts with
    | x :: r => if op = -13 then (if x = true then some (true :: r) else none) else match r with
      | y :: r2 => if -9 ≤ op ∧ op ≤ -7 then (if x = false ∧ y = false then some (false :: r2) else none)
        else if -12 ≤ op ∧ op ≤ -10 then (if x = false ∧ y = false then some (true :: r2) else none)
        else if -15 ≤ op ∧ op ≤ -14 then (if x = true ∧ y = true then some (true :: r2) else none) else none
      | [] => none
    | [] => none
def typL : List Int → List Bool → Option (List Bool)
  | [], ts => some ts
  | op :: r, ts => match typS op ts with
    | some ts' => typL r ts'
    | none => none
def semS (ask : Int → Int) (op : Int) (st : List Int) : List Int :=
  if -6 ≤ op ∧ op ≤ 999 then (if 0 ≤ op then op else ask (-1 - op)) :: st
  else match st with
    | b :: r => if op = -13 then (1 - b) :: r else match r with
      | a :: r2 => opV op a b :: r2
      | [] => [b]
    | [] => []
def semL (ask : Int → Int) : List Int → List Int → List Int
  | [], st => st
  | op :: r, st => semL ask r (semS ask op st)
def okT : List Bool → List Int → Prop
  | [], [] => True
  | true :: ts, v :: st => (v = 0 ∨ v = 1) ∧ okT ts st
  | false :: ts, v :: st => (-1000000 ≤ v ∧ v ≤ 1000000) ∧ okT ts st
  | _, _ => False
def askOk (ask : Int → Int) : Prop := ∀ i, 0 ≤ i → i < 6 → 0 ≤ ask i ∧ ask i ≤ 1000
theorem okT_len : ∀ (ts : List Bool) (st : List Int), okT ts st → ts.length = st.length
  | [], [], _ => rfl
  | true :: ts, v :: st, h => by simp [okT_len ts st h.2]
  | false :: ts, v :: st, h => by simp [okT_len ts st h.2]
theorem cl6_in (v : Int) : -1000000 ≤ cl6 v ∧ cl6 v ≤ 1000000 := by unfold cl6; split <;> (try split) <;> omega
theorem b01_in (p : Prop) [Decidable p] : b01 p = 0 ∨ b01 p = 1 := by unfold b01; split; exact Or.inr rfl; exact Or.inl rfl
theorem okT_2 {x y : Bool} {r : List Bool} {st : List Int} (h : okT (x :: y :: r) st) : ∃ b a st2, st = b :: a :: st2 ∧ okT r st2 ∧ (x = true → b = 0 ∨ b = 1) ∧ (y = true → a = 0 ∨ a = 1) ∧ (-1000000 ≤ b ∧ b ≤ 1000000) ∧ (-1000000 ≤ a ∧ a ≤ 1000000) := by
  match st, h with
  | [], h => cases x <;> exact h.elim
  | [b], h => cases x <;> cases y <;> exact h.2.elim
  | b :: a :: st2, h =>
    cases x <;> cases y
    · exact ⟨b, a, st2, rfl, h.2.2, fun z => (by cases z), fun z => (by cases z), h.1, h.2.1⟩
    · exact ⟨b, a, st2, rfl, h.2.2, fun z => (by cases z), fun _ => h.2.1, h.1, by have := h.2.1; omega⟩
    · exact ⟨b, a, st2, rfl, h.2.2, fun _ => h.1, fun z => (by cases z), by have := h.1; omega, h.2.1⟩
    · exact ⟨b, a, st2, rfl, h.2.2, fun _ => h.1, fun _ => h.2.1, by have := h.1; omega, by have := h.2.1; omega⟩
/-- the three ways of a code that keeps the kinds -/
theorem typS_cases {op : Int} {ts ts' : List Bool} (h : typS op ts = some ts') : (-6 ≤ op ∧ op ≤ 999 ∧ ts.length < 64 ∧ ts' = false :: ts) ∨ (op = -13 ∧ ∃ r, ts = true :: r ∧ ts' = true :: r) ∨ (-15 ≤ op ∧ op ≤ -7 ∧ op ≠ -13 ∧ ∃ x y r z, ts = x :: y :: r ∧ ts' = z :: r ∧ (op ≤ -14 → x = true ∧ y = true ∧ z = true) ∧ (-12 ≤ op → x = false ∧ y = false ∧ z = decide (op ≤ -10))) := by
  unfold typS at h
  split at h
  · rename_i h1
    split at h
    · rename_i h2
      cases h
      exact Or.inl ⟨h1.1, h1.2, h2, rfl⟩
    · cases h
  · rename_i h1
    split at h
    · rename_i x r
      split at h
      · rename_i h2
        split at h
        · rename_i h3
          cases h
          subst h3
          exact Or.inr (Or.inl ⟨h2, r, rfl, rfl⟩)
        · cases h
      · rename_i h2
        split at h
        · rename_i y r2
          split at h
          · split at h
            · rename_i h3 h4
              cases h
              exact Or.inr (Or.inr ⟨by omega, by omega, h2, x, y, r2, _, rfl, rfl, fun _ => by omega, fun _ => ⟨h4.1, h4.2, by simp; omega⟩⟩)
            · cases h
          · split at h
            · split at h
              · rename_i h3 h4 h5
                cases h
                exact Or.inr (Or.inr ⟨by omega, by omega, h2, x, y, r2, _, rfl, rfl, fun _ => by omega, fun _ => ⟨h5.1, h5.2, by simp; omega⟩⟩)
              · cases h
            · split at h
              · split at h
                · rename_i h3 h4 h5 h6
                  cases h
                  exact Or.inr (Or.inr ⟨by omega, by omega, h2, x, y, r2, _, rfl, rfl, fun _ => ⟨h6.1, h6.2, rfl⟩, fun _ => by omega⟩)
                · cases h
              · cases h
        · cases h
    · cases h
theorem opV_num {op a b : Int} (h1 : -9 ≤ op) (h2 : op ≤ -7) : -1000000 ≤ opV op a b ∧ opV op a b ≤ 1000000 := by
  unfold opV
  by_cases e7 : op = -7
  · rw [if_pos e7]
    exact cl6_in _
  · rw [if_neg e7]
    by_cases e8 : op = -8
    · rw [if_pos e8]
      exact cl6_in _
    · rw [if_neg e8, if_pos (by omega)]
      exact cl6_in _
theorem opV_tru {op a b : Int} (h : op ≤ -10) : opV op a b = 0 ∨ opV op a b = 1 := by
  unfold opV
  rw [if_neg (by omega), if_neg (by omega), if_neg (by omega)]
  split
  · exact b01_in _
  · split
    · exact b01_in _
    · split
      · exact b01_in _
      · split
        · exact b01_in _
        · exact b01_in _
theorem semS_ok {ask : Int → Int} (ha : askOk ask) {op : Int} {ts ts' : List Bool} {st : List Int} (h : typS op ts = some ts') (ho : okT ts st) : okT ts' (semS ask op st) := by
  rcases typS_cases h with ⟨h1, h2, h3, rfl⟩ | ⟨rfl, r, rfl, rfl⟩ | ⟨h1, h2, h3, x, y, r, z, rfl, rfl, h4, h5⟩
  · unfold semS
    rw [if_pos ⟨h1, h2⟩]
    refine ⟨?_, ho⟩
    split
    · omega
    · have := ha (-1 - op) (by omega) (by omega)
      omega
  · match st, ho with
    | v :: st, ho =>
      unfold semS
      rw [if_neg (by omega)]
      refine ⟨?_, ho.2⟩
      have := ho.1
      omega
  · obtain ⟨b, a, st2, rfl, ho2, -⟩ := okT_2 ho
    unfold semS
    rw [if_neg (by omega)]
    show okT (z :: r) (if op = -13 then _ else _)
    rw [if_neg h3]
    by_cases hx : op ≤ -10
    · have hz : z = true := by
        by_cases h6 : op ≤ -14
        · exact (h4 h6).2.2
        · have := (h5 (by omega)).2.2
          rw [this]
          simp
          omega
      subst hz
      exact ⟨opV_tru hx, ho2⟩
    · have hz : z = false := by
        have := (h5 (by omega)).2.2
        rw [this]
        simp
        omega
      subst hz
      exact ⟨opV_num (by omega) h2, ho2⟩
def codeL (f : Int → Int) (i : Int) : Nat → List Int
  | 0 => []
  | n + 1 => f i :: codeL f (i + 1) n
/-- a law that is well told, of n codes from the place i on -/
def wfL (f : Int → Int) (i : Int) (n : Nat) : Prop := typL (codeL f i n) [] = some [true]
/-- what lies on a stack, the last first -/
def stkAt (f : Int → Int) : List Int → Prop
  | [] => True
  | x :: r => f r.length = x ∧ stkAt f r
theorem stkAt_up {f g : Int → Int} : ∀ {l : List Int}, stkAt f l → (∀ j : Int, j < l.length → g j = f j) → stkAt g l
  | [], _, _ => trivial
  | x :: r, h, hg => ⟨by rw [hg _ (by simp; omega)]; exact h.1, stkAt_up h.2 (fun j hj => hg j (by simp; omega))⟩
theorem typL_cons {op : Int} {r : List Int} {ts u : List Bool} (h : typL (op :: r) ts = some u) : ∃ ts', typS op ts = some ts' ∧ typL r ts' = some u := by
  unfold typL at h
  split at h
  · rename_i ts' h1
    exact ⟨ts', h1, h⟩
  · cases h
/-- how a law is asked: tone, heat, who spoke last (9: nobody), who, mark, saying -/
def askF (st who mk sy : Int) : Int → Int := fun i => if i = 0 then st / 70 else if i = 1 then st / 7 % 10 else if i = 2 then (if st % 7 = 6 then 9 else st % 7) else if i = 3 then who else if i = 4 then mk else sy
