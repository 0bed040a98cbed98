/-! where the cells lie that the two constructors make: the class's from 0 on, the reference's from 92 on -/
def SHL : mbSh := [(11, 15), (22, 900), (0, 15), (20, 6), (20, 8), (20, 8), (23, 900), (0, 15), (20, 6), (20, 8), (20, 8), (23, 900), (8, 3), (20, 6), (8, 3), (20, 6), (5, 3), (25, 10), (8, 3), (20, 6), (8, 3), (20, 6), (8, 3), (20, 6), (8, 3), (20, 6), (8, 3), (20, 6), (8, 3), (20, 6), (8, 3), (20, 6), (8, 3), (20, 6), (8, 3), (20, 6), (8, 3), (20, 6), (26, 4), (9, 3), (21, 40), (9, 3), (21, 40), (9, 3), (21, 40), (9, 3), (21, 40), (27, 2), (2, 3), (0, 15), (20, 6), (20, 8), (20, 8), (23, 900), (8, 3), (20, 6), (2, 3), (0, 15), (20, 6), (20, 8), (20, 8), (23, 900), (8, 3), (20, 6), (6, 10), (20, 901), (20, 901), (7, 2), (20, 64), (20, 6), (4, 10), (20, 6), (21, 700), (22, 700), (20, 800), (20, 48), (20, 48), (10, 12), (20, 700), (21, 700), (3, 12), (20, 12), (22, 9100), (20, 9100), (20, 14), (21, 700), (21, 700), (1, 9), (20, 700), (20, 700), (20, 100), (20, 100), (12, 35), (20, 3120), (24, 2), (20, 900), (20, 1040), (20, 900), (20, 6), (20, 10), (20, 70000), (20, 44800), (20, 44800), (24, 700), (21, 700), (21, 700), (20, 9100), (20, 700), (20, 700), (20, 700), (20, 700), (20, 4), (20, 4), (21, 160)]
/-- the links that never change: lkT[cell][place] -/
def lkT : List (List (Option Int)) := [[some 1, none, none, none, some 12, some 14, some 16, some 38, some 47, some 64, some 67, some 70, some 77, some 80, some 87], [], [none, none, none, none, none, none, none, none, none, none, none, some 3, some 4, some 5, some 6], [], [], [], [], [none, none, none, none, none, none, none, none, none, none, none, some 8, some 9, some 10, some 11], [], [], [], [], [none, none, some 13], [], [none, none, some 15], [], [some 17], [some 18, some 20, some 22, some 24, some 26, some 28, some 30, some 32, some 34, some 36], [none, none, some 19], [], [none, none, some 21], [], [none, none, some 23], [], [none, none, some 25], [], [none, none, some 27], [], [none, none, some 29], [], [none, none, some 31], [], [none, none, some 33], [], [none, none, some 35], [], [none, none, some 37], [], [some 39, some 41, some 43, some 45], [some 40], [], [some 42], [], [some 44], [], [some 46], [], [some 48, some 56], [none, some 49, some 54], [none, none, none, none, none, none, none, none, none, none, none, some 50, some 51, some 52, some 53], [], [], [], [], [none, none, some 55], [], [none, some 57, some 62], [none, none, none, none, none, none, none, none, none, none, none, some 58, some 59, some 60, some 61], [], [], [], [], [none, none, some 63], [], [none, none, some 1, some 65, some 66], [], [], [some 68, some 69], [], [], [none, some 67, some 71, some 72, some 73, some 74, none, none, some 75, some 76], [], [], [], [], [], [], [some 70, none, none, some 79], [], [], [some 70, some 81, none, some 82, some 83, some 84], [], [], [], [], [], [], [some 70, some 77, some 88, some 89, some 90, some 91], [], [], [], [], [none, some 93, some 94, some 95, some 96, none, none, none, none, none, none, none, none, none, none, none, some 97, some 98, some 99, none, none, some 100, some 101, some 102, some 103, some 104, some 105, some 106, some 107, some 108, some 109, some 110, some 111, some 112, some 113], [], [], [], [], [], [], [], [], [], [], [], [], [], [], [], [], [], [], [], [], []]
def lkF (a k : Int) : Option Int := if 0 ≤ a ∧ 0 ≤ k then ((lkT[a.toNat]?).getD [])[k.toNat]?.getD none else none
def SH (sh : mbSh) : Prop := ∀ k : Nat, k < 114 → sh[k]? = SHL[k]?
theorem SH.at {sh : mbSh} (S : SH sh) (x : Int) {q : Nat × Nat} (h : shA SHL x = some q) : shA sh x = some q := by
  obtain ⟨k, rfl, hk⟩ := shA_some h
  have hl : k < SHL.length := (List.getElem?_eq_some_iff.mp hk).1
  have h2 := S k hl
  unfold shA
  rw [if_pos (by omega)]
  show sh[k]? = _
  rw [h2, hk]
theorem SH.app {sh t : mbSh} (S : SH sh) (hl : 114 ≤ sh.length) : SH (sh ++ t) := fun k hk => by rw [List.getElem?_append_left (by omega)]; exact S k hk
def LK (ct : mbCt) : Prop := ∀ a k v : Int, lkF a k = some v → ct a k = v
theorem LK.at {ct : mbCt} (L : LK ct) (a k : Int) {v : Int} (h : lkF a k = some v) : ct a k = v := L a k v h
theorem wr_ne {ct : mbCt} {a k v x j : Int} (h : ¬ (x = a ∧ j = k)) : wr ct a k v x j = ct x j := if_neg h
theorem wr_eq {ct : mbCt} {a k v : Int} : wr ct a k v a k = v := if_pos ⟨rfl, rfl⟩
theorem wr_na {ct : mbCt} {a k v x j : Int} (h : x ≠ a) : wr ct a k v x j = ct x j := if_neg (fun z => h z.1)
theorem wr_nk {ct : mbCt} {a k v x j : Int} (h : j ≠ k) : wr ct a k v x j = ct x j := if_neg (fun z => h z.2)
theorem wa_na {ct : mbCt} {a : Int} {f : Int → Int} {x j : Int} (h : x ≠ a) : wa ct a f x j = ct x j := if_neg h
theorem wa_eq {ct : mbCt} {a : Int} {f : Int → Int} {j : Int} : wa ct a f a j = f j := if_pos rfl
theorem LK.wr {ct : mbCt} (L : LK ct) {a k v : Int} (h : lkF a k = none) : LK (wr ct a k v) := by
  intro x j w hw
  by_cases e : x = a ∧ j = k
  · obtain ⟨rfl, rfl⟩ := e
    rw [h] at hw
    cases hw
  · rw [wr_ne e]
    exact L x j w hw
theorem LK.wa {ct : mbCt} (L : LK ct) {a : Int} {f : Int → Int} (h : ∀ k, lkF a k = none) : LK (wa ct a f) := by
  intro x j w hw
  by_cases e : x = a
  · subst e
    rw [h j] at hw
    cases hw
  · rw [wa_na e]
    exact L x j w hw
theorem lkF_none {a : Int} (h : (lkT[a.toNat]?).getD [] = []) (k : Int) : lkF a k = none := by
  unfold lkF
  split
  · rw [h]
    rfl
  · rfl
/-- nothing changed but these cells -/
def eqBut (A : List Int) (c c2 : mbCt) : Prop := ∀ x : Int, x ∉ A → c2 x = c x
theorem LK.but {ct c : mbCt} (L : LK ct) {A : List Int} (h : eqBut A ct c) (hA : ∀ a ∈ A, ∀ k v, lkF a k = some v → c a k = v) : LK c := by
  intro a k v hv
  by_cases e : a ∈ A
  · exact hA a e k v hv
  · rw [h a e]
    exact L a k v hv
