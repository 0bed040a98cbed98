/-! the class as a whole: what stands between its calls -/
def cnM (β : Bk) (mk : Int → Int) : Prop := ∀ m, ¬ (0 ≤ m ∧ m < β.n 2) → mk m = 0
def LYI (ct : mbCt) (β : Bk) (mk : Int → Int) : Prop := LZ ct ∧ (∃ z : Nat, ct 80 2 = z ∧ z ≤ 12 ∧ (ct 80 9 = ct 70 7 → WG ct β mk z)) ∧ (∀ i, 0 ≤ i → i < 12 → -1 ≤ ct 81 i ∧ ct 81 i ≤ 1000) ∧ (ct 80 8 = 0 ∨ ct 80 8 = 1) ∧ (-1 ≤ ct 80 9 ∧ ct 80 9 ≤ ct 70 7) ∧ (0 ≤ ct 80 10 ∧ ct 80 10 < 700) ∧ (-1 ≤ ct 80 11 ∧ ct 80 11 ≤ 10)
def CK (ct : mbCt) (b : Int) (β : Bk) (mk : Int → Int) (q : Int) (N : Nat) : Prop := MV ct b β mk ∧ cnM β mk ∧ WI ct q N β mk ∧ GI ct β mk ∧ LYI ct β mk
def sitC (ct : mbCt) (a : Int) (s : Sit) : Prop := ct a 0 = s.1 ∧ ct a 1 = s.2.1 ∧ ∀ m, 0 ≤ m → m < 6 → ct (a + 1) m = s.2.2 m
/-- book, sitting, and all that was worked out -/
def CX (sh : mbSh) (ct : mbCt) (b : Int) (β : Bk) (s : Sit) (q : Int) (N : Nat) (V : Int) : Prop := ct 0 2 = b ∧ sitC ct 12 s ∧ (sitB s ∧ cnM β s.2.2 ∧ bkB β) ∧ (∃ mk, CK ct b β mk q N) ∧ shA sh q = some (20, N) ∧ (0 ≤ ct 70 7 ∧ ct 70 7 ≤ V) ∧ V < 900000
/-- the same, the marks heeded -/
def CY (sh : mbSh) (ct : mbCt) (b : Int) (β : Bk) (s : Sit) (q : Int) (N : Nat) (V : Int) : Prop := ct 0 2 = b ∧ sitC ct 12 s ∧ (sitB s ∧ cnM β s.2.2 ∧ bkB β) ∧ CK ct b β s.2.2 q N ∧ shA sh q = some (20, N) ∧ (0 ≤ ct 70 7 ∧ ct 70 7 ≤ V) ∧ V < 900000
def KF : List Int := [68, 69, 70, 71, 72, 73, 75, 76, 77, 79, 80, 81, 82, 83, 84, 85, 86, 87, 88, 89, 90, 91]
section
variable {sh : mbSh} {ct c : mbCt} {b : Int} {β : Bk} {s : Sit} {q : Int} {N : Nat} {V W : Int} {mk : Int → Int}
theorem CY.x (h : CY sh ct b β s q N V) : CX sh ct b β s q N V := ⟨h.1, h.2.1, h.2.2.1, ⟨_, h.2.2.2.1⟩, h.2.2.2.2⟩
theorem CY.up (h : CY sh ct b β s q N V) (hv : V ≤ W) (hw : W < 900000) : CY sh ct b β s q N W := ⟨h.1, h.2.1, h.2.2.1, h.2.2.2.1, h.2.2.2.2.1, ⟨h.2.2.2.2.2.1.1, by have := h.2.2.2.2.2.1.2; omega⟩, hw⟩
theorem CX.up (h : CX sh ct b β s q N V) (hv : V ≤ W) (hw : W < 900000) : CX sh ct b β s q N W := ⟨h.1, h.2.1, h.2.2.1, h.2.2.2.1, h.2.2.2.2.1, ⟨h.2.2.2.2.2.1.1, by have := h.2.2.2.2.2.1.2; omega⟩, hw⟩
theorem CX.L (h : CX sh ct b β s q N V) : LK ct := by
  obtain ⟨mk, hk⟩ := h.2.2.2.1
  exact hk.1.L
theorem CX.hb (h : CX sh ct b β s q N V) : bkN b := by
  obtain ⟨mk, hk⟩ := h.2.2.2.1
  exact hk.1.hb
theorem CX.n (h : CX sh ct b β s q N V) (i : Int) : ct b i = β.n i := by
  obtain ⟨mk, hk⟩ := h.2.2.2.1
  exact hk.1.n i
theorem CX.qc (h : CX sh ct b β s q N V) : qcN q := by
  obtain ⟨mk, hk⟩ := h.2.2.2.1
  exact hk.2.2.1.1.2.1
theorem CX.bb (h : CX sh ct b β s q N V) (S : SH sh) : shA sh b = some (0, 15) ∧ shA sh (b + 1) = some (20, 6) ∧ shA sh (b + 2) = some (20, 8) ∧ shA sh (b + 3) = some (20, 8) ∧ shA sh (b + 4) = some (23, 900) := by
  rcases h.hb with rfl | rfl
  · exact ⟨S.at _ rfl, S.at _ rfl, S.at _ rfl, S.at _ rfl, S.at _ rfl⟩
  · exact ⟨S.at _ rfl, S.at _ rfl, S.at _ rfl, S.at _ rfl, S.at _ rfl⟩
theorem cn_eq {mk mk2 : Int → Int} (h : cnM β mk) (h2 : cnM β mk2) (e : ∀ m, 0 ≤ m → m < β.n 2 → mk m = mk2 m) : mk = mk2 := by
  funext m
  by_cases hm : 0 ≤ m ∧ m < β.n 2
  · exact e m hm.1 hm.2
  · rw [h m hm, h2 m hm]
theorem MV.cg (h : MV ct b β mk) {mk2 : Int → Int} (e : ∀ m, 0 ≤ m → m < β.n 2 → mk m = mk2 m) : MV ct b β mk2 := ⟨h.1, h.2.1, h.2.2.1, h.2.2.2.1, h.2.2.2.2.1, h.2.2.2.2.2.1, h.2.2.2.2.2.2.1, fun m m0 m1 => (h.mks m m0 m1).trans (e m m0 m1)⟩
theorem GD.cg {f t : Int} (h : GD ct β mk f t) (e88 : c 88 = ct 88) (e89 : c 89 = ct 89) : GD c β mk f t := by
  obtain ⟨R, lv, h1, h2, h3, h4, h5⟩ := h
  have e : ∀ f, c (tG f) = ct (tG f) := by
    intro f
    cases f
    · exact e89
    · exact e88
  refine ⟨R, lv, h1, h2, h3, fun f st hst => ?_, by rw [e88]; exact h5⟩
  rw [e f]
  exact h4 f st hst
theorem GI.cg (h : GI ct β mk) (e70 : c 70 = ct 70) (e87 : c 87 = ct 87) (e88 : c 88 = ct 88) (e89 : c 89 = ct 89) : GI c β mk := by
  obtain ⟨h1, h2, h3, h4, h5⟩ := h
  have e : ∀ f, c (tG f) = ct (tG f) := by
    intro f
    cases f
    · exact e89
    · exact e88
  refine ⟨fun f => by rw [e f]; exact h1 f, by rw [e87, e70]; exact h2, by rw [e87]; exact h3, by rw [e87]; exact h4, fun hh => ?_⟩
  rw [e87, e70] at hh
  rw [e87]
  exact (h5 hh).cg e88 e89
theorem LZ.cg (h : LZ ct) (e80 : c 80 = ct 80) (e85 : c 85 = ct 85) (e86 : c 86 = ct 86) : LZ c := by
  unfold LZ
  rw [e80, e85, e86]
  exact h
theorem WG.cg {z : Nat} (h : WG ct β mk z) (e80 : c 80 = ct 80) (e81 : c 81 = ct 81) (e82 : c 82 = ct 82) (e83 : c 83 = ct 83) (e84 : c 84 = ct 84) : WG c β mk z := by
  intro j hj
  rw [e80, e81]
  exact (h j hj).tr e82 e83 e84
theorem LYI.cg (h : LYI ct β mk) (e70 : c 70 7 = ct 70 7) (e : ∀ x : Int, 80 ≤ x → x ≤ 86 → c x = ct x) : LYI c β mk := by
  obtain ⟨h1, ⟨z, z1, z2, z3⟩, h3, h4, h5, h6, h7⟩ := h
  have e80 := e 80 (by decide) (by decide)
  refine ⟨h1.cg e80 (e 85 (by decide) (by decide)) (e 86 (by decide) (by decide)), ⟨z, by rw [e80]; exact z1, z2, fun hh => ?_⟩, by rw [e 81 (by decide) (by decide)]; exact h3, by rw [e80]; exact h4, by rw [e80, e70]; exact h5, by rw [e80]; exact h6, by rw [e80]; exact h7⟩
  rw [e80, e70] at hh
  exact (z3 hh).cg e80 (e 81 (by decide) (by decide)) (e 82 (by decide) (by decide)) (e 83 (by decide) (by decide)) (e 84 (by decide) (by decide))
theorem q_ne (hq : qcN q) {x : Int} (h0 : x < 114) (h1 : x ≠ 78) : x ≠ q := by
  rcases hq with h | h <;> omega
/-- what a search leaves as it was -/
theorem CK.find (h : CK ct b β mk q N) (hq : qcN q) (e : eqBq [68, 69, 72, 73, 75, 76, 77, 79] q ct c) (hM : MV c b β mk) (hW : WI c q N β mk) : CK c b β mk q N := by
  have f : ∀ x : Int, x ∉ ([68, 69, 72, 73, 75, 76, 77, 79] : List Int) → x < 114 → x ≠ 78 → c x = ct x := fun x h1 h2 h3 => e x h1 (q_ne hq h2 h3)
  refine ⟨hM, h.2.1, hW, h.2.2.2.1.cg (f 70 (by decide) (by decide) (by decide)) (f 87 (by decide) (by decide) (by decide)) (f 88 (by decide) (by decide) (by decide)) (f 89 (by decide) (by decide) (by decide)), h.2.2.2.2.cg (by rw [f 70 (by decide) (by decide) (by decide)]) (fun x h0 h1 => f x (by simp; omega) (by omega) (by omega))⟩
/-- the frame of the questions -/
def kF (q : Int) (ct c : mbCt) : Prop := eqBq KF q ct c
theorem kF.of {A : List Int} (h : eqBq A q ct c) (hA : (A.all fun x => decide (x ∈ KF)) = true) : kF q ct c := h.mono (fun x hx => by simpa using List.all_eq_true.mp hA x hx)
theorem sitC.cg {a : Int} (h : sitC ct a s) (e0 : c a = ct a) (e1 : c (a + 1) = ct (a + 1)) : sitC c a s := by
  unfold sitC
  rw [e0, e1]
  exact h
theorem CY.k (h : CY sh ct b β s q N V) (e : kF q ct c) (hk : CK c b β s.2.2 q N) (h70 : c 70 7 = ct 70 7) : CY sh c b β s q N V := by
  have hq : qcN q := h.x.qc
  have f : ∀ x : Int, x < 68 → c x = ct x := fun x hx => e x (by unfold KF; simp; omega) (q_ne hq (by omega) (by omega))
  exact ⟨by rw [f 0 (by decide)]; exact h.1, h.2.1.cg (f 12 (by decide)) (f 13 (by decide)), h.2.2.1, hk, h.2.2.2.2.1, by rw [h70]; exact h.2.2.2.2.2.1, h.2.2.2.2.2.2⟩
/-- only Moves' own rows have changed -/
theorem CK.mvt (h : CK ct b β mk q N) (m : MVt ct c b β mk) : CK c b β mk q N := by
  have f : ∀ x : Int, x ∉ ([68, 69, 72, 73, 75, 76] : List Int) → c x = ct x := m.1
  exact ⟨m.2, h.2.1, h.2.2.1.mvt m, h.2.2.2.1.cg (f 70 (by decide)) (f 87 (by decide)) (f 88 (by decide)) (f 89 (by decide)), h.2.2.2.2.cg (by rw [f 70 (by decide)]) (fun x h0 h1 => f x (by simp; omega))⟩
theorem MVt.k (m : MVt ct c b β mk) : kF q ct c := (m.1.bq).mono (by decide)
theorem CY.mvt (h : CY sh ct b β s q N V) (m : MVt ct c b β s.2.2) : CY sh c b β s q N V := h.k m.k (h.2.2.2.1.mvt m) (by rw [m.1 70 (by decide)])
theorem CX.mvt (h : CX sh ct b β s q N V) (m : ∃ mk, CK ct b β mk q N ∧ MVt ct c b β mk) : CX sh c b β s q N V := by
  obtain ⟨mk, hk, m⟩ := m
  have f : ∀ x : Int, x < 68 → c x = ct x := fun x hx => m.1 x (by simp; omega)
  exact ⟨by rw [f 0 (by decide)]; exact h.1, h.2.1.cg (f 12 (by decide)) (f 13 (by decide)), h.2.2.1, ⟨mk, hk.mvt m⟩, h.2.2.2.2.1, by rw [m.1 70 (by decide)]; exact h.2.2.2.2.2.1, h.2.2.2.2.2.2⟩
end
section
variable (d : Nat) (sh : mbSh) (ct : mbCt) {b : Int} {β : Bk} {s : Sit} {q : Int} {N : Nat} {V : Int}
theorem x_heedE (S : SH sh) (X : CX sh ct b β s q N V) (hV : V + 1 < 900000) : Mt YX4_heed (d + 1) [.inr (.inr 70), .inr (.inr 13)] sh sh ct (pN fun c => (CY sh c b β s q N (V + 1) ∧ kF q ct c) ∧ eqBut [70, 71, 72] ct c) := by
  have hq := X.qc
  obtain ⟨h0, hs, ⟨hB, hcn, hbk⟩, ⟨mk, hk⟩, sq, hv, hV0⟩ := X
  have h13 : ∀ m, 0 ≤ m → m < 6 → ct 13 m = s.2.2 m := hs.2.2
  refine Mt.imp (m_heed d sh ct S hk.1 (fun m m0 m1 => by rw [h13 m m0 m1]; exact hB.2 m m0 m1)) ?_
  rintro r c ⟨rfl, he, hM, h70, hor⟩
  have hme := hk.1.me
  have f : ∀ x : Int, x ∉ ([70, 71, 72] : List Int) → c x = ct x := he
  have hM2 : MV c b β s.2.2 := hM.cg (fun m m0 m1 => h13 m m0 (by omega))
  have hk13 : ∀ x : Int, x < 68 → c x = ct x := fun x hx => f x (by simp; omega)
  have hW := hk.2.2.1
  have hG := hk.2.2.2.1
  have hL := hk.2.2.2.2
  have e7 := h70
  have hvk : 0 ≤ c 70 7 ∧ c 70 7 ≤ V + 1 := by rcases hor with ⟨h, -⟩ | h <;> omega
  have key : CK c b β s.2.2 q N := by
    obtain ⟨⟨w1, w2, w3, w4, w5, w6, w7, w8, w9, w10⟩, wd⟩ := hW
    have e77 : c 77 = ct 77 := f 77 (by decide)
    have e79 : c 79 = ct 79 := f 79 (by decide)
    have eq : c q = ct q := f q (by rcases hq with h | h <;> simp <;> omega)
    have e87 : c 87 = ct 87 := f 87 (by decide)
    have e80 : c 80 = ct 80 := f 80 (by decide)
    have wr' : WR c q N := by
      refine ⟨by rw [e77]; exact w1, w2, w3, ?_, by rw [e77]; exact w5, by rw [e77]; exact w6, by rw [e77]; exact w7, by rw [e77]; exact w8, ?_, by rw [e77]; exact w10⟩
      · unfold rclr rbit at *
        rw [e79]
        exact w4
      · rw [e77]
        rcases hor with ⟨h, -⟩ | h <;> omega
    rcases hor with ⟨hsame, hmk⟩ | hnew
    · have hmke : mk = s.2.2 := cn_eq hk.2.1 hcn (fun m m0 m1 => (hmk m m0 m1).trans (h13 m m0 (by omega)))
      subst hmke
      have e70 : c 70 = ct 70 := by
        funext k
        by_cases h7 : k = 7
        · rw [h7]
          exact hsame
        · exact h70 k h7
      exact ⟨hM2, hcn, ⟨wr', fun hh => (wd (by rw [e77, e70] at hh; exact hh)).mv e77 eq⟩, hG.cg e70 e87 (f 88 (by decide)) (f 89 (by decide)), hL.cg hsame (fun x a b => f x (by simp; omega))⟩
    · have hlt : ∀ z, z ≤ ct 70 7 → z = c 70 7 → False := fun z a b => by omega
      obtain ⟨g1, g2, g3, g4, g5⟩ := hG
      obtain ⟨l1, ⟨z, z1, z2, z3⟩, l3, l4, l5, l6, l7⟩ := hL
      have et : ∀ f', c (tG f') = ct (tG f') := by
        intro f'
        cases f'
        · exact f 89 (by decide)
        · exact f 88 (by decide)
      refine ⟨hM2, hcn, ⟨wr', fun hh => (hlt _ (by rw [e77]; exact w9.2.1) hh).elim⟩, ⟨fun f' => by rw [et f']; exact g1 f', by rw [e87]; omega, by rw [e87]; exact g3, by rw [e87]; exact g4, fun hh => (hlt _ (by rw [e87]; exact g2.2) hh).elim⟩, l1.cg e80 (f 85 (by decide)) (f 86 (by decide)), ⟨z, by rw [e80]; exact z1, z2, fun hh => (hlt _ (by rw [e80]; exact l5.2) hh).elim⟩, by rw [f 81 (by decide)]; exact l3, by rw [e80]; exact l4, by rw [e80]; omega, by rw [e80]; exact l6, by rw [e80]; exact l7⟩
  exact ⟨rfl, ⟨⟨by rw [hk13 0 (by decide)]; exact h0, hs.cg (hk13 12 (by decide)) (hk13 13 (by decide)), ⟨hB, hcn, hbk⟩, key, sq, hvk, hV⟩, (he.bq).mono (by decide)⟩, he⟩
theorem x_heed (S : SH sh) (X : CX sh ct b β s q N V) (hV : V + 1 < 900000) : Mt YX4_heed (d + 1) [.inr (.inr 70), .inr (.inr 13)] sh sh ct (pN fun c => CY sh c b β s q N (V + 1) ∧ kF q ct c) := by
  refine Mt.imp (x_heedE d sh ct S X hV) ?_
  rintro r c ⟨h, h2, -⟩
  exact ⟨h, h2⟩
end
