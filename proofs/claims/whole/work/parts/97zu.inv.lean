/-! what stands between two calls of the law -/
def INC (sh : mbSh) (ct : mbCt) (b o : Int) (β : Bk) (s : Sit) (n : Int) (pl : Int → Sit) (q : Int) (N : Nat) (V : Int) (hi : Int → Int) (bi : Int → Bk) (si : Int → Sit) (sz bt : Int → Int) (vl : Int → Int → Int) (tn : Int) : Prop := CP sh ct b β s n pl q N V ∧ TC ct sz bt vl ∧ IC ct hi bi si ∧ (ct 0 1 = tn ∧ (0 ≤ tn ∧ tn ≤ 900) ∧ txB (ct 1)) ∧ (((b = 2 ∧ o = 7) ∨ (b = 7 ∧ o = 2)) ∧ ct 0 3 = o) ∧ (shR ct b ∧ shR ct o ∧ bkZ ct b)
def INM (ct : mbCt) (β : Bk) (s : Sit) (n : Int) (pl : Int → Sit) (hi : Int → Int) (bi : Int → Bk) (si : Int → Sit) (sz bt : Int → Int) (vl : Int → Int → Int) (tn : Int) : Prop := MP ct β s n pl ∧ MT ct sz bt vl ∧ MI ct hi bi si ∧ ct 92 5 = tn
def JO (ct : mbCt) (tn : Int) : Prop := (∀ j, 0 ≤ j → j < tn → ct 95 j = ct 1 j % 256) ∧ ct 92 13 = ct 64 0 ∧ ct 92 14 = ct 64 1
/-- the reference's cells stand -/
def clF (ct c : mbCt) : Prop := ∀ x : Int, 92 ≤ x → x < 114 → c x = ct x
/-- the class's cells stand -/
def rfF (ct c : mbCt) : Prop := ∀ x : Int, (x < 92 ∨ 114 ≤ x) → c x = ct x
section
variable {sh : mbSh} {ct c : mbCt} {b o : Int} {β : Bk} {s s2 : Sit} {n n2 : Int} {pl pl2 : Int → Sit} {q : Int} {N : Nat} {V W : Int} {hi : Int → Int} {bi : Int → Bk} {si : Int → Sit} {sz bt : Int → Int} {vl : Int → Int → Int} {tn : Int} {mk : Int → Int}
theorem MV.of3 (h : MV ct b β mk) (hL : LK c) (eb : ∀ x : Int, b ≤ x → x ≤ b + 4 → c x = ct x) (e : ∀ x : Int, 68 ≤ x → x < 92 → c x = ct x) : MV c b β mk := by
  have bb : b = 2 ∨ b = 7 := h.hb
  have e0 : c b = ct b := eb b (by omega) (by omega)
  have e2 : c (b + 2) = ct (b + 2) := eb _ (by omega) (by omega)
  have e3 : c (b + 3) = ct (b + 3) := eb _ (by omega) (by omega)
  have e4 : c (b + 4) = ct (b + 4) := eb _ (by omega) (by omega)
  have e70 : c 70 = ct 70 := e 70 (by decide) (by decide)
  have e71 : c 71 = ct 71 := e 71 (by decide) (by decide)
  have e74 : c 74 = ct 74 := e 74 (by decide) (by decide)
  refine ⟨⟨hL, h.hb, by rw [e70]; exact h.h0⟩, ⟨bkWf_eq e0 e4 h.wf, by rw [e 69 (by decide) (by decide)]; exact h.ask⟩, ⟨mvMin_eq e0 e4 e71 (e 72 (by decide) (by decide)) h.mn, mvCl_eq e0 e4 (e 73 (by decide) (by decide)) h.cl, ?_⟩, ⟨by rw [e70]; exact h.la.1, ?_⟩, by rw [e0]; exact h.rg, by rw [e71]; exact h.mr, by rw [bkOf_eq e0 e2 e3 e4]; exact h.bk, by rw [e71]; exact h.mks⟩
  · have t := h.tu
    unfold mvTurn at *
    rw [e0, e2, e3, e74]
    exact t
  · have t := h.la.2
    unfold noLast at *
    rw [e70, e0, e4]
    exact t
theorem CX.sit3 (X : CX sh ct b β s q N V) (hL : LK c) (h0 : c 0 2 = ct 0 2) (eb : ∀ x : Int, b ≤ x → x ≤ b + 4 → c x = ct x) (e : ∀ x : Int, 68 ≤ x → x < 92 → c x = ct x) (e114 : ∀ x : Int, 114 ≤ x → c x = ct x) (hs : sitC c 12 s2) (hB : sitB s2) (hcn : cnM β s2.2.2) : CX sh c b β s2 q N V := by
  have hq := X.qc
  obtain ⟨g0, gs, ⟨gB, gc, gbk⟩, ⟨mk, hK⟩, sq, hv, hV⟩ := X
  have e70 : c 70 = ct 70 := e 70 (by decide) (by decide)
  have eq : c q = ct q := by
    rcases hq with h | h
    · exact e q (by omega) (by omega)
    · exact e114 q (by omega)
  exact ⟨by rw [h0]; exact g0, hs, ⟨hB, hcn, gbk⟩, ⟨mk, hK.1.of3 hL eb e, hK.2.1, hK.2.2.1.mv (e 77 (by decide) (by decide)) eq (e 79 (by decide) (by decide)) e70, hK.2.2.2.1.cg e70 (e 87 (by decide) (by decide)) (e 88 (by decide) (by decide)) (e 89 (by decide) (by decide)), hK.2.2.2.2.cg (by rw [e70]) (fun x a b => e x (by omega) (by omega))⟩, sq, by rw [e70]; exact hv, hV⟩
theorem shR.cg {x : Int} (h : shR ct x) (e : c (x + 4) = ct (x + 4)) : shR c x := by
  unfold shR at *
  rw [e]
  exact h
theorem bkZ.cg {x : Int} (h : bkZ ct x) (e : c x = ct x) : bkZ c x := by
  unfold bkZ at *
  rw [e]
  exact h
theorem MI.eq (h : MI ct hi bi si) (e3 : ∀ j, 1040 ≤ j → c 93 j = ct 93 j) (e4 : c 94 = ct 94) : MI c hi bi si := by
  intro i i0 i1
  rw [e4]
  rcases h i i0 i1 with h | ⟨h1, h2, h3, h4, h5⟩
  · exact Or.inl h
  · exact Or.inr ⟨h1, h2, h3.cp (fun j hj => e3 _ (by omega)), h4.cp (fun j j0 j1 => e3 _ (by omega)), h5⟩
theorem INC.L (h : INC sh ct b o β s n pl q N V hi bi si sz bt vl tn) : LK ct := h.1.1.L
theorem INM.L (h : INM ct β s n pl hi bi si sz bt vl tn) : LK ct := h.1.1.1
/-- the reference's part stands where its cells stand -/
theorem INM.cl (h : INM ct β s n pl hi bi si sz bt vl tn) (L : LK c) (e : clF ct c) : INM c β s n pl hi bi si sz bt vl tn := ⟨h.1.eq L (e 93 (by decide) (by decide)), h.2.1.eq (e 111 (by decide) (by decide)) (e 112 (by decide) (by decide)) (e 113 (by decide) (by decide)), h.2.2.1.eq (fun j _ => by rw [e 93 (by decide) (by decide)]) (e 94 (by decide) (by decide)), by rw [e 92 (by decide) (by decide)]; exact h.2.2.2⟩
theorem INC.bo (h : INC sh ct b o β s n pl q N V hi bi si sz bt vl tn) : (b = 2 ∧ o = 7) ∨ (b = 7 ∧ o = 2) := h.2.2.2.2.1.1
/-- the class's part, book and sitting apart -/
theorem INC.r (h : INC sh ct b o β s n pl q N V hi bi si sz bt vl tn) (L : LK c) (e : rfF ct c) : INC sh c b o β s n pl q N V hi bi si sz bt vl tn := by
  have hbo := h.bo
  obtain ⟨⟨X, P⟩, T, I, ⟨t1, t2, t3⟩, ⟨-, h3⟩, z1, z2, z3⟩ := h
  have es : sitC c 12 s := by
    refine ⟨?_, ?_, fun m m0 m1 => ?_⟩
    · rw [e 12 (by decide)]; exact X.2.1.1
    · rw [e 12 (by decide)]; exact X.2.1.2.1
    · rw [e (12 + 1) (by decide)]; exact X.2.1.2.2 m m0 m1
  refine ⟨⟨X.sit3 L (by rw [e 0 (by decide)]) (fun x a b => e x (by omega)) (fun x a b => e x (by omega)) (fun x a => e x (by omega)) es X.2.2.1.1 X.2.2.1.2.1, P.cg (fun x a b => e x (by omega))⟩, TC.cg ct T (fun x a b => e x (by omega)), I.cg (fun x a b => e x (by omega)), ⟨by rw [e 0 (by decide)]; exact t1, t2, by rw [e 1 (by decide)]; exact t3⟩, ⟨hbo, by rw [e 0 (by decide)]; exact h3⟩, z1.cg (e _ (by omega)), z2.cg (e _ (by omega)), z3.cg (e _ (by omega))⟩
/-- a question of the class -/
theorem INC.k (h : INC sh ct b o β s n pl q N V hi bi si sz bt vl tn) {sh2 : mbSh} {q2 : Int} {N2 : Nat} (X : CX sh2 c b β s q2 N2 W) (e : kG ct c) : INC sh2 c b o β s n pl q2 N2 W hi bi si sz bt vl tn ∧ clF ct c ∧ (c 1 = ct 1 ∧ c 64 = ct 64) := by
  have hbo := h.bo
  obtain ⟨⟨X0, P⟩, T, I, ⟨t1, t2, t3⟩, ⟨-, h3⟩, z1, z2, z3⟩ := h
  have e' : ∀ x : Int, x < 68 → c x = ct x := fun x hx => e x (by omega) (by simp [KF]; omega)
  refine ⟨⟨⟨X, P.cg (fun x a b => e' x (by omega))⟩, T.k e, I.cg (fun x a b => e' x (by omega)), ⟨by rw [e' 0 (by decide)]; exact t1, t2, by rw [e' 1 (by decide)]; exact t3⟩, ⟨hbo, by rw [e' 0 (by decide)]; exact h3⟩, z1.cg (e' _ (by omega)), z2.cg (e' _ (by omega)), z3.cg (e' _ (by omega))⟩, fun x a b => e x b (by simp [KF]; omega), e' 1 (by decide), e' 64 (by decide)⟩
/-- a deed of the class -/
theorem INC.d (h : INC sh ct b o β s n pl q N V hi bi si sz bt vl tn) (C : CP sh c b β s2 n2 pl2 q N W) (e : dG ct c) : INC sh c b o β s2 n2 pl2 q N W hi bi si sz bt vl tn ∧ clF ct c ∧ (c 1 = ct 1 ∧ c 64 = ct 64) := by
  have hbo := h.bo
  obtain ⟨⟨X0, P⟩, T, I, ⟨t1, t2, t3⟩, ⟨-, h3⟩, z1, z2, z3⟩ := h
  have e' : ∀ x : Int, (x < 12 ∨ (37 < x ∧ x < 68)) → c x = ct x := fun x hx => e x (by omega) (by simp; omega)
  exact ⟨⟨C, TC.dg ct T e, I.cg (fun x a b => e' x (by omega)), ⟨by rw [e' 0 (by decide)]; exact t1, t2, by rw [e' 1 (by decide)]; exact t3⟩, ⟨hbo, by rw [e' 0 (by decide)]; exact h3⟩, z1.cg (e' _ (by omega)), z2.cg (e' _ (by omega)), z3.cg (e' _ (by omega))⟩, fun x a b => e x (by omega) (by simp; omega), e' 1 (by decide), e' 64 (by decide)⟩
/-- trays or images of the class have changed -/
theorem CP.mid (C : CP sh ct b β s n pl q N V) (L : LK c) (hb : b = 2 ∨ b = 7) (e : ∀ x : Int, (x < 38 ∨ 63 < x) → c x = ct x) : CP sh c b β s n pl q N V := by
  obtain ⟨X, P⟩ := C
  have es : sitC c 12 s := by
    refine ⟨?_, ?_, fun m m0 m1 => ?_⟩
    · rw [e 12 (by decide)]; exact X.2.1.1
    · rw [e 12 (by decide)]; exact X.2.1.2.1
    · rw [e (12 + 1) (by decide)]; exact X.2.1.2.2 m m0 m1
  exact ⟨X.sit3 L (by rw [e 0 (by decide)]) (fun x a b => e x (by omega)) (fun x a b => e x (by omega)) (fun x a => e x (by omega)) es X.2.2.1.1 X.2.2.1.2.1, P.cg (fun x a b => e x (by omega))⟩
/-- frames of the reference -/
theorem mF.rf' (e : mF ct c) : rfF ct c := fun x hx => e.1 x (by simp [RF]; omega)
theorem dF.rf' (e : dF ct c) : rfF ct c := fun x hx => e.1 x (by simp [DF]; omega)
theorem rF.rf' (e : rF ct c) : rfF ct c := fun x hx => e.1 x (by simp; omega)
/-- a question of the reference -/
theorem INM.k (h : INM ct β s n pl hi bi si sz bt vl tn) (e : mF ct c) : INM c β s n pl hi bi si sz bt vl tn := ⟨h.1.eq (e.L h.L) (e.1 93 (by decide)), h.2.1.mf e, h.2.2.1.eq (fun j _ => by rw [e.1 93 (by decide)]) (e.1 94 (by decide)), by rw [e.2 5 (by decide)]; exact h.2.2.2⟩
/-- a deed of the reference -/
theorem INM.d (h : INM ct β s n pl hi bi si sz bt vl tn) (M : MP c β s2 n2 pl2) (e : dF ct c) : INM c β s2 n2 pl2 hi bi si sz bt vl tn := ⟨M, h.2.1.eq (e.1 111 (by decide)) (e.1 112 (by decide)) (e.1 113 (by decide)), h.2.2.1.eq (fun j hj => e.2.2 j (by omega)) (e.1 94 (by decide)), by rw [e.2.1 5 (by decide) (by decide) (by decide)]; exact h.2.2.2⟩
theorem JO.cl (h : JO ct tn) (e : clF ct c) (e1 : c 1 = ct 1 ∧ c 64 = ct 64) : JO c tn := by
  unfold JO at *
  rw [e 95 (by decide) (by decide), e 92 (by decide) (by decide), e1.1, e1.2]
  exact h
theorem JO.r (h : JO ct tn) (e : rfF ct c) (e95 : c 95 = ct 95) (e13 : c 92 13 = ct 92 13) (e14 : c 92 14 = ct 92 14) : JO c tn := by
  unfold JO at *
  rw [e 1 (by decide), e 64 (by decide), e95, e13, e14]
  exact h
theorem JO.k (h : JO ct tn) (e : mF ct c) : JO c tn := h.r e.rf' (e.1 95 (by decide)) (e.2 13 (by decide)) (e.2 14 (by decide))
theorem JO.d (h : JO ct tn) (e : dF ct c) : JO c tn := h.r e.rf' (e.1 95 (by decide)) (e.2.1 13 (by decide) (by decide) (by decide)) (e.2.1 14 (by decide) (by decide) (by decide))
theorem JO.t (h : JO ct tn) (e : rF ct c) : JO c tn := h.r e.rf' (e.1 95 (by decide)) (e.2 13 (by decide)) (e.2 14 (by decide))
/-- only the reference's first place has changed -/
theorem mF.of0 {v : Int} : mF ct (wr ct 92 0 v) := ⟨eqBut.rf.wr (by decide), fun k hk => wr_nk hk⟩
end
/-- the room -/
def RMs (sh : mbSh) (N : Nat) : Prop := SH sh ∧ 114 ≤ sh.length ∧ sh.length ≤ 114 + N ∧ ssz sh ≤ 400000 + 3 * N ∧ ∃ j : Fin 7, N = ndM j.val
theorem ndM_b : ∀ j k : Fin 7, ndM j.val ≤ 19201 ∧ (ndM j.val < ndM k.val → 3 * ndM j.val ≤ 2 * ndM k.val) := by decide +kernel
theorem RMs.grow {sh : mbSh} {N M : Nat} (h : RMs sh N) (hM : M ≤ 6) : RMs (shF sh N M) (NF N M) := by
  obtain ⟨S, h1, h2, h3, j, hj⟩ := h
  have hb := (ndM_b j ⟨M, by omega⟩).2
  unfold shF NF
  by_cases hN : N < ndM M
  · rw [if_pos hN, if_pos hN]
    have h6 := hb (by rw [← hj]; exact hN)
    rw [← hj] at h6
    refine ⟨S.app h1, by simp; omega, by simp; omega, ?_, ⟨M, by omega⟩, rfl⟩
    rw [ssz_push]
    dsimp only at h6
    omega
  · rw [if_neg hN, if_neg hN]
    exact ⟨S, h1, h2, h3, j, hj⟩
/-- all of it, i ints of the script read -/
def INV (sh : mbSh) (ct : mbCt) (V : Int) : Prop := ∃ (b o : Int) (β : Bk) (s : Sit) (n : Int) (pl : Int → Sit) (q : Int) (N : Nat) (hi : Int → Int) (bi : Int → Bk) (si : Int → Sit) (sz bt : Int → Int) (vl : Int → Int → Int) (tn : Int), INC sh ct b o β s n pl q N V hi bi si sz bt vl tn ∧ INM ct β s n pl hi bi si sz bt vl tn ∧ JO ct tn ∧ RMs sh N
