/-! MinuteBook: books that become others, settled anew -/
def shR (ct : mbCt) (b : Int) : Prop := ∀ j, 0 ≤ j → j < 900 → -32768 ≤ ct (b + 4) j ∧ ct (b + 4) j < 32768
def bkZ (ct : mbCt) (b : Int) : Prop := (0 ≤ ct b 6 ∧ ct b 6 ≤ 900) ∧ ct b 8 ≤ ct b 6 ∧ ct b 10 ≤ ct b 6
/-- books that nobody can tell from each other -/
def bkE (β γ : Bk) : Prop := (∀ i, 0 ≤ i → i ≤ 5 → β.n i = γ.n i) ∧ (∀ s, 0 ≤ s → s < 8 → β.tt s = γ.tt s ∧ β.ht s = γ.ht s) ∧ β.W = γ.W ∧ β.cl = γ.cl
theorem bkE.B {β γ : Bk} (h : bkE β γ) (hB : bkB γ) : bkB β := by
  obtain ⟨h1, h2, -, -⟩ := h
  unfold bkB at *
  rw [h1 0 (by decide) (by decide), h1 1 (by decide) (by decide), h1 2 (by decide) (by decide), h1 3 (by decide) (by decide), h1 4 (by decide) (by decide), h1 5 (by decide) (by decide)]
  refine ⟨hB.1, hB.2.1, hB.2.2.1, hB.2.2.2.1, hB.2.2.2.2.1, hB.2.2.2.2.2.1, fun s s0 s1 => ?_⟩
  rw [(h2 s s0 s1).1, (h2 s s0 s1).2]
  exact hB.2.2.2.2.2.2 s s0 s1
theorem bkE.cn {β γ : Bk} (h : bkE β γ) {mk : Int → Int} (hc : cnM γ mk) : cnM β mk := fun m hm => hc m (by rw [← h.1 2 (by decide) (by decide)]; exact hm)
theorem bkE.tr {β γ δ : Bk} (h : bkE β γ) (h2 : bkE γ δ) : bkE β δ := ⟨fun i a b => (h.1 i a b).trans (h2.1 i a b), fun s a b => ⟨(h.2.1 s a b).1.trans (h2.2.1 s a b).1, (h.2.1 s a b).2.trans (h2.2.1 s a b).2⟩, h.2.2.1.trans h2.2.2.1, h.2.2.2.trans h2.2.2.2⟩
theorem bkE.sy {β γ : Bk} (h : bkE β γ) : bkE γ β := ⟨fun i a b => (h.1 i a b).symm, fun s a b => ⟨(h.2.1 s a b).1.symm, (h.2.1 s a b).2.symm⟩, h.2.2.1.symm, h.2.2.2.symm⟩
theorem bkE.rf {β : Bk} : bkE β β := ⟨fun _ _ _ => rfl, fun _ _ _ => ⟨rfl, rfl⟩, rfl, rfl⟩
theorem mBk.ev {a : Int → Int} {o : Int} {β γ : Bk} (h : mBk a o γ) (e : bkE β γ) : mBk a o β := by
  obtain ⟨⟨h1, h2, h3, h4, h5, h6⟩, ht, hB, lw, lc, l1, l2, l3, l4, l5⟩ := h
  obtain ⟨e1, e2, e3, e4⟩ := e
  refine ⟨⟨by rw [h1, e1 5 (by decide) (by decide)], by rw [h2, e1 2 (by decide) (by decide)], by rw [h3, e1 3 (by decide) (by decide)], by rw [h4, e1 0 (by decide) (by decide)], by rw [h5, e1 1 (by decide) (by decide)], by rw [h6, e1 4 (by decide) (by decide)]⟩, fun s s0 s1 => ?_, bkE.B ⟨e1, e2, e3, e4⟩ hB, lw, lc, l1, l2, l3, by rw [e3, l4], by rw [e4, l5]⟩
  rw [(ht s s0 s1).1, (ht s s0 s1).2, (e2 s s0 s1).1, (e2 s s0 s1).2]
  exact ⟨rfl, rfl⟩
theorem codeL_cg {f g : Int → Int} : ∀ (n : Nat) (i : Int), (∀ j, i ≤ j → j < i + n → f j = g j) → codeL f i n = codeL g i n
  | 0, _, _ => rfl
  | n + 1, i, h => by
    show f i :: codeL f (i + 1) n = g i :: codeL g (i + 1) n
    rw [h i (by omega) (by omega), codeL_cg n (i + 1) (fun j a b => h j (by omega) (by omega))]
/-- a book that was copied -/
theorem bk_cp {ct c : mbCt} {b o : Int} (hW : bkWf ct o) (hZ : bkZ ct o) (e0 : ∀ j, 0 ≤ j → j ≤ 10 → c b j = ct o j) (e2 : ∀ j, 0 ≤ j → j < 8 → c (b + 2) j = ct (o + 2) j) (e3 : ∀ j, 0 ≤ j → j < 8 → c (b + 3) j = ct (o + 3) j) (e4 : ∀ j, 0 ≤ j → j < ct o 6 → c (b + 4) j = ct (o + 4) j) : bkE (bkOf c b) (bkOf ct o) ∧ bkWf c b ∧ bkZ c b := by
  have e7 := e0 7 (by decide) (by decide)
  have e8 := e0 8 (by decide) (by decide)
  have e9 := e0 9 (by decide) (by decide)
  have e10 := e0 10 (by decide) (by decide)
  have e6 := e0 6 (by decide) (by decide)
  obtain ⟨⟨w1, w2, w3, w4⟩, v1, v2, v3, v4⟩ := hW
  obtain ⟨z1, z2, z3⟩ := hZ
  have k1 : codeL (c (b + 4)) (ct o 7) (ct o 8 - ct o 7).toNat = codeL (ct (o + 4)) (ct o 7) (ct o 8 - ct o 7).toNat := codeL_cg _ _ (fun j a b => e4 j (by omega) (by omega))
  have k2 : codeL (c (b + 4)) (ct o 9) (ct o 10 - ct o 9).toNat = codeL (ct (o + 4)) (ct o 9) (ct o 10 - ct o 9).toNat := codeL_cg _ _ (fun j a b => e4 j (by omega) (by omega))
  refine ⟨⟨fun i a b => e0 i a (by omega), fun s a b => ⟨e2 s a b, e3 s a b⟩, ?_, ?_⟩, ?_, ?_⟩
  · show wouldB c b = wouldB ct o
    funext st w m y
    unfold wouldB
    rw [e7, e8, k1]
  · show closesB c b = closesB ct o
    funext st
    unfold closesB
    rw [e9, e10, k2]
  · unfold bkWf wfL noAsk
    rw [e7, e8, e9, e10, k1, k2]
    exact ⟨⟨w1, w2, w3, w4⟩, v1, v2, v3, v4⟩
  · unfold bkZ
    rw [e6, e8, e10]
    exact ⟨z1, z2, z3⟩
abbrev bk4 (b : Int) : Prop := b = 2 ∨ b = 7 ∨ b = 49 ∨ b = 57
theorem lk_bk {b k : Int} (hb : bk4 b) (k0 : 0 ≤ k) (k1 : k ≤ 10) : lkF b k = none := by
  obtain ⟨j, rfl, hj⟩ : ∃ j : Nat, k = j ∧ j < 11 := ⟨k.toNat, by omega, by omega⟩
  have h : ∀ j : Fin 11, lkF 2 (j.val : Int) = none ∧ lkF 7 (j.val : Int) = none ∧ lkF 49 (j.val : Int) = none ∧ lkF 57 (j.val : Int) = none := by decide +kernel
  have := h ⟨j, hj⟩
  rcases hb with rfl | rfl | rfl | rfl
  · exact this.1
  · exact this.2.1
  · exact this.2.2.1
  · exact this.2.2.2
theorem lk_bkR {b e : Int} (hb : bk4 b) (he : e = 1 ∨ e = 2 ∨ e = 3 ∨ e = 4) (k : Int) : lkF (b + e) k = none := by
  rcases hb with rfl | rfl | rfl | rfl <;> rcases he with rfl | rfl | rfl | rfl <;> exact lkF_none rfl k
theorem LK.bb {ct : mbCt} {b o : Int} (L : LK ct) (hb : bk4 b) : LK (bbC ct b o) := by
  intro x k v hv
  unfold bbC
  rw [if_neg (fun z => by rw [z.1, lk_bk hb z.2.1 z.2.2] at hv; cases hv), if_neg (fun z => by rw [z.1, lk_bkR hb (Or.inl rfl) k] at hv; cases hv), if_neg (fun z => by rw [z.1, lk_bkR hb (Or.inr (Or.inl rfl)) k] at hv; cases hv), if_neg (fun z => by rw [z.1, lk_bkR hb (Or.inr (Or.inr (Or.inl rfl))) k] at hv; cases hv), if_neg (fun z => by rw [z.1, lk_bkR hb (Or.inr (Or.inr (Or.inr rfl))) k] at hv; cases hv)]
  exact L x k v hv
theorem LK.be {ct : mbCt} {a o : Int} (L : LK ct) (h0 : lkF a 0 = none) (h1 : lkF a 1 = none) (h2 : ∀ k, lkF (a + 1) k = none) : LK (beC ct a o) := by
  intro x k v hv
  unfold beC
  rw [if_neg (fun z => by rw [z.1, z.2, h0] at hv; cases hv), if_neg (fun z => by rw [z.1, z.2, h1] at hv; cases hv), if_neg (fun z => by rw [z.1, h2] at hv; cases hv)]
  exact L x k v hv
section
variable (d : Nat) (sh : mbSh) (ct : mbCt) {b : Int} {β : Bk} {s : Sit} {q : Int} {N : Nat} {V n : Int} {pl : Int → Sit}
/-- a book is settled: what was worked out of another is forgotten -/
theorem x_settle {ct0 : mbCt} {b0 : Int} {β0 : Bk} {s0 : Sit} (S : SH sh) (X : CX sh ct0 b0 β0 s0 q N V) (hV : V + 1 < 900000) (L : LK ct) (hb : bkN b) (e : ∀ x : Int, 68 ≤ x → ct x = ct0 x) (h0 : ct 0 2 = b) (hs : sitC ct 12 s) (hB : sitB s) (hcn : cnM (bkOf ct b) s.2.2) (hbk : bkB (bkOf ct b)) (hW : bkWf ct b) (hsh : shR ct b) : Mt YX4_settle (d + 2) [.inr (.inr 70), .inr (.inr b)] sh sh ct (pN fun c => CX sh c b (bkOf ct b) s q N (V + 1) ∧ eqBut [70, 72, 73, 74] ct c) := by
  have hq := X.qc
  have bb : b = 2 ∨ b = 7 := hb
  obtain ⟨g0, gs, -, ⟨mk0, hk⟩, sq, hv, hV0⟩ := X
  have hn3 : 0 ≤ ct b 3 ∧ ct b 3 ≤ 8 := hbk.2.2.2.1
  refine Mt.imp (c_settle d sh ct S L hb hW.1.1 hW.1.2.1 hW.1.2.2.1 hsh hn3.1 hn3.2 hbk.2.2.2.2.2.2) ?_
  rintro r c ⟨rfl, he, h70, h6, hnl, h7, hk7, hz, htu⟩
  have f : ∀ x : Int, x ∉ ([70, 72, 73, 74] : List Int) → c x = ct x := he
  have f0 : ∀ x : Int, 68 ≤ x → x ∉ ([70, 72, 73, 74] : List Int) → c x = ct0 x := fun x a b => (f x b).trans (e x a)
  have hL : LK c := by
    intro x k v hv
    by_cases hx : x = 70
    · subst hx
      by_cases k0 : k = 0
      · subst k0; cases hv
      · by_cases k6 : k = 6
        · subst k6; cases hv
        · by_cases k7 : k = 7
          · subst k7; cases hv
          · rw [hk7 k k0 k6 k7]; exact L _ _ _ hv
    · by_cases hx2 : x = 72
      · rw [hx2, lkF_none rfl k] at hv; cases hv
      · by_cases hx3 : x = 73
        · rw [hx3, lkF_none rfl k] at hv; cases hv
        · by_cases hx4 : x = 74
          · rw [hx4, lkF_none rfl k] at hv; cases hv
          · rw [f x (by simp; omega)]; exact L _ _ _ hv
  have fb0 : c b = ct b := f b (by simp; omega)
  have fb2 : c (b + 2) = ct (b + 2) := f _ (by simp; omega)
  have fb3 : c (b + 3) = ct (b + 3) := f _ (by simp; omega)
  have fb4 : c (b + 4) = ct (b + 4) := f _ (by simp; omega)
  have hbo : bkOf c b = bkOf ct b := bkOf_eq fb0 fb2 fb3 fb4
  generalize hγ : bkOf ct b = γ at *
  have hγn : ∀ i, γ.n i = ct b i := fun i => by rw [← hγ]; rfl
  have hmr := hk.1.mr
  have e71 : c 71 = ct0 71 := f0 71 (by decide) (by decide)
  have e07 : ct 70 7 = ct0 70 7 := by rw [e 70 (by decide)]
  have hMV : MV c b γ (fun m => if 0 ≤ m ∧ m < γ.n 2 then ct0 71 m else 0) := by
    refine ⟨⟨hL, hb, h70⟩, ⟨bkWf_eq fb0 fb4 hW, by rw [f0 69 (by decide) (by decide)]; exact hk.1.ask⟩, ⟨fun k a b => Or.inl (hz k a b).1, fun k a b => Or.inl (hz k a b).2, htu⟩, ⟨h6, fun h => ?_⟩, ?_, by rw [e71]; exact hmr, hbo, fun m m0 m1 => by rw [e71]; exact (if_pos ⟨m0, m1⟩).symm⟩
    · have := hnl h
      unfold noLast at *
      rw [fb0, fb4]
      exact this
    · rw [fb0]
      have h2 := hbk.2.2.1
      rw [hγn] at h2
      exact ⟨h2.1, h2.2, hn3.1, hn3.2⟩
  have key : CK c b γ (fun m => if 0 ≤ m ∧ m < γ.n 2 then ct0 71 m else 0) q N := by
    have hWI := hk.2.2.1
    have hG := hk.2.2.2.1
    have hLY := hk.2.2.2.2
    obtain ⟨⟨w1, w2, w3, w4, w5, w6, w7, w8, w9, w10⟩, wd⟩ := hWI
    have e77 : c 77 = ct0 77 := f0 77 (by decide) (by decide)
    have e79 : c 79 = ct0 79 := f0 79 (by decide) (by decide)
    have e87 : c 87 = ct0 87 := f0 87 (by decide) (by decide)
    have e80 : c 80 = ct0 80 := f0 80 (by decide) (by decide)
    have wr' : WR c q N := by
      refine ⟨by rw [e77]; exact w1, w2, w3, ?_, by rw [e77]; exact w5, by rw [e77]; exact w6, by rw [e77]; exact w7, by rw [e77]; exact w8, ?_, by rw [e77]; exact w10⟩
      · unfold rclr rbit at *
        rw [e79]
        exact w4
      · rw [e77]
        omega
    have hlt : ∀ z, z ≤ ct0 70 7 → z = c 70 7 → False := fun z a b => by omega
    obtain ⟨g1, g2, g3, g4, g5⟩ := hG
    obtain ⟨l1, ⟨z, z1, z2, z3⟩, l3, l4, l5, l6, l7⟩ := hLY
    have et : ∀ f', c (tG f') = ct0 (tG f') := by
      intro f'
      cases f'
      · exact f0 89 (by decide) (by decide)
      · exact f0 88 (by decide) (by decide)
    refine ⟨hMV, fun m hm => if_neg hm, ⟨wr', fun hh => (hlt _ (by rw [e77]; exact w9.2.1) hh).elim⟩, ⟨fun f' => by rw [et f']; exact g1 f', by rw [e87]; omega, by rw [e87]; exact g3, by rw [e87]; exact g4, fun hh => (hlt _ (by rw [e87]; exact g2.2) hh).elim⟩, l1.cg e80 (f0 85 (by decide) (by decide)) (f0 86 (by decide) (by decide)), ⟨z, by rw [e80]; exact z1, z2, fun hh => (hlt _ (by rw [e80]; exact l5.2) hh).elim⟩, by rw [f0 81 (by decide) (by decide)]; exact l3, by rw [e80]; exact l4, by rw [e80]; omega, by rw [e80]; exact l6, by rw [e80]; exact l7⟩
  exact ⟨rfl, ⟨by rw [f 0 (by decide)]; exact h0, hs.cg (f 12 (by decide)) (f 13 (by decide)), ⟨hB, hcn, hbk⟩, ⟨_, key⟩, sq, by omega, hV⟩, he⟩
end
