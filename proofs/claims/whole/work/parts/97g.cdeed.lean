/-! MinuteBook: deeds -/
section
variable {sh : mbSh} {ct c : mbCt} {b : Int} {β : Bk} {s s2 : Sit} {q : Int} {N : Nat} {V : Int} {mk : Int → Int}
theorem MV.of (h : MV ct b β mk) (hL : LK c) (eb : ∀ x : Int, 2 ≤ x → x ≤ 11 → c x = ct x) (e : ∀ x : Int, 68 ≤ x → c x = ct x) : MV c b β mk := by
  have bb : b = 2 ∨ b = 7 := h.hb
  have e0 : c b = ct b := eb b (by omega) (by omega)
  have e2 : c (b + 2) = ct (b + 2) := eb _ (by omega) (by omega)
  have e3 : c (b + 3) = ct (b + 3) := eb _ (by omega) (by omega)
  have e4 : c (b + 4) = ct (b + 4) := eb _ (by omega) (by omega)
  have e70 : c 70 = ct 70 := e 70 (by decide)
  have e71 : c 71 = ct 71 := e 71 (by decide)
  have e74 : c 74 = ct 74 := e 74 (by decide)
  refine ⟨⟨hL, h.hb, by rw [e70]; exact h.h0⟩, ⟨bkWf_eq e0 e4 h.wf, by rw [e 69 (by decide)]; exact h.ask⟩, ⟨mvMin_eq e0 e4 e71 (e 72 (by decide)) h.mn, mvCl_eq e0 e4 (e 73 (by decide)) h.cl, ?_⟩, ⟨by rw [e70]; exact h.la.1, ?_⟩, by rw [e0]; exact h.rg, by rw [e71]; exact h.mr, by rw [bkOf_eq e0 e2 e3 e4]; exact h.bk, by rw [e71]; exact h.mks⟩
  · have t := h.tu
    unfold mvTurn at *
    rw [e0, e2, e3, e74]
    exact t
  · have t := h.la.2
    unfold noLast at *
    rw [e70, e0, e4]
    exact t
/-- the sitting has changed, the book and what was worked out have not -/
theorem CX.sit (X : CX sh ct b β s q N V) (hL : LK c) (h0 : c 0 2 = ct 0 2) (eb : ∀ x : Int, 2 ≤ x → x ≤ 11 → c x = ct x) (e : ∀ x : Int, 68 ≤ x → c x = ct x) (hs : sitC c 12 s2) (hB : sitB s2) (hcn : cnM β s2.2.2) : CX sh c b β s2 q N V := by
  have hq := X.qc
  obtain ⟨g0, gs, ⟨gB, gc, gbk⟩, ⟨mk, hK⟩, sq, hv, hV⟩ := X
  have e70 : c 70 = ct 70 := e 70 (by decide)
  have eq : c q = ct q := e q (by rcases hq with h | h <;> omega)
  exact ⟨by rw [h0]; exact g0, hs, ⟨hB, hcn, gbk⟩, ⟨mk, hK.1.of hL eb e, hK.2.1, hK.2.2.1.mv (e 77 (by decide)) eq (e 79 (by decide)) e70, hK.2.2.2.1.cg e70 (e 87 (by decide)) (e 88 (by decide)) (e 89 (by decide)), hK.2.2.2.2.cg (by rw [e70]) (fun x a b => e x (by omega))⟩, sq, by rw [e70]; exact hv, hV⟩
end
