/-! an answer is one -/
section
variable {β : Bk} {mk : Int → Int} {st tone i m w r r2 : Int} {sz : Int → Int} {vl : Int → Int → Int} {t : Int} {tl : Int → Int}
theorem wyS.uni {qu un mo : Int} {M : Nat} (h : wyS β mk st qu un mo tone M r) (h2 : wyS β mk st qu un mo tone M r2) : r = r2 := WayOk.uni h h2
theorem miS.uni {qu un mo : Int} {M : Nat} (h : miS β mk st qu un mo tone M i r) (h2 : miS β mk st qu un mo tone M i r2) : r = r2 := MinOk.uni h h2
theorem qShort.uni (h : qShort β mk st tone r) (h2 : qShort β mk st tone r2) : r = r2 := by
  rcases h with ⟨a, b⟩ | ⟨a, b⟩
  · rcases h2 with ⟨c, d⟩ | ⟨c, d⟩
    · exact b.uni d
    · exact absurd a c
  · rcases h2 with ⟨c, d⟩ | ⟨c, d⟩
    · exact absurd c a
    · rw [b, d]
theorem qMin.uni {M : Nat} (h : qMin β mk st tone i M r) (h2 : qMin β mk st tone i M r2) : r = r2 := by
  rcases h with ⟨a, a1, b⟩ | ⟨a, b⟩
  · rcases h2 with ⟨c, c1, d⟩ | ⟨c, d⟩
    · exact b.uni d
    · exact absurd ⟨a, a1⟩ c
  · rcases h2 with ⟨c, c1, d⟩ | ⟨c, d⟩
    · exact absurd ⟨c, c1⟩ a
    · rw [b, d]
theorem qFull.uni (h : qFull β mk st tone r) (h2 : qFull β mk st tone r2) : r = r2 := by
  rcases h with ⟨a, b⟩ | ⟨a, b⟩
  · rcases h2 with ⟨c, d⟩ | ⟨c, d⟩
    · exact b.uni d
    · exact absurd a c
  · rcases h2 with ⟨c, d⟩ | ⟨c, d⟩
    · exact absurd c a
    · rw [b, d]
theorem qWithout.uni (h : qWithout β mk st m tone r) (h2 : qWithout β mk st m tone r2) : r = r2 := by
  rcases h with ⟨a, a1, b⟩ | ⟨a, a1, b⟩ | ⟨a, b⟩
  · rcases h2 with ⟨c, c1, d⟩ | ⟨c, c1, d⟩ | ⟨c, d⟩
    · exact b.uni d
    · exact absurd a1 c1
    · exact absurd a c
  · rcases h2 with ⟨c, c1, d⟩ | ⟨c, c1, d⟩ | ⟨c, d⟩
    · exact absurd c1 a1
    · rw [b, d]
    · exact absurd a c
  · rcases h2 with ⟨c, c1, d⟩ | ⟨c, c1, d⟩ | ⟨c, d⟩
    · exact absurd c a
    · exact absurd c a
    · rw [b, d]
theorem qNeeded.uni (h : qNeeded β mk st tone r) (h2 : qNeeded β mk st tone r2) : r = r2 := by
  rcases h with ⟨a, a1, b⟩ | ⟨a, a1, b⟩ | ⟨a, b⟩
  · rcases h2 with ⟨c, c1, d⟩ | ⟨c, c1, d⟩ | ⟨c, d⟩
    · exact isSet.uni b d
    · exact absurd a1 c1
    · exact absurd a c
  · rcases h2 with ⟨c, c1, d⟩ | ⟨c, c1, d⟩ | ⟨c, d⟩
    · exact absurd c1 a1
    · rw [b, d]
    · exact absurd a c
  · rcases h2 with ⟨c, c1, d⟩ | ⟨c, c1, d⟩ | ⟨c, d⟩
    · exact absurd c a
    · exact absurd c a
    · rw [b, d]
theorem qRows.uni {n : Int} (h : qRows β mk st tone n r) (h2 : qRows β mk st tone n r2) : r = r2 := by
  rcases h with ⟨a, a1, b⟩ | ⟨a, b⟩
  · rcases h2 with ⟨c, c1, d⟩ | ⟨c, d⟩
    · rw [b, d]
    · exact absurd ⟨a, a1⟩ c
  · rcases h2 with ⟨c, c1, d⟩ | ⟨c, d⟩
    · exact absurd ⟨c, c1⟩ a
    · rw [b, d]
theorem clmH.uni {h h2 : Int} (a : clmH β mk st tone h) (b : clmH β mk st tone h2) : h = h2 := by
  obtain ⟨a1, a0, a2, a3⟩ := a
  obtain ⟨b1, b0, b2, b3⟩ := b
  apply Classical.byContradiction
  intro z
  by_cases hl : h < h2
  · exact b3 h (by omega) hl a2
  · exact a3 h2 (by omega) (by omega) b2
theorem qCalm.uni (h : qCalm β mk st tone w r) (h2 : qCalm β mk st tone w r2) : r = r2 := by
  rcases h with ⟨a, b⟩ | ⟨a, a1, b⟩ | ⟨a, a1, b⟩
  · rcases h2 with ⟨c, d⟩ | ⟨c, c1, d⟩ | ⟨c, c1, d⟩
    · rw [b, d]
    · exact absurd c a
    · exact absurd c a
  · rcases h2 with ⟨c, d⟩ | ⟨c, c1, d⟩ | ⟨c, c1, d⟩
    · exact absurd a c
    · rw [b, d]
    · exact absurd c1 a1
  · rcases h2 with ⟨c, d⟩ | ⟨c, c1, d⟩ | ⟨c, c1, d⟩
    · exact absurd a c
    · exact absurd a1 c1
    · rcases b with ⟨b, bn⟩ | ⟨h, hc, b⟩
      · rcases d with ⟨d, dn⟩ | ⟨k, kc, d⟩
        · rw [b, d]
        · exact absurd kc.2.2.1 (bn k kc.1 kc.2.1)
      · rcases d with ⟨d, dn⟩ | ⟨k, kc, d⟩
        · exact absurd hc.2.2.1 (dn h hc.1 hc.2.1)
        · have e := hc.uni kc
          subst e
          rcases b with ⟨b0, b⟩ | ⟨b0, b⟩ | ⟨b0, b⟩
          · rcases d with ⟨d0, d⟩ | ⟨d0, d⟩ | ⟨d0, d⟩
            · rw [b, d]
            · omega
            · omega
          · rcases d with ⟨d0, d⟩ | ⟨d0, d⟩ | ⟨d0, d⟩
            · omega
            · exact b.uni d
            · omega
          · rcases d with ⟨d0, d⟩ | ⟨d0, d⟩ | ⟨d0, d⟩
            · omega
            · omega
            · exact b.uni d
theorem kwS_cg2 {L L2 : Nat → Int} {now : Int} : ∀ k : Nat, (∀ s, s < k → L s = L2 s) → kwS L now k = kwS L2 now k
  | 0, _ => rfl
  | k + 1, h => by
    have ih := kwS_cg2 (L := L) (L2 := L2) (now := now) k (fun s hs => h s (by omega))
    unfold kwS
    rw [ih, h k (by omega)]
theorem qKey.uni (h : qKey β mk st r) (h2 : qKey β mk st r2) : r = r2 := by
  rcases h with ⟨a, b⟩ | ⟨a, L, now, b1, b2, b3⟩
  · rcases h2 with ⟨c, d⟩ | ⟨c, d⟩
    · rw [b, d]
    · exact absurd c a
  · rcases h2 with ⟨c, d⟩ | ⟨c, L2, now2, d1, d2, d3⟩
    · exact absurd a c
    · have e := b1.uni d1
      subst e
      rw [b3, d3, kwS_cg2 (L := L) (L2 := L2) _ (fun s hs => ?_)]
      obtain ⟨v, v1, v2⟩ := b2 s (by omega)
      obtain ⟨u, u1, u2⟩ := d2 s (by omega)
      rw [v2, u2, v1.uni u1]
theorem qRight.uni (h : qRight β mk st sz vl t tone i tl r) (h2 : qRight β mk st sz vl t tone i tl r2) : r = r2 := by
  obtain ⟨no, n1, a⟩ := h
  obtain ⟨no2, n2, c⟩ := h2
  have e := n1.uni n2
  subst e
  rcases a with ⟨a, b⟩ | ⟨a, b⟩
  · rcases c with ⟨c, d⟩ | ⟨c, d⟩
    · rw [b, d]
    · exact absurd c a
  · rcases c with ⟨c, d⟩ | ⟨c, d⟩
    · exact absurd a c
    · rcases b with ⟨b0, b⟩ | ⟨b0, b⟩
      · rcases d with ⟨d0, d⟩ | ⟨d0, d⟩
        · rw [b, d]
        · omega
      · rcases d with ⟨d0, d⟩ | ⟨d0, d⟩
        · omega
        · rcases b with ⟨b1, b⟩ | ⟨b1, b2, b⟩
          · rcases d with ⟨d1, d⟩ | ⟨d1, d2, d⟩
            · rw [b, d]
            · rcases b1 with b1 | b1
              · exact absurd b1 d1
              · omega
          · rcases d with ⟨d1, d⟩ | ⟨d1, d2, d⟩
            · rcases d1 with d1 | d1
              · exact absurd d1 b1
              · omega
            · exact b.uni d
theorem qBack.uni (h : qBack β mk st sz vl t tone tl r) (h2 : qBack β mk st sz vl t tone tl r2) : r = r2 := by
  obtain ⟨no, n1, a⟩ := h
  obtain ⟨no2, n2, c⟩ := h2
  have e := n1.uni n2
  subst e
  rcases a with ⟨a, b⟩ | ⟨a, b⟩
  · rcases c with ⟨c, d⟩ | ⟨c, d⟩
    · rw [b, d]
    · exact absurd c a
  · rcases c with ⟨c, d⟩ | ⟨c, d⟩
    · exact absurd a c
    · rcases b with ⟨b0, b⟩ | ⟨b0, b⟩
      · rcases d with ⟨d0, d⟩ | ⟨d0, d⟩
        · rw [b, d]
        · exact absurd b0 d0
      · rcases d with ⟨d0, d⟩ | ⟨d0, d⟩
        · exact absurd d0 b0
        · rw [b, d]
/-- an answer behind a refusal -/
theorem noE {P : Int → Prop} {Q : Int → Prop} (hP : ∀ x y, P x → P y → x = y) (hQ : ∀ x y, Q x → Q y → x = y) (h : ∃ no, P no ∧ ((no ≠ 0 ∧ r = no) ∨ (no = 0 ∧ Q r))) (h2 : ∃ no, P no ∧ ((no ≠ 0 ∧ r2 = no) ∨ (no = 0 ∧ Q r2))) : r = r2 := by
  obtain ⟨no, n1, a⟩ := h
  obtain ⟨no2, n2, c⟩ := h2
  have e := hP _ _ n1 n2
  subst e
  rcases a with ⟨a, b⟩ | ⟨a, b⟩
  · rcases c with ⟨c, d⟩ | ⟨c, d⟩
    · rw [b, d]
    · exact absurd c a
  · rcases c with ⟨c, d⟩ | ⟨c, d⟩
    · exact absurd a c
    · exact hQ _ _ b d
end
