/-! MinuteBook: the pile of sittings -/
def PC (ct : mbCt) (β : Bk) (n : Int) (pl : Int → Sit) : Prop := (0 ≤ ct 16 1 ∧ ct 16 1 < 10) ∧ ct 16 2 = n ∧ (0 ≤ n ∧ n ≤ 10) ∧ ∀ k, 0 ≤ k → k < n → sitC ct (18 + 2 * ((ct 16 1 + k) % 10)) (pl k) ∧ sitB (pl k) ∧ cnM β (pl k).2.2
theorem PC.cg {ct c : mbCt} {β : Bk} {n : Int} {pl : Int → Sit} (h : PC ct β n pl) (e : ∀ x : Int, 16 ≤ x → x ≤ 37 → c x = ct x) : PC c β n pl := by
  have e16 := e 16 (by decide) (by decide)
  refine ⟨by rw [e16]; exact h.1, by rw [e16]; exact h.2.1, h.2.2.1, fun k k0 k1 => ?_⟩
  rw [e16]
  have := h.2.2.2 k k0 k1
  exact ⟨this.1.cg (e _ (by omega) (by omega)) (e _ (by omega) (by omega)), this.2⟩
theorem PC.push {ct : mbCt} {β : Bk} {n : Int} {pl : Int → Sit} {o : Int} {w : Sit} (h : PC ct β n pl) (ho : o = 12 ∨ o = 14) (hw : sitC ct o w) (hB : sitB w) (hc : cnM β w.2.2) : PC (plC ct o) β (pushN n) (pushP n pl w) := by
  obtain ⟨h1, h2, h3, h4⟩ := h
  have hE : 0 ≤ plE ct ∧ plE ct < 10 := by
    unfold plE
    split <;> omega
  have hN : plN ct + 1 = pushN n ∧ 0 ≤ plN ct ∧ plN ct < 10 := by
    unfold plN pushN
    rw [h2]
    split <;> omega
  have p1 : plC ct o 16 1 = plE ct := by
    unfold plC
    rw [if_pos ⟨rfl, rfl⟩]
  have p2 : plC ct o 16 2 = plN ct + 1 := by
    unfold plC
    rw [if_neg (by decide), if_pos ⟨rfl, rfl⟩]
  have p3 : ∀ x j, x ≠ 16 → plC ct o x j = beC ct (18 + 2 * ((plE ct + plN ct) % 10)) o x j := by
    intro x j hx
    unfold plC
    rw [if_neg (fun z => hx z.1), if_neg (fun z => hx z.1)]
  refine ⟨by rw [p1]; exact hE, by rw [p2]; exact hN.1, by omega, fun k k0 k1 => ?_⟩
  rw [p1]
  by_cases hk : k = plN ct
  · have hv : pushP n pl w k = w := by
      unfold pushP
      unfold plN at hk
      rw [h2] at hk
      split at hk
      · rw [if_pos (by assumption), if_pos hk]
      · rw [if_neg (by assumption), if_pos hk]
    rw [hv, hk]
    refine ⟨⟨?_, ?_, fun m m0 m1 => ?_⟩, hB, hc⟩
    · rw [p3 _ _ (by omega)]
      unfold beC
      rw [if_pos ⟨rfl, rfl⟩]
      exact hw.1
    · rw [p3 _ _ (by omega)]
      unfold beC
      rw [if_neg (fun z => absurd z.2 (by decide)), if_pos ⟨rfl, rfl⟩]
      exact hw.2.1
    · rw [p3 _ _ (by omega)]
      unfold beC
      rw [if_neg (by omega), if_neg (by omega), if_pos ⟨rfl, m0, m1⟩]
      exact hw.2.2 m m0 m1
  · have key : ∃ k', 0 ≤ k' ∧ k' < n ∧ pushP n pl w k = pl k' ∧ (ct 16 1 + k') % 10 = (plE ct + k) % 10 ∧ (plE ct + k) % 10 ≠ (plE ct + plN ct) % 10 := by
      unfold pushP
      unfold plN at hk
      unfold plN plE
      unfold plN at hN
      rw [h2] at hk hN ⊢
      by_cases hn : n = 10
      · rw [if_pos hn] at hk hN
        simp only [if_pos hn]
        exact ⟨k + 1, by omega, by omega, by rw [if_neg hk], by omega, by omega⟩
      · rw [if_neg hn] at hk hN
        simp only [if_neg hn]
        exact ⟨k, by omega, by omega, by rw [if_neg hk], by omega, by omega⟩
    obtain ⟨k', a0, a1, a2, a3, a4⟩ := key
    rw [a2]
    have := h4 k' a0 a1
    rw [a3] at this
    refine ⟨this.1.cg ?_ ?_, this.2⟩
    · funext j
      rw [p3 _ _ (by omega)]
      unfold beC
      rw [if_neg (by omega), if_neg (by omega), if_neg (by omega)]
    · funext j
      rw [p3 _ _ (by omega)]
      unfold beC
      rw [if_neg (by omega), if_neg (by omega), if_neg (by omega)]
