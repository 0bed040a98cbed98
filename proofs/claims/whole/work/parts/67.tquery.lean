/-! what the questions of searches ask for; the reference answers so -/
def useN (qu un : Int) : Nat := bset (fun i => decide (((i / 8 : Nat) : Int) ≠ qu ∧ ((i % 8 : Nat) : Int) ≠ un)) 48
theorem useN_ok (qu un : Int) : useOk (useN qu un) qu un := by
  intro i hi
  unfold useN
  rw [bset_bit]
  simp [hi]
theorem scW_use {β : Bk} {mk : Int → Int} {U V : Nat} {qu un : Int} (hU : useOk U qu un) (hV : useOk V qu un) (cap w : Int) : scW β mk U cap w = scW β mk V cap w := by
  funext x
  rw [scW_eq, scW_eq]
  congr 1
  apply List.filter_congr
  intro i hi
  have h := List.mem_range.mp hi
  unfold alB
  rw [Nat.testBit_and, Nat.testBit_and]
  have : U.testBit i = V.testBit i := by
    have h1 := hU i h
    have h2 := hV i h
    cases hu : U.testBit i <;> cases hv : V.testBit i
    · rfl
    · exact absurd (h1.mpr (h2.mp hv)) (by rw [hu]; decide)
    · exact absurd (h2.mpr (h1.mp hu)) (by rw [hv]; decide)
    · rfl
  rw [this]
/-- some way; the shortest way's length; its i-th minute -/
def anyW (β : Bk) (mk : Int → Int) (st qu un mo tone : Int) (M : Nat) : Prop := ∃ n, Rn (scW β mk (useN qu un) mo (wM M)) (goalW β tone (wM M)) n (st, 0)
def wyS (β : Bk) (mk : Int → Int) (st qu un mo tone : Int) (M : Nat) (r : Int) : Prop := WayOk (scW β mk (useN qu un) mo (wM M)) (goalW β tone (wM M)) (st, 0) r
def miS (β : Bk) (mk : Int → Int) (st qu un mo tone : Int) (M : Nat) (i r : Int) : Prop := MinOk (scW β mk (useN qu un) mo (wM M)) (goalW β tone (wM M)) (st, 0) i r
theorem wyS.none {β : Bk} {mk : Int → Int} {st qu un mo tone r : Int} {M : Nat} (h : wyS β mk st qu un mo tone M r) : r = -1 ↔ ¬ anyW β mk st qu un mo tone M := by
  rcases h with ⟨a, b⟩ | ⟨n, a, b, -⟩
  · exact ⟨fun _ ⟨n, h⟩ => b n h, fun _ => a⟩
  · exact ⟨fun z => by omega, fun z => absurd ⟨n, b⟩ z⟩
theorem wyS.ge {β : Bk} {mk : Int → Int} {st qu un mo tone r : Int} {M : Nat} (h : wyS β mk st qu un mo tone M r) : -1 ≤ r := by
  rcases h with ⟨a, b⟩ | ⟨n, a, b, -⟩ <;> omega
/-- the frame of the reference's questions -/
def RF : List Int := [92, 97, 98, 100, 101, 102, 103, 104, 105, 106, 107, 108, 109, 110]
def mF (ct c : mbCt) : Prop := eqBut RF ct c ∧ ∀ k, k ≠ 0 → c 92 k = ct 92 k
section
variable {ct c c2 : mbCt}
theorem mF.rf : mF ct ct := ⟨eqBut.rf, fun _ _ => rfl⟩
theorem mF.tr (h : mF ct c) (h2 : mF c c2) : mF ct c2 := ⟨h.1.tr h2.1, fun k hk => (h2.2 k hk).trans (h.2 k hk)⟩
theorem mF.of {A : List Int} (h : eqBut A ct c) (hA : (A.all fun x => decide (x ∈ RF ∧ x ≠ 92)) = true) : mF ct c := by
  have hA2 : ∀ x ∈ A, x ∈ RF ∧ x ≠ 92 := fun x hx => by simpa using (List.all_eq_true.mp hA x hx)
  refine ⟨h.mono (fun x hx => (hA2 x hx).1), fun k _ => ?_⟩
  rw [h 92 (fun z => (hA2 92 z).2 rfl)]
theorem mF.th {v : Int} : mF ct (wr ct 92 0 v) := ⟨eqBut.rf.wr (by decide), fun k hk => wr_nk hk⟩
theorem mF.L (h : mF ct c) (L : LK ct) : LK c := by
  refine L.but h.1 ?_
  intro a ha k v hv
  by_cases h92 : a = 92
  · subst h92
    by_cases hk : k = 0
    · subst hk
      cases hv
    · rw [h.2 k hk]
      exact L _ _ _ hv
  · have : ((lkT[a.toNat]?).getD []) = [] := by
      unfold RF at ha
      simp at ha
      rcases ha with rfl | rfl | rfl | rfl | rfl | rfl | rfl | rfl | rfl | rfl | rfl | rfl | rfl | rfl
      · exact absurd rfl h92
      all_goals rfl
    rw [lkF_none this] at hv
    cases hv
theorem MD.mf {β : Bk} {mk : Int → Int} {st : Int} (h : MD ct β mk st) (e : mF ct c) : MD c β mk st := h.eq (e.L h.L) (e.1 93 (by decide))
end
theorem LM.way {c : mbCt} {β : Bk} {mk : Int → Int} {U M : Nat} {mo tone st r qu un : Int} (hU : useOk U qu un) (h : LM c β mk U mo tone M st r) : wyS β mk st qu un mo tone M r ∧ r ≤ 44800 := by
  unfold wyS
  rw [← scW_use hU (useN_ok qu un)]
  rcases h with ⟨a, b⟩ | ⟨n, l, a, b, e, f, -⟩
  · exact ⟨Or.inl ⟨a, b⟩, by omega⟩
  · exact ⟨Or.inr ⟨n, a, e, f⟩, by omega⟩
theorem LM.min {c : mbCt} {β : Bk} {mk : Int → Int} {U M : Nat} {mo tone st r qu un : Int} (hU : useOk U qu un) (h : LM c β mk U mo tone M st r) {i : Int} (i0 : 0 ≤ i) : miS β mk st qu un mo tone M i (if i < r then c 102 i else -1) := by
  unfold miS
  rw [← scW_use hU (useN_ok qu un)]
  rcases h with ⟨a, b⟩ | ⟨n, l, a, b, e, f, g, k⟩
  · rw [if_neg (by omega)]
    exact Or.inl ⟨rfl, b⟩
  · refine Or.inr ⟨n, l, e, f, g, ?_⟩
    have hl := g.len
    by_cases hi : i < n
    · rw [if_pos (by omega)]
      refine Or.inl ⟨i0, hi, ?_⟩
      have := k i.toNat (by omega)
      rw [show ((i.toNat : Nat) : Int) = i by omega] at this
      rw [this, List.getD_eq_getElem?_getD, List.getElem?_eq_getElem (by omega)]
      rfl
    · rw [if_neg (by omega)]
      exact Or.inr ⟨by omega, rfl⟩
theorem orI_0 {x : Int} (h0 : 0 ≤ x) (h1 : x < 4294967296) : orI x 0 = x := by
  unfold orI
  rw [show ((0 : Int) % 4294967296).toNat = 0 from rfl, Nat.or_zero]
  omega
theorem orI_bit {p : Nat → Bool} {n : Nat} (hn : n < 31) : orI ((bset p n : Nat) : Int) (shlI 1 n) = ((bset p n + 2 ^ n : Nat) : Int) := by
  have h1 := bset_lt p n
  have h2 : 2 ^ n < 2 ^ 31 := Nat.pow_lt_pow_right (by decide) hn
  unfold orI shlI
  rw [show (n : Int) % 32 = n by omega, Int.one_mul]
  have e1 : ((2 : Int) ^ (n : Int).toNat % 4294967296).toNat = 2 ^ n := by
    have : (2 : Int) ^ (n : Int).toNat = ((2 ^ n : Nat) : Int) := by simp
    rw [this]
    omega
  rw [e1, show (((bset p n : Nat) : Int) % 4294967296).toNat = bset p n by omega]
  congr 1
  have := Nat.two_pow_add_eq_or_of_lt (i := n) (b := bset p n) h1 1
  simp at this
  rw [Nat.or_comm, ← this]
  omega
theorem bset_s (p : Nat → Bool) (n : Nat) : bset p (n + 1) = bset p n + (if p n = true then 2 ^ n else 0) := rfl
/-- a set of numbers below n, as bits -/
def isSet (n : Nat) (P : Nat → Prop) (r : Int) : Prop := ∃ p : Nat → Bool, r = (bset p n : Nat) ∧ ∀ i, i < n → (p i = true ↔ P i)
theorem isSet.uni {n : Nat} {P : Nat → Prop} {r r2 : Int} (h : isSet n P r) (h2 : isSet n P r2) : r = r2 := by
  obtain ⟨p, a, b⟩ := h
  obtain ⟨p2, a2, b2⟩ := h2
  rw [a, a2]
  congr 1
  apply bset_cong
  intro i hi
  have e1 := b i hi
  have e2 := b2 i hi
  cases h1 : p i <;> cases h3 : p2 i
  · rfl
  · exact absurd (e1.mpr (e2.mp h3)) (by rw [h1]; decide)
  · exact absurd (e2.mpr (e1.mp h1)) (by rw [h3]; decide)
  · rfl
theorem isSet.zero {P : Nat → Prop} : isSet 0 P 0 := ⟨fun _ => false, rfl, fun i hi => by omega⟩
theorem isSet.up {n : Nat} {P : Nat → Prop} {r v : Int} (h : isSet n P r) (hn : n < 31) (hv : (P n ∧ v = shlI 1 n) ∨ (¬ P n ∧ v = 0)) : isSet (n + 1) P (orI r v) := by
  obtain ⟨p, rfl, b⟩ := h
  have hlt := bset_lt p n
  have h2 : 2 ^ n < 2 ^ 31 := Nat.pow_lt_pow_right (by decide) hn
  refine ⟨fun i => if i = n then (if v = 0 then false else true) else p i, ?_, ?_⟩
  · rw [bset_s]
    have e : bset (fun i => if i = n then (if v = 0 then false else true) else p i) n = bset p n := by
      apply bset_cong
      intro i hi
      show (if i = n then _ else _) = _
      rw [if_neg (by omega)]
    rw [e]
    rcases hv with ⟨-, rfl⟩ | ⟨-, rfl⟩
    · have hne : shlI 1 n ≠ 0 := by
        unfold shlI
        rw [Int.one_mul]
        exact Int.ne_of_gt (Int.pow_pos (by decide))
      rw [orI_bit hn]
      simp [hne]
    · rw [orI_0 (by omega) (by omega)]
      simp
  · intro i hi
    show ((if i = n then (if v = 0 then false else true) else p i) = true) ↔ P i
    by_cases e : i = n
    · subst e
      rw [if_pos rfl]
      rcases hv with ⟨a, rfl⟩ | ⟨a, rfl⟩
      · have hne : shlI 1 i ≠ 0 := by
          unfold shlI
          rw [Int.one_mul]
          exact Int.ne_of_gt (Int.pow_pos (by decide))
        simp [hne, a]
      · simp [a]
    · rw [if_neg e]
      exact b i (by omega)
theorem isSet.rg {n : Nat} {P : Nat → Prop} {r : Int} (h : isSet n P r) (hn : n < 31) : 0 ≤ r ∧ r < 2147483648 := by
  obtain ⟨p, rfl, b⟩ := h
  have hlt := bset_lt p n
  have h2 : 2 ^ n < 2 ^ 31 := Nat.pow_lt_pow_right (by decide) hn
  omega
abbrev isTn (tone : Int) : Prop := -1 ≤ tone ∧ tone ≤ 9
theorem dX12_shortestNow_0 : decode cX12_shortestNow 0 = .ok (.aload_n 0, 1) := by decide +kernel
theorem dX12_shortestNow_1 : decode cX12_shortestNow 1 = .ok (.invokevirtual 351, 3) := by decide +kernel
theorem dX12_shortestNow_4 : decode cX12_shortestNow 4 = .ok (.aload_n 0, 1) := by decide +kernel
theorem dX12_shortestNow_5 : decode cX12_shortestNow 5 = .ok (.iload_n 1, 1) := by decide +kernel
theorem dX12_shortestNow_6 : decode cX12_shortestNow 6 = .ok (.iconst 0, 1) := by decide +kernel
theorem dX12_shortestNow_7 : decode cX12_shortestNow 7 = .ok (.invokevirtual 354, 3) := by decide +kernel
theorem dX12_shortestNow_10 : decode cX12_shortestNow 10 = .ok (.ireturn, 1) := by decide +kernel
theorem dX12_shortest_0 : decode cX12_shortest 0 = .ok (.aload_n 0, 1) := by decide +kernel
theorem dX12_shortest_1 : decode cX12_shortest 1 = .ok (.iconst 0, 1) := by decide +kernel
theorem dX12_shortest_2 : decode cX12_shortest 2 = .ok (.putfield 1, 3) := by decide +kernel
theorem dX12_shortest_5 : decode cX12_shortest 5 = .ok (.iload_n 1, 1) := by decide +kernel
theorem dX12_shortest_6 : decode cX12_shortest 6 = .ok (.invokestatic 358, 3) := by decide +kernel
theorem dX12_shortest_9 : decode cX12_shortest 9 = .ok (.ifCond .eq 11, 3) := by decide +kernel
theorem dX12_shortest_12 : decode cX12_shortest 12 = .ok (.aload_n 0, 1) := by decide +kernel
theorem dX12_shortest_13 : decode cX12_shortest 13 = .ok (.iload_n 1, 1) := by decide +kernel
theorem dX12_shortest_14 : decode cX12_shortest 14 = .ok (.invokevirtual 361, 3) := by decide +kernel
theorem dX12_shortest_17 : decode cX12_shortest 17 = .ok (.goto 5, 3) := by decide +kernel
theorem dX12_shortest_20 : decode cX12_shortest 20 = .ok (.bipush (-3), 2) := by decide +kernel
theorem dX12_shortest_22 : decode cX12_shortest 22 = .ok (.ireturn, 1) := by decide +kernel
theorem dX12_minuteAt_0 : decode cX12_minuteAt 0 = .ok (.iload_n 1, 1) := by decide +kernel
theorem dX12_minuteAt_1 : decode cX12_minuteAt 1 = .ok (.invokestatic 358, 3) := by decide +kernel
theorem dX12_minuteAt_4 : decode cX12_minuteAt 4 = .ok (.ifCond .eq 7, 3) := by decide +kernel
theorem dX12_minuteAt_7 : decode cX12_minuteAt 7 = .ok (.iload_n 2, 1) := by decide +kernel
theorem dX12_minuteAt_8 : decode cX12_minuteAt 8 = .ok (.ifCond .ge 6, 3) := by decide +kernel
theorem dX12_minuteAt_11 : decode cX12_minuteAt 11 = .ok (.bipush (-3), 2) := by decide +kernel
theorem dX12_minuteAt_13 : decode cX12_minuteAt 13 = .ok (.ireturn, 1) := by decide +kernel
theorem dX12_minuteAt_14 : decode cX12_minuteAt 14 = .ok (.aload_n 0, 1) := by decide +kernel
theorem dX12_minuteAt_15 : decode cX12_minuteAt 15 = .ok (.invokevirtual 351, 3) := by decide +kernel
theorem dX12_minuteAt_18 : decode cX12_minuteAt 18 = .ok (.aload_n 0, 1) := by decide +kernel
theorem dX12_minuteAt_19 : decode cX12_minuteAt 19 = .ok (.iload_n 1, 1) := by decide +kernel
theorem dX12_minuteAt_20 : decode cX12_minuteAt 20 = .ok (.iload_n 3, 1) := by decide +kernel
theorem dX12_minuteAt_21 : decode cX12_minuteAt 21 = .ok (.invokevirtual 354, 3) := by decide +kernel
theorem dX12_minuteAt_24 : decode cX12_minuteAt 24 = .ok (.istore 4, 2) := by decide +kernel
theorem dX12_minuteAt_26 : decode cX12_minuteAt 26 = .ok (.iload_n 2, 1) := by decide +kernel
theorem dX12_minuteAt_27 : decode cX12_minuteAt 27 = .ok (.iload 4, 2) := by decide +kernel
theorem dX12_minuteAt_29 : decode cX12_minuteAt 29 = .ok (.if_icmp .ge 12, 3) := by decide +kernel
theorem dX12_minuteAt_32 : decode cX12_minuteAt 32 = .ok (.aload_n 0, 1) := by decide +kernel
theorem dX12_minuteAt_33 : decode cX12_minuteAt 33 = .ok (.getfield 47, 3) := by decide +kernel
theorem dX12_minuteAt_36 : decode cX12_minuteAt 36 = .ok (.iload_n 2, 1) := by decide +kernel
theorem dX12_minuteAt_37 : decode cX12_minuteAt 37 = .ok (.iaload, 1) := by decide +kernel
theorem dX12_minuteAt_38 : decode cX12_minuteAt 38 = .ok (.goto 4, 3) := by decide +kernel
theorem dX12_minuteAt_41 : decode cX12_minuteAt 41 = .ok (.iconst (-1), 1) := by decide +kernel
theorem dX12_minuteAt_42 : decode cX12_minuteAt 42 = .ok (.ireturn, 1) := by decide +kernel
theorem dX12_minute_0 : decode cX12_minute 0 = .ok (.aload_n 0, 1) := by decide +kernel
theorem dX12_minute_1 : decode cX12_minute 1 = .ok (.iconst 0, 1) := by decide +kernel
theorem dX12_minute_2 : decode cX12_minute 2 = .ok (.putfield 1, 3) := by decide +kernel
theorem dX12_minute_5 : decode cX12_minute 5 = .ok (.aload_n 0, 1) := by decide +kernel
theorem dX12_minute_6 : decode cX12_minute 6 = .ok (.iload_n 1, 1) := by decide +kernel
theorem dX12_minute_7 : decode cX12_minute 7 = .ok (.iload_n 2, 1) := by decide +kernel
theorem dX12_minute_8 : decode cX12_minute 8 = .ok (.iconst 0, 1) := by decide +kernel
theorem dX12_minute_9 : decode cX12_minute 9 = .ok (.invokevirtual 364, 3) := by decide +kernel
theorem dX12_minute_12 : decode cX12_minute 12 = .ok (.ireturn, 1) := by decide +kernel
theorem dX12_shortestBut_0 : decode cX12_shortestBut 0 = .ok (.aload_n 0, 1) := by decide +kernel
theorem dX12_shortestBut_1 : decode cX12_shortestBut 1 = .ok (.iload_n 2, 1) := by decide +kernel
theorem dX12_shortestBut_2 : decode cX12_shortestBut 2 = .ok (.iload_n 3, 1) := by decide +kernel
theorem dX12_shortestBut_3 : decode cX12_shortestBut 3 = .ok (.bipush 9, 2) := by decide +kernel
theorem dX12_shortestBut_5 : decode cX12_shortestBut 5 = .ok (.invokevirtual 330, 3) := by decide +kernel
theorem dX12_shortestBut_8 : decode cX12_shortestBut 8 = .ok (.aload_n 0, 1) := by decide +kernel
theorem dX12_shortestBut_9 : decode cX12_shortestBut 9 = .ok (.iload_n 1, 1) := by decide +kernel
theorem dX12_shortestBut_10 : decode cX12_shortestBut 10 = .ok (.iconst 0, 1) := by decide +kernel
theorem dX12_shortestBut_11 : decode cX12_shortestBut 11 = .ok (.invokevirtual 354, 3) := by decide +kernel
theorem dX12_shortestBut_14 : decode cX12_shortestBut 14 = .ok (.ireturn, 1) := by decide +kernel
theorem dX12_without_0 : decode cX12_without 0 = .ok (.aload_n 0, 1) := by decide +kernel
theorem dX12_without_1 : decode cX12_without 1 = .ok (.iconst 0, 1) := by decide +kernel
theorem dX12_without_2 : decode cX12_without 2 = .ok (.putfield 1, 3) := by decide +kernel
theorem dX12_without_5 : decode cX12_without 5 = .ok (.aload_n 0, 1) := by decide +kernel
theorem dX12_without_6 : decode cX12_without 6 = .ok (.iload_n 1, 1) := by decide +kernel
theorem dX12_without_7 : decode cX12_without 7 = .ok (.i2l, 1) := by decide +kernel
theorem dX12_without_8 : decode cX12_without 8 = .ok (.invokevirtual 220, 3) := by decide +kernel
theorem dX12_without_11 : decode cX12_without 11 = .ok (.ifCond .ne 8, 3) := by decide +kernel
theorem dX12_without_14 : decode cX12_without 14 = .ok (.bipush (-2), 2) := by decide +kernel
theorem dX12_without_16 : decode cX12_without 16 = .ok (.goto 22, 3) := by decide +kernel
theorem dX12_without_19 : decode cX12_without 19 = .ok (.iload_n 2, 1) := by decide +kernel
theorem dX12_without_20 : decode cX12_without 20 = .ok (.invokestatic 358, 3) := by decide +kernel
theorem dX12_without_23 : decode cX12_without 23 = .ok (.ifCond .eq 13, 3) := by decide +kernel
theorem dX12_without_26 : decode cX12_without 26 = .ok (.aload_n 0, 1) := by decide +kernel
theorem dX12_without_27 : decode cX12_without 27 = .ok (.iload_n 2, 1) := by decide +kernel
theorem dX12_without_28 : decode cX12_without 28 = .ok (.iload_n 1, 1) := by decide +kernel
theorem dX12_without_29 : decode cX12_without 29 = .ok (.iconst (-1), 1) := by decide +kernel
theorem dX12_without_30 : decode cX12_without 30 = .ok (.invokevirtual 379, 3) := by decide +kernel
theorem dX12_without_33 : decode cX12_without 33 = .ok (.goto 5, 3) := by decide +kernel
theorem dX12_without_36 : decode cX12_without 36 = .ok (.bipush (-3), 2) := by decide +kernel
theorem dX12_without_38 : decode cX12_without 38 = .ok (.ireturn, 1) := by decide +kernel
theorem dX12_needed_0 : decode cX12_needed 0 = .ok (.aload_n 0, 1) := by decide +kernel
theorem dX12_needed_1 : decode cX12_needed 1 = .ok (.iconst 0, 1) := by decide +kernel
theorem dX12_needed_2 : decode cX12_needed 2 = .ok (.putfield 1, 3) := by decide +kernel
theorem dX12_needed_5 : decode cX12_needed 5 = .ok (.iload_n 1, 1) := by decide +kernel
theorem dX12_needed_6 : decode cX12_needed 6 = .ok (.invokestatic 358, 3) := by decide +kernel
theorem dX12_needed_9 : decode cX12_needed 9 = .ok (.ifCond .ne 6, 3) := by decide +kernel
theorem dX12_needed_12 : decode cX12_needed 12 = .ok (.bipush (-3), 2) := by decide +kernel
theorem dX12_needed_14 : decode cX12_needed 14 = .ok (.ireturn, 1) := by decide +kernel
theorem dX12_needed_15 : decode cX12_needed 15 = .ok (.iconst 0, 1) := by decide +kernel
theorem dX12_needed_16 : decode cX12_needed 16 = .ok (.istore_n 2, 1) := by decide +kernel
theorem dX12_needed_17 : decode cX12_needed 17 = .ok (.aload_n 0, 1) := by decide +kernel
theorem dX12_needed_18 : decode cX12_needed 18 = .ok (.iload_n 1, 1) := by decide +kernel
theorem dX12_needed_19 : decode cX12_needed 19 = .ok (.invokevirtual 361, 3) := by decide +kernel
theorem dX12_needed_22 : decode cX12_needed 22 = .ok (.iconst (-1), 1) := by decide +kernel
theorem dX12_needed_23 : decode cX12_needed 23 = .ok (.if_icmp .ne 5, 3) := by decide +kernel
theorem dX12_needed_26 : decode cX12_needed 26 = .ok (.iload_n 2, 1) := by decide +kernel
theorem dX12_needed_27 : decode cX12_needed 27 = .ok (.ireturn, 1) := by decide +kernel
theorem dX12_needed_28 : decode cX12_needed 28 = .ok (.iconst 0, 1) := by decide +kernel
theorem dX12_needed_29 : decode cX12_needed 29 = .ok (.istore_n 3, 1) := by decide +kernel
theorem dX12_needed_30 : decode cX12_needed 30 = .ok (.iload_n 3, 1) := by decide +kernel
theorem dX12_needed_31 : decode cX12_needed 31 = .ok (.aload_n 0, 1) := by decide +kernel
theorem dX12_needed_32 : decode cX12_needed 32 = .ok (.getfield 13, 3) := by decide +kernel
theorem dX12_needed_35 : decode cX12_needed 35 = .ok (.iconst 1, 1) := by decide +kernel
theorem dX12_needed_36 : decode cX12_needed 36 = .ok (.iaload, 1) := by decide +kernel
theorem dX12_needed_37 : decode cX12_needed 37 = .ok (.if_icmp .ge 30, 3) := by decide +kernel
theorem dX12_needed_40 : decode cX12_needed 40 = .ok (.iload_n 2, 1) := by decide +kernel
theorem dX12_needed_41 : decode cX12_needed 41 = .ok (.aload_n 0, 1) := by decide +kernel
theorem dX12_needed_42 : decode cX12_needed 42 = .ok (.iload_n 1, 1) := by decide +kernel
theorem dX12_needed_43 : decode cX12_needed 43 = .ok (.iload_n 3, 1) := by decide +kernel
theorem dX12_needed_44 : decode cX12_needed 44 = .ok (.iconst (-1), 1) := by decide +kernel
theorem dX12_needed_45 : decode cX12_needed 45 = .ok (.invokevirtual 379, 3) := by decide +kernel
theorem dX12_needed_48 : decode cX12_needed 48 = .ok (.iconst (-1), 1) := by decide +kernel
theorem dX12_needed_49 : decode cX12_needed 49 = .ok (.if_icmp .ne 9, 3) := by decide +kernel
theorem dX12_needed_52 : decode cX12_needed 52 = .ok (.iconst 1, 1) := by decide +kernel
theorem dX12_needed_53 : decode cX12_needed 53 = .ok (.iload_n 3, 1) := by decide +kernel
theorem dX12_needed_54 : decode cX12_needed 54 = .ok (.ishl, 1) := by decide +kernel
theorem dX12_needed_55 : decode cX12_needed 55 = .ok (.goto 4, 3) := by decide +kernel
theorem dX12_needed_58 : decode cX12_needed 58 = .ok (.iconst 0, 1) := by decide +kernel
theorem dX12_needed_59 : decode cX12_needed 59 = .ok (.ior, 1) := by decide +kernel
theorem dX12_needed_60 : decode cX12_needed 60 = .ok (.istore_n 2, 1) := by decide +kernel
theorem dX12_needed_61 : decode cX12_needed 61 = .ok (.iinc 3 1, 3) := by decide +kernel
theorem dX12_needed_64 : decode cX12_needed 64 = .ok (.goto (-34), 3) := by decide +kernel
theorem dX12_needed_67 : decode cX12_needed 67 = .ok (.iload_n 2, 1) := by decide +kernel
theorem dX12_needed_68 : decode cX12_needed 68 = .ok (.ireturn, 1) := by decide +kernel
theorem dX12_full_0 : decode cX12_full 0 = .ok (.aload_n 0, 1) := by decide +kernel
theorem dX12_full_1 : decode cX12_full 1 = .ok (.iconst 0, 1) := by decide +kernel
theorem dX12_full_2 : decode cX12_full 2 = .ok (.putfield 1, 3) := by decide +kernel
theorem dX12_full_5 : decode cX12_full 5 = .ok (.iload_n 1, 1) := by decide +kernel
theorem dX12_full_6 : decode cX12_full 6 = .ok (.invokestatic 358, 3) := by decide +kernel
theorem dX12_full_9 : decode cX12_full 9 = .ok (.ifCond .ne 6, 3) := by decide +kernel
theorem dX12_full_12 : decode cX12_full 12 = .ok (.bipush (-3), 2) := by decide +kernel
theorem dX12_full_14 : decode cX12_full 14 = .ok (.ireturn, 1) := by decide +kernel
theorem dX12_full_15 : decode cX12_full 15 = .ok (.aload_n 0, 1) := by decide +kernel
theorem dX12_full_16 : decode cX12_full 16 = .ok (.invokevirtual 351, 3) := by decide +kernel
theorem dX12_full_19 : decode cX12_full 19 = .ok (.aload_n 0, 1) := by decide +kernel
theorem dX12_full_20 : decode cX12_full 20 = .ok (.iload_n 1, 1) := by decide +kernel
theorem dX12_full_21 : decode cX12_full 21 = .ok (.iconst 1, 1) := by decide +kernel
theorem dX12_full_22 : decode cX12_full 22 = .ok (.invokevirtual 354, 3) := by decide +kernel
theorem dX12_full_25 : decode cX12_full 25 = .ok (.ireturn, 1) := by decide +kernel
theorem dX12_fullMinute_0 : decode cX12_fullMinute 0 = .ok (.aload_n 0, 1) := by decide +kernel
theorem dX12_fullMinute_1 : decode cX12_fullMinute 1 = .ok (.iconst 0, 1) := by decide +kernel
theorem dX12_fullMinute_2 : decode cX12_fullMinute 2 = .ok (.putfield 1, 3) := by decide +kernel
theorem dX12_fullMinute_5 : decode cX12_fullMinute 5 = .ok (.aload_n 0, 1) := by decide +kernel
theorem dX12_fullMinute_6 : decode cX12_fullMinute 6 = .ok (.iload_n 1, 1) := by decide +kernel
theorem dX12_fullMinute_7 : decode cX12_fullMinute 7 = .ok (.iload_n 2, 1) := by decide +kernel
theorem dX12_fullMinute_8 : decode cX12_fullMinute 8 = .ok (.iconst 1, 1) := by decide +kernel
theorem dX12_fullMinute_9 : decode cX12_fullMinute 9 = .ok (.invokevirtual 364, 3) := by decide +kernel
theorem dX12_fullMinute_12 : decode cX12_fullMinute 12 = .ok (.ireturn, 1) := by decide +kernel
theorem dX12_tones_0 : decode cX12_tones 0 = .ok (.aload_n 0, 1) := by decide +kernel
theorem dX12_tones_1 : decode cX12_tones 1 = .ok (.iconst 0, 1) := by decide +kernel
theorem dX12_tones_2 : decode cX12_tones 2 = .ok (.putfield 1, 3) := by decide +kernel
theorem dX12_tones_5 : decode cX12_tones 5 = .ok (.aload_n 0, 1) := by decide +kernel
theorem dX12_tones_6 : decode cX12_tones 6 = .ok (.invokevirtual 351, 3) := by decide +kernel
theorem dX12_tones_9 : decode cX12_tones 9 = .ok (.iconst 0, 1) := by decide +kernel
theorem dX12_tones_10 : decode cX12_tones 10 = .ok (.istore_n 1, 1) := by decide +kernel
theorem dX12_tones_11 : decode cX12_tones 11 = .ok (.iconst 0, 1) := by decide +kernel
theorem dX12_tones_12 : decode cX12_tones 12 = .ok (.istore_n 2, 1) := by decide +kernel
theorem dX12_tones_13 : decode cX12_tones 13 = .ok (.iload_n 2, 1) := by decide +kernel
theorem dX12_tones_14 : decode cX12_tones 14 = .ok (.bipush 10, 2) := by decide +kernel
theorem dX12_tones_16 : decode cX12_tones 16 = .ok (.if_icmp .ge 29, 3) := by decide +kernel
theorem dX12_tones_19 : decode cX12_tones 19 = .ok (.iload_n 1, 1) := by decide +kernel
theorem dX12_tones_20 : decode cX12_tones 20 = .ok (.aload_n 0, 1) := by decide +kernel
theorem dX12_tones_21 : decode cX12_tones 21 = .ok (.iload_n 2, 1) := by decide +kernel
theorem dX12_tones_22 : decode cX12_tones 22 = .ok (.iconst 0, 1) := by decide +kernel
theorem dX12_tones_23 : decode cX12_tones 23 = .ok (.invokevirtual 354, 3) := by decide +kernel
theorem dX12_tones_26 : decode cX12_tones 26 = .ok (.iconst (-1), 1) := by decide +kernel
theorem dX12_tones_27 : decode cX12_tones 27 = .ok (.if_icmp .ne 7, 3) := by decide +kernel
theorem dX12_tones_30 : decode cX12_tones 30 = .ok (.iconst 0, 1) := by decide +kernel
theorem dX12_tones_31 : decode cX12_tones 31 = .ok (.goto 6, 3) := by decide +kernel
theorem dX12_tones_34 : decode cX12_tones 34 = .ok (.iconst 1, 1) := by decide +kernel
theorem dX12_tones_35 : decode cX12_tones 35 = .ok (.iload_n 2, 1) := by decide +kernel
theorem dX12_tones_36 : decode cX12_tones 36 = .ok (.ishl, 1) := by decide +kernel
theorem dX12_tones_37 : decode cX12_tones 37 = .ok (.ior, 1) := by decide +kernel
theorem dX12_tones_38 : decode cX12_tones 38 = .ok (.istore_n 1, 1) := by decide +kernel
theorem dX12_tones_39 : decode cX12_tones 39 = .ok (.iinc 2 1, 3) := by decide +kernel
theorem dX12_tones_42 : decode cX12_tones 42 = .ok (.goto (-29), 3) := by decide +kernel
theorem dX12_tones_45 : decode cX12_tones 45 = .ok (.iload_n 1, 1) := by decide +kernel
theorem dX12_tones_46 : decode cX12_tones 46 = .ok (.ireturn, 1) := by decide +kernel
theorem dX12_calmest_0 : decode cX12_calmest 0 = .ok (.aload_n 0, 1) := by decide +kernel
theorem dX12_calmest_1 : decode cX12_calmest 1 = .ok (.iconst 0, 1) := by decide +kernel
theorem dX12_calmest_2 : decode cX12_calmest 2 = .ok (.putfield 1, 3) := by decide +kernel
theorem dX12_calmest_5 : decode cX12_calmest 5 = .ok (.iload_n 2, 1) := by decide +kernel
theorem dX12_calmest_6 : decode cX12_calmest 6 = .ok (.i2l, 1) := by decide +kernel
theorem dX12_calmest_7 : decode cX12_calmest 7 = .ok (.lconst 0, 1) := by decide +kernel
theorem dX12_calmest_8 : decode cX12_calmest 8 = .ok (.lconst 1, 1) := by decide +kernel
theorem dX12_calmest_9 : decode cX12_calmest 9 = .ok (.invokestatic 150, 3) := by decide +kernel
theorem dX12_calmest_12 : decode cX12_calmest 12 = .ok (.ifCond .ne 20, 3) := by decide +kernel
theorem dX12_calmest_15 : decode cX12_calmest 15 = .ok (.iload_n 2, 1) := by decide +kernel
theorem dX12_calmest_16 : decode cX12_calmest 16 = .ok (.i2l, 1) := by decide +kernel
theorem dX12_calmest_17 : decode cX12_calmest 17 = .ok (.ldc2_w 218, 3) := by decide +kernel
theorem dX12_calmest_20 : decode cX12_calmest 20 = .ok (.ldc2_w 382, 3) := by decide +kernel
theorem dX12_calmest_23 : decode cX12_calmest 23 = .ok (.invokestatic 150, 3) := by decide +kernel
theorem dX12_calmest_26 : decode cX12_calmest 26 = .ok (.ifCond .ne 6, 3) := by decide +kernel
theorem dX12_calmest_29 : decode cX12_calmest 29 = .ok (.bipush (-2), 2) := by decide +kernel
theorem dX12_calmest_31 : decode cX12_calmest 31 = .ok (.ireturn, 1) := by decide +kernel
theorem dX12_calmest_32 : decode cX12_calmest 32 = .ok (.iload_n 1, 1) := by decide +kernel
theorem dX12_calmest_33 : decode cX12_calmest 33 = .ok (.invokestatic 358, 3) := by decide +kernel
theorem dX12_calmest_36 : decode cX12_calmest 36 = .ok (.ifCond .ne 6, 3) := by decide +kernel
theorem dX12_calmest_39 : decode cX12_calmest 39 = .ok (.bipush (-3), 2) := by decide +kernel
theorem dX12_calmest_41 : decode cX12_calmest 41 = .ok (.ireturn, 1) := by decide +kernel
theorem dX12_calmest_42 : decode cX12_calmest 42 = .ok (.aload_n 0, 1) := by decide +kernel
theorem dX12_calmest_43 : decode cX12_calmest 43 = .ok (.getfield 13, 3) := by decide +kernel
theorem dX12_calmest_46 : decode cX12_calmest 46 = .ok (.bipush 29, 2) := by decide +kernel
theorem dX12_calmest_48 : decode cX12_calmest 48 = .ok (.iaload, 1) := by decide +kernel
theorem dX12_calmest_49 : decode cX12_calmest 49 = .ok (.istore_n 3, 1) := by decide +kernel
theorem dX12_calmest_50 : decode cX12_calmest 50 = .ok (.iload_n 3, 1) := by decide +kernel
theorem dX12_calmest_51 : decode cX12_calmest 51 = .ok (.bipush 10, 2) := by decide +kernel
theorem dX12_calmest_53 : decode cX12_calmest 53 = .ok (.if_icmp .ge 74, 3) := by decide +kernel
theorem dX12_calmest_56 : decode cX12_calmest 56 = .ok (.aload_n 0, 1) := by decide +kernel
theorem dX12_calmest_57 : decode cX12_calmest 57 = .ok (.iconst (-1), 1) := by decide +kernel
theorem dX12_calmest_58 : decode cX12_calmest 58 = .ok (.iconst (-1), 1) := by decide +kernel
theorem dX12_calmest_59 : decode cX12_calmest 59 = .ok (.iload_n 3, 1) := by decide +kernel
theorem dX12_calmest_60 : decode cX12_calmest 60 = .ok (.invokevirtual 330, 3) := by decide +kernel
theorem dX12_calmest_63 : decode cX12_calmest 63 = .ok (.aload_n 0, 1) := by decide +kernel
theorem dX12_calmest_64 : decode cX12_calmest 64 = .ok (.iload_n 1, 1) := by decide +kernel
theorem dX12_calmest_65 : decode cX12_calmest 65 = .ok (.iconst 0, 1) := by decide +kernel
theorem dX12_calmest_66 : decode cX12_calmest 66 = .ok (.invokevirtual 354, 3) := by decide +kernel
theorem dX12_calmest_69 : decode cX12_calmest 69 = .ok (.istore 4, 2) := by decide +kernel
theorem dX12_calmest_71 : decode cX12_calmest 71 = .ok (.iload 4, 2) := by decide +kernel
theorem dX12_calmest_73 : decode cX12_calmest 73 = .ok (.iconst (-1), 1) := by decide +kernel
theorem dX12_calmest_74 : decode cX12_calmest 74 = .ok (.if_icmp .ne 6, 3) := by decide +kernel
theorem dX12_calmest_77 : decode cX12_calmest 77 = .ok (.goto 44, 3) := by decide +kernel
theorem dX12_calmest_80 : decode cX12_calmest 80 = .ok (.iload_n 2, 1) := by decide +kernel
theorem dX12_calmest_81 : decode cX12_calmest 81 = .ok (.ifCond .ne 7, 3) := by decide +kernel
theorem dX12_calmest_84 : decode cX12_calmest 84 = .ok (.iload_n 3, 1) := by decide +kernel
theorem dX12_calmest_85 : decode cX12_calmest 85 = .ok (.goto 35, 3) := by decide +kernel
theorem dX12_calmest_88 : decode cX12_calmest 88 = .ok (.iload_n 2, 1) := by decide +kernel
theorem dX12_calmest_89 : decode cX12_calmest 89 = .ok (.iconst 1, 1) := by decide +kernel
theorem dX12_calmest_90 : decode cX12_calmest 90 = .ok (.if_icmp .ne 8, 3) := by decide +kernel
theorem dX12_calmest_93 : decode cX12_calmest 93 = .ok (.iload 4, 2) := by decide +kernel
theorem dX12_calmest_95 : decode cX12_calmest 95 = .ok (.goto 25, 3) := by decide +kernel
theorem dX12_calmest_98 : decode cX12_calmest 98 = .ok (.iload_n 2, 1) := by decide +kernel
theorem dX12_calmest_99 : decode cX12_calmest 99 = .ok (.bipush 10, 2) := by decide +kernel
theorem dX12_calmest_101 : decode cX12_calmest 101 = .ok (.isub, 1) := by decide +kernel
theorem dX12_calmest_102 : decode cX12_calmest 102 = .ok (.iload 4, 2) := by decide +kernel
theorem dX12_calmest_104 : decode cX12_calmest 104 = .ok (.if_icmp .ge 15, 3) := by decide +kernel
theorem dX12_calmest_107 : decode cX12_calmest 107 = .ok (.aload_n 0, 1) := by decide +kernel
theorem dX12_calmest_108 : decode cX12_calmest 108 = .ok (.getfield 47, 3) := by decide +kernel
theorem dX12_calmest_111 : decode cX12_calmest 111 = .ok (.iload_n 2, 1) := by decide +kernel
theorem dX12_calmest_112 : decode cX12_calmest 112 = .ok (.bipush 10, 2) := by decide +kernel
theorem dX12_calmest_114 : decode cX12_calmest 114 = .ok (.isub, 1) := by decide +kernel
theorem dX12_calmest_115 : decode cX12_calmest 115 = .ok (.iaload, 1) := by decide +kernel
theorem dX12_calmest_116 : decode cX12_calmest 116 = .ok (.goto 4, 3) := by decide +kernel
theorem dX12_calmest_119 : decode cX12_calmest 119 = .ok (.iconst (-1), 1) := by decide +kernel
theorem dX12_calmest_120 : decode cX12_calmest 120 = .ok (.ireturn, 1) := by decide +kernel
theorem dX12_calmest_121 : decode cX12_calmest 121 = .ok (.iinc 3 1, 3) := by decide +kernel
theorem dX12_calmest_124 : decode cX12_calmest 124 = .ok (.goto (-74), 3) := by decide +kernel
theorem dX12_calmest_127 : decode cX12_calmest 127 = .ok (.iconst (-1), 1) := by decide +kernel
theorem dX12_calmest_128 : decode cX12_calmest 128 = .ok (.ireturn, 1) := by decide +kernel
theorem dX12_keyword_0 : decode cX12_keyword 0 = .ok (.aload_n 0, 1) := by decide +kernel
theorem dX12_keyword_1 : decode cX12_keyword 1 = .ok (.iconst 0, 1) := by decide +kernel
theorem dX12_keyword_2 : decode cX12_keyword 2 = .ok (.putfield 1, 3) := by decide +kernel
theorem dX12_keyword_5 : decode cX12_keyword 5 = .ok (.aload_n 0, 1) := by decide +kernel
theorem dX12_keyword_6 : decode cX12_keyword 6 = .ok (.iconst (-1), 1) := by decide +kernel
theorem dX12_keyword_7 : decode cX12_keyword 7 = .ok (.invokevirtual 361, 3) := by decide +kernel
theorem dX12_keyword_10 : decode cX12_keyword 10 = .ok (.istore_n 1, 1) := by decide +kernel
theorem dX12_keyword_11 : decode cX12_keyword 11 = .ok (.iload_n 1, 1) := by decide +kernel
theorem dX12_keyword_12 : decode cX12_keyword 12 = .ok (.iconst (-1), 1) := by decide +kernel
theorem dX12_keyword_13 : decode cX12_keyword 13 = .ok (.if_icmp .ne 5, 3) := by decide +kernel
theorem dX12_keyword_16 : decode cX12_keyword 16 = .ok (.iconst (-1), 1) := by decide +kernel
theorem dX12_keyword_17 : decode cX12_keyword 17 = .ok (.ireturn, 1) := by decide +kernel
theorem dX12_keyword_18 : decode cX12_keyword 18 = .ok (.iconst (-1), 1) := by decide +kernel
theorem dX12_keyword_19 : decode cX12_keyword 19 = .ok (.istore_n 2, 1) := by decide +kernel
theorem dX12_keyword_20 : decode cX12_keyword 20 = .ok (.iconst 0, 1) := by decide +kernel
theorem dX12_keyword_21 : decode cX12_keyword 21 = .ok (.istore_n 3, 1) := by decide +kernel
theorem dX12_keyword_22 : decode cX12_keyword 22 = .ok (.iload_n 3, 1) := by decide +kernel
theorem dX12_keyword_23 : decode cX12_keyword 23 = .ok (.aload_n 0, 1) := by decide +kernel
theorem dX12_keyword_24 : decode cX12_keyword 24 = .ok (.getfield 13, 3) := by decide +kernel
theorem dX12_keyword_27 : decode cX12_keyword 27 = .ok (.iconst 2, 1) := by decide +kernel
theorem dX12_keyword_28 : decode cX12_keyword 28 = .ok (.iaload, 1) := by decide +kernel
theorem dX12_keyword_29 : decode cX12_keyword 29 = .ok (.if_icmp .ge 48, 3) := by decide +kernel
theorem dX12_keyword_32 : decode cX12_keyword 32 = .ok (.aload_n 0, 1) := by decide +kernel
theorem dX12_keyword_33 : decode cX12_keyword 33 = .ok (.iconst (-1), 1) := by decide +kernel
theorem dX12_keyword_34 : decode cX12_keyword 34 = .ok (.iconst (-1), 1) := by decide +kernel
theorem dX12_keyword_35 : decode cX12_keyword 35 = .ok (.iload_n 3, 1) := by decide +kernel
theorem dX12_keyword_36 : decode cX12_keyword 36 = .ok (.invokevirtual 379, 3) := by decide +kernel
theorem dX12_keyword_39 : decode cX12_keyword 39 = .ok (.istore 4, 2) := by decide +kernel
theorem dX12_keyword_41 : decode cX12_keyword 41 = .ok (.iload 4, 2) := by decide +kernel
theorem dX12_keyword_43 : decode cX12_keyword 43 = .ok (.iconst (-1), 1) := by decide +kernel
theorem dX12_keyword_44 : decode cX12_keyword 44 = .ok (.if_icmp .ne 9, 3) := by decide +kernel
theorem dX12_keyword_47 : decode cX12_keyword 47 = .ok (.ldc_w 334, 3) := by decide +kernel
theorem dX12_keyword_50 : decode cX12_keyword 50 = .ok (.goto 5, 3) := by decide +kernel
theorem dX12_keyword_53 : decode cX12_keyword 53 = .ok (.iload 4, 2) := by decide +kernel
theorem dX12_keyword_55 : decode cX12_keyword 55 = .ok (.istore 4, 2) := by decide +kernel
theorem dX12_keyword_57 : decode cX12_keyword 57 = .ok (.iload 4, 2) := by decide +kernel
theorem dX12_keyword_59 : decode cX12_keyword 59 = .ok (.iload_n 1, 1) := by decide +kernel
theorem dX12_keyword_60 : decode cX12_keyword 60 = .ok (.if_icmp .gt 6, 3) := by decide +kernel
theorem dX12_keyword_63 : decode cX12_keyword 63 = .ok (.goto 8, 3) := by decide +kernel
theorem dX12_keyword_66 : decode cX12_keyword 66 = .ok (.iload_n 3, 1) := by decide +kernel
theorem dX12_keyword_67 : decode cX12_keyword 67 = .ok (.istore_n 2, 1) := by decide +kernel
theorem dX12_keyword_68 : decode cX12_keyword 68 = .ok (.iload 4, 2) := by decide +kernel
theorem dX12_keyword_70 : decode cX12_keyword 70 = .ok (.istore_n 1, 1) := by decide +kernel
theorem dX12_keyword_71 : decode cX12_keyword 71 = .ok (.iinc 3 1, 3) := by decide +kernel
theorem dX12_keyword_74 : decode cX12_keyword 74 = .ok (.goto (-52), 3) := by decide +kernel
theorem dX12_keyword_77 : decode cX12_keyword 77 = .ok (.iload_n 2, 1) := by decide +kernel
theorem dX12_keyword_78 : decode cX12_keyword 78 = .ok (.ireturn, 1) := by decide +kernel
section
variable (d : Nat) (sh : mbSh) (ct : mbCt) {β : Bk} {mk : Int → Int} {st : Int}
theorem fulM_0 : fulM β 0 0 := ⟨by decide, Or.inl ⟨rfl, rfl⟩⟩
theorem tw_shortestNow {tone : Int} (S : SH sh) (M : MD ct β mk st) (t0 : -1 ≤ tone) (t1 : tone ≤ 10) : Mt YX12_shortestNow (d + 6) [.inr (.inr 92), .inl tone] sh sh ct (pI fun r c => LM c β mk (useN (-1) (-1)) 9 tone 0 st r ∧ mF ct c) := by
  refine Mt.of rfl (Nat.le_of_ble_eq_true rfl) ?_
  show G _ 0 [some (.inr (.inr 92)), some (.inl tone)] [] sh ct
  refine g_aload_n (q := 1) dX12_shortestNow_0 rfl rfl ?_
  refine g_callV (q := 4) lX12_351 mX12_laysPlain nX12_laysPlain rfl (tw_laysPlain d sh _ S M) (by first | assumption | exact S.at _ rfl) rfl rfl shLe.rf (rmOk.mk (by omega) (by first | exact shLe.rf | assumption)) (Nat.le_of_ble_eq_true rfl) dX12_shortestNow_1 rfl rfl (kN fun s_1 hp => ?_)
  obtain ⟨D, e1⟩ := hp
  have M1 := M.mf (mF.of e1 rfl)
  refine g_aload_n (q := 5) dX12_shortestNow_4 rfl rfl ?_
  refine g_iload_n (q := 6) dX12_shortestNow_5 rfl rfl ?_
  refine g_iconst (q := 7) dX12_shortestNow_6 rfl ?_
  refine g_callV (q := 10) lX12_354 mX12_laysMinutes nX12_laysMinutes rfl (tw_laysMinutes (d + 2) sh _ S M1 D (useN_ok _ _) (by omega) fulM_0 t0 t1) (by first | assumption | exact S.at _ rfl) rfl rfl shLe.rf (rmOk.mk (by omega) (by first | exact shLe.rf | assumption)) (Nat.le_of_ble_eq_true rfl) dX12_shortestNow_7 rfl rfl (kI fun r_7 s_7 hp => ?_)
  obtain ⟨hL, e2⟩ := hp
  refine g_ireturn dX12_shortestNow_10 rfl ?_
  exact ⟨_, rfl, hL, (mF.of e1 rfl).tr (mF.of e2 rfl)⟩
theorem tw_shortestBut {tone qu un : Int} (S : SH sh) (M : MD ct β mk st) (t0 : -1 ≤ tone) (t1 : tone ≤ 10) (hq : -1 ≤ qu ∧ qu < 100) (hu : -1 ≤ un ∧ un < 100) : Mt YX12_shortestBut (d + 6) [.inr (.inr 92), .inl tone, .inl qu, .inl un] sh sh ct (pI fun r c => LM c β mk (useN qu un) 9 tone 0 st r ∧ mF ct c) := by
  refine Mt.of rfl (Nat.le_of_ble_eq_true rfl) ?_
  show G _ 0 [some (.inr (.inr 92)), some (.inl tone), some (.inl qu), some (.inl un)] [] sh ct
  refine g_aload_n (q := 1) dX12_shortestBut_0 rfl rfl ?_
  refine g_iload_n (q := 2) dX12_shortestBut_1 rfl rfl ?_
  refine g_iload_n (q := 3) dX12_shortestBut_2 rfl rfl ?_
  refine g_bipush (q := 5) dX12_shortestBut_3 (by decide +kernel) rfl ?_
  refine g_callV (q := 8) lX12_330 mX12_laysLeads nX12_laysLeads rfl (tw_laysLeads (d + 1) sh _ S M hq hu (by omega)) (by first | assumption | exact S.at _ rfl) rfl rfl shLe.rf (rmOk.mk (by omega) (by first | exact shLe.rf | assumption)) (Nat.le_of_ble_eq_true rfl) dX12_shortestBut_5 rfl rfl (kN fun s_5 hp => ?_)
  obtain ⟨D, e1⟩ := hp
  have M1 := M.mf (mF.of e1 rfl)
  refine g_aload_n (q := 9) dX12_shortestBut_8 rfl rfl ?_
  refine g_iload_n (q := 10) dX12_shortestBut_9 rfl rfl ?_
  refine g_iconst (q := 11) dX12_shortestBut_10 rfl ?_
  refine g_callV (q := 14) lX12_354 mX12_laysMinutes nX12_laysMinutes rfl (tw_laysMinutes (d + 2) sh _ S M1 D (useN_ok _ _) (by omega) fulM_0 t0 t1) (by first | assumption | exact S.at _ rfl) rfl rfl shLe.rf (rmOk.mk (by omega) (by first | exact shLe.rf | assumption)) (Nat.le_of_ble_eq_true rfl) dX12_shortestBut_11 rfl rfl (kI fun r_11 s_11 hp => ?_)
  obtain ⟨hL, e2⟩ := hp
  refine g_ireturn dX12_shortestBut_14 rfl ?_
  exact ⟨_, rfl, hL, (mF.of e1 rfl).tr (mF.of e2 rfl)⟩
/-- the questions -/
def qShort (β : Bk) (mk : Int → Int) (st tone r : Int) : Prop := (isTn tone ∧ wyS β mk st (-1) (-1) 9 tone 0 r) ∨ (¬ isTn tone ∧ r = -3)
def qMin (β : Bk) (mk : Int → Int) (st tone i : Int) (M : Nat) (r : Int) : Prop := (isTn tone ∧ 0 ≤ i ∧ miS β mk st (-1) (-1) 9 tone M i r) ∨ (¬ (isTn tone ∧ 0 ≤ i) ∧ r = -3)
def qWithout (β : Bk) (mk : Int → Int) (st m tone r : Int) : Prop := ((0 ≤ m ∧ m < β.n 2) ∧ isTn tone ∧ wyS β mk st m (-1) 9 tone 0 r) ∨ ((0 ≤ m ∧ m < β.n 2) ∧ ¬ isTn tone ∧ r = -3) ∨ (¬ (0 ≤ m ∧ m < β.n 2) ∧ r = -2)
def qNeeded (β : Bk) (mk : Int → Int) (st tone r : Int) : Prop := (isTn tone ∧ anyW β mk st (-1) (-1) 9 tone 0 ∧ isSet (β.n 2).toNat (fun m => ¬ anyW β mk st m (-1) 9 tone 0) r) ∨ (isTn tone ∧ ¬ anyW β mk st (-1) (-1) 9 tone 0 ∧ r = 0) ∨ (¬ isTn tone ∧ r = -3)
def qFull (β : Bk) (mk : Int → Int) (st tone r : Int) : Prop := (isTn tone ∧ wyS β mk st (-1) (-1) 9 tone (β.n 2).toNat r) ∨ (¬ isTn tone ∧ r = -3)
def qTones (β : Bk) (mk : Int → Int) (st r : Int) : Prop := isSet 10 (fun t => anyW β mk st (-1) (-1) 9 t 0) r
def clmH (β : Bk) (mk : Int → Int) (st tone h : Int) : Prop := st / 7 % 10 ≤ h ∧ h ≤ 9 ∧ anyW β mk st (-1) (-1) h tone 0 ∧ ∀ h', st / 7 % 10 ≤ h' → h' < h → ¬ anyW β mk st (-1) (-1) h' tone 0
abbrev whOk (w : Int) : Prop := w = 0 ∨ w = 1 ∨ (10 ≤ w ∧ w ≤ 29)
def qCalm (β : Bk) (mk : Int → Int) (st tone w r : Int) : Prop := (¬ whOk w ∧ r = -2) ∨ (whOk w ∧ ¬ isTn tone ∧ r = -3) ∨ (whOk w ∧ isTn tone ∧ ((r = -1 ∧ ∀ h, st / 7 % 10 ≤ h → h ≤ 9 → ¬ anyW β mk st (-1) (-1) h tone 0) ∨ ∃ h, clmH β mk st tone h ∧ ((w = 0 ∧ r = h) ∨ (w = 1 ∧ wyS β mk st (-1) (-1) h tone 0 r) ∨ (10 ≤ w ∧ miS β mk st (-1) (-1) h tone 0 (w - 10) r))))
/-- the greatest of some numbers, if greater than the first one: the first of them -/
def kwS (L : Nat → Int) (now : Int) : Nat → Int × Int
  | 0 => (-1, now)
  | k + 1 => if L k ≤ (kwS L now k).2 then kwS L now k else (k, L k)
def lenN (r : Int) : Int := if r = -1 then 268435456 else r
def qKey (β : Bk) (mk : Int → Int) (st r : Int) : Prop := (¬ anyW β mk st (-1) (-1) 9 (-1) 0 ∧ r = -1) ∨ (anyW β mk st (-1) (-1) 9 (-1) 0 ∧ ∃ (L : Nat → Int) (now : Int), wyS β mk st (-1) (-1) 9 (-1) 0 now ∧ (∀ s : Nat, (s : Int) < β.n 3 → ∃ v, wyS β mk st (-1) s 9 (-1) 0 v ∧ L s = lenN v) ∧ r = (kwS L now (β.n 3).toNat).1)
theorem tw_shortest {tone : Int} (S : SH sh) (M : MD ct β mk st) (ht : i32 tone) : Mt YX12_shortest (d + 7) [.inr (.inr 92), .inl tone] sh sh ct (pI fun r c => qShort β mk st tone r ∧ mF ct c) := by
  have L := M.L
  refine Mt.of rfl (Nat.le_of_ble_eq_true rfl) ?_
  show G _ 0 [some (.inr (.inr 92)), some (.inl tone)] [] sh ct
  refine g_aload_n (q := 1) dX12_shortest_0 rfl rfl ?_
  refine g_iconst (q := 2) dX12_shortest_1 rfl ?_
  refine g_putI (q := 5) (kI := 0) fX12_1 (by first | assumption | exact S.at _ rfl) dX12_shortest_2 rfl rfl ?_
  refine g_iload_n (q := 6) dX12_shortest_5 rfl rfl ?_
  refine g_callS (q := 9) lX12_358 mX12_isTone sX12_isTone rfl (tw_isTone (d + 5) sh _ ht) shLe.rf (rmOk.mk (by omega) (by first | exact shLe.rf | assumption)) (Nat.le_of_ble_eq_true rfl) dX12_shortest_6 rfl rfl (kI fun r_6 s_6 hp => ?_)
  obtain ⟨hr, hq⟩ := hp
  replace hr := hr.symm
  replace hq := hq.symm
  subst hr hq
  refine g_if_eq (q := 12) (tg := 20) dX12_shortest_9 (by decide) rfl (fun c_9 => ?_) (fun c_9 => ?_)
  · refine g_bipush (q := 22) dX12_shortest_20 (by decide +kernel) rfl ?_
    refine g_ireturn dX12_shortest_22 rfl ?_
    first | exact ⟨_, rfl, Or.inr ⟨wb0.mp c_9, rfl⟩, mF.th⟩ | exact ⟨_, rfl, Or.inl ⟨wbn.mp c_9, (hL.way (useN_ok _ _)).1⟩, mF.th.tr e2⟩
  · refine g_aload_n (q := 13) dX12_shortest_12 rfl rfl ?_
    refine g_iload_n (q := 14) dX12_shortest_13 rfl rfl ?_
    refine g_callV (q := 17) lX12_361 mX12_shortestNow nX12_shortestNow rfl (tw_shortestNow d sh _ S (M.mf mF.th) (wbn.mp c_9).1 (by have := (wbn.mp c_9).2; omega)) (by first | assumption | exact S.at _ rfl) rfl rfl shLe.rf (rmOk.mk (by omega) (by first | exact shLe.rf | assumption)) (Nat.le_of_ble_eq_true rfl) dX12_shortest_14 rfl rfl (kI fun r_14 s_14 hp => ?_)
    obtain ⟨hL, e2⟩ := hp
    refine g_goto (q := 22) dX12_shortest_17 (by decide) ?_
    refine g_ireturn dX12_shortest_22 rfl ?_
    first | exact ⟨_, rfl, Or.inr ⟨wb0.mp c_9, rfl⟩, mF.th⟩ | exact ⟨_, rfl, Or.inl ⟨wbn.mp c_9, (hL.way (useN_ok _ _)).1⟩, mF.th.tr e2⟩
theorem tw_minuteAt {tone i f : Int} {N : Nat} (S : SH sh) (M : MD ct β mk st) (ht : i32 tone) (hi : i32 i) (hf : fulM β f N) : Mt YX12_minuteAt (d + 6) [.inr (.inr 92), .inl tone, .inl i, .inl f] sh sh ct (pI fun r c => qMin β mk st tone i N r ∧ mF ct c) := by
  have L := M.L
  have s102 : shA sh 102 = some (20, 44800) := S.at _ rfl
  unfold i32 at hi
  refine Mt.of rfl (Nat.le_of_ble_eq_true rfl) ?_
  show G _ 0 [some (.inr (.inr 92)), some (.inl tone), some (.inl i), some (.inl f), none] [] sh ct
  refine g_iload_n (q := 1) dX12_minuteAt_0 rfl rfl ?_
  refine g_callS (q := 4) lX12_358 mX12_isTone sX12_isTone rfl (tw_isTone (d + 4) sh _ ht) shLe.rf (rmOk.mk (by omega) (by first | exact shLe.rf | assumption)) (Nat.le_of_ble_eq_true rfl) dX12_minuteAt_1 rfl rfl (kI fun r_ c_ hp => ?_)
  obtain ⟨hr, hq⟩ := hp
  replace hr := hr.symm
  replace hq := hq.symm
  subst hr hq
  refine g_if_eq (q := 7) (tg := 11) dX12_minuteAt_4 (by decide) rfl (fun c_4 => ?_) (fun c_4 => ?_)
  · refine g_bipush (q := 13) dX12_minuteAt_11 (by decide +kernel) rfl ?_
    refine g_ireturn dX12_minuteAt_13 rfl ?_
    exact ⟨_, rfl, Or.inr ⟨fun z => wb0.mp c_4 z.1, rfl⟩, mF.rf⟩
  · have htn := wbn.mp c_4
    refine g_iload_n (q := 8) dX12_minuteAt_7 rfl rfl ?_
    refine g_if_ge (q := 11) (tg := 14) dX12_minuteAt_8 (by decide) rfl (fun c_8 => ?_) (fun c_8 => ?_)
    · have i0 : 0 ≤ i := by unfold w32 at c_8; omega
      refine g_aload_n (q := 15) dX12_minuteAt_14 rfl rfl ?_
      refine g_callV (q := 18) lX12_351 mX12_laysPlain nX12_laysPlain rfl (tw_laysPlain d sh _ S M) (by first | assumption | exact S.at _ rfl) rfl rfl shLe.rf (rmOk.mk (by omega) (by first | exact shLe.rf | assumption)) (Nat.le_of_ble_eq_true rfl) dX12_minuteAt_15 rfl rfl (kN fun c1 hp => ?_)
      obtain ⟨D, e1⟩ := hp
      have M1 := M.mf (mF.of e1 rfl)
      refine g_aload_n (q := 19) dX12_minuteAt_18 rfl rfl ?_
      refine g_iload_n (q := 20) dX12_minuteAt_19 rfl rfl ?_
      refine g_iload_n (q := 21) dX12_minuteAt_20 rfl rfl ?_
      refine g_callV (q := 24) lX12_354 mX12_laysMinutes nX12_laysMinutes rfl (tw_laysMinutes (d + 2) sh _ S M1 D (useN_ok _ _) (by omega) hf htn.1 (by have := htn.2; omega)) (by first | assumption | exact S.at _ rfl) rfl rfl shLe.rf (rmOk.mk (by omega) (by first | exact shLe.rf | assumption)) (Nat.le_of_ble_eq_true rfl) dX12_minuteAt_21 rfl rfl (kI fun r c2 hp => ?_)
      obtain ⟨hL, e2⟩ := hp
      have L2 : LK c2 := M1.L.eb e2 rfl
      have hmin := hL.min (useN_ok _ _) i0
      have hr := hL.way (useN_ok _ _)
      have hr0 := hr.1.ge
      refine s_istore_5_4 (q := 26) dX12_minuteAt_24 rfl rfl rfl ?_
      refine g_iload_n (q := 27) dX12_minuteAt_26 rfl rfl ?_
      refine g_iload (q := 29) dX12_minuteAt_27 rfl rfl ?_
      refine g_icmp_ge (q := 32) (tg := 41) dX12_minuteAt_29 (by decide) rfl (fun c_29 => ?_) (fun c_29 => ?_)
      · rw [if_neg (by unfold w32 at c_29; omega)] at hmin
        refine g_iconst (q := 42) dX12_minuteAt_41 rfl ?_
        refine g_ireturn dX12_minuteAt_42 rfl ?_
        exact ⟨_, rfl, Or.inl ⟨htn, i0, hmin⟩, (mF.of e1 rfl).tr (mF.of e2 rfl)⟩
      · have hlt : i < r := by unfold w32 at c_29; omega
        rw [if_pos hlt] at hmin
        refine g_aload_n (q := 33) dX12_minuteAt_32 rfl rfl ?_
        refine g_getA (q := 36) (kI := 23) fX12_47 (by first | assumption | exact S.at _ rfl) dX12_minuteAt_33 rfl rfl (by first | assumption | exact L.at _ _ rfl | exact LK.at (by assumption) _ _ rfl | ((repeat first | rewrite [wr_na (by decide)] | rewrite [wr_nk (by decide)] | rewrite [wa_na (by decide)]); first | assumption | exact LK.at (by assumption) _ _ rfl) | exact rfl) ?_
        refine g_iload_n (q := 37) dX12_minuteAt_36 rfl rfl ?_
        refine g_iaload (q := 38) (by first | assumption | exact S.at _ rfl) (by omega) (by omega) (by omega) dX12_minuteAt_37 rfl ?_
        refine g_goto (q := 42) dX12_minuteAt_38 (by decide) ?_
        refine g_ireturn dX12_minuteAt_42 rfl ?_
        exact ⟨_, rfl, Or.inl ⟨htn, i0, hmin⟩, (mF.of e1 rfl).tr (mF.of e2 rfl)⟩
    · refine g_bipush (q := 13) dX12_minuteAt_11 (by decide +kernel) rfl ?_
      refine g_ireturn dX12_minuteAt_13 rfl ?_
      exact ⟨_, rfl, Or.inr ⟨fun z => by unfold w32 at c_8; omega, rfl⟩, mF.rf⟩
theorem tw_minute {tone i : Int} (S : SH sh) (M : MD ct β mk st) (ht : i32 tone) (hi : i32 i) : Mt YX12_minute (d + 7) [.inr (.inr 92), .inl tone, .inl i] sh sh ct (pI fun r c => qMin β mk st tone i 0 r ∧ mF ct c) := by
  have L := M.L
  refine Mt.of rfl (Nat.le_of_ble_eq_true rfl) ?_
  show G _ 0 [some (.inr (.inr 92)), some (.inl tone), some (.inl i)] [] sh ct
  refine g_aload_n (q := 1) dX12_minute_0 rfl rfl ?_
  refine g_iconst (q := 2) dX12_minute_1 rfl ?_
  refine g_putI (q := 5) (kI := 0) fX12_1 (by first | assumption | exact S.at _ rfl) dX12_minute_2 rfl rfl ?_
  refine g_aload_n (q := 6) dX12_minute_5 rfl rfl ?_
  refine g_iload_n (q := 7) dX12_minute_6 rfl rfl ?_
  refine g_iload_n (q := 8) dX12_minute_7 rfl rfl ?_
  refine g_iconst (q := 9) dX12_minute_8 rfl ?_
  refine g_callV (q := 12) lX12_364 mX12_minuteAt nX12_minuteAt rfl (tw_minuteAt d sh _ S (M.mf mF.th) ht hi fulM_0) (by first | assumption | exact S.at _ rfl) rfl rfl shLe.rf (rmOk.mk (by omega) (by first | exact shLe.rf | assumption)) (Nat.le_of_ble_eq_true rfl) dX12_minute_9 rfl rfl (kI fun r_9 s_9 hp => ?_)
  obtain ⟨hq, e2⟩ := hp
  refine g_ireturn dX12_minute_12 rfl ?_
  exact ⟨_, rfl, hq, mF.th.tr e2⟩
theorem fulM_1 (hB : bkB β) : fulM β 1 (β.n 2).toNat := by
  have := hB.2.2.1
  exact ⟨by omega, Or.inr ⟨rfl, by omega⟩⟩
theorem tw_fullMinute {tone i : Int} (S : SH sh) (M : MD ct β mk st) (ht : i32 tone) (hi : i32 i) : Mt YX12_fullMinute (d + 7) [.inr (.inr 92), .inl tone, .inl i] sh sh ct (pI fun r c => qMin β mk st tone i (β.n 2).toNat r ∧ mF ct c) := by
  have L := M.L
  refine Mt.of rfl (Nat.le_of_ble_eq_true rfl) ?_
  show G _ 0 [some (.inr (.inr 92)), some (.inl tone), some (.inl i)] [] sh ct
  refine g_aload_n (q := 1) dX12_fullMinute_0 rfl rfl ?_
  refine g_iconst (q := 2) dX12_fullMinute_1 rfl ?_
  refine g_putI (q := 5) (kI := 0) fX12_1 (by first | assumption | exact S.at _ rfl) dX12_fullMinute_2 rfl rfl ?_
  refine g_aload_n (q := 6) dX12_fullMinute_5 rfl rfl ?_
  refine g_iload_n (q := 7) dX12_fullMinute_6 rfl rfl ?_
  refine g_iload_n (q := 8) dX12_fullMinute_7 rfl rfl ?_
  refine g_iconst (q := 9) dX12_fullMinute_8 rfl ?_
  refine g_callV (q := 12) lX12_364 mX12_minuteAt nX12_minuteAt rfl (tw_minuteAt d sh _ S (M.mf mF.th) ht hi (fulM_1 M.B)) (by first | assumption | exact S.at _ rfl) rfl rfl shLe.rf (rmOk.mk (by omega) (by first | exact shLe.rf | assumption)) (Nat.le_of_ble_eq_true rfl) dX12_fullMinute_9 rfl rfl (kI fun r_9 s_9 hp => ?_)
  obtain ⟨hq, e2⟩ := hp
  refine g_ireturn dX12_fullMinute_12 rfl ?_
  exact ⟨_, rfl, hq, mF.th.tr e2⟩
theorem tw_full {tone : Int} (S : SH sh) (M : MD ct β mk st) (ht : i32 tone) : Mt YX12_full (d + 6) [.inr (.inr 92), .inl tone] sh sh ct (pI fun r c => qFull β mk st tone r ∧ mF ct c) := by
  have L := M.L
  refine Mt.of rfl (Nat.le_of_ble_eq_true rfl) ?_
  show G _ 0 [some (.inr (.inr 92)), some (.inl tone)] [] sh ct
  refine g_aload_n (q := 1) dX12_full_0 rfl rfl ?_
  refine g_iconst (q := 2) dX12_full_1 rfl ?_
  refine g_putI (q := 5) (kI := 0) fX12_1 (by first | assumption | exact S.at _ rfl) dX12_full_2 rfl rfl ?_
  refine g_iload_n (q := 6) dX12_full_5 rfl rfl ?_
  refine g_callS (q := 9) lX12_358 mX12_isTone sX12_isTone rfl (tw_isTone (d + 4) sh _ ht) shLe.rf (rmOk.mk (by omega) (by first | exact shLe.rf | assumption)) (Nat.le_of_ble_eq_true rfl) dX12_full_6 rfl rfl (kI fun r_6 s_6 hp => ?_)
  obtain ⟨hr, hq⟩ := hp
  replace hr := hr.symm
  replace hq := hq.symm
  subst hr hq
  refine g_if_ne (q := 12) (tg := 15) dX12_full_9 (by decide) rfl (fun c_9 => ?_) (fun c_9 => ?_)
  · refine g_aload_n (q := 16) dX12_full_15 rfl rfl ?_
    refine g_callV (q := 19) lX12_351 mX12_laysPlain nX12_laysPlain rfl (tw_laysPlain d sh _ S (M.mf mF.th)) (by first | assumption | exact S.at _ rfl) rfl rfl shLe.rf (rmOk.mk (by omega) (by first | exact shLe.rf | assumption)) (Nat.le_of_ble_eq_true rfl) dX12_full_16 rfl rfl (kN fun s_16 hp => ?_)
    obtain ⟨D, e1⟩ := hp
    have M1 := M.mf (mF.th.tr (mF.of e1 rfl))
    refine g_aload_n (q := 20) dX12_full_19 rfl rfl ?_
    refine g_iload_n (q := 21) dX12_full_20 rfl rfl ?_
    refine g_iconst (q := 22) dX12_full_21 rfl ?_
    refine g_callV (q := 25) lX12_354 mX12_laysMinutes nX12_laysMinutes rfl (tw_laysMinutes (d + 2) sh _ S M1 D (useN_ok _ _) (by omega) (fulM_1 M.B) (wbn.mp c_9).1 (by have := (wbn.mp c_9).2; omega)) (by first | assumption | exact S.at _ rfl) rfl rfl shLe.rf (rmOk.mk (by omega) (by first | exact shLe.rf | assumption)) (Nat.le_of_ble_eq_true rfl) dX12_full_22 rfl rfl (kI fun r_22 s_22 hp => ?_)
    obtain ⟨hL, e2⟩ := hp
    refine g_ireturn dX12_full_25 rfl ?_
    first | exact ⟨_, rfl, Or.inr ⟨wb0.mp c_9, rfl⟩, mF.th⟩ | exact ⟨_, rfl, Or.inl ⟨wbn.mp c_9, (hL.way (useN_ok _ _)).1⟩, (mF.th.tr (mF.of e1 rfl)).tr (mF.of e2 rfl)⟩
  · refine g_bipush (q := 14) dX12_full_12 (by decide +kernel) rfl ?_
    refine g_ireturn dX12_full_14 rfl ?_
    first | exact ⟨_, rfl, Or.inr ⟨wb0.mp c_9, rfl⟩, mF.th⟩ | exact ⟨_, rfl, Or.inl ⟨wbn.mp c_9, (hL.way (useN_ok _ _)).1⟩, (mF.th.tr (mF.of e1 rfl)).tr (mF.of e2 rfl)⟩
theorem tw_without {m tone : Int} (S : SH sh) (M : MD ct β mk st) (hm : i32 m) (ht : i32 tone) : Mt YX12_without (d + 7) [.inr (.inr 92), .inl m, .inl tone] sh sh ct (pI fun r c => qWithout β mk st m tone r ∧ mF ct c) := by
  have L := M.L
  have hB := M.B.2.2.1
  unfold i32 at hm
  have hw : w32 m = m := w32_id hm.1 hm.2
  refine Mt.of rfl (Nat.le_of_ble_eq_true rfl) ?_
  show G _ 0 [some (.inr (.inr 92)), some (.inl m), some (.inl tone)] [] sh ct
  refine g_aload_n (q := 1) dX12_without_0 rfl rfl ?_
  refine g_iconst (q := 2) dX12_without_1 rfl ?_
  refine g_putI (q := 5) (kI := 0) fX12_1 (by first | assumption | exact S.at _ rfl) dX12_without_2 rfl rfl ?_
  refine g_aload_n (q := 6) dX12_without_5 rfl rfl ?_
  refine g_iload_n (q := 7) dX12_without_6 rfl rfl ?_
  refine g_i2l (q := 8) dX12_without_7 rfl ?_
  rw [hw]
  refine g_callV (q := 11) lX12_220 mX12_isMember nX12_isMember rfl (tw_isMember (d + 5) sh _ (M.mf mF.th) S (by unfold i64; omega)) (by first | assumption | exact S.at _ rfl) rfl rfl shLe.rf (rmOk.mk (by omega) (by first | exact shLe.rf | assumption)) (Nat.le_of_ble_eq_true rfl) dX12_without_8 rfl rfl (kI fun r_8 s_8 hp => ?_)
  obtain ⟨hr, hq⟩ := hp
  replace hr := hr.symm
  replace hq := hq.symm
  subst hr hq
  refine g_if_ne (q := 14) (tg := 19) dX12_without_11 (by decide) rfl (fun c_11 => ?_) (fun c_11 => ?_)
  · refine g_iload_n (q := 20) dX12_without_19 rfl rfl ?_
    refine g_callS (q := 23) lX12_358 mX12_isTone sX12_isTone rfl (tw_isTone (d + 5) sh _ ht) shLe.rf (rmOk.mk (by omega) (by first | exact shLe.rf | assumption)) (Nat.le_of_ble_eq_true rfl) dX12_without_20 rfl rfl (kI fun r_20 s_20 hp => ?_)
    obtain ⟨hr, hq⟩ := hp
    replace hr := hr.symm
    replace hq := hq.symm
    subst hr hq
    refine g_if_eq (q := 26) (tg := 36) dX12_without_23 (by decide) rfl (fun c_23 => ?_) (fun c_23 => ?_)
    · refine g_bipush (q := 38) dX12_without_36 (by decide +kernel) rfl ?_
      refine g_ireturn dX12_without_38 rfl ?_
      first | exact ⟨_, rfl, Or.inr (Or.inr ⟨wb0.mp c_11, rfl⟩), mF.th⟩ | exact ⟨_, rfl, Or.inr (Or.inl ⟨wbn.mp c_11, wb0.mp c_23, rfl⟩), mF.th⟩ | exact ⟨_, rfl, Or.inl ⟨wbn.mp c_11, wbn.mp c_23, (hL.way (useN_ok _ _)).1⟩, mF.th.tr e2⟩
    · refine g_aload_n (q := 27) dX12_without_26 rfl rfl ?_
      refine g_iload_n (q := 28) dX12_without_27 rfl rfl ?_
      refine g_iload_n (q := 29) dX12_without_28 rfl rfl ?_
      refine g_iconst (q := 30) dX12_without_29 rfl ?_
      refine g_callV (q := 33) lX12_379 mX12_shortestBut nX12_shortestBut rfl (tw_shortestBut d sh _ S (M.mf mF.th) (wbn.mp c_23).1 (by have := (wbn.mp c_23).2; omega) (by have := wbn.mp c_11; omega) (by omega)) (by first | assumption | exact S.at _ rfl) rfl rfl shLe.rf (rmOk.mk (by omega) (by first | exact shLe.rf | assumption)) (Nat.le_of_ble_eq_true rfl) dX12_without_30 rfl rfl (kI fun r_30 s_30 hp => ?_)
      obtain ⟨hL, e2⟩ := hp
      refine g_goto (q := 38) dX12_without_33 (by decide) ?_
      refine g_ireturn dX12_without_38 rfl ?_
      first | exact ⟨_, rfl, Or.inr (Or.inr ⟨wb0.mp c_11, rfl⟩), mF.th⟩ | exact ⟨_, rfl, Or.inr (Or.inl ⟨wbn.mp c_11, wb0.mp c_23, rfl⟩), mF.th⟩ | exact ⟨_, rfl, Or.inl ⟨wbn.mp c_11, wbn.mp c_23, (hL.way (useN_ok _ _)).1⟩, mF.th.tr e2⟩
  · refine g_bipush (q := 16) dX12_without_14 (by decide +kernel) rfl ?_
    refine g_goto (q := 38) dX12_without_16 (by decide) ?_
    refine g_ireturn dX12_without_38 rfl ?_
    first | exact ⟨_, rfl, Or.inr (Or.inr ⟨wb0.mp c_11, rfl⟩), mF.th⟩ | exact ⟨_, rfl, Or.inr (Or.inl ⟨wbn.mp c_11, wb0.mp c_23, rfl⟩), mF.th⟩ | exact ⟨_, rfl, Or.inl ⟨wbn.mp c_11, wbn.mp c_23, (hL.way (useN_ok _ _)).1⟩, mF.th.tr e2⟩
theorem tw_needed {tone : Int} (S : SH sh) (M : MD ct β mk st) (ht : i32 tone) : Mt YX12_needed (d + 7) [.inr (.inr 92), .inl tone] sh sh ct (pI fun r c => qNeeded β mk st tone r ∧ mF ct c) := by
  have L := M.L
  have hB := M.B.2.2.1
  generalize hP : (pI fun r c => qNeeded β mk st tone r ∧ mF ct c) = Po
  refine Mt.of rfl (Nat.le_of_ble_eq_true rfl) ?_
  show G _ 0 [some (.inr (.inr 92)), some (.inl tone), none, none] [] sh ct
  refine g_aload_n (q := 1) dX12_needed_0 rfl rfl ?_
  refine g_iconst (q := 2) dX12_needed_1 rfl ?_
  refine g_putI (q := 5) (kI := 0) fX12_1 (by first | assumption | exact S.at _ rfl) dX12_needed_2 rfl rfl ?_
  refine g_iload_n (q := 6) dX12_needed_5 rfl rfl ?_
  refine g_callS (q := 9) lX12_358 mX12_isTone sX12_isTone rfl (tw_isTone (d + 5) sh _ ht) shLe.rf (rmOk.mk (by omega) (by first | exact shLe.rf | assumption)) (Nat.le_of_ble_eq_true rfl) dX12_needed_6 rfl rfl (kI fun r_ c_ hp => ?_)
  obtain ⟨hr, hq⟩ := hp
  replace hr := hr.symm
  replace hq := hq.symm
  subst hr hq
  refine g_if_ne (q := 12) (tg := 15) dX12_needed_9 (by decide) rfl (fun c_9 => ?_) (fun c_9 => ?_)
  · have htn := wbn.mp c_9
    refine g_iconst (q := 16) dX12_needed_15 rfl ?_
    refine s_istore_n_4_2 (q := 17) dX12_needed_16 rfl rfl rfl ?_
    refine g_aload_n (q := 18) dX12_needed_17 rfl rfl ?_
    refine g_iload_n (q := 19) dX12_needed_18 rfl rfl ?_
    refine g_callV (q := 22) lX12_361 mX12_shortestNow nX12_shortestNow rfl (tw_shortestNow d sh _ S (M.mf mF.th) htn.1 (by have := htn.2; omega)) (by first | assumption | exact S.at _ rfl) rfl rfl shLe.rf (rmOk.mk (by omega) (by first | exact shLe.rf | assumption)) (Nat.le_of_ble_eq_true rfl) dX12_needed_19 rfl rfl (kI fun r c1 hp => ?_)
    obtain ⟨hL, e1⟩ := hp
    have hw := hL.way (useN_ok _ _)
    have hge := hw.1.ge
    have e1' := mF.th.tr e1
    refine g_iconst (q := 23) dX12_needed_22 rfl ?_
    refine g_icmp_ne (q := 26) (tg := 28) dX12_needed_23 (by decide) rfl (fun c_23 => ?_) (fun c_23 => ?_)
    · have hany : anyW β mk st (-1) (-1) 9 tone 0 := by
        apply Classical.byContradiction
        intro z
        exact c_23 (by rw [hw.1.none.mpr z])
      refine g_iconst (q := 29) dX12_needed_28 rfl ?_
      refine s_istore_n_4_3 (q := 30) dX12_needed_29 rfl rfl rfl ?_
      refine g_forA (α := Int) (fun m a => [some (.inr (.inr 92)), some (.inl tone), some (.inl a), some (.inl m)]) (fun m a c => 0 ≤ m ∧ mF ct c ∧ isSet m.toNat (fun m => ¬ anyW β mk st m (-1) 9 tone 0) a) (β.n 2) ?_ ?_ (i := 0) (a := 0) (by omega) ⟨by omega, e1', isSet.zero⟩ (by simp [lsSub])
      · rintro m a c hm ⟨m0, e, hs⟩ kk
        have M2 := M.mf e
        have hmem := M2.mem
        have L2 := M2.L
        refine g_iload_n (q := 31) dX12_needed_30 rfl rfl ?_
        refine g_aload_n (q := 32) dX12_needed_31 rfl rfl ?_
        refine g_getA (q := 35) (kI := 1) fX12_13 (by first | assumption | exact S.at _ rfl) dX12_needed_32 rfl rfl (by first | assumption | exact L.at _ _ rfl | exact LK.at (by assumption) _ _ rfl | ((repeat first | rewrite [wr_na (by decide)] | rewrite [wr_nk (by decide)] | rewrite [wa_na (by decide)]); first | assumption | exact LK.at (by assumption) _ _ rfl) | exact rfl) ?_
        refine g_iconst (q := 36) dX12_needed_35 rfl ?_
        refine g_iaload (q := 37) (by first | assumption | exact S.at _ rfl) (by omega) (by omega) (by omega) dX12_needed_36 rfl ?_
        refine g_icmp_ge (q := 40) (tg := 67) dX12_needed_37 (by decide) rfl (fun c_37 => ?_) (fun c_37 => ?_)
        · rw [hmem.1] at c_37
          exact absurd c_37 (by unfold w32; omega)
        · refine g_iload_n (q := 41) dX12_needed_40 rfl rfl ?_
          refine g_aload_n (q := 42) dX12_needed_41 rfl rfl ?_
          refine g_iload_n (q := 43) dX12_needed_42 rfl rfl ?_
          refine g_iload_n (q := 44) dX12_needed_43 rfl rfl ?_
          refine g_iconst (q := 45) dX12_needed_44 rfl ?_
          refine g_callV (q := 48) lX12_379 mX12_shortestBut nX12_shortestBut rfl (tw_shortestBut d sh _ S M2 htn.1 (by have := htn.2; omega) (by omega) (by omega)) (by first | assumption | exact S.at _ rfl) rfl rfl shLe.rf (rmOk.mk (by omega) (by first | exact shLe.rf | assumption)) (Nat.le_of_ble_eq_true rfl) dX12_needed_45 rfl rfl (kI fun r2 c2 hp => ?_)
          obtain ⟨hL2, e2⟩ := hp
          have hw2 := hL2.way (useN_ok _ _)
          have hge2 := hw2.1.ge
          have hm31 : m.toNat < 31 := by omega
          have nxt : ∀ v, ((¬ anyW β mk st m.toNat (-1) 9 tone 0 ∧ v = shlI 1 m.toNat) ∨ (¬ ¬ anyW β mk st m.toNat (-1) 9 tone 0 ∧ v = 0)) → G (mkK YX12_needed (d + 7) sh sh Po) 59 [some (.inr (.inr 92)), some (.inl tone), some (.inl a), some (.inl m)] [.inl v, .inl a] sh c2 := by
            intro v hv
            refine g_ior (q := 60) dX12_needed_59 rfl ?_
            refine s_istore_n_4_2 (q := 61) dX12_needed_60 rfl rfl rfl ?_
            refine s_iinc_4_3 (q := 64) dX12_needed_61 rfl rfl rfl ?_
            refine g_goto (q := 30) dX12_needed_64 (by decide) ?_
            refine kk _ _ _ (by simp [lsSub]; rfl) ⟨by omega, e.tr e2, ?_⟩
            rw [show (m + 1).toNat = m.toNat + 1 by omega]
            exact hs.up hm31 hv
          have em : ((m.toNat : Nat) : Int) = m := by omega
          refine g_iconst (q := 49) dX12_needed_48 rfl ?_
          refine g_icmp_ne (q := 52) (tg := 58) dX12_needed_49 (by decide) rfl (fun c_49 => ?_) (fun c_49 => ?_)
          · refine g_iconst (q := 59) dX12_needed_58 rfl ?_
            refine nxt 0 (Or.inr ⟨fun z => ?_, rfl⟩)
            rw [em] at z
            exact c_49 (by rw [hw2.1.none.mpr z])
          · refine g_iconst (q := 53) dX12_needed_52 rfl ?_
            refine g_iload_n (q := 54) dX12_needed_53 rfl rfl ?_
            refine g_ishl (q := 55) dX12_needed_54 rfl ?_
            refine g_goto (q := 59) dX12_needed_55 (by decide) ?_
            refine nxt _ (Or.inl ⟨?_, by rw [em]⟩)
            rw [em]
            exact hw2.1.none.mp (by unfold w32 at c_49; omega)
      · rintro a c ⟨-, e, hs⟩
        have M2 := M.mf e
        have hmem := M2.mem
        have L2 := M2.L
        refine g_iload_n (q := 31) dX12_needed_30 rfl rfl ?_
        refine g_aload_n (q := 32) dX12_needed_31 rfl rfl ?_
        refine g_getA (q := 35) (kI := 1) fX12_13 (by first | assumption | exact S.at _ rfl) dX12_needed_32 rfl rfl (by first | assumption | exact L.at _ _ rfl | exact LK.at (by assumption) _ _ rfl | ((repeat first | rewrite [wr_na (by decide)] | rewrite [wr_nk (by decide)] | rewrite [wa_na (by decide)]); first | assumption | exact LK.at (by assumption) _ _ rfl) | exact rfl) ?_
        refine g_iconst (q := 36) dX12_needed_35 rfl ?_
        refine g_iaload (q := 37) (by first | assumption | exact S.at _ rfl) (by omega) (by omega) (by omega) dX12_needed_36 rfl ?_
        refine g_icmp_ge (q := 40) (tg := 67) dX12_needed_37 (by decide) rfl (fun c_37 => ?_) (fun c_37 => ?_)
        · refine g_iload_n (q := 68) dX12_needed_67 rfl rfl ?_
          refine g_ireturn dX12_needed_68 rfl ?_
          rw [← hP]
          exact ⟨_, rfl, Or.inl ⟨htn, hany, hs⟩, e⟩
        · rw [hmem.1] at c_37
          exact absurd c_37 (Int.lt_irrefl _)
    · refine g_iload_n (q := 27) dX12_needed_26 rfl rfl ?_
      refine g_ireturn dX12_needed_27 rfl ?_
      rw [← hP]
      exact ⟨_, rfl, Or.inr (Or.inl ⟨htn, hw.1.none.mp (by unfold w32 at c_23; omega), rfl⟩), e1'⟩
  · refine g_bipush (q := 14) dX12_needed_12 (by decide +kernel) rfl ?_
    refine g_ireturn dX12_needed_14 rfl ?_
    rw [← hP]
    exact ⟨_, rfl, Or.inr (Or.inr ⟨wb0.mp c_9, rfl⟩), mF.th⟩
theorem tw_tones (S : SH sh) (M : MD ct β mk st) : Mt YX12_tones (d + 6) [.inr (.inr 92)] sh sh ct (pI fun r c => qTones β mk st r ∧ mF ct c) := by
  have L := M.L
  generalize hP : (pI fun r c => qTones β mk st r ∧ mF ct c) = Po
  refine Mt.of rfl (Nat.le_of_ble_eq_true rfl) ?_
  show G _ 0 [some (.inr (.inr 92)), none, none] [] sh ct
  refine g_aload_n (q := 1) dX12_tones_0 rfl rfl ?_
  refine g_iconst (q := 2) dX12_tones_1 rfl ?_
  refine g_putI (q := 5) (kI := 0) fX12_1 (by first | assumption | exact S.at _ rfl) dX12_tones_2 rfl rfl ?_
  refine g_aload_n (q := 6) dX12_tones_5 rfl rfl ?_
  refine g_callV (q := 9) lX12_351 mX12_laysPlain nX12_laysPlain rfl (tw_laysPlain d sh _ S (M.mf mF.th)) (by first | assumption | exact S.at _ rfl) rfl rfl shLe.rf (rmOk.mk (by omega) (by first | exact shLe.rf | assumption)) (Nat.le_of_ble_eq_true rfl) dX12_tones_6 rfl rfl (kN fun c1 hp => ?_)
  obtain ⟨D, e1⟩ := hp
  have e1' := (mF.th (v := 0)).tr (mF.of e1 rfl)
  refine g_iconst (q := 10) dX12_tones_9 rfl ?_
  refine s_istore_n_3_1 (q := 11) dX12_tones_10 rfl rfl rfl ?_
  refine g_iconst (q := 12) dX12_tones_11 rfl ?_
  refine s_istore_n_3_2 (q := 13) dX12_tones_12 rfl rfl rfl ?_
  refine g_forA (α := Int) (fun t a => [some (.inr (.inr 92)), some (.inl a), some (.inl t)]) (fun t a c => 0 ≤ t ∧ mF ct c ∧ LD c β mk (-1) (-1) 9 ∧ isSet t.toNat (fun t => anyW β mk st (-1) (-1) 9 t 0) a) 10 ?_ ?_ (i := 0) (a := 0) (by omega) ⟨by omega, e1', D, isSet.zero⟩ (by simp [lsSub])
  · rintro t a c ht ⟨t0, e, D2, hs⟩ kk
    have M2 := M.mf e
    refine g_iload_n (q := 14) dX12_tones_13 rfl rfl ?_
    refine g_bipush (q := 16) dX12_tones_14 (by decide +kernel) rfl ?_
    refine g_icmp_ge (q := 19) (tg := 45) dX12_tones_16 (by decide) rfl (fun c_16 => ?_) (fun c_16 => ?_)
    · exact absurd c_16 (by unfold w32; omega)
    · refine g_iload_n (q := 20) dX12_tones_19 rfl rfl ?_
      refine g_aload_n (q := 21) dX12_tones_20 rfl rfl ?_
      refine g_iload_n (q := 22) dX12_tones_21 rfl rfl ?_
      refine g_iconst (q := 23) dX12_tones_22 rfl ?_
      refine g_callV (q := 26) lX12_354 mX12_laysMinutes nX12_laysMinutes rfl (tw_laysMinutes (d + 2) sh _ S M2 D2 (useN_ok _ _) (by omega) fulM_0 (by omega) (by omega)) (by first | assumption | exact S.at _ rfl) rfl rfl shLe.rf (rmOk.mk (by omega) (by first | exact shLe.rf | assumption)) (Nat.le_of_ble_eq_true rfl) dX12_tones_23 rfl rfl (kI fun r2 c2 hp => ?_)
      obtain ⟨hL2, e2⟩ := hp
      have hw2 := hL2.way (useN_ok _ _)
      have hge2 := hw2.1.ge
      have em : ((t.toNat : Nat) : Int) = t := by omega
      have nxt : ∀ v, ((anyW β mk st (-1) (-1) 9 t.toNat 0 ∧ v = shlI 1 t.toNat) ∨ (¬ anyW β mk st (-1) (-1) 9 t.toNat 0 ∧ v = 0)) → G (mkK YX12_tones (d + 6) sh sh Po) 37 [some (.inr (.inr 92)), some (.inl a), some (.inl t)] [.inl v, .inl a] sh c2 := by
        intro v hv
        refine g_ior (q := 38) dX12_tones_37 rfl ?_
        refine s_istore_n_3_1 (q := 39) dX12_tones_38 rfl rfl rfl ?_
        refine s_iinc_3_2 (q := 42) dX12_tones_39 rfl rfl rfl ?_
        refine g_goto (q := 13) dX12_tones_42 (by decide) ?_
        refine kk _ _ _ (by simp [lsSub]; rfl) ⟨by omega, e.tr (mF.of e2 rfl), D2.eq (e2 100 (by decide)) (e2 103 (by decide)), ?_⟩
        rw [show (t + 1).toNat = t.toNat + 1 by omega]
        exact hs.up (by omega) hv
      refine g_iconst (q := 27) dX12_tones_26 rfl ?_
      refine g_icmp_ne (q := 30) (tg := 34) dX12_tones_27 (by decide) rfl (fun c_27 => ?_) (fun c_27 => ?_)
      · refine g_iconst (q := 35) dX12_tones_34 rfl ?_
        refine g_iload_n (q := 36) dX12_tones_35 rfl rfl ?_
        refine g_ishl (q := 37) dX12_tones_36 rfl ?_
        refine nxt _ (Or.inl ⟨?_, by rw [em]⟩)
        rw [em]
        apply Classical.byContradiction
        intro z
        exact c_27 (by rw [hw2.1.none.mpr z])
      · refine g_iconst (q := 31) dX12_tones_30 rfl ?_
        refine g_goto (q := 37) dX12_tones_31 (by decide) ?_
        refine nxt _ (Or.inr ⟨?_, rfl⟩)
        rw [em]
        exact hw2.1.none.mp (by unfold w32 at c_27; omega)
  · rintro a c ⟨-, e, D2, hs⟩
    refine g_iload_n (q := 14) dX12_tones_13 rfl rfl ?_
    refine g_bipush (q := 16) dX12_tones_14 (by decide +kernel) rfl ?_
    refine g_icmp_ge (q := 19) (tg := 45) dX12_tones_16 (by decide) rfl (fun c_16 => ?_) (fun c_16 => ?_)
    · refine g_iload_n (q := 46) dX12_tones_45 rfl rfl ?_
      refine g_ireturn dX12_tones_46 rfl ?_
      rw [← hP]
      exact ⟨_, rfl, hs, e⟩
    · exact absurd c_16 (by decide)
end
