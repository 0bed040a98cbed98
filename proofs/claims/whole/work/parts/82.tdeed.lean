/-! the reference: sittings, what is kept of them -/
abbrev Sit : Type := Int × Int × (Int → Int)
def sitM (a : Int → Int) (o : Int) (s : Sit) : Prop := a o = s.1 / 70 ∧ a (o + 1) = s.1 / 7 % 10 ∧ a (o + 2) = s.1 % 7 ∧ a (o + 3) = s.2.1 ∧ ∀ m, 0 ≤ m → m < 6 → a (o + 4 + m) = s.2.2 m
def sitB (s : Sit) : Prop := (0 ≤ s.1 ∧ s.1 < 700) ∧ ∀ m, 0 ≤ m → m < 6 → 0 ≤ s.2.2 m ∧ s.2.2 m ≤ 9
theorem sitM.cp {a b : Int → Int} {o o' : Int} {s : Sit} (h : sitM a o s) (e : ∀ j, 0 ≤ j → j < 10 → b (o' + j) = a (o + j)) : sitM b o' s := by
  obtain ⟨h1, h2, h3, h4, h5⟩ := h
  have e0 := e 0 (by omega) (by omega)
  rw [Int.add_zero, Int.add_zero] at e0
  refine ⟨by rw [e0, h1], by rw [e 1 (by omega) (by omega), h2], by rw [e 2 (by omega) (by omega), h3], by rw [e 3 (by omega) (by omega), h4], fun m m0 m1 => ?_⟩
  have := e (4 + m) (by omega) (by omega)
  rw [← Int.add_assoc, ← Int.add_assoc] at this
  rw [this, h5 m m0 m1]
theorem mLaw.cp {a b : Int → Int} {o o' law : Int} {l : List Int} (hl : law = 0 ∨ law = 1) (h : mLaw a o law l) (e : ∀ j, (0 ≤ j ∧ j < 28) ∨ (140 ≤ j ∧ j < 1040) → b (o' + j) = a (o + j)) : mLaw b o' law l := by
  obtain ⟨h1, h2, h3, h4, h5, h6⟩ := h
  have e6 : b (o' + 6 + law) = a (o + 6 + law) := by
    have := e (6 + law) (by omega)
    rw [← Int.add_assoc, ← Int.add_assoc] at this
    exact this
  have e8 : b (o' + 8 + law) = a (o + 8 + law) := by
    have := e (8 + law) (by omega)
    rw [← Int.add_assoc, ← Int.add_assoc] at this
    exact this
  have e10 : b (o' + 10 + law) = a (o + 10 + law) := by
    have := e (10 + law) (by omega)
    rw [← Int.add_assoc, ← Int.add_assoc] at this
    exact this
  refine ⟨by rw [e6, h1], by rw [e10, h2], by rw [e8]; exact h3, by rw [e8]; exact h4, fun k op hk => ?_, h6⟩
  have hkl : k < l.length := (List.getElem?_eq_some_iff.mp hk).1
  rw [e8]
  have := e (140 + a (o + 8 + law) + k) (by omega)
  rw [show o' + (140 + a (o + 8 + law) + k) = o' + 140 + a (o + 8 + law) + k by omega, show o + (140 + a (o + 8 + law) + k) = o + 140 + a (o + 8 + law) + k by omega] at this
  rw [this]
  exact h5 k op hk
theorem mBk.cp {a b : Int → Int} {o o' : Int} {β : Bk} (h : mBk a o β) (e : ∀ j, (0 ≤ j ∧ j < 28) ∨ (140 ≤ j ∧ j < 1040) → b (o' + j) = a (o + j)) : mBk b o' β := by
  obtain ⟨⟨h1, h2, h3, h4, h5, h6⟩, ht, hB, lw, lc, l1, l2, l3, l4, l5⟩ := h
  have e0 := e 0 (by omega)
  rw [Int.add_zero, Int.add_zero] at e0
  refine ⟨⟨by rw [e0, h1], by rw [e 1 (by omega), h2], by rw [e 2 (by omega), h3], by rw [e 3 (by omega), h4], by rw [e 4 (by omega), h5], by rw [e 5 (by omega), h6]⟩, fun s s0 s1 => ?_, hB, lw, lc, l1.cp (Or.inl rfl) e, l2.cp (Or.inr rfl) e, l3, l4, l5⟩
  have q1 := e (12 + s) (by omega)
  have q2 := e (20 + s) (by omega)
  rw [← Int.add_assoc, ← Int.add_assoc] at q1 q2
  rw [q1, q2]
  exact ht s s0 s1
/-- the book and the sitting as they are now -/
def MA (ct : mbCt) (β : Bk) (s : Sit) : Prop := LK ct ∧ mBk (ct 93) 0 β ∧ sitM (ct 93) 28 s ∧ sitB s
theorem MA.md {ct : mbCt} {β : Bk} {s : Sit} (h : MA ct β s) : MD ct β s.2.2 s.1 := by
  obtain ⟨h1, h2, ⟨a1, a2, a3, a4, a5⟩, b1, b2⟩ := h
  exact ⟨h1, h2, fun m m0 m1 => ⟨a5 m m0 m1, b2 m m0 m1⟩, b1, a1, a2, a3⟩
/-- row 93 is changed between these places alone -/
def frJ (lo hi : Int) (ct c : mbCt) : Prop := ∀ j, (j < lo ∨ hi ≤ j) → c 93 j = ct 93 j
theorem frJ.tr {lo hi : Int} {a b c : mbCt} (h : frJ lo hi a b) (h2 : frJ lo hi b c) : frJ lo hi a c := fun j hj => (h2 j hj).trans (h j hj)
theorem frJ.of {lo hi : Int} {ct c : mbCt} (h : c 93 = ct 93) : frJ lo hi ct c := fun j _ => by rw [h]
theorem frJ.mono {lo hi lo' hi' : Int} {a b : mbCt} (h : frJ lo hi a b) (h1 : lo' ≤ lo) (h2 : hi ≤ hi') : frJ lo' hi' a b := fun j hj => h j (by omega)
theorem MA.fr {ct c : mbCt} {β : Bk} {s s' : Sit} (h : MA ct β s) (L : LK c) (e : frJ 28 140 ct c) (hs : sitM (c 93) 28 s') (hb : sitB s') : MA c β s' := by
  refine ⟨L, h.2.1.cp (fun j hj => ?_), hs, hb⟩
  rw [Int.zero_add]
  exact e j (by omega)
theorem MA.same {ct c : mbCt} {β : Bk} {s : Sit} (h : MA ct β s) (L : LK c) (e : frJ 38 140 ct c) : MA c β s := h.fr L (e.mono (by decide) (by decide)) (h.2.2.1.cp (fun j a b => e (28 + j) (by omega))) h.2.2.2
theorem MA.mf {ct c : mbCt} {β : Bk} {s : Sit} (h : MA ct β s) (e : mF ct c) : MA c β s := h.same (e.L h.1) (frJ.of (e.1 93 (by decide)))
/-- the pile -/
def plM (a : Int → Int) (n : Int) (pl : Int → Sit) : Prop := a 38 = n ∧ (0 ≤ n ∧ n ≤ 10) ∧ ∀ k, 0 ≤ k → k < n → sitM a (39 + 10 * k) (pl k) ∧ sitB (pl k)
def pushN (n : Int) : Int := if n = 10 then 10 else n + 1
def pushP (n : Int) (pl : Int → Sit) (w : Sit) : Int → Sit := fun k => if n = 10 then (if k = 9 then w else pl (k + 1)) else (if k = n then w else pl k)
def adjS (β : Bk) (s : Sit) : Sit := ((β.n 0 * 10 + β.n 1) * 7 + 6, 0, s.2.2)
def sayS (β : Bk) (s : Sit) (m y : Int) : Sit := (nxB β s.1 m y, s.2.1 + 1, s.2.2)
def mrkS (s : Sit) (m v : Int) : Sit := (s.1, s.2.1, fun k => if k = m then v else s.2.2 k)
theorem adjS_B {β : Bk} {s : Sit} (hB : bkB β) (h : sitB s) : sitB (adjS β s) := by
  have h0 := hB.1
  have h1 := hB.2.1
  refine ⟨?_, h.2⟩
  show 0 ≤ (β.n 0 * 10 + β.n 1) * 7 + 6 ∧ (β.n 0 * 10 + β.n 1) * 7 + 6 < 700
  omega
theorem sayS_B {β : Bk} {s : Sit} {m y : Int} (h : sitB s) (m0 : 0 ≤ m) (m1 : m ≤ 6) : sitB (sayS β s m y) := ⟨nxB_in m0 m1, h.2⟩
theorem mrkS_B {s : Sit} {m v : Int} (h : sitB s) (v0 : 0 ≤ v) (v1 : v ≤ 9) : sitB (mrkS s m v) := by
  refine ⟨h.1, fun k k0 k1 => ?_⟩
  show 0 ≤ (if k = m then v else s.2.2 k) ∧ (if k = m then v else s.2.2 k) ≤ 9
  split
  · exact ⟨v0, v1⟩
  · exact h.2 k k0 k1
theorem dX12_adjourns_0 : decode cX12_adjourns 0 = .ok (.aload_n 0, 1) := by decide +kernel
theorem dX12_adjourns_1 : decode cX12_adjourns 1 = .ok (.getfield 13, 3) := by decide +kernel
theorem dX12_adjourns_4 : decode cX12_adjourns 4 = .ok (.bipush 28, 2) := by decide +kernel
theorem dX12_adjourns_6 : decode cX12_adjourns 6 = .ok (.aload_n 0, 1) := by decide +kernel
theorem dX12_adjourns_7 : decode cX12_adjourns 7 = .ok (.getfield 13, 3) := by decide +kernel
theorem dX12_adjourns_10 : decode cX12_adjourns 10 = .ok (.iconst 3, 1) := by decide +kernel
theorem dX12_adjourns_11 : decode cX12_adjourns 11 = .ok (.iaload, 1) := by decide +kernel
theorem dX12_adjourns_12 : decode cX12_adjourns 12 = .ok (.iastore, 1) := by decide +kernel
theorem dX12_adjourns_13 : decode cX12_adjourns 13 = .ok (.aload_n 0, 1) := by decide +kernel
theorem dX12_adjourns_14 : decode cX12_adjourns 14 = .ok (.getfield 13, 3) := by decide +kernel
theorem dX12_adjourns_17 : decode cX12_adjourns 17 = .ok (.bipush 29, 2) := by decide +kernel
theorem dX12_adjourns_19 : decode cX12_adjourns 19 = .ok (.aload_n 0, 1) := by decide +kernel
theorem dX12_adjourns_20 : decode cX12_adjourns 20 = .ok (.getfield 13, 3) := by decide +kernel
theorem dX12_adjourns_23 : decode cX12_adjourns 23 = .ok (.iconst 4, 1) := by decide +kernel
theorem dX12_adjourns_24 : decode cX12_adjourns 24 = .ok (.iaload, 1) := by decide +kernel
theorem dX12_adjourns_25 : decode cX12_adjourns 25 = .ok (.iastore, 1) := by decide +kernel
theorem dX12_adjourns_26 : decode cX12_adjourns 26 = .ok (.aload_n 0, 1) := by decide +kernel
theorem dX12_adjourns_27 : decode cX12_adjourns 27 = .ok (.getfield 13, 3) := by decide +kernel
theorem dX12_adjourns_30 : decode cX12_adjourns 30 = .ok (.bipush 30, 2) := by decide +kernel
theorem dX12_adjourns_32 : decode cX12_adjourns 32 = .ok (.bipush 6, 2) := by decide +kernel
theorem dX12_adjourns_34 : decode cX12_adjourns 34 = .ok (.iastore, 1) := by decide +kernel
theorem dX12_adjourns_35 : decode cX12_adjourns 35 = .ok (.aload_n 0, 1) := by decide +kernel
theorem dX12_adjourns_36 : decode cX12_adjourns 36 = .ok (.getfield 13, 3) := by decide +kernel
theorem dX12_adjourns_39 : decode cX12_adjourns 39 = .ok (.bipush 31, 2) := by decide +kernel
theorem dX12_adjourns_41 : decode cX12_adjourns 41 = .ok (.iconst 0, 1) := by decide +kernel
theorem dX12_adjourns_42 : decode cX12_adjourns 42 = .ok (.iastore, 1) := by decide +kernel
theorem dX12_adjourns_43 : decode cX12_adjourns 43 = .ok (.return_, 1) := by decide +kernel
theorem dX12_keeps_0 : decode cX12_keeps 0 = .ok (.iconst 0, 1) := by decide +kernel
theorem dX12_keeps_1 : decode cX12_keeps 1 = .ok (.istore_n 1, 1) := by decide +kernel
theorem dX12_keeps_2 : decode cX12_keeps 2 = .ok (.iload_n 1, 1) := by decide +kernel
theorem dX12_keeps_3 : decode cX12_keeps 3 = .ok (.bipush 10, 2) := by decide +kernel
theorem dX12_keeps_5 : decode cX12_keeps 5 = .ok (.if_icmp .ge 24, 3) := by decide +kernel
theorem dX12_keeps_8 : decode cX12_keeps 8 = .ok (.aload_n 0, 1) := by decide +kernel
theorem dX12_keeps_9 : decode cX12_keeps 9 = .ok (.getfield 36, 3) := by decide +kernel
theorem dX12_keeps_12 : decode cX12_keeps 12 = .ok (.iload_n 1, 1) := by decide +kernel
theorem dX12_keeps_13 : decode cX12_keeps 13 = .ok (.aload_n 0, 1) := by decide +kernel
theorem dX12_keeps_14 : decode cX12_keeps 14 = .ok (.getfield 13, 3) := by decide +kernel
theorem dX12_keeps_17 : decode cX12_keeps 17 = .ok (.bipush 28, 2) := by decide +kernel
theorem dX12_keeps_19 : decode cX12_keeps 19 = .ok (.iload_n 1, 1) := by decide +kernel
theorem dX12_keeps_20 : decode cX12_keeps 20 = .ok (.iadd, 1) := by decide +kernel
theorem dX12_keeps_21 : decode cX12_keeps 21 = .ok (.iaload, 1) := by decide +kernel
theorem dX12_keeps_22 : decode cX12_keeps 22 = .ok (.iastore, 1) := by decide +kernel
theorem dX12_keeps_23 : decode cX12_keeps 23 = .ok (.iinc 1 1, 3) := by decide +kernel
theorem dX12_keeps_26 : decode cX12_keeps 26 = .ok (.goto (-24), 3) := by decide +kernel
theorem dX12_keeps_29 : decode cX12_keeps 29 = .ok (.return_, 1) := by decide +kernel
theorem dX12_isAgain_0 : decode cX12_isAgain 0 = .ok (.iconst 0, 1) := by decide +kernel
theorem dX12_isAgain_1 : decode cX12_isAgain 1 = .ok (.istore_n 1, 1) := by decide +kernel
theorem dX12_isAgain_2 : decode cX12_isAgain 2 = .ok (.iload_n 1, 1) := by decide +kernel
theorem dX12_isAgain_3 : decode cX12_isAgain 3 = .ok (.bipush 10, 2) := by decide +kernel
theorem dX12_isAgain_5 : decode cX12_isAgain 5 = .ok (.if_icmp .ge 24, 3) := by decide +kernel
theorem dX12_isAgain_8 : decode cX12_isAgain 8 = .ok (.aload_n 0, 1) := by decide +kernel
theorem dX12_isAgain_9 : decode cX12_isAgain 9 = .ok (.getfield 13, 3) := by decide +kernel
theorem dX12_isAgain_12 : decode cX12_isAgain 12 = .ok (.bipush 28, 2) := by decide +kernel
theorem dX12_isAgain_14 : decode cX12_isAgain 14 = .ok (.iload_n 1, 1) := by decide +kernel
theorem dX12_isAgain_15 : decode cX12_isAgain 15 = .ok (.iadd, 1) := by decide +kernel
theorem dX12_isAgain_16 : decode cX12_isAgain 16 = .ok (.aload_n 0, 1) := by decide +kernel
theorem dX12_isAgain_17 : decode cX12_isAgain 17 = .ok (.getfield 36, 3) := by decide +kernel
theorem dX12_isAgain_20 : decode cX12_isAgain 20 = .ok (.iload_n 1, 1) := by decide +kernel
theorem dX12_isAgain_21 : decode cX12_isAgain 21 = .ok (.iaload, 1) := by decide +kernel
theorem dX12_isAgain_22 : decode cX12_isAgain 22 = .ok (.iastore, 1) := by decide +kernel
theorem dX12_isAgain_23 : decode cX12_isAgain 23 = .ok (.iinc 1 1, 3) := by decide +kernel
theorem dX12_isAgain_26 : decode cX12_isAgain 26 = .ok (.goto (-24), 3) := by decide +kernel
theorem dX12_isAgain_29 : decode cX12_isAgain 29 = .ok (.return_, 1) := by decide +kernel
theorem dX12_notes_0 : decode cX12_notes 0 = .ok (.aload_n 0, 1) := by decide +kernel
theorem dX12_notes_1 : decode cX12_notes 1 = .ok (.getfield 13, 3) := by decide +kernel
theorem dX12_notes_4 : decode cX12_notes 4 = .ok (.bipush 38, 2) := by decide +kernel
theorem dX12_notes_6 : decode cX12_notes 6 = .ok (.iaload, 1) := by decide +kernel
theorem dX12_notes_7 : decode cX12_notes 7 = .ok (.bipush 10, 2) := by decide +kernel
theorem dX12_notes_9 : decode cX12_notes 9 = .ok (.if_icmp .ne 46, 3) := by decide +kernel
theorem dX12_notes_12 : decode cX12_notes 12 = .ok (.iconst 0, 1) := by decide +kernel
theorem dX12_notes_13 : decode cX12_notes 13 = .ok (.istore_n 1, 1) := by decide +kernel
theorem dX12_notes_14 : decode cX12_notes 14 = .ok (.iload_n 1, 1) := by decide +kernel
theorem dX12_notes_15 : decode cX12_notes 15 = .ok (.bipush 90, 2) := by decide +kernel
theorem dX12_notes_17 : decode cX12_notes 17 = .ok (.if_icmp .ge 27, 3) := by decide +kernel
theorem dX12_notes_20 : decode cX12_notes 20 = .ok (.aload_n 0, 1) := by decide +kernel
theorem dX12_notes_21 : decode cX12_notes 21 = .ok (.getfield 13, 3) := by decide +kernel
theorem dX12_notes_24 : decode cX12_notes 24 = .ok (.bipush 39, 2) := by decide +kernel
theorem dX12_notes_26 : decode cX12_notes 26 = .ok (.iload_n 1, 1) := by decide +kernel
theorem dX12_notes_27 : decode cX12_notes 27 = .ok (.iadd, 1) := by decide +kernel
theorem dX12_notes_28 : decode cX12_notes 28 = .ok (.aload_n 0, 1) := by decide +kernel
theorem dX12_notes_29 : decode cX12_notes 29 = .ok (.getfield 13, 3) := by decide +kernel
theorem dX12_notes_32 : decode cX12_notes 32 = .ok (.bipush 49, 2) := by decide +kernel
theorem dX12_notes_34 : decode cX12_notes 34 = .ok (.iload_n 1, 1) := by decide +kernel
theorem dX12_notes_35 : decode cX12_notes 35 = .ok (.iadd, 1) := by decide +kernel
theorem dX12_notes_36 : decode cX12_notes 36 = .ok (.iaload, 1) := by decide +kernel
theorem dX12_notes_37 : decode cX12_notes 37 = .ok (.iastore, 1) := by decide +kernel
theorem dX12_notes_38 : decode cX12_notes 38 = .ok (.iinc 1 1, 3) := by decide +kernel
theorem dX12_notes_41 : decode cX12_notes 41 = .ok (.goto (-27), 3) := by decide +kernel
theorem dX12_notes_44 : decode cX12_notes 44 = .ok (.aload_n 0, 1) := by decide +kernel
theorem dX12_notes_45 : decode cX12_notes 45 = .ok (.getfield 13, 3) := by decide +kernel
theorem dX12_notes_48 : decode cX12_notes 48 = .ok (.bipush 38, 2) := by decide +kernel
theorem dX12_notes_50 : decode cX12_notes 50 = .ok (.dup2, 1) := by decide +kernel
theorem dX12_notes_51 : decode cX12_notes 51 = .ok (.iaload, 1) := by decide +kernel
theorem dX12_notes_52 : decode cX12_notes 52 = .ok (.iconst 1, 1) := by decide +kernel
theorem dX12_notes_53 : decode cX12_notes 53 = .ok (.isub, 1) := by decide +kernel
theorem dX12_notes_54 : decode cX12_notes 54 = .ok (.iastore, 1) := by decide +kernel
theorem dX12_notes_55 : decode cX12_notes 55 = .ok (.iconst 0, 1) := by decide +kernel
theorem dX12_notes_56 : decode cX12_notes 56 = .ok (.istore_n 1, 1) := by decide +kernel
theorem dX12_notes_57 : decode cX12_notes 57 = .ok (.iload_n 1, 1) := by decide +kernel
theorem dX12_notes_58 : decode cX12_notes 58 = .ok (.bipush 10, 2) := by decide +kernel
theorem dX12_notes_60 : decode cX12_notes 60 = .ok (.if_icmp .ge 35, 3) := by decide +kernel
theorem dX12_notes_63 : decode cX12_notes 63 = .ok (.aload_n 0, 1) := by decide +kernel
theorem dX12_notes_64 : decode cX12_notes 64 = .ok (.getfield 13, 3) := by decide +kernel
theorem dX12_notes_67 : decode cX12_notes 67 = .ok (.bipush 39, 2) := by decide +kernel
theorem dX12_notes_69 : decode cX12_notes 69 = .ok (.bipush 10, 2) := by decide +kernel
theorem dX12_notes_71 : decode cX12_notes 71 = .ok (.aload_n 0, 1) := by decide +kernel
theorem dX12_notes_72 : decode cX12_notes 72 = .ok (.getfield 13, 3) := by decide +kernel
theorem dX12_notes_75 : decode cX12_notes 75 = .ok (.bipush 38, 2) := by decide +kernel
theorem dX12_notes_77 : decode cX12_notes 77 = .ok (.iaload, 1) := by decide +kernel
theorem dX12_notes_78 : decode cX12_notes 78 = .ok (.imul, 1) := by decide +kernel
theorem dX12_notes_79 : decode cX12_notes 79 = .ok (.iadd, 1) := by decide +kernel
theorem dX12_notes_80 : decode cX12_notes 80 = .ok (.iload_n 1, 1) := by decide +kernel
theorem dX12_notes_81 : decode cX12_notes 81 = .ok (.iadd, 1) := by decide +kernel
theorem dX12_notes_82 : decode cX12_notes 82 = .ok (.aload_n 0, 1) := by decide +kernel
theorem dX12_notes_83 : decode cX12_notes 83 = .ok (.getfield 36, 3) := by decide +kernel
theorem dX12_notes_86 : decode cX12_notes 86 = .ok (.iload_n 1, 1) := by decide +kernel
theorem dX12_notes_87 : decode cX12_notes 87 = .ok (.iaload, 1) := by decide +kernel
theorem dX12_notes_88 : decode cX12_notes 88 = .ok (.iastore, 1) := by decide +kernel
theorem dX12_notes_89 : decode cX12_notes 89 = .ok (.iinc 1 1, 3) := by decide +kernel
theorem dX12_notes_92 : decode cX12_notes 92 = .ok (.goto (-35), 3) := by decide +kernel
theorem dX12_notes_95 : decode cX12_notes 95 = .ok (.aload_n 0, 1) := by decide +kernel
theorem dX12_notes_96 : decode cX12_notes 96 = .ok (.getfield 13, 3) := by decide +kernel
theorem dX12_notes_99 : decode cX12_notes 99 = .ok (.bipush 38, 2) := by decide +kernel
theorem dX12_notes_101 : decode cX12_notes 101 = .ok (.dup2, 1) := by decide +kernel
theorem dX12_notes_102 : decode cX12_notes 102 = .ok (.iaload, 1) := by decide +kernel
theorem dX12_notes_103 : decode cX12_notes 103 = .ok (.iconst 1, 1) := by decide +kernel
theorem dX12_notes_104 : decode cX12_notes 104 = .ok (.iadd, 1) := by decide +kernel
theorem dX12_notes_105 : decode cX12_notes 105 = .ok (.iastore, 1) := by decide +kernel
theorem dX12_notes_106 : decode cX12_notes 106 = .ok (.return_, 1) := by decide +kernel
theorem dX12_whySay_0 : decode cX12_whySay 0 = .ok (.aload_n 0, 1) := by decide +kernel
theorem dX12_whySay_1 : decode cX12_whySay 1 = .ok (.lload_n 1, 1) := by decide +kernel
theorem dX12_whySay_2 : decode cX12_whySay 2 = .ok (.invokevirtual 220, 3) := by decide +kernel
theorem dX12_whySay_5 : decode cX12_whySay 5 = .ok (.ifCond .eq 11, 3) := by decide +kernel
theorem dX12_whySay_8 : decode cX12_whySay 8 = .ok (.aload_n 0, 1) := by decide +kernel
theorem dX12_whySay_9 : decode cX12_whySay 9 = .ok (.lload_n 3, 1) := by decide +kernel
theorem dX12_whySay_10 : decode cX12_whySay 10 = .ok (.invokevirtual 224, 3) := by decide +kernel
theorem dX12_whySay_13 : decode cX12_whySay 13 = .ok (.ifCond .ne 5, 3) := by decide +kernel
theorem dX12_whySay_16 : decode cX12_whySay 16 = .ok (.iconst 1, 1) := by decide +kernel
theorem dX12_whySay_17 : decode cX12_whySay 17 = .ok (.ireturn, 1) := by decide +kernel
theorem dX12_whySay_18 : decode cX12_whySay 18 = .ok (.aload_n 0, 1) := by decide +kernel
theorem dX12_whySay_19 : decode cX12_whySay 19 = .ok (.aload_n 0, 1) := by decide +kernel
theorem dX12_whySay_20 : decode cX12_whySay 20 = .ok (.invokevirtual 251, 3) := by decide +kernel
theorem dX12_whySay_23 : decode cX12_whySay 23 = .ok (.lload_n 1, 1) := by decide +kernel
theorem dX12_whySay_24 : decode cX12_whySay 24 = .ok (.l2i, 1) := by decide +kernel
theorem dX12_whySay_25 : decode cX12_whySay 25 = .ok (.lload_n 3, 1) := by decide +kernel
theorem dX12_whySay_26 : decode cX12_whySay 26 = .ok (.l2i, 1) := by decide +kernel
theorem dX12_whySay_27 : decode cX12_whySay 27 = .ok (.invokevirtual 254, 3) := by decide +kernel
theorem dX12_whySay_30 : decode cX12_whySay 30 = .ok (.ifCond .eq 7, 3) := by decide +kernel
theorem dX12_whySay_33 : decode cX12_whySay 33 = .ok (.iconst 0, 1) := by decide +kernel
theorem dX12_whySay_34 : decode cX12_whySay 34 = .ok (.goto 4, 3) := by decide +kernel
theorem dX12_whySay_37 : decode cX12_whySay 37 = .ok (.iconst 2, 1) := by decide +kernel
theorem dX12_whySay_38 : decode cX12_whySay 38 = .ok (.ireturn, 1) := by decide +kernel
theorem dX12_says_0 : decode cX12_says 0 = .ok (.aload_n 0, 1) := by decide +kernel
theorem dX12_says_1 : decode cX12_says 1 = .ok (.aload_n 0, 1) := by decide +kernel
theorem dX12_says_2 : decode cX12_says 2 = .ok (.invokevirtual 251, 3) := by decide +kernel
theorem dX12_says_5 : decode cX12_says 5 = .ok (.iload_n 1, 1) := by decide +kernel
theorem dX12_says_6 : decode cX12_says 6 = .ok (.iload_n 2, 1) := by decide +kernel
theorem dX12_says_7 : decode cX12_says 7 = .ok (.invokevirtual 271, 3) := by decide +kernel
theorem dX12_says_10 : decode cX12_says 10 = .ok (.istore_n 3, 1) := by decide +kernel
theorem dX12_says_11 : decode cX12_says 11 = .ok (.aload_n 0, 1) := by decide +kernel
theorem dX12_says_12 : decode cX12_says 12 = .ok (.getfield 13, 3) := by decide +kernel
theorem dX12_says_15 : decode cX12_says 15 = .ok (.bipush 28, 2) := by decide +kernel
theorem dX12_says_17 : decode cX12_says 17 = .ok (.iload_n 3, 1) := by decide +kernel
theorem dX12_says_18 : decode cX12_says 18 = .ok (.invokestatic 231, 3) := by decide +kernel
theorem dX12_says_21 : decode cX12_says 21 = .ok (.iastore, 1) := by decide +kernel
theorem dX12_says_22 : decode cX12_says 22 = .ok (.aload_n 0, 1) := by decide +kernel
theorem dX12_says_23 : decode cX12_says 23 = .ok (.getfield 13, 3) := by decide +kernel
theorem dX12_says_26 : decode cX12_says 26 = .ok (.bipush 29, 2) := by decide +kernel
theorem dX12_says_28 : decode cX12_says 28 = .ok (.iload_n 3, 1) := by decide +kernel
theorem dX12_says_29 : decode cX12_says 29 = .ok (.invokestatic 234, 3) := by decide +kernel
theorem dX12_says_32 : decode cX12_says 32 = .ok (.iastore, 1) := by decide +kernel
theorem dX12_says_33 : decode cX12_says 33 = .ok (.aload_n 0, 1) := by decide +kernel
theorem dX12_says_34 : decode cX12_says 34 = .ok (.getfield 13, 3) := by decide +kernel
theorem dX12_says_37 : decode cX12_says 37 = .ok (.bipush 30, 2) := by decide +kernel
theorem dX12_says_39 : decode cX12_says 39 = .ok (.iload_n 1, 1) := by decide +kernel
theorem dX12_says_40 : decode cX12_says 40 = .ok (.iastore, 1) := by decide +kernel
theorem dX12_says_41 : decode cX12_says 41 = .ok (.aload_n 0, 1) := by decide +kernel
theorem dX12_says_42 : decode cX12_says 42 = .ok (.getfield 13, 3) := by decide +kernel
theorem dX12_says_45 : decode cX12_says 45 = .ok (.bipush 31, 2) := by decide +kernel
theorem dX12_says_47 : decode cX12_says 47 = .ok (.dup2, 1) := by decide +kernel
theorem dX12_says_48 : decode cX12_says 48 = .ok (.iaload, 1) := by decide +kernel
theorem dX12_says_49 : decode cX12_says 49 = .ok (.iconst 1, 1) := by decide +kernel
theorem dX12_says_50 : decode cX12_says 50 = .ok (.iadd, 1) := by decide +kernel
theorem dX12_says_51 : decode cX12_says 51 = .ok (.iastore, 1) := by decide +kernel
theorem dX12_says_52 : decode cX12_says 52 = .ok (.return_, 1) := by decide +kernel
theorem dX12_toneHeat_0 : decode cX12_toneHeat 0 = .ok (.bipush 10, 2) := by decide +kernel
theorem dX12_toneHeat_2 : decode cX12_toneHeat 2 = .ok (.aload_n 0, 1) := by decide +kernel
theorem dX12_toneHeat_3 : decode cX12_toneHeat 3 = .ok (.getfield 13, 3) := by decide +kernel
theorem dX12_toneHeat_6 : decode cX12_toneHeat 6 = .ok (.bipush 28, 2) := by decide +kernel
theorem dX12_toneHeat_8 : decode cX12_toneHeat 8 = .ok (.iaload, 1) := by decide +kernel
theorem dX12_toneHeat_9 : decode cX12_toneHeat 9 = .ok (.imul, 1) := by decide +kernel
theorem dX12_toneHeat_10 : decode cX12_toneHeat 10 = .ok (.aload_n 0, 1) := by decide +kernel
theorem dX12_toneHeat_11 : decode cX12_toneHeat 11 = .ok (.getfield 13, 3) := by decide +kernel
theorem dX12_toneHeat_14 : decode cX12_toneHeat 14 = .ok (.bipush 29, 2) := by decide +kernel
theorem dX12_toneHeat_16 : decode cX12_toneHeat 16 = .ok (.iaload, 1) := by decide +kernel
theorem dX12_toneHeat_17 : decode cX12_toneHeat 17 = .ok (.iadd, 1) := by decide +kernel
theorem dX12_toneHeat_18 : decode cX12_toneHeat 18 = .ok (.ireturn, 1) := by decide +kernel
section
variable (d : Nat) (sh : mbSh) (ct : mbCt) {β : Bk} {s : Sit}
theorem tw_adjourns (S : SH sh) (M : MA ct β s) : Mt YX12_adjourns d [.inr (.inr 92)] sh sh ct (pN fun c => MA c β (adjS β s) ∧ frJ 28 38 ct c ∧ eqBut [93] ct c) := by
  have L := M.1
  have s93 : shA sh 93 = some (20, 3120) := S.at _ rfl
  have h3 : ct 93 3 = β.n 0 := M.2.1.1.2.2.2.1
  have h4 : ct 93 4 = β.n 1 := M.2.1.1.2.2.2.2.1
  have hB := M.2.1.2.2.1
  have hb0 := hB.1
  have hb1 := hB.2.1
  have h4' : ∀ v, wr ct 93 28 v 93 4 = β.n 1 := fun v => by rw [wr_nk (by decide)]; exact h4
  refine Mt.of rfl (Nat.le_of_ble_eq_true rfl) ?_
  show G _ 0 [some (.inr (.inr 92))] [] sh ct
  refine g_aload_n (q := 1) dX12_adjourns_0 rfl rfl ?_
  refine g_getA (q := 4) (kI := 1) fX12_13 (by first | assumption | exact S.at _ rfl) dX12_adjourns_1 rfl rfl (by first | assumption | exact L.at _ _ rfl | exact LK.at (by assumption) _ _ rfl | ((repeat first | rewrite [wr_na (by decide)] | rewrite [wr_nk (by decide)] | rewrite [wa_na (by decide)]); first | assumption | exact LK.at (by assumption) _ _ rfl) | exact rfl) ?_
  refine g_bipush (q := 6) dX12_adjourns_4 (by decide +kernel) rfl ?_
  refine g_aload_n (q := 7) dX12_adjourns_6 rfl rfl ?_
  refine g_getA (q := 10) (kI := 1) fX12_13 (by first | assumption | exact S.at _ rfl) dX12_adjourns_7 rfl rfl (by first | assumption | exact L.at _ _ rfl | exact LK.at (by assumption) _ _ rfl | ((repeat first | rewrite [wr_na (by decide)] | rewrite [wr_nk (by decide)] | rewrite [wa_na (by decide)]); first | assumption | exact LK.at (by assumption) _ _ rfl) | exact rfl) ?_
  refine g_iconst (q := 11) dX12_adjourns_10 rfl ?_
  refine g_iaload (q := 12) (by first | assumption | exact S.at _ rfl) (by omega) (by omega) (by omega) dX12_adjourns_11 rfl ?_
  rw [h3]
  refine g_iastore (q := 13) (by first | assumption | exact S.at _ rfl) (by omega) (by omega) (by omega) dX12_adjourns_12 rfl ?_
  refine g_aload_n (q := 14) dX12_adjourns_13 rfl rfl ?_
  refine g_getA (q := 17) (kI := 1) fX12_13 (by first | assumption | exact S.at _ rfl) dX12_adjourns_14 rfl rfl (by first | assumption | exact L.at _ _ rfl | exact LK.at (by assumption) _ _ rfl | ((repeat first | rewrite [wr_na (by decide)] | rewrite [wr_nk (by decide)] | rewrite [wa_na (by decide)]); first | assumption | exact LK.at (by assumption) _ _ rfl) | exact rfl) ?_
  refine g_bipush (q := 19) dX12_adjourns_17 (by decide +kernel) rfl ?_
  refine g_aload_n (q := 20) dX12_adjourns_19 rfl rfl ?_
  refine g_getA (q := 23) (kI := 1) fX12_13 (by first | assumption | exact S.at _ rfl) dX12_adjourns_20 rfl rfl (by first | assumption | exact L.at _ _ rfl | exact LK.at (by assumption) _ _ rfl | ((repeat first | rewrite [wr_na (by decide)] | rewrite [wr_nk (by decide)] | rewrite [wa_na (by decide)]); first | assumption | exact LK.at (by assumption) _ _ rfl) | exact rfl) ?_
  refine g_iconst (q := 24) dX12_adjourns_23 rfl ?_
  refine g_iaload (q := 25) (by first | assumption | exact S.at _ rfl) (by omega) (by omega) (by omega) dX12_adjourns_24 rfl ?_
  rw [h4']
  refine g_iastore (q := 26) (by first | assumption | exact S.at _ rfl) (by omega) (by omega) (by omega) dX12_adjourns_25 rfl ?_
  refine g_aload_n (q := 27) dX12_adjourns_26 rfl rfl ?_
  refine g_getA (q := 30) (kI := 1) fX12_13 (by first | assumption | exact S.at _ rfl) dX12_adjourns_27 rfl rfl (by first | assumption | exact L.at _ _ rfl | exact LK.at (by assumption) _ _ rfl | ((repeat first | rewrite [wr_na (by decide)] | rewrite [wr_nk (by decide)] | rewrite [wa_na (by decide)]); first | assumption | exact LK.at (by assumption) _ _ rfl) | exact rfl) ?_
  refine g_bipush (q := 32) dX12_adjourns_30 (by decide +kernel) rfl ?_
  refine g_bipush (q := 34) dX12_adjourns_32 (by decide +kernel) rfl ?_
  refine g_iastore (q := 35) (by first | assumption | exact S.at _ rfl) (by omega) (by omega) (by omega) dX12_adjourns_34 rfl ?_
  refine g_aload_n (q := 36) dX12_adjourns_35 rfl rfl ?_
  refine g_getA (q := 39) (kI := 1) fX12_13 (by first | assumption | exact S.at _ rfl) dX12_adjourns_36 rfl rfl (by first | assumption | exact L.at _ _ rfl | exact LK.at (by assumption) _ _ rfl | ((repeat first | rewrite [wr_na (by decide)] | rewrite [wr_nk (by decide)] | rewrite [wa_na (by decide)]); first | assumption | exact LK.at (by assumption) _ _ rfl) | exact rfl) ?_
  refine g_bipush (q := 41) dX12_adjourns_39 (by decide +kernel) rfl ?_
  refine g_iconst (q := 42) dX12_adjourns_41 rfl ?_
  refine g_iastore (q := 43) (by first | assumption | exact S.at _ rfl) (by omega) (by omega) (by omega) dX12_adjourns_42 rfl ?_
  refine g_return dX12_adjourns_43 rfl ?_
  generalize hc : wr _ 93 31 0 = c
  have v : ∀ j, c 93 j = if j = 31 then 0 else if j = 30 then 6 else if j = 29 then β.n 1 else if j = 28 then β.n 0 else ct 93 j := by
    intro j
    rw [← hc]
    unfold wr
    grind
  have e : eqBut [93] ct c := by
    rw [← hc]
    exact (((eqBut.rf.wr (by decide)).wr (by decide)).wr (by decide)).wr (by decide)
  have fr : frJ 28 38 ct c := by
    intro j hj
    rw [v j, if_neg (by omega), if_neg (by omega), if_neg (by omega), if_neg (by omega)]
  refine ⟨rfl, M.fr (L.eb e rfl) (fr.mono (by decide) (by decide)) ⟨?_, ?_, ?_, ?_, fun m m0 m1 => ?_⟩ (adjS_B hB M.2.2.2), fr, e⟩
  · rw [v 28]
    show β.n 0 = ((β.n 0 * 10 + β.n 1) * 7 + 6) / 70
    omega
  · rw [show (28 : Int) + 1 = 29 from rfl, v 29]
    show β.n 1 = ((β.n 0 * 10 + β.n 1) * 7 + 6) / 7 % 10
    omega
  · rw [show (28 : Int) + 2 = 30 from rfl, v 30]
    show (6 : Int) = ((β.n 0 * 10 + β.n 1) * 7 + 6) % 7
    omega
  · rw [show (28 : Int) + 3 = 31 from rfl, v 31]
    rfl
  · rw [v, if_neg (by omega), if_neg (by omega), if_neg (by omega), if_neg (by omega)]
    exact M.2.2.1.2.2.2.2 m m0 m1
theorem tw_keeps (S : SH sh) (L : LK ct) (h : sitM (ct 93) 28 s) : Mt YX12_keeps d [.inr (.inr 92)] sh sh ct (pN fun c => sitM (c 99) 0 s ∧ eqBut [99] ct c) := by
  have s93 : shA sh 93 = some (20, 3120) := S.at _ rfl
  have s99 : shA sh 99 = some (20, 10) := S.at _ rfl
  generalize hP : (pN fun c => sitM (c 99) 0 s ∧ eqBut [99] ct c) = Po
  refine Mt.of rfl (Nat.le_of_ble_eq_true rfl) ?_
  show G _ 0 [some (.inr (.inr 92)), none] [] sh ct
  refine g_iconst (q := 1) dX12_keeps_0 rfl ?_
  refine s_istore_n_2_1 (q := 2) dX12_keeps_1 rfl rfl rfl ?_
  refine g_for (fun k => [some (.inr (.inr 92)), some (.inl k)]) (fun k c => 0 ≤ k ∧ eqBut [99] ct c ∧ ∀ j, 0 ≤ j → j < k → c 99 j = ct 93 (28 + j)) 10 ?_ ?_ (i := 0) (by omega) ⟨by omega, eqBut.rf, fun j _ _ => by omega⟩ (by simp [lsSub])
  · rintro k c hk ⟨k0, e, hj⟩ kk
    have L1 : LK c := L.eb e rfl
    refine g_iload_n (q := 3) dX12_keeps_2 rfl rfl ?_
    refine g_bipush (q := 5) dX12_keeps_3 (by decide +kernel) rfl ?_
    refine g_icmp_ge (q := 8) (tg := 29) dX12_keeps_5 (by decide) rfl (fun c_5 => ?_) (fun c_5 => ?_)
    · exact absurd c_5 (by unfold w32; omega)
    · refine g_aload_n (q := 9) dX12_keeps_8 rfl rfl ?_
      refine g_getA (q := 12) (kI := 18) fX12_36 (by first | assumption | exact S.at _ rfl) dX12_keeps_9 rfl rfl (by first | assumption | exact L.at _ _ rfl | exact LK.at (by assumption) _ _ rfl | ((repeat first | rewrite [wr_na (by decide)] | rewrite [wr_nk (by decide)] | rewrite [wa_na (by decide)]); first | assumption | exact LK.at (by assumption) _ _ rfl) | exact rfl) ?_
      refine g_iload_n (q := 13) dX12_keeps_12 rfl rfl ?_
      refine g_aload_n (q := 14) dX12_keeps_13 rfl rfl ?_
      refine g_getA (q := 17) (kI := 1) fX12_13 (by first | assumption | exact S.at _ rfl) dX12_keeps_14 rfl rfl (by first | assumption | exact L.at _ _ rfl | exact LK.at (by assumption) _ _ rfl | ((repeat first | rewrite [wr_na (by decide)] | rewrite [wr_nk (by decide)] | rewrite [wa_na (by decide)]); first | assumption | exact LK.at (by assumption) _ _ rfl) | exact rfl) ?_
      refine g_bipush (q := 19) dX12_keeps_17 (by decide +kernel) rfl ?_
      refine g_iload_n (q := 20) dX12_keeps_19 rfl rfl ?_
      refine g_iadd (q := 21) dX12_keeps_20 rfl ?_
      refine g_iaload (q := 22) (by first | assumption | exact S.at _ rfl) (by omega) (by omega) (by omega) dX12_keeps_21 rfl ?_
      refine g_iastore (q := 23) (by first | assumption | exact S.at _ rfl) (by omega) (by omega) (by omega) dX12_keeps_22 rfl ?_
      refine s_iinc_2_1 (q := 26) dX12_keeps_23 rfl rfl rfl ?_
      refine g_goto (q := 2) dX12_keeps_26 (by decide) ?_
      refine kk _ _ (by simp [lsSub]) ⟨by omega, e.wr (by decide), fun j a b => ?_⟩
      by_cases hjk : j = k
      · subst hjk
        rw [wr_eq, e 93 (by decide)]
      · rw [wr_nk hjk]
        exact hj j a (by omega)
  · rintro c ⟨-, e, hj⟩
    refine g_iload_n (q := 3) dX12_keeps_2 rfl rfl ?_
    refine g_bipush (q := 5) dX12_keeps_3 (by decide +kernel) rfl ?_
    refine g_icmp_ge (q := 8) (tg := 29) dX12_keeps_5 (by decide) rfl (fun c_5 => ?_) (fun c_5 => ?_)
    · refine g_return dX12_keeps_29 rfl ?_
      rw [← hP]
      exact ⟨rfl, h.cp (fun j a b => by rw [Int.zero_add]; exact hj j a b), e⟩
    · exact absurd c_5 (by decide)
theorem tw_isAgain {w : Sit} (S : SH sh) (M : MA ct β s) (h : sitM (ct 99) 0 w) (hw : sitB w) : Mt YX12_isAgain d [.inr (.inr 92)] sh sh ct (pN fun c => MA c β w ∧ frJ 28 38 ct c ∧ eqBut [93] ct c) := by
  have L := M.1
  have s93 : shA sh 93 = some (20, 3120) := S.at _ rfl
  have s99 : shA sh 99 = some (20, 10) := S.at _ rfl
  generalize hP : (pN fun c => MA c β w ∧ frJ 28 38 ct c ∧ eqBut [93] ct c) = Po
  refine Mt.of rfl (Nat.le_of_ble_eq_true rfl) ?_
  show G _ 0 [some (.inr (.inr 92)), none] [] sh ct
  refine g_iconst (q := 1) dX12_isAgain_0 rfl ?_
  refine s_istore_n_2_1 (q := 2) dX12_isAgain_1 rfl rfl rfl ?_
  refine g_for (fun k => [some (.inr (.inr 92)), some (.inl k)]) (fun k c => 0 ≤ k ∧ eqBut [93] ct c ∧ frJ 28 38 ct c ∧ ∀ j, 0 ≤ j → j < k → c 93 (28 + j) = ct 99 j) 10 ?_ ?_ (i := 0) (by omega) ⟨by omega, eqBut.rf, frJ.of rfl, fun j _ _ => by omega⟩ (by simp [lsSub])
  · rintro k c hk ⟨k0, e, fr, hj⟩ kk
    have L1 : LK c := L.eb e rfl
    refine g_iload_n (q := 3) dX12_isAgain_2 rfl rfl ?_
    refine g_bipush (q := 5) dX12_isAgain_3 (by decide +kernel) rfl ?_
    refine g_icmp_ge (q := 8) (tg := 29) dX12_isAgain_5 (by decide) rfl (fun c_5 => ?_) (fun c_5 => ?_)
    · exact absurd c_5 (by unfold w32; omega)
    · refine g_aload_n (q := 9) dX12_isAgain_8 rfl rfl ?_
      refine g_getA (q := 12) (kI := 1) fX12_13 (by first | assumption | exact S.at _ rfl) dX12_isAgain_9 rfl rfl (by first | assumption | exact L.at _ _ rfl | exact LK.at (by assumption) _ _ rfl | ((repeat first | rewrite [wr_na (by decide)] | rewrite [wr_nk (by decide)] | rewrite [wa_na (by decide)]); first | assumption | exact LK.at (by assumption) _ _ rfl) | exact rfl) ?_
      refine g_bipush (q := 14) dX12_isAgain_12 (by decide +kernel) rfl ?_
      refine g_iload_n (q := 15) dX12_isAgain_14 rfl rfl ?_
      refine g_iadd (q := 16) dX12_isAgain_15 rfl ?_
      refine g_aload_n (q := 17) dX12_isAgain_16 rfl rfl ?_
      refine g_getA (q := 20) (kI := 18) fX12_36 (by first | assumption | exact S.at _ rfl) dX12_isAgain_17 rfl rfl (by first | assumption | exact L.at _ _ rfl | exact LK.at (by assumption) _ _ rfl | ((repeat first | rewrite [wr_na (by decide)] | rewrite [wr_nk (by decide)] | rewrite [wa_na (by decide)]); first | assumption | exact LK.at (by assumption) _ _ rfl) | exact rfl) ?_
      refine g_iload_n (q := 21) dX12_isAgain_20 rfl rfl ?_
      refine g_iaload (q := 22) (by first | assumption | exact S.at _ rfl) (by omega) (by omega) (by omega) dX12_isAgain_21 rfl ?_
      refine g_iastore (q := 23) (by first | assumption | exact S.at _ rfl) (by omega) (by omega) (by omega) dX12_isAgain_22 rfl ?_
      refine s_iinc_2_1 (q := 26) dX12_isAgain_23 rfl rfl rfl ?_
      refine g_goto (q := 2) dX12_isAgain_26 (by decide) ?_
      refine kk _ _ (by simp [lsSub]) ⟨by omega, e.wr (by decide), fun j hj2 => ?_, fun j a b => ?_⟩
      · rw [wr_nk (by omega)]
        exact fr j hj2
      · by_cases hjk : j = k
        · subst hjk
          rw [wr_eq, e 99 (by decide)]
        · rw [wr_nk (by omega)]
          exact hj j a (by omega)
  · rintro c ⟨-, e, fr, hj⟩
    refine g_iload_n (q := 3) dX12_isAgain_2 rfl rfl ?_
    refine g_bipush (q := 5) dX12_isAgain_3 (by decide +kernel) rfl ?_
    refine g_icmp_ge (q := 8) (tg := 29) dX12_isAgain_5 (by decide) rfl (fun c_5 => ?_) (fun c_5 => ?_)
    · refine g_return dX12_isAgain_29 rfl ?_
      rw [← hP]
      refine ⟨rfl, M.fr (L.eb e rfl) (fr.mono (by decide) (by decide)) (h.cp (fun j a b => ?_)) hw, fr, e⟩
      rw [Int.zero_add]
      exact hj j a b
    · exact absurd c_5 (by decide)
theorem tw_toneHeat (S : SH sh) (M : MA ct β s) : Mt YX12_toneHeat d [.inr (.inr 92)] sh sh ct (pI fun r c => r = s.1 / 7 ∧ c = ct) := by
  have L := M.1
  have h1 : ct 93 28 = s.1 / 70 := M.2.2.1.1
  have h2 : ct 93 29 = s.1 / 7 % 10 := M.2.2.1.2.1
  have hb := M.2.2.2.1
  refine Mt.of rfl (Nat.le_of_ble_eq_true rfl) ?_
  show G _ 0 [some (.inr (.inr 92))] [] sh ct
  refine g_bipush (q := 2) dX12_toneHeat_0 (by decide +kernel) rfl ?_
  refine g_aload_n (q := 3) dX12_toneHeat_2 rfl rfl ?_
  refine g_getA (q := 6) (kI := 1) fX12_13 (by first | assumption | exact S.at _ rfl) dX12_toneHeat_3 rfl rfl (by first | assumption | exact L.at _ _ rfl | exact LK.at (by assumption) _ _ rfl | ((repeat first | rewrite [wr_na (by decide)] | rewrite [wr_nk (by decide)] | rewrite [wa_na (by decide)]); first | assumption | exact LK.at (by assumption) _ _ rfl) | exact rfl) ?_
  refine g_bipush (q := 8) dX12_toneHeat_6 (by decide +kernel) rfl ?_
  refine g_iaload (q := 9) (by first | assumption | exact S.at _ rfl) (by omega) (by omega) (by omega) dX12_toneHeat_8 rfl ?_
  refine g_imul (q := 10) dX12_toneHeat_9 rfl ?_
  refine g_aload_n (q := 11) dX12_toneHeat_10 rfl rfl ?_
  refine g_getA (q := 14) (kI := 1) fX12_13 (by first | assumption | exact S.at _ rfl) dX12_toneHeat_11 rfl rfl (by first | assumption | exact L.at _ _ rfl | exact LK.at (by assumption) _ _ rfl | ((repeat first | rewrite [wr_na (by decide)] | rewrite [wr_nk (by decide)] | rewrite [wa_na (by decide)]); first | assumption | exact LK.at (by assumption) _ _ rfl) | exact rfl) ?_
  refine g_bipush (q := 16) dX12_toneHeat_14 (by decide +kernel) rfl ?_
  refine g_iaload (q := 17) (by first | assumption | exact S.at _ rfl) (by omega) (by omega) (by omega) dX12_toneHeat_16 rfl ?_
  refine g_iadd (q := 18) dX12_toneHeat_17 rfl ?_
  refine g_ireturn dX12_toneHeat_18 rfl ?_
  refine ⟨_, rfl, ?_, rfl⟩
  rw [h1, h2]
  omega
def whyS (β : Bk) (s : Sit) (m y : Int) : Int := if (0 ≤ m ∧ m < β.n 2) ∧ 0 ≤ y ∧ y < β.n 3 then (if β.W s.1 m (s.2.2 m) y = true then 0 else 2) else 1
theorem tw_whySay {m y : Int} (S : SH sh) (M : MA ct β s) (hm : i64 m) (hy : i64 y) : Mt YX12_whySay (d + 4) [.inr (.inr 92), .inr (.inl m), .inr (.inl y)] sh sh ct (pI fun r c => r = whyS β s m y ∧ eqBut [97, 98] ct c) := by
  have hB := M.2.1.2.2.1
  have hb2 := hB.2.2.1
  have hb3 := hB.2.2.2.1
  have M1 := M.md
  have hrg := M1.rg
  refine Mt.of rfl (Nat.le_of_ble_eq_true rfl) ?_
  show G _ 0 [some (.inr (.inr 92)), some (.inr (.inl m)), none, some (.inr (.inl y)), none] [] sh ct
  refine g_aload_n (q := 1) dX12_whySay_0 rfl rfl ?_
  refine g_lload_n (q := 2) dX12_whySay_1 rfl rfl ?_
  refine g_callV (q := 5) lX12_220 mX12_isMember nX12_isMember rfl (tw_isMember (d + 2) sh _ M1 S hm) (by first | assumption | exact S.at _ rfl) rfl rfl shLe.rf (rmOk.mk (by omega) (by first | exact shLe.rf | assumption)) (Nat.le_of_ble_eq_true rfl) dX12_whySay_2 rfl rfl (kI fun r_ c_ hp => ?_)
  obtain ⟨hr, hq⟩ := hp
  replace hr := hr.symm
  replace hq := hq.symm
  subst hr hq
  refine g_if_eq (q := 8) (tg := 16) dX12_whySay_5 (by decide) rfl (fun c_5 => ?_) (fun c_5 => ?_)
  · refine g_iconst (q := 17) dX12_whySay_16 rfl ?_
    refine g_ireturn dX12_whySay_17 rfl ?_
    refine ⟨_, rfl, ?_, eqBut.rf⟩
    unfold whyS
    rw [if_neg (fun z => wb0.mp c_5 z.1)]
  · have h5 := wbn.mp c_5
    refine g_aload_n (q := 9) dX12_whySay_8 rfl rfl ?_
    refine g_lload_n (q := 10) dX12_whySay_9 rfl rfl ?_
    refine g_callV (q := 13) lX12_224 mX12_isSaying nX12_isSaying rfl (tw_isSaying (d + 2) sh _ M1 S hy) (by first | assumption | exact S.at _ rfl) rfl rfl shLe.rf (rmOk.mk (by omega) (by first | exact shLe.rf | assumption)) (Nat.le_of_ble_eq_true rfl) dX12_whySay_10 rfl rfl (kI fun r_ c_ hp => ?_)
    obtain ⟨hr, hq⟩ := hp
    replace hr := hr.symm
    replace hq := hq.symm
    subst hr hq
    refine g_if_ne (q := 16) (tg := 18) dX12_whySay_13 (by decide) rfl (fun c_13 => ?_) (fun c_13 => ?_)
    · have h13 := wbn.mp c_13
      refine g_aload_n (q := 19) dX12_whySay_18 rfl rfl ?_
      refine g_aload_n (q := 20) dX12_whySay_19 rfl rfl ?_
      refine g_callV (q := 23) lX12_251 mX12_standNow nX12_standNow rfl (tw_standNow (d + 3) sh _ M1 S) (by first | assumption | exact S.at _ rfl) rfl rfl shLe.rf (rmOk.mk (by omega) (by first | exact shLe.rf | assumption)) (Nat.le_of_ble_eq_true rfl) dX12_whySay_20 rfl rfl (kI fun r_ c_ hp => ?_)
      obtain ⟨hr, hq⟩ := hp
      replace hr := hr.symm
      replace hq := hq.symm
      subst hr hq
      refine g_lload_n (q := 24) dX12_whySay_23 rfl rfl ?_
      refine g_l2i (q := 25) dX12_whySay_24 rfl ?_
      refine g_lload_n (q := 26) dX12_whySay_25 rfl rfl ?_
      refine g_l2i (q := 27) dX12_whySay_26 rfl ?_
      refine g_callV (q := 30) lX12_254 mX12_wouldSay nX12_wouldSay rfl (tw_wouldSay d sh _ S M1 hrg.1 hrg.2 h5.1 (by omega) h13.1 (by omega)) (by first | assumption | exact S.at _ rfl) rfl rfl shLe.rf (rmOk.mk (by omega) (by first | exact shLe.rf | assumption)) (Nat.le_of_ble_eq_true rfl) dX12_whySay_27 rfl rfl (kI fun r c1 hp => ?_)
      obtain ⟨rfl, e⟩ := hp
      refine g_if_eq (q := 33) (tg := 37) dX12_whySay_30 (by decide) rfl (fun c_30 => ?_) (fun c_30 => ?_)
      · refine g_iconst (q := 38) dX12_whySay_37 rfl ?_
        refine g_ireturn dX12_whySay_38 rfl ?_
        refine ⟨_, rfl, ?_, e⟩; unfold whyS; rw [if_pos ⟨h5, h13⟩]; first | rw [if_pos (wbn.mp c_30)] | rw [if_neg (wb0.mp c_30)]
      · refine g_iconst (q := 34) dX12_whySay_33 rfl ?_
        refine g_goto (q := 38) dX12_whySay_34 (by decide) ?_
        refine g_ireturn dX12_whySay_38 rfl ?_
        refine ⟨_, rfl, ?_, e⟩; unfold whyS; rw [if_pos ⟨h5, h13⟩]; first | rw [if_pos (wbn.mp c_30)] | rw [if_neg (wb0.mp c_30)]
    · refine g_iconst (q := 17) dX12_whySay_16 rfl ?_
      refine g_ireturn dX12_whySay_17 rfl ?_
      refine ⟨_, rfl, ?_, eqBut.rf⟩
      unfold whyS
      rw [if_neg (fun z => wb0.mp c_13 z.2)]
theorem tw_says {m y : Int} (S : SH sh) (M : MA ct β s) (m0 : 0 ≤ m) (m1 : m < 6) (y0 : 0 ≤ y) (y1 : y < 8) : Mt YX12_says (d + 2) [.inr (.inr 92), .inl m, .inl y] sh sh ct (pN fun c => MA c β (sayS β s m y) ∧ frJ 28 38 ct c ∧ eqBut [93] ct c) := by
  have L := M.1
  have s93 : shA sh 93 = some (20, 3120) := S.at _ rfl
  have M1 := M.md
  have hrg := M1.rg
  have hnx := nxB_in (β := β) (st := s.1) (m := m) (s := y) m0 (by omega)
  have h31 : ct 93 31 = s.2.1 := M.2.2.1.2.2.2.1
  generalize hP : (pN fun c => MA c β (sayS β s m y) ∧ frJ 28 38 ct c ∧ eqBut [93] ct c) = Po
  refine Mt.of rfl (Nat.le_of_ble_eq_true rfl) ?_
  show G _ 0 [some (.inr (.inr 92)), some (.inl m), some (.inl y), none] [] sh ct
  refine g_aload_n (q := 1) dX12_says_0 rfl rfl ?_
  refine g_aload_n (q := 2) dX12_says_1 rfl rfl ?_
  refine g_callV (q := 5) lX12_251 mX12_standNow nX12_standNow rfl (tw_standNow (d + 1) sh _ M1 S) (by first | assumption | exact S.at _ rfl) rfl rfl shLe.rf (rmOk.mk (by omega) (by first | exact shLe.rf | assumption)) (Nat.le_of_ble_eq_true rfl) dX12_says_2 rfl rfl (kI fun r_ c_ hp => ?_)
  obtain ⟨hr, hq⟩ := hp
  replace hr := hr.symm
  replace hq := hq.symm
  subst hr hq
  refine g_iload_n (q := 6) dX12_says_5 rfl rfl ?_
  refine g_iload_n (q := 7) dX12_says_6 rfl rfl ?_
  refine g_callV (q := 10) lX12_271 mX12_behindMinute nX12_behindMinute rfl (tw_behindMinute d sh _ M1 S hrg.1 hrg.2 y0 y1) (by first | assumption | exact S.at _ rfl) rfl rfl shLe.rf (rmOk.mk (by omega) (by first | exact shLe.rf | assumption)) (Nat.le_of_ble_eq_true rfl) dX12_says_7 rfl rfl (kI fun r_ c_ hp => ?_)
  obtain ⟨hr, hq⟩ := hp
  replace hr := hr.symm
  replace hq := hq.symm
  subst hr hq
  refine s_istore_n_4_3 (q := 11) dX12_says_10 rfl rfl rfl ?_
  refine g_aload_n (q := 12) dX12_says_11 rfl rfl ?_
  refine g_getA (q := 15) (kI := 1) fX12_13 (by first | assumption | exact S.at _ rfl) dX12_says_12 rfl rfl (by first | assumption | exact L.at _ _ rfl | exact LK.at (by assumption) _ _ rfl | ((repeat first | rewrite [wr_na (by decide)] | rewrite [wr_nk (by decide)] | rewrite [wa_na (by decide)]); first | assumption | exact LK.at (by assumption) _ _ rfl) | exact rfl) ?_
  refine g_bipush (q := 17) dX12_says_15 (by decide +kernel) rfl ?_
  refine g_iload_n (q := 18) dX12_says_17 rfl rfl ?_
  refine g_callS (q := 21) lX12_231 mX12_toneOf sX12_toneOf rfl (tw_toneOf (d + 1) sh _ hnx.1 (by omega)) shLe.rf (rmOk.mk (by omega) (by first | exact shLe.rf | assumption)) (Nat.le_of_ble_eq_true rfl) dX12_says_18 rfl rfl (kI fun r_ c_ hp => ?_)
  obtain ⟨hr, hq⟩ := hp
  replace hr := hr.symm
  replace hq := hq.symm
  subst hr hq
  refine g_iastore (q := 22) (by first | assumption | exact S.at _ rfl) (by omega) (by omega) (by omega) dX12_says_21 rfl ?_
  refine g_aload_n (q := 23) dX12_says_22 rfl rfl ?_
  refine g_getA (q := 26) (kI := 1) fX12_13 (by first | assumption | exact S.at _ rfl) dX12_says_23 rfl rfl (by first | assumption | exact L.at _ _ rfl | exact LK.at (by assumption) _ _ rfl | ((repeat first | rewrite [wr_na (by decide)] | rewrite [wr_nk (by decide)] | rewrite [wa_na (by decide)]); first | assumption | exact LK.at (by assumption) _ _ rfl) | exact rfl) ?_
  refine g_bipush (q := 28) dX12_says_26 (by decide +kernel) rfl ?_
  refine g_iload_n (q := 29) dX12_says_28 rfl rfl ?_
  refine g_callS (q := 32) lX12_234 mX12_heatOf sX12_heatOf rfl (tw_heatOf (d + 1) sh _ hnx.1 (by omega)) shLe.rf (rmOk.mk (by omega) (by first | exact shLe.rf | assumption)) (Nat.le_of_ble_eq_true rfl) dX12_says_29 rfl rfl (kI fun r_ c_ hp => ?_)
  obtain ⟨hr, hq⟩ := hp
  replace hr := hr.symm
  replace hq := hq.symm
  subst hr hq
  have v31 : ∀ a b e, wr (wr (wr ct 93 28 a) 93 29 b) 93 30 e 93 31 = s.2.1 := fun a b e => by rw [wr_nk (by decide), wr_nk (by decide), wr_nk (by decide)]; exact h31
  refine g_iastore (q := 33) (by first | assumption | exact S.at _ rfl) (by omega) (by omega) (by omega) dX12_says_32 rfl ?_
  refine g_aload_n (q := 34) dX12_says_33 rfl rfl ?_
  refine g_getA (q := 37) (kI := 1) fX12_13 (by first | assumption | exact S.at _ rfl) dX12_says_34 rfl rfl (by first | assumption | exact L.at _ _ rfl | exact LK.at (by assumption) _ _ rfl | ((repeat first | rewrite [wr_na (by decide)] | rewrite [wr_nk (by decide)] | rewrite [wa_na (by decide)]); first | assumption | exact LK.at (by assumption) _ _ rfl) | exact rfl) ?_
  refine g_bipush (q := 39) dX12_says_37 (by decide +kernel) rfl ?_
  refine g_iload_n (q := 40) dX12_says_39 rfl rfl ?_
  refine g_iastore (q := 41) (by first | assumption | exact S.at _ rfl) (by omega) (by omega) (by omega) dX12_says_40 rfl ?_
  refine g_aload_n (q := 42) dX12_says_41 rfl rfl ?_
  refine g_getA (q := 45) (kI := 1) fX12_13 (by first | assumption | exact S.at _ rfl) dX12_says_42 rfl rfl (by first | assumption | exact L.at _ _ rfl | exact LK.at (by assumption) _ _ rfl | ((repeat first | rewrite [wr_na (by decide)] | rewrite [wr_nk (by decide)] | rewrite [wa_na (by decide)]); first | assumption | exact LK.at (by assumption) _ _ rfl) | exact rfl) ?_
  refine g_bipush (q := 47) dX12_says_45 (by decide +kernel) rfl ?_
  refine g_dup2 (q := 48) dX12_says_47 rfl rfl rfl ?_
  refine g_iaload (q := 49) (by first | assumption | exact S.at _ rfl) (by omega) (by omega) (by omega) dX12_says_48 rfl ?_
  rw [v31]
  refine g_iconst (q := 50) dX12_says_49 rfl ?_
  refine g_iadd (q := 51) dX12_says_50 rfl ?_
  refine g_iastore (q := 52) (by first | assumption | exact S.at _ rfl) (by omega) (by omega) (by omega) dX12_says_51 rfl ?_
  refine g_return dX12_says_52 rfl ?_
  generalize hc : wr _ 93 31 _ = c
  have v : ∀ j, c 93 j = if j = 31 then s.2.1 + 1 else if j = 30 then m else if j = 29 then nxB β s.1 m y / 7 % 10 else if j = 28 then nxB β s.1 m y / 70 else ct 93 j := by
    intro j
    rw [← hc]
    unfold wr
    grind
  have e : eqBut [93] ct c := by
    rw [← hc]
    exact (((eqBut.rf.wr (by decide)).wr (by decide)).wr (by decide)).wr (by decide)
  have fr : frJ 28 38 ct c := by
    intro j hj
    rw [v j, if_neg (by omega), if_neg (by omega), if_neg (by omega), if_neg (by omega)]
  rw [← hP]
  refine ⟨rfl, M.fr (L.eb e rfl) (fr.mono (by decide) (by decide)) ⟨?_, ?_, ?_, ?_, fun k k0 k1 => ?_⟩ (sayS_B M.2.2.2 m0 (by omega)), fr, e⟩
  · rw [v 28]
    rfl
  · rw [show (28 : Int) + 1 = 29 from rfl, v 29]
    rfl
  · rw [show (28 : Int) + 2 = 30 from rfl, v 30]
    show m = nxB β s.1 m y % 7
    unfold nxB
    omega
  · rw [show (28 : Int) + 3 = 31 from rfl, v 31]
    rfl
  · rw [v, if_neg (by omega), if_neg (by omega), if_neg (by omega), if_neg (by omega)]
    exact M.2.2.1.2.2.2.2 k k0 k1
end
