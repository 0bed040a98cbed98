/-! the reference: small methods -/
theorem wb0 {p : Prop} [Decidable p] : w32 (b01 p) = 0 ↔ ¬ p := by
  unfold b01
  split
  · rename_i h
    exact ⟨fun z => absurd z (by decide), fun z => absurd h z⟩
  · rename_i h
    exact ⟨fun _ => h, fun _ => rfl⟩
theorem wbn {p : Prop} [Decidable p] : ¬ w32 (b01 p) = 0 ↔ p := by
  rw [wb0]
  exact Decidable.not_not
theorem b01_c {p q : Prop} [Decidable p] [Decidable q] (h : p ↔ q) : b01 p = b01 q := by
  unfold b01
  by_cases hp : p
  · rw [if_pos hp, if_pos (h.mp hp)]
  · rw [if_neg hp, if_neg (fun z => hp (h.mpr z))]
theorem cmp_lt {x y : Int} : w32 (cmpL x y) < 0 ↔ w64 x < w64 y := by
  unfold cmpL
  split
  · rw [show w32 0 = 0 from rfl]
    omega
  · split
    · rw [show w32 (-1) = -1 from rfl]
      omega
    · rw [show w32 1 = 1 from rfl]
      omega
theorem cmp_gt {x y : Int} : 0 < w32 (cmpL x y) ↔ w64 y < w64 x := by
  unfold cmpL
  split
  · rw [show w32 0 = 0 from rfl]
    omega
  · split
    · rw [show w32 (-1) = -1 from rfl]
      omega
    · rw [show w32 1 = 1 from rfl]
      omega
theorem cmp_eq {x y : Int} : w32 (cmpL x y) = 0 ↔ w64 x = w64 y := by
  unfold cmpL
  split
  · rw [show w32 0 = 0 from rfl]
    omega
  · split
    · rw [show w32 (-1) = -1 from rfl]
      omega
    · rw [show w32 1 = 1 from rfl]
      omega
/-- the ints of the machine -/
def i32 (x : Int) : Prop := -2147483648 ≤ x ∧ x < 2147483648
def i64 (x : Int) : Prop := -9223372036854775808 ≤ x ∧ x < 9223372036854775808
/-- a code of the class's, as the reference has it -/
def mTr (op : Int) : Int := if 0 ≤ op then op else if -6 ≤ op then 999 - op else 2993 - op
def wouldL (l : List Int) (st w m s : Int) : Bool := decide (l = [] ∨ semL (askF st w m s) l [] = [1])
def closesL (l : List Int) (st : Int) : Bool := if l = [] then decide (st / 7 % 10 = 0) else decide (semL (askF st 0 0 0) l [] = [1])
def lawOk (l : List Int) : Prop := l = [] ∨ typL l [] = some [true]
def mLaw (a : Int → Int) (o law : Int) (l : List Int) : Prop := a (o + 6 + law) = b01 (l ≠ []) ∧ a (o + 10 + law) = l.length ∧ 0 ≤ a (o + 8 + law) ∧ a (o + 8 + law) + l.length ≤ 900 ∧ (∀ (k : Nat) (op : Int), l[k]? = some op → a (o + 140 + a (o + 8 + law) + k) = mTr op) ∧ lawOk l
/-- the bounds of a book's numbers -/
def bkB (β : Bk) : Prop := (0 ≤ β.n 0 ∧ β.n 0 ≤ 9) ∧ (0 ≤ β.n 1 ∧ β.n 1 ≤ 9) ∧ (0 ≤ β.n 2 ∧ β.n 2 ≤ 6) ∧ (0 ≤ β.n 3 ∧ β.n 3 ≤ 8) ∧ (0 ≤ β.n 4 ∧ β.n 4 ≤ 10) ∧ (0 ≤ β.n 5 ∧ β.n 5 ≤ 1000) ∧ ∀ s, 0 ≤ s → s < 8 → (-9 ≤ β.tt s ∧ β.tt s ≤ 9) ∧ -9 ≤ β.ht s ∧ β.ht s ≤ 9
/-- a book in a row of the reference's, from the place o on -/
def mBk (a : Int → Int) (o : Int) (β : Bk) : Prop := (a o = β.n 5 ∧ a (o + 1) = β.n 2 ∧ a (o + 2) = β.n 3 ∧ a (o + 3) = β.n 0 ∧ a (o + 4) = β.n 1 ∧ a (o + 5) = β.n 4) ∧ (∀ s, 0 ≤ s → s < 8 → a (o + 12 + s) = β.tt s ∧ a (o + 20 + s) = β.ht s) ∧ bkB β ∧ ∃ lw lc, mLaw a o 0 lw ∧ mLaw a o 1 lc ∧ (∀ op ∈ lc, ¬ (-6 ≤ op ∧ op ≤ -4)) ∧ β.W = wouldL lw ∧ β.cl = closesL lc
/-- what the questions of the reference rest on: book, marks, state -/
def MD (ct : mbCt) (β : Bk) (mk : Int → Int) (st : Int) : Prop := LK ct ∧ mBk (ct 93) 0 β ∧ (∀ m, 0 ≤ m → m < 6 → ct 93 (32 + m) = mk m ∧ 0 ≤ mk m ∧ mk m ≤ 9) ∧ (0 ≤ st ∧ st < 700) ∧ ct 93 28 = st / 70 ∧ ct 93 29 = st / 7 % 10 ∧ ct 93 30 = st % 7
section
variable {ct c : mbCt} {β : Bk} {mk : Int → Int} {st : Int}
theorem MD.L (h : MD ct β mk st) : LK ct := h.1
theorem MD.bk (h : MD ct β mk st) : mBk (ct 93) 0 β := h.2.1
theorem MD.B (h : MD ct β mk st) : bkB β := h.2.1.2.2.1
theorem MD.mem (h : MD ct β mk st) : ct 93 1 = β.n 2 ∧ 0 ≤ β.n 2 ∧ β.n 2 ≤ 6 := ⟨h.2.1.1.2.1, h.B.2.2.1⟩
theorem MD.say (h : MD ct β mk st) : ct 93 2 = β.n 3 ∧ 0 ≤ β.n 3 ∧ β.n 3 ≤ 8 := ⟨h.2.1.1.2.2.1, h.B.2.2.2.1⟩
theorem MD.turn (h : MD ct β mk st) {s : Int} (h0 : 0 ≤ s) (h1 : s < 8) : (ct 93 (12 + s) = β.tt s ∧ ct 93 (20 + s) = β.ht s) ∧ (-9 ≤ β.tt s ∧ β.tt s ≤ 9) ∧ -9 ≤ β.ht s ∧ β.ht s ≤ 9 := by
  have := h.2.1.2.1 s h0 h1
  rw [Int.zero_add, Int.zero_add] at this
  exact ⟨this, h.B.2.2.2.2.2.2 s h0 h1⟩
theorem MD.mark (h : MD ct β mk st) {m : Int} (h0 : 0 ≤ m) (h1 : m < 6) : ct 93 (32 + m) = mk m ∧ 0 ≤ mk m ∧ mk m ≤ 9 := h.2.2.1 m h0 h1
theorem MD.rg (h : MD ct β mk st) : 0 ≤ st ∧ st < 700 := h.2.2.2.1
theorem MD.now (h : MD ct β mk st) : ct 93 28 = st / 70 ∧ ct 93 29 = st / 7 % 10 ∧ ct 93 30 = st % 7 := h.2.2.2.2
theorem MD.eq (h : MD ct β mk st) (L : LK c) (e : c 93 = ct 93) : MD c β mk st := by
  unfold MD
  rw [e]
  exact ⟨L, h.2⟩
theorem MD.law0 (h : MD ct β mk st) : ∃ l, mLaw (ct 93) 0 0 l ∧ β.W = wouldL l := by
  obtain ⟨lw, lc, h1, h2, h3, h4, h5⟩ := h.2.1.2.2.2
  exact ⟨lw, h1, h4⟩
theorem MD.law1 (h : MD ct β mk st) : ∃ l, mLaw (ct 93) 0 1 l ∧ (∀ op ∈ l, ¬ (-6 ≤ op ∧ op ≤ -4)) ∧ β.cl = closesL l := by
  obtain ⟨lw, lc, h1, h2, h3, h4, h5⟩ := h.2.1.2.2.2
  exact ⟨lc, h2, h3, h5⟩
end
theorem dX12_within_0 : decode cX12_within 0 = .ok (.lload_n 0, 1) := by decide +kernel
theorem dX12_within_1 : decode cX12_within 1 = .ok (.lload_n 2, 1) := by decide +kernel
theorem dX12_within_2 : decode cX12_within 2 = .ok (.lcmp, 1) := by decide +kernel
theorem dX12_within_3 : decode cX12_within 3 = .ok (.ifCond .lt 14, 3) := by decide +kernel
theorem dX12_within_6 : decode cX12_within 6 = .ok (.lload_n 0, 1) := by decide +kernel
theorem dX12_within_7 : decode cX12_within 7 = .ok (.lload 4, 2) := by decide +kernel
theorem dX12_within_9 : decode cX12_within 9 = .ok (.lcmp, 1) := by decide +kernel
theorem dX12_within_10 : decode cX12_within 10 = .ok (.ifCond .gt 7, 3) := by decide +kernel
theorem dX12_within_13 : decode cX12_within 13 = .ok (.iconst 1, 1) := by decide +kernel
theorem dX12_within_14 : decode cX12_within 14 = .ok (.goto 4, 3) := by decide +kernel
theorem dX12_within_17 : decode cX12_within 17 = .ok (.iconst 0, 1) := by decide +kernel
theorem dX12_within_18 : decode cX12_within 18 = .ok (.ireturn, 1) := by decide +kernel
theorem dX12_isMember_0 : decode cX12_isMember 0 = .ok (.lload_n 1, 1) := by decide +kernel
theorem dX12_isMember_1 : decode cX12_isMember 1 = .ok (.lconst 0, 1) := by decide +kernel
theorem dX12_isMember_2 : decode cX12_isMember 2 = .ok (.aload_n 0, 1) := by decide +kernel
theorem dX12_isMember_3 : decode cX12_isMember 3 = .ok (.getfield 13, 3) := by decide +kernel
theorem dX12_isMember_6 : decode cX12_isMember 6 = .ok (.iconst 1, 1) := by decide +kernel
theorem dX12_isMember_7 : decode cX12_isMember 7 = .ok (.iaload, 1) := by decide +kernel
theorem dX12_isMember_8 : decode cX12_isMember 8 = .ok (.iconst 1, 1) := by decide +kernel
theorem dX12_isMember_9 : decode cX12_isMember 9 = .ok (.isub, 1) := by decide +kernel
theorem dX12_isMember_10 : decode cX12_isMember 10 = .ok (.i2l, 1) := by decide +kernel
theorem dX12_isMember_11 : decode cX12_isMember 11 = .ok (.invokestatic 150, 3) := by decide +kernel
theorem dX12_isMember_14 : decode cX12_isMember 14 = .ok (.ireturn, 1) := by decide +kernel
theorem dX12_isSaying_0 : decode cX12_isSaying 0 = .ok (.lload_n 1, 1) := by decide +kernel
theorem dX12_isSaying_1 : decode cX12_isSaying 1 = .ok (.lconst 0, 1) := by decide +kernel
theorem dX12_isSaying_2 : decode cX12_isSaying 2 = .ok (.aload_n 0, 1) := by decide +kernel
theorem dX12_isSaying_3 : decode cX12_isSaying 3 = .ok (.getfield 13, 3) := by decide +kernel
theorem dX12_isSaying_6 : decode cX12_isSaying 6 = .ok (.iconst 2, 1) := by decide +kernel
theorem dX12_isSaying_7 : decode cX12_isSaying 7 = .ok (.iaload, 1) := by decide +kernel
theorem dX12_isSaying_8 : decode cX12_isSaying 8 = .ok (.iconst 1, 1) := by decide +kernel
theorem dX12_isSaying_9 : decode cX12_isSaying 9 = .ok (.isub, 1) := by decide +kernel
theorem dX12_isSaying_10 : decode cX12_isSaying 10 = .ok (.i2l, 1) := by decide +kernel
theorem dX12_isSaying_11 : decode cX12_isSaying 11 = .ok (.invokestatic 150, 3) := by decide +kernel
theorem dX12_isSaying_14 : decode cX12_isSaying 14 = .ok (.ireturn, 1) := by decide +kernel
theorem dX12_isMinute_0 : decode cX12_isMinute 0 = .ok (.lload_n 1, 1) := by decide +kernel
theorem dX12_isMinute_1 : decode cX12_isMinute 1 = .ok (.lconst 0, 1) := by decide +kernel
theorem dX12_isMinute_2 : decode cX12_isMinute 2 = .ok (.ldc2_w 216, 3) := by decide +kernel
theorem dX12_isMinute_5 : decode cX12_isMinute 5 = .ok (.invokestatic 150, 3) := by decide +kernel
theorem dX12_isMinute_8 : decode cX12_isMinute 8 = .ok (.ifCond .eq 31, 3) := by decide +kernel
theorem dX12_isMinute_11 : decode cX12_isMinute 11 = .ok (.aload_n 0, 1) := by decide +kernel
theorem dX12_isMinute_12 : decode cX12_isMinute 12 = .ok (.lload_n 1, 1) := by decide +kernel
theorem dX12_isMinute_13 : decode cX12_isMinute 13 = .ok (.ldc2_w 218, 3) := by decide +kernel
theorem dX12_isMinute_16 : decode cX12_isMinute 16 = .ok (.ldiv, 1) := by decide +kernel
theorem dX12_isMinute_17 : decode cX12_isMinute 17 = .ok (.invokevirtual 220, 3) := by decide +kernel
theorem dX12_isMinute_20 : decode cX12_isMinute 20 = .ok (.ifCond .eq 19, 3) := by decide +kernel
theorem dX12_isMinute_23 : decode cX12_isMinute 23 = .ok (.aload_n 0, 1) := by decide +kernel
theorem dX12_isMinute_24 : decode cX12_isMinute 24 = .ok (.lload_n 1, 1) := by decide +kernel
theorem dX12_isMinute_25 : decode cX12_isMinute 25 = .ok (.ldc2_w 218, 3) := by decide +kernel
theorem dX12_isMinute_28 : decode cX12_isMinute 28 = .ok (.lrem, 1) := by decide +kernel
theorem dX12_isMinute_29 : decode cX12_isMinute 29 = .ok (.invokevirtual 224, 3) := by decide +kernel
theorem dX12_isMinute_32 : decode cX12_isMinute 32 = .ok (.ifCond .eq 7, 3) := by decide +kernel
theorem dX12_isMinute_35 : decode cX12_isMinute 35 = .ok (.iconst 1, 1) := by decide +kernel
theorem dX12_isMinute_36 : decode cX12_isMinute 36 = .ok (.goto 4, 3) := by decide +kernel
theorem dX12_isMinute_39 : decode cX12_isMinute 39 = .ok (.iconst 0, 1) := by decide +kernel
theorem dX12_isMinute_40 : decode cX12_isMinute 40 = .ok (.ireturn, 1) := by decide +kernel
theorem dX12_toneOf_0 : decode cX12_toneOf 0 = .ok (.iload_n 0, 1) := by decide +kernel
theorem dX12_toneOf_1 : decode cX12_toneOf 1 = .ok (.bipush 70, 2) := by decide +kernel
theorem dX12_toneOf_3 : decode cX12_toneOf 3 = .ok (.idiv, 1) := by decide +kernel
theorem dX12_toneOf_4 : decode cX12_toneOf 4 = .ok (.ireturn, 1) := by decide +kernel
theorem dX12_heatOf_0 : decode cX12_heatOf 0 = .ok (.iload_n 0, 1) := by decide +kernel
theorem dX12_heatOf_1 : decode cX12_heatOf 1 = .ok (.bipush 7, 2) := by decide +kernel
theorem dX12_heatOf_3 : decode cX12_heatOf 3 = .ok (.idiv, 1) := by decide +kernel
theorem dX12_heatOf_4 : decode cX12_heatOf 4 = .ok (.bipush 10, 2) := by decide +kernel
theorem dX12_heatOf_6 : decode cX12_heatOf 6 = .ok (.irem, 1) := by decide +kernel
theorem dX12_heatOf_7 : decode cX12_heatOf 7 = .ok (.ireturn, 1) := by decide +kernel
theorem dX12_kept9_0 : decode cX12_kept9 0 = .ok (.iload_n 0, 1) := by decide +kernel
theorem dX12_kept9_1 : decode cX12_kept9 1 = .ok (.ifCond .ge 7, 3) := by decide +kernel
theorem dX12_kept9_4 : decode cX12_kept9 4 = .ok (.iconst 0, 1) := by decide +kernel
theorem dX12_kept9_5 : decode cX12_kept9 5 = .ok (.goto 15, 3) := by decide +kernel
theorem dX12_kept9_8 : decode cX12_kept9 8 = .ok (.iload_n 0, 1) := by decide +kernel
theorem dX12_kept9_9 : decode cX12_kept9 9 = .ok (.bipush 9, 2) := by decide +kernel
theorem dX12_kept9_11 : decode cX12_kept9 11 = .ok (.if_icmp .le 8, 3) := by decide +kernel
theorem dX12_kept9_14 : decode cX12_kept9 14 = .ok (.bipush 9, 2) := by decide +kernel
theorem dX12_kept9_16 : decode cX12_kept9 16 = .ok (.goto 4, 3) := by decide +kernel
theorem dX12_kept9_19 : decode cX12_kept9 19 = .ok (.iload_n 0, 1) := by decide +kernel
theorem dX12_kept9_20 : decode cX12_kept9 20 = .ok (.ireturn, 1) := by decide +kernel
theorem dX12_isTone_0 : decode cX12_isTone 0 = .ok (.iload_n 0, 1) := by decide +kernel
theorem dX12_isTone_1 : decode cX12_isTone 1 = .ok (.i2l, 1) := by decide +kernel
theorem dX12_isTone_2 : decode cX12_isTone 2 = .ok (.ldc2_w 291, 3) := by decide +kernel
theorem dX12_isTone_5 : decode cX12_isTone 5 = .ok (.ldc2_w 193, 3) := by decide +kernel
theorem dX12_isTone_8 : decode cX12_isTone 8 = .ok (.invokestatic 150, 3) := by decide +kernel
theorem dX12_isTone_11 : decode cX12_isTone 11 = .ok (.ireturn, 1) := by decide +kernel
theorem dX12_isIn_0 : decode cX12_isIn 0 = .ok (.lload_n 0, 1) := by decide +kernel
theorem dX12_isIn_1 : decode cX12_isIn 1 = .ok (.iload_n 2, 1) := by decide +kernel
theorem dX12_isIn_2 : decode cX12_isIn 2 = .ok (.lshr, 1) := by decide +kernel
theorem dX12_isIn_3 : decode cX12_isIn 3 = .ok (.lconst 1, 1) := by decide +kernel
theorem dX12_isIn_4 : decode cX12_isIn 4 = .ok (.land, 1) := by decide +kernel
theorem dX12_isIn_5 : decode cX12_isIn 5 = .ok (.lconst 1, 1) := by decide +kernel
theorem dX12_isIn_6 : decode cX12_isIn 6 = .ok (.lcmp, 1) := by decide +kernel
theorem dX12_isIn_7 : decode cX12_isIn 7 = .ok (.ifCond .ne 7, 3) := by decide +kernel
theorem dX12_isIn_10 : decode cX12_isIn 10 = .ok (.iconst 1, 1) := by decide +kernel
theorem dX12_isIn_11 : decode cX12_isIn 11 = .ok (.goto 4, 3) := by decide +kernel
theorem dX12_isIn_14 : decode cX12_isIn 14 = .ok (.iconst 0, 1) := by decide +kernel
theorem dX12_isIn_15 : decode cX12_isIn 15 = .ok (.ireturn, 1) := by decide +kernel
theorem dX12_behindMinute_0 : decode cX12_behindMinute 0 = .ok (.bipush 70, 2) := by decide +kernel
theorem dX12_behindMinute_2 : decode cX12_behindMinute 2 = .ok (.iload_n 1, 1) := by decide +kernel
theorem dX12_behindMinute_3 : decode cX12_behindMinute 3 = .ok (.invokestatic 231, 3) := by decide +kernel
theorem dX12_behindMinute_6 : decode cX12_behindMinute 6 = .ok (.aload_n 0, 1) := by decide +kernel
theorem dX12_behindMinute_7 : decode cX12_behindMinute 7 = .ok (.getfield 13, 3) := by decide +kernel
theorem dX12_behindMinute_10 : decode cX12_behindMinute 10 = .ok (.bipush 12, 2) := by decide +kernel
theorem dX12_behindMinute_12 : decode cX12_behindMinute 12 = .ok (.iload_n 3, 1) := by decide +kernel
theorem dX12_behindMinute_13 : decode cX12_behindMinute 13 = .ok (.iadd, 1) := by decide +kernel
theorem dX12_behindMinute_14 : decode cX12_behindMinute 14 = .ok (.iaload, 1) := by decide +kernel
theorem dX12_behindMinute_15 : decode cX12_behindMinute 15 = .ok (.iadd, 1) := by decide +kernel
theorem dX12_behindMinute_16 : decode cX12_behindMinute 16 = .ok (.invokestatic 248, 3) := by decide +kernel
theorem dX12_behindMinute_19 : decode cX12_behindMinute 19 = .ok (.imul, 1) := by decide +kernel
theorem dX12_behindMinute_20 : decode cX12_behindMinute 20 = .ok (.bipush 7, 2) := by decide +kernel
theorem dX12_behindMinute_22 : decode cX12_behindMinute 22 = .ok (.iload_n 1, 1) := by decide +kernel
theorem dX12_behindMinute_23 : decode cX12_behindMinute 23 = .ok (.invokestatic 234, 3) := by decide +kernel
theorem dX12_behindMinute_26 : decode cX12_behindMinute 26 = .ok (.aload_n 0, 1) := by decide +kernel
theorem dX12_behindMinute_27 : decode cX12_behindMinute 27 = .ok (.getfield 13, 3) := by decide +kernel
theorem dX12_behindMinute_30 : decode cX12_behindMinute 30 = .ok (.bipush 20, 2) := by decide +kernel
theorem dX12_behindMinute_32 : decode cX12_behindMinute 32 = .ok (.iload_n 3, 1) := by decide +kernel
theorem dX12_behindMinute_33 : decode cX12_behindMinute 33 = .ok (.iadd, 1) := by decide +kernel
theorem dX12_behindMinute_34 : decode cX12_behindMinute 34 = .ok (.iaload, 1) := by decide +kernel
theorem dX12_behindMinute_35 : decode cX12_behindMinute 35 = .ok (.iadd, 1) := by decide +kernel
theorem dX12_behindMinute_36 : decode cX12_behindMinute 36 = .ok (.invokestatic 248, 3) := by decide +kernel
theorem dX12_behindMinute_39 : decode cX12_behindMinute 39 = .ok (.imul, 1) := by decide +kernel
theorem dX12_behindMinute_40 : decode cX12_behindMinute 40 = .ok (.iadd, 1) := by decide +kernel
theorem dX12_behindMinute_41 : decode cX12_behindMinute 41 = .ok (.iload_n 2, 1) := by decide +kernel
theorem dX12_behindMinute_42 : decode cX12_behindMinute 42 = .ok (.iadd, 1) := by decide +kernel
theorem dX12_behindMinute_43 : decode cX12_behindMinute 43 = .ok (.ireturn, 1) := by decide +kernel
theorem dX12_standNow_0 : decode cX12_standNow 0 = .ok (.bipush 70, 2) := by decide +kernel
theorem dX12_standNow_2 : decode cX12_standNow 2 = .ok (.aload_n 0, 1) := by decide +kernel
theorem dX12_standNow_3 : decode cX12_standNow 3 = .ok (.getfield 13, 3) := by decide +kernel
theorem dX12_standNow_6 : decode cX12_standNow 6 = .ok (.bipush 28, 2) := by decide +kernel
theorem dX12_standNow_8 : decode cX12_standNow 8 = .ok (.iaload, 1) := by decide +kernel
theorem dX12_standNow_9 : decode cX12_standNow 9 = .ok (.imul, 1) := by decide +kernel
theorem dX12_standNow_10 : decode cX12_standNow 10 = .ok (.bipush 7, 2) := by decide +kernel
theorem dX12_standNow_12 : decode cX12_standNow 12 = .ok (.aload_n 0, 1) := by decide +kernel
theorem dX12_standNow_13 : decode cX12_standNow 13 = .ok (.getfield 13, 3) := by decide +kernel
theorem dX12_standNow_16 : decode cX12_standNow 16 = .ok (.bipush 29, 2) := by decide +kernel
theorem dX12_standNow_18 : decode cX12_standNow 18 = .ok (.iaload, 1) := by decide +kernel
theorem dX12_standNow_19 : decode cX12_standNow 19 = .ok (.imul, 1) := by decide +kernel
theorem dX12_standNow_20 : decode cX12_standNow 20 = .ok (.iadd, 1) := by decide +kernel
theorem dX12_standNow_21 : decode cX12_standNow 21 = .ok (.aload_n 0, 1) := by decide +kernel
theorem dX12_standNow_22 : decode cX12_standNow 22 = .ok (.getfield 13, 3) := by decide +kernel
theorem dX12_standNow_25 : decode cX12_standNow 25 = .ok (.bipush 30, 2) := by decide +kernel
theorem dX12_standNow_27 : decode cX12_standNow 27 = .ok (.iaload, 1) := by decide +kernel
theorem dX12_standNow_28 : decode cX12_standNow 28 = .ok (.iadd, 1) := by decide +kernel
theorem dX12_standNow_29 : decode cX12_standNow 29 = .ok (.ireturn, 1) := by decide +kernel
theorem dX12_between_0 : decode cX12_between 0 = .ok (.iload_n 0, 1) := by decide +kernel
theorem dX12_between_1 : decode cX12_between 1 = .ok (.tableswitch 80 3003 3008 #[39, 50, 61, 80, 72, 76], 39) := by decide +kernel
theorem dX12_between_40 : decode cX12_between 40 = .ok (.iload_n 1, 1) := by decide +kernel
theorem dX12_between_41 : decode cX12_between 41 = .ok (.iload_n 2, 1) := by decide +kernel
theorem dX12_between_42 : decode cX12_between 42 = .ok (.if_icmp .ne 7, 3) := by decide +kernel
theorem dX12_between_45 : decode cX12_between 45 = .ok (.iconst 1, 1) := by decide +kernel
theorem dX12_between_46 : decode cX12_between 46 = .ok (.goto 4, 3) := by decide +kernel
theorem dX12_between_49 : decode cX12_between 49 = .ok (.iconst 0, 1) := by decide +kernel
theorem dX12_between_50 : decode cX12_between 50 = .ok (.ireturn, 1) := by decide +kernel
theorem dX12_between_51 : decode cX12_between 51 = .ok (.iload_n 1, 1) := by decide +kernel
theorem dX12_between_52 : decode cX12_between 52 = .ok (.iload_n 2, 1) := by decide +kernel
theorem dX12_between_53 : decode cX12_between 53 = .ok (.if_icmp .ge 7, 3) := by decide +kernel
theorem dX12_between_56 : decode cX12_between 56 = .ok (.iconst 1, 1) := by decide +kernel
theorem dX12_between_57 : decode cX12_between 57 = .ok (.goto 4, 3) := by decide +kernel
theorem dX12_between_60 : decode cX12_between 60 = .ok (.iconst 0, 1) := by decide +kernel
theorem dX12_between_61 : decode cX12_between 61 = .ok (.ireturn, 1) := by decide +kernel
theorem dX12_between_62 : decode cX12_between 62 = .ok (.iload_n 1, 1) := by decide +kernel
theorem dX12_between_63 : decode cX12_between 63 = .ok (.iload_n 2, 1) := by decide +kernel
theorem dX12_between_64 : decode cX12_between 64 = .ok (.if_icmp .le 7, 3) := by decide +kernel
theorem dX12_between_67 : decode cX12_between 67 = .ok (.iconst 1, 1) := by decide +kernel
theorem dX12_between_68 : decode cX12_between 68 = .ok (.goto 4, 3) := by decide +kernel
theorem dX12_between_71 : decode cX12_between 71 = .ok (.iconst 0, 1) := by decide +kernel
theorem dX12_between_72 : decode cX12_between 72 = .ok (.ireturn, 1) := by decide +kernel
theorem dX12_between_73 : decode cX12_between 73 = .ok (.iload_n 1, 1) := by decide +kernel
theorem dX12_between_74 : decode cX12_between 74 = .ok (.iload_n 2, 1) := by decide +kernel
theorem dX12_between_75 : decode cX12_between 75 = .ok (.iand, 1) := by decide +kernel
theorem dX12_between_76 : decode cX12_between 76 = .ok (.ireturn, 1) := by decide +kernel
theorem dX12_between_77 : decode cX12_between 77 = .ok (.iload_n 1, 1) := by decide +kernel
theorem dX12_between_78 : decode cX12_between 78 = .ok (.iload_n 2, 1) := by decide +kernel
theorem dX12_between_79 : decode cX12_between 79 = .ok (.ior, 1) := by decide +kernel
theorem dX12_between_80 : decode cX12_between 80 = .ok (.ireturn, 1) := by decide +kernel
theorem dX12_between_81 : decode cX12_between 81 = .ok (.iload_n 0, 1) := by decide +kernel
theorem dX12_between_82 : decode cX12_between 82 = .ok (.sipush 3000, 3) := by decide +kernel
theorem dX12_between_85 : decode cX12_between 85 = .ok (.if_icmp .ne 11, 3) := by decide +kernel
theorem dX12_between_88 : decode cX12_between 88 = .ok (.iload_n 1, 1) := by decide +kernel
theorem dX12_between_89 : decode cX12_between 89 = .ok (.i2l, 1) := by decide +kernel
theorem dX12_between_90 : decode cX12_between 90 = .ok (.iload_n 2, 1) := by decide +kernel
theorem dX12_between_91 : decode cX12_between 91 = .ok (.i2l, 1) := by decide +kernel
theorem dX12_between_92 : decode cX12_between 92 = .ok (.ladd, 1) := by decide +kernel
theorem dX12_between_93 : decode cX12_between 93 = .ok (.goto 23, 3) := by decide +kernel
theorem dX12_between_96 : decode cX12_between 96 = .ok (.iload_n 0, 1) := by decide +kernel
theorem dX12_between_97 : decode cX12_between 97 = .ok (.sipush 3001, 3) := by decide +kernel
theorem dX12_between_100 : decode cX12_between 100 = .ok (.if_icmp .ne 11, 3) := by decide +kernel
theorem dX12_between_103 : decode cX12_between 103 = .ok (.iload_n 1, 1) := by decide +kernel
theorem dX12_between_104 : decode cX12_between 104 = .ok (.i2l, 1) := by decide +kernel
theorem dX12_between_105 : decode cX12_between 105 = .ok (.iload_n 2, 1) := by decide +kernel
theorem dX12_between_106 : decode cX12_between 106 = .ok (.i2l, 1) := by decide +kernel
theorem dX12_between_107 : decode cX12_between 107 = .ok (.lsub, 1) := by decide +kernel
theorem dX12_between_108 : decode cX12_between 108 = .ok (.goto 8, 3) := by decide +kernel
theorem dX12_between_111 : decode cX12_between 111 = .ok (.iload_n 1, 1) := by decide +kernel
theorem dX12_between_112 : decode cX12_between 112 = .ok (.i2l, 1) := by decide +kernel
theorem dX12_between_113 : decode cX12_between 113 = .ok (.iload_n 2, 1) := by decide +kernel
theorem dX12_between_114 : decode cX12_between 114 = .ok (.i2l, 1) := by decide +kernel
theorem dX12_between_115 : decode cX12_between 115 = .ok (.lmul, 1) := by decide +kernel
theorem dX12_between_116 : decode cX12_between 116 = .ok (.lstore_n 3, 1) := by decide +kernel
theorem dX12_between_117 : decode cX12_between 117 = .ok (.lload_n 3, 1) := by decide +kernel
theorem dX12_between_118 : decode cX12_between 118 = .ok (.ldc2_w 227, 3) := by decide +kernel
theorem dX12_between_121 : decode cX12_between 121 = .ok (.lcmp, 1) := by decide +kernel
theorem dX12_between_122 : decode cX12_between 122 = .ok (.ifCond .le 9, 3) := by decide +kernel
theorem dX12_between_125 : decode cX12_between 125 = .ok (.ldc2_w 227, 3) := by decide +kernel
theorem dX12_between_128 : decode cX12_between 128 = .ok (.goto 18, 3) := by decide +kernel
theorem dX12_between_131 : decode cX12_between 131 = .ok (.lload_n 3, 1) := by decide +kernel
theorem dX12_between_132 : decode cX12_between 132 = .ok (.ldc2_w 229, 3) := by decide +kernel
theorem dX12_between_135 : decode cX12_between 135 = .ok (.lcmp, 1) := by decide +kernel
theorem dX12_between_136 : decode cX12_between 136 = .ok (.ifCond .ge 9, 3) := by decide +kernel
theorem dX12_between_139 : decode cX12_between 139 = .ok (.ldc2_w 229, 3) := by decide +kernel
theorem dX12_between_142 : decode cX12_between 142 = .ok (.goto 4, 3) := by decide +kernel
theorem dX12_between_145 : decode cX12_between 145 = .ok (.lload_n 3, 1) := by decide +kernel
theorem dX12_between_146 : decode cX12_between 146 = .ok (.l2i, 1) := by decide +kernel
theorem dX12_between_147 : decode cX12_between 147 = .ok (.ireturn, 1) := by decide +kernel
theorem dX12_bitsOf_0 : decode cX12_bitsOf 0 = .ok (.iconst 0, 1) := by decide +kernel
theorem dX12_bitsOf_1 : decode cX12_bitsOf 1 = .ok (.istore_n 1, 1) := by decide +kernel
theorem dX12_bitsOf_2 : decode cX12_bitsOf 2 = .ok (.iconst 0, 1) := by decide +kernel
theorem dX12_bitsOf_3 : decode cX12_bitsOf 3 = .ok (.istore_n 2, 1) := by decide +kernel
theorem dX12_bitsOf_4 : decode cX12_bitsOf 4 = .ok (.iload_n 2, 1) := by decide +kernel
theorem dX12_bitsOf_5 : decode cX12_bitsOf 5 = .ok (.bipush 10, 2) := by decide +kernel
theorem dX12_bitsOf_7 : decode cX12_bitsOf 7 = .ok (.if_icmp .ge 17, 3) := by decide +kernel
theorem dX12_bitsOf_10 : decode cX12_bitsOf 10 = .ok (.iload_n 1, 1) := by decide +kernel
theorem dX12_bitsOf_11 : decode cX12_bitsOf 11 = .ok (.iload_n 0, 1) := by decide +kernel
theorem dX12_bitsOf_12 : decode cX12_bitsOf 12 = .ok (.iload_n 2, 1) := by decide +kernel
theorem dX12_bitsOf_13 : decode cX12_bitsOf 13 = .ok (.ishr, 1) := by decide +kernel
theorem dX12_bitsOf_14 : decode cX12_bitsOf 14 = .ok (.iconst 1, 1) := by decide +kernel
theorem dX12_bitsOf_15 : decode cX12_bitsOf 15 = .ok (.iand, 1) := by decide +kernel
theorem dX12_bitsOf_16 : decode cX12_bitsOf 16 = .ok (.iadd, 1) := by decide +kernel
theorem dX12_bitsOf_17 : decode cX12_bitsOf 17 = .ok (.istore_n 1, 1) := by decide +kernel
theorem dX12_bitsOf_18 : decode cX12_bitsOf 18 = .ok (.iinc 2 1, 3) := by decide +kernel
theorem dX12_bitsOf_21 : decode cX12_bitsOf 21 = .ok (.goto (-17), 3) := by decide +kernel
theorem dX12_bitsOf_24 : decode cX12_bitsOf 24 = .ok (.iload_n 1, 1) := by decide +kernel
theorem dX12_bitsOf_25 : decode cX12_bitsOf 25 = .ok (.ireturn, 1) := by decide +kernel
section
variable (d : Nat) (sh : mbSh) (ct : mbCt) {x y z : Int} {β : Bk} {mk : Int → Int} {st : Int}
theorem tw_within : Mt YX12_within d [.inr (.inl x), .inr (.inl y), .inr (.inl z)] sh sh ct (pI fun r c => r = b01 (w64 y ≤ w64 x ∧ w64 x ≤ w64 z) ∧ c = ct) := by
  refine Mt.of rfl (Nat.le_of_ble_eq_true rfl) ?_
  show G _ 0 [some (.inr (.inl x)), none, some (.inr (.inl y)), none, some (.inr (.inl z)), none] [] sh ct
  refine g_lload_n (q := 1) dX12_within_0 rfl rfl ?_
  refine g_lload_n (q := 2) dX12_within_1 rfl rfl ?_
  refine g_lcmp (q := 3) dX12_within_2 rfl ?_
  refine g_if_lt (q := 6) (tg := 17) dX12_within_3 (by decide) rfl (fun c_3 => ?_) (fun c_3 => ?_)
  · refine g_iconst (q := 18) dX12_within_17 rfl ?_
    refine g_zreturn dX12_within_18 rfl (by decide +kernel) ?_
    (try rw [cmp_lt] at c_3); (try rw [cmp_gt] at c_10); refine ⟨_, rfl, ?_, rfl⟩; first | (apply b01_t; refine ⟨Int.not_lt.mp (fun w => absurd (cmp_lt.mpr w) (by omega)), Int.not_lt.mp (fun w => absurd (cmp_gt.mpr w) (by omega))⟩) | (apply b01_f; omega)
  · refine g_lload_n (q := 7) dX12_within_6 rfl rfl ?_
    refine g_lload (q := 9) dX12_within_7 rfl rfl ?_
    refine g_lcmp (q := 10) dX12_within_9 rfl ?_
    refine g_if_gt (q := 13) (tg := 17) dX12_within_10 (by decide) rfl (fun c_10 => ?_) (fun c_10 => ?_)
    · refine g_iconst (q := 18) dX12_within_17 rfl ?_
      refine g_zreturn dX12_within_18 rfl (by decide +kernel) ?_
      (try rw [cmp_lt] at c_3); (try rw [cmp_gt] at c_10); refine ⟨_, rfl, ?_, rfl⟩; first | (apply b01_t; refine ⟨Int.not_lt.mp (fun w => absurd (cmp_lt.mpr w) (by omega)), Int.not_lt.mp (fun w => absurd (cmp_gt.mpr w) (by omega))⟩) | (apply b01_f; omega)
    · refine g_iconst (q := 14) dX12_within_13 rfl ?_
      refine g_goto (q := 18) dX12_within_14 (by decide) ?_
      refine g_zreturn dX12_within_18 rfl (by decide +kernel) ?_
      (try rw [cmp_lt] at c_3); (try rw [cmp_gt] at c_10); refine ⟨_, rfl, ?_, rfl⟩; first | (apply b01_t; refine ⟨Int.not_lt.mp (fun w => absurd (cmp_lt.mpr w) (by omega)), Int.not_lt.mp (fun w => absurd (cmp_gt.mpr w) (by omega))⟩) | (apply b01_f; omega)
theorem tw_toneOf (h0 : 0 ≤ x) (h1 : x < 2147483648) : Mt YX12_toneOf d [.inl x] sh sh ct (pI fun r c => r = x / 70 ∧ c = ct) := by
  refine Mt.of rfl (Nat.le_of_ble_eq_true rfl) ?_
  show G _ 0 [some (.inl x)] [] sh ct
  refine g_iload_n (q := 1) dX12_toneOf_0 rfl rfl ?_
  refine g_bipush (q := 3) dX12_toneOf_1 (by decide +kernel) rfl ?_
  refine g_idiv (q := 4) dX12_toneOf_3 (by decide) rfl ?_
  refine g_ireturn dX12_toneOf_4 rfl ?_
  refine ⟨_, rfl, ?_, rfl⟩
  rw [w32_id (by omega) h1, td_pos h0]
  rfl
theorem tw_heatOf (h0 : 0 ≤ x) (h1 : x < 2147483648) : Mt YX12_heatOf d [.inl x] sh sh ct (pI fun r c => r = x / 7 % 10 ∧ c = ct) := by
  refine Mt.of rfl (Nat.le_of_ble_eq_true rfl) ?_
  show G _ 0 [some (.inl x)] [] sh ct
  refine g_iload_n (q := 1) dX12_heatOf_0 rfl rfl ?_
  refine g_bipush (q := 3) dX12_heatOf_1 (by decide +kernel) rfl ?_
  refine g_idiv (q := 4) dX12_heatOf_3 (by decide) rfl ?_
  refine g_bipush (q := 6) dX12_heatOf_4 (by decide +kernel) rfl ?_
  refine g_irem (q := 7) dX12_heatOf_6 (by decide) rfl ?_
  refine g_ireturn dX12_heatOf_7 rfl ?_
  refine ⟨_, rfl, ?_, rfl⟩
  rw [w32_id (x := x) (by omega) h1, td_pos h0, show w32 7 = 7 from rfl, show w32 10 = 10 from rfl, w32_id (by omega) (by omega), tm_pos (by omega)]
theorem tw_kept9 (h0 : -1000 ≤ x) (h1 : x ≤ 1000) : Mt YX12_kept9 d [.inl x] sh sh ct (pI fun r c => r = c9 x ∧ c = ct) := by
  refine Mt.of rfl (Nat.le_of_ble_eq_true rfl) ?_
  show G _ 0 [some (.inl x)] [] sh ct
  refine g_iload_n (q := 1) dX12_kept9_0 rfl rfl ?_
  refine g_if_ge (q := 4) (tg := 8) dX12_kept9_1 (by decide) rfl (fun c_1 => ?_) (fun c_1 => ?_)
  · refine g_iload_n (q := 9) dX12_kept9_8 rfl rfl ?_
    refine g_bipush (q := 11) dX12_kept9_9 (by decide +kernel) rfl ?_
    refine g_icmp_le (q := 14) (tg := 19) dX12_kept9_11 (by decide) rfl (fun c_11 => ?_) (fun c_11 => ?_)
    · refine g_iload_n (q := 20) dX12_kept9_19 rfl rfl ?_
      refine g_ireturn dX12_kept9_20 rfl ?_
      refine ⟨_, rfl, ?_, rfl⟩; unfold c9; unfold w32 at *; (repeat' split) <;> omega
    · refine g_bipush (q := 16) dX12_kept9_14 (by decide +kernel) rfl ?_
      refine g_goto (q := 20) dX12_kept9_16 (by decide) ?_
      refine g_ireturn dX12_kept9_20 rfl ?_
      refine ⟨_, rfl, ?_, rfl⟩; unfold c9; unfold w32 at *; (repeat' split) <;> omega
  · refine g_iconst (q := 5) dX12_kept9_4 rfl ?_
    refine g_goto (q := 20) dX12_kept9_5 (by decide) ?_
    refine g_ireturn dX12_kept9_20 rfl ?_
    refine ⟨_, rfl, ?_, rfl⟩; unfold c9; unfold w32 at *; (repeat' split) <;> omega
theorem tw_isTone (h : i32 x) : Mt YX12_isTone (d + 1) [.inl x] sh sh ct (pI fun r c => r = b01 (-1 ≤ x ∧ x ≤ 9) ∧ c = ct) := by
  unfold i32 at h
  refine Mt.of rfl (Nat.le_of_ble_eq_true rfl) ?_
  show G _ 0 [some (.inl x)] [] sh ct
  refine g_iload_n (q := 1) dX12_isTone_0 rfl rfl ?_
  refine g_i2l (q := 2) dX12_isTone_1 rfl ?_
  refine g_ldc2 (q := 5) dX12_isTone_2 kX12_291 rfl ?_
  refine g_ldc2 (q := 8) dX12_isTone_5 kX12_193 rfl ?_
  refine g_callS (q := 11) lX12_150 mX12_within sX12_within rfl (tw_within d sh _) shLe.rf (rmOk.mk (by omega) (by first | exact shLe.rf | assumption)) (Nat.le_of_ble_eq_true rfl) dX12_isTone_8 rfl rfl (kI fun r_8 s_8 hp => ?_)
  obtain ⟨hr, hq⟩ := hp
  replace hr := hr.symm
  replace hq := hq.symm
  subst hr hq
  refine g_zreturn dX12_isTone_11 rfl (nar01 (b01_in _)) ?_
  refine ⟨_, rfl, ?_, rfl⟩; apply b01_c; unfold w64 w32; omega
theorem tw_isMember (M : MD ct β mk st) (S : SH sh) (h : i64 x) : Mt YX12_isMember (d + 1) [.inr (.inr 92), .inr (.inl x)] sh sh ct (pI fun r c => r = b01 (0 ≤ x ∧ x < β.n 2) ∧ c = ct) := by
  have L := M.L
  have := M.mem
  unfold i64 at h
  refine Mt.of rfl (Nat.le_of_ble_eq_true rfl) ?_
  show G _ 0 [some (.inr (.inr 92)), some (.inr (.inl x)), none] [] sh ct
  refine g_lload_n (q := 1) dX12_isMember_0 rfl rfl ?_
  refine g_lconst0 (q := 2) dX12_isMember_1 rfl ?_
  refine g_aload_n (q := 3) dX12_isMember_2 rfl rfl ?_
  refine g_getA (q := 6) (kI := 1) fX12_13 (by first | assumption | exact S.at _ rfl) dX12_isMember_3 rfl rfl (by first | assumption | exact L.at _ _ rfl | exact LK.at (by assumption) _ _ rfl | ((repeat first | rewrite [wr_na (by decide)] | rewrite [wr_nk (by decide)] | rewrite [wa_na (by decide)]); first | assumption | exact LK.at (by assumption) _ _ rfl) | exact rfl) ?_
  refine g_iconst (q := 7) dX12_isMember_6 rfl ?_
  refine g_iaload (q := 8) (by first | assumption | exact S.at _ rfl) (by omega) (by omega) (by omega) dX12_isMember_7 rfl ?_
  refine g_iconst (q := 9) dX12_isMember_8 rfl ?_
  refine g_isub (q := 10) dX12_isMember_9 rfl ?_
  refine g_i2l (q := 11) dX12_isMember_10 rfl ?_
  refine g_callS (q := 14) lX12_150 mX12_within sX12_within rfl (tw_within d sh _) shLe.rf (rmOk.mk (by omega) (by first | exact shLe.rf | assumption)) (Nat.le_of_ble_eq_true rfl) dX12_isMember_11 rfl rfl (kI fun r_11 s_11 hp => ?_)
  obtain ⟨hr, hq⟩ := hp
  replace hr := hr.symm
  replace hq := hq.symm
  subst hr hq
  refine g_zreturn dX12_isMember_14 rfl (nar01 (b01_in _)) ?_
  refine ⟨_, rfl, ?_, rfl⟩; apply b01_c; rw [M.mem.1]; unfold w64 w32; omega
theorem tw_isSaying (M : MD ct β mk st) (S : SH sh) (h : i64 x) : Mt YX12_isSaying (d + 1) [.inr (.inr 92), .inr (.inl x)] sh sh ct (pI fun r c => r = b01 (0 ≤ x ∧ x < β.n 3) ∧ c = ct) := by
  have L := M.L
  have := M.say
  unfold i64 at h
  refine Mt.of rfl (Nat.le_of_ble_eq_true rfl) ?_
  show G _ 0 [some (.inr (.inr 92)), some (.inr (.inl x)), none] [] sh ct
  refine g_lload_n (q := 1) dX12_isSaying_0 rfl rfl ?_
  refine g_lconst0 (q := 2) dX12_isSaying_1 rfl ?_
  refine g_aload_n (q := 3) dX12_isSaying_2 rfl rfl ?_
  refine g_getA (q := 6) (kI := 1) fX12_13 (by first | assumption | exact S.at _ rfl) dX12_isSaying_3 rfl rfl (by first | assumption | exact L.at _ _ rfl | exact LK.at (by assumption) _ _ rfl | ((repeat first | rewrite [wr_na (by decide)] | rewrite [wr_nk (by decide)] | rewrite [wa_na (by decide)]); first | assumption | exact LK.at (by assumption) _ _ rfl) | exact rfl) ?_
  refine g_iconst (q := 7) dX12_isSaying_6 rfl ?_
  refine g_iaload (q := 8) (by first | assumption | exact S.at _ rfl) (by omega) (by omega) (by omega) dX12_isSaying_7 rfl ?_
  refine g_iconst (q := 9) dX12_isSaying_8 rfl ?_
  refine g_isub (q := 10) dX12_isSaying_9 rfl ?_
  refine g_i2l (q := 11) dX12_isSaying_10 rfl ?_
  refine g_callS (q := 14) lX12_150 mX12_within sX12_within rfl (tw_within d sh _) shLe.rf (rmOk.mk (by omega) (by first | exact shLe.rf | assumption)) (Nat.le_of_ble_eq_true rfl) dX12_isSaying_11 rfl rfl (kI fun r_11 s_11 hp => ?_)
  obtain ⟨hr, hq⟩ := hp
  replace hr := hr.symm
  replace hq := hq.symm
  subst hr hq
  refine g_zreturn dX12_isSaying_14 rfl (nar01 (b01_in _)) ?_
  refine ⟨_, rfl, ?_, rfl⟩; apply b01_c; rw [M.say.1]; unfold w64 w32; omega
theorem tw_standNow (M : MD ct β mk st) (S : SH sh) : Mt YX12_standNow d [.inr (.inr 92)] sh sh ct (pI fun r c => r = st ∧ c = ct) := by
  have L := M.L
  have := M.now
  have := M.rg
  refine Mt.of rfl (Nat.le_of_ble_eq_true rfl) ?_
  show G _ 0 [some (.inr (.inr 92))] [] sh ct
  refine g_bipush (q := 2) dX12_standNow_0 (by decide +kernel) rfl ?_
  refine g_aload_n (q := 3) dX12_standNow_2 rfl rfl ?_
  refine g_getA (q := 6) (kI := 1) fX12_13 (by first | assumption | exact S.at _ rfl) dX12_standNow_3 rfl rfl (by first | assumption | exact L.at _ _ rfl | exact LK.at (by assumption) _ _ rfl | ((repeat first | rewrite [wr_na (by decide)] | rewrite [wr_nk (by decide)] | rewrite [wa_na (by decide)]); first | assumption | exact LK.at (by assumption) _ _ rfl) | exact rfl) ?_
  refine g_bipush (q := 8) dX12_standNow_6 (by decide +kernel) rfl ?_
  refine g_iaload (q := 9) (by first | assumption | exact S.at _ rfl) (by omega) (by omega) (by omega) dX12_standNow_8 rfl ?_
  refine g_imul (q := 10) dX12_standNow_9 rfl ?_
  refine g_bipush (q := 12) dX12_standNow_10 (by decide +kernel) rfl ?_
  refine g_aload_n (q := 13) dX12_standNow_12 rfl rfl ?_
  refine g_getA (q := 16) (kI := 1) fX12_13 (by first | assumption | exact S.at _ rfl) dX12_standNow_13 rfl rfl (by first | assumption | exact L.at _ _ rfl | exact LK.at (by assumption) _ _ rfl | ((repeat first | rewrite [wr_na (by decide)] | rewrite [wr_nk (by decide)] | rewrite [wa_na (by decide)]); first | assumption | exact LK.at (by assumption) _ _ rfl) | exact rfl) ?_
  refine g_bipush (q := 18) dX12_standNow_16 (by decide +kernel) rfl ?_
  refine g_iaload (q := 19) (by first | assumption | exact S.at _ rfl) (by omega) (by omega) (by omega) dX12_standNow_18 rfl ?_
  refine g_imul (q := 20) dX12_standNow_19 rfl ?_
  refine g_iadd (q := 21) dX12_standNow_20 rfl ?_
  refine g_aload_n (q := 22) dX12_standNow_21 rfl rfl ?_
  refine g_getA (q := 25) (kI := 1) fX12_13 (by first | assumption | exact S.at _ rfl) dX12_standNow_22 rfl rfl (by first | assumption | exact L.at _ _ rfl | exact LK.at (by assumption) _ _ rfl | ((repeat first | rewrite [wr_na (by decide)] | rewrite [wr_nk (by decide)] | rewrite [wa_na (by decide)]); first | assumption | exact LK.at (by assumption) _ _ rfl) | exact rfl) ?_
  refine g_bipush (q := 27) dX12_standNow_25 (by decide +kernel) rfl ?_
  refine g_iaload (q := 28) (by first | assumption | exact S.at _ rfl) (by omega) (by omega) (by omega) dX12_standNow_27 rfl ?_
  refine g_iadd (q := 29) dX12_standNow_28 rfl ?_
  refine g_ireturn dX12_standNow_29 rfl ?_
  refine ⟨_, rfl, ?_, rfl⟩
  omega
theorem tw_behindMinute {m s : Int} (M : MD ct β mk st) (S : SH sh) (h0 : 0 ≤ x) (h1 : x < 700) (s0 : 0 ≤ s) (s1 : s < 8) : Mt YX12_behindMinute (d + 1) [.inr (.inr 92), .inl x, .inl m, .inl s] sh sh ct (pI fun r c => r = nxB β x m s ∧ c = ct) := by
  have L := M.L
  have t := M.turn s0 s1
  refine Mt.of rfl (Nat.le_of_ble_eq_true rfl) ?_
  show G _ 0 [some (.inr (.inr 92)), some (.inl x), some (.inl m), some (.inl s)] [] sh ct
  refine g_bipush (q := 2) dX12_behindMinute_0 (by decide +kernel) rfl ?_
  refine g_iload_n (q := 3) dX12_behindMinute_2 rfl rfl ?_
  refine g_callS (q := 6) lX12_231 mX12_toneOf sX12_toneOf rfl (tw_toneOf d sh _ h0 (by omega)) shLe.rf (rmOk.mk (by omega) (by first | exact shLe.rf | assumption)) (Nat.le_of_ble_eq_true rfl) dX12_behindMinute_3 rfl rfl (kI fun r_3 s_3 hp => ?_)
  obtain ⟨hr, hq⟩ := hp
  replace hr := hr.symm
  replace hq := hq.symm
  subst hr hq
  refine g_aload_n (q := 7) dX12_behindMinute_6 rfl rfl ?_
  refine g_getA (q := 10) (kI := 1) fX12_13 (by first | assumption | exact S.at _ rfl) dX12_behindMinute_7 rfl rfl (by first | assumption | exact L.at _ _ rfl | exact LK.at (by assumption) _ _ rfl | ((repeat first | rewrite [wr_na (by decide)] | rewrite [wr_nk (by decide)] | rewrite [wa_na (by decide)]); first | assumption | exact LK.at (by assumption) _ _ rfl) | exact rfl) ?_
  refine g_bipush (q := 12) dX12_behindMinute_10 (by decide +kernel) rfl ?_
  refine g_iload_n (q := 13) dX12_behindMinute_12 rfl rfl ?_
  refine g_iadd (q := 14) dX12_behindMinute_13 rfl ?_
  refine g_iaload (q := 15) (by first | assumption | exact S.at _ rfl) (by omega) (by omega) (by omega) dX12_behindMinute_14 rfl ?_
  refine g_iadd (q := 16) dX12_behindMinute_15 rfl ?_
  refine g_callS (q := 19) lX12_248 mX12_kept9 sX12_kept9 rfl (tw_kept9 d sh _ (by omega) (by omega)) shLe.rf (rmOk.mk (by omega) (by first | exact shLe.rf | assumption)) (Nat.le_of_ble_eq_true rfl) dX12_behindMinute_16 rfl rfl (kI fun r_16 s_16 hp => ?_)
  obtain ⟨hr, hq⟩ := hp
  replace hr := hr.symm
  replace hq := hq.symm
  subst hr hq
  refine g_imul (q := 20) dX12_behindMinute_19 rfl ?_
  refine g_bipush (q := 22) dX12_behindMinute_20 (by decide +kernel) rfl ?_
  refine g_iload_n (q := 23) dX12_behindMinute_22 rfl rfl ?_
  refine g_callS (q := 26) lX12_234 mX12_heatOf sX12_heatOf rfl (tw_heatOf d sh _ h0 (by omega)) shLe.rf (rmOk.mk (by omega) (by first | exact shLe.rf | assumption)) (Nat.le_of_ble_eq_true rfl) dX12_behindMinute_23 rfl rfl (kI fun r_23 s_23 hp => ?_)
  obtain ⟨hr, hq⟩ := hp
  replace hr := hr.symm
  replace hq := hq.symm
  subst hr hq
  refine g_aload_n (q := 27) dX12_behindMinute_26 rfl rfl ?_
  refine g_getA (q := 30) (kI := 1) fX12_13 (by first | assumption | exact S.at _ rfl) dX12_behindMinute_27 rfl rfl (by first | assumption | exact L.at _ _ rfl | exact LK.at (by assumption) _ _ rfl | ((repeat first | rewrite [wr_na (by decide)] | rewrite [wr_nk (by decide)] | rewrite [wa_na (by decide)]); first | assumption | exact LK.at (by assumption) _ _ rfl) | exact rfl) ?_
  refine g_bipush (q := 32) dX12_behindMinute_30 (by decide +kernel) rfl ?_
  refine g_iload_n (q := 33) dX12_behindMinute_32 rfl rfl ?_
  refine g_iadd (q := 34) dX12_behindMinute_33 rfl ?_
  refine g_iaload (q := 35) (by first | assumption | exact S.at _ rfl) (by omega) (by omega) (by omega) dX12_behindMinute_34 rfl ?_
  refine g_iadd (q := 36) dX12_behindMinute_35 rfl ?_
  refine g_callS (q := 39) lX12_248 mX12_kept9 sX12_kept9 rfl (tw_kept9 d sh _ (by omega) (by omega)) shLe.rf (rmOk.mk (by omega) (by first | exact shLe.rf | assumption)) (Nat.le_of_ble_eq_true rfl) dX12_behindMinute_36 rfl rfl (kI fun r_36 s_36 hp => ?_)
  obtain ⟨hr, hq⟩ := hp
  replace hr := hr.symm
  replace hq := hq.symm
  subst hr hq
  refine g_imul (q := 40) dX12_behindMinute_39 rfl ?_
  refine g_iadd (q := 41) dX12_behindMinute_40 rfl ?_
  refine g_iload_n (q := 42) dX12_behindMinute_41 rfl rfl ?_
  refine g_iadd (q := 43) dX12_behindMinute_42 rfl ?_
  refine g_ireturn dX12_behindMinute_43 rfl ?_
  refine ⟨_, rfl, ?_, rfl⟩; rw [t.1.1, t.1.2]; unfold nxB; omega
theorem mul_6 {a b : Int} (q3 : -1000000 ≤ b ∧ b ≤ 1000000) (q4 : -1000000 ≤ a ∧ a ≤ 1000000) : a * b ≤ 1000000000000 ∧ -1000000000000 ≤ a * b := by
  have k1 : (1000000 - a) * (1000000 - b) ≥ 0 := Int.mul_nonneg (by omega) (by omega)
  have k2 : (1000000 + a) * (1000000 + b) ≥ 0 := Int.mul_nonneg (by omega) (by omega)
  have k3 : (1000000 - a) * (1000000 + b) ≥ 0 := Int.mul_nonneg (by omega) (by omega)
  have k4 : (1000000 + a) * (1000000 - b) ≥ 0 := Int.mul_nonneg (by omega) (by omega)
  grind
theorem tw_between {op a b : Int} (ho : op = -7 ∨ op = -8 ∨ op = -9 ∨ op = -10 ∨ op = -11 ∨ op = -12 ∨ op = -14 ∨ op = -15) (ha : -1000000 ≤ a ∧ a ≤ 1000000) (hb : -1000000 ≤ b ∧ b ≤ 1000000) (h01 : op ≤ -14 → (a = 0 ∨ a = 1) ∧ (b = 0 ∨ b = 1)) : Mt YX12_between d [.inl (mTr op), .inl a, .inl b] sh sh ct (pI fun r c => r = opV op a b ∧ c = ct) := by
  have wab : w32 a = a := w32_id (by omega) (by omega)
  have wbb : w32 b = b := w32_id (by omega) (by omega)
  refine Mt.of rfl (Nat.le_of_ble_eq_true rfl) ?_
  show G _ 0 [some (.inl (mTr op)), some (.inl a), some (.inl b), none, none] [] sh ct
  have tail : ∀ zz : Int, -1000000000000 ≤ zz → zz ≤ 1000000000000 → cl6 zz = opV op a b → G (mkK YX12_between d sh sh (pI fun r c => r = opV op a b ∧ c = ct)) 116 [some (.inl (mTr op)), some (.inl a), some (.inl b), none, none] [.inr (.inl zz)] sh ct := by
    intro zz z1 z2 z3
    have q1 : 0 < w32 (cmpL zz 1000000) ↔ 1000000 < zz := by rw [cmp_gt, w64_id (x := zz) (by omega) (by omega)]; exact Iff.rfl
    have q2 : w32 (cmpL zz (-1000000)) < 0 ↔ zz < -1000000 := by rw [cmp_lt, w64_id (x := zz) (by omega) (by omega)]; exact Iff.rfl
    refine s_lstore_n_5_3 (q := 117) dX12_between_116 rfl rfl rfl ?_
    refine g_lload_n (q := 118) dX12_between_117 rfl rfl ?_
    refine g_ldc2 (q := 121) dX12_between_118 kX12_227 rfl ?_
    refine g_lcmp (q := 122) dX12_between_121 rfl ?_
    refine g_if_le (q := 125) (tg := 131) dX12_between_122 (by decide) rfl (fun c_122 => ?_) (fun c_122 => ?_)
    · refine g_lload_n (q := 132) dX12_between_131 rfl rfl ?_
      refine g_ldc2 (q := 135) dX12_between_132 kX12_229 rfl ?_
      refine g_lcmp (q := 136) dX12_between_135 rfl ?_
      refine g_if_ge (q := 139) (tg := 145) dX12_between_136 (by decide) rfl (fun c_136 => ?_) (fun c_136 => ?_)
      · refine g_lload_n (q := 146) dX12_between_145 rfl rfl ?_
        refine g_l2i (q := 147) dX12_between_146 rfl ?_
        refine g_ireturn dX12_between_147 rfl ?_
        refine ⟨_, rfl, ?_, rfl⟩; rw [← z3]; unfold cl6; (repeat' split) <;> omega
      · refine g_ldc2 (q := 142) dX12_between_139 kX12_229 rfl ?_
        refine g_goto (q := 146) dX12_between_142 (by decide) ?_
        refine g_l2i (q := 147) dX12_between_146 rfl ?_
        refine g_ireturn dX12_between_147 rfl ?_
        refine ⟨_, rfl, ?_, rfl⟩; rw [← z3]; unfold cl6; (repeat' split) <;> omega
    · refine g_ldc2 (q := 128) dX12_between_125 kX12_227 rfl ?_
      refine g_goto (q := 146) dX12_between_128 (by decide) ?_
      refine g_l2i (q := 147) dX12_between_146 rfl ?_
      refine g_ireturn dX12_between_147 rfl ?_
      refine ⟨_, rfl, ?_, rfl⟩; rw [← z3]; unfold cl6; (repeat' split) <;> omega
  refine g_iload_n (q := 1) dX12_between_0 rfl rfl ?_
  rcases ho with rfl | rfl | rfl | rfl | rfl | rfl | rfl | rfl
  · refine g_tabOut (q := 81) dX12_between_1 (Or.inl (by decide)) (by decide) ?_
    refine g_iload_n (q := 82) dX12_between_81 rfl rfl ?_
    refine g_sipush (q := 85) dX12_between_82 (by decide +kernel) rfl ?_
    refine g_icmp_ne (q := 88) (tg := 96) dX12_between_85 (by decide) rfl (fun c_85 => ?_) (fun c_85 => ?_)
    · exact absurd rfl c_85
    · refine g_iload_n (q := 89) dX12_between_88 rfl rfl ?_
      refine g_i2l (q := 90) dX12_between_89 rfl ?_
      refine g_iload_n (q := 91) dX12_between_90 rfl rfl ?_
      refine g_i2l (q := 92) dX12_between_91 rfl ?_
      refine g_ladd (q := 93) dX12_between_92 rfl ?_
      refine g_goto (q := 116) dX12_between_93 (by decide) ?_
      rw [wab, wbb]
      exact tail (a + b) (by omega) (by omega) (opV_7 a b).symm
  · refine g_tabOut (q := 81) dX12_between_1 (Or.inl (by decide)) (by decide) ?_
    refine g_iload_n (q := 82) dX12_between_81 rfl rfl ?_
    refine g_sipush (q := 85) dX12_between_82 (by decide +kernel) rfl ?_
    refine g_icmp_ne (q := 88) (tg := 96) dX12_between_85 (by decide) rfl (fun c_85 => ?_) (fun c_85 => ?_)
    · refine g_iload_n (q := 97) dX12_between_96 rfl rfl ?_
      refine g_sipush (q := 100) dX12_between_97 (by decide +kernel) rfl ?_
      refine g_icmp_ne (q := 103) (tg := 111) dX12_between_100 (by decide) rfl (fun c_100 => ?_) (fun c_100 => ?_)
      · exact absurd rfl c_100
      · refine g_iload_n (q := 104) dX12_between_103 rfl rfl ?_
        refine g_i2l (q := 105) dX12_between_104 rfl ?_
        refine g_iload_n (q := 106) dX12_between_105 rfl rfl ?_
        refine g_i2l (q := 107) dX12_between_106 rfl ?_
        refine g_lsub (q := 108) dX12_between_107 rfl ?_
        refine g_goto (q := 116) dX12_between_108 (by decide) ?_
        rw [wab, wbb]
        exact tail (a - b) (by omega) (by omega) (opV_8 a b).symm
    · exact absurd c_85 (by decide)
  · refine g_tabOut (q := 81) dX12_between_1 (Or.inl (by decide)) (by decide) ?_
    refine g_iload_n (q := 82) dX12_between_81 rfl rfl ?_
    refine g_sipush (q := 85) dX12_between_82 (by decide +kernel) rfl ?_
    refine g_icmp_ne (q := 88) (tg := 96) dX12_between_85 (by decide) rfl (fun c_85 => ?_) (fun c_85 => ?_)
    · refine g_iload_n (q := 97) dX12_between_96 rfl rfl ?_
      refine g_sipush (q := 100) dX12_between_97 (by decide +kernel) rfl ?_
      refine g_icmp_ne (q := 103) (tg := 111) dX12_between_100 (by decide) rfl (fun c_100 => ?_) (fun c_100 => ?_)
      · have hm := mul_6 hb ha
        refine g_iload_n (q := 112) dX12_between_111 rfl rfl ?_
        refine g_i2l (q := 113) dX12_between_112 rfl ?_
        refine g_iload_n (q := 114) dX12_between_113 rfl rfl ?_
        refine g_i2l (q := 115) dX12_between_114 rfl ?_
        refine g_lmul (q := 116) dX12_between_115 rfl ?_
        rw [wab, wbb]
        exact tail (a * b) hm.2 hm.1 (opV_9 a b).symm
      · exact absurd c_100 (by decide)
    · exact absurd c_85 (by decide)
  · refine g_tabIn (q := 40) dX12_between_1 3003 rfl (by decide) (by decide) rfl (by decide) ?_
    refine g_iload_n (q := 41) dX12_between_40 rfl rfl ?_
    refine g_iload_n (q := 42) dX12_between_41 rfl rfl ?_
    refine g_icmp_ne (q := 45) (tg := 49) dX12_between_42 (by decide) rfl (fun c_42 => ?_) (fun c_42 => ?_)
    · refine g_iconst (q := 50) dX12_between_49 rfl ?_
      refine g_ireturn dX12_between_50 rfl ?_
      refine ⟨_, rfl, ?_, rfl⟩; rw [opV_10]; first | (apply b01_t; omega) | (apply b01_f; omega)
    · refine g_iconst (q := 46) dX12_between_45 rfl ?_
      refine g_goto (q := 50) dX12_between_46 (by decide) ?_
      refine g_ireturn dX12_between_50 rfl ?_
      refine ⟨_, rfl, ?_, rfl⟩; rw [opV_10]; first | (apply b01_t; omega) | (apply b01_f; omega)
  · refine g_tabIn (q := 51) dX12_between_1 3004 rfl (by decide) (by decide) rfl (by decide) ?_
    refine g_iload_n (q := 52) dX12_between_51 rfl rfl ?_
    refine g_iload_n (q := 53) dX12_between_52 rfl rfl ?_
    refine g_icmp_ge (q := 56) (tg := 60) dX12_between_53 (by decide) rfl (fun c_53 => ?_) (fun c_53 => ?_)
    · refine g_iconst (q := 61) dX12_between_60 rfl ?_
      refine g_ireturn dX12_between_61 rfl ?_
      refine ⟨_, rfl, ?_, rfl⟩; rw [opV_11]; first | (apply b01_t; omega) | (apply b01_f; omega)
    · refine g_iconst (q := 57) dX12_between_56 rfl ?_
      refine g_goto (q := 61) dX12_between_57 (by decide) ?_
      refine g_ireturn dX12_between_61 rfl ?_
      refine ⟨_, rfl, ?_, rfl⟩; rw [opV_11]; first | (apply b01_t; omega) | (apply b01_f; omega)
  · refine g_tabIn (q := 62) dX12_between_1 3005 rfl (by decide) (by decide) rfl (by decide) ?_
    refine g_iload_n (q := 63) dX12_between_62 rfl rfl ?_
    refine g_iload_n (q := 64) dX12_between_63 rfl rfl ?_
    refine g_icmp_le (q := 67) (tg := 71) dX12_between_64 (by decide) rfl (fun c_64 => ?_) (fun c_64 => ?_)
    · refine g_iconst (q := 72) dX12_between_71 rfl ?_
      refine g_ireturn dX12_between_72 rfl ?_
      refine ⟨_, rfl, ?_, rfl⟩; rw [opV_12]; first | (apply b01_t; omega) | (apply b01_f; omega)
    · refine g_iconst (q := 68) dX12_between_67 rfl ?_
      refine g_goto (q := 72) dX12_between_68 (by decide) ?_
      refine g_ireturn dX12_between_72 rfl ?_
      refine ⟨_, rfl, ?_, rfl⟩; rw [opV_12]; first | (apply b01_t; omega) | (apply b01_f; omega)
  · refine g_tabIn (q := 73) dX12_between_1 3007 rfl (by decide) (by decide) rfl (by decide) ?_
    refine g_iload_n (q := 74) dX12_between_73 rfl rfl ?_
    refine g_iload_n (q := 75) dX12_between_74 rfl rfl ?_
    refine g_iand (q := 76) dX12_between_75 rfl ?_
    refine g_ireturn dX12_between_76 rfl ?_
    refine ⟨_, rfl, ?_, rfl⟩; rw [opV_14]; exact (and01 (h01 (by decide)).1 (h01 (by decide)).2).1
  · refine g_tabIn (q := 77) dX12_between_1 3008 rfl (by decide) (by decide) rfl (by decide) ?_
    refine g_iload_n (q := 78) dX12_between_77 rfl rfl ?_
    refine g_iload_n (q := 79) dX12_between_78 rfl rfl ?_
    refine g_ior (q := 80) dX12_between_79 rfl ?_
    refine g_ireturn dX12_between_80 rfl ?_
    refine ⟨_, rfl, ?_, rfl⟩; rw [opV_15]; exact (and01 (h01 (by decide)).1 (h01 (by decide)).2).2
end
