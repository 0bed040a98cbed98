/-! the reference: deeds in trays, Mondays -/
def whyV (β : Bk) (s : Sit) (v : Int) : Int := if v = -1 then 0 else if 0 ≤ v ∧ v ≤ 99 then whyS β s (v / 10) (v % 10) else if (100 ≤ v ∧ v ≤ 199) ∧ (v - 100) / 10 < β.n 2 then 0 else 1
def doV (β : Bk) (s : Sit) (v : Int) : Sit := if v = -1 then adjS β s else if v < 100 then sayS β s (v / 10) (v % 10) else mrkS s ((v - 100) / 10) (v % 10)
/-- deeds one behind the other, till one can't be: how many; the sitting then; why not -/
def dRun (β : Bk) (tl : Int → Int) (n : Nat) : Nat → Sit → Int × Sit × Int
  | 0, s => (n, s, 0)
  | r + 1, s => if whyV β s (tl ((n - (r + 1) : Nat) : Int)) = 0 then dRun β tl n r (doV β s (tl ((n - (r + 1) : Nat) : Int))) else (((n - (r + 1) : Nat) : Int), s, whyV β s (tl ((n - (r + 1) : Nat) : Int)))
theorem dRun_s {β : Bk} {tl : Int → Int} {n j : Nat} (h : j < n) (s : Sit) : dRun β tl n (n - j) s = if whyV β s (tl j) = 0 then dRun β tl n (n - (j + 1)) (doV β s (tl j)) else ((j : Int), s, whyV β s (tl j)) := by
  rw [show n - j = (n - (j + 1)) + 1 by omega]
  show (if _ then _ else _) = _
  rw [show n - (n - (j + 1) + 1) = j by omega]
theorem whyS_in (β : Bk) (s : Sit) (m y : Int) : 0 ≤ whyS β s m y ∧ whyS β s m y ≤ 2 := by
  unfold whyS
  (repeat' split) <;> omega
theorem whyV_in (β : Bk) (s : Sit) (v : Int) : 0 ≤ whyV β s v ∧ whyV β s v ≤ 2 := by
  have := whyS_in β s (v / 10) (v % 10)
  unfold whyV
  (repeat' split) <;> omega
theorem whyS_0 {β : Bk} {s : Sit} {m y : Int} (h : whyS β s m y = 0) : (0 ≤ m ∧ m < β.n 2) ∧ 0 ≤ y ∧ y < β.n 3 := by
  apply Decidable.byContradiction
  intro z
  unfold whyS at h
  rw [if_neg z] at h
  omega
/-- a deed that can be -/
theorem whyV_0 {β : Bk} {s : Sit} {v : Int} (h : whyV β s v = 0) : v = -1 ∨ ((0 ≤ v ∧ v ≤ 99) ∧ v / 10 < β.n 2 ∧ v % 10 < β.n 3) ∨ ((100 ≤ v ∧ v ≤ 199) ∧ (v - 100) / 10 < β.n 2) := by
  unfold whyV at h
  split at h
  · left; assumption
  · split at h
    · rename_i h1 h2
      have := whyS_0 h
      right; left
      omega
    · split at h
      · right; right; assumption
      · omega
theorem doV_B {β : Bk} {s : Sit} {v : Int} (hB : bkB β) (h : sitB s) (hw : whyV β s v = 0) : sitB (doV β s v) := by
  have hb2 := hB.2.2.1
  rcases whyV_0 hw with h1 | h1 | h1
  · unfold doV
    rw [if_pos h1]
    exact adjS_B hB h
  · unfold doV
    rw [if_neg (by omega), if_pos (by omega)]
    exact sayS_B h (by omega) (by omega)
  · unfold doV
    rw [if_neg (by omega), if_neg (by omega)]
    exact mrkS_B h (by omega) (by omega)
theorem dRun_in {β : Bk} {tl : Int → Int} {n : Nat} : ∀ (r : Nat) (s : Sit), r ≤ n → (0 ≤ (dRun β tl n r s).1 ∧ (dRun β tl n r s).1 ≤ n) ∧ (0 ≤ (dRun β tl n r s).2.2 ∧ (dRun β tl n r s).2.2 ≤ 2) ∧ ((dRun β tl n r s).2.2 = 0 ↔ (dRun β tl n r s).1 = n)
  | 0, s, _ => by
    show (0 ≤ (n : Int) ∧ (n : Int) ≤ n) ∧ ((0 : Int) ≤ 0 ∧ (0 : Int) ≤ 2) ∧ ((0 : Int) = 0 ↔ (n : Int) = n)
    refine ⟨by omega, by omega, fun _ => rfl, fun _ => rfl⟩
  | r + 1, s, hr => by
    have hw := whyV_in β s (tl ((n - (r + 1) : Nat) : Int))
    unfold dRun
    split
    · exact dRun_in r _ (by omega)
    · rename_i h
      refine ⟨by show 0 ≤ ((n - (r + 1) : Nat) : Int) ∧ ((n - (r + 1) : Nat) : Int) ≤ n; omega, hw, fun z => absurd z h, fun z => ?_⟩
      have z' : ((n - (r + 1) : Nat) : Int) = n := z
      omega
def drw (x : Int) : Int := 1103515245 * x + 12345
def drwV (x b : Int) : Int := ushI x 16 % b
def drwn (x : Int) : Int × Int := if drwV (drw x) 6 = 5 then (-1, drw x) else if drwV (drw x) 6 < 4 then (10 * drwV (drw (drw x)) 6 + drwV (drw (drw (drw x))) 8, drw (drw (drw x))) else (100 + 10 * drwV (drw (drw x)) 6 + drwV (drw (drw (drw x))) 10, drw (drw (drw x)))
theorem drwV_in (x : Int) {b : Int} (hb : 0 < b) : 0 ≤ drwV x b ∧ drwV x b < b := ⟨Int.emod_nonneg _ (by omega), Int.emod_lt_of_pos _ hb⟩
theorem ush16 (x : Int) : 0 ≤ ushI x 16 ∧ ushI x 16 < 65536 := by
  unfold ushI
  have h1 : 0 ≤ x % 4294967296 := Int.emod_nonneg _ (by decide)
  have h2 : x % 4294967296 < 4294967296 := Int.emod_lt_of_pos _ (by decide)
  rw [show (2 : Int) ^ ((16 : Int) % 32).toNat = 65536 from rfl]
  omega
theorem drwn_in (x : Int) : -1 ≤ (drwn x).1 ∧ (drwn x).1 < 200 := by
  have h1 := drwV_in (drw (drw x)) (b := 6) (by decide)
  have h2 := drwV_in (drw (drw (drw x))) (b := 8) (by decide)
  have h3 := drwV_in (drw (drw (drw x))) (b := 10) (by decide)
  unfold drwn
  split
  · show -1 ≤ (-1 : Int) ∧ (-1 : Int) < 200
    omega
  · split
    · show -1 ≤ 10 * drwV (drw (drw x)) 6 + drwV (drw (drw (drw x))) 8 ∧ 10 * drwV (drw (drw x)) 6 + drwV (drw (drw (drw x))) 8 < 200
      omega
    · show -1 ≤ 100 + 10 * drwV (drw (drw x)) 6 + drwV (drw (drw (drw x))) 10 ∧ 100 + 10 * drwV (drw (drw x)) 6 + drwV (drw (drw (drw x))) 10 < 200
      omega
/-- draws one behind the other: the sitting then, how many could be -/
def mRun (β : Bk) : Nat → Sit → Int → Int → Sit × Int
  | 0, s, _, n => (s, n)
  | k + 1, s, x, n => if whyV β s (drwn x).1 = 0 then mRun β k (doV β s (drwn x).1) (drwn x).2 (n + 1) else mRun β k s (drwn x).2 n
/-- what tells changes -/
def tlF (ct c : mbCt) : Prop := eqBut [92, 93, 97, 98] ct c ∧ (∀ k, k ≠ 19 → c 92 k = ct 92 k) ∧ frJ 28 38 ct c
theorem tlF.rf {ct : mbCt} : tlF ct ct := ⟨eqBut.rf, fun _ _ => rfl, frJ.of rfl⟩
theorem tlF.tr {ct c c2 : mbCt} (h : tlF ct c) (h2 : tlF c c2) : tlF ct c2 := ⟨h.1.tr h2.1, fun k hk => (h2.2.1 k hk).trans (h.2.1 k hk), h.2.2.tr h2.2.2⟩
theorem tlF.df {ct c : mbCt} (h : tlF ct c) : dF ct c := ⟨h.1.mono (by decide), fun k _ a _ => h.2.1 k a, h.2.2.mono (by decide) (by decide)⟩
theorem tlF.L {ct c : mbCt} (h : tlF ct c) (L : LK ct) : LK c := h.df.L L
theorem dX12_whyNot_0 : decode cX12_whyNot 0 = .ok (.lload_n 1, 1) := by decide +kernel
theorem dX12_whyNot_1 : decode cX12_whyNot 1 = .ok (.ldc2_w 291, 3) := by decide +kernel
theorem dX12_whyNot_4 : decode cX12_whyNot 4 = .ok (.lcmp, 1) := by decide +kernel
theorem dX12_whyNot_5 : decode cX12_whyNot 5 = .ok (.ifCond .ne 5, 3) := by decide +kernel
theorem dX12_whyNot_8 : decode cX12_whyNot 8 = .ok (.iconst 0, 1) := by decide +kernel
theorem dX12_whyNot_9 : decode cX12_whyNot 9 = .ok (.ireturn, 1) := by decide +kernel
theorem dX12_whyNot_10 : decode cX12_whyNot 10 = .ok (.lload_n 1, 1) := by decide +kernel
theorem dX12_whyNot_11 : decode cX12_whyNot 11 = .ok (.lconst 0, 1) := by decide +kernel
theorem dX12_whyNot_12 : decode cX12_whyNot 12 = .ok (.ldc2_w 216, 3) := by decide +kernel
theorem dX12_whyNot_15 : decode cX12_whyNot 15 = .ok (.invokestatic 150, 3) := by decide +kernel
theorem dX12_whyNot_18 : decode cX12_whyNot 18 = .ok (.ifCond .eq 18, 3) := by decide +kernel
theorem dX12_whyNot_21 : decode cX12_whyNot 21 = .ok (.aload_n 0, 1) := by decide +kernel
theorem dX12_whyNot_22 : decode cX12_whyNot 22 = .ok (.lload_n 1, 1) := by decide +kernel
theorem dX12_whyNot_23 : decode cX12_whyNot 23 = .ok (.ldc2_w 218, 3) := by decide +kernel
theorem dX12_whyNot_26 : decode cX12_whyNot 26 = .ok (.ldiv, 1) := by decide +kernel
theorem dX12_whyNot_27 : decode cX12_whyNot 27 = .ok (.lload_n 1, 1) := by decide +kernel
theorem dX12_whyNot_28 : decode cX12_whyNot 28 = .ok (.ldc2_w 218, 3) := by decide +kernel
theorem dX12_whyNot_31 : decode cX12_whyNot 31 = .ok (.lrem, 1) := by decide +kernel
theorem dX12_whyNot_32 : decode cX12_whyNot 32 = .ok (.invokevirtual 274, 3) := by decide +kernel
theorem dX12_whyNot_35 : decode cX12_whyNot 35 = .ok (.ireturn, 1) := by decide +kernel
theorem dX12_whyNot_36 : decode cX12_whyNot 36 = .ok (.lload_n 1, 1) := by decide +kernel
theorem dX12_whyNot_37 : decode cX12_whyNot 37 = .ok (.ldc2_w 293, 3) := by decide +kernel
theorem dX12_whyNot_40 : decode cX12_whyNot 40 = .ok (.ldc2_w 295, 3) := by decide +kernel
theorem dX12_whyNot_43 : decode cX12_whyNot 43 = .ok (.invokestatic 150, 3) := by decide +kernel
theorem dX12_whyNot_46 : decode cX12_whyNot 46 = .ok (.ifCond .eq 23, 3) := by decide +kernel
theorem dX12_whyNot_49 : decode cX12_whyNot 49 = .ok (.aload_n 0, 1) := by decide +kernel
theorem dX12_whyNot_50 : decode cX12_whyNot 50 = .ok (.lload_n 1, 1) := by decide +kernel
theorem dX12_whyNot_51 : decode cX12_whyNot 51 = .ok (.ldc2_w 293, 3) := by decide +kernel
theorem dX12_whyNot_54 : decode cX12_whyNot 54 = .ok (.lsub, 1) := by decide +kernel
theorem dX12_whyNot_55 : decode cX12_whyNot 55 = .ok (.ldc2_w 218, 3) := by decide +kernel
theorem dX12_whyNot_58 : decode cX12_whyNot 58 = .ok (.ldiv, 1) := by decide +kernel
theorem dX12_whyNot_59 : decode cX12_whyNot 59 = .ok (.invokevirtual 220, 3) := by decide +kernel
theorem dX12_whyNot_62 : decode cX12_whyNot 62 = .ok (.ifCond .eq 7, 3) := by decide +kernel
theorem dX12_whyNot_65 : decode cX12_whyNot 65 = .ok (.iconst 0, 1) := by decide +kernel
theorem dX12_whyNot_66 : decode cX12_whyNot 66 = .ok (.goto 4, 3) := by decide +kernel
theorem dX12_whyNot_69 : decode cX12_whyNot 69 = .ok (.iconst 1, 1) := by decide +kernel
theorem dX12_whyNot_70 : decode cX12_whyNot 70 = .ok (.ireturn, 1) := by decide +kernel
theorem dX12_does_0 : decode cX12_does 0 = .ok (.iload_n 1, 1) := by decide +kernel
theorem dX12_does_1 : decode cX12_does 1 = .ok (.iconst (-1), 1) := by decide +kernel
theorem dX12_does_2 : decode cX12_does 2 = .ok (.if_icmp .ne 10, 3) := by decide +kernel
theorem dX12_does_5 : decode cX12_does 5 = .ok (.aload_n 0, 1) := by decide +kernel
theorem dX12_does_6 : decode cX12_does 6 = .ok (.invokevirtual 213, 3) := by decide +kernel
theorem dX12_does_9 : decode cX12_does 9 = .ok (.goto 43, 3) := by decide +kernel
theorem dX12_does_12 : decode cX12_does 12 = .ok (.iload_n 1, 1) := by decide +kernel
theorem dX12_does_13 : decode cX12_does 13 = .ok (.bipush 100, 2) := by decide +kernel
theorem dX12_does_15 : decode cX12_does 15 = .ok (.if_icmp .ge 18, 3) := by decide +kernel
theorem dX12_does_18 : decode cX12_does 18 = .ok (.aload_n 0, 1) := by decide +kernel
theorem dX12_does_19 : decode cX12_does 19 = .ok (.iload_n 1, 1) := by decide +kernel
theorem dX12_does_20 : decode cX12_does 20 = .ok (.bipush 10, 2) := by decide +kernel
theorem dX12_does_22 : decode cX12_does 22 = .ok (.idiv, 1) := by decide +kernel
theorem dX12_does_23 : decode cX12_does 23 = .ok (.iload_n 1, 1) := by decide +kernel
theorem dX12_does_24 : decode cX12_does 24 = .ok (.bipush 10, 2) := by decide +kernel
theorem dX12_does_26 : decode cX12_does 26 = .ok (.irem, 1) := by decide +kernel
theorem dX12_does_27 : decode cX12_does 27 = .ok (.invokevirtual 281, 3) := by decide +kernel
theorem dX12_does_30 : decode cX12_does 30 = .ok (.goto 22, 3) := by decide +kernel
theorem dX12_does_33 : decode cX12_does 33 = .ok (.aload_n 0, 1) := by decide +kernel
theorem dX12_does_34 : decode cX12_does 34 = .ok (.getfield 13, 3) := by decide +kernel
theorem dX12_does_37 : decode cX12_does 37 = .ok (.bipush 32, 2) := by decide +kernel
theorem dX12_does_39 : decode cX12_does 39 = .ok (.iload_n 1, 1) := by decide +kernel
theorem dX12_does_40 : decode cX12_does 40 = .ok (.bipush 100, 2) := by decide +kernel
theorem dX12_does_42 : decode cX12_does 42 = .ok (.isub, 1) := by decide +kernel
theorem dX12_does_43 : decode cX12_does 43 = .ok (.bipush 10, 2) := by decide +kernel
theorem dX12_does_45 : decode cX12_does 45 = .ok (.idiv, 1) := by decide +kernel
theorem dX12_does_46 : decode cX12_does 46 = .ok (.iadd, 1) := by decide +kernel
theorem dX12_does_47 : decode cX12_does 47 = .ok (.iload_n 1, 1) := by decide +kernel
theorem dX12_does_48 : decode cX12_does 48 = .ok (.bipush 10, 2) := by decide +kernel
theorem dX12_does_50 : decode cX12_does 50 = .ok (.irem, 1) := by decide +kernel
theorem dX12_does_51 : decode cX12_does 51 = .ok (.iastore, 1) := by decide +kernel
theorem dX12_does_52 : decode cX12_does 52 = .ok (.return_, 1) := by decide +kernel
theorem dX12_tells_0 : decode cX12_tells 0 = .ok (.aload_n 0, 1) := by decide +kernel
theorem dX12_tells_1 : decode cX12_tells 1 = .ok (.iconst 0, 1) := by decide +kernel
theorem dX12_tells_2 : decode cX12_tells 2 = .ok (.putfield 297, 3) := by decide +kernel
theorem dX12_tells_5 : decode cX12_tells 5 = .ok (.iconst 0, 1) := by decide +kernel
theorem dX12_tells_6 : decode cX12_tells 6 = .ok (.istore_n 2, 1) := by decide +kernel
theorem dX12_tells_7 : decode cX12_tells 7 = .ok (.iload_n 2, 1) := by decide +kernel
theorem dX12_tells_8 : decode cX12_tells 8 = .ok (.aload_n 0, 1) := by decide +kernel
theorem dX12_tells_9 : decode cX12_tells 9 = .ok (.getfield 78, 3) := by decide +kernel
theorem dX12_tells_12 : decode cX12_tells 12 = .ok (.iload_n 1, 1) := by decide +kernel
theorem dX12_tells_13 : decode cX12_tells 13 = .ok (.iaload, 1) := by decide +kernel
theorem dX12_tells_14 : decode cX12_tells 14 = .ok (.if_icmp .ge 53, 3) := by decide +kernel
theorem dX12_tells_17 : decode cX12_tells 17 = .ok (.aload_n 0, 1) := by decide +kernel
theorem dX12_tells_18 : decode cX12_tells 18 = .ok (.aload_n 0, 1) := by decide +kernel
theorem dX12_tells_19 : decode cX12_tells 19 = .ok (.aload_n 0, 1) := by decide +kernel
theorem dX12_tells_20 : decode cX12_tells 20 = .ok (.getfield 81, 3) := by decide +kernel
theorem dX12_tells_23 : decode cX12_tells 23 = .ok (.bipush 40, 2) := by decide +kernel
theorem dX12_tells_25 : decode cX12_tells 25 = .ok (.iload_n 1, 1) := by decide +kernel
theorem dX12_tells_26 : decode cX12_tells 26 = .ok (.imul, 1) := by decide +kernel
theorem dX12_tells_27 : decode cX12_tells 27 = .ok (.iload_n 2, 1) := by decide +kernel
theorem dX12_tells_28 : decode cX12_tells 28 = .ok (.iadd, 1) := by decide +kernel
theorem dX12_tells_29 : decode cX12_tells 29 = .ok (.laload, 1) := by decide +kernel
theorem dX12_tells_30 : decode cX12_tells 30 = .ok (.invokevirtual 300, 3) := by decide +kernel
theorem dX12_tells_33 : decode cX12_tells 33 = .ok (.putfield 297, 3) := by decide +kernel
theorem dX12_tells_36 : decode cX12_tells 36 = .ok (.aload_n 0, 1) := by decide +kernel
theorem dX12_tells_37 : decode cX12_tells 37 = .ok (.getfield 297, 3) := by decide +kernel
theorem dX12_tells_40 : decode cX12_tells 40 = .ok (.ifCond .eq 5, 3) := by decide +kernel
theorem dX12_tells_43 : decode cX12_tells 43 = .ok (.iload_n 2, 1) := by decide +kernel
theorem dX12_tells_44 : decode cX12_tells 44 = .ok (.ireturn, 1) := by decide +kernel
theorem dX12_tells_45 : decode cX12_tells 45 = .ok (.aload_n 0, 1) := by decide +kernel
theorem dX12_tells_46 : decode cX12_tells 46 = .ok (.aload_n 0, 1) := by decide +kernel
theorem dX12_tells_47 : decode cX12_tells 47 = .ok (.getfield 81, 3) := by decide +kernel
theorem dX12_tells_50 : decode cX12_tells 50 = .ok (.bipush 40, 2) := by decide +kernel
theorem dX12_tells_52 : decode cX12_tells 52 = .ok (.iload_n 1, 1) := by decide +kernel
theorem dX12_tells_53 : decode cX12_tells 53 = .ok (.imul, 1) := by decide +kernel
theorem dX12_tells_54 : decode cX12_tells 54 = .ok (.iload_n 2, 1) := by decide +kernel
theorem dX12_tells_55 : decode cX12_tells 55 = .ok (.iadd, 1) := by decide +kernel
theorem dX12_tells_56 : decode cX12_tells 56 = .ok (.laload, 1) := by decide +kernel
theorem dX12_tells_57 : decode cX12_tells 57 = .ok (.l2i, 1) := by decide +kernel
theorem dX12_tells_58 : decode cX12_tells 58 = .ok (.invokevirtual 304, 3) := by decide +kernel
theorem dX12_tells_61 : decode cX12_tells 61 = .ok (.iinc 2 1, 3) := by decide +kernel
theorem dX12_tells_64 : decode cX12_tells 64 = .ok (.goto (-57), 3) := by decide +kernel
theorem dX12_tells_67 : decode cX12_tells 67 = .ok (.aload_n 0, 1) := by decide +kernel
theorem dX12_tells_68 : decode cX12_tells 68 = .ok (.getfield 78, 3) := by decide +kernel
theorem dX12_tells_71 : decode cX12_tells 71 = .ok (.iload_n 1, 1) := by decide +kernel
theorem dX12_tells_72 : decode cX12_tells 72 = .ok (.iaload, 1) := by decide +kernel
theorem dX12_tells_73 : decode cX12_tells 73 = .ok (.ireturn, 1) := by decide +kernel
theorem dX12_judge_0 : decode cX12_judge 0 = .ok (.aload_n 0, 1) := by decide +kernel
theorem dX12_judge_1 : decode cX12_judge 1 = .ok (.iconst 0, 1) := by decide +kernel
theorem dX12_judge_2 : decode cX12_judge 2 = .ok (.putfield 1, 3) := by decide +kernel
theorem dX12_judge_5 : decode cX12_judge 5 = .ok (.iload_n 2, 1) := by decide +kernel
theorem dX12_judge_6 : decode cX12_judge 6 = .ok (.i2l, 1) := by decide +kernel
theorem dX12_judge_7 : decode cX12_judge 7 = .ok (.lconst 0, 1) := by decide +kernel
theorem dX12_judge_8 : decode cX12_judge 8 = .ok (.ldc2_w 307, 3) := by decide +kernel
theorem dX12_judge_11 : decode cX12_judge 11 = .ok (.invokestatic 150, 3) := by decide +kernel
theorem dX12_judge_14 : decode cX12_judge 14 = .ok (.ifCond .ne 6, 3) := by decide +kernel
theorem dX12_judge_17 : decode cX12_judge 17 = .ok (.bipush (-2), 2) := by decide +kernel
theorem dX12_judge_19 : decode cX12_judge 19 = .ok (.ireturn, 1) := by decide +kernel
theorem dX12_judge_20 : decode cX12_judge 20 = .ok (.aload_n 0, 1) := by decide +kernel
theorem dX12_judge_21 : decode cX12_judge 21 = .ok (.iload_n 1, 1) := by decide +kernel
theorem dX12_judge_22 : decode cX12_judge 22 = .ok (.invokevirtual 309, 3) := by decide +kernel
theorem dX12_judge_25 : decode cX12_judge 25 = .ok (.istore_n 3, 1) := by decide +kernel
theorem dX12_judge_26 : decode cX12_judge 26 = .ok (.iload_n 3, 1) := by decide +kernel
theorem dX12_judge_27 : decode cX12_judge 27 = .ok (.ifCond .eq 5, 3) := by decide +kernel
theorem dX12_judge_30 : decode cX12_judge 30 = .ok (.iload_n 3, 1) := by decide +kernel
theorem dX12_judge_31 : decode cX12_judge 31 = .ok (.ireturn, 1) := by decide +kernel
theorem dX12_judge_32 : decode cX12_judge 32 = .ok (.aload_n 0, 1) := by decide +kernel
theorem dX12_judge_33 : decode cX12_judge 33 = .ok (.invokevirtual 278, 3) := by decide +kernel
theorem dX12_judge_36 : decode cX12_judge 36 = .ok (.aload_n 0, 1) := by decide +kernel
theorem dX12_judge_37 : decode cX12_judge 37 = .ok (.iload_n 1, 1) := by decide +kernel
theorem dX12_judge_38 : decode cX12_judge 38 = .ok (.invokevirtual 312, 3) := by decide +kernel
theorem dX12_judge_41 : decode cX12_judge 41 = .ok (.istore 4, 2) := by decide +kernel
theorem dX12_judge_43 : decode cX12_judge 43 = .ok (.aload_n 0, 1) := by decide +kernel
theorem dX12_judge_44 : decode cX12_judge 44 = .ok (.invokevirtual 288, 3) := by decide +kernel
theorem dX12_judge_47 : decode cX12_judge 47 = .ok (.istore 5, 2) := by decide +kernel
theorem dX12_judge_49 : decode cX12_judge 49 = .ok (.aload_n 0, 1) := by decide +kernel
theorem dX12_judge_50 : decode cX12_judge 50 = .ok (.aload_n 0, 1) := by decide +kernel
theorem dX12_judge_51 : decode cX12_judge 51 = .ok (.invokevirtual 251, 3) := by decide +kernel
theorem dX12_judge_54 : decode cX12_judge 54 = .ok (.invokevirtual 265, 3) := by decide +kernel
theorem dX12_judge_57 : decode cX12_judge 57 = .ok (.ifCond .eq 7, 3) := by decide +kernel
theorem dX12_judge_60 : decode cX12_judge 60 = .ok (.iconst 1, 1) := by decide +kernel
theorem dX12_judge_61 : decode cX12_judge 61 = .ok (.goto 4, 3) := by decide +kernel
theorem dX12_judge_64 : decode cX12_judge 64 = .ok (.iconst 0, 1) := by decide +kernel
theorem dX12_judge_65 : decode cX12_judge 65 = .ok (.istore 6, 2) := by decide +kernel
theorem dX12_judge_67 : decode cX12_judge 67 = .ok (.aload_n 0, 1) := by decide +kernel
theorem dX12_judge_68 : decode cX12_judge 68 = .ok (.invokevirtual 315, 3) := by decide +kernel
theorem dX12_judge_71 : decode cX12_judge 71 = .ok (.iload_n 2, 1) := by decide +kernel
theorem dX12_judge_72 : decode cX12_judge 72 = .ok (.ifCond .ne 19, 3) := by decide +kernel
theorem dX12_judge_75 : decode cX12_judge 75 = .ok (.aload_n 0, 1) := by decide +kernel
theorem dX12_judge_76 : decode cX12_judge 76 = .ok (.getfield 297, 3) := by decide +kernel
theorem dX12_judge_79 : decode cX12_judge 79 = .ok (.ifCond .ne 7, 3) := by decide +kernel
theorem dX12_judge_82 : decode cX12_judge 82 = .ok (.iconst (-1), 1) := by decide +kernel
theorem dX12_judge_83 : decode cX12_judge 83 = .ok (.goto 32, 3) := by decide +kernel
theorem dX12_judge_86 : decode cX12_judge 86 = .ok (.iload 4, 2) := by decide +kernel
theorem dX12_judge_88 : decode cX12_judge 88 = .ok (.goto 27, 3) := by decide +kernel
theorem dX12_judge_91 : decode cX12_judge 91 = .ok (.iload_n 2, 1) := by decide +kernel
theorem dX12_judge_92 : decode cX12_judge 92 = .ok (.iconst 1, 1) := by decide +kernel
theorem dX12_judge_93 : decode cX12_judge 93 = .ok (.if_icmp .ne 10, 3) := by decide +kernel
theorem dX12_judge_96 : decode cX12_judge 96 = .ok (.aload_n 0, 1) := by decide +kernel
theorem dX12_judge_97 : decode cX12_judge 97 = .ok (.getfield 297, 3) := by decide +kernel
theorem dX12_judge_100 : decode cX12_judge 100 = .ok (.goto 15, 3) := by decide +kernel
theorem dX12_judge_103 : decode cX12_judge 103 = .ok (.iload_n 2, 1) := by decide +kernel
theorem dX12_judge_104 : decode cX12_judge 104 = .ok (.iconst 2, 1) := by decide +kernel
theorem dX12_judge_105 : decode cX12_judge 105 = .ok (.if_icmp .ne 8, 3) := by decide +kernel
theorem dX12_judge_108 : decode cX12_judge 108 = .ok (.iload 5, 2) := by decide +kernel
theorem dX12_judge_110 : decode cX12_judge 110 = .ok (.goto 5, 3) := by decide +kernel
theorem dX12_judge_113 : decode cX12_judge 113 = .ok (.iload 6, 2) := by decide +kernel
theorem dX12_judge_115 : decode cX12_judge 115 = .ok (.ireturn, 1) := by decide +kernel
theorem dX12_perform_0 : decode cX12_perform 0 = .ok (.aload_n 0, 1) := by decide +kernel
theorem dX12_perform_1 : decode cX12_perform 1 = .ok (.iconst 0, 1) := by decide +kernel
theorem dX12_perform_2 : decode cX12_perform 2 = .ok (.putfield 1, 3) := by decide +kernel
theorem dX12_perform_5 : decode cX12_perform 5 = .ok (.aload_n 0, 1) := by decide +kernel
theorem dX12_perform_6 : decode cX12_perform 6 = .ok (.iload_n 1, 1) := by decide +kernel
theorem dX12_perform_7 : decode cX12_perform 7 = .ok (.invokevirtual 309, 3) := by decide +kernel
theorem dX12_perform_10 : decode cX12_perform 10 = .ok (.istore_n 2, 1) := by decide +kernel
theorem dX12_perform_11 : decode cX12_perform 11 = .ok (.iload_n 2, 1) := by decide +kernel
theorem dX12_perform_12 : decode cX12_perform 12 = .ok (.ifCond .eq 5, 3) := by decide +kernel
theorem dX12_perform_15 : decode cX12_perform 15 = .ok (.iload_n 2, 1) := by decide +kernel
theorem dX12_perform_16 : decode cX12_perform 16 = .ok (.ireturn, 1) := by decide +kernel
theorem dX12_perform_17 : decode cX12_perform 17 = .ok (.aload_n 0, 1) := by decide +kernel
theorem dX12_perform_18 : decode cX12_perform 18 = .ok (.invokevirtual 278, 3) := by decide +kernel
theorem dX12_perform_21 : decode cX12_perform 21 = .ok (.aload_n 0, 1) := by decide +kernel
theorem dX12_perform_22 : decode cX12_perform 22 = .ok (.iload_n 1, 1) := by decide +kernel
theorem dX12_perform_23 : decode cX12_perform 23 = .ok (.invokevirtual 312, 3) := by decide +kernel
theorem dX12_perform_26 : decode cX12_perform 26 = .ok (.istore_n 3, 1) := by decide +kernel
theorem dX12_perform_27 : decode cX12_perform 27 = .ok (.iload_n 3, 1) := by decide +kernel
theorem dX12_perform_28 : decode cX12_perform 28 = .ok (.ifCond .le 7, 3) := by decide +kernel
theorem dX12_perform_31 : decode cX12_perform 31 = .ok (.aload_n 0, 1) := by decide +kernel
theorem dX12_perform_32 : decode cX12_perform 32 = .ok (.invokevirtual 285, 3) := by decide +kernel
theorem dX12_perform_35 : decode cX12_perform 35 = .ok (.iload_n 3, 1) := by decide +kernel
theorem dX12_perform_36 : decode cX12_perform 36 = .ok (.ireturn, 1) := by decide +kernel
theorem dX12_draw_0 : decode cX12_draw 0 = .ok (.aload_n 0, 1) := by decide +kernel
theorem dX12_draw_1 : decode cX12_draw 1 = .ok (.ldc_w 318, 3) := by decide +kernel
theorem dX12_draw_4 : decode cX12_draw 4 = .ok (.aload_n 0, 1) := by decide +kernel
theorem dX12_draw_5 : decode cX12_draw 5 = .ok (.getfield 319, 3) := by decide +kernel
theorem dX12_draw_8 : decode cX12_draw 8 = .ok (.imul, 1) := by decide +kernel
theorem dX12_draw_9 : decode cX12_draw 9 = .ok (.sipush 12345, 3) := by decide +kernel
theorem dX12_draw_12 : decode cX12_draw 12 = .ok (.iadd, 1) := by decide +kernel
theorem dX12_draw_13 : decode cX12_draw 13 = .ok (.putfield 319, 3) := by decide +kernel
theorem dX12_draw_16 : decode cX12_draw 16 = .ok (.aload_n 0, 1) := by decide +kernel
theorem dX12_draw_17 : decode cX12_draw 17 = .ok (.getfield 319, 3) := by decide +kernel
theorem dX12_draw_20 : decode cX12_draw 20 = .ok (.bipush 16, 2) := by decide +kernel
theorem dX12_draw_22 : decode cX12_draw 22 = .ok (.iushr, 1) := by decide +kernel
theorem dX12_draw_23 : decode cX12_draw 23 = .ok (.iload_n 1, 1) := by decide +kernel
theorem dX12_draw_24 : decode cX12_draw 24 = .ok (.irem, 1) := by decide +kernel
theorem dX12_draw_25 : decode cX12_draw 25 = .ok (.ireturn, 1) := by decide +kernel
theorem dX12_drawn_0 : decode cX12_drawn 0 = .ok (.aload_n 0, 1) := by decide +kernel
theorem dX12_drawn_1 : decode cX12_drawn 1 = .ok (.bipush 6, 2) := by decide +kernel
theorem dX12_drawn_3 : decode cX12_drawn 3 = .ok (.invokevirtual 322, 3) := by decide +kernel
theorem dX12_drawn_6 : decode cX12_drawn 6 = .ok (.istore_n 1, 1) := by decide +kernel
theorem dX12_drawn_7 : decode cX12_drawn 7 = .ok (.iload_n 1, 1) := by decide +kernel
theorem dX12_drawn_8 : decode cX12_drawn 8 = .ok (.iconst 5, 1) := by decide +kernel
theorem dX12_drawn_9 : decode cX12_drawn 9 = .ok (.if_icmp .ne 5, 3) := by decide +kernel
theorem dX12_drawn_12 : decode cX12_drawn 12 = .ok (.iconst (-1), 1) := by decide +kernel
theorem dX12_drawn_13 : decode cX12_drawn 13 = .ok (.ireturn, 1) := by decide +kernel
theorem dX12_drawn_14 : decode cX12_drawn 14 = .ok (.aload_n 0, 1) := by decide +kernel
theorem dX12_drawn_15 : decode cX12_drawn 15 = .ok (.bipush 6, 2) := by decide +kernel
theorem dX12_drawn_17 : decode cX12_drawn 17 = .ok (.invokevirtual 322, 3) := by decide +kernel
theorem dX12_drawn_20 : decode cX12_drawn 20 = .ok (.istore_n 2, 1) := by decide +kernel
theorem dX12_drawn_21 : decode cX12_drawn 21 = .ok (.iload_n 1, 1) := by decide +kernel
theorem dX12_drawn_22 : decode cX12_drawn 22 = .ok (.iconst 4, 1) := by decide +kernel
theorem dX12_drawn_23 : decode cX12_drawn 23 = .ok (.if_icmp .ge 17, 3) := by decide +kernel
theorem dX12_drawn_26 : decode cX12_drawn 26 = .ok (.bipush 10, 2) := by decide +kernel
theorem dX12_drawn_28 : decode cX12_drawn 28 = .ok (.iload_n 2, 1) := by decide +kernel
theorem dX12_drawn_29 : decode cX12_drawn 29 = .ok (.imul, 1) := by decide +kernel
theorem dX12_drawn_30 : decode cX12_drawn 30 = .ok (.aload_n 0, 1) := by decide +kernel
theorem dX12_drawn_31 : decode cX12_drawn 31 = .ok (.bipush 8, 2) := by decide +kernel
theorem dX12_drawn_33 : decode cX12_drawn 33 = .ok (.invokevirtual 322, 3) := by decide +kernel
theorem dX12_drawn_36 : decode cX12_drawn 36 = .ok (.iadd, 1) := by decide +kernel
theorem dX12_drawn_37 : decode cX12_drawn 37 = .ok (.goto 17, 3) := by decide +kernel
theorem dX12_drawn_40 : decode cX12_drawn 40 = .ok (.bipush 100, 2) := by decide +kernel
theorem dX12_drawn_42 : decode cX12_drawn 42 = .ok (.bipush 10, 2) := by decide +kernel
theorem dX12_drawn_44 : decode cX12_drawn 44 = .ok (.iload_n 2, 1) := by decide +kernel
theorem dX12_drawn_45 : decode cX12_drawn 45 = .ok (.imul, 1) := by decide +kernel
theorem dX12_drawn_46 : decode cX12_drawn 46 = .ok (.iadd, 1) := by decide +kernel
theorem dX12_drawn_47 : decode cX12_drawn 47 = .ok (.aload_n 0, 1) := by decide +kernel
theorem dX12_drawn_48 : decode cX12_drawn 48 = .ok (.bipush 10, 2) := by decide +kernel
theorem dX12_drawn_50 : decode cX12_drawn 50 = .ok (.invokevirtual 322, 3) := by decide +kernel
theorem dX12_drawn_53 : decode cX12_drawn 53 = .ok (.iadd, 1) := by decide +kernel
theorem dX12_drawn_54 : decode cX12_drawn 54 = .ok (.ireturn, 1) := by decide +kernel
theorem dX12_monday_0 : decode cX12_monday 0 = .ok (.aload_n 0, 1) := by decide +kernel
theorem dX12_monday_1 : decode cX12_monday 1 = .ok (.iconst 0, 1) := by decide +kernel
theorem dX12_monday_2 : decode cX12_monday 2 = .ok (.putfield 1, 3) := by decide +kernel
theorem dX12_monday_5 : decode cX12_monday 5 = .ok (.iload_n 2, 1) := by decide +kernel
theorem dX12_monday_6 : decode cX12_monday 6 = .ok (.i2l, 1) := by decide +kernel
theorem dX12_monday_7 : decode cX12_monday 7 = .ok (.lconst 1, 1) := by decide +kernel
theorem dX12_monday_8 : decode cX12_monday 8 = .ok (.ldc2_w 325, 3) := by decide +kernel
theorem dX12_monday_11 : decode cX12_monday 11 = .ok (.invokestatic 150, 3) := by decide +kernel
theorem dX12_monday_14 : decode cX12_monday 14 = .ok (.ifCond .ne 6, 3) := by decide +kernel
theorem dX12_monday_17 : decode cX12_monday 17 = .ok (.bipush (-3), 2) := by decide +kernel
theorem dX12_monday_19 : decode cX12_monday 19 = .ok (.ireturn, 1) := by decide +kernel
theorem dX12_monday_20 : decode cX12_monday 20 = .ok (.aload_n 0, 1) := by decide +kernel
theorem dX12_monday_21 : decode cX12_monday 21 = .ok (.invokevirtual 278, 3) := by decide +kernel
theorem dX12_monday_24 : decode cX12_monday 24 = .ok (.aload_n 0, 1) := by decide +kernel
theorem dX12_monday_25 : decode cX12_monday 25 = .ok (.iload_n 1, 1) := by decide +kernel
theorem dX12_monday_26 : decode cX12_monday 26 = .ok (.putfield 319, 3) := by decide +kernel
theorem dX12_monday_29 : decode cX12_monday 29 = .ok (.iconst 0, 1) := by decide +kernel
theorem dX12_monday_30 : decode cX12_monday 30 = .ok (.istore_n 3, 1) := by decide +kernel
theorem dX12_monday_31 : decode cX12_monday 31 = .ok (.iconst 0, 1) := by decide +kernel
theorem dX12_monday_32 : decode cX12_monday 32 = .ok (.istore 4, 2) := by decide +kernel
theorem dX12_monday_34 : decode cX12_monday 34 = .ok (.iload 4, 2) := by decide +kernel
theorem dX12_monday_36 : decode cX12_monday 36 = .ok (.iload_n 2, 1) := by decide +kernel
theorem dX12_monday_37 : decode cX12_monday 37 = .ok (.if_icmp .ge 37, 3) := by decide +kernel
theorem dX12_monday_40 : decode cX12_monday 40 = .ok (.aload_n 0, 1) := by decide +kernel
theorem dX12_monday_41 : decode cX12_monday 41 = .ok (.invokevirtual 327, 3) := by decide +kernel
theorem dX12_monday_44 : decode cX12_monday 44 = .ok (.istore 5, 2) := by decide +kernel
theorem dX12_monday_46 : decode cX12_monday 46 = .ok (.aload_n 0, 1) := by decide +kernel
theorem dX12_monday_47 : decode cX12_monday 47 = .ok (.iload 5, 2) := by decide +kernel
theorem dX12_monday_49 : decode cX12_monday 49 = .ok (.i2l, 1) := by decide +kernel
theorem dX12_monday_50 : decode cX12_monday 50 = .ok (.invokevirtual 300, 3) := by decide +kernel
theorem dX12_monday_53 : decode cX12_monday 53 = .ok (.ifCond .eq 6, 3) := by decide +kernel
theorem dX12_monday_56 : decode cX12_monday 56 = .ok (.goto 12, 3) := by decide +kernel
theorem dX12_monday_59 : decode cX12_monday 59 = .ok (.aload_n 0, 1) := by decide +kernel
theorem dX12_monday_60 : decode cX12_monday 60 = .ok (.iload 5, 2) := by decide +kernel
theorem dX12_monday_62 : decode cX12_monday 62 = .ok (.invokevirtual 304, 3) := by decide +kernel
theorem dX12_monday_65 : decode cX12_monday 65 = .ok (.iinc 3 1, 3) := by decide +kernel
theorem dX12_monday_68 : decode cX12_monday 68 = .ok (.iinc 4 1, 3) := by decide +kernel
theorem dX12_monday_71 : decode cX12_monday 71 = .ok (.goto (-37), 3) := by decide +kernel
theorem dX12_monday_74 : decode cX12_monday 74 = .ok (.iload_n 3, 1) := by decide +kernel
theorem dX12_monday_75 : decode cX12_monday 75 = .ok (.ifCond .le 7, 3) := by decide +kernel
theorem dX12_monday_78 : decode cX12_monday 78 = .ok (.aload_n 0, 1) := by decide +kernel
theorem dX12_monday_79 : decode cX12_monday 79 = .ok (.invokevirtual 285, 3) := by decide +kernel
theorem dX12_monday_82 : decode cX12_monday 82 = .ok (.iload_n 3, 1) := by decide +kernel
theorem dX12_monday_83 : decode cX12_monday 83 = .ok (.ireturn, 1) := by decide +kernel
section
variable (d : Nat) (sh : mbSh) (ct : mbCt) {β : Bk} {s : Sit} {n : Int} {pl : Int → Sit} {sz bt : Int → Int} {vl : Int → Int → Int}
theorem tw_whyNot {v : Int} (S : SH sh) (M : MA ct β s) (hv : i64 v) : Mt YX12_whyNot (d + 5) [.inr (.inr 92), .inr (.inl v)] sh sh ct (pI fun r c => r = whyV β s v ∧ eqBut [97, 98] ct c) := by
  have hv2 := hv
  unfold i64 at hv2
  have hw : w64 v = v := w64_id hv2.1 hv2.2
  have hB := M.2.1.2.2.1
  have hb2 := hB.2.2.1
  refine Mt.of rfl (Nat.le_of_ble_eq_true rfl) ?_
  show G _ 0 [some (.inr (.inr 92)), some (.inr (.inl v)), none] [] sh ct
  refine g_lload_n (q := 1) dX12_whyNot_0 rfl rfl ?_
  refine g_ldc2 (q := 4) dX12_whyNot_1 kX12_291 rfl ?_
  refine g_lcmp (q := 5) dX12_whyNot_4 rfl ?_
  refine g_if_ne (q := 8) (tg := 10) dX12_whyNot_5 (by decide) rfl (fun c_5 => ?_) (fun c_5 => ?_)
  · have h5 : v ≠ -1 := fun z => c_5 (cmp_eq.mpr (by rw [z]))
    refine g_lload_n (q := 11) dX12_whyNot_10 rfl rfl ?_
    refine g_lconst0 (q := 12) dX12_whyNot_11 rfl ?_
    refine g_ldc2 (q := 15) dX12_whyNot_12 kX12_216 rfl ?_
    refine g_callS (q := 18) lX12_150 mX12_within sX12_within rfl (tw_within (d + 4) sh _) shLe.rf (rmOk.mk (by omega) (by first | exact shLe.rf | assumption)) (Nat.le_of_ble_eq_true rfl) dX12_whyNot_15 rfl rfl (kI fun r_ c_ hp => ?_)
    obtain ⟨hr, hq⟩ := hp
    replace hr := hr.symm
    replace hq := hq.symm
    subst hr hq
    rw [hw, show w64 0 = 0 from rfl, show w64 99 = 99 from rfl]
    refine g_if_eq (q := 21) (tg := 36) dX12_whyNot_18 (by decide) rfl (fun c_18 => ?_) (fun c_18 => ?_)
    · have h18 := wb0.mp c_18
      refine g_lload_n (q := 37) dX12_whyNot_36 rfl rfl ?_
      refine g_ldc2 (q := 40) dX12_whyNot_37 kX12_293 rfl ?_
      refine g_ldc2 (q := 43) dX12_whyNot_40 kX12_295 rfl ?_
      refine g_callS (q := 46) lX12_150 mX12_within sX12_within rfl (tw_within (d + 4) sh _) shLe.rf (rmOk.mk (by omega) (by first | exact shLe.rf | assumption)) (Nat.le_of_ble_eq_true rfl) dX12_whyNot_43 rfl rfl (kI fun r_ c_ hp => ?_)
      obtain ⟨hr, hq⟩ := hp
      replace hr := hr.symm
      replace hq := hq.symm
      subst hr hq
      rw [hw, show w64 100 = 100 from rfl, show w64 199 = 199 from rfl]
      refine g_if_eq (q := 49) (tg := 69) dX12_whyNot_46 (by decide) rfl (fun c_46 => ?_) (fun c_46 => ?_)
      · have h46 := wb0.mp c_46
        refine g_iconst (q := 70) dX12_whyNot_69 rfl ?_
        refine g_ireturn dX12_whyNot_70 rfl ?_
        refine ⟨_, rfl, ?_, eqBut.rf⟩
        unfold whyV
        rw [if_neg h5, if_neg h18, if_neg (fun z => h46 z.1)]
      · have h46 := wbn.mp c_46
        have e1 : (w64 (v - 100)).tdiv (w64 10) = (v - 100) / 10 := by rw [w64_id (by omega) (by omega), td_pos (by omega)]; rfl
        refine g_aload_n (q := 50) dX12_whyNot_49 rfl rfl ?_
        refine g_lload_n (q := 51) dX12_whyNot_50 rfl rfl ?_
        refine g_ldc2 (q := 54) dX12_whyNot_51 kX12_293 rfl ?_
        refine g_lsub (q := 55) dX12_whyNot_54 rfl ?_
        refine g_ldc2 (q := 58) dX12_whyNot_55 kX12_218 rfl ?_
        refine g_ldiv (q := 59) dX12_whyNot_58 (by decide) rfl ?_
        rw [e1]
        refine g_callV (q := 62) lX12_220 mX12_isMember nX12_isMember rfl (tw_isMember (d + 3) sh _ M.md S (by unfold i64; omega)) (by first | assumption | exact S.at _ rfl) rfl rfl shLe.rf (rmOk.mk (by omega) (by first | exact shLe.rf | assumption)) (Nat.le_of_ble_eq_true rfl) dX12_whyNot_59 rfl rfl (kI fun r_ c_ hp => ?_)
        obtain ⟨hr, hq⟩ := hp
        replace hr := hr.symm
        replace hq := hq.symm
        subst hr hq
        refine g_if_eq (q := 65) (tg := 69) dX12_whyNot_62 (by decide) rfl (fun c_62 => ?_) (fun c_62 => ?_)
        · have h62 := wb0.mp c_62
          refine g_iconst (q := 70) dX12_whyNot_69 rfl ?_
          refine g_ireturn dX12_whyNot_70 rfl ?_
          refine ⟨_, rfl, ?_, eqBut.rf⟩
          unfold whyV
          rw [if_neg h5, if_neg h18, if_neg (fun z => h62 ⟨by omega, z.2⟩)]
        · have h62 := wbn.mp c_62
          refine g_iconst (q := 66) dX12_whyNot_65 rfl ?_
          refine g_goto (q := 70) dX12_whyNot_66 (by decide) ?_
          refine g_ireturn dX12_whyNot_70 rfl ?_
          refine ⟨_, rfl, ?_, eqBut.rf⟩
          unfold whyV
          rw [if_neg h5, if_neg h18, if_pos ⟨h46, h62.2⟩]
    · have h18 := wbn.mp c_18
      have e1 : (w64 v).tdiv (w64 10) = v / 10 := by rw [hw, td_pos h18.1]; rfl
      have e2 : (w64 v).tmod (w64 10) = v % 10 := by rw [hw, tm_pos h18.1]; rfl
      refine g_aload_n (q := 22) dX12_whyNot_21 rfl rfl ?_
      refine g_lload_n (q := 23) dX12_whyNot_22 rfl rfl ?_
      refine g_ldc2 (q := 26) dX12_whyNot_23 kX12_218 rfl ?_
      refine g_ldiv (q := 27) dX12_whyNot_26 (by decide) rfl ?_
      rw [e1]
      refine g_lload_n (q := 28) dX12_whyNot_27 rfl rfl ?_
      refine g_ldc2 (q := 31) dX12_whyNot_28 kX12_218 rfl ?_
      refine g_lrem (q := 32) dX12_whyNot_31 (by decide) rfl ?_
      rw [e2]
      refine g_callV (q := 35) lX12_274 mX12_whySay nX12_whySay rfl (tw_whySay d sh _ S M (by unfold i64; omega) (by unfold i64; omega)) (by first | assumption | exact S.at _ rfl) rfl rfl shLe.rf (rmOk.mk (by omega) (by first | exact shLe.rf | assumption)) (Nat.le_of_ble_eq_true rfl) dX12_whyNot_32 rfl rfl (kI fun r c1 hp => ?_)
      obtain ⟨rfl, e⟩ := hp
      refine g_ireturn dX12_whyNot_35 rfl ?_
      refine ⟨_, rfl, ?_, e⟩
      unfold whyV
      rw [if_neg h5, if_pos h18]
  · have h5 : v = -1 := by
      have := cmp_eq.mp c_5
      rw [hw] at this
      exact this
    refine g_iconst (q := 9) dX12_whyNot_8 rfl ?_
    refine g_ireturn dX12_whyNot_9 rfl ?_
    refine ⟨_, rfl, ?_, eqBut.rf⟩
    unfold whyV
    rw [if_pos h5]
theorem tw_does {v : Int} (S : SH sh) (M : MA ct β s) (hv : whyV β s v = 0) : Mt YX12_does (d + 3) [.inr (.inr 92), .inl v] sh sh ct (pN fun c => MA c β (doV β s v) ∧ frJ 28 38 ct c ∧ eqBut [93] ct c) := by
  have hB := M.2.1.2.2.1
  have hb2 := hB.2.2.1
  have hb3 := hB.2.2.2.1
  have L := M.1
  have s93 : shA sh 93 = some (20, 3120) := S.at _ rfl
  have h0 := whyV_0 hv
  generalize hP : (pN fun c => MA c β (doV β s v) ∧ frJ 28 38 ct c ∧ eqBut [93] ct c) = Po
  refine Mt.of rfl (Nat.le_of_ble_eq_true rfl) ?_
  show G _ 0 [some (.inr (.inr 92)), some (.inl v)] [] sh ct
  refine g_iload_n (q := 1) dX12_does_0 rfl rfl ?_
  refine g_iconst (q := 2) dX12_does_1 rfl ?_
  refine g_icmp_ne (q := 5) (tg := 12) dX12_does_2 (by decide) rfl (fun c_2 => ?_) (fun c_2 => ?_)
  · have h1 : v ≠ -1 := fun z => c_2 (by rw [z])
    refine g_iload_n (q := 13) dX12_does_12 rfl rfl ?_
    refine g_bipush (q := 15) dX12_does_13 (by decide +kernel) rfl ?_
    refine g_icmp_ge (q := 18) (tg := 33) dX12_does_15 (by decide) rfl (fun c_15 => ?_) (fun c_15 => ?_)
    · have h100 : 100 ≤ v := by unfold w32 at c_15; omega
      have e1 : (w32 (v - 100)).tdiv (w32 10) = (v - 100) / 10 := by rw [w32_id (by omega) (by omega), td_pos (by omega)]; rfl
      have e2 : (w32 v).tmod (w32 10) = v % 10 := by rw [w32_id (by omega) (by omega), tm_pos (by omega)]; rfl
      refine g_aload_n (q := 34) dX12_does_33 rfl rfl ?_
      refine g_getA (q := 37) (kI := 1) fX12_13 (by first | assumption | exact S.at _ rfl) dX12_does_34 rfl rfl (by first | assumption | exact L.at _ _ rfl | exact LK.at (by assumption) _ _ rfl | ((repeat first | rewrite [wr_na (by decide)] | rewrite [wr_nk (by decide)] | rewrite [wa_na (by decide)]); first | assumption | exact LK.at (by assumption) _ _ rfl) | exact rfl) ?_
      refine g_bipush (q := 39) dX12_does_37 (by decide +kernel) rfl ?_
      refine g_iload_n (q := 40) dX12_does_39 rfl rfl ?_
      refine g_bipush (q := 42) dX12_does_40 (by decide +kernel) rfl ?_
      refine g_isub (q := 43) dX12_does_42 rfl ?_
      refine g_bipush (q := 45) dX12_does_43 (by decide +kernel) rfl ?_
      refine g_idiv (q := 46) dX12_does_45 (by decide) rfl ?_
      rw [e1]
      refine g_iadd (q := 47) dX12_does_46 rfl ?_
      refine g_iload_n (q := 48) dX12_does_47 rfl rfl ?_
      refine g_bipush (q := 50) dX12_does_48 (by decide +kernel) rfl ?_
      refine g_irem (q := 51) dX12_does_50 (by decide) rfl ?_
      rw [e2]
      refine g_iastore (q := 52) (by first | assumption | exact S.at _ rfl) (by omega) (by omega) (by omega) dX12_does_51 rfl ?_
      refine g_return dX12_does_52 rfl ?_
      rw [← hP]
      refine ⟨rfl, ?_⟩
      unfold doV
      rw [if_neg h1, if_neg (by omega)]
      exact mark_MA ct M (by omega) (by omega) (by omega) (by omega) rfl
    · have h99 : v < 100 := by unfold w32 at c_15; omega
      have e1 : (w32 v).tdiv (w32 10) = v / 10 := by rw [w32_id (by omega) (by omega), td_pos (by omega)]; rfl
      have e2 : (w32 v).tmod (w32 10) = v % 10 := by rw [w32_id (by omega) (by omega), tm_pos (by omega)]; rfl
      refine g_aload_n (q := 19) dX12_does_18 rfl rfl ?_
      refine g_iload_n (q := 20) dX12_does_19 rfl rfl ?_
      refine g_bipush (q := 22) dX12_does_20 (by decide +kernel) rfl ?_
      refine g_idiv (q := 23) dX12_does_22 (by decide) rfl ?_
      rw [e1]
      refine g_iload_n (q := 24) dX12_does_23 rfl rfl ?_
      refine g_bipush (q := 26) dX12_does_24 (by decide +kernel) rfl ?_
      refine g_irem (q := 27) dX12_does_26 (by decide) rfl ?_
      rw [e2]
      refine g_callV (q := 30) lX12_281 mX12_says nX12_says rfl (tw_says d sh _ S M (by omega) (by omega) (by omega) (by omega)) (by first | assumption | exact S.at _ rfl) rfl rfl shLe.rf (rmOk.mk (by omega) (by first | exact shLe.rf | assumption)) (Nat.le_of_ble_eq_true rfl) dX12_does_27 rfl rfl (kN fun c1 hp => ?_)
      refine g_goto (q := 52) dX12_does_30 (by decide) ?_
      refine g_return dX12_does_52 rfl ?_
      rw [← hP]
      refine ⟨rfl, ?_⟩
      unfold doV
      rw [if_neg h1, if_pos h99]
      exact hp
  · have h1 : v = -1 := by unfold w32 at c_2; omega
    refine g_aload_n (q := 6) dX12_does_5 rfl rfl ?_
    refine g_callV (q := 9) lX12_213 mX12_adjourns nX12_adjourns rfl (tw_adjourns (d + 2) sh _ S M) (by first | assumption | exact S.at _ rfl) rfl rfl shLe.rf (rmOk.mk (by omega) (by first | exact shLe.rf | assumption)) (Nat.le_of_ble_eq_true rfl) dX12_does_6 rfl rfl (kN fun c1 hp => ?_)
    refine g_goto (q := 52) dX12_does_9 (by decide) ?_
    refine g_return dX12_does_52 rfl ?_
    rw [← hP]
    refine ⟨rfl, ?_⟩
    unfold doV
    rw [if_pos h1]
    exact hp
set_option maxRecDepth 4000 in
theorem tw_tells {t : Int} {N : Nat} (S : SH sh) (M : MA ct β s) (T : MT ct sz bt vl) (ht : isTr t) (hN : (N : Int) = sz t) : Mt YX12_tells (d + 6) [.inr (.inr 92), .inl t] sh sh ct (pI fun r c => r = (dRun β (vl t) N N s).1 ∧ c 92 19 = (dRun β (vl t) N N s).2.2 ∧ MA c β (dRun β (vl t) N N s).2.1 ∧ tlF ct c) := by
  have hB := M.2.1.2.2.1
  have s112 : shA sh 112 = some (20, 4) := S.at _ rfl
  have s113 : shA sh 113 = some (21, 160) := S.at _ rfl
  obtain ⟨a, b, e0, f⟩ : (0 ≤ sz t ∧ sz t ≤ 40) ∧ ct 112 t = sz t ∧ (0 ≤ ct 111 t ∧ ct 111 t ≤ 3 ∧ bt t = 8 * 2 ^ (ct 111 t).toNat) ∧ ∀ i, 0 ≤ i → i < sz t → ct 113 (40 * t + i) = vl t i ∧ i64 (vl t i) := by
    rcases T t ht.1 ht.2 with h | h
    · omega
    · exact h
  generalize hP : (pI fun r c => r = (dRun β (vl t) N N s).1 ∧ c 92 19 = (dRun β (vl t) N N s).2.2 ∧ MA c β (dRun β (vl t) N N s).2.1 ∧ tlF ct c) = Po
  have fth : ∀ (c : mbCt) (v : Int), tlF c (wr c 92 19 v) := fun c v => ⟨eqBut.rf.wr (by decide), fun k hk => wr_nk hk, frJ.of (wr_other _ _ _ _ _ (by decide))⟩
  refine Mt.of rfl (Nat.le_of_ble_eq_true rfl) ?_
  show G _ 0 [some (.inr (.inr 92)), some (.inl t), none] [] sh ct
  refine g_aload_n (q := 1) dX12_tells_0 rfl rfl ?_
  refine g_iconst (q := 2) dX12_tells_1 rfl ?_
  refine g_putI (q := 5) (kI := 19) fX12_297 (by first | assumption | exact S.at _ rfl) dX12_tells_2 rfl rfl ?_
  refine g_iconst (q := 6) dX12_tells_5 rfl ?_
  refine s_istore_n_3_2 (q := 7) dX12_tells_6 rfl rfl rfl ?_
  refine g_forA (α := Sit) (fun k _ => [some (.inr (.inr 92)), some (.inl t), some (.inl k)]) (fun k u c => 0 ≤ k ∧ tlF ct c ∧ MA c β u ∧ c 92 19 = 0 ∧ dRun β (vl t) N (N - k.toNat) u = dRun β (vl t) N N s) N ?_ ?_ (i := 0) (a := s) (by omega) ⟨by omega, fth ct 0, M.same ((fth ct 0).L M.1) (frJ.of (wr_other _ _ _ _ _ (by decide))), wr_eq, rfl⟩ (by simp [lsSub])
  · rintro k u c hk ⟨k0, e, M1, h19, hrun⟩ kk
    have ek : ((k.toNat : Nat) : Int) = k := by omega
    have hkn : k.toNat < N := by omega
    have L1 := M1.1
    have h112 : c 112 t = N := by rw [e.1 112 (by decide), b, hN]
    have hf := f k k0 (by omega)
    have h113 : c 113 (40 * t + k) = vl t k := by rw [e.1 113 (by decide)]; exact hf.1
    rw [dRun_s hkn, ek] at hrun
    have hwi := whyV_in β u (vl t k)
    have hta := ht
    unfold isTr at hta
    refine g_iload_n (q := 8) dX12_tells_7 rfl rfl ?_
    refine g_aload_n (q := 9) dX12_tells_8 rfl rfl ?_
    refine g_getA (q := 12) (kI := 33) fX12_78 (by first | assumption | exact S.at _ rfl) dX12_tells_9 rfl rfl (by first | assumption | exact L.at _ _ rfl | exact LK.at (by assumption) _ _ rfl | ((repeat first | rewrite [wr_na (by decide)] | rewrite [wr_nk (by decide)] | rewrite [wa_na (by decide)]); first | assumption | exact LK.at (by assumption) _ _ rfl) | exact rfl) ?_
    refine g_iload_n (q := 13) dX12_tells_12 rfl rfl ?_
    refine g_iaload (q := 14) (by first | assumption | exact S.at _ rfl) (by omega) (by omega) (by omega) dX12_tells_13 rfl ?_
    refine g_icmp_ge (q := 17) (tg := 67) dX12_tells_14 (by decide) rfl (fun c_14 => ?_) (fun c_14 => ?_)
    · rw [h112] at c_14
      exact absurd c_14 (by unfold w32; omega)
    · refine g_aload_n (q := 18) dX12_tells_17 rfl rfl ?_
      refine g_aload_n (q := 19) dX12_tells_18 rfl rfl ?_
      refine g_aload_n (q := 20) dX12_tells_19 rfl rfl ?_
      refine g_getA (q := 23) (kI := 34) fX12_81 (by first | assumption | exact S.at _ rfl) dX12_tells_20 rfl rfl (by first | assumption | exact L.at _ _ rfl | exact LK.at (by assumption) _ _ rfl | ((repeat first | rewrite [wr_na (by decide)] | rewrite [wr_nk (by decide)] | rewrite [wa_na (by decide)]); first | assumption | exact LK.at (by assumption) _ _ rfl) | exact rfl) ?_
      refine g_bipush (q := 25) dX12_tells_23 (by decide +kernel) rfl ?_
      refine g_iload_n (q := 26) dX12_tells_25 rfl rfl ?_
      refine g_imul (q := 27) dX12_tells_26 rfl ?_
      refine g_iload_n (q := 28) dX12_tells_27 rfl rfl ?_
      refine g_iadd (q := 29) dX12_tells_28 rfl ?_
      refine g_laload (q := 30) (by first | assumption | exact S.at _ rfl) (by omega) (by omega) (by omega) dX12_tells_29 rfl ?_
      rw [h113]
      refine g_callV (q := 33) lX12_300 mX12_whyNot nX12_whyNot rfl (tw_whyNot d sh _ S M1 hf.2) (by first | assumption | exact S.at _ rfl) rfl rfl shLe.rf (rmOk.mk (by omega) (by first | exact shLe.rf | assumption)) (Nat.le_of_ble_eq_true rfl) dX12_tells_30 rfl rfl (kI fun r c1 hp => ?_)
      obtain ⟨rfl, e1⟩ := hp
      have L2 : LK c1 := L1.eb e1 rfl
      have f1 : tlF c c1 := ⟨e1.mono (by decide), fun j _ => by rw [e1 92 (by decide)], frJ.of (e1 93 (by decide))⟩
      refine g_putI (q := 36) (kI := 19) fX12_297 (by first | assumption | exact S.at _ rfl) dX12_tells_33 rfl rfl ?_
      refine g_aload_n (q := 37) dX12_tells_36 rfl rfl ?_
      refine g_getI (q := 40) (kI := 19) fX12_297 (by first | assumption | exact S.at _ rfl) dX12_tells_37 rfl rfl ?_
      rw [show wr c1 92 19 (whyV β u (vl t k)) 92 19 = whyV β u (vl t k) from wr_eq]
      have f2 := (e.tr f1).tr (fth c1 (whyV β u (vl t k)))
      have M2 : MA (wr c1 92 19 (whyV β u (vl t k))) β u := M1.same (f2.L M.1) (frJ.of (by rw [wr_other _ _ _ _ _ (by decide), e1 93 (by decide)]))
      have L3 := M2.1
      refine g_if_eq (q := 43) (tg := 45) dX12_tells_40 (by decide) rfl (fun c_40 => ?_) (fun c_40 => ?_)
      · have h0 : whyV β u (vl t k) = 0 := by unfold w32 at c_40; omega
        rw [if_pos h0] at hrun
        have h113b : wr c1 92 19 (whyV β u (vl t k)) 113 (40 * t + k) = vl t k := by rw [wr_na (by decide), e1 113 (by decide)]; exact h113
        refine g_aload_n (q := 46) dX12_tells_45 rfl rfl ?_
        refine g_aload_n (q := 47) dX12_tells_46 rfl rfl ?_
        refine g_getA (q := 50) (kI := 34) fX12_81 (by first | assumption | exact S.at _ rfl) dX12_tells_47 rfl rfl (by first | assumption | exact L.at _ _ rfl | exact LK.at (by assumption) _ _ rfl | ((repeat first | rewrite [wr_na (by decide)] | rewrite [wr_nk (by decide)] | rewrite [wa_na (by decide)]); first | assumption | exact LK.at (by assumption) _ _ rfl) | exact rfl) ?_
        refine g_bipush (q := 52) dX12_tells_50 (by decide +kernel) rfl ?_
        refine g_iload_n (q := 53) dX12_tells_52 rfl rfl ?_
        refine g_imul (q := 54) dX12_tells_53 rfl ?_
        refine g_iload_n (q := 55) dX12_tells_54 rfl rfl ?_
        refine g_iadd (q := 56) dX12_tells_55 rfl ?_
        refine g_laload (q := 57) (by first | assumption | exact S.at _ rfl) (by omega) (by omega) (by omega) dX12_tells_56 rfl ?_
        rw [h113b]
        refine g_l2i (q := 58) dX12_tells_57 rfl ?_
        refine g_callV (q := 61) lX12_304 mX12_does nX12_does rfl (tw_does (d + 2) sh _ S M2 h0) (by first | assumption | exact S.at _ rfl) rfl rfl shLe.rf (rmOk.mk (by omega) (by first | exact shLe.rf | assumption)) (Nat.le_of_ble_eq_true rfl) dX12_tells_58 rfl rfl (kN fun c3 hp => ?_)
        obtain ⟨M3, fr3, e3⟩ := hp
        refine s_iinc_3_2 (q := 64) dX12_tells_61 rfl rfl rfl ?_
        refine g_goto (q := 7) dX12_tells_64 (by decide) ?_
        refine kk (doV β u (vl t k)) _ _ (by simp [lsSub]) ⟨by omega, f2.tr ⟨e3.mono (by decide), fun j _ => by rw [e3 92 (by decide)], fr3⟩, M3, by rw [e3 92 (by decide), wr_eq]; exact h0, ?_⟩
        rw [show (k + 1).toNat = k.toNat + 1 by omega]
        exact hrun
      · rw [if_neg (fun z => c_40 (by rw [z]; rfl))] at hrun
        refine g_iload_n (q := 44) dX12_tells_43 rfl rfl ?_
        refine g_ireturn dX12_tells_44 rfl ?_
        rw [← hP, ← hrun]
        exact ⟨_, rfl, rfl, wr_eq, M2, f2⟩
  · rintro u c ⟨-, e, M1, h19, hrun⟩
    have L1 := M1.1
    have h112 : c 112 t = N := by rw [e.1 112 (by decide), b, hN]
    have hta := ht
    unfold isTr at hta
    rw [show N - ((N : Int)).toNat = 0 by omega] at hrun
    refine g_iload_n (q := 8) dX12_tells_7 rfl rfl ?_
    refine g_aload_n (q := 9) dX12_tells_8 rfl rfl ?_
    refine g_getA (q := 12) (kI := 33) fX12_78 (by first | assumption | exact S.at _ rfl) dX12_tells_9 rfl rfl (by first | assumption | exact L.at _ _ rfl | exact LK.at (by assumption) _ _ rfl | ((repeat first | rewrite [wr_na (by decide)] | rewrite [wr_nk (by decide)] | rewrite [wa_na (by decide)]); first | assumption | exact LK.at (by assumption) _ _ rfl) | exact rfl) ?_
    refine g_iload_n (q := 13) dX12_tells_12 rfl rfl ?_
    refine g_iaload (q := 14) (by first | assumption | exact S.at _ rfl) (by omega) (by omega) (by omega) dX12_tells_13 rfl ?_
    refine g_icmp_ge (q := 17) (tg := 67) dX12_tells_14 (by decide) rfl (fun c_14 => ?_) (fun c_14 => ?_)
    · refine g_aload_n (q := 68) dX12_tells_67 rfl rfl ?_
      refine g_getA (q := 71) (kI := 33) fX12_78 (by first | assumption | exact S.at _ rfl) dX12_tells_68 rfl rfl (by first | assumption | exact L.at _ _ rfl | exact LK.at (by assumption) _ _ rfl | ((repeat first | rewrite [wr_na (by decide)] | rewrite [wr_nk (by decide)] | rewrite [wa_na (by decide)]); first | assumption | exact LK.at (by assumption) _ _ rfl) | exact rfl) ?_
      refine g_iload_n (q := 72) dX12_tells_71 rfl rfl ?_
      refine g_iaload (q := 73) (by first | assumption | exact S.at _ rfl) (by omega) (by omega) (by omega) dX12_tells_72 rfl ?_
      refine g_ireturn dX12_tells_73 rfl ?_
      rw [← hP, ← hrun, h112]
      exact ⟨_, rfl, rfl, h19, M1, e⟩
    · rw [h112] at c_14
      exact absurd c_14 (Int.lt_irrefl _)
def qJudge (β : Bk) (s : Sit) (sz : Int → Int) (vl : Int → Int → Int) (t w r : Int) : Prop := (¬ (isTr t ∧ 0 ≤ w ∧ w ≤ 3) ∧ r = -2) ∨ ((isTr t ∧ 0 ≤ w ∧ w ≤ 3) ∧ sz t = -1 ∧ r = -6) ∨ ((isTr t ∧ 0 ≤ w ∧ w ≤ 3) ∧ sz t ≠ -1 ∧ r = if w = 0 then (if (dRun β (vl t) (sz t).toNat (sz t).toNat s).2.2 = 0 then -1 else (dRun β (vl t) (sz t).toNat (sz t).toNat s).1) else if w = 1 then (dRun β (vl t) (sz t).toNat (sz t).toNat s).2.2 else if w = 2 then (dRun β (vl t) (sz t).toNat (sz t).toNat s).2.1.1 / 7 else b01 (β.cl (dRun β (vl t) (sz t).toNat (sz t).toNat s).2.1.1 = true))
theorem qJudge.uni {t w r r2 : Int} (h : qJudge β s sz vl t w r) (h2 : qJudge β s sz vl t w r2) : r = r2 := by
  rcases h with ⟨a, b⟩ | ⟨a, b, c⟩ | ⟨a, b, c⟩ <;> rcases h2 with ⟨a2, b2⟩ | ⟨a2, b2, c2⟩ | ⟨a2, b2, c2⟩
  · omega
  · exact absurd a2 a
  · exact absurd a2 a
  · exact absurd a a2
  · omega
  · exact absurd b b2
  · exact absurd a a2
  · exact absurd b2 b
  · rw [c, c2]
set_option maxRecDepth 4000 in
theorem tw_judge {t w : Int} (S : SH sh) (M : MP ct β s n pl) (T : MT ct sz bt vl) (ht : i32 t) (hw : i32 w) : Mt YX12_judge (d + 7) [.inr (.inr 92), .inl t, .inl w] sh sh ct (pI fun r c => qJudge β s sz vl t w r ∧ MP c β s n pl ∧ dF ct c) := by
  unfold i32 at hw
  have M0 := M.th (k := 0) (v := 0) (Or.inl rfl)
  have f0 := dF.th (ct := ct) (k := 0) (v := 0) (Or.inl rfl)
  have T0 : MT (wr ct 92 0 0) sz bt vl := T.eq (wr_other _ _ _ _ _ (by decide)) (wr_other _ _ _ _ _ (by decide)) (wr_other _ _ _ _ _ (by decide))
  generalize hP : (pI fun r c => qJudge β s sz vl t w r ∧ MP c β s n pl ∧ dF ct c) = Po
  refine Mt.of rfl (Nat.le_of_ble_eq_true rfl) ?_
  show G _ 0 [some (.inr (.inr 92)), some (.inl t), some (.inl w), none, none, none, none] [] sh ct
  refine g_aload_n (q := 1) dX12_judge_0 rfl rfl ?_
  refine g_iconst (q := 2) dX12_judge_1 rfl ?_
  refine g_putI (q := 5) (kI := 0) fX12_1 (by first | assumption | exact S.at _ rfl) dX12_judge_2 rfl rfl ?_
  refine g_iload_n (q := 6) dX12_judge_5 rfl rfl ?_
  refine g_i2l (q := 7) dX12_judge_6 rfl ?_
  refine g_lconst0 (q := 8) dX12_judge_7 rfl ?_
  refine g_ldc2 (q := 11) dX12_judge_8 kX12_307 rfl ?_
  rw [w32_id (x := w) hw.1 hw.2]
  refine g_callS (q := 14) lX12_150 mX12_within sX12_within rfl (tw_within (d + 6) sh _) shLe.rf (rmOk.mk (by omega) (by first | exact shLe.rf | assumption)) (Nat.le_of_ble_eq_true rfl) dX12_judge_11 rfl rfl (kI fun r_ c_ hp => ?_)
  obtain ⟨hr, hq⟩ := hp
  replace hr := hr.symm
  replace hq := hq.symm
  subst hr hq
  refine g_if_ne (q := 17) (tg := 20) dX12_judge_14 (by decide) rfl (fun c_14 => ?_) (fun c_14 => ?_)
  · have h14 : 0 ≤ w ∧ w ≤ 3 := by
      have := wbn.mp c_14
      unfold w64 at this
      omega
    refine g_aload_n (q := 21) dX12_judge_20 rfl rfl ?_
    refine g_iload_n (q := 22) dX12_judge_21 rfl rfl ?_
    refine g_callV (q := 25) lX12_309 mX12_noTray nX12_noTray rfl (tw_noTray (d + 5) sh _ S M0.1.1 T0 ht) (by first | assumption | exact S.at _ rfl) rfl rfl shLe.rf (rmOk.mk (by omega) (by first | exact shLe.rf | assumption)) (Nat.le_of_ble_eq_true rfl) dX12_judge_22 rfl rfl (kI fun r_ c_ hp => ?_)
    obtain ⟨hr, hq⟩ := hp
    replace hr := hr.symm
    replace hq := hq.symm
    subst hr hq
    by_cases hi : isTr t
    · rw [if_pos hi]
      by_cases hz : sz t = -1
      · rw [if_pos hz]
        refine s_istore_n_7_3 (q := 26) dX12_judge_25 rfl rfl rfl ?_
        refine g_iload_n (q := 27) dX12_judge_26 rfl rfl ?_
        refine g_if_eq (q := 30) (tg := 32) dX12_judge_27 (by decide) rfl (fun c_27 => ?_) (fun c_27 => ?_)
        · exact absurd c_27 (by decide)
        · refine g_iload_n (q := 31) dX12_judge_30 rfl rfl ?_
          refine g_ireturn dX12_judge_31 rfl ?_
          rw [← hP]
          exact ⟨_, rfl, Or.inr (Or.inl ⟨⟨hi, h14⟩, hz, rfl⟩), M0, f0⟩
      · rw [if_neg hz]
        have hsz : 0 ≤ sz t := by
          rcases T t hi.1 hi.2 with h | h
          · exact absurd h.1 hz
          · exact h.1.1
        generalize hR : dRun β (vl t) (sz t).toNat (sz t).toNat s = R
        refine s_istore_n_7_3 (q := 26) dX12_judge_25 rfl rfl rfl ?_
        refine g_iload_n (q := 27) dX12_judge_26 rfl rfl ?_
        refine g_if_eq (q := 30) (tg := 32) dX12_judge_27 (by decide) rfl (fun c_27 => ?_) (fun c_27 => ?_)
        · refine g_aload_n (q := 33) dX12_judge_32 rfl rfl ?_
          refine g_callV (q := 36) lX12_278 mX12_keeps nX12_keeps rfl (tw_keeps (d + 6) sh _ S M0.1.1 M0.1.2.2.1) (by first | assumption | exact S.at _ rfl) rfl rfl shLe.rf (rmOk.mk (by omega) (by first | exact shLe.rf | assumption)) (Nat.le_of_ble_eq_true rfl) dX12_judge_33 rfl rfl (kN fun c2 hp => ?_)
          obtain ⟨k2, e2⟩ := hp
          have M2 : MP c2 β s n pl := M0.eq (M0.1.1.eb e2 rfl) (e2 93 (by decide))
          have T2 : MT c2 sz bt vl := T0.eq (e2 111 (by decide)) (e2 112 (by decide)) (e2 113 (by decide))
          refine g_aload_n (q := 37) dX12_judge_36 rfl rfl ?_
          refine g_iload_n (q := 38) dX12_judge_37 rfl rfl ?_
          refine g_callV (q := 41) lX12_312 mX12_tells nX12_tells rfl (tw_tells d sh _ S M2.1 T2 hi (N := (sz t).toNat) (by omega)) (by first | assumption | exact S.at _ rfl) rfl rfl shLe.rf (rmOk.mk (by omega) (by first | exact shLe.rf | assumption)) (Nat.le_of_ble_eq_true rfl) dX12_judge_38 rfl rfl (kI fun r c3 hp => ?_)
          rw [hR] at hp
          obtain ⟨rfl, h19, M3, e3⟩ := hp
          have hrun := dRun_in (β := β) (tl := vl t) (n := (sz t).toNat) (sz t).toNat s (Nat.le_refl _)
          rw [hR] at hrun
          have hs3 := M3.2.2.2.1
          refine s_istore_7_4 (q := 43) dX12_judge_41 rfl rfl rfl ?_
          refine g_aload_n (q := 44) dX12_judge_43 rfl rfl ?_
          refine g_callV (q := 47) lX12_288 mX12_toneHeat nX12_toneHeat rfl (tw_toneHeat (d + 6) sh _ S M3) (by first | assumption | exact S.at _ rfl) rfl rfl shLe.rf (rmOk.mk (by omega) (by first | exact shLe.rf | assumption)) (Nat.le_of_ble_eq_true rfl) dX12_judge_44 rfl rfl (kI fun r_ c_ hp => ?_)
          obtain ⟨hr, hq⟩ := hp
          replace hr := hr.symm
          replace hq := hq.symm
          subst hr hq
          refine s_istore_7_5 (q := 49) dX12_judge_47 rfl rfl rfl ?_
          refine g_aload_n (q := 50) dX12_judge_49 rfl rfl ?_
          refine g_aload_n (q := 51) dX12_judge_50 rfl rfl ?_
          refine g_callV (q := 54) lX12_251 mX12_standNow nX12_standNow rfl (tw_standNow (d + 6) sh _ M3.md S) (by first | assumption | exact S.at _ rfl) rfl rfl shLe.rf (rmOk.mk (by omega) (by first | exact shLe.rf | assumption)) (Nat.le_of_ble_eq_true rfl) dX12_judge_51 rfl rfl (kI fun r_ c_ hp => ?_)
          obtain ⟨hr, hq⟩ := hp
          replace hr := hr.symm
          replace hq := hq.symm
          subst hr hq
          refine g_callV (q := 57) lX12_265 mX12_isClosed nX12_isClosed rfl (tw_isClosed (d + 4) sh _ S M3.md hs3.1 hs3.2) (by first | assumption | exact S.at _ rfl) rfl rfl shLe.rf (rmOk.mk (by omega) (by first | exact shLe.rf | assumption)) (Nat.le_of_ble_eq_true rfl) dX12_judge_54 rfl rfl (kI fun r4 c4 hp => ?_)
          obtain ⟨rfl, e4⟩ := hp
          have M4 : MA c4 β R.2.1 := M3.same (M3.1.eb e4 rfl) (frJ.of (e4 93 (by decide)))
          have tail : ∀ v : Int, v = b01 (β.cl R.2.1.1 = true) → G (mkK YX12_judge (d + 7) sh sh Po) 65 [some (.inr (.inr 92)), some (.inl t), some (.inl w), some (.inl 0), some (.inl R.1), some (.inl (R.2.1.1 / 7)), none] [.inl v] sh c4 := by
            intro v hv
            refine s_istore_7_6 (q := 67) dX12_judge_65 rfl rfl rfl ?_
            refine g_aload_n (q := 68) dX12_judge_67 rfl rfl ?_
            refine g_callV (q := 71) lX12_315 mX12_isAgain nX12_isAgain rfl (tw_isAgain (d + 6) sh _ S M4 (w := s) (by rw [e4 99 (by decide), e3.1 99 (by decide)]; exact k2) M.1.2.2.2) (by first | assumption | exact S.at _ rfl) rfl rfl shLe.rf (rmOk.mk (by omega) (by first | exact shLe.rf | assumption)) (Nat.le_of_ble_eq_true rfl) dX12_judge_68 rfl rfl (kN fun c5 hp => ?_)
            obtain ⟨M5, fr5, e5⟩ := hp
            have h19b : c5 92 19 = R.2.2 := by rw [e5 92 (by decide), e4 92 (by decide)]; exact h19
            have L5 := M5.1
            have hfr : frJ 28 38 (wr ct 92 0 0) c5 := (((frJ.of (e2 93 (by decide))).tr e3.2.2).tr (frJ.of (e4 93 (by decide)))).tr fr5
            have M5' : MP c5 β s n pl := ⟨M5, M0.2.fr hfr⟩
            have f5 : dF ct c5 := (((f0.tr (dF.of e2 rfl (frJ.of (e2 93 (by decide))))).tr e3.df).tr (dF.of e4 rfl (frJ.of (e4 93 (by decide))))).tr (dF.of e5 rfl (fr5.mono (by decide) (by decide)))
            have fin : ∀ r, r = (if w = 0 then (if R.2.2 = 0 then -1 else R.1) else if w = 1 then R.2.2 else if w = 2 then R.2.1.1 / 7 else b01 (β.cl R.2.1.1 = true)) → Po (some (.inl r)) c5 := by
              intro r hr
              rw [← hP]
              refine ⟨_, rfl, Or.inr (Or.inr ⟨⟨hi, h14⟩, hz, ?_⟩), M5', f5⟩
              rw [hR]
              exact hr
            refine g_iload_n (q := 72) dX12_judge_71 rfl rfl ?_
            refine g_if_ne (q := 75) (tg := 91) dX12_judge_72 (by decide) rfl (fun c_72 => ?_) (fun c_72 => ?_)
            · have hw0 : w ≠ 0 := fun z => c_72 (by rw [z]; rfl)
              refine g_iload_n (q := 92) dX12_judge_91 rfl rfl ?_
              refine g_iconst (q := 93) dX12_judge_92 rfl ?_
              refine g_icmp_ne (q := 96) (tg := 103) dX12_judge_93 (by decide) rfl (fun c_93 => ?_) (fun c_93 => ?_)
              · have hw1 : w ≠ 1 := fun z => c_93 (by rw [z])
                refine g_iload_n (q := 104) dX12_judge_103 rfl rfl ?_
                refine g_iconst (q := 105) dX12_judge_104 rfl ?_
                refine g_icmp_ne (q := 108) (tg := 113) dX12_judge_105 (by decide) rfl (fun c_105 => ?_) (fun c_105 => ?_)
                · have hw2 : w ≠ 2 := fun z => c_105 (by rw [z])
                  refine g_iload (q := 115) dX12_judge_113 rfl rfl ?_
                  refine g_ireturn dX12_judge_115 rfl ?_
                  exact fin _ (by rw [if_neg hw0, if_neg hw1, if_neg hw2]; exact hv)
                · have hw2 : w = 2 := by unfold w32 at c_105; omega
                  refine g_iload (q := 110) dX12_judge_108 rfl rfl ?_
                  refine g_goto (q := 115) dX12_judge_110 (by decide) ?_
                  refine g_ireturn dX12_judge_115 rfl ?_
                  exact fin _ (by rw [if_neg hw0, if_neg hw1, if_pos hw2])
              · have hw1 : w = 1 := by unfold w32 at c_93; omega
                refine g_aload_n (q := 97) dX12_judge_96 rfl rfl ?_
                refine g_getI (q := 100) (kI := 19) fX12_297 (by first | assumption | exact S.at _ rfl) dX12_judge_97 rfl rfl ?_
                refine g_goto (q := 115) dX12_judge_100 (by decide) ?_
                refine g_ireturn dX12_judge_115 rfl ?_
                exact fin _ (by rw [if_neg hw0, if_pos hw1]; exact h19b)
            · have hw0 : w = 0 := by unfold w32 at c_72; omega
              refine g_aload_n (q := 76) dX12_judge_75 rfl rfl ?_
              refine g_getI (q := 79) (kI := 19) fX12_297 (by first | assumption | exact S.at _ rfl) dX12_judge_76 rfl rfl ?_
              rw [h19b]
              refine g_if_ne (q := 82) (tg := 86) dX12_judge_79 (by decide) rfl (fun c_79 => ?_) (fun c_79 => ?_)
              · refine g_iload (q := 88) dX12_judge_86 rfl rfl ?_
                refine g_goto (q := 115) dX12_judge_88 (by decide) ?_
                refine g_ireturn dX12_judge_115 rfl ?_
                exact fin _ (by rw [if_pos hw0, if_neg (fun z => c_79 (by rw [z]; rfl))])
              · refine g_iconst (q := 83) dX12_judge_82 rfl ?_
                refine g_goto (q := 115) dX12_judge_83 (by decide) ?_
                refine g_ireturn dX12_judge_115 rfl ?_
                exact fin _ (by rw [if_pos hw0, if_pos (by unfold w32 at c_79; omega)])
          refine g_if_eq (q := 60) (tg := 64) dX12_judge_57 (by decide) rfl (fun c_57 => ?_) (fun c_57 => ?_)
          · refine g_iconst (q := 65) dX12_judge_64 rfl ?_
            exact tail 0 (b01_f (wb0.mp c_57))
          · refine g_iconst (q := 61) dX12_judge_60 rfl ?_
            refine g_goto (q := 65) dX12_judge_61 (by decide) ?_
            exact tail 1 (b01_t (wbn.mp c_57))
        · exact absurd rfl c_27
    · rw [if_neg hi]
      refine s_istore_n_7_3 (q := 26) dX12_judge_25 rfl rfl rfl ?_
      refine g_iload_n (q := 27) dX12_judge_26 rfl rfl ?_
      refine g_if_eq (q := 30) (tg := 32) dX12_judge_27 (by decide) rfl (fun c_27 => ?_) (fun c_27 => ?_)
      · exact absurd c_27 (by decide)
      · refine g_iload_n (q := 31) dX12_judge_30 rfl rfl ?_
        refine g_ireturn dX12_judge_31 rfl ?_
        rw [← hP]
        exact ⟨_, rfl, Or.inl ⟨fun z => hi z.1, rfl⟩, M0, f0⟩
  · refine g_bipush (q := 19) dX12_judge_17 (by decide +kernel) rfl ?_
    refine g_ireturn dX12_judge_19 rfl ?_
    rw [← hP]
    refine ⟨_, rfl, Or.inl ⟨fun z => ?_, rfl⟩, M0, f0⟩
    have := wb0.mp c_14
    have := z.2
    unfold w64 at *
    omega
end
