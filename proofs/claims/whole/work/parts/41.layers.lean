/-! Layers: what is told; rows counted -/
def tIdx (t : Int) : Nat := (8 * (t / 10) + t % 10).toNat
def toldOk (β : Bk) (t : Int) : Prop := t = -1 ∨ (0 ≤ t ∧ t / 10 < β.n 2 ∧ t % 10 < β.n 3)
def alwN (strict : Int) (β : Bk) (mk : Int → Int) (st t : Int) : Nat := if strict = 1 ∧ t ≠ -1 then msN β mk st &&& 2 ^ tIdx t else msN β mk st
theorem and_pow {z k : Nat} (h : k < 48) : andL (z : Int) (2 ^ k) = ((z &&& 2 ^ k : Nat) : Int) := by
  have hp : (2 : Nat) ^ k < 2 ^ 48 := Nat.pow_lt_pow_right (by decide) h
  unfold andL
  have e2 : ((2 : Int) ^ k % 18446744073709551616).toNat = 2 ^ k := by
    have : (2 : Int) ^ k = ((2 ^ k : Nat) : Int) := by rw [Int.natCast_pow]; rfl
    rw [this]
    generalize (2 : Nat) ^ k = p at hp
    omega
  rw [e2]
  congr 1
  have e3 : ((z : Int) % 18446744073709551616).toNat = z % 2 ^ 64 := by omega
  rw [e3]
  apply Nat.eq_of_testBit_eq
  intro i
  rw [Nat.testBit_and, Nat.testBit_and, Nat.testBit_mod_two_pow, Nat.testBit_two_pow]
  by_cases e : k = i
  · subst e
    rw [decide_eq_true (show k < 64 by omega), Bool.true_and]
  · rw [decide_eq_false e, Bool.and_false, Bool.and_false]
theorem and_pow_0 {z k : Nat} : (z &&& 2 ^ k = 0) ↔ z.testBit k = false := by
  constructor
  · intro h
    have := congrArg (fun x => Nat.testBit x k) h
    simp only [Nat.testBit_and, Nat.testBit_two_pow_self, Bool.and_true, Nat.zero_testBit] at this
    exact this
  · intro h
    apply Nat.eq_of_testBit_eq
    intro i
    rw [Nat.testBit_and, Nat.testBit_two_pow, Nat.zero_testBit]
    by_cases e : k = i
    · subst e
      rw [h, Bool.false_and]
    · rw [decide_eq_false e, Bool.and_false]
theorem alwN_lt (s : Int) (β : Bk) (mk : Int → Int) (st t : Int) : alwN s β mk st t < 281474976710656 := by
  have h1 := msN_lt β mk st
  unfold alwN
  split
  · have : msN β mk st &&& 2 ^ tIdx t ≤ msN β mk st := Nat.and_le_left
    omega
  · exact h1
theorem alwN_in {s : Int} {β : Bk} {mk : Int → Int} {st t : Int} {k : Nat} (h : (alwN s β mk st t).testBit k = true) : k < 48 ∧ canB β mk st k = true := by
  have : (msN β mk st).testBit k = true := by
    unfold alwN at h
    split at h
    · rw [Nat.testBit_and] at h
      exact (Bool.and_eq_true_iff.mp h).1
    · exact h
  rw [msN_bit] at this
  simpa using this
theorem canB_3 {β : Bk} {mk : Int → Int} {st : Int} {k : Nat} (h : canB β mk st k = true) : ((k / 8 : Nat) : Int) < β.n 2 ∧ ((k % 8 : Nat) : Int) < β.n 3 := by
  unfold canB at h
  simp only [Bool.and_eq_true, decide_eq_true_eq] at h
  exact h.1
theorem dX3_tellSize_0 : decode cX3_tellSize 0 = .ok (.aload_n 0, 1) := by decide +kernel
theorem dX3_tellSize_1 : decode cX3_tellSize 1 = .ok (.getfield 40, 3) := by decide +kernel
theorem dX3_tellSize_4 : decode cX3_tellSize 4 = .ok (.iload_n 1, 1) := by decide +kernel
theorem dX3_tellSize_5 : decode cX3_tellSize 5 = .ok (.if_icmp .eq 23, 3) := by decide +kernel
theorem dX3_tellSize_8 : decode cX3_tellSize 8 = .ok (.iload_n 1, 1) := by decide +kernel
theorem dX3_tellSize_9 : decode cX3_tellSize 9 = .ok (.ifCond .lt 19, 3) := by decide +kernel
theorem dX3_tellSize_12 : decode cX3_tellSize 12 = .ok (.iload_n 1, 1) := by decide +kernel
theorem dX3_tellSize_13 : decode cX3_tellSize 13 = .ok (.bipush 12, 2) := by decide +kernel
theorem dX3_tellSize_15 : decode cX3_tellSize 15 = .ok (.if_icmp .gt 13, 3) := by decide +kernel
theorem dX3_tellSize_18 : decode cX3_tellSize 18 = .ok (.aload_n 0, 1) := by decide +kernel
theorem dX3_tellSize_19 : decode cX3_tellSize 19 = .ok (.iload_n 1, 1) := by decide +kernel
theorem dX3_tellSize_20 : decode cX3_tellSize 20 = .ok (.putfield 40, 3) := by decide +kernel
theorem dX3_tellSize_23 : decode cX3_tellSize 23 = .ok (.aload_n 0, 1) := by decide +kernel
theorem dX3_tellSize_24 : decode cX3_tellSize 24 = .ok (.iconst (-1), 1) := by decide +kernel
theorem dX3_tellSize_25 : decode cX3_tellSize 25 = .ok (.putfield 32, 3) := by decide +kernel
theorem dX3_tellSize_28 : decode cX3_tellSize 28 = .ok (.return_, 1) := by decide +kernel
theorem dX3_tell_0 : decode cX3_tell 0 = .ok (.iload_n 1, 1) := by decide +kernel
theorem dX3_tell_1 : decode cX3_tell 1 = .ok (.ifCond .lt 33, 3) := by decide +kernel
theorem dX3_tell_4 : decode cX3_tell 4 = .ok (.iload_n 1, 1) := by decide +kernel
theorem dX3_tell_5 : decode cX3_tell 5 = .ok (.aload_n 0, 1) := by decide +kernel
theorem dX3_tell_6 : decode cX3_tell 6 = .ok (.getfield 40, 3) := by decide +kernel
theorem dX3_tell_9 : decode cX3_tell 9 = .ok (.if_icmp .ge 25, 3) := by decide +kernel
theorem dX3_tell_12 : decode cX3_tell 12 = .ok (.aload_n 0, 1) := by decide +kernel
theorem dX3_tell_13 : decode cX3_tell 13 = .ok (.getfield 9, 3) := by decide +kernel
theorem dX3_tell_16 : decode cX3_tell 16 = .ok (.iload_n 1, 1) := by decide +kernel
theorem dX3_tell_17 : decode cX3_tell 17 = .ok (.iaload, 1) := by decide +kernel
theorem dX3_tell_18 : decode cX3_tell 18 = .ok (.iload_n 2, 1) := by decide +kernel
theorem dX3_tell_19 : decode cX3_tell 19 = .ok (.if_icmp .eq 15, 3) := by decide +kernel
theorem dX3_tell_22 : decode cX3_tell 22 = .ok (.aload_n 0, 1) := by decide +kernel
theorem dX3_tell_23 : decode cX3_tell 23 = .ok (.getfield 9, 3) := by decide +kernel
theorem dX3_tell_26 : decode cX3_tell 26 = .ok (.iload_n 1, 1) := by decide +kernel
theorem dX3_tell_27 : decode cX3_tell 27 = .ok (.iload_n 2, 1) := by decide +kernel
theorem dX3_tell_28 : decode cX3_tell 28 = .ok (.iastore, 1) := by decide +kernel
theorem dX3_tell_29 : decode cX3_tell 29 = .ok (.aload_n 0, 1) := by decide +kernel
theorem dX3_tell_30 : decode cX3_tell 30 = .ok (.iconst (-1), 1) := by decide +kernel
theorem dX3_tell_31 : decode cX3_tell 31 = .ok (.putfield 32, 3) := by decide +kernel
theorem dX3_tell_34 : decode cX3_tell 34 = .ok (.return_, 1) := by decide +kernel
theorem dX3_firstBaulk_0 : decode cX3_firstBaulk 0 = .ok (.iload_n 1, 1) := by decide +kernel
theorem dX3_firstBaulk_1 : decode cX3_firstBaulk 1 = .ok (.istore_n 2, 1) := by decide +kernel
theorem dX3_firstBaulk_2 : decode cX3_firstBaulk 2 = .ok (.iconst 0, 1) := by decide +kernel
theorem dX3_firstBaulk_3 : decode cX3_firstBaulk 3 = .ok (.istore_n 3, 1) := by decide +kernel
theorem dX3_firstBaulk_4 : decode cX3_firstBaulk 4 = .ok (.iload_n 3, 1) := by decide +kernel
theorem dX3_firstBaulk_5 : decode cX3_firstBaulk 5 = .ok (.aload_n 0, 1) := by decide +kernel
theorem dX3_firstBaulk_6 : decode cX3_firstBaulk 6 = .ok (.getfield 40, 3) := by decide +kernel
theorem dX3_firstBaulk_9 : decode cX3_firstBaulk 9 = .ok (.if_icmp .ge 27, 3) := by decide +kernel
theorem dX3_firstBaulk_12 : decode cX3_firstBaulk 12 = .ok (.aload_n 0, 1) := by decide +kernel
theorem dX3_firstBaulk_13 : decode cX3_firstBaulk 13 = .ok (.iload_n 2, 1) := by decide +kernel
theorem dX3_firstBaulk_14 : decode cX3_firstBaulk 14 = .ok (.iload_n 3, 1) := by decide +kernel
theorem dX3_firstBaulk_15 : decode cX3_firstBaulk 15 = .ok (.invokevirtual 43, 3) := by decide +kernel
theorem dX3_firstBaulk_18 : decode cX3_firstBaulk 18 = .ok (.ifCond .ne 5, 3) := by decide +kernel
theorem dX3_firstBaulk_21 : decode cX3_firstBaulk 21 = .ok (.iload_n 3, 1) := by decide +kernel
theorem dX3_firstBaulk_22 : decode cX3_firstBaulk 22 = .ok (.ireturn, 1) := by decide +kernel
theorem dX3_firstBaulk_23 : decode cX3_firstBaulk 23 = .ok (.aload_n 0, 1) := by decide +kernel
theorem dX3_firstBaulk_24 : decode cX3_firstBaulk 24 = .ok (.iload_n 2, 1) := by decide +kernel
theorem dX3_firstBaulk_25 : decode cX3_firstBaulk 25 = .ok (.iload_n 3, 1) := by decide +kernel
theorem dX3_firstBaulk_26 : decode cX3_firstBaulk 26 = .ok (.invokevirtual 47, 3) := by decide +kernel
theorem dX3_firstBaulk_29 : decode cX3_firstBaulk 29 = .ok (.istore_n 2, 1) := by decide +kernel
theorem dX3_firstBaulk_30 : decode cX3_firstBaulk 30 = .ok (.iinc 3 1, 3) := by decide +kernel
theorem dX3_firstBaulk_33 : decode cX3_firstBaulk 33 = .ok (.goto (-29), 3) := by decide +kernel
theorem dX3_firstBaulk_36 : decode cX3_firstBaulk 36 = .ok (.iconst (-1), 1) := by decide +kernel
theorem dX3_firstBaulk_37 : decode cX3_firstBaulk 37 = .ok (.ireturn, 1) := by decide +kernel
theorem dX3_canStay_0 : decode cX3_canStay 0 = .ok (.aload_n 0, 1) := by decide +kernel
theorem dX3_canStay_1 : decode cX3_canStay 1 = .ok (.getfield 36, 3) := by decide +kernel
theorem dX3_canStay_4 : decode cX3_canStay 4 = .ok (.iload_n 1, 1) := by decide +kernel
theorem dX3_canStay_5 : decode cX3_canStay 5 = .ok (.invokevirtual 51, 3) := by decide +kernel
theorem dX3_canStay_8 : decode cX3_canStay 8 = .ok (.aload_n 0, 1) := by decide +kernel
theorem dX3_canStay_9 : decode cX3_canStay 9 = .ok (.iload_n 2, 1) := by decide +kernel
theorem dX3_canStay_10 : decode cX3_canStay 10 = .ok (.invokevirtual 57, 3) := by decide +kernel
theorem dX3_canStay_13 : decode cX3_canStay 13 = .ok (.land, 1) := by decide +kernel
theorem dX3_canStay_14 : decode cX3_canStay 14 = .ok (.lconst 0, 1) := by decide +kernel
theorem dX3_canStay_15 : decode cX3_canStay 15 = .ok (.lcmp, 1) := by decide +kernel
theorem dX3_canStay_16 : decode cX3_canStay 16 = .ok (.ifCond .eq 7, 3) := by decide +kernel
theorem dX3_canStay_19 : decode cX3_canStay 19 = .ok (.iconst 1, 1) := by decide +kernel
theorem dX3_canStay_20 : decode cX3_canStay 20 = .ok (.goto 4, 3) := by decide +kernel
theorem dX3_canStay_23 : decode cX3_canStay 23 = .ok (.iconst 0, 1) := by decide +kernel
theorem dX3_canStay_24 : decode cX3_canStay 24 = .ok (.ireturn, 1) := by decide +kernel
theorem dX3_behindTold_0 : decode cX3_behindTold 0 = .ok (.aload_n 0, 1) := by decide +kernel
theorem dX3_behindTold_1 : decode cX3_behindTold 1 = .ok (.getfield 9, 3) := by decide +kernel
theorem dX3_behindTold_4 : decode cX3_behindTold 4 = .ok (.iload_n 2, 1) := by decide +kernel
theorem dX3_behindTold_5 : decode cX3_behindTold 5 = .ok (.iaload, 1) := by decide +kernel
theorem dX3_behindTold_6 : decode cX3_behindTold 6 = .ok (.iconst (-1), 1) := by decide +kernel
theorem dX3_behindTold_7 : decode cX3_behindTold 7 = .ok (.if_icmp .ne 7, 3) := by decide +kernel
theorem dX3_behindTold_10 : decode cX3_behindTold 10 = .ok (.iload_n 1, 1) := by decide +kernel
theorem dX3_behindTold_11 : decode cX3_behindTold 11 = .ok (.goto 29, 3) := by decide +kernel
theorem dX3_behindTold_14 : decode cX3_behindTold 14 = .ok (.aload_n 0, 1) := by decide +kernel
theorem dX3_behindTold_15 : decode cX3_behindTold 15 = .ok (.getfield 36, 3) := by decide +kernel
theorem dX3_behindTold_18 : decode cX3_behindTold 18 = .ok (.iload_n 1, 1) := by decide +kernel
theorem dX3_behindTold_19 : decode cX3_behindTold 19 = .ok (.aload_n 0, 1) := by decide +kernel
theorem dX3_behindTold_20 : decode cX3_behindTold 20 = .ok (.getfield 9, 3) := by decide +kernel
theorem dX3_behindTold_23 : decode cX3_behindTold 23 = .ok (.iload_n 2, 1) := by decide +kernel
theorem dX3_behindTold_24 : decode cX3_behindTold 24 = .ok (.iaload, 1) := by decide +kernel
theorem dX3_behindTold_25 : decode cX3_behindTold 25 = .ok (.bipush 10, 2) := by decide +kernel
theorem dX3_behindTold_27 : decode cX3_behindTold 27 = .ok (.idiv, 1) := by decide +kernel
theorem dX3_behindTold_28 : decode cX3_behindTold 28 = .ok (.aload_n 0, 1) := by decide +kernel
theorem dX3_behindTold_29 : decode cX3_behindTold 29 = .ok (.getfield 9, 3) := by decide +kernel
theorem dX3_behindTold_32 : decode cX3_behindTold 32 = .ok (.iload_n 2, 1) := by decide +kernel
theorem dX3_behindTold_33 : decode cX3_behindTold 33 = .ok (.iaload, 1) := by decide +kernel
theorem dX3_behindTold_34 : decode cX3_behindTold 34 = .ok (.bipush 10, 2) := by decide +kernel
theorem dX3_behindTold_36 : decode cX3_behindTold 36 = .ok (.irem, 1) := by decide +kernel
theorem dX3_behindTold_37 : decode cX3_behindTold 37 = .ok (.invokevirtual 60, 3) := by decide +kernel
theorem dX3_behindTold_40 : decode cX3_behindTold 40 = .ok (.ireturn, 1) := by decide +kernel
theorem dX3_toldBit_0 : decode cX3_toldBit 0 = .ok (.aload_n 0, 1) := by decide +kernel
theorem dX3_toldBit_1 : decode cX3_toldBit 1 = .ok (.getfield 9, 3) := by decide +kernel
theorem dX3_toldBit_4 : decode cX3_toldBit 4 = .ok (.iload_n 1, 1) := by decide +kernel
theorem dX3_toldBit_5 : decode cX3_toldBit 5 = .ok (.iaload, 1) := by decide +kernel
theorem dX3_toldBit_6 : decode cX3_toldBit 6 = .ok (.iconst (-1), 1) := by decide +kernel
theorem dX3_toldBit_7 : decode cX3_toldBit 7 = .ok (.if_icmp .ne 7, 3) := by decide +kernel
theorem dX3_toldBit_10 : decode cX3_toldBit 10 = .ok (.lconst 0, 1) := by decide +kernel
theorem dX3_toldBit_11 : decode cX3_toldBit 11 = .ok (.goto 24, 3) := by decide +kernel
theorem dX3_toldBit_14 : decode cX3_toldBit 14 = .ok (.aload_n 0, 1) := by decide +kernel
theorem dX3_toldBit_15 : decode cX3_toldBit 15 = .ok (.getfield 9, 3) := by decide +kernel
theorem dX3_toldBit_18 : decode cX3_toldBit 18 = .ok (.iload_n 1, 1) := by decide +kernel
theorem dX3_toldBit_19 : decode cX3_toldBit 19 = .ok (.iaload, 1) := by decide +kernel
theorem dX3_toldBit_20 : decode cX3_toldBit 20 = .ok (.bipush 10, 2) := by decide +kernel
theorem dX3_toldBit_22 : decode cX3_toldBit 22 = .ok (.idiv, 1) := by decide +kernel
theorem dX3_toldBit_23 : decode cX3_toldBit 23 = .ok (.aload_n 0, 1) := by decide +kernel
theorem dX3_toldBit_24 : decode cX3_toldBit 24 = .ok (.getfield 9, 3) := by decide +kernel
theorem dX3_toldBit_27 : decode cX3_toldBit 27 = .ok (.iload_n 1, 1) := by decide +kernel
theorem dX3_toldBit_28 : decode cX3_toldBit 28 = .ok (.iaload, 1) := by decide +kernel
theorem dX3_toldBit_29 : decode cX3_toldBit 29 = .ok (.bipush 10, 2) := by decide +kernel
theorem dX3_toldBit_31 : decode cX3_toldBit 31 = .ok (.irem, 1) := by decide +kernel
theorem dX3_toldBit_32 : decode cX3_toldBit 32 = .ok (.invokestatic 64, 3) := by decide +kernel
theorem dX3_toldBit_35 : decode cX3_toldBit 35 = .ok (.lreturn, 1) := by decide +kernel
theorem dX3_branchFor_0 : decode cX3_branchFor 0 = .ok (.aload_n 0, 1) := by decide +kernel
theorem dX3_branchFor_1 : decode cX3_branchFor 1 = .ok (.getfield 36, 3) := by decide +kernel
theorem dX3_branchFor_4 : decode cX3_branchFor 4 = .ok (.iload_n 2, 1) := by decide +kernel
theorem dX3_branchFor_5 : decode cX3_branchFor 5 = .ok (.invokevirtual 51, 3) := by decide +kernel
theorem dX3_branchFor_8 : decode cX3_branchFor 8 = .ok (.lstore_n 3, 1) := by decide +kernel
theorem dX3_branchFor_9 : decode cX3_branchFor 9 = .ok (.aload_n 0, 1) := by decide +kernel
theorem dX3_branchFor_10 : decode cX3_branchFor 10 = .ok (.getfield 36, 3) := by decide +kernel
theorem dX3_branchFor_13 : decode cX3_branchFor 13 = .ok (.iload_n 2, 1) := by decide +kernel
theorem dX3_branchFor_14 : decode cX3_branchFor 14 = .ok (.aload_n 0, 1) := by decide +kernel
theorem dX3_branchFor_15 : decode cX3_branchFor 15 = .ok (.getfield 68, 3) := by decide +kernel
theorem dX3_branchFor_18 : decode cX3_branchFor 18 = .ok (.ifCond .eq 23, 3) := by decide +kernel
theorem dX3_branchFor_21 : decode cX3_branchFor 21 = .ok (.aload_n 0, 1) := by decide +kernel
theorem dX3_branchFor_22 : decode cX3_branchFor 22 = .ok (.getfield 9, 3) := by decide +kernel
theorem dX3_branchFor_25 : decode cX3_branchFor 25 = .ok (.iload_n 1, 1) := by decide +kernel
theorem dX3_branchFor_26 : decode cX3_branchFor 26 = .ok (.iaload, 1) := by decide +kernel
theorem dX3_branchFor_27 : decode cX3_branchFor 27 = .ok (.iconst (-1), 1) := by decide +kernel
theorem dX3_branchFor_28 : decode cX3_branchFor 28 = .ok (.if_icmp .eq 13, 3) := by decide +kernel
theorem dX3_branchFor_31 : decode cX3_branchFor 31 = .ok (.lload_n 3, 1) := by decide +kernel
theorem dX3_branchFor_32 : decode cX3_branchFor 32 = .ok (.aload_n 0, 1) := by decide +kernel
theorem dX3_branchFor_33 : decode cX3_branchFor 33 = .ok (.iload_n 1, 1) := by decide +kernel
theorem dX3_branchFor_34 : decode cX3_branchFor 34 = .ok (.invokevirtual 57, 3) := by decide +kernel
theorem dX3_branchFor_37 : decode cX3_branchFor 37 = .ok (.land, 1) := by decide +kernel
theorem dX3_branchFor_38 : decode cX3_branchFor 38 = .ok (.goto 4, 3) := by decide +kernel
theorem dX3_branchFor_41 : decode cX3_branchFor 41 = .ok (.lload_n 3, 1) := by decide +kernel
theorem dX3_branchFor_42 : decode cX3_branchFor 42 = .ok (.invokevirtual 72, 3) := by decide +kernel
theorem dX3_branchFor_45 : decode cX3_branchFor 45 = .ok (.ireturn, 1) := by decide +kernel
theorem dX3_countRows_0 : decode cX3_countRows 0 = .ok (.aload_n 0, 1) := by decide +kernel
theorem dX3_countRows_1 : decode cX3_countRows 1 = .ok (.iconst (-1), 1) := by decide +kernel
theorem dX3_countRows_2 : decode cX3_countRows 2 = .ok (.putfield 32, 3) := by decide +kernel
theorem dX3_countRows_5 : decode cX3_countRows 5 = .ok (.aload_n 0, 1) := by decide +kernel
theorem dX3_countRows_6 : decode cX3_countRows 6 = .ok (.iconst 1, 1) := by decide +kernel
theorem dX3_countRows_7 : decode cX3_countRows 7 = .ok (.putfield 68, 3) := by decide +kernel
theorem dX3_countRows_10 : decode cX3_countRows 10 = .ok (.aload_n 0, 1) := by decide +kernel
theorem dX3_countRows_11 : decode cX3_countRows 11 = .ok (.getfield 25, 3) := by decide +kernel
theorem dX3_countRows_14 : decode cX3_countRows 14 = .ok (.iload_n 1, 1) := by decide +kernel
theorem dX3_countRows_15 : decode cX3_countRows 15 = .ok (.lconst 1, 1) := by decide +kernel
theorem dX3_countRows_16 : decode cX3_countRows 16 = .ok (.lastore, 1) := by decide +kernel
theorem dX3_countRows_17 : decode cX3_countRows 17 = .ok (.aload_n 0, 1) := by decide +kernel
theorem dX3_countRows_18 : decode cX3_countRows 18 = .ok (.getfield 19, 3) := by decide +kernel
theorem dX3_countRows_21 : decode cX3_countRows 21 = .ok (.iconst 0, 1) := by decide +kernel
theorem dX3_countRows_22 : decode cX3_countRows 22 = .ok (.iload_n 1, 1) := by decide +kernel
theorem dX3_countRows_23 : decode cX3_countRows 23 = .ok (.iastore, 1) := by decide +kernel
theorem dX3_countRows_24 : decode cX3_countRows 24 = .ok (.aload_n 0, 1) := by decide +kernel
theorem dX3_countRows_25 : decode cX3_countRows 25 = .ok (.getfield 22, 3) := by decide +kernel
theorem dX3_countRows_28 : decode cX3_countRows 28 = .ok (.iconst 0, 1) := by decide +kernel
theorem dX3_countRows_29 : decode cX3_countRows 29 = .ok (.iconst 0, 1) := by decide +kernel
theorem dX3_countRows_30 : decode cX3_countRows 30 = .ok (.iastore, 1) := by decide +kernel
theorem dX3_countRows_31 : decode cX3_countRows 31 = .ok (.aload_n 0, 1) := by decide +kernel
theorem dX3_countRows_32 : decode cX3_countRows 32 = .ok (.getfield 22, 3) := by decide +kernel
theorem dX3_countRows_35 : decode cX3_countRows 35 = .ok (.iconst 1, 1) := by decide +kernel
theorem dX3_countRows_36 : decode cX3_countRows 36 = .ok (.iconst 1, 1) := by decide +kernel
theorem dX3_countRows_37 : decode cX3_countRows 37 = .ok (.iastore, 1) := by decide +kernel
theorem dX3_countRows_38 : decode cX3_countRows 38 = .ok (.iconst 0, 1) := by decide +kernel
theorem dX3_countRows_39 : decode cX3_countRows 39 = .ok (.istore_n 3, 1) := by decide +kernel
theorem dX3_countRows_40 : decode cX3_countRows 40 = .ok (.iload_n 3, 1) := by decide +kernel
theorem dX3_countRows_41 : decode cX3_countRows 41 = .ok (.aload_n 0, 1) := by decide +kernel
theorem dX3_countRows_42 : decode cX3_countRows 42 = .ok (.getfield 40, 3) := by decide +kernel
theorem dX3_countRows_45 : decode cX3_countRows 45 = .ok (.if_icmp .ge 34, 3) := by decide +kernel
theorem dX3_countRows_48 : decode cX3_countRows 48 = .ok (.aload_n 0, 1) := by decide +kernel
theorem dX3_countRows_49 : decode cX3_countRows 49 = .ok (.iload_n 3, 1) := by decide +kernel
theorem dX3_countRows_50 : decode cX3_countRows 50 = .ok (.invokevirtual 76, 3) := by decide +kernel
theorem dX3_countRows_53 : decode cX3_countRows 53 = .ok (.aload_n 0, 1) := by decide +kernel
theorem dX3_countRows_54 : decode cX3_countRows 54 = .ok (.getfield 25, 3) := by decide +kernel
theorem dX3_countRows_57 : decode cX3_countRows 57 = .ok (.astore 4, 2) := by decide +kernel
theorem dX3_countRows_59 : decode cX3_countRows 59 = .ok (.aload_n 0, 1) := by decide +kernel
theorem dX3_countRows_60 : decode cX3_countRows 60 = .ok (.aload_n 0, 1) := by decide +kernel
theorem dX3_countRows_61 : decode cX3_countRows 61 = .ok (.getfield 29, 3) := by decide +kernel
theorem dX3_countRows_64 : decode cX3_countRows 64 = .ok (.putfield 25, 3) := by decide +kernel
theorem dX3_countRows_67 : decode cX3_countRows 67 = .ok (.aload_n 0, 1) := by decide +kernel
theorem dX3_countRows_68 : decode cX3_countRows 68 = .ok (.aload 4, 2) := by decide +kernel
theorem dX3_countRows_70 : decode cX3_countRows 70 = .ok (.putfield 29, 3) := by decide +kernel
theorem dX3_countRows_73 : decode cX3_countRows 73 = .ok (.iinc 3 1, 3) := by decide +kernel
theorem dX3_countRows_76 : decode cX3_countRows 76 = .ok (.goto (-36), 3) := by decide +kernel
theorem dX3_countRows_79 : decode cX3_countRows 79 = .ok (.lconst 0, 1) := by decide +kernel
theorem dX3_countRows_80 : decode cX3_countRows 80 = .ok (.lstore_n 3, 1) := by decide +kernel
theorem dX3_countRows_81 : decode cX3_countRows 81 = .ok (.aload_n 0, 1) := by decide +kernel
theorem dX3_countRows_82 : decode cX3_countRows 82 = .ok (.getfield 22, 3) := by decide +kernel
theorem dX3_countRows_85 : decode cX3_countRows 85 = .ok (.aload_n 0, 1) := by decide +kernel
theorem dX3_countRows_86 : decode cX3_countRows 86 = .ok (.getfield 40, 3) := by decide +kernel
theorem dX3_countRows_89 : decode cX3_countRows 89 = .ok (.iaload, 1) := by decide +kernel
theorem dX3_countRows_90 : decode cX3_countRows 90 = .ok (.istore 5, 2) := by decide +kernel
theorem dX3_countRows_92 : decode cX3_countRows 92 = .ok (.iload 5, 2) := by decide +kernel
theorem dX3_countRows_94 : decode cX3_countRows 94 = .ok (.aload_n 0, 1) := by decide +kernel
theorem dX3_countRows_95 : decode cX3_countRows 95 = .ok (.getfield 22, 3) := by decide +kernel
theorem dX3_countRows_98 : decode cX3_countRows 98 = .ok (.aload_n 0, 1) := by decide +kernel
theorem dX3_countRows_99 : decode cX3_countRows 99 = .ok (.getfield 40, 3) := by decide +kernel
theorem dX3_countRows_102 : decode cX3_countRows 102 = .ok (.iconst 1, 1) := by decide +kernel
theorem dX3_countRows_103 : decode cX3_countRows 103 = .ok (.iadd, 1) := by decide +kernel
theorem dX3_countRows_104 : decode cX3_countRows 104 = .ok (.iaload, 1) := by decide +kernel
theorem dX3_countRows_105 : decode cX3_countRows 105 = .ok (.if_icmp .ge 55, 3) := by decide +kernel
theorem dX3_countRows_108 : decode cX3_countRows 108 = .ok (.aload_n 0, 1) := by decide +kernel
theorem dX3_countRows_109 : decode cX3_countRows 109 = .ok (.getfield 36, 3) := by decide +kernel
theorem dX3_countRows_112 : decode cX3_countRows 112 = .ok (.aload_n 0, 1) := by decide +kernel
theorem dX3_countRows_113 : decode cX3_countRows 113 = .ok (.getfield 19, 3) := by decide +kernel
theorem dX3_countRows_116 : decode cX3_countRows 116 = .ok (.iload 5, 2) := by decide +kernel
theorem dX3_countRows_118 : decode cX3_countRows 118 = .ok (.iaload, 1) := by decide +kernel
theorem dX3_countRows_119 : decode cX3_countRows 119 = .ok (.iload_n 2, 1) := by decide +kernel
theorem dX3_countRows_120 : decode cX3_countRows 120 = .ok (.invokevirtual 80, 3) := by decide +kernel
theorem dX3_countRows_123 : decode cX3_countRows 123 = .ok (.ifCond .eq 18, 3) := by decide +kernel
theorem dX3_countRows_126 : decode cX3_countRows 126 = .ok (.lload_n 3, 1) := by decide +kernel
theorem dX3_countRows_127 : decode cX3_countRows 127 = .ok (.aload_n 0, 1) := by decide +kernel
theorem dX3_countRows_128 : decode cX3_countRows 128 = .ok (.getfield 25, 3) := by decide +kernel
theorem dX3_countRows_131 : decode cX3_countRows 131 = .ok (.aload_n 0, 1) := by decide +kernel
theorem dX3_countRows_132 : decode cX3_countRows 132 = .ok (.getfield 19, 3) := by decide +kernel
theorem dX3_countRows_135 : decode cX3_countRows 135 = .ok (.iload 5, 2) := by decide +kernel
theorem dX3_countRows_137 : decode cX3_countRows 137 = .ok (.iaload, 1) := by decide +kernel
theorem dX3_countRows_138 : decode cX3_countRows 138 = .ok (.laload, 1) := by decide +kernel
theorem dX3_countRows_139 : decode cX3_countRows 139 = .ok (.ladd, 1) := by decide +kernel
theorem dX3_countRows_140 : decode cX3_countRows 140 = .ok (.lstore_n 3, 1) := by decide +kernel
theorem dX3_countRows_141 : decode cX3_countRows 141 = .ok (.aload_n 0, 1) := by decide +kernel
theorem dX3_countRows_142 : decode cX3_countRows 142 = .ok (.getfield 25, 3) := by decide +kernel
theorem dX3_countRows_145 : decode cX3_countRows 145 = .ok (.aload_n 0, 1) := by decide +kernel
theorem dX3_countRows_146 : decode cX3_countRows 146 = .ok (.getfield 19, 3) := by decide +kernel
theorem dX3_countRows_149 : decode cX3_countRows 149 = .ok (.iload 5, 2) := by decide +kernel
theorem dX3_countRows_151 : decode cX3_countRows 151 = .ok (.iaload, 1) := by decide +kernel
theorem dX3_countRows_152 : decode cX3_countRows 152 = .ok (.lconst 0, 1) := by decide +kernel
theorem dX3_countRows_153 : decode cX3_countRows 153 = .ok (.lastore, 1) := by decide +kernel
theorem dX3_countRows_154 : decode cX3_countRows 154 = .ok (.iinc 5 1, 3) := by decide +kernel
theorem dX3_countRows_157 : decode cX3_countRows 157 = .ok (.goto (-65), 3) := by decide +kernel
theorem dX3_countRows_160 : decode cX3_countRows 160 = .ok (.lload_n 3, 1) := by decide +kernel
theorem dX3_countRows_161 : decode cX3_countRows 161 = .ok (.lreturn, 1) := by decide +kernel
theorem dX3_countLayer_0 : decode cX3_countLayer 0 = .ok (.aload_n 0, 1) := by decide +kernel
theorem dX3_countLayer_1 : decode cX3_countLayer 1 = .ok (.getfield 22, 3) := by decide +kernel
theorem dX3_countLayer_4 : decode cX3_countLayer 4 = .ok (.iload_n 1, 1) := by decide +kernel
theorem dX3_countLayer_5 : decode cX3_countLayer 5 = .ok (.iconst 1, 1) := by decide +kernel
theorem dX3_countLayer_6 : decode cX3_countLayer 6 = .ok (.iadd, 1) := by decide +kernel
theorem dX3_countLayer_7 : decode cX3_countLayer 7 = .ok (.iaload, 1) := by decide +kernel
theorem dX3_countLayer_8 : decode cX3_countLayer 8 = .ok (.istore_n 2, 1) := by decide +kernel
theorem dX3_countLayer_9 : decode cX3_countLayer 9 = .ok (.aload_n 0, 1) := by decide +kernel
theorem dX3_countLayer_10 : decode cX3_countLayer 10 = .ok (.getfield 22, 3) := by decide +kernel
theorem dX3_countLayer_13 : decode cX3_countLayer 13 = .ok (.iload_n 1, 1) := by decide +kernel
theorem dX3_countLayer_14 : decode cX3_countLayer 14 = .ok (.iaload, 1) := by decide +kernel
theorem dX3_countLayer_15 : decode cX3_countLayer 15 = .ok (.istore_n 3, 1) := by decide +kernel
theorem dX3_countLayer_16 : decode cX3_countLayer 16 = .ok (.iload_n 3, 1) := by decide +kernel
theorem dX3_countLayer_17 : decode cX3_countLayer 17 = .ok (.aload_n 0, 1) := by decide +kernel
theorem dX3_countLayer_18 : decode cX3_countLayer 18 = .ok (.getfield 22, 3) := by decide +kernel
theorem dX3_countLayer_21 : decode cX3_countLayer 21 = .ok (.iload_n 1, 1) := by decide +kernel
theorem dX3_countLayer_22 : decode cX3_countLayer 22 = .ok (.iconst 1, 1) := by decide +kernel
theorem dX3_countLayer_23 : decode cX3_countLayer 23 = .ok (.iadd, 1) := by decide +kernel
theorem dX3_countLayer_24 : decode cX3_countLayer 24 = .ok (.iaload, 1) := by decide +kernel
theorem dX3_countLayer_25 : decode cX3_countLayer 25 = .ok (.if_icmp .ge 102, 3) := by decide +kernel
theorem dX3_countLayer_28 : decode cX3_countLayer 28 = .ok (.aload_n 0, 1) := by decide +kernel
theorem dX3_countLayer_29 : decode cX3_countLayer 29 = .ok (.getfield 19, 3) := by decide +kernel
theorem dX3_countLayer_32 : decode cX3_countLayer 32 = .ok (.iload_n 3, 1) := by decide +kernel
theorem dX3_countLayer_33 : decode cX3_countLayer 33 = .ok (.iaload, 1) := by decide +kernel
theorem dX3_countLayer_34 : decode cX3_countLayer 34 = .ok (.istore 4, 2) := by decide +kernel
theorem dX3_countLayer_36 : decode cX3_countLayer 36 = .ok (.aload_n 0, 1) := by decide +kernel
theorem dX3_countLayer_37 : decode cX3_countLayer 37 = .ok (.iload_n 1, 1) := by decide +kernel
theorem dX3_countLayer_38 : decode cX3_countLayer 38 = .ok (.iload 4, 2) := by decide +kernel
theorem dX3_countLayer_40 : decode cX3_countLayer 40 = .ok (.invokevirtual 83, 3) := by decide +kernel
theorem dX3_countLayer_43 : decode cX3_countLayer 43 = .ok (.istore 5, 2) := by decide +kernel
theorem dX3_countLayer_45 : decode cX3_countLayer 45 = .ok (.iconst 0, 1) := by decide +kernel
theorem dX3_countLayer_46 : decode cX3_countLayer 46 = .ok (.istore 6, 2) := by decide +kernel
theorem dX3_countLayer_48 : decode cX3_countLayer 48 = .ok (.iload 6, 2) := by decide +kernel
theorem dX3_countLayer_50 : decode cX3_countLayer 50 = .ok (.iload 5, 2) := by decide +kernel
theorem dX3_countLayer_52 : decode cX3_countLayer 52 = .ok (.if_icmp .ge 61, 3) := by decide +kernel
theorem dX3_countLayer_55 : decode cX3_countLayer 55 = .ok (.aload_n 0, 1) := by decide +kernel
theorem dX3_countLayer_56 : decode cX3_countLayer 56 = .ok (.getfield 36, 3) := by decide +kernel
theorem dX3_countLayer_59 : decode cX3_countLayer 59 = .ok (.getfield 86, 3) := by decide +kernel
theorem dX3_countLayer_62 : decode cX3_countLayer 62 = .ok (.iload 6, 2) := by decide +kernel
theorem dX3_countLayer_64 : decode cX3_countLayer 64 = .ok (.iaload, 1) := by decide +kernel
theorem dX3_countLayer_65 : decode cX3_countLayer 65 = .ok (.istore 7, 2) := by decide +kernel
theorem dX3_countLayer_67 : decode cX3_countLayer 67 = .ok (.aload_n 0, 1) := by decide +kernel
theorem dX3_countLayer_68 : decode cX3_countLayer 68 = .ok (.getfield 29, 3) := by decide +kernel
theorem dX3_countLayer_71 : decode cX3_countLayer 71 = .ok (.iload 7, 2) := by decide +kernel
theorem dX3_countLayer_73 : decode cX3_countLayer 73 = .ok (.laload, 1) := by decide +kernel
theorem dX3_countLayer_74 : decode cX3_countLayer 74 = .ok (.lconst 0, 1) := by decide +kernel
theorem dX3_countLayer_75 : decode cX3_countLayer 75 = .ok (.lcmp, 1) := by decide +kernel
theorem dX3_countLayer_76 : decode cX3_countLayer 76 = .ok (.ifCond .ne 14, 3) := by decide +kernel
theorem dX3_countLayer_79 : decode cX3_countLayer 79 = .ok (.aload_n 0, 1) := by decide +kernel
theorem dX3_countLayer_80 : decode cX3_countLayer 80 = .ok (.getfield 19, 3) := by decide +kernel
theorem dX3_countLayer_83 : decode cX3_countLayer 83 = .ok (.iload_n 2, 1) := by decide +kernel
theorem dX3_countLayer_84 : decode cX3_countLayer 84 = .ok (.iload 7, 2) := by decide +kernel
theorem dX3_countLayer_86 : decode cX3_countLayer 86 = .ok (.iastore, 1) := by decide +kernel
theorem dX3_countLayer_87 : decode cX3_countLayer 87 = .ok (.iinc 2 1, 3) := by decide +kernel
theorem dX3_countLayer_90 : decode cX3_countLayer 90 = .ok (.aload_n 0, 1) := by decide +kernel
theorem dX3_countLayer_91 : decode cX3_countLayer 91 = .ok (.getfield 29, 3) := by decide +kernel
theorem dX3_countLayer_94 : decode cX3_countLayer 94 = .ok (.iload 7, 2) := by decide +kernel
theorem dX3_countLayer_96 : decode cX3_countLayer 96 = .ok (.dup2, 1) := by decide +kernel
theorem dX3_countLayer_97 : decode cX3_countLayer 97 = .ok (.laload, 1) := by decide +kernel
theorem dX3_countLayer_98 : decode cX3_countLayer 98 = .ok (.aload_n 0, 1) := by decide +kernel
theorem dX3_countLayer_99 : decode cX3_countLayer 99 = .ok (.getfield 25, 3) := by decide +kernel
theorem dX3_countLayer_102 : decode cX3_countLayer 102 = .ok (.iload 4, 2) := by decide +kernel
theorem dX3_countLayer_104 : decode cX3_countLayer 104 = .ok (.laload, 1) := by decide +kernel
theorem dX3_countLayer_105 : decode cX3_countLayer 105 = .ok (.ladd, 1) := by decide +kernel
theorem dX3_countLayer_106 : decode cX3_countLayer 106 = .ok (.lastore, 1) := by decide +kernel
theorem dX3_countLayer_107 : decode cX3_countLayer 107 = .ok (.iinc 6 1, 3) := by decide +kernel
theorem dX3_countLayer_110 : decode cX3_countLayer 110 = .ok (.goto (-62), 3) := by decide +kernel
theorem dX3_countLayer_113 : decode cX3_countLayer 113 = .ok (.aload_n 0, 1) := by decide +kernel
theorem dX3_countLayer_114 : decode cX3_countLayer 114 = .ok (.getfield 25, 3) := by decide +kernel
theorem dX3_countLayer_117 : decode cX3_countLayer 117 = .ok (.iload 4, 2) := by decide +kernel
theorem dX3_countLayer_119 : decode cX3_countLayer 119 = .ok (.lconst 0, 1) := by decide +kernel
theorem dX3_countLayer_120 : decode cX3_countLayer 120 = .ok (.lastore, 1) := by decide +kernel
theorem dX3_countLayer_121 : decode cX3_countLayer 121 = .ok (.iinc 3 1, 3) := by decide +kernel
theorem dX3_countLayer_124 : decode cX3_countLayer 124 = .ok (.goto (-108), 3) := by decide +kernel
theorem dX3_countLayer_127 : decode cX3_countLayer 127 = .ok (.aload_n 0, 1) := by decide +kernel
theorem dX3_countLayer_128 : decode cX3_countLayer 128 = .ok (.getfield 22, 3) := by decide +kernel
theorem dX3_countLayer_131 : decode cX3_countLayer 131 = .ok (.iload_n 1, 1) := by decide +kernel
theorem dX3_countLayer_132 : decode cX3_countLayer 132 = .ok (.iconst 2, 1) := by decide +kernel
theorem dX3_countLayer_133 : decode cX3_countLayer 133 = .ok (.iadd, 1) := by decide +kernel
theorem dX3_countLayer_134 : decode cX3_countLayer 134 = .ok (.iload_n 2, 1) := by decide +kernel
theorem dX3_countLayer_135 : decode cX3_countLayer 135 = .ok (.iastore, 1) := by decide +kernel
theorem dX3_countLayer_136 : decode cX3_countLayer 136 = .ok (.return_, 1) := by decide +kernel
theorem dX3_weigh_0 : decode cX3_weigh 0 = .ok (.aload_n 0, 1) := by decide +kernel
theorem dX3_weigh_1 : decode cX3_weigh 1 = .ok (.getfield 32, 3) := by decide +kernel
theorem dX3_weigh_4 : decode cX3_weigh 4 = .ok (.aload_n 0, 1) := by decide +kernel
theorem dX3_weigh_5 : decode cX3_weigh 5 = .ok (.getfield 36, 3) := by decide +kernel
theorem dX3_weigh_8 : decode cX3_weigh 8 = .ok (.getfield 89, 3) := by decide +kernel
theorem dX3_weigh_11 : decode cX3_weigh 11 = .ok (.if_icmp .ne 55, 3) := by decide +kernel
theorem dX3_weigh_14 : decode cX3_weigh 14 = .ok (.aload_n 0, 1) := by decide +kernel
theorem dX3_weigh_15 : decode cX3_weigh 15 = .ok (.getfield 90, 3) := by decide +kernel
theorem dX3_weigh_18 : decode cX3_weigh 18 = .ok (.iload_n 1, 1) := by decide +kernel
theorem dX3_weigh_19 : decode cX3_weigh 19 = .ok (.if_icmp .ne 47, 3) := by decide +kernel
theorem dX3_weigh_22 : decode cX3_weigh 22 = .ok (.aload_n 0, 1) := by decide +kernel
theorem dX3_weigh_23 : decode cX3_weigh 23 = .ok (.getfield 93, 3) := by decide +kernel
theorem dX3_weigh_26 : decode cX3_weigh 26 = .ok (.iload_n 2, 1) := by decide +kernel
theorem dX3_weigh_27 : decode cX3_weigh 27 = .ok (.if_icmp .ne 39, 3) := by decide +kernel
theorem dX3_weigh_30 : decode cX3_weigh 30 = .ok (.aload_n 0, 1) := by decide +kernel
theorem dX3_weigh_31 : decode cX3_weigh 31 = .ok (.getfield 68, 3) := by decide +kernel
theorem dX3_weigh_34 : decode cX3_weigh 34 = .ok (.iload_n 3, 1) := by decide +kernel
theorem dX3_weigh_35 : decode cX3_weigh 35 = .ok (.if_icmp .ne 31, 3) := by decide +kernel
theorem dX3_weigh_38 : decode cX3_weigh 38 = .ok (.aload_n 0, 1) := by decide +kernel
theorem dX3_weigh_39 : decode cX3_weigh 39 = .ok (.getfield 15, 3) := by decide +kernel
theorem dX3_weigh_42 : decode cX3_weigh 42 = .ok (.aload_n 0, 1) := by decide +kernel
theorem dX3_weigh_43 : decode cX3_weigh 43 = .ok (.getfield 90, 3) := by decide +kernel
theorem dX3_weigh_46 : decode cX3_weigh 46 = .ok (.baload, 1) := by decide +kernel
theorem dX3_weigh_47 : decode cX3_weigh 47 = .ok (.bipush 100, 2) := by decide +kernel
theorem dX3_weigh_49 : decode cX3_weigh 49 = .ok (.if_icmp .ne 7, 3) := by decide +kernel
theorem dX3_weigh_52 : decode cX3_weigh 52 = .ok (.iconst (-1), 1) := by decide +kernel
theorem dX3_weigh_53 : decode cX3_weigh 53 = .ok (.goto 12, 3) := by decide +kernel
theorem dX3_weigh_56 : decode cX3_weigh 56 = .ok (.aload_n 0, 1) := by decide +kernel
theorem dX3_weigh_57 : decode cX3_weigh 57 = .ok (.getfield 15, 3) := by decide +kernel
theorem dX3_weigh_60 : decode cX3_weigh 60 = .ok (.aload_n 0, 1) := by decide +kernel
theorem dX3_weigh_61 : decode cX3_weigh 61 = .ok (.getfield 90, 3) := by decide +kernel
theorem dX3_weigh_64 : decode cX3_weigh 64 = .ok (.baload, 1) := by decide +kernel
theorem dX3_weigh_65 : decode cX3_weigh 65 = .ok (.ireturn, 1) := by decide +kernel
theorem dX3_weigh_66 : decode cX3_weigh 66 = .ok (.aload_n 0, 1) := by decide +kernel
theorem dX3_weigh_67 : decode cX3_weigh 67 = .ok (.aload_n 0, 1) := by decide +kernel
theorem dX3_weigh_68 : decode cX3_weigh 68 = .ok (.getfield 36, 3) := by decide +kernel
theorem dX3_weigh_71 : decode cX3_weigh 71 = .ok (.getfield 89, 3) := by decide +kernel
theorem dX3_weigh_74 : decode cX3_weigh 74 = .ok (.putfield 32, 3) := by decide +kernel
theorem dX3_weigh_77 : decode cX3_weigh 77 = .ok (.aload_n 0, 1) := by decide +kernel
theorem dX3_weigh_78 : decode cX3_weigh 78 = .ok (.iload_n 1, 1) := by decide +kernel
theorem dX3_weigh_79 : decode cX3_weigh 79 = .ok (.putfield 90, 3) := by decide +kernel
theorem dX3_weigh_82 : decode cX3_weigh 82 = .ok (.aload_n 0, 1) := by decide +kernel
theorem dX3_weigh_83 : decode cX3_weigh 83 = .ok (.iload_n 2, 1) := by decide +kernel
theorem dX3_weigh_84 : decode cX3_weigh 84 = .ok (.putfield 93, 3) := by decide +kernel
theorem dX3_weigh_87 : decode cX3_weigh 87 = .ok (.aload_n 0, 1) := by decide +kernel
theorem dX3_weigh_88 : decode cX3_weigh 88 = .ok (.iload_n 3, 1) := by decide +kernel
theorem dX3_weigh_89 : decode cX3_weigh 89 = .ok (.putfield 68, 3) := by decide +kernel
theorem dX3_weigh_92 : decode cX3_weigh 92 = .ok (.aload_n 0, 1) := by decide +kernel
theorem dX3_weigh_93 : decode cX3_weigh 93 = .ok (.getfield 15, 3) := by decide +kernel
theorem dX3_weigh_96 : decode cX3_weigh 96 = .ok (.iconst (-1), 1) := by decide +kernel
theorem dX3_weigh_97 : decode cX3_weigh 97 = .ok (.invokestatic 96, 3) := by decide +kernel
theorem dX3_weigh_100 : decode cX3_weigh 100 = .ok (.aload_n 0, 1) := by decide +kernel
theorem dX3_weigh_101 : decode cX3_weigh 101 = .ok (.getfield 15, 3) := by decide +kernel
theorem dX3_weigh_104 : decode cX3_weigh 104 = .ok (.aload_n 0, 1) := by decide +kernel
theorem dX3_weigh_105 : decode cX3_weigh 105 = .ok (.getfield 90, 3) := by decide +kernel
theorem dX3_weigh_108 : decode cX3_weigh 108 = .ok (.bipush 100, 2) := by decide +kernel
theorem dX3_weigh_110 : decode cX3_weigh 110 = .ok (.bastore, 1) := by decide +kernel
theorem dX3_weigh_111 : decode cX3_weigh 111 = .ok (.aload_n 0, 1) := by decide +kernel
theorem dX3_weigh_112 : decode cX3_weigh 112 = .ok (.getfield 19, 3) := by decide +kernel
theorem dX3_weigh_115 : decode cX3_weigh 115 = .ok (.iconst 0, 1) := by decide +kernel
theorem dX3_weigh_116 : decode cX3_weigh 116 = .ok (.aload_n 0, 1) := by decide +kernel
theorem dX3_weigh_117 : decode cX3_weigh 117 = .ok (.getfield 90, 3) := by decide +kernel
theorem dX3_weigh_120 : decode cX3_weigh 120 = .ok (.iastore, 1) := by decide +kernel
theorem dX3_weigh_121 : decode cX3_weigh 121 = .ok (.aload_n 0, 1) := by decide +kernel
theorem dX3_weigh_122 : decode cX3_weigh 122 = .ok (.getfield 22, 3) := by decide +kernel
theorem dX3_weigh_125 : decode cX3_weigh 125 = .ok (.iconst 0, 1) := by decide +kernel
theorem dX3_weigh_126 : decode cX3_weigh 126 = .ok (.iconst 0, 1) := by decide +kernel
theorem dX3_weigh_127 : decode cX3_weigh 127 = .ok (.iastore, 1) := by decide +kernel
theorem dX3_weigh_128 : decode cX3_weigh 128 = .ok (.aload_n 0, 1) := by decide +kernel
theorem dX3_weigh_129 : decode cX3_weigh 129 = .ok (.getfield 22, 3) := by decide +kernel
theorem dX3_weigh_132 : decode cX3_weigh 132 = .ok (.iconst 1, 1) := by decide +kernel
theorem dX3_weigh_133 : decode cX3_weigh 133 = .ok (.iconst 1, 1) := by decide +kernel
theorem dX3_weigh_134 : decode cX3_weigh 134 = .ok (.iastore, 1) := by decide +kernel
theorem dX3_weigh_135 : decode cX3_weigh 135 = .ok (.iconst 0, 1) := by decide +kernel
theorem dX3_weigh_136 : decode cX3_weigh 136 = .ok (.istore 4, 2) := by decide +kernel
theorem dX3_weigh_138 : decode cX3_weigh 138 = .ok (.iload 4, 2) := by decide +kernel
theorem dX3_weigh_140 : decode cX3_weigh 140 = .ok (.aload_n 0, 1) := by decide +kernel
theorem dX3_weigh_141 : decode cX3_weigh 141 = .ok (.getfield 40, 3) := by decide +kernel
theorem dX3_weigh_144 : decode cX3_weigh 144 = .ok (.if_icmp .ge 15, 3) := by decide +kernel
theorem dX3_weigh_147 : decode cX3_weigh 147 = .ok (.aload_n 0, 1) := by decide +kernel
theorem dX3_weigh_148 : decode cX3_weigh 148 = .ok (.iload 4, 2) := by decide +kernel
theorem dX3_weigh_150 : decode cX3_weigh 150 = .ok (.invokevirtual 102, 3) := by decide +kernel
theorem dX3_weigh_153 : decode cX3_weigh 153 = .ok (.iinc 4 1, 3) := by decide +kernel
theorem dX3_weigh_156 : decode cX3_weigh 156 = .ok (.goto (-18), 3) := by decide +kernel
theorem dX3_weigh_159 : decode cX3_weigh 159 = .ok (.aload_n 0, 1) := by decide +kernel
theorem dX3_weigh_160 : decode cX3_weigh 160 = .ok (.getfield 22, 3) := by decide +kernel
theorem dX3_weigh_163 : decode cX3_weigh 163 = .ok (.aload_n 0, 1) := by decide +kernel
theorem dX3_weigh_164 : decode cX3_weigh 164 = .ok (.getfield 40, 3) := by decide +kernel
theorem dX3_weigh_167 : decode cX3_weigh 167 = .ok (.iaload, 1) := by decide +kernel
theorem dX3_weigh_168 : decode cX3_weigh 168 = .ok (.istore 4, 2) := by decide +kernel
theorem dX3_weigh_170 : decode cX3_weigh 170 = .ok (.iload 4, 2) := by decide +kernel
theorem dX3_weigh_172 : decode cX3_weigh 172 = .ok (.aload_n 0, 1) := by decide +kernel
theorem dX3_weigh_173 : decode cX3_weigh 173 = .ok (.getfield 22, 3) := by decide +kernel
theorem dX3_weigh_176 : decode cX3_weigh 176 = .ok (.aload_n 0, 1) := by decide +kernel
theorem dX3_weigh_177 : decode cX3_weigh 177 = .ok (.getfield 40, 3) := by decide +kernel
theorem dX3_weigh_180 : decode cX3_weigh 180 = .ok (.iconst 1, 1) := by decide +kernel
theorem dX3_weigh_181 : decode cX3_weigh 181 = .ok (.iadd, 1) := by decide +kernel
theorem dX3_weigh_182 : decode cX3_weigh 182 = .ok (.iaload, 1) := by decide +kernel
theorem dX3_weigh_183 : decode cX3_weigh 183 = .ok (.if_icmp .ge 52, 3) := by decide +kernel
theorem dX3_weigh_186 : decode cX3_weigh 186 = .ok (.aload_n 0, 1) := by decide +kernel
theorem dX3_weigh_187 : decode cX3_weigh 187 = .ok (.getfield 36, 3) := by decide +kernel
theorem dX3_weigh_190 : decode cX3_weigh 190 = .ok (.aload_n 0, 1) := by decide +kernel
theorem dX3_weigh_191 : decode cX3_weigh 191 = .ok (.getfield 19, 3) := by decide +kernel
theorem dX3_weigh_194 : decode cX3_weigh 194 = .ok (.iload 4, 2) := by decide +kernel
theorem dX3_weigh_196 : decode cX3_weigh 196 = .ok (.iaload, 1) := by decide +kernel
theorem dX3_weigh_197 : decode cX3_weigh 197 = .ok (.aload_n 0, 1) := by decide +kernel
theorem dX3_weigh_198 : decode cX3_weigh 198 = .ok (.getfield 93, 3) := by decide +kernel
theorem dX3_weigh_201 : decode cX3_weigh 201 = .ok (.invokevirtual 80, 3) := by decide +kernel
theorem dX3_weigh_204 : decode cX3_weigh 204 = .ok (.ifCond .eq 25, 3) := by decide +kernel
theorem dX3_weigh_207 : decode cX3_weigh 207 = .ok (.aload_n 0, 1) := by decide +kernel
theorem dX3_weigh_208 : decode cX3_weigh 208 = .ok (.getfield 15, 3) := by decide +kernel
theorem dX3_weigh_211 : decode cX3_weigh 211 = .ok (.aload_n 0, 1) := by decide +kernel
theorem dX3_weigh_212 : decode cX3_weigh 212 = .ok (.getfield 40, 3) := by decide +kernel
theorem dX3_weigh_215 : decode cX3_weigh 215 = .ok (.sipush 700, 3) := by decide +kernel
theorem dX3_weigh_218 : decode cX3_weigh 218 = .ok (.imul, 1) := by decide +kernel
theorem dX3_weigh_219 : decode cX3_weigh 219 = .ok (.aload_n 0, 1) := by decide +kernel
theorem dX3_weigh_220 : decode cX3_weigh 220 = .ok (.getfield 19, 3) := by decide +kernel
theorem dX3_weigh_223 : decode cX3_weigh 223 = .ok (.iload 4, 2) := by decide +kernel
theorem dX3_weigh_225 : decode cX3_weigh 225 = .ok (.iaload, 1) := by decide +kernel
theorem dX3_weigh_226 : decode cX3_weigh 226 = .ok (.iadd, 1) := by decide +kernel
theorem dX3_weigh_227 : decode cX3_weigh 227 = .ok (.iconst 0, 1) := by decide +kernel
theorem dX3_weigh_228 : decode cX3_weigh 228 = .ok (.bastore, 1) := by decide +kernel
theorem dX3_weigh_229 : decode cX3_weigh 229 = .ok (.iinc 4 1, 3) := by decide +kernel
theorem dX3_weigh_232 : decode cX3_weigh 232 = .ok (.goto (-62), 3) := by decide +kernel
theorem dX3_weigh_235 : decode cX3_weigh 235 = .ok (.aload_n 0, 1) := by decide +kernel
theorem dX3_weigh_236 : decode cX3_weigh 236 = .ok (.getfield 40, 3) := by decide +kernel
theorem dX3_weigh_239 : decode cX3_weigh 239 = .ok (.iconst 1, 1) := by decide +kernel
theorem dX3_weigh_240 : decode cX3_weigh 240 = .ok (.isub, 1) := by decide +kernel
theorem dX3_weigh_241 : decode cX3_weigh 241 = .ok (.istore 4, 2) := by decide +kernel
theorem dX3_weigh_243 : decode cX3_weigh 243 = .ok (.iload 4, 2) := by decide +kernel
theorem dX3_weigh_245 : decode cX3_weigh 245 = .ok (.ifCond .lt 71, 3) := by decide +kernel
theorem dX3_weigh_248 : decode cX3_weigh 248 = .ok (.aload_n 0, 1) := by decide +kernel
theorem dX3_weigh_249 : decode cX3_weigh 249 = .ok (.getfield 22, 3) := by decide +kernel
theorem dX3_weigh_252 : decode cX3_weigh 252 = .ok (.iload 4, 2) := by decide +kernel
theorem dX3_weigh_254 : decode cX3_weigh 254 = .ok (.iaload, 1) := by decide +kernel
theorem dX3_weigh_255 : decode cX3_weigh 255 = .ok (.istore 5, 2) := by decide +kernel
theorem dX3_weigh_257 : decode cX3_weigh 257 = .ok (.iload 5, 2) := by decide +kernel
theorem dX3_weigh_259 : decode cX3_weigh 259 = .ok (.aload_n 0, 1) := by decide +kernel
theorem dX3_weigh_260 : decode cX3_weigh 260 = .ok (.getfield 22, 3) := by decide +kernel
theorem dX3_weigh_263 : decode cX3_weigh 263 = .ok (.iload 4, 2) := by decide +kernel
theorem dX3_weigh_265 : decode cX3_weigh 265 = .ok (.iconst 1, 1) := by decide +kernel
theorem dX3_weigh_266 : decode cX3_weigh 266 = .ok (.iadd, 1) := by decide +kernel
theorem dX3_weigh_267 : decode cX3_weigh 267 = .ok (.iaload, 1) := by decide +kernel
theorem dX3_weigh_268 : decode cX3_weigh 268 = .ok (.if_icmp .ge 42, 3) := by decide +kernel
theorem dX3_weigh_271 : decode cX3_weigh 271 = .ok (.aload_n 0, 1) := by decide +kernel
theorem dX3_weigh_272 : decode cX3_weigh 272 = .ok (.getfield 15, 3) := by decide +kernel
theorem dX3_weigh_275 : decode cX3_weigh 275 = .ok (.iload 4, 2) := by decide +kernel
theorem dX3_weigh_277 : decode cX3_weigh 277 = .ok (.sipush 700, 3) := by decide +kernel
theorem dX3_weigh_280 : decode cX3_weigh 280 = .ok (.imul, 1) := by decide +kernel
theorem dX3_weigh_281 : decode cX3_weigh 281 = .ok (.aload_n 0, 1) := by decide +kernel
theorem dX3_weigh_282 : decode cX3_weigh 282 = .ok (.getfield 19, 3) := by decide +kernel
theorem dX3_weigh_285 : decode cX3_weigh 285 = .ok (.iload 5, 2) := by decide +kernel
theorem dX3_weigh_287 : decode cX3_weigh 287 = .ok (.iaload, 1) := by decide +kernel
theorem dX3_weigh_288 : decode cX3_weigh 288 = .ok (.iadd, 1) := by decide +kernel
theorem dX3_weigh_289 : decode cX3_weigh 289 = .ok (.aload_n 0, 1) := by decide +kernel
theorem dX3_weigh_290 : decode cX3_weigh 290 = .ok (.iload 4, 2) := by decide +kernel
theorem dX3_weigh_292 : decode cX3_weigh 292 = .ok (.aload_n 0, 1) := by decide +kernel
theorem dX3_weigh_293 : decode cX3_weigh 293 = .ok (.getfield 19, 3) := by decide +kernel
theorem dX3_weigh_296 : decode cX3_weigh 296 = .ok (.iload 5, 2) := by decide +kernel
theorem dX3_weigh_298 : decode cX3_weigh 298 = .ok (.iaload, 1) := by decide +kernel
theorem dX3_weigh_299 : decode cX3_weigh 299 = .ok (.invokevirtual 105, 3) := by decide +kernel
theorem dX3_weigh_302 : decode cX3_weigh 302 = .ok (.i2b, 1) := by decide +kernel
theorem dX3_weigh_303 : decode cX3_weigh 303 = .ok (.bastore, 1) := by decide +kernel
theorem dX3_weigh_304 : decode cX3_weigh 304 = .ok (.iinc 5 1, 3) := by decide +kernel
theorem dX3_weigh_307 : decode cX3_weigh 307 = .ok (.goto (-50), 3) := by decide +kernel
theorem dX3_weigh_310 : decode cX3_weigh 310 = .ok (.iinc 4 (-1), 3) := by decide +kernel
theorem dX3_weigh_313 : decode cX3_weigh 313 = .ok (.goto (-70), 3) := by decide +kernel
theorem dX3_weigh_316 : decode cX3_weigh 316 = .ok (.aload_n 0, 1) := by decide +kernel
theorem dX3_weigh_317 : decode cX3_weigh 317 = .ok (.getfield 15, 3) := by decide +kernel
theorem dX3_weigh_320 : decode cX3_weigh 320 = .ok (.aload_n 0, 1) := by decide +kernel
theorem dX3_weigh_321 : decode cX3_weigh 321 = .ok (.getfield 90, 3) := by decide +kernel
theorem dX3_weigh_324 : decode cX3_weigh 324 = .ok (.baload, 1) := by decide +kernel
theorem dX3_weigh_325 : decode cX3_weigh 325 = .ok (.bipush 100, 2) := by decide +kernel
theorem dX3_weigh_327 : decode cX3_weigh 327 = .ok (.if_icmp .ne 7, 3) := by decide +kernel
theorem dX3_weigh_330 : decode cX3_weigh 330 = .ok (.iconst (-1), 1) := by decide +kernel
theorem dX3_weigh_331 : decode cX3_weigh 331 = .ok (.goto 12, 3) := by decide +kernel
theorem dX3_weigh_334 : decode cX3_weigh 334 = .ok (.aload_n 0, 1) := by decide +kernel
theorem dX3_weigh_335 : decode cX3_weigh 335 = .ok (.getfield 15, 3) := by decide +kernel
theorem dX3_weigh_338 : decode cX3_weigh 338 = .ok (.aload_n 0, 1) := by decide +kernel
theorem dX3_weigh_339 : decode cX3_weigh 339 = .ok (.getfield 90, 3) := by decide +kernel
theorem dX3_weigh_342 : decode cX3_weigh 342 = .ok (.baload, 1) := by decide +kernel
theorem dX3_weigh_343 : decode cX3_weigh 343 = .ok (.ireturn, 1) := by decide +kernel
theorem dX3_reachLayer_0 : decode cX3_reachLayer 0 = .ok (.aload_n 0, 1) := by decide +kernel
theorem dX3_reachLayer_1 : decode cX3_reachLayer 1 = .ok (.getfield 22, 3) := by decide +kernel
theorem dX3_reachLayer_4 : decode cX3_reachLayer 4 = .ok (.iload_n 1, 1) := by decide +kernel
theorem dX3_reachLayer_5 : decode cX3_reachLayer 5 = .ok (.iconst 1, 1) := by decide +kernel
theorem dX3_reachLayer_6 : decode cX3_reachLayer 6 = .ok (.iadd, 1) := by decide +kernel
theorem dX3_reachLayer_7 : decode cX3_reachLayer 7 = .ok (.iaload, 1) := by decide +kernel
theorem dX3_reachLayer_8 : decode cX3_reachLayer 8 = .ok (.istore_n 2, 1) := by decide +kernel
theorem dX3_reachLayer_9 : decode cX3_reachLayer 9 = .ok (.aload_n 0, 1) := by decide +kernel
theorem dX3_reachLayer_10 : decode cX3_reachLayer 10 = .ok (.getfield 22, 3) := by decide +kernel
theorem dX3_reachLayer_13 : decode cX3_reachLayer 13 = .ok (.iload_n 1, 1) := by decide +kernel
theorem dX3_reachLayer_14 : decode cX3_reachLayer 14 = .ok (.iaload, 1) := by decide +kernel
theorem dX3_reachLayer_15 : decode cX3_reachLayer 15 = .ok (.istore_n 3, 1) := by decide +kernel
theorem dX3_reachLayer_16 : decode cX3_reachLayer 16 = .ok (.iload_n 3, 1) := by decide +kernel
theorem dX3_reachLayer_17 : decode cX3_reachLayer 17 = .ok (.aload_n 0, 1) := by decide +kernel
theorem dX3_reachLayer_18 : decode cX3_reachLayer 18 = .ok (.getfield 22, 3) := by decide +kernel
theorem dX3_reachLayer_21 : decode cX3_reachLayer 21 = .ok (.iload_n 1, 1) := by decide +kernel
theorem dX3_reachLayer_22 : decode cX3_reachLayer 22 = .ok (.iconst 1, 1) := by decide +kernel
theorem dX3_reachLayer_23 : decode cX3_reachLayer 23 = .ok (.iadd, 1) := by decide +kernel
theorem dX3_reachLayer_24 : decode cX3_reachLayer 24 = .ok (.iaload, 1) := by decide +kernel
theorem dX3_reachLayer_25 : decode cX3_reachLayer 25 = .ok (.if_icmp .ge 97, 3) := by decide +kernel
theorem dX3_reachLayer_28 : decode cX3_reachLayer 28 = .ok (.aload_n 0, 1) := by decide +kernel
theorem dX3_reachLayer_29 : decode cX3_reachLayer 29 = .ok (.iload_n 1, 1) := by decide +kernel
theorem dX3_reachLayer_30 : decode cX3_reachLayer 30 = .ok (.aload_n 0, 1) := by decide +kernel
theorem dX3_reachLayer_31 : decode cX3_reachLayer 31 = .ok (.getfield 19, 3) := by decide +kernel
theorem dX3_reachLayer_34 : decode cX3_reachLayer 34 = .ok (.iload_n 3, 1) := by decide +kernel
theorem dX3_reachLayer_35 : decode cX3_reachLayer 35 = .ok (.iaload, 1) := by decide +kernel
theorem dX3_reachLayer_36 : decode cX3_reachLayer 36 = .ok (.invokevirtual 83, 3) := by decide +kernel
theorem dX3_reachLayer_39 : decode cX3_reachLayer 39 = .ok (.istore 4, 2) := by decide +kernel
theorem dX3_reachLayer_41 : decode cX3_reachLayer 41 = .ok (.iconst 0, 1) := by decide +kernel
theorem dX3_reachLayer_42 : decode cX3_reachLayer 42 = .ok (.istore 5, 2) := by decide +kernel
theorem dX3_reachLayer_44 : decode cX3_reachLayer 44 = .ok (.iload 5, 2) := by decide +kernel
theorem dX3_reachLayer_46 : decode cX3_reachLayer 46 = .ok (.iload 4, 2) := by decide +kernel
theorem dX3_reachLayer_48 : decode cX3_reachLayer 48 = .ok (.if_icmp .ge 68, 3) := by decide +kernel
theorem dX3_reachLayer_51 : decode cX3_reachLayer 51 = .ok (.aload_n 0, 1) := by decide +kernel
theorem dX3_reachLayer_52 : decode cX3_reachLayer 52 = .ok (.getfield 36, 3) := by decide +kernel
theorem dX3_reachLayer_55 : decode cX3_reachLayer 55 = .ok (.getfield 86, 3) := by decide +kernel
theorem dX3_reachLayer_58 : decode cX3_reachLayer 58 = .ok (.iload 5, 2) := by decide +kernel
theorem dX3_reachLayer_60 : decode cX3_reachLayer 60 = .ok (.iaload, 1) := by decide +kernel
theorem dX3_reachLayer_61 : decode cX3_reachLayer 61 = .ok (.istore 6, 2) := by decide +kernel
theorem dX3_reachLayer_63 : decode cX3_reachLayer 63 = .ok (.aload_n 0, 1) := by decide +kernel
theorem dX3_reachLayer_64 : decode cX3_reachLayer 64 = .ok (.getfield 15, 3) := by decide +kernel
theorem dX3_reachLayer_67 : decode cX3_reachLayer 67 = .ok (.iload_n 1, 1) := by decide +kernel
theorem dX3_reachLayer_68 : decode cX3_reachLayer 68 = .ok (.iconst 1, 1) := by decide +kernel
theorem dX3_reachLayer_69 : decode cX3_reachLayer 69 = .ok (.iadd, 1) := by decide +kernel
theorem dX3_reachLayer_70 : decode cX3_reachLayer 70 = .ok (.sipush 700, 3) := by decide +kernel
theorem dX3_reachLayer_73 : decode cX3_reachLayer 73 = .ok (.imul, 1) := by decide +kernel
theorem dX3_reachLayer_74 : decode cX3_reachLayer 74 = .ok (.iload 6, 2) := by decide +kernel
theorem dX3_reachLayer_76 : decode cX3_reachLayer 76 = .ok (.iadd, 1) := by decide +kernel
theorem dX3_reachLayer_77 : decode cX3_reachLayer 77 = .ok (.baload, 1) := by decide +kernel
theorem dX3_reachLayer_78 : decode cX3_reachLayer 78 = .ok (.iconst (-1), 1) := by decide +kernel
theorem dX3_reachLayer_79 : decode cX3_reachLayer 79 = .ok (.if_icmp .ne 31, 3) := by decide +kernel
theorem dX3_reachLayer_82 : decode cX3_reachLayer 82 = .ok (.aload_n 0, 1) := by decide +kernel
theorem dX3_reachLayer_83 : decode cX3_reachLayer 83 = .ok (.getfield 15, 3) := by decide +kernel
theorem dX3_reachLayer_86 : decode cX3_reachLayer 86 = .ok (.iload_n 1, 1) := by decide +kernel
theorem dX3_reachLayer_87 : decode cX3_reachLayer 87 = .ok (.iconst 1, 1) := by decide +kernel
theorem dX3_reachLayer_88 : decode cX3_reachLayer 88 = .ok (.iadd, 1) := by decide +kernel
theorem dX3_reachLayer_89 : decode cX3_reachLayer 89 = .ok (.sipush 700, 3) := by decide +kernel
theorem dX3_reachLayer_92 : decode cX3_reachLayer 92 = .ok (.imul, 1) := by decide +kernel
theorem dX3_reachLayer_93 : decode cX3_reachLayer 93 = .ok (.iload 6, 2) := by decide +kernel
theorem dX3_reachLayer_95 : decode cX3_reachLayer 95 = .ok (.iadd, 1) := by decide +kernel
theorem dX3_reachLayer_96 : decode cX3_reachLayer 96 = .ok (.bipush 100, 2) := by decide +kernel
theorem dX3_reachLayer_98 : decode cX3_reachLayer 98 = .ok (.bastore, 1) := by decide +kernel
theorem dX3_reachLayer_99 : decode cX3_reachLayer 99 = .ok (.aload_n 0, 1) := by decide +kernel
theorem dX3_reachLayer_100 : decode cX3_reachLayer 100 = .ok (.getfield 19, 3) := by decide +kernel
theorem dX3_reachLayer_103 : decode cX3_reachLayer 103 = .ok (.iload_n 2, 1) := by decide +kernel
theorem dX3_reachLayer_104 : decode cX3_reachLayer 104 = .ok (.iload 6, 2) := by decide +kernel
theorem dX3_reachLayer_106 : decode cX3_reachLayer 106 = .ok (.iastore, 1) := by decide +kernel
theorem dX3_reachLayer_107 : decode cX3_reachLayer 107 = .ok (.iinc 2 1, 3) := by decide +kernel
theorem dX3_reachLayer_110 : decode cX3_reachLayer 110 = .ok (.iinc 5 1, 3) := by decide +kernel
theorem dX3_reachLayer_113 : decode cX3_reachLayer 113 = .ok (.goto (-69), 3) := by decide +kernel
theorem dX3_reachLayer_116 : decode cX3_reachLayer 116 = .ok (.iinc 3 1, 3) := by decide +kernel
theorem dX3_reachLayer_119 : decode cX3_reachLayer 119 = .ok (.goto (-103), 3) := by decide +kernel
theorem dX3_reachLayer_122 : decode cX3_reachLayer 122 = .ok (.aload_n 0, 1) := by decide +kernel
theorem dX3_reachLayer_123 : decode cX3_reachLayer 123 = .ok (.getfield 22, 3) := by decide +kernel
theorem dX3_reachLayer_126 : decode cX3_reachLayer 126 = .ok (.iload_n 1, 1) := by decide +kernel
theorem dX3_reachLayer_127 : decode cX3_reachLayer 127 = .ok (.iconst 2, 1) := by decide +kernel
theorem dX3_reachLayer_128 : decode cX3_reachLayer 128 = .ok (.iadd, 1) := by decide +kernel
theorem dX3_reachLayer_129 : decode cX3_reachLayer 129 = .ok (.iload_n 2, 1) := by decide +kernel
theorem dX3_reachLayer_130 : decode cX3_reachLayer 130 = .ok (.iastore, 1) := by decide +kernel
theorem dX3_reachLayer_131 : decode cX3_reachLayer 131 = .ok (.return_, 1) := by decide +kernel
theorem dX3_fewestFrom_0 : decode cX3_fewestFrom 0 = .ok (.bipush 100, 2) := by decide +kernel
theorem dX3_fewestFrom_2 : decode cX3_fewestFrom 2 = .ok (.istore_n 3, 1) := by decide +kernel
theorem dX3_fewestFrom_3 : decode cX3_fewestFrom 3 = .ok (.aload_n 0, 1) := by decide +kernel
theorem dX3_fewestFrom_4 : decode cX3_fewestFrom 4 = .ok (.iload_n 1, 1) := by decide +kernel
theorem dX3_fewestFrom_5 : decode cX3_fewestFrom 5 = .ok (.iload_n 2, 1) := by decide +kernel
theorem dX3_fewestFrom_6 : decode cX3_fewestFrom 6 = .ok (.invokevirtual 83, 3) := by decide +kernel
theorem dX3_fewestFrom_9 : decode cX3_fewestFrom 9 = .ok (.istore 4, 2) := by decide +kernel
theorem dX3_fewestFrom_11 : decode cX3_fewestFrom 11 = .ok (.iconst 0, 1) := by decide +kernel
theorem dX3_fewestFrom_12 : decode cX3_fewestFrom 12 = .ok (.istore 5, 2) := by decide +kernel
theorem dX3_fewestFrom_14 : decode cX3_fewestFrom 14 = .ok (.iload 5, 2) := by decide +kernel
theorem dX3_fewestFrom_16 : decode cX3_fewestFrom 16 = .ok (.iload 4, 2) := by decide +kernel
theorem dX3_fewestFrom_18 : decode cX3_fewestFrom 18 = .ok (.if_icmp .ge 21, 3) := by decide +kernel
theorem dX3_fewestFrom_21 : decode cX3_fewestFrom 21 = .ok (.iload_n 3, 1) := by decide +kernel
theorem dX3_fewestFrom_22 : decode cX3_fewestFrom 22 = .ok (.aload_n 0, 1) := by decide +kernel
theorem dX3_fewestFrom_23 : decode cX3_fewestFrom 23 = .ok (.iload_n 1, 1) := by decide +kernel
theorem dX3_fewestFrom_24 : decode cX3_fewestFrom 24 = .ok (.iload 5, 2) := by decide +kernel
theorem dX3_fewestFrom_26 : decode cX3_fewestFrom 26 = .ok (.invokevirtual 108, 3) := by decide +kernel
theorem dX3_fewestFrom_29 : decode cX3_fewestFrom 29 = .ok (.invokestatic 111, 3) := by decide +kernel
theorem dX3_fewestFrom_32 : decode cX3_fewestFrom 32 = .ok (.istore_n 3, 1) := by decide +kernel
theorem dX3_fewestFrom_33 : decode cX3_fewestFrom 33 = .ok (.iinc 5 1, 3) := by decide +kernel
theorem dX3_fewestFrom_36 : decode cX3_fewestFrom 36 = .ok (.goto (-22), 3) := by decide +kernel
theorem dX3_fewestFrom_39 : decode cX3_fewestFrom 39 = .ok (.iload_n 3, 1) := by decide +kernel
theorem dX3_fewestFrom_40 : decode cX3_fewestFrom 40 = .ok (.ireturn, 1) := by decide +kernel
theorem dX3_othersBy_0 : decode cX3_othersBy 0 = .ok (.aload_n 0, 1) := by decide +kernel
theorem dX3_othersBy_1 : decode cX3_othersBy 1 = .ok (.getfield 68, 3) := by decide +kernel
theorem dX3_othersBy_4 : decode cX3_othersBy 4 = .ok (.ifCond .ne 21, 3) := by decide +kernel
theorem dX3_othersBy_7 : decode cX3_othersBy 7 = .ok (.aload_n 0, 1) := by decide +kernel
theorem dX3_othersBy_8 : decode cX3_othersBy 8 = .ok (.getfield 9, 3) := by decide +kernel
theorem dX3_othersBy_11 : decode cX3_othersBy 11 = .ok (.iload_n 1, 1) := by decide +kernel
theorem dX3_othersBy_12 : decode cX3_othersBy 12 = .ok (.iaload, 1) := by decide +kernel
theorem dX3_othersBy_13 : decode cX3_othersBy 13 = .ok (.aload_n 0, 1) := by decide +kernel
theorem dX3_othersBy_14 : decode cX3_othersBy 14 = .ok (.getfield 36, 3) := by decide +kernel
theorem dX3_othersBy_17 : decode cX3_othersBy 17 = .ok (.getfield 116, 3) := by decide +kernel
theorem dX3_othersBy_20 : decode cX3_othersBy 20 = .ok (.iload_n 2, 1) := by decide +kernel
theorem dX3_othersBy_21 : decode cX3_othersBy 21 = .ok (.iaload, 1) := by decide +kernel
theorem dX3_othersBy_22 : decode cX3_othersBy 22 = .ok (.if_icmp .ne 7, 3) := by decide +kernel
theorem dX3_othersBy_25 : decode cX3_othersBy 25 = .ok (.iconst 0, 1) := by decide +kernel
theorem dX3_othersBy_26 : decode cX3_othersBy 26 = .ok (.goto 4, 3) := by decide +kernel
theorem dX3_othersBy_29 : decode cX3_othersBy 29 = .ok (.iconst 1, 1) := by decide +kernel
theorem dX3_othersBy_30 : decode cX3_othersBy 30 = .ok (.istore_n 3, 1) := by decide +kernel
theorem dX3_othersBy_31 : decode cX3_othersBy 31 = .ok (.aload_n 0, 1) := by decide +kernel
theorem dX3_othersBy_32 : decode cX3_othersBy 32 = .ok (.getfield 15, 3) := by decide +kernel
theorem dX3_othersBy_35 : decode cX3_othersBy 35 = .ok (.iload_n 1, 1) := by decide +kernel
theorem dX3_othersBy_36 : decode cX3_othersBy 36 = .ok (.iconst 1, 1) := by decide +kernel
theorem dX3_othersBy_37 : decode cX3_othersBy 37 = .ok (.iadd, 1) := by decide +kernel
theorem dX3_othersBy_38 : decode cX3_othersBy 38 = .ok (.sipush 700, 3) := by decide +kernel
theorem dX3_othersBy_41 : decode cX3_othersBy 41 = .ok (.imul, 1) := by decide +kernel
theorem dX3_othersBy_42 : decode cX3_othersBy 42 = .ok (.aload_n 0, 1) := by decide +kernel
theorem dX3_othersBy_43 : decode cX3_othersBy 43 = .ok (.getfield 36, 3) := by decide +kernel
theorem dX3_othersBy_46 : decode cX3_othersBy 46 = .ok (.getfield 86, 3) := by decide +kernel
theorem dX3_othersBy_49 : decode cX3_othersBy 49 = .ok (.iload_n 2, 1) := by decide +kernel
theorem dX3_othersBy_50 : decode cX3_othersBy 50 = .ok (.iaload, 1) := by decide +kernel
theorem dX3_othersBy_51 : decode cX3_othersBy 51 = .ok (.iadd, 1) := by decide +kernel
theorem dX3_othersBy_52 : decode cX3_othersBy 52 = .ok (.baload, 1) := by decide +kernel
theorem dX3_othersBy_53 : decode cX3_othersBy 53 = .ok (.iload_n 3, 1) := by decide +kernel
theorem dX3_othersBy_54 : decode cX3_othersBy 54 = .ok (.iadd, 1) := by decide +kernel
theorem dX3_othersBy_55 : decode cX3_othersBy 55 = .ok (.ireturn, 1) := by decide +kernel
theorem dX3_rightMinute_0 : decode cX3_rightMinute 0 = .ok (.iconst (-1), 1) := by decide +kernel
theorem dX3_rightMinute_1 : decode cX3_rightMinute 1 = .ok (.istore_n 2, 1) := by decide +kernel
theorem dX3_rightMinute_2 : decode cX3_rightMinute 2 = .ok (.aload_n 0, 1) := by decide +kernel
theorem dX3_rightMinute_3 : decode cX3_rightMinute 3 = .ok (.getfield 90, 3) := by decide +kernel
theorem dX3_rightMinute_6 : decode cX3_rightMinute 6 = .ok (.istore_n 3, 1) := by decide +kernel
theorem dX3_rightMinute_7 : decode cX3_rightMinute 7 = .ok (.iconst 0, 1) := by decide +kernel
theorem dX3_rightMinute_8 : decode cX3_rightMinute 8 = .ok (.istore 4, 2) := by decide +kernel
theorem dX3_rightMinute_10 : decode cX3_rightMinute 10 = .ok (.iload 4, 2) := by decide +kernel
theorem dX3_rightMinute_12 : decode cX3_rightMinute 12 = .ok (.iload_n 1, 1) := by decide +kernel
theorem dX3_rightMinute_13 : decode cX3_rightMinute 13 = .ok (.if_icmp .gt 56, 3) := by decide +kernel
theorem dX3_rightMinute_16 : decode cX3_rightMinute 16 = .ok (.iload_n 1, 1) := by decide +kernel
theorem dX3_rightMinute_17 : decode cX3_rightMinute 17 = .ok (.aload_n 0, 1) := by decide +kernel
theorem dX3_rightMinute_18 : decode cX3_rightMinute 18 = .ok (.getfield 40, 3) := by decide +kernel
theorem dX3_rightMinute_21 : decode cX3_rightMinute 21 = .ok (.if_icmp .ge 48, 3) := by decide +kernel
theorem dX3_rightMinute_24 : decode cX3_rightMinute 24 = .ok (.aload_n 0, 1) := by decide +kernel
theorem dX3_rightMinute_25 : decode cX3_rightMinute 25 = .ok (.iload 4, 2) := by decide +kernel
theorem dX3_rightMinute_27 : decode cX3_rightMinute 27 = .ok (.iload_n 3, 1) := by decide +kernel
theorem dX3_rightMinute_28 : decode cX3_rightMinute 28 = .ok (.invokevirtual 119, 3) := by decide +kernel
theorem dX3_rightMinute_31 : decode cX3_rightMinute 31 = .ok (.istore 5, 2) := by decide +kernel
theorem dX3_rightMinute_33 : decode cX3_rightMinute 33 = .ok (.iload 5, 2) := by decide +kernel
theorem dX3_rightMinute_35 : decode cX3_rightMinute 35 = .ok (.iconst (-1), 1) := by decide +kernel
theorem dX3_rightMinute_36 : decode cX3_rightMinute 36 = .ok (.if_icmp .ne 5, 3) := by decide +kernel
theorem dX3_rightMinute_39 : decode cX3_rightMinute 39 = .ok (.iconst (-1), 1) := by decide +kernel
theorem dX3_rightMinute_40 : decode cX3_rightMinute 40 = .ok (.ireturn, 1) := by decide +kernel
theorem dX3_rightMinute_41 : decode cX3_rightMinute 41 = .ok (.aload_n 0, 1) := by decide +kernel
theorem dX3_rightMinute_42 : decode cX3_rightMinute 42 = .ok (.getfield 36, 3) := by decide +kernel
theorem dX3_rightMinute_45 : decode cX3_rightMinute 45 = .ok (.getfield 116, 3) := by decide +kernel
theorem dX3_rightMinute_48 : decode cX3_rightMinute 48 = .ok (.iload 5, 2) := by decide +kernel
theorem dX3_rightMinute_50 : decode cX3_rightMinute 50 = .ok (.iaload, 1) := by decide +kernel
theorem dX3_rightMinute_51 : decode cX3_rightMinute 51 = .ok (.istore_n 2, 1) := by decide +kernel
theorem dX3_rightMinute_52 : decode cX3_rightMinute 52 = .ok (.aload_n 0, 1) := by decide +kernel
theorem dX3_rightMinute_53 : decode cX3_rightMinute 53 = .ok (.getfield 36, 3) := by decide +kernel
theorem dX3_rightMinute_56 : decode cX3_rightMinute 56 = .ok (.getfield 86, 3) := by decide +kernel
theorem dX3_rightMinute_59 : decode cX3_rightMinute 59 = .ok (.iload 5, 2) := by decide +kernel
theorem dX3_rightMinute_61 : decode cX3_rightMinute 61 = .ok (.iaload, 1) := by decide +kernel
theorem dX3_rightMinute_62 : decode cX3_rightMinute 62 = .ok (.istore_n 3, 1) := by decide +kernel
theorem dX3_rightMinute_63 : decode cX3_rightMinute 63 = .ok (.iinc 4 1, 3) := by decide +kernel
theorem dX3_rightMinute_66 : decode cX3_rightMinute 66 = .ok (.goto (-56), 3) := by decide +kernel
theorem dX3_rightMinute_69 : decode cX3_rightMinute 69 = .ok (.iload_n 2, 1) := by decide +kernel
theorem dX3_rightMinute_70 : decode cX3_rightMinute 70 = .ok (.ireturn, 1) := by decide +kernel
theorem dX3_firstRight_0 : decode cX3_firstRight 0 = .ok (.aload_n 0, 1) := by decide +kernel
theorem dX3_firstRight_1 : decode cX3_firstRight 1 = .ok (.iload_n 1, 1) := by decide +kernel
theorem dX3_firstRight_2 : decode cX3_firstRight 2 = .ok (.iload_n 2, 1) := by decide +kernel
theorem dX3_firstRight_3 : decode cX3_firstRight 3 = .ok (.invokevirtual 83, 3) := by decide +kernel
theorem dX3_firstRight_6 : decode cX3_firstRight 6 = .ok (.istore_n 3, 1) := by decide +kernel
theorem dX3_firstRight_7 : decode cX3_firstRight 7 = .ok (.iconst 0, 1) := by decide +kernel
theorem dX3_firstRight_8 : decode cX3_firstRight 8 = .ok (.istore 4, 2) := by decide +kernel
theorem dX3_firstRight_10 : decode cX3_firstRight 10 = .ok (.iload 4, 2) := by decide +kernel
theorem dX3_firstRight_12 : decode cX3_firstRight 12 = .ok (.iload_n 3, 1) := by decide +kernel
theorem dX3_firstRight_13 : decode cX3_firstRight 13 = .ok (.if_icmp .ge 34, 3) := by decide +kernel
theorem dX3_firstRight_16 : decode cX3_firstRight 16 = .ok (.aload_n 0, 1) := by decide +kernel
theorem dX3_firstRight_17 : decode cX3_firstRight 17 = .ok (.iload_n 1, 1) := by decide +kernel
theorem dX3_firstRight_18 : decode cX3_firstRight 18 = .ok (.iload 4, 2) := by decide +kernel
theorem dX3_firstRight_20 : decode cX3_firstRight 20 = .ok (.invokevirtual 108, 3) := by decide +kernel
theorem dX3_firstRight_23 : decode cX3_firstRight 23 = .ok (.aload_n 0, 1) := by decide +kernel
theorem dX3_firstRight_24 : decode cX3_firstRight 24 = .ok (.getfield 15, 3) := by decide +kernel
theorem dX3_firstRight_27 : decode cX3_firstRight 27 = .ok (.iload_n 1, 1) := by decide +kernel
theorem dX3_firstRight_28 : decode cX3_firstRight 28 = .ok (.sipush 700, 3) := by decide +kernel
theorem dX3_firstRight_31 : decode cX3_firstRight 31 = .ok (.imul, 1) := by decide +kernel
theorem dX3_firstRight_32 : decode cX3_firstRight 32 = .ok (.iload_n 2, 1) := by decide +kernel
theorem dX3_firstRight_33 : decode cX3_firstRight 33 = .ok (.iadd, 1) := by decide +kernel
theorem dX3_firstRight_34 : decode cX3_firstRight 34 = .ok (.baload, 1) := by decide +kernel
theorem dX3_firstRight_35 : decode cX3_firstRight 35 = .ok (.if_icmp .ne 6, 3) := by decide +kernel
theorem dX3_firstRight_38 : decode cX3_firstRight 38 = .ok (.iload 4, 2) := by decide +kernel
theorem dX3_firstRight_40 : decode cX3_firstRight 40 = .ok (.ireturn, 1) := by decide +kernel
theorem dX3_firstRight_41 : decode cX3_firstRight 41 = .ok (.iinc 4 1, 3) := by decide +kernel
theorem dX3_firstRight_44 : decode cX3_firstRight 44 = .ok (.goto (-34), 3) := by decide +kernel
theorem dX3_firstRight_47 : decode cX3_firstRight 47 = .ok (.iconst (-1), 1) := by decide +kernel
theorem dX3_firstRight_48 : decode cX3_firstRight 48 = .ok (.ireturn, 1) := by decide +kernel
theorem dX3_longestKept_0 : decode cX3_longestKept 0 = .ok (.iconst 0, 1) := by decide +kernel
theorem dX3_longestKept_1 : decode cX3_longestKept 1 = .ok (.istore_n 1, 1) := by decide +kernel
theorem dX3_longestKept_2 : decode cX3_longestKept 2 = .ok (.aload_n 0, 1) := by decide +kernel
theorem dX3_longestKept_3 : decode cX3_longestKept 3 = .ok (.getfield 90, 3) := by decide +kernel
theorem dX3_longestKept_6 : decode cX3_longestKept 6 = .ok (.istore_n 2, 1) := by decide +kernel
theorem dX3_longestKept_7 : decode cX3_longestKept 7 = .ok (.iconst 0, 1) := by decide +kernel
theorem dX3_longestKept_8 : decode cX3_longestKept 8 = .ok (.istore_n 3, 1) := by decide +kernel
theorem dX3_longestKept_9 : decode cX3_longestKept 9 = .ok (.iload_n 3, 1) := by decide +kernel
theorem dX3_longestKept_10 : decode cX3_longestKept 10 = .ok (.aload_n 0, 1) := by decide +kernel
theorem dX3_longestKept_11 : decode cX3_longestKept 11 = .ok (.getfield 40, 3) := by decide +kernel
theorem dX3_longestKept_14 : decode cX3_longestKept 14 = .ok (.if_icmp .ge 48, 3) := by decide +kernel
theorem dX3_longestKept_17 : decode cX3_longestKept 17 = .ok (.aload_n 0, 1) := by decide +kernel
theorem dX3_longestKept_18 : decode cX3_longestKept 18 = .ok (.iload_n 2, 1) := by decide +kernel
theorem dX3_longestKept_19 : decode cX3_longestKept 19 = .ok (.iload_n 3, 1) := by decide +kernel
theorem dX3_longestKept_20 : decode cX3_longestKept 20 = .ok (.invokevirtual 43, 3) := by decide +kernel
theorem dX3_longestKept_23 : decode cX3_longestKept 23 = .ok (.ifCond .eq 39, 3) := by decide +kernel
theorem dX3_longestKept_26 : decode cX3_longestKept 26 = .ok (.aload_n 0, 1) := by decide +kernel
theorem dX3_longestKept_27 : decode cX3_longestKept 27 = .ok (.iload_n 2, 1) := by decide +kernel
theorem dX3_longestKept_28 : decode cX3_longestKept 28 = .ok (.iload_n 3, 1) := by decide +kernel
theorem dX3_longestKept_29 : decode cX3_longestKept 29 = .ok (.invokevirtual 47, 3) := by decide +kernel
theorem dX3_longestKept_32 : decode cX3_longestKept 32 = .ok (.istore_n 2, 1) := by decide +kernel
theorem dX3_longestKept_33 : decode cX3_longestKept 33 = .ok (.aload_n 0, 1) := by decide +kernel
theorem dX3_longestKept_34 : decode cX3_longestKept 34 = .ok (.getfield 15, 3) := by decide +kernel
theorem dX3_longestKept_37 : decode cX3_longestKept 37 = .ok (.iload_n 3, 1) := by decide +kernel
theorem dX3_longestKept_38 : decode cX3_longestKept 38 = .ok (.iconst 1, 1) := by decide +kernel
theorem dX3_longestKept_39 : decode cX3_longestKept 39 = .ok (.iadd, 1) := by decide +kernel
theorem dX3_longestKept_40 : decode cX3_longestKept 40 = .ok (.sipush 700, 3) := by decide +kernel
theorem dX3_longestKept_43 : decode cX3_longestKept 43 = .ok (.imul, 1) := by decide +kernel
theorem dX3_longestKept_44 : decode cX3_longestKept 44 = .ok (.iload_n 2, 1) := by decide +kernel
theorem dX3_longestKept_45 : decode cX3_longestKept 45 = .ok (.iadd, 1) := by decide +kernel
theorem dX3_longestKept_46 : decode cX3_longestKept 46 = .ok (.baload, 1) := by decide +kernel
theorem dX3_longestKept_47 : decode cX3_longestKept 47 = .ok (.bipush 100, 2) := by decide +kernel
theorem dX3_longestKept_49 : decode cX3_longestKept 49 = .ok (.if_icmp .eq 7, 3) := by decide +kernel
theorem dX3_longestKept_52 : decode cX3_longestKept 52 = .ok (.iload_n 3, 1) := by decide +kernel
theorem dX3_longestKept_53 : decode cX3_longestKept 53 = .ok (.iconst 1, 1) := by decide +kernel
theorem dX3_longestKept_54 : decode cX3_longestKept 54 = .ok (.iadd, 1) := by decide +kernel
theorem dX3_longestKept_55 : decode cX3_longestKept 55 = .ok (.istore_n 1, 1) := by decide +kernel
theorem dX3_longestKept_56 : decode cX3_longestKept 56 = .ok (.iinc 3 1, 3) := by decide +kernel
theorem dX3_longestKept_59 : decode cX3_longestKept 59 = .ok (.goto (-50), 3) := by decide +kernel
theorem dX3_longestKept_62 : decode cX3_longestKept 62 = .ok (.iload_n 1, 1) := by decide +kernel
theorem dX3_longestKept_63 : decode cX3_longestKept 63 = .ok (.ireturn, 1) := by decide +kernel
theorem dX3_minutesThatFit_0 : decode cX3_minutesThatFit 0 = .ok (.lconst 0, 1) := by decide +kernel
theorem dX3_minutesThatFit_1 : decode cX3_minutesThatFit 1 = .ok (.lstore_n 2, 1) := by decide +kernel
theorem dX3_minutesThatFit_2 : decode cX3_minutesThatFit 2 = .ok (.iload_n 1, 1) := by decide +kernel
theorem dX3_minutesThatFit_3 : decode cX3_minutesThatFit 3 = .ok (.ifCond .lt 11, 3) := by decide +kernel
theorem dX3_minutesThatFit_6 : decode cX3_minutesThatFit 6 = .ok (.iload_n 1, 1) := by decide +kernel
theorem dX3_minutesThatFit_7 : decode cX3_minutesThatFit 7 = .ok (.aload_n 0, 1) := by decide +kernel
theorem dX3_minutesThatFit_8 : decode cX3_minutesThatFit 8 = .ok (.getfield 40, 3) := by decide +kernel
theorem dX3_minutesThatFit_11 : decode cX3_minutesThatFit 11 = .ok (.if_icmp .lt 5, 3) := by decide +kernel
theorem dX3_minutesThatFit_14 : decode cX3_minutesThatFit 14 = .ok (.lload_n 2, 1) := by decide +kernel
theorem dX3_minutesThatFit_15 : decode cX3_minutesThatFit 15 = .ok (.lreturn, 1) := by decide +kernel
theorem dX3_minutesThatFit_16 : decode cX3_minutesThatFit 16 = .ok (.aload_n 0, 1) := by decide +kernel
theorem dX3_minutesThatFit_17 : decode cX3_minutesThatFit 17 = .ok (.getfield 22, 3) := by decide +kernel
theorem dX3_minutesThatFit_20 : decode cX3_minutesThatFit 20 = .ok (.iload_n 1, 1) := by decide +kernel
theorem dX3_minutesThatFit_21 : decode cX3_minutesThatFit 21 = .ok (.iaload, 1) := by decide +kernel
theorem dX3_minutesThatFit_22 : decode cX3_minutesThatFit 22 = .ok (.istore 4, 2) := by decide +kernel
theorem dX3_minutesThatFit_24 : decode cX3_minutesThatFit 24 = .ok (.iload 4, 2) := by decide +kernel
theorem dX3_minutesThatFit_26 : decode cX3_minutesThatFit 26 = .ok (.aload_n 0, 1) := by decide +kernel
theorem dX3_minutesThatFit_27 : decode cX3_minutesThatFit 27 = .ok (.getfield 22, 3) := by decide +kernel
theorem dX3_minutesThatFit_30 : decode cX3_minutesThatFit 30 = .ok (.iload_n 1, 1) := by decide +kernel
theorem dX3_minutesThatFit_31 : decode cX3_minutesThatFit 31 = .ok (.iconst 1, 1) := by decide +kernel
theorem dX3_minutesThatFit_32 : decode cX3_minutesThatFit 32 = .ok (.iadd, 1) := by decide +kernel
theorem dX3_minutesThatFit_33 : decode cX3_minutesThatFit 33 = .ok (.iaload, 1) := by decide +kernel
theorem dX3_minutesThatFit_34 : decode cX3_minutesThatFit 34 = .ok (.if_icmp .ge 77, 3) := by decide +kernel
theorem dX3_minutesThatFit_37 : decode cX3_minutesThatFit 37 = .ok (.aload_n 0, 1) := by decide +kernel
theorem dX3_minutesThatFit_38 : decode cX3_minutesThatFit 38 = .ok (.iload_n 1, 1) := by decide +kernel
theorem dX3_minutesThatFit_39 : decode cX3_minutesThatFit 39 = .ok (.aload_n 0, 1) := by decide +kernel
theorem dX3_minutesThatFit_40 : decode cX3_minutesThatFit 40 = .ok (.getfield 19, 3) := by decide +kernel
theorem dX3_minutesThatFit_43 : decode cX3_minutesThatFit 43 = .ok (.iload 4, 2) := by decide +kernel
theorem dX3_minutesThatFit_45 : decode cX3_minutesThatFit 45 = .ok (.iaload, 1) := by decide +kernel
theorem dX3_minutesThatFit_46 : decode cX3_minutesThatFit 46 = .ok (.invokevirtual 83, 3) := by decide +kernel
theorem dX3_minutesThatFit_49 : decode cX3_minutesThatFit 49 = .ok (.istore 5, 2) := by decide +kernel
theorem dX3_minutesThatFit_51 : decode cX3_minutesThatFit 51 = .ok (.iconst 0, 1) := by decide +kernel
theorem dX3_minutesThatFit_52 : decode cX3_minutesThatFit 52 = .ok (.istore 6, 2) := by decide +kernel
theorem dX3_minutesThatFit_54 : decode cX3_minutesThatFit 54 = .ok (.iload 6, 2) := by decide +kernel
theorem dX3_minutesThatFit_56 : decode cX3_minutesThatFit 56 = .ok (.iload 5, 2) := by decide +kernel
theorem dX3_minutesThatFit_58 : decode cX3_minutesThatFit 58 = .ok (.if_icmp .ge 47, 3) := by decide +kernel
theorem dX3_minutesThatFit_61 : decode cX3_minutesThatFit 61 = .ok (.aload_n 0, 1) := by decide +kernel
theorem dX3_minutesThatFit_62 : decode cX3_minutesThatFit 62 = .ok (.iload_n 1, 1) := by decide +kernel
theorem dX3_minutesThatFit_63 : decode cX3_minutesThatFit 63 = .ok (.iload 6, 2) := by decide +kernel
theorem dX3_minutesThatFit_65 : decode cX3_minutesThatFit 65 = .ok (.invokevirtual 108, 3) := by decide +kernel
theorem dX3_minutesThatFit_68 : decode cX3_minutesThatFit 68 = .ok (.ifCond .ne 31, 3) := by decide +kernel
theorem dX3_minutesThatFit_71 : decode cX3_minutesThatFit 71 = .ok (.aload_n 0, 1) := by decide +kernel
theorem dX3_minutesThatFit_72 : decode cX3_minutesThatFit 72 = .ok (.getfield 36, 3) := by decide +kernel
theorem dX3_minutesThatFit_75 : decode cX3_minutesThatFit 75 = .ok (.getfield 116, 3) := by decide +kernel
theorem dX3_minutesThatFit_78 : decode cX3_minutesThatFit 78 = .ok (.iload 6, 2) := by decide +kernel
theorem dX3_minutesThatFit_80 : decode cX3_minutesThatFit 80 = .ok (.iaload, 1) := by decide +kernel
theorem dX3_minutesThatFit_81 : decode cX3_minutesThatFit 81 = .ok (.istore 7, 2) := by decide +kernel
theorem dX3_minutesThatFit_83 : decode cX3_minutesThatFit 83 = .ok (.lload_n 2, 1) := by decide +kernel
theorem dX3_minutesThatFit_84 : decode cX3_minutesThatFit 84 = .ok (.iload 7, 2) := by decide +kernel
theorem dX3_minutesThatFit_86 : decode cX3_minutesThatFit 86 = .ok (.bipush 10, 2) := by decide +kernel
theorem dX3_minutesThatFit_88 : decode cX3_minutesThatFit 88 = .ok (.idiv, 1) := by decide +kernel
theorem dX3_minutesThatFit_89 : decode cX3_minutesThatFit 89 = .ok (.iload 7, 2) := by decide +kernel
theorem dX3_minutesThatFit_91 : decode cX3_minutesThatFit 91 = .ok (.bipush 10, 2) := by decide +kernel
theorem dX3_minutesThatFit_93 : decode cX3_minutesThatFit 93 = .ok (.irem, 1) := by decide +kernel
theorem dX3_minutesThatFit_94 : decode cX3_minutesThatFit 94 = .ok (.invokestatic 64, 3) := by decide +kernel
theorem dX3_minutesThatFit_97 : decode cX3_minutesThatFit 97 = .ok (.lor, 1) := by decide +kernel
theorem dX3_minutesThatFit_98 : decode cX3_minutesThatFit 98 = .ok (.lstore_n 2, 1) := by decide +kernel
theorem dX3_minutesThatFit_99 : decode cX3_minutesThatFit 99 = .ok (.iinc 6 1, 3) := by decide +kernel
theorem dX3_minutesThatFit_102 : decode cX3_minutesThatFit 102 = .ok (.goto (-48), 3) := by decide +kernel
theorem dX3_minutesThatFit_105 : decode cX3_minutesThatFit 105 = .ok (.iinc 4 1, 3) := by decide +kernel
theorem dX3_minutesThatFit_108 : decode cX3_minutesThatFit 108 = .ok (.goto (-84), 3) := by decide +kernel
theorem dX3_minutesThatFit_111 : decode cX3_minutesThatFit 111 = .ok (.lload_n 2, 1) := by decide +kernel
theorem dX3_minutesThatFit_112 : decode cX3_minutesThatFit 112 = .ok (.lreturn, 1) := by decide +kernel
section
variable (d : Nat) (sh : mbSh) (ct : mbCt)
theorem c_tellSize {n : Int} (S : SH sh) (L : LK ct) (n0 : 0 ≤ n) (n1 : n ≤ 12) (h2 : 0 ≤ ct 80 2 ∧ ct 80 2 ≤ 12) : Mt YX3_tellSize d [.inr (.inr 80), .inl n] sh sh ct (pN fun c => c 80 2 = n ∧ eqBut [80] ct c ∧ (∀ k, k ≠ 2 → k ≠ 9 → c 80 k = ct 80 k) ∧ ((c 80 9 = ct 80 9 ∧ ct 80 2 = n) ∨ c 80 9 = -1)) := by
  refine Mt.of rfl (Nat.le_of_ble_eq_true rfl) ?_
  show G _ 0 [some (.inr (.inr 80)), some (.inl n)] [] sh ct
  refine g_aload_n (q := 1) dX3_tellSize_0 rfl rfl ?_
  refine g_getI (q := 4) (kI := 2) fX3_40 (by first | assumption | exact S.at _ rfl) dX3_tellSize_1 rfl rfl ?_
  refine g_iload_n (q := 5) dX3_tellSize_4 rfl rfl ?_
  refine g_icmp_eq (q := 8) (tg := 28) dX3_tellSize_5 (by decide) rfl (fun c_5 => ?_) (fun c_5 => ?_)
  · refine g_return dX3_tellSize_28 rfl ?_
    have e : ct 80 2 = n := by unfold w32 at c_5; omega
    exact ⟨rfl, e, eqBut.rf, fun _ _ _ => rfl, Or.inl ⟨rfl, e⟩⟩
  · refine g_iload_n (q := 9) dX3_tellSize_8 rfl rfl ?_
    refine g_if_lt (q := 12) (tg := 28) dX3_tellSize_9 (by decide) rfl (fun c_9 => ?_) (fun c_9 => ?_)
    · exact absurd c_9 (by unfold w32; omega)
    · refine g_iload_n (q := 13) dX3_tellSize_12 rfl rfl ?_
      refine g_bipush (q := 15) dX3_tellSize_13 (by decide +kernel) rfl ?_
      refine g_icmp_gt (q := 18) (tg := 28) dX3_tellSize_15 (by decide) rfl (fun c_15 => ?_) (fun c_15 => ?_)
      · exact absurd c_15 (by unfold w32; omega)
      · refine g_aload_n (q := 19) dX3_tellSize_18 rfl rfl ?_
        refine g_iload_n (q := 20) dX3_tellSize_19 rfl rfl ?_
        refine g_putI (q := 23) (kI := 2) fX3_40 (by first | assumption | exact S.at _ rfl) dX3_tellSize_20 rfl rfl ?_
        refine g_aload_n (q := 24) dX3_tellSize_23 rfl rfl ?_
        refine g_iconst (q := 25) dX3_tellSize_24 rfl ?_
        refine g_putI (q := 28) (kI := 9) fX3_32 (by first | assumption | exact S.at _ rfl) dX3_tellSize_25 rfl rfl ?_
        refine g_return dX3_tellSize_28 rfl ?_
        refine ⟨rfl, by rw [wr_nk (by decide), wr_eq], (eqBut.rf.wr (by decide)).wr (by decide), fun k k2 k9 => by rw [wr_nk k9, wr_nk k2], Or.inr wr_eq⟩
theorem c_tell {i n t : Int} (S : SH sh) (L : LK ct) (i0 : 0 ≤ i) (i1 : i < n) (h2 : ct 80 2 = n) (n1 : n ≤ 12) (t0 : -1 ≤ t) (t1 : t ≤ 1000) (h81 : -1 ≤ ct 81 i ∧ ct 81 i ≤ 1000) : Mt YX3_tell d [.inr (.inr 80), .inl i, .inl t] sh sh ct (pN fun c => c 81 i = t ∧ (∀ k, k ≠ i → c 81 k = ct 81 k) ∧ eqBut [80, 81] ct c ∧ (∀ k, k ≠ 9 → c 80 k = ct 80 k) ∧ ((c 80 9 = ct 80 9 ∧ ct 81 i = t) ∨ c 80 9 = -1)) := by
  have s81 : shA sh 81 = some (20, 12) := S.at _ rfl
  refine Mt.of rfl (Nat.le_of_ble_eq_true rfl) ?_
  show G _ 0 [some (.inr (.inr 80)), some (.inl i), some (.inl t)] [] sh ct
  refine g_iload_n (q := 1) dX3_tell_0 rfl rfl ?_
  refine g_if_lt (q := 4) (tg := 34) dX3_tell_1 (by decide) rfl (fun c_1 => ?_) (fun c_1 => ?_)
  · exact absurd c_1 (by unfold w32; omega)
  · refine g_iload_n (q := 5) dX3_tell_4 rfl rfl ?_
    refine g_aload_n (q := 6) dX3_tell_5 rfl rfl ?_
    refine g_getI (q := 9) (kI := 2) fX3_40 (by first | assumption | exact S.at _ rfl) dX3_tell_6 rfl rfl ?_
    rw [h2]
    refine g_icmp_ge (q := 12) (tg := 34) dX3_tell_9 (by decide) rfl (fun c_9 => ?_) (fun c_9 => ?_)
    · exact absurd c_9 (by unfold w32; omega)
    · refine g_aload_n (q := 13) dX3_tell_12 rfl rfl ?_
      refine g_getA (q := 16) (kI := 1) fX3_9 (by first | assumption | exact S.at _ rfl) dX3_tell_13 rfl rfl (by first | assumption | exact L.at _ _ rfl | exact LK.at (by assumption) _ _ rfl | ((repeat first | rewrite [wr_na (by decide)] | rewrite [wr_nk (by decide)] | rewrite [wa_na (by decide)]); first | assumption | exact LK.at (by assumption) _ _ rfl) | exact rfl) ?_
      refine g_iload_n (q := 17) dX3_tell_16 rfl rfl ?_
      refine g_iaload (q := 18) (by first | assumption | exact S.at _ rfl) (by omega) (by omega) (by omega) dX3_tell_17 rfl ?_
      refine g_iload_n (q := 19) dX3_tell_18 rfl rfl ?_
      refine g_icmp_eq (q := 22) (tg := 34) dX3_tell_19 (by decide) rfl (fun c_19 => ?_) (fun c_19 => ?_)
      · refine g_return dX3_tell_34 rfl ?_
        have e : ct 81 i = t := by unfold w32 at c_19; omega
        exact ⟨rfl, e, fun _ _ => rfl, eqBut.rf, fun _ _ => rfl, Or.inl ⟨rfl, e⟩⟩
      · refine g_aload_n (q := 23) dX3_tell_22 rfl rfl ?_
        refine g_getA (q := 26) (kI := 1) fX3_9 (by first | assumption | exact S.at _ rfl) dX3_tell_23 rfl rfl (by first | assumption | exact L.at _ _ rfl | exact LK.at (by assumption) _ _ rfl | ((repeat first | rewrite [wr_na (by decide)] | rewrite [wr_nk (by decide)] | rewrite [wa_na (by decide)]); first | assumption | exact LK.at (by assumption) _ _ rfl) | exact rfl) ?_
        refine g_iload_n (q := 27) dX3_tell_26 rfl rfl ?_
        refine g_iload_n (q := 28) dX3_tell_27 rfl rfl ?_
        refine g_iastore (q := 29) (by first | assumption | exact S.at _ rfl) (by omega) (by omega) (by omega) dX3_tell_28 rfl ?_
        refine g_aload_n (q := 30) dX3_tell_29 rfl rfl ?_
        refine g_iconst (q := 31) dX3_tell_30 rfl ?_
        refine g_putI (q := 34) (kI := 9) fX3_32 (by first | assumption | exact S.at _ rfl) dX3_tell_31 rfl rfl ?_
        refine g_return dX3_tell_34 rfl ?_
        refine ⟨rfl, by rw [wr_na (by decide), wr_eq], fun k hk => by rw [wr_na (by decide), wr_nk hk], (eqBut.rf.wr (by decide)).wr (by decide), fun k hk => by rw [wr_nk hk, wr_na (by decide)], Or.inr wr_eq⟩
theorem c_toldBit {i : Int} {β : Bk} {t : Int} (S : SH sh) (L : LK ct) (i0 : 0 ≤ i) (i1 : i < 12) (ht : ct 81 i = t) (ho : toldOk β t) (hb2 : β.n 2 ≤ 6) (hb3 : β.n 3 ≤ 8) : Mt YX3_toldBit (d + 1) [.inr (.inr 80), .inl i] sh sh ct (pL fun r c => r = (if t = -1 then 0 else 2 ^ tIdx t) ∧ c = ct) := by
  have s81 : shA sh 81 = some (20, 12) := S.at _ rfl
  refine Mt.of rfl (Nat.le_of_ble_eq_true rfl) ?_
  show G _ 0 [some (.inr (.inr 80)), some (.inl i)] [] sh ct
  refine g_aload_n (q := 1) dX3_toldBit_0 rfl rfl ?_
  refine g_getA (q := 4) (kI := 1) fX3_9 (by first | assumption | exact S.at _ rfl) dX3_toldBit_1 rfl rfl (by first | assumption | exact L.at _ _ rfl | exact LK.at (by assumption) _ _ rfl | ((repeat first | rewrite [wr_na (by decide)] | rewrite [wr_nk (by decide)] | rewrite [wa_na (by decide)]); first | assumption | exact LK.at (by assumption) _ _ rfl) | exact rfl) ?_
  refine g_iload_n (q := 5) dX3_toldBit_4 rfl rfl ?_
  refine g_iaload (q := 6) (by first | assumption | exact S.at _ rfl) (by omega) (by omega) (by omega) dX3_toldBit_5 rfl ?_
  rw [ht]
  rcases ho with rfl | ⟨t0, t1, t2⟩
  · refine g_iconst (q := 7) dX3_toldBit_6 rfl ?_
    refine g_icmp_ne (q := 10) (tg := 14) dX3_toldBit_7 (by decide) rfl (fun c_7 => ?_) (fun c_7 => ?_)
    · exact absurd rfl c_7
    · refine g_lconst0 (q := 11) dX3_toldBit_10 rfl ?_
      refine g_goto (q := 35) dX3_toldBit_11 (by decide) ?_
      refine g_lreturn dX3_toldBit_35 rfl ?_
      exact ⟨_, rfl, rfl, rfl⟩
  · have e1 : (w32 t).tdiv (w32 10) = t / 10 := by rw [w32_id (by omega) (by omega), td_pos t0]; rfl
    have e2 : (w32 t).tmod (w32 10) = t % 10 := by rw [w32_id (by omega) (by omega), tm_pos t0]; rfl
    refine g_iconst (q := 7) dX3_toldBit_6 rfl ?_
    refine g_icmp_ne (q := 10) (tg := 14) dX3_toldBit_7 (by decide) rfl (fun c_7 => ?_) (fun c_7 => ?_)
    · refine g_aload_n (q := 15) dX3_toldBit_14 rfl rfl ?_
      refine g_getA (q := 18) (kI := 1) fX3_9 (by first | assumption | exact S.at _ rfl) dX3_toldBit_15 rfl rfl (by first | assumption | exact L.at _ _ rfl | exact LK.at (by assumption) _ _ rfl | ((repeat first | rewrite [wr_na (by decide)] | rewrite [wr_nk (by decide)] | rewrite [wa_na (by decide)]); first | assumption | exact LK.at (by assumption) _ _ rfl) | exact rfl) ?_
      refine g_iload_n (q := 19) dX3_toldBit_18 rfl rfl ?_
      refine g_iaload (q := 20) (by first | assumption | exact S.at _ rfl) (by omega) (by omega) (by omega) dX3_toldBit_19 rfl ?_
      rw [ht]
      refine g_bipush (q := 22) dX3_toldBit_20 (by decide +kernel) rfl ?_
      refine g_idiv (q := 23) dX3_toldBit_22 (by decide) rfl ?_
      rw [e1]
      refine g_aload_n (q := 24) dX3_toldBit_23 rfl rfl ?_
      refine g_getA (q := 27) (kI := 1) fX3_9 (by first | assumption | exact S.at _ rfl) dX3_toldBit_24 rfl rfl (by first | assumption | exact L.at _ _ rfl | exact LK.at (by assumption) _ _ rfl | ((repeat first | rewrite [wr_na (by decide)] | rewrite [wr_nk (by decide)] | rewrite [wa_na (by decide)]); first | assumption | exact LK.at (by assumption) _ _ rfl) | exact rfl) ?_
      refine g_iload_n (q := 28) dX3_toldBit_27 rfl rfl ?_
      refine g_iaload (q := 29) (by first | assumption | exact S.at _ rfl) (by omega) (by omega) (by omega) dX3_toldBit_28 rfl ?_
      rw [ht]
      refine g_bipush (q := 31) dX3_toldBit_29 (by decide +kernel) rfl ?_
      refine g_irem (q := 32) dX3_toldBit_31 (by decide) rfl ?_
      rw [e2]
      refine g_callSN (q := 35) lX3_64 mX11_minuteBit sX11_minuteBit rfl (c_minuteBit d sh ct (m := t / 10) (s := t % 10) (by omega) (by omega) (by omega) (by omega)) shLe.rf (rmOk.mk (by omega) (by first | exact shLe.rf | assumption)) (Nat.le_of_ble_eq_true rfl) dX3_toldBit_32 rfl rfl (kL fun r c hp => ?_)
      obtain ⟨rfl, rfl⟩ := hp
      refine g_lreturn dX3_toldBit_35 rfl ?_
      refine ⟨_, rfl, ?_, rfl⟩
      rw [if_neg (by omega)]
      rfl
    · exact absurd c_7 (by unfold w32; omega)
theorem c_canStay {i b st : Int} {β : Bk} {mk : Int → Int} {t : Int} (S : SH sh) (M : MV ct b β mk) (i0 : 0 ≤ i) (i1 : i < 12) (ht : ct 81 i = t) (ho : toldOk β t) (h0 : 0 ≤ st) (h1 : st < 700) : Mt YX3_canStay (d + 3) [.inr (.inr 80), .inl st, .inl i] sh sh ct (pI fun r c => r = b01 (t ≠ -1 ∧ canB β mk st (tIdx t) = true) ∧ MVt ct c b β mk) := by
  have L := M.L
  have hm := M.me
  have hs := M.sy
  refine Mt.of rfl (Nat.le_of_ble_eq_true rfl) ?_
  show G _ 0 [some (.inr (.inr 80)), some (.inl st), some (.inl i)] [] sh ct
  refine g_aload_n (q := 1) dX3_canStay_0 rfl rfl ?_
  refine g_getO (q := 4) (kI := 0) fX3_36 (by first | assumption | exact S.at _ rfl) dX3_canStay_1 rfl rfl (by first | assumption | exact L.at _ _ rfl | exact LK.at (by assumption) _ _ rfl | ((repeat first | rewrite [wr_na (by decide)] | rewrite [wr_nk (by decide)] | rewrite [wa_na (by decide)]); first | assumption | exact LK.at (by assumption) _ _ rfl) | exact rfl) ?_
  refine g_iload_n (q := 5) dX3_canStay_4 rfl rfl ?_
  refine g_callV (q := 8) lX3_51 mX4_minutesAt nX4_minutesAt rfl (m_minutesAt d sh ct S M h0 h1) (by first | assumption | exact S.at _ rfl) rfl rfl shLe.rf (rmOk.mk (by omega) (by first | exact shLe.rf | assumption)) (Nat.le_of_ble_eq_true rfl) dX3_canStay_5 rfl rfl (kL fun r c hp => ?_)
  obtain ⟨rfl, m1⟩ := hp
  have L1 := m1.2.L
  refine g_aload_n (q := 9) dX3_canStay_8 rfl rfl ?_
  refine g_iload_n (q := 10) dX3_canStay_9 rfl rfl ?_
  refine g_callV (q := 13) lX3_57 mX3_toldBit nX3_toldBit rfl (c_toldBit (d + 1) sh c S L1 i0 i1 (by rw [m1.1 81 (by decide)]; exact ht) ho hm.2 hs.2) (by first | assumption | exact S.at _ rfl) rfl rfl shLe.rf (rmOk.mk (by omega) (by first | exact shLe.rf | assumption)) (Nat.le_of_ble_eq_true rfl) dX3_canStay_10 rfl rfl (kL fun r c2 hp => ?_)
  obtain ⟨rfl, rfl⟩ := hp
  have hz := msN_lt β mk st
  have key : ∃ Z : Nat, andL (msN β mk st) (if t = -1 then 0 else 2 ^ tIdx t) = (Z : Int) ∧ Z < 281474976710656 ∧ (Z = 0 ↔ ¬ (t ≠ -1 ∧ canB β mk st (tIdx t) = true)) := by
    by_cases e : t = -1
    · refine ⟨0, ?_, by omega, ?_⟩
      · rw [if_pos e]
        unfold andL
        show ((_ &&& 0 : Nat) : Int) = _
        rw [Nat.and_zero]
      · simp [e]
    · have h48 : tIdx t < 48 := by
        rcases ho with h | ⟨a1, a2, a3⟩
        · exact absurd h e
        · unfold tIdx
          omega
      refine ⟨msN β mk st &&& 2 ^ tIdx t, ?_, ?_, ?_⟩
      · rw [if_neg e, and_pow h48]
      · have : msN β mk st &&& 2 ^ tIdx t ≤ msN β mk st := Nat.and_le_left
        omega
      · rw [and_pow_0, msN_bit, decide_eq_true h48, Bool.true_and]
        simp [e]
  obtain ⟨Z, k1, k2, k3⟩ := key
  refine g_land (q := 14) dX3_canStay_13 rfl ?_
  rw [k1]
  refine g_lconst0 (q := 15) dX3_canStay_14 rfl ?_
  refine g_lcmp (q := 16) dX3_canStay_15 rfl ?_
  refine g_if_eq (q := 19) (tg := 23) dX3_canStay_16 (by decide) rfl (fun c_16 => ?_) (fun c_16 => ?_)
  · have hZ : Z = 0 := by
      unfold cmpL w64 at c_16
      split at c_16
      · omega
      · split at c_16
        · exact absurd c_16 (by decide)
        · exact absurd c_16 (by decide)
    refine g_iconst (q := 24) dX3_canStay_23 rfl ?_
    refine g_zreturn dX3_canStay_24 rfl (by decide +kernel) ?_
    exact ⟨_, rfl, b01_f (k3.mp hZ), m1⟩
  · have hZ : Z ≠ 0 := by
      intro e
      rw [e] at c_16
      exact c_16 rfl
    refine g_iconst (q := 20) dX3_canStay_19 rfl ?_
    refine g_goto (q := 24) dX3_canStay_20 (by decide) ?_
    refine g_zreturn dX3_canStay_24 rfl (by decide +kernel) ?_
    exact ⟨_, rfl, b01_t (Classical.not_not.mp (fun h => hZ (k3.mpr h))), m1⟩
theorem c_behindTold {i b st : Int} {β : Bk} {mk : Int → Int} {t : Int} (S : SH sh) (M : MV ct b β mk) (i0 : 0 ≤ i) (i1 : i < 12) (ht : ct 81 i = t) (ho : toldOk β t) (h0 : 0 ≤ st) (h1 : st < 700) : Mt YX3_behindTold (d + 1) [.inr (.inr 80), .inl st, .inl i] sh sh ct (pI fun r c => r = (if t = -1 then st else nxB β st (t / 10) (t % 10)) ∧ c = ct) := by
  have L := M.L
  have hm := M.me
  have hs := M.sy
  have s81 : shA sh 81 = some (20, 12) := S.at _ rfl
  refine Mt.of rfl (Nat.le_of_ble_eq_true rfl) ?_
  show G _ 0 [some (.inr (.inr 80)), some (.inl st), some (.inl i)] [] sh ct
  refine g_aload_n (q := 1) dX3_behindTold_0 rfl rfl ?_
  refine g_getA (q := 4) (kI := 1) fX3_9 (by first | assumption | exact S.at _ rfl) dX3_behindTold_1 rfl rfl (by first | assumption | exact L.at _ _ rfl | exact LK.at (by assumption) _ _ rfl | ((repeat first | rewrite [wr_na (by decide)] | rewrite [wr_nk (by decide)] | rewrite [wa_na (by decide)]); first | assumption | exact LK.at (by assumption) _ _ rfl) | exact rfl) ?_
  refine g_iload_n (q := 5) dX3_behindTold_4 rfl rfl ?_
  refine g_iaload (q := 6) (by first | assumption | exact S.at _ rfl) (by omega) (by omega) (by omega) dX3_behindTold_5 rfl ?_
  rw [ht]
  rcases ho with rfl | ⟨t0, t1, t2⟩
  · refine g_iconst (q := 7) dX3_behindTold_6 rfl ?_
    refine g_icmp_ne (q := 10) (tg := 14) dX3_behindTold_7 (by decide) rfl (fun c_7 => ?_) (fun c_7 => ?_)
    · exact absurd rfl c_7
    · refine g_iload_n (q := 11) dX3_behindTold_10 rfl rfl ?_
      refine g_goto (q := 40) dX3_behindTold_11 (by decide) ?_
      refine g_ireturn dX3_behindTold_40 rfl ?_
      exact ⟨_, rfl, rfl, rfl⟩
  · have e1 : (w32 t).tdiv (w32 10) = t / 10 := by rw [w32_id (by omega) (by omega), td_pos t0]; rfl
    have e2 : (w32 t).tmod (w32 10) = t % 10 := by rw [w32_id (by omega) (by omega), tm_pos t0]; rfl
    refine g_iconst (q := 7) dX3_behindTold_6 rfl ?_
    refine g_icmp_ne (q := 10) (tg := 14) dX3_behindTold_7 (by decide) rfl (fun c_7 => ?_) (fun c_7 => ?_)
    · refine g_aload_n (q := 15) dX3_behindTold_14 rfl rfl ?_
      refine g_getO (q := 18) (kI := 0) fX3_36 (by first | assumption | exact S.at _ rfl) dX3_behindTold_15 rfl rfl (by first | assumption | exact L.at _ _ rfl | exact LK.at (by assumption) _ _ rfl | ((repeat first | rewrite [wr_na (by decide)] | rewrite [wr_nk (by decide)] | rewrite [wa_na (by decide)]); first | assumption | exact LK.at (by assumption) _ _ rfl) | exact rfl) ?_
      refine g_iload_n (q := 19) dX3_behindTold_18 rfl rfl ?_
      refine g_aload_n (q := 20) dX3_behindTold_19 rfl rfl ?_
      refine g_getA (q := 23) (kI := 1) fX3_9 (by first | assumption | exact S.at _ rfl) dX3_behindTold_20 rfl rfl (by first | assumption | exact L.at _ _ rfl | exact LK.at (by assumption) _ _ rfl | ((repeat first | rewrite [wr_na (by decide)] | rewrite [wr_nk (by decide)] | rewrite [wa_na (by decide)]); first | assumption | exact LK.at (by assumption) _ _ rfl) | exact rfl) ?_
      refine g_iload_n (q := 24) dX3_behindTold_23 rfl rfl ?_
      refine g_iaload (q := 25) (by first | assumption | exact S.at _ rfl) (by omega) (by omega) (by omega) dX3_behindTold_24 rfl ?_
      rw [ht]
      refine g_bipush (q := 27) dX3_behindTold_25 (by decide +kernel) rfl ?_
      refine g_idiv (q := 28) dX3_behindTold_27 (by decide) rfl ?_
      rw [e1]
      refine g_aload_n (q := 29) dX3_behindTold_28 rfl rfl ?_
      refine g_getA (q := 32) (kI := 1) fX3_9 (by first | assumption | exact S.at _ rfl) dX3_behindTold_29 rfl rfl (by first | assumption | exact L.at _ _ rfl | exact LK.at (by assumption) _ _ rfl | ((repeat first | rewrite [wr_na (by decide)] | rewrite [wr_nk (by decide)] | rewrite [wa_na (by decide)]); first | assumption | exact LK.at (by assumption) _ _ rfl) | exact rfl) ?_
      refine g_iload_n (q := 33) dX3_behindTold_32 rfl rfl ?_
      refine g_iaload (q := 34) (by first | assumption | exact S.at _ rfl) (by omega) (by omega) (by omega) dX3_behindTold_33 rfl ?_
      rw [ht]
      refine g_bipush (q := 36) dX3_behindTold_34 (by decide +kernel) rfl ?_
      refine g_irem (q := 37) dX3_behindTold_36 (by decide) rfl ?_
      rw [e2]
      refine g_callV (q := 40) lX3_60 mX4_behind nX4_behind rfl (m_behind d sh ct S M h0 h1 (m := t / 10) (s := t % 10) (by omega) t2) (by first | assumption | exact S.at _ rfl) rfl rfl shLe.rf (rmOk.mk (by omega) (by first | exact shLe.rf | assumption)) (Nat.le_of_ble_eq_true rfl) dX3_behindTold_37 rfl rfl (kI fun r c hp => ?_)
      obtain ⟨rfl, rfl⟩ := hp
      refine g_ireturn dX3_behindTold_40 rfl ?_
      refine ⟨_, rfl, ?_, rfl⟩
      rw [if_neg (by omega)]
    · exact absurd c_7 (by unfold w32; omega)
/-- what branchFor lays out -/
def bfC (ct : mbCt) (b : Int) (β : Bk) (mk : Int → Int) (st : Int) (Z : Nat) (r : Int) (c : mbCt) : Prop := r = ((brL Z 48).length : Nat) ∧ rowIs (c 75) mnt (brL Z 48) ∧ rowIs (c 76) (fun i => nxB β st (i / 8 : Nat) (i % 8 : Nat)) (brL Z 48) ∧ MVt ct c b β mk
theorem c_branchFor {i b st : Int} {β : Bk} {mk : Int → Int} {t : Int} (S : SH sh) (M : MV ct b β mk) (i0 : 0 ≤ i) (i1 : i < 12) (ht : ct 81 i = t) (ho : toldOk β t) (h0 : 0 ≤ st) (h1 : st < 700) (h8 : ct 80 8 = 0 ∨ ct 80 8 = 1) : Mt YX3_branchFor (d + 3) [.inr (.inr 80), .inl i, .inl st] sh sh ct (pI fun r c => bfC ct b β mk st (alwN (ct 80 8) β mk st t) r c) := by
  have L := M.L
  have hm := M.me
  have hs := M.sy
  have s81 : shA sh 81 = some (20, 12) := S.at _ rfl
  have hz := msN_lt β mk st
  have hal := alwN_lt (ct 80 8) β mk st t
  have hbits : ∀ k, k < 48 → (alwN (ct 80 8) β mk st t).testBit k = true → ((k % 8 : Nat) : Int) < β.n 3 := fun k _ hk => (canB_3 (alwN_in hk).2).2
  generalize hP : (pI fun r c => bfC ct b β mk st (alwN (ct 80 8) β mk st t) r c) = Po
  refine Mt.of rfl (Nat.le_of_ble_eq_true rfl) ?_
  show G _ 0 [some (.inr (.inr 80)), some (.inl i), some (.inl st), none, none] [] sh ct
  refine g_aload_n (q := 1) dX3_branchFor_0 rfl rfl ?_
  refine g_getO (q := 4) (kI := 0) fX3_36 (by first | assumption | exact S.at _ rfl) dX3_branchFor_1 rfl rfl (by first | assumption | exact L.at _ _ rfl | exact LK.at (by assumption) _ _ rfl | ((repeat first | rewrite [wr_na (by decide)] | rewrite [wr_nk (by decide)] | rewrite [wa_na (by decide)]); first | assumption | exact LK.at (by assumption) _ _ rfl) | exact rfl) ?_
  refine g_iload_n (q := 5) dX3_branchFor_4 rfl rfl ?_
  refine g_callV (q := 8) lX3_51 mX4_minutesAt nX4_minutesAt rfl (m_minutesAt (d + 0) sh ct S M h0 h1) (by first | assumption | exact S.at _ rfl) rfl rfl shLe.rf (rmOk.mk (by omega) (by first | exact shLe.rf | assumption)) (Nat.le_of_ble_eq_true rfl) dX3_branchFor_5 rfl rfl (kL fun r c hp => ?_)
  obtain ⟨rfl, m1⟩ := hp
  have L1 := m1.2.L
  have e80 : c 80 = ct 80 := m1.1 80 (by decide)
  have e81 : c 81 = ct 81 := m1.1 81 (by decide)
  have fin : ∀ Z : Int, Z = (alwN (ct 80 8) β mk st t : Nat) → G (mkK YX3_branchFor (d + 3) sh sh Po) 42 [some (.inr (.inr 80)), some (.inl i), some (.inl st), some (.inr (.inl (msN β mk st))), none] [.inr (.inl Z), .inl st, .inr (.inr 70)] sh c := by
    intro Z hZ
    rw [hZ]
    refine g_callV (q := 45) lX3_72 mX4_branch nX4_branch rfl (m_branch (d + 1) sh c S m1.2 h0 h1 (by omega) hbits) (by first | assumption | exact S.at _ rfl) rfl rfl shLe.rf (rmOk.mk (by omega) (by first | exact shLe.rf | assumption)) (Nat.le_of_ble_eq_true rfl) dX3_branchFor_42 rfl rfl (kI fun r c2 hp => ?_)
    obtain ⟨rfl, a1, a2, a3⟩ := hp
    refine g_ireturn dX3_branchFor_45 rfl ?_
    rw [← hP]
    exact ⟨_, rfl, rfl, a1, a2, m1.tr a3⟩
  refine s_lstore_n_5_3 (q := 9) dX3_branchFor_8 rfl rfl rfl ?_
  refine g_aload_n (q := 10) dX3_branchFor_9 rfl rfl ?_
  refine g_getO (q := 13) (kI := 0) fX3_36 (by first | assumption | exact S.at _ rfl) dX3_branchFor_10 rfl rfl (by first | assumption | exact L.at _ _ rfl | exact LK.at (by assumption) _ _ rfl | ((repeat first | rewrite [wr_na (by decide)] | rewrite [wr_nk (by decide)] | rewrite [wa_na (by decide)]); first | assumption | exact LK.at (by assumption) _ _ rfl) | exact rfl) ?_
  refine g_iload_n (q := 14) dX3_branchFor_13 rfl rfl ?_
  refine g_aload_n (q := 15) dX3_branchFor_14 rfl rfl ?_
  refine g_getZ (q := 18) (kI := 8) fX3_68 (by first | assumption | exact S.at _ rfl) dX3_branchFor_15 rfl rfl ?_
  rw [e80]
  rcases h8 with h8 | h8
  · rw [h8]
    refine g_if_eq (q := 21) (tg := 41) dX3_branchFor_18 (by decide) rfl (fun c_18 => ?_) (fun c_18 => ?_)
    · refine g_lload_n (q := 42) dX3_branchFor_41 rfl rfl ?_
      refine fin _ ?_
      unfold alwN
      rw [if_neg (fun h => by rw [h8] at h; exact absurd h.1 (by decide))]
    · exact absurd rfl c_18
  · rw [h8]
    refine g_if_eq (q := 21) (tg := 41) dX3_branchFor_18 (by decide) rfl (fun c_18 => ?_) (fun c_18 => ?_)
    · exact absurd c_18 (by decide)
    · refine g_aload_n (q := 22) dX3_branchFor_21 rfl rfl ?_
      refine g_getA (q := 25) (kI := 1) fX3_9 (by first | assumption | exact S.at _ rfl) dX3_branchFor_22 rfl rfl (by first | assumption | exact L.at _ _ rfl | exact LK.at (by assumption) _ _ rfl | ((repeat first | rewrite [wr_na (by decide)] | rewrite [wr_nk (by decide)] | rewrite [wa_na (by decide)]); first | assumption | exact LK.at (by assumption) _ _ rfl) | exact rfl) ?_
      refine g_iload_n (q := 26) dX3_branchFor_25 rfl rfl ?_
      refine g_iaload (q := 27) (by first | assumption | exact S.at _ rfl) (by omega) (by omega) (by omega) dX3_branchFor_26 rfl ?_
      rw [e81, ht]
      have hto : -1 ≤ t ∧ t < 1000 := by
        rcases ho with h | ⟨a1, a2, a3⟩ <;> omega
      refine g_iconst (q := 28) dX3_branchFor_27 rfl ?_
      refine g_icmp_eq (q := 31) (tg := 41) dX3_branchFor_28 (by decide) rfl (fun c_28 => ?_) (fun c_28 => ?_)
      · have e : t = -1 := by unfold w32 at c_28; omega
        refine g_lload_n (q := 42) dX3_branchFor_41 rfl rfl ?_
        refine fin _ ?_
        unfold alwN
        rw [if_neg (fun h => h.2 e)]
      · have e : t ≠ -1 := by
          intro e
          exact c_28 (by rw [e])
        have h48 : tIdx t < 48 := by
          rcases ho with h | ⟨a1, a2, a3⟩
          · exact absurd h e
          · unfold tIdx
            omega
        refine g_lload_n (q := 32) dX3_branchFor_31 rfl rfl ?_
        refine g_aload_n (q := 33) dX3_branchFor_32 rfl rfl ?_
        refine g_iload_n (q := 34) dX3_branchFor_33 rfl rfl ?_
        refine g_callV (q := 37) lX3_57 mX3_toldBit nX3_toldBit rfl (c_toldBit (d + 1) sh c S L1 i0 i1 (by rw [e81]; exact ht) ho hm.2 hs.2) (by first | assumption | exact S.at _ rfl) rfl rfl shLe.rf (rmOk.mk (by omega) (by first | exact shLe.rf | assumption)) (Nat.le_of_ble_eq_true rfl) dX3_branchFor_34 rfl rfl (kL fun r c2 hp => ?_)
        obtain ⟨rfl, rfl⟩ := hp
        rw [if_neg e]
        refine g_land (q := 38) dX3_branchFor_37 rfl ?_
        rw [and_pow h48]
        refine g_goto (q := 42) dX3_branchFor_38 (by decide) ?_
        refine fin _ ?_
        unfold alwN
        rw [if_pos ⟨h8, e⟩]
end
