/-! sittings, the pile, trays, books, images -/
def cp0 (f g : Int → Int) (n : Int) : Int → Int := fun j => if 0 ≤ j ∧ j < n then f j else g j
theorem cpF_00 (f g : Int → Int) (n : Int) : cpF f g 0 0 n = cp0 f g n := by
  funext j
  unfold cpF cp0
  by_cases h : 0 ≤ j ∧ j < n
  · rw [if_pos h, if_pos (by omega)]
    congr 1
    omega
  · rw [if_neg h, if_neg (by omega)]
def sitAt (sh : mbSh) (ct : mbCt) (a : Int) : Prop := shA sh a = some (8, 3) ∧ shA sh (a + 1) = some (20, 6) ∧ ct a 2 = a + 1
def bkAt (sh : mbSh) (ct : mbCt) (b : Int) : Prop := shA sh b = some (0, 15) ∧ shA sh (b + 1) = some (20, 6) ∧ shA sh (b + 2) = some (20, 8) ∧ shA sh (b + 3) = some (20, 8) ∧ shA sh (b + 4) = some (23, 900) ∧ ct b 11 = b + 1 ∧ ct b 12 = b + 2 ∧ ct b 13 = b + 3 ∧ ct b 14 = b + 4
def trAt (sh : mbSh) (ct : mbCt) (a : Int) : Prop := shA sh a = some (9, 3) ∧ shA sh (a + 1) = some (21, 40) ∧ ct a 0 = a + 1
theorem shA_ne {sh : mbSh} {a b : Int} {p q : Nat × Nat} (ha : shA sh a = some p) (hb : shA sh b = some q) (h : p ≠ q) : a ≠ b := by
  intro e
  subst e
  rw [ha] at hb
  exact h (Option.some.inj hb)
/-- the sitting a becomes as the sitting o is -/
def beC (ct : mbCt) (a o : Int) : mbCt := fun x j => if x = a ∧ j = 0 then ct o 0 else if x = a ∧ j = 1 then ct o 1 else if x = a + 1 ∧ 0 ≤ j ∧ j < 6 then ct (o + 1) j else ct x j
def adC (ct : mbCt) (a b : Int) : mbCt := fun x j => if x = a ∧ j = 0 then (ct b 0 * 10 + ct b 1) * 7 + 6 else if x = a ∧ j = 1 then 0 else ct x j
theorem dX8_adjournTo_0 : decode cX8_adjournTo 0 = .ok (.aload_n 0, 1) := by decide +kernel
theorem dX8_adjournTo_1 : decode cX8_adjournTo 1 = .ok (.aload_n 1, 1) := by decide +kernel
theorem dX8_adjournTo_2 : decode cX8_adjournTo 2 = .ok (.getfield 32, 3) := by decide +kernel
theorem dX8_adjournTo_5 : decode cX8_adjournTo 5 = .ok (.aload_n 1, 1) := by decide +kernel
theorem dX8_adjournTo_6 : decode cX8_adjournTo 6 = .ok (.getfield 35, 3) := by decide +kernel
theorem dX8_adjournTo_9 : decode cX8_adjournTo 9 = .ok (.bipush 6, 2) := by decide +kernel
theorem dX8_adjournTo_11 : decode cX8_adjournTo 11 = .ok (.invokestatic 38, 3) := by decide +kernel
theorem dX8_adjournTo_14 : decode cX8_adjournTo 14 = .ok (.putfield 9, 3) := by decide +kernel
theorem dX8_adjournTo_17 : decode cX8_adjournTo 17 = .ok (.aload_n 0, 1) := by decide +kernel
theorem dX8_adjournTo_18 : decode cX8_adjournTo 18 = .ok (.iconst 0, 1) := by decide +kernel
theorem dX8_adjournTo_19 : decode cX8_adjournTo 19 = .ok (.putfield 42, 3) := by decide +kernel
theorem dX8_adjournTo_22 : decode cX8_adjournTo 22 = .ok (.return_, 1) := by decide +kernel
theorem dX8_begin_0 : decode cX8_begin 0 = .ok (.aload_n 0, 1) := by decide +kernel
theorem dX8_begin_1 : decode cX8_begin 1 = .ok (.aload_n 1, 1) := by decide +kernel
theorem dX8_begin_2 : decode cX8_begin 2 = .ok (.invokevirtual 19, 3) := by decide +kernel
theorem dX8_begin_5 : decode cX8_begin 5 = .ok (.aload_n 1, 1) := by decide +kernel
theorem dX8_begin_6 : decode cX8_begin 6 = .ok (.getfield 23, 3) := by decide +kernel
theorem dX8_begin_9 : decode cX8_begin 9 = .ok (.iconst 0, 1) := by decide +kernel
theorem dX8_begin_10 : decode cX8_begin 10 = .ok (.aload_n 0, 1) := by decide +kernel
theorem dX8_begin_11 : decode cX8_begin 11 = .ok (.getfield 15, 3) := by decide +kernel
theorem dX8_begin_14 : decode cX8_begin 14 = .ok (.iconst 0, 1) := by decide +kernel
theorem dX8_begin_15 : decode cX8_begin 15 = .ok (.bipush 6, 2) := by decide +kernel
theorem dX8_begin_17 : decode cX8_begin 17 = .ok (.invokestatic 26, 3) := by decide +kernel
theorem dX8_begin_20 : decode cX8_begin 20 = .ok (.return_, 1) := by decide +kernel
theorem dX8_become_0 : decode cX8_become 0 = .ok (.aload_n 0, 1) := by decide +kernel
theorem dX8_become_1 : decode cX8_become 1 = .ok (.aload_n 1, 1) := by decide +kernel
theorem dX8_become_2 : decode cX8_become 2 = .ok (.getfield 9, 3) := by decide +kernel
theorem dX8_become_5 : decode cX8_become 5 = .ok (.putfield 9, 3) := by decide +kernel
theorem dX8_become_8 : decode cX8_become 8 = .ok (.aload_n 0, 1) := by decide +kernel
theorem dX8_become_9 : decode cX8_become 9 = .ok (.aload_n 1, 1) := by decide +kernel
theorem dX8_become_10 : decode cX8_become 10 = .ok (.getfield 42, 3) := by decide +kernel
theorem dX8_become_13 : decode cX8_become 13 = .ok (.putfield 42, 3) := by decide +kernel
theorem dX8_become_16 : decode cX8_become 16 = .ok (.aload_n 1, 1) := by decide +kernel
theorem dX8_become_17 : decode cX8_become 17 = .ok (.getfield 15, 3) := by decide +kernel
theorem dX8_become_20 : decode cX8_become 20 = .ok (.iconst 0, 1) := by decide +kernel
theorem dX8_become_21 : decode cX8_become 21 = .ok (.aload_n 0, 1) := by decide +kernel
theorem dX8_become_22 : decode cX8_become 22 = .ok (.getfield 15, 3) := by decide +kernel
theorem dX8_become_25 : decode cX8_become 25 = .ok (.iconst 0, 1) := by decide +kernel
theorem dX8_become_26 : decode cX8_become 26 = .ok (.bipush 6, 2) := by decide +kernel
theorem dX8_become_28 : decode cX8_become 28 = .ok (.invokestatic 26, 3) := by decide +kernel
theorem dX8_become_31 : decode cX8_become 31 = .ok (.return_, 1) := by decide +kernel
theorem dX5_empty_0 : decode cX5_empty 0 = .ok (.aload_n 0, 1) := by decide +kernel
theorem dX5_empty_1 : decode cX5_empty 1 = .ok (.iconst 0, 1) := by decide +kernel
theorem dX5_empty_2 : decode cX5_empty 2 = .ok (.putfield 18, 3) := by decide +kernel
theorem dX5_empty_5 : decode cX5_empty 5 = .ok (.return_, 1) := by decide +kernel
theorem dX5_add_0 : decode cX5_add 0 = .ok (.aload_n 0, 1) := by decide +kernel
theorem dX5_add_1 : decode cX5_add 1 = .ok (.getfield 18, 3) := by decide +kernel
theorem dX5_add_4 : decode cX5_add 4 = .ok (.bipush 10, 2) := by decide +kernel
theorem dX5_add_6 : decode cX5_add 6 = .ok (.if_icmp .ne 26, 3) := by decide +kernel
theorem dX5_add_9 : decode cX5_add 9 = .ok (.aload_n 0, 1) := by decide +kernel
theorem dX5_add_10 : decode cX5_add 10 = .ok (.aload_n 0, 1) := by decide +kernel
theorem dX5_add_11 : decode cX5_add 11 = .ok (.getfield 22, 3) := by decide +kernel
theorem dX5_add_14 : decode cX5_add 14 = .ok (.iconst 1, 1) := by decide +kernel
theorem dX5_add_15 : decode cX5_add 15 = .ok (.iadd, 1) := by decide +kernel
theorem dX5_add_16 : decode cX5_add 16 = .ok (.bipush 10, 2) := by decide +kernel
theorem dX5_add_18 : decode cX5_add 18 = .ok (.irem, 1) := by decide +kernel
theorem dX5_add_19 : decode cX5_add 19 = .ok (.putfield 22, 3) := by decide +kernel
theorem dX5_add_22 : decode cX5_add 22 = .ok (.aload_n 0, 1) := by decide +kernel
theorem dX5_add_23 : decode cX5_add 23 = .ok (.dup, 1) := by decide +kernel
theorem dX5_add_24 : decode cX5_add 24 = .ok (.getfield 18, 3) := by decide +kernel
theorem dX5_add_27 : decode cX5_add 27 = .ok (.iconst 1, 1) := by decide +kernel
theorem dX5_add_28 : decode cX5_add 28 = .ok (.isub, 1) := by decide +kernel
theorem dX5_add_29 : decode cX5_add 29 = .ok (.putfield 18, 3) := by decide +kernel
theorem dX5_add_32 : decode cX5_add 32 = .ok (.aload_n 0, 1) := by decide +kernel
theorem dX5_add_33 : decode cX5_add 33 = .ok (.getfield 11, 3) := by decide +kernel
theorem dX5_add_36 : decode cX5_add 36 = .ok (.aload_n 0, 1) := by decide +kernel
theorem dX5_add_37 : decode cX5_add 37 = .ok (.getfield 22, 3) := by decide +kernel
theorem dX5_add_40 : decode cX5_add 40 = .ok (.aload_n 0, 1) := by decide +kernel
theorem dX5_add_41 : decode cX5_add 41 = .ok (.getfield 18, 3) := by decide +kernel
theorem dX5_add_44 : decode cX5_add 44 = .ok (.iadd, 1) := by decide +kernel
theorem dX5_add_45 : decode cX5_add 45 = .ok (.bipush 10, 2) := by decide +kernel
theorem dX5_add_47 : decode cX5_add 47 = .ok (.irem, 1) := by decide +kernel
theorem dX5_add_48 : decode cX5_add 48 = .ok (.aaload, 1) := by decide +kernel
theorem dX5_add_49 : decode cX5_add 49 = .ok (.aload_n 1, 1) := by decide +kernel
theorem dX5_add_50 : decode cX5_add 50 = .ok (.invokevirtual 25, 3) := by decide +kernel
theorem dX5_add_53 : decode cX5_add 53 = .ok (.aload_n 0, 1) := by decide +kernel
theorem dX5_add_54 : decode cX5_add 54 = .ok (.dup, 1) := by decide +kernel
theorem dX5_add_55 : decode cX5_add 55 = .ok (.getfield 18, 3) := by decide +kernel
theorem dX5_add_58 : decode cX5_add 58 = .ok (.iconst 1, 1) := by decide +kernel
theorem dX5_add_59 : decode cX5_add 59 = .ok (.iadd, 1) := by decide +kernel
theorem dX5_add_60 : decode cX5_add 60 = .ok (.putfield 18, 3) := by decide +kernel
theorem dX5_add_63 : decode cX5_add 63 = .ok (.return_, 1) := by decide +kernel
theorem dX5_takeBack_0 : decode cX5_takeBack 0 = .ok (.iload_n 1, 1) := by decide +kernel
theorem dX5_takeBack_1 : decode cX5_takeBack 1 = .ok (.iconst 1, 1) := by decide +kernel
theorem dX5_takeBack_2 : decode cX5_takeBack 2 = .ok (.if_icmp .lt 42, 3) := by decide +kernel
theorem dX5_takeBack_5 : decode cX5_takeBack 5 = .ok (.iload_n 1, 1) := by decide +kernel
theorem dX5_takeBack_6 : decode cX5_takeBack 6 = .ok (.aload_n 0, 1) := by decide +kernel
theorem dX5_takeBack_7 : decode cX5_takeBack 7 = .ok (.getfield 18, 3) := by decide +kernel
theorem dX5_takeBack_10 : decode cX5_takeBack 10 = .ok (.if_icmp .gt 34, 3) := by decide +kernel
theorem dX5_takeBack_13 : decode cX5_takeBack 13 = .ok (.aload_n 0, 1) := by decide +kernel
theorem dX5_takeBack_14 : decode cX5_takeBack 14 = .ok (.dup, 1) := by decide +kernel
theorem dX5_takeBack_15 : decode cX5_takeBack 15 = .ok (.getfield 18, 3) := by decide +kernel
theorem dX5_takeBack_18 : decode cX5_takeBack 18 = .ok (.iload_n 1, 1) := by decide +kernel
theorem dX5_takeBack_19 : decode cX5_takeBack 19 = .ok (.isub, 1) := by decide +kernel
theorem dX5_takeBack_20 : decode cX5_takeBack 20 = .ok (.putfield 18, 3) := by decide +kernel
theorem dX5_takeBack_23 : decode cX5_takeBack 23 = .ok (.aload_n 2, 1) := by decide +kernel
theorem dX5_takeBack_24 : decode cX5_takeBack 24 = .ok (.aload_n 0, 1) := by decide +kernel
theorem dX5_takeBack_25 : decode cX5_takeBack 25 = .ok (.getfield 11, 3) := by decide +kernel
theorem dX5_takeBack_28 : decode cX5_takeBack 28 = .ok (.aload_n 0, 1) := by decide +kernel
theorem dX5_takeBack_29 : decode cX5_takeBack 29 = .ok (.getfield 22, 3) := by decide +kernel
theorem dX5_takeBack_32 : decode cX5_takeBack 32 = .ok (.aload_n 0, 1) := by decide +kernel
theorem dX5_takeBack_33 : decode cX5_takeBack 33 = .ok (.getfield 18, 3) := by decide +kernel
theorem dX5_takeBack_36 : decode cX5_takeBack 36 = .ok (.iadd, 1) := by decide +kernel
theorem dX5_takeBack_37 : decode cX5_takeBack 37 = .ok (.bipush 10, 2) := by decide +kernel
theorem dX5_takeBack_39 : decode cX5_takeBack 39 = .ok (.irem, 1) := by decide +kernel
theorem dX5_takeBack_40 : decode cX5_takeBack 40 = .ok (.aaload, 1) := by decide +kernel
theorem dX5_takeBack_41 : decode cX5_takeBack 41 = .ok (.invokevirtual 25, 3) := by decide +kernel
theorem dX5_takeBack_44 : decode cX5_takeBack 44 = .ok (.return_, 1) := by decide +kernel
theorem dX9_isMissing_0 : decode cX9_isMissing 0 = .ok (.aload_n 0, 1) := by decide +kernel
theorem dX9_isMissing_1 : decode cX9_isMissing 1 = .ok (.getfield 15, 3) := by decide +kernel
theorem dX9_isMissing_4 : decode cX9_isMissing 4 = .ok (.iconst (-1), 1) := by decide +kernel
theorem dX9_isMissing_5 : decode cX9_isMissing 5 = .ok (.if_icmp .ne 7, 3) := by decide +kernel
theorem dX9_isMissing_8 : decode cX9_isMissing 8 = .ok (.iconst 1, 1) := by decide +kernel
theorem dX9_isMissing_9 : decode cX9_isMissing 9 = .ok (.goto 4, 3) := by decide +kernel
theorem dX9_isMissing_12 : decode cX9_isMissing 12 = .ok (.iconst 0, 1) := by decide +kernel
theorem dX9_isMissing_13 : decode cX9_isMissing 13 = .ok (.ireturn, 1) := by decide +kernel
theorem dX9_lay_0 : decode cX9_lay 0 = .ok (.aload_n 0, 1) := by decide +kernel
theorem dX9_lay_1 : decode cX9_lay 1 = .ok (.bipush 8, 2) := by decide +kernel
theorem dX9_lay_3 : decode cX9_lay 3 = .ok (.iload_n 1, 1) := by decide +kernel
theorem dX9_lay_4 : decode cX9_lay 4 = .ok (.ishl, 1) := by decide +kernel
theorem dX9_lay_5 : decode cX9_lay 5 = .ok (.putfield 19, 3) := by decide +kernel
theorem dX9_lay_8 : decode cX9_lay 8 = .ok (.aload_n 0, 1) := by decide +kernel
theorem dX9_lay_9 : decode cX9_lay 9 = .ok (.iload_n 2, 1) := by decide +kernel
theorem dX9_lay_10 : decode cX9_lay 10 = .ok (.putfield 15, 3) := by decide +kernel
theorem dX9_lay_13 : decode cX9_lay 13 = .ok (.aload_n 0, 1) := by decide +kernel
theorem dX9_lay_14 : decode cX9_lay 14 = .ok (.getfield 9, 3) := by decide +kernel
theorem dX9_lay_17 : decode cX9_lay 17 = .ok (.lconst 0, 1) := by decide +kernel
theorem dX9_lay_18 : decode cX9_lay 18 = .ok (.invokestatic 22, 3) := by decide +kernel
theorem dX9_lay_21 : decode cX9_lay 21 = .ok (.return_, 1) := by decide +kernel
theorem dX9_at_0 : decode cX9_at 0 = .ok (.iload_n 1, 1) := by decide +kernel
theorem dX9_at_1 : decode cX9_at 1 = .ok (.ifCond .lt 20, 3) := by decide +kernel
theorem dX9_at_4 : decode cX9_at 4 = .ok (.iload_n 1, 1) := by decide +kernel
theorem dX9_at_5 : decode cX9_at 5 = .ok (.aload_n 0, 1) := by decide +kernel
theorem dX9_at_6 : decode cX9_at 6 = .ok (.getfield 15, 3) := by decide +kernel
theorem dX9_at_9 : decode cX9_at 9 = .ok (.if_icmp .ge 12, 3) := by decide +kernel
theorem dX9_at_12 : decode cX9_at 12 = .ok (.aload_n 0, 1) := by decide +kernel
theorem dX9_at_13 : decode cX9_at 13 = .ok (.getfield 9, 3) := by decide +kernel
theorem dX9_at_16 : decode cX9_at 16 = .ok (.iload_n 1, 1) := by decide +kernel
theorem dX9_at_17 : decode cX9_at 17 = .ok (.laload, 1) := by decide +kernel
theorem dX9_at_18 : decode cX9_at 18 = .ok (.goto 4, 3) := by decide +kernel
theorem dX9_at_21 : decode cX9_at 21 = .ok (.lconst 0, 1) := by decide +kernel
theorem dX9_at_22 : decode cX9_at 22 = .ok (.lreturn, 1) := by decide +kernel
theorem dX9_put_0 : decode cX9_put 0 = .ok (.iload_n 1, 1) := by decide +kernel
theorem dX9_put_1 : decode cX9_put 1 = .ok (.ifCond .lt 11, 3) := by decide +kernel
theorem dX9_put_4 : decode cX9_put 4 = .ok (.iload_n 1, 1) := by decide +kernel
theorem dX9_put_5 : decode cX9_put 5 = .ok (.aload_n 0, 1) := by decide +kernel
theorem dX9_put_6 : decode cX9_put 6 = .ok (.getfield 15, 3) := by decide +kernel
theorem dX9_put_9 : decode cX9_put 9 = .ok (.if_icmp .lt 5, 3) := by decide +kernel
theorem dX9_put_12 : decode cX9_put 12 = .ok (.lconst 0, 1) := by decide +kernel
theorem dX9_put_13 : decode cX9_put 13 = .ok (.lreturn, 1) := by decide +kernel
theorem dX9_put_14 : decode cX9_put 14 = .ok (.bipush 64, 2) := by decide +kernel
theorem dX9_put_16 : decode cX9_put 16 = .ok (.aload_n 0, 1) := by decide +kernel
theorem dX9_put_17 : decode cX9_put 17 = .ok (.getfield 19, 3) := by decide +kernel
theorem dX9_put_20 : decode cX9_put 20 = .ok (.isub, 1) := by decide +kernel
theorem dX9_put_21 : decode cX9_put 21 = .ok (.istore 4, 2) := by decide +kernel
theorem dX9_put_23 : decode cX9_put 23 = .ok (.aload_n 0, 1) := by decide +kernel
theorem dX9_put_24 : decode cX9_put 24 = .ok (.getfield 9, 3) := by decide +kernel
theorem dX9_put_27 : decode cX9_put 27 = .ok (.iload_n 1, 1) := by decide +kernel
theorem dX9_put_28 : decode cX9_put 28 = .ok (.lload_n 2, 1) := by decide +kernel
theorem dX9_put_29 : decode cX9_put 29 = .ok (.iload 4, 2) := by decide +kernel
theorem dX9_put_31 : decode cX9_put 31 = .ok (.lshl, 1) := by decide +kernel
theorem dX9_put_32 : decode cX9_put 32 = .ok (.iload 4, 2) := by decide +kernel
theorem dX9_put_34 : decode cX9_put 34 = .ok (.lshr, 1) := by decide +kernel
theorem dX9_put_35 : decode cX9_put 35 = .ok (.lastore, 1) := by decide +kernel
theorem dX9_put_36 : decode cX9_put 36 = .ok (.aload_n 0, 1) := by decide +kernel
theorem dX9_put_37 : decode cX9_put 37 = .ok (.getfield 9, 3) := by decide +kernel
theorem dX9_put_40 : decode cX9_put 40 = .ok (.iload_n 1, 1) := by decide +kernel
theorem dX9_put_41 : decode cX9_put 41 = .ok (.laload, 1) := by decide +kernel
theorem dX9_put_42 : decode cX9_put 42 = .ok (.lreturn, 1) := by decide +kernel
theorem dX0_clear_0 : decode cX0_clear 0 = .ok (.aload_n 0, 1) := by decide +kernel
theorem dX0_clear_1 : decode cX0_clear 1 = .ok (.iconst 0, 1) := by decide +kernel
theorem dX0_clear_2 : decode cX0_clear 2 = .ok (.putfield 25, 3) := by decide +kernel
theorem dX0_clear_5 : decode cX0_clear 5 = .ok (.aload_n 0, 1) := by decide +kernel
theorem dX0_clear_6 : decode cX0_clear 6 = .ok (.iconst 0, 1) := by decide +kernel
theorem dX0_clear_7 : decode cX0_clear 7 = .ok (.putfield 29, 3) := by decide +kernel
theorem dX0_clear_10 : decode cX0_clear 10 = .ok (.aload_n 0, 1) := by decide +kernel
theorem dX0_clear_11 : decode cX0_clear 11 = .ok (.iconst 0, 1) := by decide +kernel
theorem dX0_clear_12 : decode cX0_clear 12 = .ok (.putfield 32, 3) := by decide +kernel
theorem dX0_clear_15 : decode cX0_clear 15 = .ok (.aload_n 0, 1) := by decide +kernel
theorem dX0_clear_16 : decode cX0_clear 16 = .ok (.iconst 0, 1) := by decide +kernel
theorem dX0_clear_17 : decode cX0_clear 17 = .ok (.putfield 35, 3) := by decide +kernel
theorem dX0_clear_20 : decode cX0_clear 20 = .ok (.aload_n 0, 1) := by decide +kernel
theorem dX0_clear_21 : decode cX0_clear 21 = .ok (.iconst 0, 1) := by decide +kernel
theorem dX0_clear_22 : decode cX0_clear 22 = .ok (.putfield 38, 3) := by decide +kernel
theorem dX0_clear_25 : decode cX0_clear 25 = .ok (.aload_n 0, 1) := by decide +kernel
theorem dX0_clear_26 : decode cX0_clear 26 = .ok (.iconst 0, 1) := by decide +kernel
theorem dX0_clear_27 : decode cX0_clear 27 = .ok (.putfield 41, 3) := by decide +kernel
theorem dX0_clear_30 : decode cX0_clear 30 = .ok (.aload_n 0, 1) := by decide +kernel
theorem dX0_clear_31 : decode cX0_clear 31 = .ok (.iconst 0, 1) := by decide +kernel
theorem dX0_clear_32 : decode cX0_clear 32 = .ok (.putfield 44, 3) := by decide +kernel
theorem dX0_clear_35 : decode cX0_clear 35 = .ok (.aload_n 0, 1) := by decide +kernel
theorem dX0_clear_36 : decode cX0_clear 36 = .ok (.iconst 0, 1) := by decide +kernel
theorem dX0_clear_37 : decode cX0_clear 37 = .ok (.putfield 47, 3) := by decide +kernel
theorem dX0_clear_40 : decode cX0_clear 40 = .ok (.aload_n 0, 1) := by decide +kernel
theorem dX0_clear_41 : decode cX0_clear 41 = .ok (.iconst 0, 1) := by decide +kernel
theorem dX0_clear_42 : decode cX0_clear 42 = .ok (.putfield 50, 3) := by decide +kernel
theorem dX0_clear_45 : decode cX0_clear 45 = .ok (.aload_n 0, 1) := by decide +kernel
theorem dX0_clear_46 : decode cX0_clear 46 = .ok (.iconst 0, 1) := by decide +kernel
theorem dX0_clear_47 : decode cX0_clear 47 = .ok (.putfield 53, 3) := by decide +kernel
theorem dX0_clear_50 : decode cX0_clear 50 = .ok (.aload_n 0, 1) := by decide +kernel
theorem dX0_clear_51 : decode cX0_clear 51 = .ok (.iconst 0, 1) := by decide +kernel
theorem dX0_clear_52 : decode cX0_clear 52 = .ok (.putfield 56, 3) := by decide +kernel
theorem dX0_clear_55 : decode cX0_clear 55 = .ok (.aload_n 0, 1) := by decide +kernel
theorem dX0_clear_56 : decode cX0_clear 56 = .ok (.getfield 9, 3) := by decide +kernel
theorem dX0_clear_59 : decode cX0_clear 59 = .ok (.iconst 0, 1) := by decide +kernel
theorem dX0_clear_60 : decode cX0_clear 60 = .ok (.invokestatic 59, 3) := by decide +kernel
theorem dX0_clear_63 : decode cX0_clear 63 = .ok (.aload_n 0, 1) := by decide +kernel
theorem dX0_clear_64 : decode cX0_clear 64 = .ok (.getfield 15, 3) := by decide +kernel
theorem dX0_clear_67 : decode cX0_clear 67 = .ok (.iconst 0, 1) := by decide +kernel
theorem dX0_clear_68 : decode cX0_clear 68 = .ok (.invokestatic 59, 3) := by decide +kernel
theorem dX0_clear_71 : decode cX0_clear 71 = .ok (.aload_n 0, 1) := by decide +kernel
theorem dX0_clear_72 : decode cX0_clear 72 = .ok (.getfield 18, 3) := by decide +kernel
theorem dX0_clear_75 : decode cX0_clear 75 = .ok (.iconst 0, 1) := by decide +kernel
theorem dX0_clear_76 : decode cX0_clear 76 = .ok (.invokestatic 59, 3) := by decide +kernel
theorem dX0_clear_79 : decode cX0_clear 79 = .ok (.return_, 1) := by decide +kernel
theorem dX0_become_0 : decode cX0_become 0 = .ok (.aload_n 0, 1) := by decide +kernel
theorem dX0_become_1 : decode cX0_become 1 = .ok (.aload_n 1, 1) := by decide +kernel
theorem dX0_become_2 : decode cX0_become 2 = .ok (.getfield 25, 3) := by decide +kernel
theorem dX0_become_5 : decode cX0_become 5 = .ok (.putfield 25, 3) := by decide +kernel
theorem dX0_become_8 : decode cX0_become 8 = .ok (.aload_n 0, 1) := by decide +kernel
theorem dX0_become_9 : decode cX0_become 9 = .ok (.aload_n 1, 1) := by decide +kernel
theorem dX0_become_10 : decode cX0_become 10 = .ok (.getfield 29, 3) := by decide +kernel
theorem dX0_become_13 : decode cX0_become 13 = .ok (.putfield 29, 3) := by decide +kernel
theorem dX0_become_16 : decode cX0_become 16 = .ok (.aload_n 0, 1) := by decide +kernel
theorem dX0_become_17 : decode cX0_become 17 = .ok (.aload_n 1, 1) := by decide +kernel
theorem dX0_become_18 : decode cX0_become 18 = .ok (.getfield 32, 3) := by decide +kernel
theorem dX0_become_21 : decode cX0_become 21 = .ok (.putfield 32, 3) := by decide +kernel
theorem dX0_become_24 : decode cX0_become 24 = .ok (.aload_n 0, 1) := by decide +kernel
theorem dX0_become_25 : decode cX0_become 25 = .ok (.aload_n 1, 1) := by decide +kernel
theorem dX0_become_26 : decode cX0_become 26 = .ok (.getfield 35, 3) := by decide +kernel
theorem dX0_become_29 : decode cX0_become 29 = .ok (.putfield 35, 3) := by decide +kernel
theorem dX0_become_32 : decode cX0_become 32 = .ok (.aload_n 0, 1) := by decide +kernel
theorem dX0_become_33 : decode cX0_become 33 = .ok (.aload_n 1, 1) := by decide +kernel
theorem dX0_become_34 : decode cX0_become 34 = .ok (.getfield 38, 3) := by decide +kernel
theorem dX0_become_37 : decode cX0_become 37 = .ok (.putfield 38, 3) := by decide +kernel
theorem dX0_become_40 : decode cX0_become 40 = .ok (.aload_n 0, 1) := by decide +kernel
theorem dX0_become_41 : decode cX0_become 41 = .ok (.aload_n 1, 1) := by decide +kernel
theorem dX0_become_42 : decode cX0_become 42 = .ok (.getfield 41, 3) := by decide +kernel
theorem dX0_become_45 : decode cX0_become 45 = .ok (.putfield 41, 3) := by decide +kernel
theorem dX0_become_48 : decode cX0_become 48 = .ok (.aload_n 0, 1) := by decide +kernel
theorem dX0_become_49 : decode cX0_become 49 = .ok (.aload_n 1, 1) := by decide +kernel
theorem dX0_become_50 : decode cX0_become 50 = .ok (.getfield 44, 3) := by decide +kernel
theorem dX0_become_53 : decode cX0_become 53 = .ok (.putfield 44, 3) := by decide +kernel
theorem dX0_become_56 : decode cX0_become 56 = .ok (.aload_n 0, 1) := by decide +kernel
theorem dX0_become_57 : decode cX0_become 57 = .ok (.aload_n 1, 1) := by decide +kernel
theorem dX0_become_58 : decode cX0_become 58 = .ok (.getfield 47, 3) := by decide +kernel
theorem dX0_become_61 : decode cX0_become 61 = .ok (.putfield 47, 3) := by decide +kernel
theorem dX0_become_64 : decode cX0_become 64 = .ok (.aload_n 0, 1) := by decide +kernel
theorem dX0_become_65 : decode cX0_become 65 = .ok (.aload_n 1, 1) := by decide +kernel
theorem dX0_become_66 : decode cX0_become 66 = .ok (.getfield 50, 3) := by decide +kernel
theorem dX0_become_69 : decode cX0_become 69 = .ok (.putfield 50, 3) := by decide +kernel
theorem dX0_become_72 : decode cX0_become 72 = .ok (.aload_n 0, 1) := by decide +kernel
theorem dX0_become_73 : decode cX0_become 73 = .ok (.aload_n 1, 1) := by decide +kernel
theorem dX0_become_74 : decode cX0_become 74 = .ok (.getfield 53, 3) := by decide +kernel
theorem dX0_become_77 : decode cX0_become 77 = .ok (.putfield 53, 3) := by decide +kernel
theorem dX0_become_80 : decode cX0_become 80 = .ok (.aload_n 0, 1) := by decide +kernel
theorem dX0_become_81 : decode cX0_become 81 = .ok (.aload_n 1, 1) := by decide +kernel
theorem dX0_become_82 : decode cX0_become 82 = .ok (.getfield 56, 3) := by decide +kernel
theorem dX0_become_85 : decode cX0_become 85 = .ok (.putfield 56, 3) := by decide +kernel
theorem dX0_become_88 : decode cX0_become 88 = .ok (.aload_n 1, 1) := by decide +kernel
theorem dX0_become_89 : decode cX0_become 89 = .ok (.getfield 9, 3) := by decide +kernel
theorem dX0_become_92 : decode cX0_become 92 = .ok (.iconst 0, 1) := by decide +kernel
theorem dX0_become_93 : decode cX0_become 93 = .ok (.aload_n 0, 1) := by decide +kernel
theorem dX0_become_94 : decode cX0_become 94 = .ok (.getfield 9, 3) := by decide +kernel
theorem dX0_become_97 : decode cX0_become 97 = .ok (.iconst 0, 1) := by decide +kernel
theorem dX0_become_98 : decode cX0_become 98 = .ok (.bipush 6, 2) := by decide +kernel
theorem dX0_become_100 : decode cX0_become 100 = .ok (.invokestatic 65, 3) := by decide +kernel
theorem dX0_become_103 : decode cX0_become 103 = .ok (.aload_n 1, 1) := by decide +kernel
theorem dX0_become_104 : decode cX0_become 104 = .ok (.getfield 15, 3) := by decide +kernel
theorem dX0_become_107 : decode cX0_become 107 = .ok (.iconst 0, 1) := by decide +kernel
theorem dX0_become_108 : decode cX0_become 108 = .ok (.aload_n 0, 1) := by decide +kernel
theorem dX0_become_109 : decode cX0_become 109 = .ok (.getfield 15, 3) := by decide +kernel
theorem dX0_become_112 : decode cX0_become 112 = .ok (.iconst 0, 1) := by decide +kernel
theorem dX0_become_113 : decode cX0_become 113 = .ok (.bipush 8, 2) := by decide +kernel
theorem dX0_become_115 : decode cX0_become 115 = .ok (.invokestatic 65, 3) := by decide +kernel
theorem dX0_become_118 : decode cX0_become 118 = .ok (.aload_n 1, 1) := by decide +kernel
theorem dX0_become_119 : decode cX0_become 119 = .ok (.getfield 18, 3) := by decide +kernel
theorem dX0_become_122 : decode cX0_become 122 = .ok (.iconst 0, 1) := by decide +kernel
theorem dX0_become_123 : decode cX0_become 123 = .ok (.aload_n 0, 1) := by decide +kernel
theorem dX0_become_124 : decode cX0_become 124 = .ok (.getfield 18, 3) := by decide +kernel
theorem dX0_become_127 : decode cX0_become 127 = .ok (.iconst 0, 1) := by decide +kernel
theorem dX0_become_128 : decode cX0_become 128 = .ok (.bipush 8, 2) := by decide +kernel
theorem dX0_become_130 : decode cX0_become 130 = .ok (.invokestatic 65, 3) := by decide +kernel
theorem dX0_become_133 : decode cX0_become 133 = .ok (.aload_n 1, 1) := by decide +kernel
theorem dX0_become_134 : decode cX0_become 134 = .ok (.getfield 21, 3) := by decide +kernel
theorem dX0_become_137 : decode cX0_become 137 = .ok (.iconst 0, 1) := by decide +kernel
theorem dX0_become_138 : decode cX0_become 138 = .ok (.aload_n 0, 1) := by decide +kernel
theorem dX0_become_139 : decode cX0_become 139 = .ok (.getfield 21, 3) := by decide +kernel
theorem dX0_become_142 : decode cX0_become 142 = .ok (.iconst 0, 1) := by decide +kernel
theorem dX0_become_143 : decode cX0_become 143 = .ok (.aload_n 0, 1) := by decide +kernel
theorem dX0_become_144 : decode cX0_become 144 = .ok (.getfield 44, 3) := by decide +kernel
theorem dX0_become_147 : decode cX0_become 147 = .ok (.invokestatic 65, 3) := by decide +kernel
theorem dX0_become_150 : decode cX0_become 150 = .ok (.return_, 1) := by decide +kernel
theorem dX0_addCode_0 : decode cX0_addCode 0 = .ok (.aload_n 0, 1) := by decide +kernel
theorem dX0_addCode_1 : decode cX0_addCode 1 = .ok (.getfield 44, 3) := by decide +kernel
theorem dX0_addCode_4 : decode cX0_addCode 4 = .ok (.sipush 900, 3) := by decide +kernel
theorem dX0_addCode_7 : decode cX0_addCode 7 = .ok (.if_icmp .ge 24, 3) := by decide +kernel
theorem dX0_addCode_10 : decode cX0_addCode 10 = .ok (.aload_n 0, 1) := by decide +kernel
theorem dX0_addCode_11 : decode cX0_addCode 11 = .ok (.getfield 21, 3) := by decide +kernel
theorem dX0_addCode_14 : decode cX0_addCode 14 = .ok (.aload_n 0, 1) := by decide +kernel
theorem dX0_addCode_15 : decode cX0_addCode 15 = .ok (.getfield 44, 3) := by decide +kernel
theorem dX0_addCode_18 : decode cX0_addCode 18 = .ok (.iload_n 1, 1) := by decide +kernel
theorem dX0_addCode_19 : decode cX0_addCode 19 = .ok (.i2s, 1) := by decide +kernel
theorem dX0_addCode_20 : decode cX0_addCode 20 = .ok (.sastore, 1) := by decide +kernel
theorem dX0_addCode_21 : decode cX0_addCode 21 = .ok (.aload_n 0, 1) := by decide +kernel
theorem dX0_addCode_22 : decode cX0_addCode 22 = .ok (.dup, 1) := by decide +kernel
theorem dX0_addCode_23 : decode cX0_addCode 23 = .ok (.getfield 44, 3) := by decide +kernel
theorem dX0_addCode_26 : decode cX0_addCode 26 = .ok (.iconst 1, 1) := by decide +kernel
theorem dX0_addCode_27 : decode cX0_addCode 27 = .ok (.iadd, 1) := by decide +kernel
theorem dX0_addCode_28 : decode cX0_addCode 28 = .ok (.putfield 44, 3) := by decide +kernel
theorem dX0_addCode_31 : decode cX0_addCode 31 = .ok (.return_, 1) := by decide +kernel
theorem dX2_keep_0 : decode cX2_keep 0 = .ok (.aload_n 0, 1) := by decide +kernel
theorem dX2_keep_1 : decode cX2_keep 1 = .ok (.getfield 10, 3) := by decide +kernel
theorem dX2_keep_4 : decode cX2_keep 4 = .ok (.aload_n 1, 1) := by decide +kernel
theorem dX2_keep_5 : decode cX2_keep 5 = .ok (.invokevirtual 23, 3) := by decide +kernel
theorem dX2_keep_8 : decode cX2_keep 8 = .ok (.aload_n 0, 1) := by decide +kernel
theorem dX2_keep_9 : decode cX2_keep 9 = .ok (.getfield 19, 3) := by decide +kernel
theorem dX2_keep_12 : decode cX2_keep 12 = .ok (.aload_n 2, 1) := by decide +kernel
theorem dX2_keep_13 : decode cX2_keep 13 = .ok (.invokevirtual 27, 3) := by decide +kernel
theorem dX2_keep_16 : decode cX2_keep 16 = .ok (.aload_n 0, 1) := by decide +kernel
theorem dX2_keep_17 : decode cX2_keep 17 = .ok (.iconst 1, 1) := by decide +kernel
theorem dX2_keep_18 : decode cX2_keep 18 = .ok (.putfield 30, 3) := by decide +kernel
theorem dX2_keep_21 : decode cX2_keep 21 = .ok (.return_, 1) := by decide +kernel
section
variable (d : Nat) (sh : mbSh) (ct : mbCt)
theorem c_adjournTo {a b : Int} {na nb : Nat} (ha : shA sh a = some (8, na)) (hb : shA sh b = some (0, nb)) : Mt YX8_adjournTo (d + 1) [.inr (.inr a), .inr (.inr b)] sh sh ct (pN fun c => c = adC ct a b) := by
  refine Mt.of rfl (Nat.le_of_ble_eq_true rfl) ?_
  show G _ 0 [some (.inr (.inr a)), some (.inr (.inr b))] [] sh ct
  refine g_aload_n (q := 1) dX8_adjournTo_0 rfl rfl ?_
  refine g_aload_n (q := 2) dX8_adjournTo_1 rfl rfl ?_
  refine g_getI (q := 5) (kI := 0) fX8_32 (by first | assumption | exact S.at _ rfl) dX8_adjournTo_2 rfl rfl ?_
  refine g_aload_n (q := 6) dX8_adjournTo_5 rfl rfl ?_
  refine g_getI (q := 9) (kI := 1) fX8_35 (by first | assumption | exact S.at _ rfl) dX8_adjournTo_6 rfl rfl ?_
  refine g_bipush (q := 11) dX8_adjournTo_9 (by decide +kernel) rfl ?_
  refine g_callSN (q := 14) lX8_38 mX11_stateOf sX11_stateOf rfl (c_stateOf d sh ct) shLe.rf (rmOk.mk (by omega) (by first | exact shLe.rf | assumption)) (Nat.le_of_ble_eq_true rfl) dX8_adjournTo_11 rfl rfl (kI fun r c hp => ?_)
  obtain ⟨rfl, rfl⟩ := hp
  refine g_putI (q := 17) (kI := 0) fX8_9 (by first | assumption | exact S.at _ rfl) dX8_adjournTo_14 rfl rfl ?_
  refine g_aload_n (q := 18) dX8_adjournTo_17 rfl rfl ?_
  refine g_iconst (q := 19) dX8_adjournTo_18 rfl ?_
  refine g_putI (q := 22) (kI := 1) fX8_42 (by first | assumption | exact S.at _ rfl) dX8_adjournTo_19 rfl rfl ?_
  refine g_return dX8_adjournTo_22 rfl ?_
  refine ⟨rfl, ?_⟩
  funext x j
  unfold adC wr
  grind
theorem c_become {a o : Int} (ha : sitAt sh ct a) (ho : sitAt sh ct o) : Mt YX8_become (d + 1) [.inr (.inr a), .inr (.inr o)] sh sh ct (pN fun c => c = beC ct a o) := by
  obtain ⟨ha1, ha2, ha3⟩ := ha
  obtain ⟨ho1, ho2, ho3⟩ := ho
  have n1 : o + 1 ≠ a := (shA_ne ho2 ha1 (by decide))
  have n2 : a + 1 ≠ a := by omega
  refine Mt.of rfl (Nat.le_of_ble_eq_true rfl) ?_
  show G _ 0 [some (.inr (.inr a)), some (.inr (.inr o))] [] sh ct
  have l1 : ∀ v w, wr (wr ct a 0 v) a 1 w o 2 = o + 1 := fun v w => by unfold wr; grind
  have l2 : ∀ v w, wr (wr ct a 0 v) a 1 w a 2 = a + 1 := fun v w => by unfold wr; grind
  refine g_aload_n (q := 1) dX8_become_0 rfl rfl ?_
  refine g_aload_n (q := 2) dX8_become_1 rfl rfl ?_
  refine g_getI (q := 5) (kI := 0) fX8_9 (by first | assumption | exact S.at _ rfl) dX8_become_2 rfl rfl ?_
  refine g_putI (q := 8) (kI := 0) fX8_9 (by first | assumption | exact S.at _ rfl) dX8_become_5 rfl rfl ?_
  refine g_aload_n (q := 9) dX8_become_8 rfl rfl ?_
  refine g_aload_n (q := 10) dX8_become_9 rfl rfl ?_
  refine g_getI (q := 13) (kI := 1) fX8_42 (by first | assumption | exact S.at _ rfl) dX8_become_10 rfl rfl ?_
  refine g_putI (q := 16) (kI := 1) fX8_42 (by first | assumption | exact S.at _ rfl) dX8_become_13 rfl rfl ?_
  refine g_aload_n (q := 17) dX8_become_16 rfl rfl ?_
  refine g_getA (q := 20) (kI := 2) fX8_15 (by first | assumption | exact S.at _ rfl) dX8_become_17 rfl rfl (by first | exact l1 _ _ | exact l2 _ _) ?_
  refine g_iconst (q := 21) dX8_become_20 rfl ?_
  refine g_aload_n (q := 22) dX8_become_21 rfl rfl ?_
  refine g_getA (q := 25) (kI := 2) fX8_15 (by first | assumption | exact S.at _ rfl) dX8_become_22 rfl rfl (by first | exact l1 _ _ | exact l2 _ _) ?_
  refine g_iconst (q := 26) dX8_become_25 rfl ?_
  refine g_bipush (q := 28) dX8_become_26 (by decide +kernel) rfl ?_
  refine g_copy (q := 31) lX8_26 (by first | assumption | exact S.at _ rfl) (by first | assumption | exact S.at _ rfl) (by decide) (by decide) (by omega) (by omega) (by omega) (by omega) (by omega) (by decide) (by decide) (fun _ _ _ _ => rfl) (rmOk.mk (by omega) shLe.rf) (Nat.le_of_ble_eq_true rfl) dX8_become_28 rfl ?_
  rw [cpF_00]
  refine g_return dX8_become_31 rfl ?_
  refine ⟨rfl, ?_⟩
  funext x j
  simp only [beC, wr, wa, cp0]
  grind
def bgC (ct : mbCt) (a b : Int) : mbCt := fun x j => if x = a ∧ j = 0 then (ct b 0 * 10 + ct b 1) * 7 + 6 else if x = a ∧ j = 1 then 0 else if x = a + 1 ∧ 0 ≤ j ∧ j < 6 then ct (b + 1) j else ct x j
theorem c_begin {a b : Int} (ha : sitAt sh ct a) (hb : bkAt sh ct b) : Mt YX8_begin (d + 2) [.inr (.inr a), .inr (.inr b)] sh sh ct (pN fun c => c = bgC ct a b) := by
  obtain ⟨ha1, ha2, ha3⟩ := ha
  obtain ⟨hb1, hb2, -, -, -, hb6, -⟩ := hb
  have n1 : b + 1 ≠ a := (shA_ne hb2 ha1 (by decide))
  have n2 : b ≠ a := (shA_ne hb1 ha1 (by decide))
  refine Mt.of rfl (Nat.le_of_ble_eq_true rfl) ?_
  show G _ 0 [some (.inr (.inr a)), some (.inr (.inr b))] [] sh ct
  refine g_aload_n (q := 1) dX8_begin_0 rfl rfl ?_
  refine g_aload_n (q := 2) dX8_begin_1 rfl rfl ?_
  refine g_callV (q := 5) lX8_19 mX8_adjournTo nX8_adjournTo rfl (c_adjournTo d sh ct ha1 hb1) (by first | assumption | exact S.at _ rfl) rfl rfl shLe.rf (rmOk.mk (by omega) (by first | exact shLe.rf | assumption)) (Nat.le_of_ble_eq_true rfl) dX8_begin_2 rfl rfl (kN fun c hp => ?_)
  subst hp
  have l1 : adC ct a b b 11 = b + 1 := by unfold adC; grind
  have l2 : adC ct a b a 2 = a + 1 := by unfold adC; grind
  refine g_aload_n (q := 6) dX8_begin_5 rfl rfl ?_
  refine g_getA (q := 9) (kI := 11) fX8_23 (by first | assumption | exact S.at _ rfl) dX8_begin_6 rfl rfl (by first | assumption | exact L.at _ _ rfl | exact LK.at (by assumption) _ _ rfl | ((repeat first | rewrite [wr_na (by decide)] | rewrite [wr_nk (by decide)] | rewrite [wa_na (by decide)]); first | assumption | exact LK.at (by assumption) _ _ rfl) | exact rfl) ?_
  refine g_iconst (q := 10) dX8_begin_9 rfl ?_
  refine g_aload_n (q := 11) dX8_begin_10 rfl rfl ?_
  refine g_getA (q := 14) (kI := 2) fX8_15 (by first | assumption | exact S.at _ rfl) dX8_begin_11 rfl rfl (by first | assumption | exact L.at _ _ rfl | exact LK.at (by assumption) _ _ rfl | ((repeat first | rewrite [wr_na (by decide)] | rewrite [wr_nk (by decide)] | rewrite [wa_na (by decide)]); first | assumption | exact LK.at (by assumption) _ _ rfl) | exact rfl) ?_
  refine g_iconst (q := 15) dX8_begin_14 rfl ?_
  refine g_bipush (q := 17) dX8_begin_15 (by decide +kernel) rfl ?_
  refine g_copy (q := 20) lX8_26 (by first | assumption | exact S.at _ rfl) (by first | assumption | exact S.at _ rfl) (by decide) (by decide) (by omega) (by omega) (by omega) (by omega) (by omega) (by decide) (by decide) (fun _ _ _ _ => rfl) (rmOk.mk (by omega) shLe.rf) (Nat.le_of_ble_eq_true rfl) dX8_begin_17 rfl ?_
  rw [cpF_00]
  refine g_return dX8_begin_20 rfl ?_
  refine ⟨rfl, ?_⟩
  funext x j
  simp only [bgC, wa, cp0, adC]
  grind
theorem c_empty {a : Int} {n : Nat} (ha : shA sh a = some (5, n)) : Mt YX5_empty d [.inr (.inr a)] sh sh ct (pN fun c => c = wr ct a 2 0) := by
  refine Mt.of rfl (Nat.le_of_ble_eq_true rfl) ?_
  show G _ 0 [some (.inr (.inr a))] [] sh ct
  refine g_aload_n (q := 1) dX5_empty_0 rfl rfl ?_
  refine g_iconst (q := 2) dX5_empty_1 rfl ?_
  refine g_putI (q := 5) (kI := 2) fX5_18 (by first | assumption | exact S.at _ rfl) dX5_empty_2 rfl rfl ?_
  refine g_return dX5_empty_5 rfl ?_
  exact ⟨rfl, rfl⟩
theorem SH.ring {sh : mbSh} (S : SH sh) {i : Int} (h0 : 0 ≤ i) (h1 : i < 10) : shA sh (18 + 2 * i) = some (8, 3) ∧ shA sh (18 + 2 * i + 1) = some (20, 6) := by
  rcases (show i = 0 ∨ i = 1 ∨ i = 2 ∨ i = 3 ∨ i = 4 ∨ i = 5 ∨ i = 6 ∨ i = 7 ∨ i = 8 ∨ i = 9 by omega) with rfl | rfl | rfl | rfl | rfl | rfl | rfl | rfl | rfl | rfl <;> exact ⟨S.at _ rfl, S.at _ rfl⟩
theorem LK.ring {ct : mbCt} (L : LK ct) {i : Int} (h0 : 0 ≤ i) (h1 : i < 10) : ct 17 i = 18 + 2 * i ∧ ct (18 + 2 * i) 2 = 18 + 2 * i + 1 := by
  rcases (show i = 0 ∨ i = 1 ∨ i = 2 ∨ i = 3 ∨ i = 4 ∨ i = 5 ∨ i = 6 ∨ i = 7 ∨ i = 8 ∨ i = 9 by omega) with rfl | rfl | rfl | rfl | rfl | rfl | rfl | rfl | rfl | rfl <;> exact ⟨L.at _ _ rfl, L.at _ _ rfl⟩
/-- where the pile begins and how many it has, once there is room for one more -/
def plE (ct : mbCt) : Int := if ct 16 2 = 10 then (ct 16 1 + 1) % 10 else ct 16 1
def plN (ct : mbCt) : Int := if ct 16 2 = 10 then 9 else ct 16 2
def plC (ct : mbCt) (o : Int) : mbCt := fun x j => if x = 16 ∧ j = 1 then plE ct else if x = 16 ∧ j = 2 then plN ct + 1 else beC ct (18 + 2 * ((plE ct + plN ct) % 10)) o x j
theorem c_pileAdd {o : Int} (S : SH sh) (L : LK ct) (ho : sitAt sh ct o) (e0 : 0 ≤ ct 16 1) (e1 : ct 16 1 < 10) (s0 : 0 ≤ ct 16 2) (s1 : ct 16 2 ≤ 10) : Mt YX5_add (d + 2) [.inr (.inr 16), .inr (.inr o)] sh sh ct (pN fun c => c = plC ct o) := by
  have ho1 : o ≠ 16 := shA_ne ho.1 (S.at 16 rfl) (by decide)
  have ho2 : o + 1 ≠ 16 := shA_ne ho.2.1 (S.at 16 rfl) (by decide)
  have tail : ∀ (e n : Int) (c : mbCt), 0 ≤ e → e < 10 → 0 ≤ n → n < 10 → c 16 1 = e → c 16 2 = n → (∀ x j, ¬ (x = 16 ∧ (j = 1 ∨ j = 2)) → c x j = ct x j) → G (mkK YX5_add (d + 2) sh sh (pN fun c => c = fun x j => if x = 16 ∧ j = 1 then e else if x = 16 ∧ j = 2 then n + 1 else beC ct (18 + 2 * ((e + n) % 10)) o x j)) 32 [some (.inr (.inr 16)), some (.inr (.inr o))] [] sh c := by
    intro e n c h0 h1 h2 h3 he hn hc
    have l1 : c 16 0 = 17 := by rw [hc 16 0 (by omega)]; exact L.at _ _ rfl
    refine g_aload_n (q := 33) dX5_add_32 rfl rfl ?_
    refine g_getA (q := 36) (kI := 0) fX5_11 (by first | assumption | exact S.at _ rfl) dX5_add_33 rfl rfl (by first | assumption | exact L.at _ _ rfl | exact LK.at (by assumption) _ _ rfl | ((repeat first | rewrite [wr_na (by decide)] | rewrite [wr_nk (by decide)] | rewrite [wa_na (by decide)]); first | assumption | exact LK.at (by assumption) _ _ rfl) | exact rfl) ?_
    refine g_aload_n (q := 37) dX5_add_36 rfl rfl ?_
    refine g_getI (q := 40) (kI := 1) fX5_22 (by first | assumption | exact S.at _ rfl) dX5_add_37 rfl rfl ?_
    refine g_aload_n (q := 41) dX5_add_40 rfl rfl ?_
    refine g_getI (q := 44) (kI := 2) fX5_18 (by first | assumption | exact S.at _ rfl) dX5_add_41 rfl rfl ?_
    refine g_iadd (q := 45) dX5_add_44 rfl ?_
    refine g_bipush (q := 47) dX5_add_45 (by decide +kernel) rfl ?_
    refine g_irem (q := 48) dX5_add_47 (by decide) rfl ?_
    rw [he, hn, w32_id (x := e + n) (by omega) (by omega), tm_pos (by omega), show w32 10 = 10 from rfl]
    have hr := L.ring (i := (e + n) % 10) (by omega) (by omega)
    have hs := S.ring (i := (e + n) % 10) (by omega) (by omega)
    have l2 : c 17 ((e + n) % 10) = 18 + 2 * ((e + n) % 10) := by rw [hc 17 _ (by omega)]; exact hr.1
    refine g_aaload (q := 49) (by first | assumption | exact S.at _ rfl) (by decide) (by omega) (by omega) (by omega) (by first | assumption | exact L.at _ _ rfl | exact LK.at (by assumption) _ _ rfl | ((repeat first | rewrite [wr_na (by decide)] | rewrite [wr_nk (by decide)] | rewrite [wa_na (by decide)]); first | assumption | exact LK.at (by assumption) _ _ rfl) | exact rfl) dX5_add_48 rfl ?_
    refine g_aload_n (q := 50) dX5_add_49 rfl rfl ?_
    have a1 : sitAt sh c (18 + 2 * ((e + n) % 10)) := ⟨hs.1, hs.2, by rw [hc _ _ (by omega)]; exact hr.2⟩
    have a2 : sitAt sh c o := ⟨ho.1, ho.2.1, by rw [hc _ _ (by omega)]; exact ho.2.2⟩
    refine g_callV (q := 53) lX5_25 mX8_become nX8_become rfl (c_become d sh c a1 a2) a1.1 rfl rfl shLe.rf (rmOk.mk (by omega) (by first | exact shLe.rf | assumption)) (Nat.le_of_ble_eq_true rfl) dX5_add_50 rfl rfl (kN fun c2 hp => ?_)
    subst hp
    refine g_aload_n (q := 54) dX5_add_53 rfl rfl ?_
    refine g_dup (q := 55) dX5_add_54 rfl rfl ?_
    refine g_getI (q := 58) (kI := 2) fX5_18 (by first | assumption | exact S.at _ rfl) dX5_add_55 rfl rfl ?_
    refine g_iconst (q := 59) dX5_add_58 rfl ?_
    refine g_iadd (q := 60) dX5_add_59 rfl ?_
    refine g_putI (q := 63) (kI := 2) fX5_18 (by first | assumption | exact S.at _ rfl) dX5_add_60 rfl rfl ?_
    refine g_return dX5_add_63 rfl ?_
    refine ⟨rfl, ?_⟩
    funext x j
    have q1 : ∀ k, c o k = ct o k := fun k => hc o k (by omega)
    have q2 : ∀ k, c (o + 1) k = ct (o + 1) k := fun k => hc (o + 1) k (by omega)
    have q3 : beC c (18 + 2 * ((e + n) % 10)) o 16 2 = n := by unfold beC; rw [← hn]; grind
    rw [q3]
    simp only [wr, beC, q1, q2]
    have q4 := hc x j
    have q5 : (18 + 2 * ((e + n) % 10)) ≠ 16 := by omega
    have q6 : (18 + 2 * ((e + n) % 10) + 1) ≠ 16 := by omega
    grind
  refine Mt.of rfl (Nat.le_of_ble_eq_true rfl) ?_
  show G _ 0 [some (.inr (.inr 16)), some (.inr (.inr o))] [] sh ct
  refine g_aload_n (q := 1) dX5_add_0 rfl rfl ?_
  refine g_getI (q := 4) (kI := 2) fX5_18 (by first | assumption | exact S.at _ rfl) dX5_add_1 rfl rfl ?_
  refine g_bipush (q := 6) dX5_add_4 (by decide +kernel) rfl ?_
  refine g_icmp_ne (q := 9) (tg := 32) dX5_add_6 (by decide) rfl (fun c_6 => ?_) (fun c_6 => ?_)
  · have hne : ct 16 2 ≠ 10 := fun h => c_6 (by rw [h])
    have hh := tail (ct 16 1) (ct 16 2) ct e0 e1 s0 (by omega) rfl rfl (fun _ _ _ => rfl)
    unfold plC plE plN
    simp only [hne, if_false]
    exact hh
  · have heq : ct 16 2 = 10 := by unfold w32 at c_6; omega
    unfold plC plE plN
    simp only [heq, if_true]
    refine g_aload_n (q := 10) dX5_add_9 rfl rfl ?_
    refine g_aload_n (q := 11) dX5_add_10 rfl rfl ?_
    refine g_getI (q := 14) (kI := 1) fX5_22 (by first | assumption | exact S.at _ rfl) dX5_add_11 rfl rfl ?_
    refine g_iconst (q := 15) dX5_add_14 rfl ?_
    refine g_iadd (q := 16) dX5_add_15 rfl ?_
    refine g_bipush (q := 18) dX5_add_16 (by decide +kernel) rfl ?_
    refine g_irem (q := 19) dX5_add_18 (by decide) rfl ?_
    refine g_putI (q := 22) (kI := 1) fX5_22 (by first | assumption | exact S.at _ rfl) dX5_add_19 rfl rfl ?_
    refine g_aload_n (q := 23) dX5_add_22 rfl rfl ?_
    refine g_dup (q := 24) dX5_add_23 rfl rfl ?_
    refine g_getI (q := 27) (kI := 2) fX5_18 (by first | assumption | exact S.at _ rfl) dX5_add_24 rfl rfl ?_
    refine g_iconst (q := 28) dX5_add_27 rfl ?_
    refine g_isub (q := 29) dX5_add_28 rfl ?_
    refine g_putI (q := 32) (kI := 2) fX5_18 (by first | assumption | exact S.at _ rfl) dX5_add_29 rfl rfl ?_
    refine tail ((ct 16 1 + 1) % 10) 9 _ (by omega) (by omega) (by omega) (by omega) ?_ ?_ ?_
    · rw [wr_ne (by decide), wr_eq, w32_id (x := ct 16 1 + 1) (by omega) (by omega), tm_pos (by omega)]
      rfl
    · rw [wr_eq, wr_ne (by decide), heq]
      rfl
    · intro x j hx
      unfold wr
      grind
theorem c_takeBack {n o : Int} (S : SH sh) (L : LK ct) (ho : sitAt sh ct o) (e0 : 0 ≤ ct 16 1) (e1 : ct 16 1 < 10) (s1 : ct 16 2 ≤ 10) (hn : 1 ≤ n) (hn2 : n ≤ ct 16 2) : Mt YX5_takeBack (d + 2) [.inr (.inr 16), .inl n, .inr (.inr o)] sh sh ct (pN fun c => c = fun x j => if x = 16 ∧ j = 2 then ct 16 2 - n else beC ct o (18 + 2 * ((ct 16 1 + (ct 16 2 - n)) % 10)) x j) := by
  have ho1 : o ≠ 16 := shA_ne ho.1 (S.at 16 rfl) (by decide)
  have ho2 : o + 1 ≠ 16 := shA_ne ho.2.1 (S.at 16 rfl) (by decide)
  refine Mt.of rfl (Nat.le_of_ble_eq_true rfl) ?_
  show G _ 0 [some (.inr (.inr 16)), some (.inl n), some (.inr (.inr o))] [] sh ct
  refine g_iload_n (q := 1) dX5_takeBack_0 rfl rfl ?_
  refine g_iconst (q := 2) dX5_takeBack_1 rfl ?_
  refine g_icmp_lt (q := 5) (tg := 44) dX5_takeBack_2 (by decide) rfl (fun c_2 => ?_) (fun c_2 => ?_)
  · exact absurd c_2 (by unfold w32; omega)
  · refine g_iload_n (q := 6) dX5_takeBack_5 rfl rfl ?_
    refine g_aload_n (q := 7) dX5_takeBack_6 rfl rfl ?_
    refine g_getI (q := 10) (kI := 2) fX5_18 (by first | assumption | exact S.at _ rfl) dX5_takeBack_7 rfl rfl ?_
    refine g_icmp_gt (q := 13) (tg := 44) dX5_takeBack_10 (by decide) rfl (fun c_10 => ?_) (fun c_10 => ?_)
    · exact absurd c_10 (by unfold w32; omega)
    · refine g_aload_n (q := 14) dX5_takeBack_13 rfl rfl ?_
      refine g_dup (q := 15) dX5_takeBack_14 rfl rfl ?_
      refine g_getI (q := 18) (kI := 2) fX5_18 (by first | assumption | exact S.at _ rfl) dX5_takeBack_15 rfl rfl ?_
      refine g_iload_n (q := 19) dX5_takeBack_18 rfl rfl ?_
      refine g_isub (q := 20) dX5_takeBack_19 rfl ?_
      refine g_putI (q := 23) (kI := 2) fX5_18 (by first | assumption | exact S.at _ rfl) dX5_takeBack_20 rfl rfl ?_
      refine g_aload_n (q := 24) dX5_takeBack_23 rfl rfl ?_
      refine g_aload_n (q := 25) dX5_takeBack_24 rfl rfl ?_
      refine g_getA (q := 28) (kI := 0) fX5_11 (by first | assumption | exact S.at _ rfl) dX5_takeBack_25 rfl rfl (by first | assumption | exact L.at _ _ rfl | exact LK.at (by assumption) _ _ rfl | ((repeat first | rewrite [wr_na (by decide)] | rewrite [wr_nk (by decide)] | rewrite [wa_na (by decide)]); first | assumption | exact LK.at (by assumption) _ _ rfl) | exact rfl) ?_
      refine g_aload_n (q := 29) dX5_takeBack_28 rfl rfl ?_
      refine g_getI (q := 32) (kI := 1) fX5_22 (by first | assumption | exact S.at _ rfl) dX5_takeBack_29 rfl rfl ?_
      refine g_aload_n (q := 33) dX5_takeBack_32 rfl rfl ?_
      refine g_getI (q := 36) (kI := 2) fX5_18 (by first | assumption | exact S.at _ rfl) dX5_takeBack_33 rfl rfl ?_
      refine g_iadd (q := 37) dX5_takeBack_36 rfl ?_
      refine g_bipush (q := 39) dX5_takeBack_37 (by decide +kernel) rfl ?_
      refine g_irem (q := 40) dX5_takeBack_39 (by decide) rfl ?_
      have q0 : wr ct 16 2 (ct 16 2 - n) 16 1 = ct 16 1 := wr_ne (by decide)
      rw [q0, wr_eq, w32_id (x := ct 16 1 + (ct 16 2 - n)) (by omega) (by omega), tm_pos (by omega), show w32 10 = 10 from rfl]
      have hr := L.ring (i := (ct 16 1 + (ct 16 2 - n)) % 10) (by omega) (by omega)
      have hs := S.ring (i := (ct 16 1 + (ct 16 2 - n)) % 10) (by omega) (by omega)
      have l2 : wr ct 16 2 (ct 16 2 - n) 17 ((ct 16 1 + (ct 16 2 - n)) % 10) = 18 + 2 * ((ct 16 1 + (ct 16 2 - n)) % 10) := by rw [wr_na (by decide)]; exact hr.1
      refine g_aaload (q := 41) (by first | assumption | exact S.at _ rfl) (by decide) (by omega) (by omega) (by omega) (by first | assumption | exact L.at _ _ rfl | exact LK.at (by assumption) _ _ rfl | ((repeat first | rewrite [wr_na (by decide)] | rewrite [wr_nk (by decide)] | rewrite [wa_na (by decide)]); first | assumption | exact LK.at (by assumption) _ _ rfl) | exact rfl) dX5_takeBack_40 rfl ?_
      have a1 : sitAt sh (wr ct 16 2 (ct 16 2 - n)) (18 + 2 * ((ct 16 1 + (ct 16 2 - n)) % 10)) := ⟨hs.1, hs.2, by rw [wr_na (by omega)]; exact hr.2⟩
      have a2 : sitAt sh (wr ct 16 2 (ct 16 2 - n)) o := ⟨ho.1, ho.2.1, by rw [wr_na ho1]; exact ho.2.2⟩
      refine g_callV (q := 44) lX5_25 mX8_become nX8_become rfl (c_become d sh _ a2 a1) a2.1 rfl rfl shLe.rf (rmOk.mk (by omega) (by first | exact shLe.rf | assumption)) (Nat.le_of_ble_eq_true rfl) dX5_takeBack_41 rfl rfl (kN fun c2 hp => ?_)
      subst hp
      refine g_return dX5_takeBack_44 rfl ?_
      refine ⟨rfl, ?_⟩
      funext x j
      simp only [wr, beC]
      have q5 : (18 + 2 * ((ct 16 1 + (ct 16 2 - n)) % 10)) ≠ 16 := by omega
      have q6 : (18 + 2 * ((ct 16 1 + (ct 16 2 - n)) % 10) + 1) ≠ 16 := by omega
      grind
theorem c_isMissing {a : Int} {na : Nat} (ha : shA sh a = some (9, na)) : Mt YX9_isMissing d [.inr (.inr a)] sh sh ct (pI fun r c => r = b01 (w32 (ct a 1) = -1) ∧ c = ct) := by
  refine Mt.of rfl (Nat.le_of_ble_eq_true rfl) ?_
  show G _ 0 [some (.inr (.inr a))] [] sh ct
  refine g_aload_n (q := 1) dX9_isMissing_0 rfl rfl ?_
  refine g_getI (q := 4) (kI := 1) fX9_15 (by first | assumption | exact S.at _ rfl) dX9_isMissing_1 rfl rfl ?_
  refine g_iconst (q := 5) dX9_isMissing_4 rfl ?_
  refine g_icmp_ne (q := 8) (tg := 12) dX9_isMissing_5 (by decide) rfl (fun c_5 => ?_) (fun c_5 => ?_)
  · refine g_iconst (q := 13) dX9_isMissing_12 rfl ?_
    refine g_zreturn dX9_isMissing_13 rfl (by decide +kernel) ?_
    refine ⟨_, rfl, ?_, rfl⟩; first | exact b01_t c_5 | exact b01_f c_5
  · refine g_iconst (q := 9) dX9_isMissing_8 rfl ?_
    refine g_goto (q := 13) dX9_isMissing_9 (by decide) ?_
    refine g_zreturn dX9_isMissing_13 rfl (by decide +kernel) ?_
    refine ⟨_, rfl, ?_, rfl⟩; first | exact b01_t c_5 | exact b01_f c_5
def lyC (ct : mbCt) (a b n : Int) : mbCt := fun x j => if x = a ∧ j = 2 then b else if x = a ∧ j = 1 then n else if x = a + 1 ∧ 0 ≤ j ∧ j < 40 then 0 else ct x j
theorem c_lay {a s n : Int} (ha : trAt sh ct a) : Mt YX9_lay (d + 1) [.inr (.inr a), .inl s, .inl n] sh sh ct (pN fun c => c = lyC ct a (shlI 8 s) n) := by
  obtain ⟨ha1, ha2, ha3⟩ := ha
  have l1 : ∀ v w, wr (wr ct a 2 v) a 1 w a 0 = a + 1 := fun v w => by unfold wr; grind
  refine Mt.of rfl (Nat.le_of_ble_eq_true rfl) ?_
  show G _ 0 [some (.inr (.inr a)), some (.inl s), some (.inl n)] [] sh ct
  refine g_aload_n (q := 1) dX9_lay_0 rfl rfl ?_
  refine g_bipush (q := 3) dX9_lay_1 (by decide +kernel) rfl ?_
  refine g_iload_n (q := 4) dX9_lay_3 rfl rfl ?_
  refine g_ishl (q := 5) dX9_lay_4 rfl ?_
  refine g_putI (q := 8) (kI := 2) fX9_19 (by first | assumption | exact S.at _ rfl) dX9_lay_5 rfl rfl ?_
  refine g_aload_n (q := 9) dX9_lay_8 rfl rfl ?_
  refine g_iload_n (q := 10) dX9_lay_9 rfl rfl ?_
  refine g_putI (q := 13) (kI := 1) fX9_15 (by first | assumption | exact S.at _ rfl) dX9_lay_10 rfl rfl ?_
  refine g_aload_n (q := 14) dX9_lay_13 rfl rfl ?_
  refine g_getA (q := 17) (kI := 0) fX9_9 (by first | assumption | exact S.at _ rfl) dX9_lay_14 rfl rfl (l1 _ _) ?_
  refine g_lconst0 (q := 18) dX9_lay_17 rfl ?_
  refine g_callS (q := 21) lX9_22 mJ7_fill_d0a16 sJ7_fill_d0a16 rfl (c_fillL d sh _ ha2 (by decide)) shLe.rf (rmOk.mk (by omega) (by first | exact shLe.rf | assumption)) (Nat.le_of_ble_eq_true rfl) dX9_lay_18 rfl rfl (kN fun c hp => ?_)
  subst hp
  refine g_return dX9_lay_21 rfl ?_
  refine ⟨rfl, ?_⟩
  funext x j
  simp only [lyC, wr, wa, flF]
  grind
theorem c_at {a i : Int} (ha : trAt sh ct a) (hz : -1 ≤ ct a 1) (hz2 : ct a 1 ≤ 40) (h0 : 0 ≤ i) (h1 : i < ct a 1) : Mt YX9_at d [.inr (.inr a), .inl i] sh sh ct (pL fun r c => r = ct (a + 1) i ∧ c = ct) := by
  obtain ⟨ha1, ha2, ha3⟩ := ha
  refine Mt.of rfl (Nat.le_of_ble_eq_true rfl) ?_
  show G _ 0 [some (.inr (.inr a)), some (.inl i)] [] sh ct
  refine g_iload_n (q := 1) dX9_at_0 rfl rfl ?_
  refine g_if_lt (q := 4) (tg := 21) dX9_at_1 (by decide) rfl (fun c_1 => ?_) (fun c_1 => ?_)
  · exact absurd c_1 (by unfold w32; omega)
  · refine g_iload_n (q := 5) dX9_at_4 rfl rfl ?_
    refine g_aload_n (q := 6) dX9_at_5 rfl rfl ?_
    refine g_getI (q := 9) (kI := 1) fX9_15 (by first | assumption | exact S.at _ rfl) dX9_at_6 rfl rfl ?_
    refine g_icmp_ge (q := 12) (tg := 21) dX9_at_9 (by decide) rfl (fun c_9 => ?_) (fun c_9 => ?_)
    · exact absurd c_9 (by unfold w32; omega)
    · refine g_aload_n (q := 13) dX9_at_12 rfl rfl ?_
      refine g_getA (q := 16) (kI := 0) fX9_9 (by first | assumption | exact S.at _ rfl) dX9_at_13 rfl rfl (by first | assumption | exact L.at _ _ rfl | exact LK.at (by assumption) _ _ rfl | ((repeat first | rewrite [wr_na (by decide)] | rewrite [wr_nk (by decide)] | rewrite [wa_na (by decide)]); first | assumption | exact LK.at (by assumption) _ _ rfl) | exact rfl) ?_
      refine g_iload_n (q := 17) dX9_at_16 rfl rfl ?_
      refine g_laload (q := 18) (by first | assumption | exact S.at _ rfl) (by omega) (by omega) (by omega) dX9_at_17 rfl ?_
      refine g_goto (q := 22) dX9_at_18 (by decide) ?_
      refine g_lreturn dX9_at_22 rfl ?_
      exact ⟨_, rfl, rfl, rfl⟩
def cutL (bits v : Int) : Int := shrL (shlL v (64 - bits)) (64 - bits)
theorem c_put {a i v : Int} (ha : trAt sh ct a) (hz2 : ct a 1 ≤ 40) (h0 : 0 ≤ i) (h1 : i < ct a 1) : Mt YX9_put d [.inr (.inr a), .inl i, .inr (.inl v)] sh sh ct (pL fun r c => r = cutL (ct a 2) v ∧ c = wr ct (a + 1) i (cutL (ct a 2) v)) := by
  obtain ⟨ha1, ha2, ha3⟩ := ha
  refine Mt.of rfl (Nat.le_of_ble_eq_true rfl) ?_
  show G _ 0 [some (.inr (.inr a)), some (.inl i), some (.inr (.inl v)), none, none] [] sh ct
  refine g_iload_n (q := 1) dX9_put_0 rfl rfl ?_
  refine g_if_lt (q := 4) (tg := 12) dX9_put_1 (by decide) rfl (fun c_1 => ?_) (fun c_1 => ?_)
  · exact absurd c_1 (by unfold w32; omega)
  · refine g_iload_n (q := 5) dX9_put_4 rfl rfl ?_
    refine g_aload_n (q := 6) dX9_put_5 rfl rfl ?_
    refine g_getI (q := 9) (kI := 1) fX9_15 (by first | assumption | exact S.at _ rfl) dX9_put_6 rfl rfl ?_
    refine g_icmp_lt (q := 12) (tg := 14) dX9_put_9 (by decide) rfl (fun c_9 => ?_) (fun c_9 => ?_)
    · have l1 : ∀ z, wr ct (a + 1) i z a 0 = a + 1 := fun z => by rw [wr_na (by omega)]; exact ha3
      refine g_bipush (q := 16) dX9_put_14 (by decide +kernel) rfl ?_
      refine g_aload_n (q := 17) dX9_put_16 rfl rfl ?_
      refine g_getI (q := 20) (kI := 2) fX9_19 (by first | assumption | exact S.at _ rfl) dX9_put_17 rfl rfl ?_
      refine g_isub (q := 21) dX9_put_20 rfl ?_
      refine s_istore_5_4 (q := 23) dX9_put_21 rfl rfl rfl ?_
      refine g_aload_n (q := 24) dX9_put_23 rfl rfl ?_
      refine g_getA (q := 27) (kI := 0) fX9_9 (by first | assumption | exact S.at _ rfl) dX9_put_24 rfl rfl (by first | assumption | exact L.at _ _ rfl | exact LK.at (by assumption) _ _ rfl | ((repeat first | rewrite [wr_na (by decide)] | rewrite [wr_nk (by decide)] | rewrite [wa_na (by decide)]); first | assumption | exact LK.at (by assumption) _ _ rfl) | exact rfl) ?_
      refine g_iload_n (q := 28) dX9_put_27 rfl rfl ?_
      refine g_lload_n (q := 29) dX9_put_28 rfl rfl ?_
      refine g_iload (q := 31) dX9_put_29 rfl rfl ?_
      refine g_lshl (q := 32) dX9_put_31 rfl ?_
      refine g_iload (q := 34) dX9_put_32 rfl rfl ?_
      refine g_lshr (q := 35) dX9_put_34 rfl ?_
      refine g_lastore (q := 36) (by first | assumption | exact S.at _ rfl) (by omega) (by omega) (by omega) dX9_put_35 rfl ?_
      refine g_aload_n (q := 37) dX9_put_36 rfl rfl ?_
      refine g_getA (q := 40) (kI := 0) fX9_9 (by first | assumption | exact S.at _ rfl) dX9_put_37 rfl rfl (l1 _) ?_
      refine g_iload_n (q := 41) dX9_put_40 rfl rfl ?_
      refine g_laload (q := 42) (by first | assumption | exact S.at _ rfl) (by omega) (by omega) (by omega) dX9_put_41 rfl ?_
      refine g_lreturn dX9_put_42 rfl ?_
      refine ⟨_, rfl, ?_, rfl⟩
      rw [wr_eq]
      rfl
    · exact absurd c_9 (by unfold w32; omega)
end
