/-! Ways: the queue, reach -/
def eqBq (A : List Int) (q : Int) (c c2 : mbCt) : Prop := ∀ x : Int, x ∉ A → x ≠ q → c2 x = c x
theorem eqBq.rf {A : List Int} {q : Int} {c : mbCt} : eqBq A q c c := fun _ _ _ => rfl
theorem eqBq.tr {A : List Int} {q : Int} {a b c : mbCt} (h1 : eqBq A q a b) (h2 : eqBq A q b c) : eqBq A q a c := fun x hx hq => (h2 x hx hq).trans (h1 x hx hq)
theorem eqBq.mono {A B : List Int} {q : Int} {a b : mbCt} (h : eqBq A q a b) (hAB : ∀ x ∈ A, x ∈ B) : eqBq B q a b := fun x hx hq => h x (fun z => hx (hAB x z)) hq
theorem eqBut.bq {A : List Int} {q : Int} {a b : mbCt} (h : eqBut A a b) : eqBq A q a b := fun x hx _ => h x hx
theorem eqBq.wr {A : List Int} {q : Int} {ct c : mbCt} {a k v : Int} (h : eqBq A q ct c) (ha : a ∈ A ∨ a = q) : eqBq A q ct (wr c a k v) := by
  intro x hx hq
  rw [wr_other _ _ _ _ _ (fun e => by rcases ha with ha | ha <;> subst e; exact hx ha; exact hq ha)]
  exact h x hx hq
/-- the queue's cell: the first one, or one that was made later -/
def qcN (q : Int) : Prop := q = 78 ∨ 114 ≤ q
theorem LK.ebq {ct c : mbCt} (L : LK ct) {A : List Int} {q : Int} (h : eqBq A q ct c) (hq : qcN q) (hA : (A.all fun a => ((lkT[a.toNat]?).getD []).isEmpty) = true) : LK c := by
  intro a k v hv
  by_cases e : a ∈ A
  · have := List.all_eq_true.mp hA a e
    rw [lkF_none (List.isEmpty_iff.mp this)] at hv
    cases hv
  · by_cases e2 : a = q
    · subst e2
      have h2 : lkF a k = none := by
        rcases hq with rfl | h1
        · exact lkF_none rfl k
        · apply lkF_none
          have : lkT.length ≤ a.toNat := by
            have : lkT.length = 114 := rfl
            omega
          rw [List.getElem?_eq_none this]
          rfl
      rw [h2] at hv
      cases hv
    · rw [h a e e2]
      exact L a k v hv
def qSt (x : Int) : Int := x % 1024
def qSp (x : Int) : Int := x / 1024 % 64
def qFr (x : Int) : Int := x / 65536
def ndQ (c : mbCt) (q : Int) (j : Nat) : Int × Int := (qSt (c q j), qSp (c q j))
def prQ (c : mbCt) (q : Int) (j : Nat) : Nat := (qFr (c q j)).toNat
def rbit (c : mbCt) (st : Int) (sp : Nat) : Bool := (c 79 st % 18446744073709551616).toNat.testBit sp
def QI (c : mbCt) (q : Int) (N n : Nat) : Prop := c 77 1 = q ∧ c 77 2 = n ∧ n ≤ N ∧ (∀ j : Nat, j < n → 0 ≤ c q j ∧ c q j < 2147483648 ∧ c q j % 1024 < 700) ∧ (∀ (st : Int) (sp : Nat), 0 ≤ st → st < 700 → sp < 64 → (rbit c st sp = true ↔ ∃ j, j < n ∧ ndQ c q j = (st, (sp : Int))))
def coolB (cap st : Int) : Bool := decide (cap = 9) || decide (st / 7 % 10 ≤ cap)
theorem enc_q {st sp fr : Nat} (h1 : st < 1024) (h2 : sp < 64) (h3 : fr < 32768) : orI (orI (st : Int) (shlI (sp : Int) 10)) (shlI (fr : Int) 16) = ((65536 * fr + (1024 * sp + st) : Nat) : Int) := by
  have e1 : shlI (sp : Int) 10 = ((sp * 1024 : Nat) : Int) := by
    unfold shlI
    show (sp : Int) * 1024 = _
    omega
  have e2 : shlI (fr : Int) 16 = ((fr * 65536 : Nat) : Int) := by
    unfold shlI
    show (fr : Int) * 65536 = _
    omega
  have e3 : orI (st : Int) (shlI (sp : Int) 10) = ((1024 * sp + st : Nat) : Int) := by
    rw [e1]
    unfold orI
    rw [show ((st : Int) % 4294967296).toNat = st by omega, show (((sp * 1024 : Nat) : Int) % 4294967296).toNat = sp * 1024 by omega, Nat.or_comm]
    have := Nat.two_pow_add_eq_or_of_lt (i := 10) (b := st) (by omega) sp
    rw [show sp * 1024 = 2 ^ 10 * sp by omega, ← this]
  rw [e3, e2]
  unfold orI
  rw [show (((1024 * sp + st : Nat) : Int) % 4294967296).toNat = 1024 * sp + st by omega, show (((fr * 65536 : Nat) : Int) % 4294967296).toNat = fr * 65536 by omega, Nat.or_comm]
  have := Nat.two_pow_add_eq_or_of_lt (i := 16) (b := 1024 * sp + st) (by omega) fr
  rw [show fr * 65536 = 2 ^ 16 * fr by omega, ← this]
theorem bit_of {x : Int} {sp : Nat} (h : sp < 64) : andL (ushL x sp) 1 = if (x % 18446744073709551616).toNat.testBit sp = true then 1 else 0 := by
  unfold ushL andL
  rw [show ((sp : Int) % 64).toNat = sp by omega]
  generalize hy : (x % 18446744073709551616).toNat = y
  have hx : x % 18446744073709551616 = (y : Int) := by omega
  have hlt : y < 18446744073709551616 := by omega
  rw [hx]
  have e : (y : Int) / 2 ^ sp = ((y / 2 ^ sp : Nat) : Int) := by
    rw [Int.natCast_ediv, Int.natCast_pow]
    rfl
  have hle : y / 2 ^ sp ≤ y := Nat.div_le_self _ _
  rw [e]
  have hb : (y / 2 ^ sp).testBit 0 = y.testBit sp := by rw [Nat.testBit_div_two_pow, Nat.zero_add]
  rw [← hb, Nat.testBit_zero]
  generalize y / 2 ^ sp = z at hle
  rw [show ((z : Int) % 18446744073709551616).toNat = z by omega, show ((1 : Int) % 18446744073709551616).toNat = 1 from rfl, Nat.and_one_is_mod]
  by_cases e : z % 2 = 1
  · simp [e]
  · have : z % 2 = 0 := by omega
    simp [this]
theorem bit_or {x : Int} {sp k : Nat} (h : sp < 64) (hk : k < 64) : (orL x (shlL 1 sp) % 18446744073709551616).toNat.testBit k = ((x % 18446744073709551616).toNat.testBit k || decide (k = sp)) := by
  unfold shlL orL
  rw [show ((sp : Int) % 64).toNat = sp by omega, Int.one_mul]
  have hp : (2 : Nat) ^ sp < 18446744073709551616 := by
    have := Nat.pow_lt_pow_right (a := 2) (by decide) h
    omega
  have e2 : ((2 : Int) ^ sp % 18446744073709551616).toNat = 2 ^ sp := by
    have : (2 : Int) ^ sp = ((2 ^ sp : Nat) : Int) := by rw [Int.natCast_pow]; rfl
    rw [this]
    generalize (2 : Nat) ^ sp = p at hp
    omega
  rw [e2]
  generalize hy : (x % 18446744073709551616).toNat = y
  have hlt : y < 2 ^ 64 := by omega
  have ho : y ||| 2 ^ sp < 2 ^ 64 := Nat.or_lt_two_pow hlt (by omega)
  rw [show ((((y ||| 2 ^ sp : Nat) : Int)) % 18446744073709551616).toNat = y ||| 2 ^ sp by omega, Nat.testBit_or, Nat.testBit_two_pow]
  congr 1
  rw [decide_eq_decide]
  omega
theorem dX10_stateAt_0 : decode cX10_stateAt 0 = .ok (.aload_n 0, 1) := by decide +kernel
theorem dX10_stateAt_1 : decode cX10_stateAt 1 = .ok (.getfield 11, 3) := by decide +kernel
theorem dX10_stateAt_4 : decode cX10_stateAt 4 = .ok (.iload_n 1, 1) := by decide +kernel
theorem dX10_stateAt_5 : decode cX10_stateAt 5 = .ok (.iaload, 1) := by decide +kernel
theorem dX10_stateAt_6 : decode cX10_stateAt 6 = .ok (.sipush 1023, 3) := by decide +kernel
theorem dX10_stateAt_9 : decode cX10_stateAt 9 = .ok (.iand, 1) := by decide +kernel
theorem dX10_stateAt_10 : decode cX10_stateAt 10 = .ok (.ireturn, 1) := by decide +kernel
theorem dX10_spokenAt_0 : decode cX10_spokenAt 0 = .ok (.aload_n 0, 1) := by decide +kernel
theorem dX10_spokenAt_1 : decode cX10_spokenAt 1 = .ok (.getfield 11, 3) := by decide +kernel
theorem dX10_spokenAt_4 : decode cX10_spokenAt 4 = .ok (.iload_n 1, 1) := by decide +kernel
theorem dX10_spokenAt_5 : decode cX10_spokenAt 5 = .ok (.iaload, 1) := by decide +kernel
theorem dX10_spokenAt_6 : decode cX10_spokenAt 6 = .ok (.bipush 10, 2) := by decide +kernel
theorem dX10_spokenAt_8 : decode cX10_spokenAt 8 = .ok (.iushr, 1) := by decide +kernel
theorem dX10_spokenAt_9 : decode cX10_spokenAt 9 = .ok (.bipush 63, 2) := by decide +kernel
theorem dX10_spokenAt_11 : decode cX10_spokenAt 11 = .ok (.iand, 1) := by decide +kernel
theorem dX10_spokenAt_12 : decode cX10_spokenAt 12 = .ok (.ireturn, 1) := by decide +kernel
theorem dX10_ahead_0 : decode cX10_ahead 0 = .ok (.aload_n 0, 1) := by decide +kernel
theorem dX10_ahead_1 : decode cX10_ahead 1 = .ok (.getfield 11, 3) := by decide +kernel
theorem dX10_ahead_4 : decode cX10_ahead 4 = .ok (.iload_n 1, 1) := by decide +kernel
theorem dX10_ahead_5 : decode cX10_ahead 5 = .ok (.iaload, 1) := by decide +kernel
theorem dX10_ahead_6 : decode cX10_ahead 6 = .ok (.bipush 16, 2) := by decide +kernel
theorem dX10_ahead_8 : decode cX10_ahead 8 = .ok (.iushr, 1) := by decide +kernel
theorem dX10_ahead_9 : decode cX10_ahead 9 = .ok (.ireturn, 1) := by decide +kernel
theorem dX10_reach_0 : decode cX10_reach 0 = .ok (.aload_n 0, 1) := by decide +kernel
theorem dX10_reach_1 : decode cX10_reach 1 = .ok (.getfield 46, 3) := by decide +kernel
theorem dX10_reach_4 : decode cX10_reach 4 = .ok (.bipush 9, 2) := by decide +kernel
theorem dX10_reach_6 : decode cX10_reach 6 = .ok (.if_icmp .eq 14, 3) := by decide +kernel
theorem dX10_reach_9 : decode cX10_reach 9 = .ok (.iload_n 1, 1) := by decide +kernel
theorem dX10_reach_10 : decode cX10_reach 10 = .ok (.invokestatic 91, 3) := by decide +kernel
theorem dX10_reach_13 : decode cX10_reach 13 = .ok (.aload_n 0, 1) := by decide +kernel
theorem dX10_reach_14 : decode cX10_reach 14 = .ok (.getfield 46, 3) := by decide +kernel
theorem dX10_reach_17 : decode cX10_reach 17 = .ok (.if_icmp .gt 7, 3) := by decide +kernel
theorem dX10_reach_20 : decode cX10_reach 20 = .ok (.iconst 1, 1) := by decide +kernel
theorem dX10_reach_21 : decode cX10_reach 21 = .ok (.goto 4, 3) := by decide +kernel
theorem dX10_reach_24 : decode cX10_reach 24 = .ok (.iconst 0, 1) := by decide +kernel
theorem dX10_reach_25 : decode cX10_reach 25 = .ok (.istore 4, 2) := by decide +kernel
theorem dX10_reach_27 : decode cX10_reach 27 = .ok (.aload_n 0, 1) := by decide +kernel
theorem dX10_reach_28 : decode cX10_reach 28 = .ok (.getfield 15, 3) := by decide +kernel
theorem dX10_reach_31 : decode cX10_reach 31 = .ok (.iload_n 1, 1) := by decide +kernel
theorem dX10_reach_32 : decode cX10_reach 32 = .ok (.laload, 1) := by decide +kernel
theorem dX10_reach_33 : decode cX10_reach 33 = .ok (.iload_n 2, 1) := by decide +kernel
theorem dX10_reach_34 : decode cX10_reach 34 = .ok (.lushr, 1) := by decide +kernel
theorem dX10_reach_35 : decode cX10_reach 35 = .ok (.lconst 1, 1) := by decide +kernel
theorem dX10_reach_36 : decode cX10_reach 36 = .ok (.land, 1) := by decide +kernel
theorem dX10_reach_37 : decode cX10_reach 37 = .ok (.lconst 0, 1) := by decide +kernel
theorem dX10_reach_38 : decode cX10_reach 38 = .ok (.lcmp, 1) := by decide +kernel
theorem dX10_reach_39 : decode cX10_reach 39 = .ok (.ifCond .ne 62, 3) := by decide +kernel
theorem dX10_reach_42 : decode cX10_reach 42 = .ok (.iload 4, 2) := by decide +kernel
theorem dX10_reach_44 : decode cX10_reach 44 = .ok (.ifCond .eq 57, 3) := by decide +kernel
theorem dX10_reach_47 : decode cX10_reach 47 = .ok (.aload_n 0, 1) := by decide +kernel
theorem dX10_reach_48 : decode cX10_reach 48 = .ok (.getfield 55, 3) := by decide +kernel
theorem dX10_reach_51 : decode cX10_reach 51 = .ok (.aload_n 0, 1) := by decide +kernel
theorem dX10_reach_52 : decode cX10_reach 52 = .ok (.getfield 11, 3) := by decide +kernel
theorem dX10_reach_55 : decode cX10_reach 55 = .ok (.arraylength, 1) := by decide +kernel
theorem dX10_reach_56 : decode cX10_reach 56 = .ok (.if_icmp .ge 45, 3) := by decide +kernel
theorem dX10_reach_59 : decode cX10_reach 59 = .ok (.aload_n 0, 1) := by decide +kernel
theorem dX10_reach_60 : decode cX10_reach 60 = .ok (.getfield 15, 3) := by decide +kernel
theorem dX10_reach_63 : decode cX10_reach 63 = .ok (.iload_n 1, 1) := by decide +kernel
theorem dX10_reach_64 : decode cX10_reach 64 = .ok (.dup2, 1) := by decide +kernel
theorem dX10_reach_65 : decode cX10_reach 65 = .ok (.laload, 1) := by decide +kernel
theorem dX10_reach_66 : decode cX10_reach 66 = .ok (.lconst 1, 1) := by decide +kernel
theorem dX10_reach_67 : decode cX10_reach 67 = .ok (.iload_n 2, 1) := by decide +kernel
theorem dX10_reach_68 : decode cX10_reach 68 = .ok (.lshl, 1) := by decide +kernel
theorem dX10_reach_69 : decode cX10_reach 69 = .ok (.lor, 1) := by decide +kernel
theorem dX10_reach_70 : decode cX10_reach 70 = .ok (.lastore, 1) := by decide +kernel
theorem dX10_reach_71 : decode cX10_reach 71 = .ok (.aload_n 0, 1) := by decide +kernel
theorem dX10_reach_72 : decode cX10_reach 72 = .ok (.getfield 11, 3) := by decide +kernel
theorem dX10_reach_75 : decode cX10_reach 75 = .ok (.aload_n 0, 1) := by decide +kernel
theorem dX10_reach_76 : decode cX10_reach 76 = .ok (.getfield 55, 3) := by decide +kernel
theorem dX10_reach_79 : decode cX10_reach 79 = .ok (.iload_n 1, 1) := by decide +kernel
theorem dX10_reach_80 : decode cX10_reach 80 = .ok (.iload_n 2, 1) := by decide +kernel
theorem dX10_reach_81 : decode cX10_reach 81 = .ok (.bipush 10, 2) := by decide +kernel
theorem dX10_reach_83 : decode cX10_reach 83 = .ok (.ishl, 1) := by decide +kernel
theorem dX10_reach_84 : decode cX10_reach 84 = .ok (.ior, 1) := by decide +kernel
theorem dX10_reach_85 : decode cX10_reach 85 = .ok (.iload_n 3, 1) := by decide +kernel
theorem dX10_reach_86 : decode cX10_reach 86 = .ok (.bipush 16, 2) := by decide +kernel
theorem dX10_reach_88 : decode cX10_reach 88 = .ok (.ishl, 1) := by decide +kernel
theorem dX10_reach_89 : decode cX10_reach 89 = .ok (.ior, 1) := by decide +kernel
theorem dX10_reach_90 : decode cX10_reach 90 = .ok (.iastore, 1) := by decide +kernel
theorem dX10_reach_91 : decode cX10_reach 91 = .ok (.aload_n 0, 1) := by decide +kernel
theorem dX10_reach_92 : decode cX10_reach 92 = .ok (.dup, 1) := by decide +kernel
theorem dX10_reach_93 : decode cX10_reach 93 = .ok (.getfield 55, 3) := by decide +kernel
theorem dX10_reach_96 : decode cX10_reach 96 = .ok (.iconst 1, 1) := by decide +kernel
theorem dX10_reach_97 : decode cX10_reach 97 = .ok (.iadd, 1) := by decide +kernel
theorem dX10_reach_98 : decode cX10_reach 98 = .ok (.putfield 55, 3) := by decide +kernel
theorem dX10_reach_101 : decode cX10_reach 101 = .ok (.return_, 1) := by decide +kernel
theorem dX10_spread_0 : decode cX10_spread 0 = .ok (.aload_n 0, 1) := by decide +kernel
theorem dX10_spread_1 : decode cX10_spread 1 = .ok (.iload_n 1, 1) := by decide +kernel
theorem dX10_spread_2 : decode cX10_spread 2 = .ok (.invokevirtual 66, 3) := by decide +kernel
theorem dX10_spread_5 : decode cX10_spread 5 = .ok (.istore_n 2, 1) := by decide +kernel
theorem dX10_spread_6 : decode cX10_spread 6 = .ok (.aload_n 0, 1) := by decide +kernel
theorem dX10_spread_7 : decode cX10_spread 7 = .ok (.iload_n 1, 1) := by decide +kernel
theorem dX10_spread_8 : decode cX10_spread 8 = .ok (.invokevirtual 62, 3) := by decide +kernel
theorem dX10_spread_11 : decode cX10_spread 11 = .ok (.istore_n 3, 1) := by decide +kernel
theorem dX10_spread_12 : decode cX10_spread 12 = .ok (.aload_n 0, 1) := by decide +kernel
theorem dX10_spread_13 : decode cX10_spread 13 = .ok (.getfield 29, 3) := by decide +kernel
theorem dX10_spread_16 : decode cX10_spread 16 = .ok (.iload_n 2, 1) := by decide +kernel
theorem dX10_spread_17 : decode cX10_spread 17 = .ok (.invokevirtual 94, 3) := by decide +kernel
theorem dX10_spread_20 : decode cX10_spread 20 = .ok (.aload_n 0, 1) := by decide +kernel
theorem dX10_spread_21 : decode cX10_spread 21 = .ok (.getfield 42, 3) := by decide +kernel
theorem dX10_spread_24 : decode cX10_spread 24 = .ok (.land, 1) := by decide +kernel
theorem dX10_spread_25 : decode cX10_spread 25 = .ok (.lstore 4, 2) := by decide +kernel
theorem dX10_spread_27 : decode cX10_spread 27 = .ok (.iconst 0, 1) := by decide +kernel
theorem dX10_spread_28 : decode cX10_spread 28 = .ok (.istore 6, 2) := by decide +kernel
theorem dX10_spread_30 : decode cX10_spread 30 = .ok (.iload 6, 2) := by decide +kernel
theorem dX10_spread_32 : decode cX10_spread 32 = .ok (.bipush 6, 2) := by decide +kernel
theorem dX10_spread_34 : decode cX10_spread 34 = .ok (.if_icmp .ge 87, 3) := by decide +kernel
theorem dX10_spread_37 : decode cX10_spread 37 = .ok (.aload_n 0, 1) := by decide +kernel
theorem dX10_spread_38 : decode cX10_spread 38 = .ok (.getfield 49, 3) := by decide +kernel
theorem dX10_spread_41 : decode cX10_spread 41 = .ok (.ifCond .ne 7, 3) := by decide +kernel
theorem dX10_spread_44 : decode cX10_spread 44 = .ok (.iconst 0, 1) := by decide +kernel
theorem dX10_spread_45 : decode cX10_spread 45 = .ok (.goto 9, 3) := by decide +kernel
theorem dX10_spread_48 : decode cX10_spread 48 = .ok (.iload_n 3, 1) := by decide +kernel
theorem dX10_spread_49 : decode cX10_spread 49 = .ok (.iconst 1, 1) := by decide +kernel
theorem dX10_spread_50 : decode cX10_spread 50 = .ok (.iload 6, 2) := by decide +kernel
theorem dX10_spread_52 : decode cX10_spread 52 = .ok (.ishl, 1) := by decide +kernel
theorem dX10_spread_53 : decode cX10_spread 53 = .ok (.ior, 1) := by decide +kernel
theorem dX10_spread_54 : decode cX10_spread 54 = .ok (.istore 7, 2) := by decide +kernel
theorem dX10_spread_56 : decode cX10_spread 56 = .ok (.iload_n 2, 1) := by decide +kernel
theorem dX10_spread_57 : decode cX10_spread 57 = .ok (.bipush 7, 2) := by decide +kernel
theorem dX10_spread_59 : decode cX10_spread 59 = .ok (.idiv, 1) := by decide +kernel
theorem dX10_spread_60 : decode cX10_spread 60 = .ok (.istore 8, 2) := by decide +kernel
theorem dX10_spread_62 : decode cX10_spread 62 = .ok (.lload 4, 2) := by decide +kernel
theorem dX10_spread_64 : decode cX10_spread 64 = .ok (.iload 6, 2) := by decide +kernel
theorem dX10_spread_66 : decode cX10_spread 66 = .ok (.invokestatic 98, 3) := by decide +kernel
theorem dX10_spread_69 : decode cX10_spread 69 = .ok (.istore 9, 2) := by decide +kernel
theorem dX10_spread_71 : decode cX10_spread 71 = .ok (.iload 9, 2) := by decide +kernel
theorem dX10_spread_73 : decode cX10_spread 73 = .ok (.ifCond .eq 42, 3) := by decide +kernel
theorem dX10_spread_76 : decode cX10_spread 76 = .ok (.iload 9, 2) := by decide +kernel
theorem dX10_spread_78 : decode cX10_spread 78 = .ok (.iconst 1, 1) := by decide +kernel
theorem dX10_spread_79 : decode cX10_spread 79 = .ok (.iand, 1) := by decide +kernel
theorem dX10_spread_80 : decode cX10_spread 80 = .ok (.ifCond .eq 23, 3) := by decide +kernel
theorem dX10_spread_83 : decode cX10_spread 83 = .ok (.aload_n 0, 1) := by decide +kernel
theorem dX10_spread_84 : decode cX10_spread 84 = .ok (.aload_n 0, 1) := by decide +kernel
theorem dX10_spread_85 : decode cX10_spread 85 = .ok (.getfield 29, 3) := by decide +kernel
theorem dX10_spread_88 : decode cX10_spread 88 = .ok (.getfield 102, 3) := by decide +kernel
theorem dX10_spread_91 : decode cX10_spread 91 = .ok (.iload 8, 2) := by decide +kernel
theorem dX10_spread_93 : decode cX10_spread 93 = .ok (.iaload, 1) := by decide +kernel
theorem dX10_spread_94 : decode cX10_spread 94 = .ok (.iload 6, 2) := by decide +kernel
theorem dX10_spread_96 : decode cX10_spread 96 = .ok (.iadd, 1) := by decide +kernel
theorem dX10_spread_97 : decode cX10_spread 97 = .ok (.iload 7, 2) := by decide +kernel
theorem dX10_spread_99 : decode cX10_spread 99 = .ok (.iload_n 1, 1) := by decide +kernel
theorem dX10_spread_100 : decode cX10_spread 100 = .ok (.invokevirtual 58, 3) := by decide +kernel
theorem dX10_spread_103 : decode cX10_spread 103 = .ok (.iinc 8 100, 3) := by decide +kernel
theorem dX10_spread_106 : decode cX10_spread 106 = .ok (.iload 9, 2) := by decide +kernel
theorem dX10_spread_108 : decode cX10_spread 108 = .ok (.iconst 1, 1) := by decide +kernel
theorem dX10_spread_109 : decode cX10_spread 109 = .ok (.iushr, 1) := by decide +kernel
theorem dX10_spread_110 : decode cX10_spread 110 = .ok (.istore 9, 2) := by decide +kernel
theorem dX10_spread_112 : decode cX10_spread 112 = .ok (.goto (-41), 3) := by decide +kernel
theorem dX10_spread_115 : decode cX10_spread 115 = .ok (.iinc 6 1, 3) := by decide +kernel
theorem dX10_spread_118 : decode cX10_spread 118 = .ok (.goto (-88), 3) := by decide +kernel
theorem dX10_spread_121 : decode cX10_spread 121 = .ok (.return_, 1) := by decide +kernel
theorem dX10_lengthTo_0 : decode cX10_lengthTo 0 = .ok (.iconst 0, 1) := by decide +kernel
theorem dX10_lengthTo_1 : decode cX10_lengthTo 1 = .ok (.istore_n 2, 1) := by decide +kernel
theorem dX10_lengthTo_2 : decode cX10_lengthTo 2 = .ok (.iload_n 1, 1) := by decide +kernel
theorem dX10_lengthTo_3 : decode cX10_lengthTo 3 = .ok (.istore_n 3, 1) := by decide +kernel
theorem dX10_lengthTo_4 : decode cX10_lengthTo 4 = .ok (.iload_n 3, 1) := by decide +kernel
theorem dX10_lengthTo_5 : decode cX10_lengthTo 5 = .ok (.ifCond .le 23, 3) := by decide +kernel
theorem dX10_lengthTo_8 : decode cX10_lengthTo 8 = .ok (.iload_n 2, 1) := by decide +kernel
theorem dX10_lengthTo_9 : decode cX10_lengthTo 9 = .ok (.aload_n 0, 1) := by decide +kernel
theorem dX10_lengthTo_10 : decode cX10_lengthTo 10 = .ok (.getfield 55, 3) := by decide +kernel
theorem dX10_lengthTo_13 : decode cX10_lengthTo 13 = .ok (.if_icmp .ge 15, 3) := by decide +kernel
theorem dX10_lengthTo_16 : decode cX10_lengthTo 16 = .ok (.iinc 2 1, 3) := by decide +kernel
theorem dX10_lengthTo_19 : decode cX10_lengthTo 19 = .ok (.aload_n 0, 1) := by decide +kernel
theorem dX10_lengthTo_20 : decode cX10_lengthTo 20 = .ok (.iload_n 3, 1) := by decide +kernel
theorem dX10_lengthTo_21 : decode cX10_lengthTo 21 = .ok (.invokevirtual 105, 3) := by decide +kernel
theorem dX10_lengthTo_24 : decode cX10_lengthTo 24 = .ok (.istore_n 3, 1) := by decide +kernel
theorem dX10_lengthTo_25 : decode cX10_lengthTo 25 = .ok (.goto (-21), 3) := by decide +kernel
theorem dX10_lengthTo_28 : decode cX10_lengthTo 28 = .ok (.iload_n 2, 1) := by decide +kernel
theorem dX10_lengthTo_29 : decode cX10_lengthTo 29 = .ok (.ireturn, 1) := by decide +kernel
theorem dX10_find_0 : decode cX10_find 0 = .ok (.aload_n 0, 1) := by decide +kernel
theorem dX10_find_1 : decode cX10_find 1 = .ok (.getfield 26, 3) := by decide +kernel
theorem dX10_find_4 : decode cX10_find 4 = .ok (.aload_n 0, 1) := by decide +kernel
theorem dX10_find_5 : decode cX10_find 5 = .ok (.getfield 29, 3) := by decide +kernel
theorem dX10_find_8 : decode cX10_find 8 = .ok (.getfield 33, 3) := by decide +kernel
theorem dX10_find_11 : decode cX10_find 11 = .ok (.if_icmp .ne 51, 3) := by decide +kernel
theorem dX10_find_14 : decode cX10_find 14 = .ok (.aload_n 0, 1) := by decide +kernel
theorem dX10_find_15 : decode cX10_find 15 = .ok (.getfield 36, 3) := by decide +kernel
theorem dX10_find_18 : decode cX10_find 18 = .ok (.iload_n 1, 1) := by decide +kernel
theorem dX10_find_19 : decode cX10_find 19 = .ok (.if_icmp .ne 43, 3) := by decide +kernel
theorem dX10_find_22 : decode cX10_find 22 = .ok (.aload_n 0, 1) := by decide +kernel
theorem dX10_find_23 : decode cX10_find 23 = .ok (.getfield 39, 3) := by decide +kernel
theorem dX10_find_26 : decode cX10_find 26 = .ok (.iload_n 2, 1) := by decide +kernel
theorem dX10_find_27 : decode cX10_find 27 = .ok (.if_icmp .ne 35, 3) := by decide +kernel
theorem dX10_find_30 : decode cX10_find 30 = .ok (.aload_n 0, 1) := by decide +kernel
theorem dX10_find_31 : decode cX10_find 31 = .ok (.getfield 42, 3) := by decide +kernel
theorem dX10_find_34 : decode cX10_find 34 = .ok (.lload_n 3, 1) := by decide +kernel
theorem dX10_find_35 : decode cX10_find 35 = .ok (.lcmp, 1) := by decide +kernel
theorem dX10_find_36 : decode cX10_find 36 = .ok (.ifCond .ne 26, 3) := by decide +kernel
theorem dX10_find_39 : decode cX10_find 39 = .ok (.aload_n 0, 1) := by decide +kernel
theorem dX10_find_40 : decode cX10_find 40 = .ok (.getfield 46, 3) := by decide +kernel
theorem dX10_find_43 : decode cX10_find 43 = .ok (.iload 5, 2) := by decide +kernel
theorem dX10_find_45 : decode cX10_find 45 = .ok (.if_icmp .ne 17, 3) := by decide +kernel
theorem dX10_find_48 : decode cX10_find 48 = .ok (.aload_n 0, 1) := by decide +kernel
theorem dX10_find_49 : decode cX10_find 49 = .ok (.getfield 49, 3) := by decide +kernel
theorem dX10_find_52 : decode cX10_find 52 = .ok (.iload 6, 2) := by decide +kernel
theorem dX10_find_54 : decode cX10_find 54 = .ok (.if_icmp .ne 8, 3) := by decide +kernel
theorem dX10_find_57 : decode cX10_find 57 = .ok (.aload_n 0, 1) := by decide +kernel
theorem dX10_find_58 : decode cX10_find 58 = .ok (.getfield 23, 3) := by decide +kernel
theorem dX10_find_61 : decode cX10_find 61 = .ok (.ireturn, 1) := by decide +kernel
theorem dX10_find_62 : decode cX10_find 62 = .ok (.aload_n 0, 1) := by decide +kernel
theorem dX10_find_63 : decode cX10_find 63 = .ok (.aload_n 0, 1) := by decide +kernel
theorem dX10_find_64 : decode cX10_find 64 = .ok (.getfield 29, 3) := by decide +kernel
theorem dX10_find_67 : decode cX10_find 67 = .ok (.getfield 33, 3) := by decide +kernel
theorem dX10_find_70 : decode cX10_find 70 = .ok (.putfield 26, 3) := by decide +kernel
theorem dX10_find_73 : decode cX10_find 73 = .ok (.aload_n 0, 1) := by decide +kernel
theorem dX10_find_74 : decode cX10_find 74 = .ok (.iload_n 1, 1) := by decide +kernel
theorem dX10_find_75 : decode cX10_find 75 = .ok (.putfield 36, 3) := by decide +kernel
theorem dX10_find_78 : decode cX10_find 78 = .ok (.aload_n 0, 1) := by decide +kernel
theorem dX10_find_79 : decode cX10_find 79 = .ok (.iload_n 2, 1) := by decide +kernel
theorem dX10_find_80 : decode cX10_find 80 = .ok (.putfield 39, 3) := by decide +kernel
theorem dX10_find_83 : decode cX10_find 83 = .ok (.aload_n 0, 1) := by decide +kernel
theorem dX10_find_84 : decode cX10_find 84 = .ok (.lload_n 3, 1) := by decide +kernel
theorem dX10_find_85 : decode cX10_find 85 = .ok (.putfield 42, 3) := by decide +kernel
theorem dX10_find_88 : decode cX10_find 88 = .ok (.aload_n 0, 1) := by decide +kernel
theorem dX10_find_89 : decode cX10_find 89 = .ok (.iload 5, 2) := by decide +kernel
theorem dX10_find_91 : decode cX10_find 91 = .ok (.putfield 46, 3) := by decide +kernel
theorem dX10_find_94 : decode cX10_find 94 = .ok (.aload_n 0, 1) := by decide +kernel
theorem dX10_find_95 : decode cX10_find 95 = .ok (.iload 6, 2) := by decide +kernel
theorem dX10_find_97 : decode cX10_find 97 = .ok (.putfield 49, 3) := by decide +kernel
theorem dX10_find_100 : decode cX10_find 100 = .ok (.aload_n 0, 1) := by decide +kernel
theorem dX10_find_101 : decode cX10_find 101 = .ok (.invokevirtual 52, 3) := by decide +kernel
theorem dX10_find_104 : decode cX10_find 104 = .ok (.aload_n 0, 1) := by decide +kernel
theorem dX10_find_105 : decode cX10_find 105 = .ok (.iconst 0, 1) := by decide +kernel
theorem dX10_find_106 : decode cX10_find 106 = .ok (.putfield 55, 3) := by decide +kernel
theorem dX10_find_109 : decode cX10_find 109 = .ok (.aload_n 0, 1) := by decide +kernel
theorem dX10_find_110 : decode cX10_find 110 = .ok (.iconst (-1), 1) := by decide +kernel
theorem dX10_find_111 : decode cX10_find 111 = .ok (.putfield 19, 3) := by decide +kernel
theorem dX10_find_114 : decode cX10_find 114 = .ok (.aload_n 0, 1) := by decide +kernel
theorem dX10_find_115 : decode cX10_find 115 = .ok (.aload_n 0, 1) := by decide +kernel
theorem dX10_find_116 : decode cX10_find 116 = .ok (.getfield 36, 3) := by decide +kernel
theorem dX10_find_119 : decode cX10_find 119 = .ok (.iconst 0, 1) := by decide +kernel
theorem dX10_find_120 : decode cX10_find 120 = .ok (.iconst 0, 1) := by decide +kernel
theorem dX10_find_121 : decode cX10_find 121 = .ok (.invokevirtual 58, 3) := by decide +kernel
theorem dX10_find_124 : decode cX10_find 124 = .ok (.iconst 0, 1) := by decide +kernel
theorem dX10_find_125 : decode cX10_find 125 = .ok (.istore 7, 2) := by decide +kernel
theorem dX10_find_127 : decode cX10_find 127 = .ok (.iload 7, 2) := by decide +kernel
theorem dX10_find_129 : decode cX10_find 129 = .ok (.aload_n 0, 1) := by decide +kernel
theorem dX10_find_130 : decode cX10_find 130 = .ok (.getfield 11, 3) := by decide +kernel
theorem dX10_find_133 : decode cX10_find 133 = .ok (.arraylength, 1) := by decide +kernel
theorem dX10_find_134 : decode cX10_find 134 = .ok (.if_icmp .ge 74, 3) := by decide +kernel
theorem dX10_find_137 : decode cX10_find 137 = .ok (.iload 7, 2) := by decide +kernel
theorem dX10_find_139 : decode cX10_find 139 = .ok (.aload_n 0, 1) := by decide +kernel
theorem dX10_find_140 : decode cX10_find 140 = .ok (.getfield 55, 3) := by decide +kernel
theorem dX10_find_143 : decode cX10_find 143 = .ok (.if_icmp .ge 65, 3) := by decide +kernel
theorem dX10_find_146 : decode cX10_find 146 = .ok (.aload_n 0, 1) := by decide +kernel
theorem dX10_find_147 : decode cX10_find 147 = .ok (.getfield 19, 3) := by decide +kernel
theorem dX10_find_150 : decode cX10_find 150 = .ok (.iconst (-1), 1) := by decide +kernel
theorem dX10_find_151 : decode cX10_find 151 = .ok (.if_icmp .ne 57, 3) := by decide +kernel
theorem dX10_find_154 : decode cX10_find 154 = .ok (.aload_n 0, 1) := by decide +kernel
theorem dX10_find_155 : decode cX10_find 155 = .ok (.iload 7, 2) := by decide +kernel
theorem dX10_find_157 : decode cX10_find 157 = .ok (.invokevirtual 62, 3) := by decide +kernel
theorem dX10_find_160 : decode cX10_find 160 = .ok (.aload_n 0, 1) := by decide +kernel
theorem dX10_find_161 : decode cX10_find 161 = .ok (.getfield 49, 3) := by decide +kernel
theorem dX10_find_164 : decode cX10_find 164 = .ok (.if_icmp .ne 32, 3) := by decide +kernel
theorem dX10_find_167 : decode cX10_find 167 = .ok (.aload_n 0, 1) := by decide +kernel
theorem dX10_find_168 : decode cX10_find 168 = .ok (.getfield 29, 3) := by decide +kernel
theorem dX10_find_171 : decode cX10_find 171 = .ok (.aload_n 0, 1) := by decide +kernel
theorem dX10_find_172 : decode cX10_find 172 = .ok (.iload 7, 2) := by decide +kernel
theorem dX10_find_174 : decode cX10_find 174 = .ok (.invokevirtual 66, 3) := by decide +kernel
theorem dX10_find_177 : decode cX10_find 177 = .ok (.aload_n 0, 1) := by decide +kernel
theorem dX10_find_178 : decode cX10_find 178 = .ok (.getfield 39, 3) := by decide +kernel
theorem dX10_find_181 : decode cX10_find 181 = .ok (.invokevirtual 69, 3) := by decide +kernel
theorem dX10_find_184 : decode cX10_find 184 = .ok (.ifCond .eq 12, 3) := by decide +kernel
theorem dX10_find_187 : decode cX10_find 187 = .ok (.aload_n 0, 1) := by decide +kernel
theorem dX10_find_188 : decode cX10_find 188 = .ok (.iload 7, 2) := by decide +kernel
theorem dX10_find_190 : decode cX10_find 190 = .ok (.putfield 19, 3) := by decide +kernel
theorem dX10_find_193 : decode cX10_find 193 = .ok (.goto 9, 3) := by decide +kernel
theorem dX10_find_196 : decode cX10_find 196 = .ok (.aload_n 0, 1) := by decide +kernel
theorem dX10_find_197 : decode cX10_find 197 = .ok (.iload 7, 2) := by decide +kernel
theorem dX10_find_199 : decode cX10_find 199 = .ok (.invokevirtual 73, 3) := by decide +kernel
theorem dX10_find_202 : decode cX10_find 202 = .ok (.iinc 7 1, 3) := by decide +kernel
theorem dX10_find_205 : decode cX10_find 205 = .ok (.goto (-78), 3) := by decide +kernel
theorem dX10_find_208 : decode cX10_find 208 = .ok (.iconst 0, 1) := by decide +kernel
theorem dX10_find_209 : decode cX10_find 209 = .ok (.istore 7, 2) := by decide +kernel
theorem dX10_find_211 : decode cX10_find 211 = .ok (.iload 7, 2) := by decide +kernel
theorem dX10_find_213 : decode cX10_find 213 = .ok (.aload_n 0, 1) := by decide +kernel
theorem dX10_find_214 : decode cX10_find 214 = .ok (.getfield 55, 3) := by decide +kernel
theorem dX10_find_217 : decode cX10_find 217 = .ok (.if_icmp .ge 21, 3) := by decide +kernel
theorem dX10_find_220 : decode cX10_find 220 = .ok (.aload_n 0, 1) := by decide +kernel
theorem dX10_find_221 : decode cX10_find 221 = .ok (.getfield 15, 3) := by decide +kernel
theorem dX10_find_224 : decode cX10_find 224 = .ok (.aload_n 0, 1) := by decide +kernel
theorem dX10_find_225 : decode cX10_find 225 = .ok (.iload 7, 2) := by decide +kernel
theorem dX10_find_227 : decode cX10_find 227 = .ok (.invokevirtual 66, 3) := by decide +kernel
theorem dX10_find_230 : decode cX10_find 230 = .ok (.lconst 0, 1) := by decide +kernel
theorem dX10_find_231 : decode cX10_find 231 = .ok (.lastore, 1) := by decide +kernel
theorem dX10_find_232 : decode cX10_find 232 = .ok (.iinc 7 1, 3) := by decide +kernel
theorem dX10_find_235 : decode cX10_find 235 = .ok (.goto (-24), 3) := by decide +kernel
theorem dX10_find_238 : decode cX10_find 238 = .ok (.aload_n 0, 1) := by decide +kernel
theorem dX10_find_239 : decode cX10_find 239 = .ok (.aload_n 0, 1) := by decide +kernel
theorem dX10_find_240 : decode cX10_find 240 = .ok (.getfield 19, 3) := by decide +kernel
theorem dX10_find_243 : decode cX10_find 243 = .ok (.iconst (-1), 1) := by decide +kernel
theorem dX10_find_244 : decode cX10_find 244 = .ok (.if_icmp .ne 7, 3) := by decide +kernel
theorem dX10_find_247 : decode cX10_find 247 = .ok (.iconst (-1), 1) := by decide +kernel
theorem dX10_find_248 : decode cX10_find 248 = .ok (.goto 11, 3) := by decide +kernel
theorem dX10_find_251 : decode cX10_find 251 = .ok (.aload_n 0, 1) := by decide +kernel
theorem dX10_find_252 : decode cX10_find 252 = .ok (.aload_n 0, 1) := by decide +kernel
theorem dX10_find_253 : decode cX10_find 253 = .ok (.getfield 19, 3) := by decide +kernel
theorem dX10_find_256 : decode cX10_find 256 = .ok (.invokevirtual 77, 3) := by decide +kernel
theorem dX10_find_259 : decode cX10_find 259 = .ok (.putfield 23, 3) := by decide +kernel
theorem dX10_find_262 : decode cX10_find 262 = .ok (.aload_n 0, 1) := by decide +kernel
theorem dX10_find_263 : decode cX10_find 263 = .ok (.getfield 23, 3) := by decide +kernel
theorem dX10_find_266 : decode cX10_find 266 = .ok (.ireturn, 1) := by decide +kernel
theorem dX10_makeRoom_0 : decode cX10_makeRoom 0 = .ok (.aload_n 0, 1) := by decide +kernel
theorem dX10_makeRoom_1 : decode cX10_makeRoom 1 = .ok (.getfield 49, 3) := by decide +kernel
theorem dX10_makeRoom_4 : decode cX10_makeRoom 4 = .ok (.invokestatic 80, 3) := by decide +kernel
theorem dX10_makeRoom_7 : decode cX10_makeRoom 7 = .ok (.istore_n 1, 1) := by decide +kernel
theorem dX10_makeRoom_8 : decode cX10_makeRoom 8 = .ok (.sipush 700, 3) := by decide +kernel
theorem dX10_makeRoom_11 : decode cX10_makeRoom 11 = .ok (.bipush 100, 2) := by decide +kernel
theorem dX10_makeRoom_13 : decode cX10_makeRoom 13 = .ok (.iload_n 1, 1) := by decide +kernel
theorem dX10_makeRoom_14 : decode cX10_makeRoom 14 = .ok (.imul, 1) := by decide +kernel
theorem dX10_makeRoom_15 : decode cX10_makeRoom 15 = .ok (.iconst 1, 1) := by decide +kernel
theorem dX10_makeRoom_16 : decode cX10_makeRoom 16 = .ok (.iload_n 1, 1) := by decide +kernel
theorem dX10_makeRoom_17 : decode cX10_makeRoom 17 = .ok (.ishl, 1) := by decide +kernel
theorem dX10_makeRoom_18 : decode cX10_makeRoom 18 = .ok (.imul, 1) := by decide +kernel
theorem dX10_makeRoom_19 : decode cX10_makeRoom 19 = .ok (.iconst 2, 1) := by decide +kernel
theorem dX10_makeRoom_20 : decode cX10_makeRoom 20 = .ok (.idiv, 1) := by decide +kernel
theorem dX10_makeRoom_21 : decode cX10_makeRoom 21 = .ok (.iconst 1, 1) := by decide +kernel
theorem dX10_makeRoom_22 : decode cX10_makeRoom 22 = .ok (.iadd, 1) := by decide +kernel
theorem dX10_makeRoom_23 : decode cX10_makeRoom 23 = .ok (.invokestatic 85, 3) := by decide +kernel
theorem dX10_makeRoom_26 : decode cX10_makeRoom 26 = .ok (.istore_n 2, 1) := by decide +kernel
theorem dX10_makeRoom_27 : decode cX10_makeRoom 27 = .ok (.aload_n 0, 1) := by decide +kernel
theorem dX10_makeRoom_28 : decode cX10_makeRoom 28 = .ok (.getfield 11, 3) := by decide +kernel
theorem dX10_makeRoom_31 : decode cX10_makeRoom 31 = .ok (.arraylength, 1) := by decide +kernel
theorem dX10_makeRoom_32 : decode cX10_makeRoom 32 = .ok (.iload_n 2, 1) := by decide +kernel
theorem dX10_makeRoom_33 : decode cX10_makeRoom 33 = .ok (.if_icmp .ge 10, 3) := by decide +kernel
theorem dX10_makeRoom_36 : decode cX10_makeRoom 36 = .ok (.aload_n 0, 1) := by decide +kernel
theorem dX10_makeRoom_37 : decode cX10_makeRoom 37 = .ok (.iload_n 2, 1) := by decide +kernel
theorem dX10_makeRoom_38 : decode cX10_makeRoom 38 = .ok (.newarray .int, 2) := by decide +kernel
theorem dX10_makeRoom_40 : decode cX10_makeRoom 40 = .ok (.putfield 11, 3) := by decide +kernel
theorem dX10_makeRoom_43 : decode cX10_makeRoom 43 = .ok (.return_, 1) := by decide +kernel
theorem dX10_minuteAt_0 : decode cX10_minuteAt 0 = .ok (.iload_n 1, 1) := by decide +kernel
theorem dX10_minuteAt_1 : decode cX10_minuteAt 1 = .ok (.ifCond .lt 11, 3) := by decide +kernel
theorem dX10_minuteAt_4 : decode cX10_minuteAt 4 = .ok (.iload_n 1, 1) := by decide +kernel
theorem dX10_minuteAt_5 : decode cX10_minuteAt 5 = .ok (.aload_n 0, 1) := by decide +kernel
theorem dX10_minuteAt_6 : decode cX10_minuteAt 6 = .ok (.getfield 23, 3) := by decide +kernel
theorem dX10_minuteAt_9 : decode cX10_minuteAt 9 = .ok (.if_icmp .lt 5, 3) := by decide +kernel
theorem dX10_minuteAt_12 : decode cX10_minuteAt 12 = .ok (.iconst (-1), 1) := by decide +kernel
theorem dX10_minuteAt_13 : decode cX10_minuteAt 13 = .ok (.ireturn, 1) := by decide +kernel
theorem dX10_minuteAt_14 : decode cX10_minuteAt 14 = .ok (.aload_n 0, 1) := by decide +kernel
theorem dX10_minuteAt_15 : decode cX10_minuteAt 15 = .ok (.getfield 19, 3) := by decide +kernel
theorem dX10_minuteAt_18 : decode cX10_minuteAt 18 = .ok (.istore_n 2, 1) := by decide +kernel
theorem dX10_minuteAt_19 : decode cX10_minuteAt 19 = .ok (.aload_n 0, 1) := by decide +kernel
theorem dX10_minuteAt_20 : decode cX10_minuteAt 20 = .ok (.getfield 23, 3) := by decide +kernel
theorem dX10_minuteAt_23 : decode cX10_minuteAt 23 = .ok (.iconst 1, 1) := by decide +kernel
theorem dX10_minuteAt_24 : decode cX10_minuteAt 24 = .ok (.isub, 1) := by decide +kernel
theorem dX10_minuteAt_25 : decode cX10_minuteAt 25 = .ok (.istore_n 3, 1) := by decide +kernel
theorem dX10_minuteAt_26 : decode cX10_minuteAt 26 = .ok (.iload_n 3, 1) := by decide +kernel
theorem dX10_minuteAt_27 : decode cX10_minuteAt 27 = .ok (.iload_n 1, 1) := by decide +kernel
theorem dX10_minuteAt_28 : decode cX10_minuteAt 28 = .ok (.if_icmp .le 15, 3) := by decide +kernel
theorem dX10_minuteAt_31 : decode cX10_minuteAt 31 = .ok (.aload_n 0, 1) := by decide +kernel
theorem dX10_minuteAt_32 : decode cX10_minuteAt 32 = .ok (.iload_n 2, 1) := by decide +kernel
theorem dX10_minuteAt_33 : decode cX10_minuteAt 33 = .ok (.invokevirtual 105, 3) := by decide +kernel
theorem dX10_minuteAt_36 : decode cX10_minuteAt 36 = .ok (.istore_n 2, 1) := by decide +kernel
theorem dX10_minuteAt_37 : decode cX10_minuteAt 37 = .ok (.iinc 3 (-1), 3) := by decide +kernel
theorem dX10_minuteAt_40 : decode cX10_minuteAt 40 = .ok (.goto (-14), 3) := by decide +kernel
theorem dX10_minuteAt_43 : decode cX10_minuteAt 43 = .ok (.aload_n 0, 1) := by decide +kernel
theorem dX10_minuteAt_44 : decode cX10_minuteAt 44 = .ok (.aload_n 0, 1) := by decide +kernel
theorem dX10_minuteAt_45 : decode cX10_minuteAt 45 = .ok (.iload_n 2, 1) := by decide +kernel
theorem dX10_minuteAt_46 : decode cX10_minuteAt 46 = .ok (.invokevirtual 105, 3) := by decide +kernel
theorem dX10_minuteAt_49 : decode cX10_minuteAt 49 = .ok (.invokevirtual 66, 3) := by decide +kernel
theorem dX10_minuteAt_52 : decode cX10_minuteAt 52 = .ok (.istore_n 3, 1) := by decide +kernel
theorem dX10_minuteAt_53 : decode cX10_minuteAt 53 = .ok (.aload_n 0, 1) := by decide +kernel
theorem dX10_minuteAt_54 : decode cX10_minuteAt 54 = .ok (.getfield 29, 3) := by decide +kernel
theorem dX10_minuteAt_57 : decode cX10_minuteAt 57 = .ok (.iload_n 3, 1) := by decide +kernel
theorem dX10_minuteAt_58 : decode cX10_minuteAt 58 = .ok (.aload_n 0, 1) := by decide +kernel
theorem dX10_minuteAt_59 : decode cX10_minuteAt 59 = .ok (.getfield 29, 3) := by decide +kernel
theorem dX10_minuteAt_62 : decode cX10_minuteAt 62 = .ok (.iload_n 3, 1) := by decide +kernel
theorem dX10_minuteAt_63 : decode cX10_minuteAt 63 = .ok (.invokevirtual 94, 3) := by decide +kernel
theorem dX10_minuteAt_66 : decode cX10_minuteAt 66 = .ok (.aload_n 0, 1) := by decide +kernel
theorem dX10_minuteAt_67 : decode cX10_minuteAt 67 = .ok (.getfield 42, 3) := by decide +kernel
theorem dX10_minuteAt_70 : decode cX10_minuteAt 70 = .ok (.land, 1) := by decide +kernel
theorem dX10_minuteAt_71 : decode cX10_minuteAt 71 = .ok (.invokevirtual 108, 3) := by decide +kernel
theorem dX10_minuteAt_74 : decode cX10_minuteAt 74 = .ok (.istore 4, 2) := by decide +kernel
theorem dX10_minuteAt_76 : decode cX10_minuteAt 76 = .ok (.iconst 0, 1) := by decide +kernel
theorem dX10_minuteAt_77 : decode cX10_minuteAt 77 = .ok (.istore 5, 2) := by decide +kernel
theorem dX10_minuteAt_79 : decode cX10_minuteAt 79 = .ok (.iload 5, 2) := by decide +kernel
theorem dX10_minuteAt_81 : decode cX10_minuteAt 81 = .ok (.iload 4, 2) := by decide +kernel
theorem dX10_minuteAt_83 : decode cX10_minuteAt 83 = .ok (.if_icmp .ge 38, 3) := by decide +kernel
theorem dX10_minuteAt_86 : decode cX10_minuteAt 86 = .ok (.aload_n 0, 1) := by decide +kernel
theorem dX10_minuteAt_87 : decode cX10_minuteAt 87 = .ok (.getfield 29, 3) := by decide +kernel
theorem dX10_minuteAt_90 : decode cX10_minuteAt 90 = .ok (.getfield 112, 3) := by decide +kernel
theorem dX10_minuteAt_93 : decode cX10_minuteAt 93 = .ok (.iload 5, 2) := by decide +kernel
theorem dX10_minuteAt_95 : decode cX10_minuteAt 95 = .ok (.iaload, 1) := by decide +kernel
theorem dX10_minuteAt_96 : decode cX10_minuteAt 96 = .ok (.aload_n 0, 1) := by decide +kernel
theorem dX10_minuteAt_97 : decode cX10_minuteAt 97 = .ok (.iload_n 2, 1) := by decide +kernel
theorem dX10_minuteAt_98 : decode cX10_minuteAt 98 = .ok (.invokevirtual 66, 3) := by decide +kernel
theorem dX10_minuteAt_101 : decode cX10_minuteAt 101 = .ok (.if_icmp .ne 14, 3) := by decide +kernel
theorem dX10_minuteAt_104 : decode cX10_minuteAt 104 = .ok (.aload_n 0, 1) := by decide +kernel
theorem dX10_minuteAt_105 : decode cX10_minuteAt 105 = .ok (.getfield 29, 3) := by decide +kernel
theorem dX10_minuteAt_108 : decode cX10_minuteAt 108 = .ok (.getfield 115, 3) := by decide +kernel
theorem dX10_minuteAt_111 : decode cX10_minuteAt 111 = .ok (.iload 5, 2) := by decide +kernel
theorem dX10_minuteAt_113 : decode cX10_minuteAt 113 = .ok (.iaload, 1) := by decide +kernel
theorem dX10_minuteAt_114 : decode cX10_minuteAt 114 = .ok (.ireturn, 1) := by decide +kernel
theorem dX10_minuteAt_115 : decode cX10_minuteAt 115 = .ok (.iinc 5 1, 3) := by decide +kernel
theorem dX10_minuteAt_118 : decode cX10_minuteAt 118 = .ok (.goto (-39), 3) := by decide +kernel
theorem dX10_minuteAt_121 : decode cX10_minuteAt 121 = .ok (.iconst (-1), 1) := by decide +kernel
theorem dX10_minuteAt_122 : decode cX10_minuteAt 122 = .ok (.ireturn, 1) := by decide +kernel
theorem dX10_firstLength_0 : decode cX10_firstLength 0 = .ok (.iconst 0, 1) := by decide +kernel
theorem dX10_firstLength_1 : decode cX10_firstLength 1 = .ok (.istore_n 2, 1) := by decide +kernel
theorem dX10_firstLength_2 : decode cX10_firstLength 2 = .ok (.iload_n 2, 1) := by decide +kernel
theorem dX10_firstLength_3 : decode cX10_firstLength 3 = .ok (.aload_n 0, 1) := by decide +kernel
theorem dX10_firstLength_4 : decode cX10_firstLength 4 = .ok (.getfield 55, 3) := by decide +kernel
theorem dX10_firstLength_7 : decode cX10_firstLength 7 = .ok (.if_icmp .ge 31, 3) := by decide +kernel
theorem dX10_firstLength_10 : decode cX10_firstLength 10 = .ok (.aload_n 0, 1) := by decide +kernel
theorem dX10_firstLength_11 : decode cX10_firstLength 11 = .ok (.getfield 29, 3) := by decide +kernel
theorem dX10_firstLength_14 : decode cX10_firstLength 14 = .ok (.aload_n 0, 1) := by decide +kernel
theorem dX10_firstLength_15 : decode cX10_firstLength 15 = .ok (.iload_n 2, 1) := by decide +kernel
theorem dX10_firstLength_16 : decode cX10_firstLength 16 = .ok (.invokevirtual 66, 3) := by decide +kernel
theorem dX10_firstLength_19 : decode cX10_firstLength 19 = .ok (.iload_n 1, 1) := by decide +kernel
theorem dX10_firstLength_20 : decode cX10_firstLength 20 = .ok (.invokevirtual 69, 3) := by decide +kernel
theorem dX10_firstLength_23 : decode cX10_firstLength 23 = .ok (.ifCond .eq 9, 3) := by decide +kernel
theorem dX10_firstLength_26 : decode cX10_firstLength 26 = .ok (.aload_n 0, 1) := by decide +kernel
theorem dX10_firstLength_27 : decode cX10_firstLength 27 = .ok (.iload_n 2, 1) := by decide +kernel
theorem dX10_firstLength_28 : decode cX10_firstLength 28 = .ok (.invokevirtual 77, 3) := by decide +kernel
theorem dX10_firstLength_31 : decode cX10_firstLength 31 = .ok (.ireturn, 1) := by decide +kernel
theorem dX10_firstLength_32 : decode cX10_firstLength 32 = .ok (.iinc 2 1, 3) := by decide +kernel
theorem dX10_firstLength_35 : decode cX10_firstLength 35 = .ok (.goto (-33), 3) := by decide +kernel
theorem dX10_firstLength_38 : decode cX10_firstLength 38 = .ok (.iconst (-1), 1) := by decide +kernel
theorem dX10_firstLength_39 : decode cX10_firstLength 39 = .ok (.ireturn, 1) := by decide +kernel
theorem and_low {x : Nat} (k : Nat) (hx : x < 4294967296) (hk : k < 32) : andI (x : Int) ((2 ^ k - 1 : Nat) : Int) = ((x % 2 ^ k : Nat) : Int) := by
  have hp : (2 : Nat) ^ k < 4294967296 := by
    have := Nat.pow_lt_pow_right (a := 2) (by decide) hk
    omega
  unfold andI
  rw [show ((x : Int) % 4294967296).toNat = x by omega, show (((2 ^ k - 1 : Nat) : Int) % 4294967296).toNat = 2 ^ k - 1 by omega, Nat.and_two_pow_sub_one_eq_mod]
section
variable (d : Nat) (sh : mbSh) (ct : mbCt)
theorem c_stateAt {q i : Int} {N : Nat} (S : SH sh) (hq : ct 77 1 = q) (sq : shA sh q = some (20, N)) (hN : N ≤ 1000000) (i0 : 0 ≤ i) (i1 : i < N) (r0 : 0 ≤ ct q i) (r1 : ct q i < 2147483648) : Mt YX10_stateAt d [.inr (.inr 77), .inl i] sh sh ct (pI fun r c => r = qSt (ct q i) ∧ c = ct) := by
  refine Mt.of rfl (Nat.le_of_ble_eq_true rfl) ?_
  show G _ 0 [some (.inr (.inr 77)), some (.inl i)] [] sh ct
  refine g_aload_n (q := 1) dX10_stateAt_0 rfl rfl ?_
  refine g_getA (q := 4) (kI := 1) fX10_11 (by first | assumption | exact S.at _ rfl) dX10_stateAt_1 rfl rfl (by first | assumption | exact L.at _ _ rfl | exact LK.at (by assumption) _ _ rfl | ((repeat first | rewrite [wr_na (by decide)] | rewrite [wr_nk (by decide)] | rewrite [wa_na (by decide)]); first | assumption | exact LK.at (by assumption) _ _ rfl) | exact rfl) ?_
  refine g_iload_n (q := 5) dX10_stateAt_4 rfl rfl ?_
  refine g_iaload (q := 6) (by first | assumption | exact S.at _ rfl) (by omega) (by omega) (by omega) dX10_stateAt_5 rfl ?_
  refine g_sipush (q := 9) dX10_stateAt_6 (by decide +kernel) rfl ?_
  refine g_iand (q := 10) dX10_stateAt_9 rfl ?_
  refine g_ireturn dX10_stateAt_10 rfl ?_
  refine ⟨_, rfl, ?_, rfl⟩
  generalize ct q i = x at r0 r1
  have := and_low (x := x.toNat) 10 (by omega) (by omega)
  rw [show ((x.toNat : Nat) : Int) = x by omega] at this
  rw [show (1023 : Int) = ((2 ^ 10 - 1 : Nat) : Int) from rfl, this]
  unfold qSt
  omega
theorem c_spokenAt {q i : Int} {N : Nat} (S : SH sh) (hq : ct 77 1 = q) (sq : shA sh q = some (20, N)) (hN : N ≤ 1000000) (i0 : 0 ≤ i) (i1 : i < N) (r0 : 0 ≤ ct q i) (r1 : ct q i < 2147483648) : Mt YX10_spokenAt d [.inr (.inr 77), .inl i] sh sh ct (pI fun r c => r = qSp (ct q i) ∧ c = ct) := by
  refine Mt.of rfl (Nat.le_of_ble_eq_true rfl) ?_
  show G _ 0 [some (.inr (.inr 77)), some (.inl i)] [] sh ct
  refine g_aload_n (q := 1) dX10_spokenAt_0 rfl rfl ?_
  refine g_getA (q := 4) (kI := 1) fX10_11 (by first | assumption | exact S.at _ rfl) dX10_spokenAt_1 rfl rfl (by first | assumption | exact L.at _ _ rfl | exact LK.at (by assumption) _ _ rfl | ((repeat first | rewrite [wr_na (by decide)] | rewrite [wr_nk (by decide)] | rewrite [wa_na (by decide)]); first | assumption | exact LK.at (by assumption) _ _ rfl) | exact rfl) ?_
  refine g_iload_n (q := 5) dX10_spokenAt_4 rfl rfl ?_
  refine g_iaload (q := 6) (by first | assumption | exact S.at _ rfl) (by omega) (by omega) (by omega) dX10_spokenAt_5 rfl ?_
  refine g_bipush (q := 8) dX10_spokenAt_6 (by decide +kernel) rfl ?_
  refine g_iushr (q := 9) dX10_spokenAt_8 rfl ?_
  refine g_bipush (q := 11) dX10_spokenAt_9 (by decide +kernel) rfl ?_
  refine g_iand (q := 12) dX10_spokenAt_11 rfl ?_
  refine g_ireturn dX10_spokenAt_12 rfl ?_
  refine ⟨_, rfl, ?_, rfl⟩
  generalize ct q i = x at r0 r1
  have e : ushI x 10 = ((x.toNat / 1024 : Nat) : Int) := by
    unfold ushI
    show x % 4294967296 / 1024 = _
    omega
  rw [e, show (63 : Int) = ((2 ^ 6 - 1 : Nat) : Int) from rfl, and_low 6 (by omega) (by omega)]
  unfold qSp
  omega
theorem c_ahead {q i : Int} {N : Nat} (S : SH sh) (hq : ct 77 1 = q) (sq : shA sh q = some (20, N)) (hN : N ≤ 1000000) (i0 : 0 ≤ i) (i1 : i < N) (r0 : 0 ≤ ct q i) (r1 : ct q i < 2147483648) : Mt YX10_ahead d [.inr (.inr 77), .inl i] sh sh ct (pI fun r c => r = qFr (ct q i) ∧ c = ct) := by
  refine Mt.of rfl (Nat.le_of_ble_eq_true rfl) ?_
  show G _ 0 [some (.inr (.inr 77)), some (.inl i)] [] sh ct
  refine g_aload_n (q := 1) dX10_ahead_0 rfl rfl ?_
  refine g_getA (q := 4) (kI := 1) fX10_11 (by first | assumption | exact S.at _ rfl) dX10_ahead_1 rfl rfl (by first | assumption | exact L.at _ _ rfl | exact LK.at (by assumption) _ _ rfl | ((repeat first | rewrite [wr_na (by decide)] | rewrite [wr_nk (by decide)] | rewrite [wa_na (by decide)]); first | assumption | exact LK.at (by assumption) _ _ rfl) | exact rfl) ?_
  refine g_iload_n (q := 5) dX10_ahead_4 rfl rfl ?_
  refine g_iaload (q := 6) (by first | assumption | exact S.at _ rfl) (by omega) (by omega) (by omega) dX10_ahead_5 rfl ?_
  refine g_bipush (q := 8) dX10_ahead_6 (by decide +kernel) rfl ?_
  refine g_iushr (q := 9) dX10_ahead_8 rfl ?_
  refine g_ireturn dX10_ahead_9 rfl ?_
  refine ⟨_, rfl, ?_, rfl⟩
  generalize ct q i = x at r0 r1
  unfold ushI qFr
  show x % 4294967296 / 65536 = _
  omega
/-- what reach does -/
def rchC (ct : mbCt) (q : Int) (N n : Nat) (st : Int) (sp fr : Nat) (c : mbCt) : Prop := eqBq [77, 79] q ct c ∧ (∀ k, k ≠ 2 → c 77 k = ct 77 k) ∧ ((coolB (ct 77 10) st = true ∧ (∀ j, j < n → ndQ ct q j ≠ (st, (sp : Int))) ∧ QI c q N (n + 1) ∧ (∀ j : Nat, j < n → c q j = ct q j) ∧ ndQ c q n = (st, (sp : Int)) ∧ prQ c q n = fr) ∨ ((coolB (ct 77 10) st = false ∨ (∃ j, j < n ∧ ndQ ct q j = (st, (sp : Int))) ∨ n = N) ∧ c = ct))
theorem c_reach {q st : Int} {N n sp fr : Nat} (S : SH sh) (L : LK ct) (hqn : qcN q) (sq : shA sh q = some (20, N)) (hN : N ≤ 19201) (hQ : QI ct q N n) (h0 : 0 ≤ st) (h1 : st < 700) (hs : sp < 64) (hf : fr < N) (hc0 : 0 ≤ ct 77 10) (hc1 : ct 77 10 ≤ 9) : Mt YX10_reach (d + 1) [.inr (.inr 77), .inl st, .inl sp, .inl fr] sh sh ct (pN fun c => rchC ct q N n st sp fr c) := by
  obtain ⟨q1, q2, q3, q4, q5⟩ := hQ
  have qn : q ≠ 77 ∧ q ≠ 79 := by rcases hqn with h | h <;> omega
  have s79 : shA sh 79 = some (21, 700) := S.at _ rfl
  generalize hP : (pN fun c => rchC ct q N n st sp fr c) = Po
  have stay : ∀ o4, (coolB (ct 77 10) st = false ∨ (∃ j, j < n ∧ ndQ ct q j = (st, (sp : Int))) ∨ n = N) → G (mkK YX10_reach (d + 1) sh sh Po) 101 [some (.inr (.inr 77)), some (.inl st), some (.inl sp), some (.inl fr), o4] [] sh ct := by
    intro o4 h
    refine g_return dX10_reach_101 rfl ?_
    rw [← hP]
    exact ⟨rfl, eqBq.rf, fun _ _ => rfl, Or.inr ⟨h, rfl⟩⟩
  have main : ∀ e : Int, (e = if coolB (ct 77 10) st = true then 1 else 0) → G (mkK YX10_reach (d + 1) sh sh Po) 25 [some (.inr (.inr 77)), some (.inl st), some (.inl sp), some (.inl fr), none] [.inl e] sh ct := by
    intro e he
    refine s_istore_5_4 (q := 27) dX10_reach_25 rfl rfl rfl ?_
    refine g_aload_n (q := 28) dX10_reach_27 rfl rfl ?_
    refine g_getA (q := 31) (kI := 3) fX10_15 (by first | assumption | exact S.at _ rfl) dX10_reach_28 rfl rfl (by first | assumption | exact L.at _ _ rfl | exact LK.at (by assumption) _ _ rfl | ((repeat first | rewrite [wr_na (by decide)] | rewrite [wr_nk (by decide)] | rewrite [wa_na (by decide)]); first | assumption | exact LK.at (by assumption) _ _ rfl) | exact rfl) ?_
    refine g_iload_n (q := 32) dX10_reach_31 rfl rfl ?_
    refine g_laload (q := 33) (by first | assumption | exact S.at _ rfl) (by omega) (by omega) (by omega) dX10_reach_32 rfl ?_
    refine g_iload_n (q := 34) dX10_reach_33 rfl rfl ?_
    refine g_lushr (q := 35) dX10_reach_34 rfl ?_
    refine g_lconst1 (q := 36) dX10_reach_35 rfl ?_
    refine g_land (q := 37) dX10_reach_36 rfl ?_
    refine g_lconst0 (q := 38) dX10_reach_37 rfl ?_
    rw [bit_of hs]
    refine g_lcmp (q := 39) dX10_reach_38 rfl ?_
    refine g_if_ne (q := 42) (tg := 101) dX10_reach_39 (by decide) rfl (fun c_39 => ?_) (fun c_39 => ?_)
    · have hb : rbit ct st sp = true := by
        unfold rbit
        by_cases h : (ct 79 st % 18446744073709551616).toNat.testBit sp = true
        · exact h
        · rw [if_neg h] at c_39
          exact absurd rfl c_39
      exact stay _ (Or.inr (Or.inl ((q5 st sp h0 h1 hs).mp hb)))
    · have hb : rbit ct st sp = false := by
        unfold rbit
        by_cases h : (ct 79 st % 18446744073709551616).toNat.testBit sp = true
        · rw [if_pos h] at c_39
          exact absurd c_39 (by decide)
        · simpa using h
      have hnew : ∀ j, j < n → ndQ ct q j ≠ (st, (sp : Int)) := by
        intro j hj e
        have := (q5 st sp h0 h1 hs).mpr ⟨j, hj, e⟩
        rw [hb] at this
        cases this
      refine g_iload (q := 44) dX10_reach_42 rfl rfl ?_
      refine g_if_eq (q := 47) (tg := 101) dX10_reach_44 (by decide) rfl (fun c_44 => ?_) (fun c_44 => ?_)
      · refine stay _ (Or.inl ?_)
        by_cases h : coolB (ct 77 10) st = true
        · rw [he, if_pos h] at c_44
          exact absurd c_44 (by decide)
        · simpa using h
      · have hcool : coolB (ct 77 10) st = true := by
          by_cases h : coolB (ct 77 10) st = true
          · exact h
          · rw [he, if_neg h] at c_44
            exact absurd rfl c_44
        refine g_aload_n (q := 48) dX10_reach_47 rfl rfl ?_
        refine g_getI (q := 51) (kI := 2) fX10_55 (by first | assumption | exact S.at _ rfl) dX10_reach_48 rfl rfl ?_
        refine g_aload_n (q := 52) dX10_reach_51 rfl rfl ?_
        refine g_getA (q := 55) (kI := 1) fX10_11 (by first | assumption | exact S.at _ rfl) dX10_reach_52 rfl rfl (by first | assumption | exact L.at _ _ rfl | exact LK.at (by assumption) _ _ rfl | ((repeat first | rewrite [wr_na (by decide)] | rewrite [wr_nk (by decide)] | rewrite [wa_na (by decide)]); first | assumption | exact LK.at (by assumption) _ _ rfl) | exact rfl) ?_
        refine g_alen (q := 56) (by first | assumption | exact S.at _ rfl) (by decide) dX10_reach_55 rfl rfl ?_
        refine g_icmp_ge (q := 59) (tg := 101) dX10_reach_56 (by decide) rfl (fun c_56 => ?_) (fun c_56 => ?_)
        · refine stay _ (Or.inr (Or.inr ?_))
          rw [q2] at c_56
          unfold w32 at c_56
          omega
        · have hlt : n < N := by
            rw [q2] at c_56
            unfold w32 at c_56
            omega
          have lq : ∀ v, wr ct 79 st v 77 1 = q := fun v => by rw [wr_na (by decide)]; exact q1
          have l2 : ∀ v, wr ct 79 st v 77 2 = n := fun v => by rw [wr_na (by decide)]; exact q2
          refine g_aload_n (q := 60) dX10_reach_59 rfl rfl ?_
          refine g_getA (q := 63) (kI := 3) fX10_15 (by first | assumption | exact S.at _ rfl) dX10_reach_60 rfl rfl (by first | exact lq _ | exact L.at _ _ rfl) ?_
          refine g_iload_n (q := 64) dX10_reach_63 rfl rfl ?_
          refine g_dup2 (q := 65) dX10_reach_64 rfl rfl rfl ?_
          refine g_laload (q := 66) (by first | assumption | exact S.at _ rfl) (by omega) (by omega) (by omega) dX10_reach_65 rfl ?_
          refine g_lconst1 (q := 67) dX10_reach_66 rfl ?_
          refine g_iload_n (q := 68) dX10_reach_67 rfl rfl ?_
          refine g_lshl (q := 69) dX10_reach_68 rfl ?_
          refine g_lor (q := 70) dX10_reach_69 rfl ?_
          refine g_lastore (q := 71) (by first | assumption | exact S.at _ rfl) (by omega) (by omega) (by omega) dX10_reach_70 rfl ?_
          refine g_aload_n (q := 72) dX10_reach_71 rfl rfl ?_
          refine g_getA (q := 75) (kI := 1) fX10_11 (by first | assumption | exact S.at _ rfl) dX10_reach_72 rfl rfl (by first | exact lq _ | exact L.at _ _ rfl) ?_
          refine g_aload_n (q := 76) dX10_reach_75 rfl rfl ?_
          refine g_getI (q := 79) (kI := 2) fX10_55 (by first | assumption | exact S.at _ rfl) dX10_reach_76 rfl rfl ?_
          rw [l2]
          have en := enc_q (st := st.toNat) (sp := sp) (fr := fr) (by omega) hs (by omega)
          rw [show ((st.toNat : Nat) : Int) = st by omega] at en
          refine g_iload_n (q := 80) dX10_reach_79 rfl rfl ?_
          refine g_iload_n (q := 81) dX10_reach_80 rfl rfl ?_
          refine g_bipush (q := 83) dX10_reach_81 (by decide +kernel) rfl ?_
          refine g_ishl (q := 84) dX10_reach_83 rfl ?_
          refine g_ior (q := 85) dX10_reach_84 rfl ?_
          refine g_iload_n (q := 86) dX10_reach_85 rfl rfl ?_
          refine g_bipush (q := 88) dX10_reach_86 (by decide +kernel) rfl ?_
          refine g_ishl (q := 89) dX10_reach_88 rfl ?_
          refine g_ior (q := 90) dX10_reach_89 rfl ?_
          rw [en]
          refine g_iastore (q := 91) (by first | assumption | exact S.at _ rfl) (by omega) (by omega) (by omega) dX10_reach_90 rfl ?_
          refine g_aload_n (q := 92) dX10_reach_91 rfl rfl ?_
          refine g_dup (q := 93) dX10_reach_92 rfl rfl ?_
          refine g_getI (q := 96) (kI := 2) fX10_55 (by first | assumption | exact S.at _ rfl) dX10_reach_93 rfl rfl ?_
          rw [wr_na qn.1.symm, l2]
          refine g_iconst (q := 97) dX10_reach_96 rfl ?_
          refine g_iadd (q := 98) dX10_reach_97 rfl ?_
          refine g_putI (q := 101) (kI := 2) fX10_55 (by first | assumption | exact S.at _ rfl) dX10_reach_98 rfl rfl ?_
          refine g_return dX10_reach_101 rfl ?_
          generalize hv : orL (ct 79 st) (shlL 1 sp) = v
          generalize hx : ((65536 * fr + (1024 * sp + st.toNat) : Nat) : Int) = x
          have hx1 : qSt x = st ∧ qSp x = sp ∧ qFr x = fr ∧ 0 ≤ x ∧ x < 2147483648 ∧ x % 1024 < 700 := by
            unfold qSt qSp qFr
            omega
          have r1 : ∀ j : Int, j ≠ n → wr (wr (wr ct 79 st v) q n x) 77 2 (n + 1) q j = ct q j := fun j hj => by rw [wr_na qn.1, wr_nk hj, wr_na qn.2]
          have r2 : wr (wr (wr ct 79 st v) q n x) 77 2 (n + 1) q n = x := by rw [wr_na qn.1, wr_eq]
          have r3 : ∀ (j : Nat), j < n → ndQ (wr (wr (wr ct 79 st v) q n x) 77 2 (n + 1)) q j = ndQ ct q j := fun j hj => by unfold ndQ; rw [r1 _ (by omega)]
          have r4 : ndQ (wr (wr (wr ct 79 st v) q n x) 77 2 (n + 1)) q n = (st, (sp : Int)) := by
            unfold ndQ
            rw [r2, hx1.1, hx1.2.1]
          rw [← hP]
          refine ⟨rfl, ?_, ?_, Or.inl ⟨hcool, hnew, ⟨?_, ?_, hlt, ?_, ?_⟩, ?_, r4, ?_⟩⟩
          · exact ((eqBq.rf.wr (Or.inl (by decide))).wr (Or.inr rfl)).wr (Or.inl (by decide))
          · intro k hk
            rw [wr_nk hk, wr_na qn.1.symm, wr_na (by decide)]
          · rw [wr_nk (by decide), wr_na qn.1.symm, wr_na (by decide)]
            exact q1
          · rw [wr_eq]
            omega
          · intro j hj
            by_cases e : j = n
            · subst e
              rw [r2]
              omega
            · rw [r1 _ (by omega)]
              exact q4 j (by omega)
          · intro st' sp' a0 a1 a2
            have hr : rbit (wr (wr (wr ct 79 st v) q n x) 77 2 (n + 1)) st' sp' = (rbit ct st' sp' || decide (st' = st ∧ sp' = sp)) := by
              unfold rbit
              rw [wr_na (by decide), wr_na qn.2.symm]
              by_cases e : st' = st
              · subst e
                rw [wr_eq, ← hv, bit_or hs a2]
                congr 1
                rw [decide_eq_decide]
                exact ⟨fun h => ⟨rfl, h⟩, fun h => h.2⟩
              · rw [wr_nk e, decide_eq_false (fun z => e z.1), Bool.or_false]
            rw [hr, Bool.or_eq_true, decide_eq_true_eq, q5 st' sp' a0 a1 a2]
            constructor
            · rintro (⟨j, j1, j2⟩ | ⟨rfl, rfl⟩)
              · exact ⟨j, by omega, by rw [r3 j j1]; exact j2⟩
              · exact ⟨n, by omega, r4⟩
            · rintro ⟨j, j1, j2⟩
              by_cases e : j = n
              · subst e
                rw [r4] at j2
                have e1 := congrArg Prod.fst j2
                have e2 := congrArg Prod.snd j2
                simp only at e1 e2
                exact Or.inr ⟨e1.symm, by omega⟩
              · rw [r3 j (by omega)] at j2
                exact Or.inl ⟨j, by omega, j2⟩
          · intro j hj
            exact r1 _ (by omega)
          · unfold prQ
            rw [r2, hx1.2.2.1]
            omega
  refine Mt.of rfl (Nat.le_of_ble_eq_true rfl) ?_
  show G _ 0 [some (.inr (.inr 77)), some (.inl st), some (.inl sp), some (.inl fr), none] [] sh ct
  refine g_aload_n (q := 1) dX10_reach_0 rfl rfl ?_
  refine g_getI (q := 4) (kI := 10) fX10_46 (by first | assumption | exact S.at _ rfl) dX10_reach_1 rfl rfl ?_
  refine g_bipush (q := 6) dX10_reach_4 (by decide +kernel) rfl ?_
  refine g_icmp_eq (q := 9) (tg := 20) dX10_reach_6 (by decide) rfl (fun c_6 => ?_) (fun c_6 => ?_)
  · refine g_iconst (q := 21) dX10_reach_20 rfl ?_
    refine g_goto (q := 25) dX10_reach_21 (by decide) ?_
    refine main 1 ?_
    have : ct 77 10 = 9 := by unfold w32 at c_6; omega
    rw [if_pos (by unfold coolB; simp [this])]
  · refine g_iload_n (q := 10) dX10_reach_9 rfl rfl ?_
    refine g_callSN (q := 13) lX10_91 mX11_heatOf sX11_heatOf rfl (c_heatOf d sh ct h0 (by omega)) shLe.rf (rmOk.mk (by omega) (by first | exact shLe.rf | assumption)) (Nat.le_of_ble_eq_true rfl) dX10_reach_10 rfl rfl (kI fun r c hp => ?_)
    obtain ⟨rfl, rfl⟩ := hp
    refine g_aload_n (q := 14) dX10_reach_13 rfl rfl ?_
    refine g_getI (q := 17) (kI := 10) fX10_46 (by first | assumption | exact S.at _ rfl) dX10_reach_14 rfl rfl ?_
    refine g_icmp_gt (q := 20) (tg := 24) dX10_reach_17 (by decide) rfl (fun c_17 => ?_) (fun c_17 => ?_)
    · refine g_iconst (q := 25) dX10_reach_24 rfl ?_
      refine main 0 ?_
      rw [if_neg]
      unfold coolB
      unfold w32 at c_6 c_17
      simp
      omega
    · refine g_iconst (q := 21) dX10_reach_20 rfl ?_
      refine g_goto (q := 25) dX10_reach_21 (by decide) ?_
      refine main 1 ?_
      rw [if_pos]
      unfold coolB
      unfold w32 at c_17
      simp
      omega
end
