/-! MinuteBook: the minutes that can be now; members, sayings -/
theorem dX11_minutesNow_0 : decode cX11_minutesNow 0 = .ok (.aload_n 0, 1) := by decide +kernel
theorem dX11_minutesNow_1 : decode cX11_minutesNow 1 = .ok (.getfield 79, 3) := by decide +kernel
theorem dX11_minutesNow_4 : decode cX11_minutesNow 4 = .ok (.aload_n 0, 1) := by decide +kernel
theorem dX11_minutesNow_5 : decode cX11_minutesNow 5 = .ok (.getfield 30, 3) := by decide +kernel
theorem dX11_minutesNow_8 : decode cX11_minutesNow 8 = .ok (.getfield 139, 3) := by decide +kernel
theorem dX11_minutesNow_11 : decode cX11_minutesNow 11 = .ok (.invokevirtual 273, 3) := by decide +kernel
theorem dX11_minutesNow_14 : decode cX11_minutesNow 14 = .ok (.aload_n 0, 1) := by decide +kernel
theorem dX11_minutesNow_15 : decode cX11_minutesNow 15 = .ok (.getfield 79, 3) := by decide +kernel
theorem dX11_minutesNow_18 : decode cX11_minutesNow 18 = .ok (.aload_n 0, 1) := by decide +kernel
theorem dX11_minutesNow_19 : decode cX11_minutesNow 19 = .ok (.getfield 30, 3) := by decide +kernel
theorem dX11_minutesNow_22 : decode cX11_minutesNow 22 = .ok (.getfield 151, 3) := by decide +kernel
theorem dX11_minutesNow_25 : decode cX11_minutesNow 25 = .ok (.invokevirtual 439, 3) := by decide +kernel
theorem dX11_minutesNow_28 : decode cX11_minutesNow 28 = .ok (.lreturn, 1) := by decide +kernel
theorem dX11_member_0 : decode cX11_member 0 = .ok (.aload_n 0, 1) := by decide +kernel
theorem dX11_member_1 : decode cX11_member 1 = .ok (.iload_n 1, 1) := by decide +kernel
theorem dX11_member_2 : decode cX11_member 2 = .ok (.invokevirtual 135, 3) := by decide +kernel
theorem dX11_member_5 : decode cX11_member 5 = .ok (.ifCond .ne 6, 3) := by decide +kernel
theorem dX11_member_8 : decode cX11_member 8 = .ok (.bipush (-2), 2) := by decide +kernel
theorem dX11_member_10 : decode cX11_member 10 = .ok (.ireturn, 1) := by decide +kernel
theorem dX11_member_11 : decode cX11_member 11 = .ok (.iload_n 2, 1) := by decide +kernel
theorem dX11_member_12 : decode cX11_member 12 = .ok (.tableswitch 67 0 2 #[28, 38, 47], 28) := by decide +kernel
theorem dX11_member_40 : decode cX11_member 40 = .ok (.aload_n 0, 1) := by decide +kernel
theorem dX11_member_41 : decode cX11_member 41 = .ok (.getfield 30, 3) := by decide +kernel
theorem dX11_member_44 : decode cX11_member 44 = .ok (.getfield 139, 3) := by decide +kernel
theorem dX11_member_47 : decode cX11_member 47 = .ok (.iload_n 1, 1) := by decide +kernel
theorem dX11_member_48 : decode cX11_member 48 = .ok (.iaload, 1) := by decide +kernel
theorem dX11_member_49 : decode cX11_member 49 = .ok (.ireturn, 1) := by decide +kernel
theorem dX11_member_50 : decode cX11_member 50 = .ok (.aload_n 0, 1) := by decide +kernel
theorem dX11_member_51 : decode cX11_member 51 = .ok (.invokevirtual 143, 3) := by decide +kernel
theorem dX11_member_54 : decode cX11_member 54 = .ok (.iload_n 1, 1) := by decide +kernel
theorem dX11_member_55 : decode cX11_member 55 = .ok (.invokestatic 147, 3) := by decide +kernel
theorem dX11_member_58 : decode cX11_member 58 = .ok (.ireturn, 1) := by decide +kernel
theorem dX11_member_59 : decode cX11_member 59 = .ok (.aload_n 0, 1) := by decide +kernel
theorem dX11_member_60 : decode cX11_member 60 = .ok (.getfield 30, 3) := by decide +kernel
theorem dX11_member_63 : decode cX11_member 63 = .ok (.getfield 151, 3) := by decide +kernel
theorem dX11_member_66 : decode cX11_member 66 = .ok (.invokestatic 154, 3) := by decide +kernel
theorem dX11_member_69 : decode cX11_member 69 = .ok (.iload_n 1, 1) := by decide +kernel
theorem dX11_member_70 : decode cX11_member 70 = .ok (.if_icmp .ne 7, 3) := by decide +kernel
theorem dX11_member_73 : decode cX11_member 73 = .ok (.iconst 1, 1) := by decide +kernel
theorem dX11_member_74 : decode cX11_member 74 = .ok (.goto 4, 3) := by decide +kernel
theorem dX11_member_77 : decode cX11_member 77 = .ok (.iconst 0, 1) := by decide +kernel
theorem dX11_member_78 : decode cX11_member 78 = .ok (.ireturn, 1) := by decide +kernel
theorem dX11_member_79 : decode cX11_member 79 = .ok (.bipush (-2), 2) := by decide +kernel
theorem dX11_member_81 : decode cX11_member 81 = .ok (.ireturn, 1) := by decide +kernel
theorem dX11_saying_0 : decode cX11_saying 0 = .ok (.aload_n 0, 1) := by decide +kernel
theorem dX11_saying_1 : decode cX11_saying 1 = .ok (.iload_n 1, 1) := by decide +kernel
theorem dX11_saying_2 : decode cX11_saying 2 = .ok (.invokevirtual 158, 3) := by decide +kernel
theorem dX11_saying_5 : decode cX11_saying 5 = .ok (.ifCond .ne 6, 3) := by decide +kernel
theorem dX11_saying_8 : decode cX11_saying 8 = .ok (.ldc 161, 2) := by decide +kernel
theorem dX11_saying_10 : decode cX11_saying 10 = .ok (.ireturn, 1) := by decide +kernel
theorem dX11_saying_11 : decode cX11_saying 11 = .ok (.iload_n 2, 1) := by decide +kernel
theorem dX11_saying_12 : decode cX11_saying 12 = .ok (.tableswitch 61 0 2 #[28, 38, 48], 28) := by decide +kernel
theorem dX11_saying_40 : decode cX11_saying 40 = .ok (.aload_n 0, 1) := by decide +kernel
theorem dX11_saying_41 : decode cX11_saying 41 = .ok (.getfield 20, 3) := by decide +kernel
theorem dX11_saying_44 : decode cX11_saying 44 = .ok (.getfield 162, 3) := by decide +kernel
theorem dX11_saying_47 : decode cX11_saying 47 = .ok (.iload_n 1, 1) := by decide +kernel
theorem dX11_saying_48 : decode cX11_saying 48 = .ok (.iaload, 1) := by decide +kernel
theorem dX11_saying_49 : decode cX11_saying 49 = .ok (.ireturn, 1) := by decide +kernel
theorem dX11_saying_50 : decode cX11_saying 50 = .ok (.aload_n 0, 1) := by decide +kernel
theorem dX11_saying_51 : decode cX11_saying 51 = .ok (.getfield 20, 3) := by decide +kernel
theorem dX11_saying_54 : decode cX11_saying 54 = .ok (.getfield 165, 3) := by decide +kernel
theorem dX11_saying_57 : decode cX11_saying 57 = .ok (.iload_n 1, 1) := by decide +kernel
theorem dX11_saying_58 : decode cX11_saying 58 = .ok (.iaload, 1) := by decide +kernel
theorem dX11_saying_59 : decode cX11_saying 59 = .ok (.ireturn, 1) := by decide +kernel
theorem dX11_saying_60 : decode cX11_saying 60 = .ok (.aload_n 0, 1) := by decide +kernel
theorem dX11_saying_61 : decode cX11_saying 61 = .ok (.invokevirtual 143, 3) := by decide +kernel
theorem dX11_saying_64 : decode cX11_saying 64 = .ok (.iload_n 1, 1) := by decide +kernel
theorem dX11_saying_65 : decode cX11_saying 65 = .ok (.invokestatic 168, 3) := by decide +kernel
theorem dX11_saying_68 : decode cX11_saying 68 = .ok (.land, 1) := by decide +kernel
theorem dX11_saying_69 : decode cX11_saying 69 = .ok (.invokestatic 172, 3) := by decide +kernel
theorem dX11_saying_72 : decode cX11_saying 72 = .ok (.ireturn, 1) := by decide +kernel
theorem dX11_saying_73 : decode cX11_saying 73 = .ok (.ldc 161, 2) := by decide +kernel
theorem dX11_saying_75 : decode cX11_saying 75 = .ok (.ireturn, 1) := by decide +kernel
theorem dX11_open_0 : decode cX11_open 0 = .ok (.aload_n 0, 1) := by decide +kernel
theorem dX11_open_1 : decode cX11_open 1 = .ok (.invokevirtual 143, 3) := by decide +kernel
theorem dX11_open_4 : decode cX11_open 4 = .ok (.invokestatic 179, 3) := by decide +kernel
theorem dX11_open_7 : decode cX11_open 7 = .ok (.ireturn, 1) := by decide +kernel
theorem dX11_membersOf_0 : decode cX11_membersOf 0 = .ok (.iconst 0, 1) := by decide +kernel
theorem dX11_membersOf_1 : decode cX11_membersOf 1 = .ok (.istore_n 2, 1) := by decide +kernel
theorem dX11_membersOf_2 : decode cX11_membersOf 2 = .ok (.iconst 0, 1) := by decide +kernel
theorem dX11_membersOf_3 : decode cX11_membersOf 3 = .ok (.istore_n 3, 1) := by decide +kernel
theorem dX11_membersOf_4 : decode cX11_membersOf 4 = .ok (.iload_n 3, 1) := by decide +kernel
theorem dX11_membersOf_5 : decode cX11_membersOf 5 = .ok (.bipush 6, 2) := by decide +kernel
theorem dX11_membersOf_7 : decode cX11_membersOf 7 = .ok (.if_icmp .ge 23, 3) := by decide +kernel
theorem dX11_membersOf_10 : decode cX11_membersOf 10 = .ok (.lload_n 0, 1) := by decide +kernel
theorem dX11_membersOf_11 : decode cX11_membersOf 11 = .ok (.iload_n 3, 1) := by decide +kernel
theorem dX11_membersOf_12 : decode cX11_membersOf 12 = .ok (.invokestatic 147, 3) := by decide +kernel
theorem dX11_membersOf_15 : decode cX11_membersOf 15 = .ok (.ifCond .eq 9, 3) := by decide +kernel
theorem dX11_membersOf_18 : decode cX11_membersOf 18 = .ok (.iload_n 2, 1) := by decide +kernel
theorem dX11_membersOf_19 : decode cX11_membersOf 19 = .ok (.iconst 1, 1) := by decide +kernel
theorem dX11_membersOf_20 : decode cX11_membersOf 20 = .ok (.iload_n 3, 1) := by decide +kernel
theorem dX11_membersOf_21 : decode cX11_membersOf 21 = .ok (.ishl, 1) := by decide +kernel
theorem dX11_membersOf_22 : decode cX11_membersOf 22 = .ok (.ior, 1) := by decide +kernel
theorem dX11_membersOf_23 : decode cX11_membersOf 23 = .ok (.istore_n 2, 1) := by decide +kernel
theorem dX11_membersOf_24 : decode cX11_membersOf 24 = .ok (.iinc 3 1, 3) := by decide +kernel
theorem dX11_membersOf_27 : decode cX11_membersOf 27 = .ok (.goto (-23), 3) := by decide +kernel
theorem dX11_membersOf_30 : decode cX11_membersOf 30 = .ok (.iload_n 2, 1) := by decide +kernel
theorem dX11_membersOf_31 : decode cX11_membersOf 31 = .ok (.ireturn, 1) := by decide +kernel
theorem dX11_firstMinute_0 : decode cX11_firstMinute 0 = .ok (.iconst 0, 1) := by decide +kernel
theorem dX11_firstMinute_1 : decode cX11_firstMinute 1 = .ok (.istore_n 2, 1) := by decide +kernel
theorem dX11_firstMinute_2 : decode cX11_firstMinute 2 = .ok (.iload_n 2, 1) := by decide +kernel
theorem dX11_firstMinute_3 : decode cX11_firstMinute 3 = .ok (.bipush 6, 2) := by decide +kernel
theorem dX11_firstMinute_5 : decode cX11_firstMinute 5 = .ok (.if_icmp .ge 42, 3) := by decide +kernel
theorem dX11_firstMinute_8 : decode cX11_firstMinute 8 = .ok (.iconst 0, 1) := by decide +kernel
theorem dX11_firstMinute_9 : decode cX11_firstMinute 9 = .ok (.istore_n 3, 1) := by decide +kernel
theorem dX11_firstMinute_10 : decode cX11_firstMinute 10 = .ok (.iload_n 3, 1) := by decide +kernel
theorem dX11_firstMinute_11 : decode cX11_firstMinute 11 = .ok (.bipush 8, 2) := by decide +kernel
theorem dX11_firstMinute_13 : decode cX11_firstMinute 13 = .ok (.if_icmp .ge 28, 3) := by decide +kernel
theorem dX11_firstMinute_16 : decode cX11_firstMinute 16 = .ok (.lload_n 0, 1) := by decide +kernel
theorem dX11_firstMinute_17 : decode cX11_firstMinute 17 = .ok (.iload_n 2, 1) := by decide +kernel
theorem dX11_firstMinute_18 : decode cX11_firstMinute 18 = .ok (.iload_n 3, 1) := by decide +kernel
theorem dX11_firstMinute_19 : decode cX11_firstMinute 19 = .ok (.invokestatic 446, 3) := by decide +kernel
theorem dX11_firstMinute_22 : decode cX11_firstMinute 22 = .ok (.land, 1) := by decide +kernel
theorem dX11_firstMinute_23 : decode cX11_firstMinute 23 = .ok (.lconst 0, 1) := by decide +kernel
theorem dX11_firstMinute_24 : decode cX11_firstMinute 24 = .ok (.lcmp, 1) := by decide +kernel
theorem dX11_firstMinute_25 : decode cX11_firstMinute 25 = .ok (.ifCond .eq 10, 3) := by decide +kernel
theorem dX11_firstMinute_28 : decode cX11_firstMinute 28 = .ok (.bipush 10, 2) := by decide +kernel
theorem dX11_firstMinute_30 : decode cX11_firstMinute 30 = .ok (.iload_n 2, 1) := by decide +kernel
theorem dX11_firstMinute_31 : decode cX11_firstMinute 31 = .ok (.imul, 1) := by decide +kernel
theorem dX11_firstMinute_32 : decode cX11_firstMinute 32 = .ok (.iload_n 3, 1) := by decide +kernel
theorem dX11_firstMinute_33 : decode cX11_firstMinute 33 = .ok (.iadd, 1) := by decide +kernel
theorem dX11_firstMinute_34 : decode cX11_firstMinute 34 = .ok (.ireturn, 1) := by decide +kernel
theorem dX11_firstMinute_35 : decode cX11_firstMinute 35 = .ok (.iinc 3 1, 3) := by decide +kernel
theorem dX11_firstMinute_38 : decode cX11_firstMinute 38 = .ok (.goto (-28), 3) := by decide +kernel
theorem dX11_firstMinute_41 : decode cX11_firstMinute 41 = .ok (.iinc 2 1, 3) := by decide +kernel
theorem dX11_firstMinute_44 : decode cX11_firstMinute 44 = .ok (.goto (-42), 3) := by decide +kernel
theorem dX11_firstMinute_47 : decode cX11_firstMinute 47 = .ok (.iconst (-1), 1) := by decide +kernel
theorem dX11_firstMinute_48 : decode cX11_firstMinute 48 = .ok (.ireturn, 1) := by decide +kernel
theorem bset_byte (p : Nat → Bool) {k : Nat} (hk : k < 6) : (bset p 48 >>> (8 * k)) % 256 = bset (fun y => p (8 * k + y)) 8 := by
  apply Nat.eq_of_testBit_eq
  intro j
  rw [show (256 : Nat) = 2 ^ 8 from rfl, Nat.testBit_mod_two_pow, Nat.testBit_shiftRight, bset_bit, bset_bit]
  by_cases hj : j < 8
  · simp [hj]
    intro _
    omega
  · simp [hj]
theorem bset_0 {p : Nat → Bool} {n : Nat} : bset p n = 0 ↔ ∀ i, i < n → p i = false := by
  constructor
  · intro h i hi
    have := bset_bit p n i
    rw [h] at this
    simp [hi] at this
    exact this
  · intro h
    apply Nat.eq_of_testBit_eq
    intro j
    rw [bset_bit]
    by_cases hj : j < n
    · simp [h j hj]
    · simp [hj]
theorem isSet.cg {n : Nat} {P Q : Nat → Prop} {a : Int} (h : isSet n P a) (e : ∀ i, i < n → (P i ↔ Q i)) : isSet n Q a := by
  obtain ⟨p, h1, h2⟩ := h
  exact ⟨p, h1, fun i hi => (h2 i hi).trans (e i hi)⟩
theorem isSet.cut {n m : Nat} {P : Nat → Prop} {a : Int} (h : isSet n P a) (hm : m ≤ n) (e : ∀ i, m ≤ i → i < n → ¬ P i) : isSet m P a := by
  obtain ⟨p, h1, h2⟩ := h
  refine ⟨p, ?_, fun i hi => h2 i (by omega)⟩
  have := bset_pad (p := p) (n := m) (n - m) (fun i h3 h4 => by
    have := e i h3 (by omega)
    rw [← h2 i (by omega)] at this
    simpa using this)
  rw [show m + (n - m) = n by omega] at this
  rw [h1, this]
section
variable (d : Nat) (sh : mbSh) (ct : mbCt) {b : Int} {β : Bk} {s : Sit} {q : Int} {N : Nat} {V : Int}
theorem x_minutesNow (S : SH sh) (X : CX sh ct b β s q N V) (hV : V + 1 < 900000) : Mt YX11_minutesNow (d + 3) [.inr (.inr 0)] sh sh ct (pL fun r c => r = ((msN β s.2.2 s.1 : Nat) : Int) ∧ CX sh c b β s q N (V + 1) ∧ kF q ct c) := by
  have L := X.L
  have hrg := X.2.2.1.1.1
  refine Mt.of rfl (Nat.le_of_ble_eq_true rfl) ?_
  show G _ 0 [some (.inr (.inr 0))] [] sh ct
  refine g_aload_n (q := 1) dX11_minutesNow_0 rfl rfl ?_
  refine g_getO (q := 4) (kI := 11) fX11_79 (by first | assumption | exact S.at _ rfl) dX11_minutesNow_1 rfl rfl (by first | assumption | exact L.at _ _ rfl | exact LK.at (by assumption) _ _ rfl | ((repeat first | rewrite [wr_na (by decide)] | rewrite [wr_nk (by decide)] | rewrite [wa_na (by decide)]); first | assumption | exact LK.at (by assumption) _ _ rfl) | exact rfl) ?_
  refine g_aload_n (q := 5) dX11_minutesNow_4 rfl rfl ?_
  refine g_getO (q := 8) (kI := 4) fX11_30 (by first | assumption | exact S.at _ rfl) dX11_minutesNow_5 rfl rfl (by first | assumption | exact L.at _ _ rfl | exact LK.at (by assumption) _ _ rfl | ((repeat first | rewrite [wr_na (by decide)] | rewrite [wr_nk (by decide)] | rewrite [wa_na (by decide)]); first | assumption | exact LK.at (by assumption) _ _ rfl) | exact rfl) ?_
  refine g_getA (q := 11) (kI := 2) fX11_139 (by first | assumption | exact S.at _ rfl) dX11_minutesNow_8 rfl rfl (by first | assumption | exact L.at _ _ rfl | exact LK.at (by assumption) _ _ rfl | ((repeat first | rewrite [wr_na (by decide)] | rewrite [wr_nk (by decide)] | rewrite [wa_na (by decide)]); first | assumption | exact LK.at (by assumption) _ _ rfl) | exact rfl) ?_
  refine g_callV (q := 14) lX11_273 mX4_heed nX4_heed rfl (x_heed (d + 1) sh _ S X hV) (by first | assumption | exact S.at _ rfl) rfl rfl shLe.rf (rmOk.mk (by omega) (by first | exact shLe.rf | assumption)) (Nat.le_of_ble_eq_true rfl) dX11_minutesNow_11 rfl rfl (kN fun c1 hp => ?_)
  obtain ⟨Y, f1⟩ := hp
  have L1 := Y.x.L
  have hst : c1 12 0 = s.1 := Y.2.1.1
  refine g_aload_n (q := 15) dX11_minutesNow_14 rfl rfl ?_
  refine g_getO (q := 18) (kI := 11) fX11_79 (by first | assumption | exact S.at _ rfl) dX11_minutesNow_15 rfl rfl (by first | assumption | exact L.at _ _ rfl | exact LK.at (by assumption) _ _ rfl | ((repeat first | rewrite [wr_na (by decide)] | rewrite [wr_nk (by decide)] | rewrite [wa_na (by decide)]); first | assumption | exact LK.at (by assumption) _ _ rfl) | exact rfl) ?_
  refine g_aload_n (q := 19) dX11_minutesNow_18 rfl rfl ?_
  refine g_getO (q := 22) (kI := 4) fX11_30 (by first | assumption | exact S.at _ rfl) dX11_minutesNow_19 rfl rfl (by first | assumption | exact L.at _ _ rfl | exact LK.at (by assumption) _ _ rfl | ((repeat first | rewrite [wr_na (by decide)] | rewrite [wr_nk (by decide)] | rewrite [wa_na (by decide)]); first | assumption | exact LK.at (by assumption) _ _ rfl) | exact rfl) ?_
  refine g_getI (q := 25) (kI := 0) fX11_151 (by first | assumption | exact S.at _ rfl) dX11_minutesNow_22 rfl rfl ?_
  rw [hst]
  refine g_callV (q := 28) lX11_439 mX4_minutesAt nX4_minutesAt rfl (m_minutesAt d sh _ S Y.2.2.2.1.1 hrg.1 hrg.2) (by first | assumption | exact S.at _ rfl) rfl rfl shLe.rf (rmOk.mk (by omega) (by first | exact shLe.rf | assumption)) (Nat.le_of_ble_eq_true rfl) dX11_minutesNow_25 rfl rfl (kL fun r c2 hp => ?_)
  obtain ⟨h1, m⟩ := hp
  refine g_lreturn dX11_minutesNow_28 rfl ?_
  exact ⟨_, rfl, h1, (Y.mvt m).x, f1.tr m.k⟩
theorem x_sayingsOf {Z : Nat} {m : Int} (hZ : Z < 281474976710656) (m0 : 0 ≤ m) (m1 : m < 6) : Mt YX11_sayingsOf d [.inr (.inl (Z : Int)), .inl m] sh sh ct (pI fun r c => r = (((Z >>> (8 * m.toNat)) % 256 : Nat) : Int) ∧ c = ct) := by
  have e : ushL (Z : Int) (8 * m) = ((Z >>> (8 * m.toNat) : Nat) : Int) := by
    have := ush_nat (a := Z) (k := 8 * m.toNat) (by omega) (by omega)
    rw [show ((8 * m.toNat : Nat) : Int) = 8 * m by omega] at this
    exact this
  have e2 : ∀ y : Nat, andI (y : Int) 255 = ((y % 256 : Nat) : Int) := by
    intro y
    unfold andI
    rw [show ((y : Int) % 4294967296).toNat = y % 4294967296 by omega, show ((255 : Int) % 4294967296).toNat = 2 ^ 8 - 1 from rfl, Nat.and_two_pow_sub_one_eq_mod]
    omega
  refine Mt.of rfl (Nat.le_of_ble_eq_true rfl) ?_
  show G _ 0 [some (.inr (.inl (Z : Int))), none, some (.inl m)] [] sh ct
  refine g_lload_n (q := 1) dX11_sayingsOf_0 rfl rfl ?_
  refine g_bipush (q := 3) dX11_sayingsOf_1 (by decide +kernel) rfl ?_
  refine g_iload_n (q := 4) dX11_sayingsOf_3 rfl rfl ?_
  refine g_imul (q := 5) dX11_sayingsOf_4 rfl ?_
  refine g_lushr (q := 6) dX11_sayingsOf_5 rfl ?_
  rw [e]
  refine g_l2i (q := 7) dX11_sayingsOf_6 rfl ?_
  refine g_sipush (q := 10) dX11_sayingsOf_7 (by decide +kernel) rfl ?_
  refine g_iand (q := 11) dX11_sayingsOf_10 rfl ?_
  rw [e2]
  refine g_ireturn dX11_sayingsOf_11 rfl ?_
  exact ⟨_, rfl, rfl, rfl⟩
theorem x_membersOf {p : Nat → Bool} : Mt YX11_membersOf (d + 1) [.inr (.inl ((bset p 48 : Nat) : Int))] sh sh ct (pI fun r c => isSet 6 (fun m => ∃ y, y < 8 ∧ p (8 * m + y) = true) r ∧ c = ct) := by
  have hZ := bset_lt p 48
  generalize hP : (pI fun r c => isSet 6 (fun m => ∃ y, y < 8 ∧ p (8 * m + y) = true) r ∧ c = ct) = Po
  refine Mt.of rfl (Nat.le_of_ble_eq_true rfl) ?_
  show G _ 0 [some (.inr (.inl ((bset p 48 : Nat) : Int))), none, none, none] [] sh ct
  refine g_iconst (q := 1) dX11_membersOf_0 rfl ?_
  refine s_istore_n_4_2 (q := 2) dX11_membersOf_1 rfl rfl rfl ?_
  refine g_iconst (q := 3) dX11_membersOf_2 rfl ?_
  refine s_istore_n_4_3 (q := 4) dX11_membersOf_3 rfl rfl rfl ?_
  refine g_forA (α := Int) (fun k a => [some (.inr (.inl ((bset p 48 : Nat) : Int))), none, some (.inl a), some (.inl k)]) (fun k a c => 0 ≤ k ∧ c = ct ∧ isSet k.toNat (fun m => ∃ y, y < 8 ∧ p (8 * m + y) = true) a) 6 ?_ ?_ (i := 0) (a := 0) (by omega) ⟨by omega, rfl, isSet.zero⟩ (by simp [lsSub])
  · rintro k a c hk ⟨k0, rfl, hs⟩ kk
    have hrg := hs.rg (by omega)
    have em : ((k.toNat : Nat) : Int) = k := by omega
    refine g_iload_n (q := 5) dX11_membersOf_4 rfl rfl ?_
    refine g_bipush (q := 7) dX11_membersOf_5 (by decide +kernel) rfl ?_
    refine g_icmp_ge (q := 10) (tg := 30) dX11_membersOf_7 (by decide) rfl (fun c_7 => ?_) (fun c_7 => ?_)
    · exact absurd c_7 (by unfold w32; omega)
    · refine g_lload_n (q := 11) dX11_membersOf_10 rfl rfl ?_
      refine g_iload_n (q := 12) dX11_membersOf_11 rfl rfl ?_
      refine g_callS (q := 15) lX11_147 mX11_sayingsOf sX11_sayingsOf rfl (x_sayingsOf d sh _ hZ k0 hk) shLe.rf (rmOk.mk (by omega) (by first | exact shLe.rf | assumption)) (Nat.le_of_ble_eq_true rfl) dX11_membersOf_12 rfl rfl (kI fun r_ c_ hp => ?_)
      obtain ⟨hr, hq⟩ := hp
      replace hr := hr.symm
      replace hq := hq.symm
      subst hr hq
      rw [bset_byte p (show k.toNat < 6 by omega)]
      have hb := bset_lt (fun y => p (8 * k.toNat + y)) 8
      have hb' : bset (fun y => p (8 * k.toNat + y)) 8 < 256 := hb
      have nxt : ∀ v, (((∃ y, y < 8 ∧ p (8 * k.toNat + y) = true) ∧ v = orI a (shlI 1 k.toNat)) ∨ (¬ (∃ y, y < 8 ∧ p (8 * k.toNat + y) = true) ∧ v = a)) → G (mkK YX11_membersOf (d + 1) sh sh Po) 24 [some (.inr (.inl ((bset p 48 : Nat) : Int))), none, some (.inl v), some (.inl k)] [] sh c := by
        intro v hv
        refine s_iinc_4_3 (q := 27) dX11_membersOf_24 rfl rfl rfl ?_
        refine g_goto (q := 4) dX11_membersOf_27 (by decide) ?_
        refine kk v _ _ (by simp [lsSub]) ⟨by omega, rfl, ?_⟩
        rw [show (k + 1).toNat = k.toNat + 1 by omega]
        rcases hv with ⟨h1, rfl⟩ | ⟨h1, rfl⟩
        · exact hs.up (by omega) (Or.inl ⟨h1, rfl⟩)
        · have := hs.up (v := 0) (by omega) (Or.inr ⟨h1, rfl⟩)
          rw [orI_0 hrg.1 (by omega)] at this
          exact this
      have hz : w32 ((bset (fun y => p (8 * k.toNat + y)) 8 : Nat) : Int) = 0 ↔ bset (fun y => p (8 * k.toNat + y)) 8 = 0 := by
        rw [w32_id (by omega) (by omega)]
        omega
      refine g_if_eq (q := 18) (tg := 24) dX11_membersOf_15 (by decide) rfl (fun c_15 => ?_) (fun c_15 => ?_)
      · refine nxt a (Or.inr ⟨?_, rfl⟩)
        rintro ⟨y, hy, h⟩
        have := bset_0.mp (hz.mp c_15) y hy
        rw [h] at this
        cases this
      · refine g_iload_n (q := 19) dX11_membersOf_18 rfl rfl ?_
        refine g_iconst (q := 20) dX11_membersOf_19 rfl ?_
        refine g_iload_n (q := 21) dX11_membersOf_20 rfl rfl ?_
        refine g_ishl (q := 22) dX11_membersOf_21 rfl ?_
        refine g_ior (q := 23) dX11_membersOf_22 rfl ?_
        refine s_istore_n_4_2 (q := 24) dX11_membersOf_23 rfl rfl rfl ?_
        refine nxt _ (Or.inl ⟨?_, by rw [em]⟩)
        apply Classical.byContradiction
        intro h
        refine c_15 (hz.mpr (bset_0.mpr (fun y hy => ?_)))
        cases h2 : p (8 * k.toNat + y)
        · rfl
        · exact absurd ⟨y, hy, h2⟩ h
  · rintro a c ⟨-, rfl, hs⟩
    refine g_iload_n (q := 5) dX11_membersOf_4 rfl rfl ?_
    refine g_bipush (q := 7) dX11_membersOf_5 (by decide +kernel) rfl ?_
    refine g_icmp_ge (q := 10) (tg := 30) dX11_membersOf_7 (by decide) rfl (fun c_7 => ?_) (fun c_7 => ?_)
    · refine g_iload_n (q := 31) dX11_membersOf_30 rfl rfl ?_
      refine g_ireturn dX11_membersOf_31 rfl ?_
      rw [← hP]
      exact ⟨_, rfl, hs, rfl⟩
    · exact absurd c_7 (by decide)
theorem canB_at {mk : Int → Int} {st : Int} {m y : Nat} (hy : y < 8) : canB β mk st (8 * m + y) = true ↔ (m : Int) < β.n 2 ∧ (y : Int) < β.n 3 ∧ β.W st m (mk m) y = true := by
  unfold canB
  rw [show (8 * m + y) / 8 = m by omega, show (8 * m + y) % 8 = y by omega, Bool.and_eq_true, Bool.and_eq_true, decide_eq_true_eq, decide_eq_true_eq, and_assoc]
theorem x_member {m w : Int} (S : SH sh) (X : CX sh ct b β s q N V) (hV : V + 1 < 900000) (hm : i32 m) (hw : i32 w) : Mt YX11_member (d + 4) [.inr (.inr 0), .inl m, .inl w] sh sh ct (pI fun r c => qMember β s m w r ∧ CX sh c b β s q N (V + 1) ∧ kF q ct c) := by
  have L := X.L
  have hb2 := X.2.2.1.2.2.2.2.1
  have hb3 := X.2.2.1.2.2.2.2.2.1
  have hrg := X.2.2.1.1.1
  have hw2 := hw
  unfold i32 at hw2
  have ww := w32_id hw2.1 hw2.2
  have s13 : shA sh 13 = some (20, 6) := S.at _ rfl
  have hst : ct 12 0 = s.1 := X.2.1.1
  generalize hP : (pI fun r c => qMember β s m w r ∧ CX sh c b β s q N (V + 1) ∧ kF q ct c) = Po
  refine Mt.of rfl (Nat.le_of_ble_eq_true rfl) ?_
  show G _ 0 [some (.inr (.inr 0)), some (.inl m), some (.inl w)] [] sh ct
  refine g_aload_n (q := 1) dX11_member_0 rfl rfl ?_
  refine g_iload_n (q := 2) dX11_member_1 rfl rfl ?_
  refine g_callV (q := 5) lX11_135 mX11_isMember nX11_isMember rfl (x_isMember (d + 3) sh _ S X hm) (by first | assumption | exact S.at _ rfl) rfl rfl shLe.rf (rmOk.mk (by omega) (by first | exact shLe.rf | assumption)) (Nat.le_of_ble_eq_true rfl) dX11_member_2 rfl rfl (kI fun r_ c_ hp => ?_)
  obtain ⟨hr, hq⟩ := hp
  replace hr := hr.symm
  replace hq := hq.symm
  subst hr hq
  refine g_if_ne (q := 8) (tg := 11) dX11_member_5 (by decide) rfl (fun c_5 => ?_) (fun c_5 => ?_)
  · have hmb := wbn.mp c_5
    refine g_iload_n (q := 12) dX11_member_11 rfl rfl ?_
    by_cases h0 : w = 0
    · refine g_tabIn (q := 40) dX11_member_12 0 (by rw [ww, h0]) (by decide) (by decide) rfl (by decide) ?_
      refine g_aload_n (q := 41) dX11_member_40 rfl rfl ?_
      refine g_getO (q := 44) (kI := 4) fX11_30 (by first | assumption | exact S.at _ rfl) dX11_member_41 rfl rfl (by first | assumption | exact L.at _ _ rfl | exact LK.at (by assumption) _ _ rfl | ((repeat first | rewrite [wr_na (by decide)] | rewrite [wr_nk (by decide)] | rewrite [wa_na (by decide)]); first | assumption | exact LK.at (by assumption) _ _ rfl) | exact rfl) ?_
      refine g_getA (q := 47) (kI := 2) fX11_139 (by first | assumption | exact S.at _ rfl) dX11_member_44 rfl rfl (by first | assumption | exact L.at _ _ rfl | exact LK.at (by assumption) _ _ rfl | ((repeat first | rewrite [wr_na (by decide)] | rewrite [wr_nk (by decide)] | rewrite [wa_na (by decide)]); first | assumption | exact LK.at (by assumption) _ _ rfl) | exact rfl) ?_
      refine g_iload_n (q := 48) dX11_member_47 rfl rfl ?_
      refine g_iaload (q := 49) (by first | assumption | exact S.at _ rfl) (by omega) (by omega) (by omega) dX11_member_48 rfl ?_
      refine g_ireturn dX11_member_49 rfl ?_
      rw [← hP]
      exact ⟨_, rfl, Or.inr ⟨hmb, Or.inl ⟨h0, X.2.1.2.2 m hmb.1 (by omega)⟩⟩, X.up (by omega) hV, kF.rf⟩
    · by_cases h1 : w = 1
      · refine g_tabIn (q := 50) dX11_member_12 1 (by rw [ww, h1]) (by decide) (by decide) rfl (by decide) ?_
        refine g_aload_n (q := 51) dX11_member_50 rfl rfl ?_
        refine g_callV (q := 54) lX11_143 mX11_minutesNow nX11_minutesNow rfl (x_minutesNow d sh _ S X hV) (by first | assumption | exact S.at _ rfl) rfl rfl shLe.rf (rmOk.mk (by omega) (by first | exact shLe.rf | assumption)) (Nat.le_of_ble_eq_true rfl) dX11_member_51 rfl rfl (kL fun r c1 hp => ?_)
        obtain ⟨rfl, X1, f1⟩ := hp
        have hZ : msN β s.2.2 s.1 < 281474976710656 := bset_lt (canB β s.2.2 s.1) 48
        refine g_iload_n (q := 55) dX11_member_54 rfl rfl ?_
        refine g_callS (q := 58) lX11_147 mX11_sayingsOf sX11_sayingsOf rfl (x_sayingsOf (d + 3) sh _ hZ hmb.1 (by omega)) shLe.rf (rmOk.mk (by omega) (by first | exact shLe.rf | assumption)) (Nat.le_of_ble_eq_true rfl) dX11_member_55 rfl rfl (kI fun r_ c_ hp => ?_)
        obtain ⟨hr, hq⟩ := hp
        replace hr := hr.symm
        replace hq := hq.symm
        subst hr hq
        refine g_ireturn dX11_member_58 rfl ?_
        rw [← hP]
        refine ⟨_, rfl, Or.inr ⟨hmb, Or.inr (Or.inl ⟨h1, ?_⟩)⟩, X1, f1⟩
        unfold msN
        rw [bset_byte _ (show m.toNat < 6 by omega)]
        have em : ((m.toNat : Nat) : Int) = m := by omega
        have hs : isSet 8 (fun y => canB β s.2.2 s.1 (8 * m.toNat + y) = true) ((bset (fun y => canB β s.2.2 s.1 (8 * m.toNat + y)) 8 : Nat) : Int) := ⟨_, rfl, fun _ _ => Iff.rfl⟩
        have hs2 := hs.cut (m := (β.n 3).toNat) (by omega) (fun i h1 h2 h3 => by
          have := (canB_at h2).mp h3
          omega)
        refine hs2.cg (fun y hy => ?_)
        rw [canB_at (by omega), em]
        exact ⟨fun h => h.2.2, fun h => ⟨hmb.2, by omega, h⟩⟩
      · by_cases h2 : w = 2
        · refine g_tabIn (q := 59) dX11_member_12 2 (by rw [ww, h2]) (by decide) (by decide) rfl (by decide) ?_
          refine g_aload_n (q := 60) dX11_member_59 rfl rfl ?_
          refine g_getO (q := 63) (kI := 4) fX11_30 (by first | assumption | exact S.at _ rfl) dX11_member_60 rfl rfl (by first | assumption | exact L.at _ _ rfl | exact LK.at (by assumption) _ _ rfl | ((repeat first | rewrite [wr_na (by decide)] | rewrite [wr_nk (by decide)] | rewrite [wa_na (by decide)]); first | assumption | exact LK.at (by assumption) _ _ rfl) | exact rfl) ?_
          refine g_getI (q := 66) (kI := 0) fX11_151 (by first | assumption | exact S.at _ rfl) dX11_member_63 rfl rfl ?_
          rw [hst]
          refine g_callS (q := 69) lX11_154 mX11_lastOf sX11_lastOf rfl (c_lastOf (d + 3) sh _ hrg.1 (by omega)) shLe.rf (rmOk.mk (by omega) (by first | exact shLe.rf | assumption)) (Nat.le_of_ble_eq_true rfl) dX11_member_66 rfl rfl (kI fun r_ c_ hp => ?_)
          obtain ⟨hr, hq⟩ := hp
          replace hr := hr.symm
          replace hq := hq.symm
          subst hr hq
          refine g_iload_n (q := 70) dX11_member_69 rfl rfl ?_
          refine g_icmp_ne (q := 73) (tg := 77) dX11_member_70 (by decide) rfl (fun c_70 => ?_) (fun c_70 => ?_)
          · refine g_iconst (q := 78) dX11_member_77 rfl ?_
            refine g_ireturn dX11_member_78 rfl ?_
            rw [← hP]
            exact ⟨_, rfl, Or.inr ⟨hmb, Or.inr (Or.inr ⟨h2, b01_f (fun z => c_70 (by rw [z]))⟩)⟩, X.up (by omega) hV, kF.rf⟩
          · refine g_iconst (q := 74) dX11_member_73 rfl ?_
            refine g_goto (q := 78) dX11_member_74 (by decide) ?_
            refine g_ireturn dX11_member_78 rfl ?_
            rw [← hP]
            exact ⟨_, rfl, Or.inr ⟨hmb, Or.inr (Or.inr ⟨h2, b01_t (by unfold w32 at c_70; omega)⟩)⟩, X.up (by omega) hV, kF.rf⟩
        · refine g_tabOut (q := 79) dX11_member_12 (by rw [ww]; omega) (by decide) ?_
          refine g_bipush (q := 81) dX11_member_79 (by decide +kernel) rfl ?_
          refine g_ireturn dX11_member_81 rfl ?_
          rw [← hP]
          exact ⟨_, rfl, Or.inl ⟨by omega, rfl⟩, X.up (by omega) hV, kF.rf⟩
  · refine g_bipush (q := 10) dX11_member_8 (by decide +kernel) rfl ?_
    refine g_ireturn dX11_member_10 rfl ?_
    rw [← hP]
    exact ⟨_, rfl, Or.inl ⟨fun z => wb0.mp c_5 z.1, rfl⟩, X.up (by omega) hV, kF.rf⟩
theorem say_bits : ∀ y : Fin 8, ∀ i : Fin 48, ((1103823438081 * 2 ^ y.val : Nat)).testBit i.val = decide (i.val % 8 = y.val) := by decide +kernel
theorem and_say {p : Nat → Bool} {y : Int} (y0 : 0 ≤ y) (y1 : y < 8) : andL ((bset p 48 : Nat) : Int) (shlL 1103823438081 y) = ((bset (fun i => p i && decide (i % 8 = y.toNat)) 48 : Nat) : Int) := by
  have e : shlL 1103823438081 y = ((1103823438081 * 2 ^ y.toNat : Nat) : Int) := by
    unfold shlL
    rw [show y % 64 = y by omega]
    simp
  have hp := bset_lt p 48
  have h7 : 2 ^ y.toNat ≤ 2 ^ 7 := Nat.pow_le_pow_right (by decide) (by omega)
  rw [e, and_nat (by omega) (by omega)]
  congr 1
  apply Nat.eq_of_testBit_eq
  intro j
  rw [Nat.testBit_and, bset_bit, bset_bit]
  by_cases hj : j < 48
  · have := say_bits ⟨y.toNat, by omega⟩ ⟨j, hj⟩
    simp only at this
    rw [this]
    simp [hj]
  · simp [hj]
theorem x_saying {y w : Int} (S : SH sh) (X : CX sh ct b β s q N V) (hV : V + 1 < 900000) (hy : i32 y) (hw : i32 w) : Mt YX11_saying (d + 4) [.inr (.inr 0), .inl y, .inl w] sh sh ct (pI fun r c => qSaying β s y w r ∧ CX sh c b β s q N (V + 1) ∧ kF q ct c) := by
  have L := X.L
  have hb2 := X.2.2.1.2.2.2.2.1
  have hb3 := X.2.2.1.2.2.2.2.2.1
  have hw2 := hw
  unfold i32 at hw2
  have ww := w32_id hw2.1 hw2.2
  have h02 := X.1
  have sbb := X.bb S
  have sb := sbb.1
  have sb2 := sbb.2.2.1
  have sb3 := sbb.2.2.2.1
  obtain ⟨mk0, hK0⟩ := X.2.2.2.1
  have hat := bk_at S L X.hb
  have l12 := hat.2.2.2.2.2.2.1
  have l13 := hat.2.2.2.2.2.2.2.1
  have htt : ct (b + 2) y = β.tt y := by rw [← hK0.1.bk]; rfl
  have hht : ct (b + 3) y = β.ht y := by rw [← hK0.1.bk]; rfl
  generalize hP : (pI fun r c => qSaying β s y w r ∧ CX sh c b β s q N (V + 1) ∧ kF q ct c) = Po
  refine Mt.of rfl (Nat.le_of_ble_eq_true rfl) ?_
  show G _ 0 [some (.inr (.inr 0)), some (.inl y), some (.inl w)] [] sh ct
  refine g_aload_n (q := 1) dX11_saying_0 rfl rfl ?_
  refine g_iload_n (q := 2) dX11_saying_1 rfl rfl ?_
  refine g_callV (q := 5) lX11_158 mX11_isSaying nX11_isSaying rfl (x_isSaying (d + 3) sh _ S X hy) (by first | assumption | exact S.at _ rfl) rfl rfl shLe.rf (rmOk.mk (by omega) (by first | exact shLe.rf | assumption)) (Nat.le_of_ble_eq_true rfl) dX11_saying_2 rfl rfl (kI fun r_ c_ hp => ?_)
  obtain ⟨hr, hq⟩ := hp
  replace hr := hr.symm
  replace hq := hq.symm
  subst hr hq
  refine g_if_ne (q := 8) (tg := 11) dX11_saying_5 (by decide) rfl (fun c_5 => ?_) (fun c_5 => ?_)
  · have hsy := wbn.mp c_5
    refine g_iload_n (q := 12) dX11_saying_11 rfl rfl ?_
    by_cases h0 : w = 0
    · refine g_tabIn (q := 40) dX11_saying_12 0 (by rw [ww, h0]) (by decide) (by decide) rfl (by decide) ?_
      refine g_aload_n (q := 41) dX11_saying_40 rfl rfl ?_
      refine g_getO (q := 44) (kI := 2) fX11_20 (by first | assumption | exact S.at _ rfl) dX11_saying_41 rfl rfl (by first | assumption | exact L.at _ _ rfl | exact LK.at (by assumption) _ _ rfl | ((repeat first | rewrite [wr_na (by decide)] | rewrite [wr_nk (by decide)] | rewrite [wa_na (by decide)]); first | assumption | exact LK.at (by assumption) _ _ rfl) | exact rfl) ?_
      refine g_getA (q := 47) (kI := 12) fX11_162 (by first | assumption | exact S.at _ rfl) dX11_saying_44 rfl rfl (by first | assumption | exact L.at _ _ rfl | exact LK.at (by assumption) _ _ rfl | ((repeat first | rewrite [wr_na (by decide)] | rewrite [wr_nk (by decide)] | rewrite [wa_na (by decide)]); first | assumption | exact LK.at (by assumption) _ _ rfl) | exact rfl) ?_
      refine g_iload_n (q := 48) dX11_saying_47 rfl rfl ?_
      refine g_iaload (q := 49) (by first | assumption | exact S.at _ rfl) (by omega) (by omega) (by omega) dX11_saying_48 rfl ?_
      refine g_ireturn dX11_saying_49 rfl ?_
      rw [← hP]
      exact ⟨_, rfl, Or.inr ⟨hsy, Or.inl ⟨h0, htt⟩⟩, X.up (by omega) hV, kF.rf⟩
    · by_cases h1 : w = 1
      · refine g_tabIn (q := 50) dX11_saying_12 1 (by rw [ww, h1]) (by decide) (by decide) rfl (by decide) ?_
        refine g_aload_n (q := 51) dX11_saying_50 rfl rfl ?_
        refine g_getO (q := 54) (kI := 2) fX11_20 (by first | assumption | exact S.at _ rfl) dX11_saying_51 rfl rfl (by first | assumption | exact L.at _ _ rfl | exact LK.at (by assumption) _ _ rfl | ((repeat first | rewrite [wr_na (by decide)] | rewrite [wr_nk (by decide)] | rewrite [wa_na (by decide)]); first | assumption | exact LK.at (by assumption) _ _ rfl) | exact rfl) ?_
        refine g_getA (q := 57) (kI := 13) fX11_165 (by first | assumption | exact S.at _ rfl) dX11_saying_54 rfl rfl (by first | assumption | exact L.at _ _ rfl | exact LK.at (by assumption) _ _ rfl | ((repeat first | rewrite [wr_na (by decide)] | rewrite [wr_nk (by decide)] | rewrite [wa_na (by decide)]); first | assumption | exact LK.at (by assumption) _ _ rfl) | exact rfl) ?_
        refine g_iload_n (q := 58) dX11_saying_57 rfl rfl ?_
        refine g_iaload (q := 59) (by first | assumption | exact S.at _ rfl) (by omega) (by omega) (by omega) dX11_saying_58 rfl ?_
        refine g_ireturn dX11_saying_59 rfl ?_
        rw [← hP]
        exact ⟨_, rfl, Or.inr ⟨hsy, Or.inr (Or.inl ⟨h1, hht⟩)⟩, X.up (by omega) hV, kF.rf⟩
      · by_cases h2 : w = 2
        · refine g_tabIn (q := 60) dX11_saying_12 2 (by rw [ww, h2]) (by decide) (by decide) rfl (by decide) ?_
          refine g_aload_n (q := 61) dX11_saying_60 rfl rfl ?_
          refine g_callV (q := 64) lX11_143 mX11_minutesNow nX11_minutesNow rfl (x_minutesNow d sh _ S X hV) (by first | assumption | exact S.at _ rfl) rfl rfl shLe.rf (rmOk.mk (by omega) (by first | exact shLe.rf | assumption)) (Nat.le_of_ble_eq_true rfl) dX11_saying_61 rfl rfl (kL fun r c1 hp => ?_)
          obtain ⟨rfl, X1, f1⟩ := hp
          refine g_iload_n (q := 65) dX11_saying_64 rfl rfl ?_
          refine g_callS (q := 68) lX11_168 mX11_sayingBits sX11_sayingBits rfl (x_sayingBits (d + 3) sh _) shLe.rf (rmOk.mk (by omega) (by first | exact shLe.rf | assumption)) (Nat.le_of_ble_eq_true rfl) dX11_saying_65 rfl rfl (kL fun r_ c_ hp => ?_)
          obtain ⟨hr, hq⟩ := hp
          replace hr := hr.symm
          replace hq := hq.symm
          subst hr hq
          unfold msN
          refine g_land (q := 69) dX11_saying_68 rfl ?_
          rw [and_say hsy.1 (by omega)]
          refine g_callS (q := 72) lX11_172 mX11_membersOf sX11_membersOf rfl (x_membersOf (d + 2) sh _) shLe.rf (rmOk.mk (by omega) (by first | exact shLe.rf | assumption)) (Nat.le_of_ble_eq_true rfl) dX11_saying_69 rfl rfl (kI fun r c2 hp => ?_)
          obtain ⟨hs, rfl⟩ := hp
          refine g_ireturn dX11_saying_72 rfl ?_
          rw [← hP]
          refine ⟨_, rfl, Or.inr ⟨hsy, Or.inr (Or.inr ⟨h2, ?_⟩)⟩, X1, f1⟩
          have ey : ((y.toNat : Nat) : Int) = y := by omega
          have key : ∀ m : Nat, (∃ y', y' < 8 ∧ (canB β s.2.2 s.1 (8 * m + y') && decide ((8 * m + y') % 8 = y.toNat)) = true) ↔ (m : Int) < β.n 2 ∧ canW β s m y := by
            intro m
            constructor
            · rintro ⟨y', hy', h⟩
              rw [Bool.and_eq_true, decide_eq_true_eq] at h
              have := (canB_at hy').mp h.1
              have e : y' = y.toNat := by omega
              rw [e, ey] at this
              exact ⟨this.1, this.2.2⟩
            · rintro ⟨h1, h2⟩
              refine ⟨y.toNat, by omega, ?_⟩
              rw [Bool.and_eq_true, decide_eq_true_eq, canB_at (by omega), ey]
              exact ⟨⟨h1, hsy.2, h2⟩, by omega⟩
          have hs2 := hs.cut (m := (β.n 2).toNat) (by omega) (fun i h1 h2 h3 => by
            have := (key i).mp h3
            omega)
          exact hs2.cg (fun m hm => (key m).trans ⟨fun h => h.2, fun h => ⟨by omega, h⟩⟩)
        · refine g_tabOut (q := 73) dX11_saying_12 (by rw [ww]; omega) (by decide) ?_
          refine g_ldc (q := 75) dX11_saying_73 kX11_161 rfl ?_
          refine g_ireturn dX11_saying_75 rfl ?_
          rw [← hP]
          exact ⟨_, rfl, Or.inl ⟨by omega, rfl⟩, X.up (by omega) hV, kF.rf⟩
  · refine g_ldc (q := 10) dX11_saying_8 kX11_161 rfl ?_
    refine g_ireturn dX11_saying_10 rfl ?_
    rw [← hP]
    exact ⟨_, rfl, Or.inl ⟨fun z => wb0.mp c_5 z.1, rfl⟩, X.up (by omega) hV, kF.rf⟩
end
