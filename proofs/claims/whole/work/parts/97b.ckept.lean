/-! MinuteBook: marks kept, what to try -/
theorem dX11_marksThatWould_0 : decode cX11_marksThatWould 0 = .ok (.iconst 0, 1) := by decide +kernel
theorem dX11_marksThatWould_1 : decode cX11_marksThatWould 1 = .ok (.istore 4, 2) := by decide +kernel
theorem dX11_marksThatWould_3 : decode cX11_marksThatWould 3 = .ok (.iconst 0, 1) := by decide +kernel
theorem dX11_marksThatWould_4 : decode cX11_marksThatWould 4 = .ok (.istore 5, 2) := by decide +kernel
theorem dX11_marksThatWould_6 : decode cX11_marksThatWould 6 = .ok (.iload 5, 2) := by decide +kernel
theorem dX11_marksThatWould_8 : decode cX11_marksThatWould 8 = .ok (.bipush 9, 2) := by decide +kernel
theorem dX11_marksThatWould_10 : decode cX11_marksThatWould 10 = .ok (.if_icmp .gt 37, 3) := by decide +kernel
theorem dX11_marksThatWould_13 : decode cX11_marksThatWould 13 = .ok (.aload_n 0, 1) := by decide +kernel
theorem dX11_marksThatWould_14 : decode cX11_marksThatWould 14 = .ok (.getfield 70, 3) := by decide +kernel
theorem dX11_marksThatWould_17 : decode cX11_marksThatWould 17 = .ok (.aload_n 0, 1) := by decide +kernel
theorem dX11_marksThatWould_18 : decode cX11_marksThatWould 18 = .ok (.getfield 20, 3) := by decide +kernel
theorem dX11_marksThatWould_21 : decode cX11_marksThatWould 21 = .ok (.iload_n 1, 1) := by decide +kernel
theorem dX11_marksThatWould_22 : decode cX11_marksThatWould 22 = .ok (.iload_n 2, 1) := by decide +kernel
theorem dX11_marksThatWould_23 : decode cX11_marksThatWould 23 = .ok (.iload 5, 2) := by decide +kernel
theorem dX11_marksThatWould_25 : decode cX11_marksThatWould 25 = .ok (.iload_n 3, 1) := by decide +kernel
theorem dX11_marksThatWould_26 : decode cX11_marksThatWould 26 = .ok (.invokevirtual 244, 3) := by decide +kernel
theorem dX11_marksThatWould_29 : decode cX11_marksThatWould 29 = .ok (.ifCond .eq 12, 3) := by decide +kernel
theorem dX11_marksThatWould_32 : decode cX11_marksThatWould 32 = .ok (.iload 4, 2) := by decide +kernel
theorem dX11_marksThatWould_34 : decode cX11_marksThatWould 34 = .ok (.iconst 1, 1) := by decide +kernel
theorem dX11_marksThatWould_35 : decode cX11_marksThatWould 35 = .ok (.iload 5, 2) := by decide +kernel
theorem dX11_marksThatWould_37 : decode cX11_marksThatWould 37 = .ok (.ishl, 1) := by decide +kernel
theorem dX11_marksThatWould_38 : decode cX11_marksThatWould 38 = .ok (.ior, 1) := by decide +kernel
theorem dX11_marksThatWould_39 : decode cX11_marksThatWould 39 = .ok (.istore 4, 2) := by decide +kernel
theorem dX11_marksThatWould_41 : decode cX11_marksThatWould 41 = .ok (.iinc 5 1, 3) := by decide +kernel
theorem dX11_marksThatWould_44 : decode cX11_marksThatWould 44 = .ok (.goto (-38), 3) := by decide +kernel
theorem dX11_marksThatWould_47 : decode cX11_marksThatWould 47 = .ok (.iload 4, 2) := by decide +kernel
theorem dX11_marksThatWould_49 : decode cX11_marksThatWould 49 = .ok (.ireturn, 1) := by decide +kernel
theorem dX11_marksKept_0 : decode cX11_marksKept 0 = .ok (.sipush 1023, 3) := by decide +kernel
theorem dX11_marksKept_3 : decode cX11_marksKept 3 = .ok (.istore_n 2, 1) := by decide +kernel
theorem dX11_marksKept_4 : decode cX11_marksKept 4 = .ok (.aload_n 0, 1) := by decide +kernel
theorem dX11_marksKept_5 : decode cX11_marksKept 5 = .ok (.getfield 30, 3) := by decide +kernel
theorem dX11_marksKept_8 : decode cX11_marksKept 8 = .ok (.getfield 151, 3) := by decide +kernel
theorem dX11_marksKept_11 : decode cX11_marksKept 11 = .ok (.istore_n 3, 1) := by decide +kernel
theorem dX11_marksKept_12 : decode cX11_marksKept 12 = .ok (.iconst 0, 1) := by decide +kernel
theorem dX11_marksKept_13 : decode cX11_marksKept 13 = .ok (.istore 4, 2) := by decide +kernel
theorem dX11_marksKept_15 : decode cX11_marksKept 15 = .ok (.iload 4, 2) := by decide +kernel
theorem dX11_marksKept_17 : decode cX11_marksKept 17 = .ok (.aload_n 0, 1) := by decide +kernel
theorem dX11_marksKept_18 : decode cX11_marksKept 18 = .ok (.getfield 95, 3) := by decide +kernel
theorem dX11_marksKept_21 : decode cX11_marksKept 21 = .ok (.getfield 357, 3) := by decide +kernel
theorem dX11_marksKept_24 : decode cX11_marksKept 24 = .ok (.if_icmp .ge 64, 3) := by decide +kernel
theorem dX11_marksKept_27 : decode cX11_marksKept 27 = .ok (.aload_n 0, 1) := by decide +kernel
theorem dX11_marksKept_28 : decode cX11_marksKept 28 = .ok (.getfield 95, 3) := by decide +kernel
theorem dX11_marksKept_31 : decode cX11_marksKept 31 = .ok (.getfield 376, 3) := by decide +kernel
theorem dX11_marksKept_34 : decode cX11_marksKept 34 = .ok (.iload 4, 2) := by decide +kernel
theorem dX11_marksKept_36 : decode cX11_marksKept 36 = .ok (.iaload, 1) := by decide +kernel
theorem dX11_marksKept_37 : decode cX11_marksKept 37 = .ok (.istore 5, 2) := by decide +kernel
theorem dX11_marksKept_39 : decode cX11_marksKept 39 = .ok (.iload 5, 2) := by decide +kernel
theorem dX11_marksKept_41 : decode cX11_marksKept 41 = .ok (.bipush 10, 2) := by decide +kernel
theorem dX11_marksKept_43 : decode cX11_marksKept 43 = .ok (.irem, 1) := by decide +kernel
theorem dX11_marksKept_44 : decode cX11_marksKept 44 = .ok (.istore 6, 2) := by decide +kernel
theorem dX11_marksKept_46 : decode cX11_marksKept 46 = .ok (.iload 5, 2) := by decide +kernel
theorem dX11_marksKept_48 : decode cX11_marksKept 48 = .ok (.bipush 10, 2) := by decide +kernel
theorem dX11_marksKept_50 : decode cX11_marksKept 50 = .ok (.idiv, 1) := by decide +kernel
theorem dX11_marksKept_51 : decode cX11_marksKept 51 = .ok (.iload_n 1, 1) := by decide +kernel
theorem dX11_marksKept_52 : decode cX11_marksKept 52 = .ok (.if_icmp .ne 14, 3) := by decide +kernel
theorem dX11_marksKept_55 : decode cX11_marksKept 55 = .ok (.iload_n 2, 1) := by decide +kernel
theorem dX11_marksKept_56 : decode cX11_marksKept 56 = .ok (.aload_n 0, 1) := by decide +kernel
theorem dX11_marksKept_57 : decode cX11_marksKept 57 = .ok (.iload_n 3, 1) := by decide +kernel
theorem dX11_marksKept_58 : decode cX11_marksKept 58 = .ok (.iload_n 1, 1) := by decide +kernel
theorem dX11_marksKept_59 : decode cX11_marksKept 59 = .ok (.iload 6, 2) := by decide +kernel
theorem dX11_marksKept_61 : decode cX11_marksKept 61 = .ok (.invokevirtual 364, 3) := by decide +kernel
theorem dX11_marksKept_64 : decode cX11_marksKept 64 = .ok (.iand, 1) := by decide +kernel
theorem dX11_marksKept_65 : decode cX11_marksKept 65 = .ok (.istore_n 2, 1) := by decide +kernel
theorem dX11_marksKept_66 : decode cX11_marksKept 66 = .ok (.aload_n 0, 1) := by decide +kernel
theorem dX11_marksKept_67 : decode cX11_marksKept 67 = .ok (.getfield 79, 3) := by decide +kernel
theorem dX11_marksKept_70 : decode cX11_marksKept 70 = .ok (.iload_n 3, 1) := by decide +kernel
theorem dX11_marksKept_71 : decode cX11_marksKept 71 = .ok (.iload 5, 2) := by decide +kernel
theorem dX11_marksKept_73 : decode cX11_marksKept 73 = .ok (.bipush 10, 2) := by decide +kernel
theorem dX11_marksKept_75 : decode cX11_marksKept 75 = .ok (.idiv, 1) := by decide +kernel
theorem dX11_marksKept_76 : decode cX11_marksKept 76 = .ok (.iload 6, 2) := by decide +kernel
theorem dX11_marksKept_78 : decode cX11_marksKept 78 = .ok (.invokevirtual 248, 3) := by decide +kernel
theorem dX11_marksKept_81 : decode cX11_marksKept 81 = .ok (.istore_n 3, 1) := by decide +kernel
theorem dX11_marksKept_82 : decode cX11_marksKept 82 = .ok (.iinc 4 1, 3) := by decide +kernel
theorem dX11_marksKept_85 : decode cX11_marksKept 85 = .ok (.goto (-70), 3) := by decide +kernel
theorem dX11_marksKept_88 : decode cX11_marksKept 88 = .ok (.iload_n 2, 1) := by decide +kernel
theorem dX11_marksKept_89 : decode cX11_marksKept 89 = .ok (.ireturn, 1) := by decide +kernel
theorem dX11_kept_0 : decode cX11_kept 0 = .ok (.aload_n 0, 1) := by decide +kernel
theorem dX11_kept_1 : decode cX11_kept 1 = .ok (.iload_n 1, 1) := by decide +kernel
theorem dX11_kept_2 : decode cX11_kept 2 = .ok (.iload_n 2, 1) := by decide +kernel
theorem dX11_kept_3 : decode cX11_kept 3 = .ok (.invokevirtual 358, 3) := by decide +kernel
theorem dX11_kept_6 : decode cX11_kept 6 = .ok (.istore_n 3, 1) := by decide +kernel
theorem dX11_kept_7 : decode cX11_kept 7 = .ok (.iload_n 3, 1) := by decide +kernel
theorem dX11_kept_8 : decode cX11_kept 8 = .ok (.ifCond .eq 7, 3) := by decide +kernel
theorem dX11_kept_11 : decode cX11_kept 11 = .ok (.iload_n 3, 1) := by decide +kernel
theorem dX11_kept_12 : decode cX11_kept 12 = .ok (.goto 8, 3) := by decide +kernel
theorem dX11_kept_15 : decode cX11_kept 15 = .ok (.aload_n 0, 1) := by decide +kernel
theorem dX11_kept_16 : decode cX11_kept 16 = .ok (.iload_n 2, 1) := by decide +kernel
theorem dX11_kept_17 : decode cX11_kept 17 = .ok (.invokevirtual 361, 3) := by decide +kernel
theorem dX11_kept_20 : decode cX11_kept 20 = .ok (.ireturn, 1) := by decide +kernel
theorem dX11_attempt_0 : decode cX11_attempt 0 = .ok (.aload_n 0, 1) := by decide +kernel
theorem dX11_attempt_1 : decode cX11_attempt 1 = .ok (.iload_n 1, 1) := by decide +kernel
theorem dX11_attempt_2 : decode cX11_attempt 2 = .ok (.iload_n 2, 1) := by decide +kernel
theorem dX11_attempt_3 : decode cX11_attempt 3 = .ok (.invokevirtual 358, 3) := by decide +kernel
theorem dX11_attempt_6 : decode cX11_attempt 6 = .ok (.istore_n 3, 1) := by decide +kernel
theorem dX11_attempt_7 : decode cX11_attempt 7 = .ok (.iload_n 3, 1) := by decide +kernel
theorem dX11_attempt_8 : decode cX11_attempt 8 = .ok (.ifCond .eq 5, 3) := by decide +kernel
theorem dX11_attempt_11 : decode cX11_attempt 11 = .ok (.iload_n 3, 1) := by decide +kernel
theorem dX11_attempt_12 : decode cX11_attempt 12 = .ok (.ireturn, 1) := by decide +kernel
theorem dX11_attempt_13 : decode cX11_attempt 13 = .ok (.aload_n 0, 1) := by decide +kernel
theorem dX11_attempt_14 : decode cX11_attempt 14 = .ok (.iload_n 2, 1) := by decide +kernel
theorem dX11_attempt_15 : decode cX11_attempt 15 = .ok (.invokevirtual 361, 3) := by decide +kernel
theorem dX11_attempt_18 : decode cX11_attempt 18 = .ok (.istore 4, 2) := by decide +kernel
theorem dX11_attempt_20 : decode cX11_attempt 20 = .ok (.iconst (-1), 1) := by decide +kernel
theorem dX11_attempt_21 : decode cX11_attempt 21 = .ok (.istore 5, 2) := by decide +kernel
theorem dX11_attempt_23 : decode cX11_attempt 23 = .ok (.iconst (-1), 1) := by decide +kernel
theorem dX11_attempt_24 : decode cX11_attempt 24 = .ok (.istore 6, 2) := by decide +kernel
theorem dX11_attempt_26 : decode cX11_attempt 26 = .ok (.iload 4, 2) := by decide +kernel
theorem dX11_attempt_28 : decode cX11_attempt 28 = .ok (.ifCond .eq 76, 3) := by decide +kernel
theorem dX11_attempt_31 : decode cX11_attempt 31 = .ok (.iconst 0, 1) := by decide +kernel
theorem dX11_attempt_32 : decode cX11_attempt 32 = .ok (.istore 7, 2) := by decide +kernel
theorem dX11_attempt_34 : decode cX11_attempt 34 = .ok (.iload 7, 2) := by decide +kernel
theorem dX11_attempt_36 : decode cX11_attempt 36 = .ok (.aload_n 0, 1) := by decide +kernel
theorem dX11_attempt_37 : decode cX11_attempt 37 = .ok (.getfield 20, 3) := by decide +kernel
theorem dX11_attempt_40 : decode cX11_attempt 40 = .ok (.getfield 313, 3) := by decide +kernel
theorem dX11_attempt_43 : decode cX11_attempt 43 = .ok (.if_icmp .ge 61, 3) := by decide +kernel
theorem dX11_attempt_46 : decode cX11_attempt 46 = .ok (.iload 4, 2) := by decide +kernel
theorem dX11_attempt_48 : decode cX11_attempt 48 = .ok (.aload_n 0, 1) := by decide +kernel
theorem dX11_attempt_49 : decode cX11_attempt 49 = .ok (.aload_n 0, 1) := by decide +kernel
theorem dX11_attempt_50 : decode cX11_attempt 50 = .ok (.getfield 30, 3) := by decide +kernel
theorem dX11_attempt_53 : decode cX11_attempt 53 = .ok (.getfield 151, 3) := by decide +kernel
theorem dX11_attempt_56 : decode cX11_attempt 56 = .ok (.iload_n 2, 1) := by decide +kernel
theorem dX11_attempt_57 : decode cX11_attempt 57 = .ok (.iload 7, 2) := by decide +kernel
theorem dX11_attempt_59 : decode cX11_attempt 59 = .ok (.invokevirtual 364, 3) := by decide +kernel
theorem dX11_attempt_62 : decode cX11_attempt 62 = .ok (.iand, 1) := by decide +kernel
theorem dX11_attempt_63 : decode cX11_attempt 63 = .ok (.invokestatic 367, 3) := by decide +kernel
theorem dX11_attempt_66 : decode cX11_attempt 66 = .ok (.istore 8, 2) := by decide +kernel
theorem dX11_attempt_68 : decode cX11_attempt 68 = .ok (.iload 8, 2) := by decide +kernel
theorem dX11_attempt_70 : decode cX11_attempt 70 = .ok (.iload 4, 2) := by decide +kernel
theorem dX11_attempt_72 : decode cX11_attempt 72 = .ok (.invokestatic 367, 3) := by decide +kernel
theorem dX11_attempt_75 : decode cX11_attempt 75 = .ok (.iload 8, 2) := by decide +kernel
theorem dX11_attempt_77 : decode cX11_attempt 77 = .ok (.isub, 1) := by decide +kernel
theorem dX11_attempt_78 : decode cX11_attempt 78 = .ok (.invokestatic 371, 3) := by decide +kernel
theorem dX11_attempt_81 : decode cX11_attempt 81 = .ok (.istore 9, 2) := by decide +kernel
theorem dX11_attempt_83 : decode cX11_attempt 83 = .ok (.iload 9, 2) := by decide +kernel
theorem dX11_attempt_85 : decode cX11_attempt 85 = .ok (.iload 6, 2) := by decide +kernel
theorem dX11_attempt_87 : decode cX11_attempt 87 = .ok (.if_icmp .le 11, 3) := by decide +kernel
theorem dX11_attempt_90 : decode cX11_attempt 90 = .ok (.iload 9, 2) := by decide +kernel
theorem dX11_attempt_92 : decode cX11_attempt 92 = .ok (.istore 6, 2) := by decide +kernel
theorem dX11_attempt_94 : decode cX11_attempt 94 = .ok (.iload 7, 2) := by decide +kernel
theorem dX11_attempt_96 : decode cX11_attempt 96 = .ok (.istore 5, 2) := by decide +kernel
theorem dX11_attempt_98 : decode cX11_attempt 98 = .ok (.iinc 7 1, 3) := by decide +kernel
theorem dX11_attempt_101 : decode cX11_attempt 101 = .ok (.goto (-67), 3) := by decide +kernel
theorem dX11_attempt_104 : decode cX11_attempt 104 = .ok (.iload 5, 2) := by decide +kernel
theorem dX11_attempt_106 : decode cX11_attempt 106 = .ok (.ireturn, 1) := by decide +kernel
theorem andI_nat {a b : Nat} (ha : a < 2147483648) (hb : b < 2147483648) : andI a b = ((a &&& b : Nat) : Int) := by
  unfold andI
  rw [show ((a : Int) % 4294967296).toNat = a by omega, show ((b : Int) % 4294967296).toNat = b by omega]
theorem bset_and (p q : Nat → Bool) (n : Nat) : bset p n &&& bset q n = bset (fun i => p i && q i) n := by
  apply Nat.eq_of_testBit_eq
  intro i
  rw [Nat.testBit_and, bset_bit, bset_bit, bset_bit]
  cases decide (i < n) <;> simp
theorem andI_bset (p q : Nat → Bool) : andI ((bset p 10 : Nat) : Int) ((bset q 10 : Nat) : Int) = ((bset (fun i => p i && q i) 10 : Nat) : Int) := by
  have h1 := bset_lt p 10
  have h2 := bset_lt q 10
  rw [andI_nat (by omega) (by omega), bset_and]
theorem brL_cnt (Z : Nat) : ∀ k, (brL Z k).length = cntB (fun i => Z.testBit i) k
  | 0 => rfl
  | k + 1 => by
    rw [brL_succ, List.length_append, brL_cnt Z k]
    show _ = cntB (fun i => Z.testBit i) k + (if Z.testBit k = true then 1 else 0)
    split <;> rfl
theorem pop_bset (q : Nat → Bool) : popN (bset q 10) = cntB q 10 := by
  unfold popN
  rw [brL_cnt]
  apply cntB_cong
  intro i hi
  rw [bset_bit]
  simp [hi]
theorem isSet.bset {n : Nat} {p : Nat → Bool} {a : Int} (h : isSet n (fun k => p k = true) a) : a = ((bset p n : Nat) : Int) := by
  obtain ⟨p2, h1, h2⟩ := h
  rw [h1, bset_cong n (fun i hi => ?_)]
  have := h2 i hi
  cases h3 : p i <;> cases h4 : p2 i <;> simp_all
abbrev mE (ct c : mbCt) : Prop := eqBut [68, 69, 72, 73, 75, 76] ct c
theorem mE.k {q : Int} {ct c : mbCt} (h : mE ct c) : kF q ct c := (eqBut.bq h).mono (by decide)
section
variable (d : Nat) (sh : mbSh) (ct : mbCt) {b : Int} {β : Bk} {s : Sit} {q : Int} {N : Nat} {V : Int} {sz bt : Int → Int} {vl : Int → Int → Int} {mk : Int → Int}
theorem m_wouldSay {st who mk' sy : Int} (S : SH sh) (M : MV ct b β mk) (h0 : 0 ≤ st) (h1 : st < 700) (w0 : 0 ≤ who) (w1 : who ≤ 1000) (m0 : 0 ≤ mk') (m1 : mk' ≤ 1000) (s0 : 0 ≤ sy) (s1 : sy ≤ 1000) : Mt YX7_wouldSay (d + 1) [.inr (.inr 67), .inr (.inr b), .inl st, .inl who, .inl mk', .inl sy] sh sh ct (pI fun r c => r = b01 (β.W st who mk' sy = true) ∧ MVt ct c b β mk) := by
  refine Mt.imp (c_wouldSay d sh ct S M.L (bk_at S M.L M.hb) M.wf h0 h1 w0 w1 m0 m1 s0 s1 M.ask) ?_
  rintro r c ⟨x, rfl, rfl, he, ha⟩
  have q := bkN_far M.hb
  have e' : eqBut [68, 69, 72, 73, 75, 76] ct c := he.mono (by decide)
  have e0 : c b = ct b := e' b (by have := (q 0 (by omega) (by omega)).1; rw [Int.add_zero] at this; exact this)
  have e4 : c (b + 4) = ct (b + 4) := e' _ (q 4 (by omega) (by omega)).1
  refine ⟨_, rfl, ?_, M.mv e' ha (mvMin_eq e0 e4 (he 71 (by decide)) (he 72 (by decide)) M.mn) (mvCl_eq e0 e4 (he 73 (by decide)) M.cl)⟩
  rw [← M.bk]
  rfl
theorem x_wouldSay {st who mk' sy : Int} (S : SH sh) (X : CX sh ct b β s q N V) (h0 : 0 ≤ st) (h1 : st < 700) (w0 : 0 ≤ who) (w1 : who ≤ 1000) (m0 : 0 ≤ mk') (m1 : mk' ≤ 1000) (s0 : 0 ≤ sy) (s1 : sy ≤ 1000) : Mt YX7_wouldSay (d + 1) [.inr (.inr 67), .inr (.inr b), .inl st, .inl who, .inl mk', .inl sy] sh sh ct (pI fun r c => r = b01 (β.W st who mk' sy = true) ∧ CX sh c b β s q N V ∧ mE ct c) := by
  obtain ⟨mk, hK⟩ := X.2.2.2.1
  refine Mt.imp (m_wouldSay d sh ct S hK.1 h0 h1 w0 w1 m0 m1 s0 s1) ?_
  rintro r c ⟨x, rfl, hx, m⟩
  exact ⟨_, rfl, hx, X.mvt ⟨mk, hK, m⟩, m.1⟩
theorem x_behind {st m y : Int} (S : SH sh) (X : CX sh ct b β s q N V) (h0 : 0 ≤ st) (h1 : st < 700) (s0 : 0 ≤ y) (s1 : y < β.n 3) : Mt YX4_behind d [.inr (.inr 70), .inl st, .inl m, .inl y] sh sh ct (pI fun r c => r = nxB β st m y ∧ c = ct) := by
  obtain ⟨mk, hK⟩ := X.2.2.2.1
  exact m_behind d sh ct S hK.1 h0 h1 s0 s1
theorem x_marksThatWould {st m y : Int} (S : SH sh) (X : CX sh ct b β s q N V) (h0 : 0 ≤ st) (h1 : st < 700) (w0 : 0 ≤ m) (w1 : m ≤ 1000) (s0 : 0 ≤ y) (s1 : y ≤ 1000) : Mt YX11_marksThatWould (d + 2) [.inr (.inr 0), .inl st, .inl m, .inl y] sh sh ct (pI fun r c => r = ((bset (fun k => β.W st m k y) 10 : Nat) : Int) ∧ CX sh c b β s q N V ∧ mE ct c) := by
  generalize hP : (pI fun r c => r = ((bset (fun k => β.W st m k y) 10 : Nat) : Int) ∧ CX sh c b β s q N V ∧ mE ct c) = Po
  refine Mt.of rfl (Nat.le_of_ble_eq_true rfl) ?_
  show G _ 0 [some (.inr (.inr 0)), some (.inl st), some (.inl m), some (.inl y), none, none] [] sh ct
  refine g_iconst (q := 1) dX11_marksThatWould_0 rfl ?_
  refine s_istore_6_4 (q := 3) dX11_marksThatWould_1 rfl rfl rfl ?_
  refine g_iconst (q := 4) dX11_marksThatWould_3 rfl ?_
  refine s_istore_6_5 (q := 6) dX11_marksThatWould_4 rfl rfl rfl ?_
  refine g_forA (α := Int) (fun k a => [some (.inr (.inr 0)), some (.inl st), some (.inl m), some (.inl y), some (.inl a), some (.inl k)]) (fun k a c => 0 ≤ k ∧ CX sh c b β s q N V ∧ mE ct c ∧ isSet k.toNat (fun k => β.W st m k y = true) a) 10 ?_ ?_ (i := 0) (a := 0) (by omega) ⟨by omega, X, eqBut.rf, isSet.zero⟩ (by simp [lsSub])
  · rintro k a c hk ⟨k0, X1, e, hs⟩ kk
    have L1 := X1.L
    have h02 := X1.1
    have hrg := hs.rg (by omega)
    have em : ((k.toNat : Nat) : Int) = k := by omega
    refine g_iload (q := 8) dX11_marksThatWould_6 rfl rfl ?_
    refine g_bipush (q := 10) dX11_marksThatWould_8 (by decide +kernel) rfl ?_
    refine g_icmp_gt (q := 13) (tg := 47) dX11_marksThatWould_10 (by decide) rfl (fun c_10 => ?_) (fun c_10 => ?_)
    · exact absurd c_10 (by unfold w32; omega)
    · refine g_aload_n (q := 14) dX11_marksThatWould_13 rfl rfl ?_
      refine g_getO (q := 17) (kI := 10) fX11_70 (by first | assumption | exact S.at _ rfl) dX11_marksThatWould_14 rfl rfl (by first | assumption | exact L.at _ _ rfl | exact LK.at (by assumption) _ _ rfl | ((repeat first | rewrite [wr_na (by decide)] | rewrite [wr_nk (by decide)] | rewrite [wa_na (by decide)]); first | assumption | exact LK.at (by assumption) _ _ rfl) | exact rfl) ?_
      refine g_aload_n (q := 18) dX11_marksThatWould_17 rfl rfl ?_
      refine g_getO (q := 21) (kI := 2) fX11_20 (by first | assumption | exact S.at _ rfl) dX11_marksThatWould_18 rfl rfl (by first | assumption | exact L.at _ _ rfl | exact LK.at (by assumption) _ _ rfl | ((repeat first | rewrite [wr_na (by decide)] | rewrite [wr_nk (by decide)] | rewrite [wa_na (by decide)]); first | assumption | exact LK.at (by assumption) _ _ rfl) | exact rfl) ?_
      refine g_iload_n (q := 22) dX11_marksThatWould_21 rfl rfl ?_
      refine g_iload_n (q := 23) dX11_marksThatWould_22 rfl rfl ?_
      refine g_iload (q := 25) dX11_marksThatWould_23 rfl rfl ?_
      refine g_iload_n (q := 26) dX11_marksThatWould_25 rfl rfl ?_
      refine g_callV (q := 29) lX11_244 mX7_wouldSay nX7_wouldSay rfl (x_wouldSay d sh _ S X1 h0 h1 w0 w1 k0 (by omega) s0 s1) (by first | assumption | exact S.at _ rfl) rfl rfl shLe.rf (rmOk.mk (by omega) (by first | exact shLe.rf | assumption)) (Nat.le_of_ble_eq_true rfl) dX11_marksThatWould_26 rfl rfl (kI fun r c2 hp => ?_)
      obtain ⟨rfl, X2, e2⟩ := hp
      have nxt : ∀ v, ((β.W st m k.toNat y = true ∧ v = orI a (shlI 1 k.toNat)) ∨ (¬ β.W st m k.toNat y = true ∧ v = a)) → G (mkK YX11_marksThatWould (d + 2) sh sh Po) 41 [some (.inr (.inr 0)), some (.inl st), some (.inl m), some (.inl y), some (.inl v), some (.inl k)] [] sh c2 := by
        intro v hv
        refine s_iinc_6_5 (q := 44) dX11_marksThatWould_41 rfl rfl rfl ?_
        refine g_goto (q := 6) dX11_marksThatWould_44 (by decide) ?_
        refine kk v _ _ (by simp [lsSub]) ⟨by omega, X2, e.tr e2, ?_⟩
        rw [show (k + 1).toNat = k.toNat + 1 by omega]
        rcases hv with ⟨h1, rfl⟩ | ⟨h1, rfl⟩
        · exact hs.up (by omega) (Or.inl ⟨h1, rfl⟩)
        · have := hs.up (v := 0) (by omega) (Or.inr ⟨h1, rfl⟩)
          rw [orI_0 hrg.1 (by omega)] at this
          exact this
      refine g_if_eq (q := 32) (tg := 41) dX11_marksThatWould_29 (by decide) rfl (fun c_29 => ?_) (fun c_29 => ?_)
      · exact nxt a (Or.inr ⟨by rw [em]; exact wb0.mp c_29, rfl⟩)
      · refine g_iload (q := 34) dX11_marksThatWould_32 rfl rfl ?_
        refine g_iconst (q := 35) dX11_marksThatWould_34 rfl ?_
        refine g_iload (q := 37) dX11_marksThatWould_35 rfl rfl ?_
        refine g_ishl (q := 38) dX11_marksThatWould_37 rfl ?_
        refine g_ior (q := 39) dX11_marksThatWould_38 rfl ?_
        refine s_istore_6_4 (q := 41) dX11_marksThatWould_39 rfl rfl rfl ?_
        exact nxt _ (Or.inl ⟨by rw [em]; exact wbn.mp c_29, by rw [em]⟩)
  · rintro a c ⟨-, X1, e, hs⟩
    refine g_iload (q := 8) dX11_marksThatWould_6 rfl rfl ?_
    refine g_bipush (q := 10) dX11_marksThatWould_8 (by decide +kernel) rfl ?_
    refine g_icmp_gt (q := 13) (tg := 47) dX11_marksThatWould_10 (by decide) rfl (fun c_10 => ?_) (fun c_10 => ?_)
    · refine g_iload (q := 49) dX11_marksThatWould_47 rfl rfl ?_
      refine g_ireturn dX11_marksThatWould_49 rfl ?_
      rw [← hP]
      exact ⟨_, rfl, hs.bset, X1, e⟩
    · exact absurd c_10 (by decide)
theorem x_refusedKept {t m : Int} (S : SH sh) (X : CX sh ct b β s q N V) (T : TC ct sz bt vl) (ht : i32 t) (hm : i32 m) : Mt YX11_refusedKept (d + 4) [.inr (.inr 0), .inl t, .inl m] sh sh ct (pI fun r c => keptNo β sz vl t m r ∧ (r = 0 → RT c sz vl t) ∧ CX sh c b β s q N V ∧ kF q ct c) := by
  refine Mt.of rfl (Nat.le_of_ble_eq_true rfl) ?_
  show G _ 0 [some (.inr (.inr 0)), some (.inl t), some (.inl m)] [] sh ct
  refine g_aload_n (q := 1) dX11_refusedKept_0 rfl rfl ?_
  refine g_iload_n (q := 2) dX11_refusedKept_1 rfl rfl ?_
  refine g_callV (q := 5) lX11_135 mX11_isMember nX11_isMember rfl (x_isMember (d + 3) sh _ S X hm) (by first | assumption | exact S.at _ rfl) rfl rfl shLe.rf (rmOk.mk (by omega) (by first | exact shLe.rf | assumption)) (Nat.le_of_ble_eq_true rfl) dX11_refusedKept_2 rfl rfl (kI fun r_ c_ hp => ?_)
  obtain ⟨hr, hq⟩ := hp
  replace hr := hr.symm
  replace hq := hq.symm
  subst hr hq
  refine g_if_eq (q := 8) (tg := 16) dX11_refusedKept_5 (by decide) rfl (fun c_5 => ?_) (fun c_5 => ?_)
  · refine g_bipush (q := 18) dX11_refusedKept_16 (by decide +kernel) rfl ?_
    refine g_ireturn dX11_refusedKept_18 rfl ?_
    exact ⟨_, rfl, Or.inl ⟨wb0.mp c_5, rfl⟩, fun z => absurd z (by decide), X, kF.rf⟩
  · refine g_aload_n (q := 9) dX11_refusedKept_8 rfl rfl ?_
    refine g_iload_n (q := 10) dX11_refusedKept_9 rfl rfl ?_
    refine g_callV (q := 13) lX11_317 mX11_refusedMinutes nX11_refusedMinutes rfl (x_refusedMinutes d sh _ S X T ht) (by first | assumption | exact S.at _ rfl) rfl rfl shLe.rf (rmOk.mk (by omega) (by first | exact shLe.rf | assumption)) (Nat.le_of_ble_eq_true rfl) dX11_refusedKept_10 rfl rfl (kI fun r c1 hp => ?_)
    obtain ⟨h1, h2⟩ := hp
    refine g_goto (q := 18) dX11_refusedKept_13 (by decide) ?_
    refine g_ireturn dX11_refusedKept_18 rfl ?_
    exact ⟨_, rfl, Or.inr ⟨wbn.mp c_5, h1⟩, h2⟩
theorem x_marksKept {m : Int} {n : Nat} (S : SH sh) (X : CX sh ct b β s q N V) (hn : ct 80 2 = n) (hn1 : n ≤ 12) (hr : ∀ i : Nat, i < n → okN β 0 (ct 81 i)) (hm : isMb β m) : Mt YX11_marksKept (d + 3) [.inr (.inr 0), .inl m] sh sh ct (pI fun r c => (∃ p : Nat → Bool, r = (bset p 10 : Nat) ∧ ∀ k, k < 10 → (p k = true ↔ keptP β (ct 81) s.1 m n k)) ∧ CX sh c b β s q N V ∧ mE ct c) := by
  have L := X.L
  have hb2 := X.2.2.1.2.2.2.2.1
  have hb3 := X.2.2.1.2.2.2.2.2.1
  have hrg := X.2.2.1.1.1
  have hst0 : ct 12 0 = s.1 := X.2.1.1
  have hok : ∀ i : Nat, i < n → 0 ≤ ct 81 i ∧ ct 81 i / 10 < β.n 2 ∧ ct 81 i % 10 < β.n 3 := fun i hi => by
    rcases hr i hi with h | h
    · exact h
    · omega
  have hst : ∀ {i : Nat}, i ≤ n → 0 ≤ stT β (ct 81) s.1 i ∧ stT β (ct 81) s.1 i < 700 := fun hi => stT_in hrg (fun i hi => by have := hok i hi; omega) hi
  generalize hP : (pI fun r c => (∃ p : Nat → Bool, r = (bset p 10 : Nat) ∧ ∀ k, k < 10 → (p k = true ↔ keptP β (ct 81) s.1 m n k)) ∧ CX sh c b β s q N V ∧ mE ct c) = Po
  refine Mt.of rfl (Nat.le_of_ble_eq_true rfl) ?_
  show G _ 0 [some (.inr (.inr 0)), some (.inl m), none, none, none, none, none] [] sh ct
  refine g_sipush (q := 3) dX11_marksKept_0 (by decide +kernel) rfl ?_
  refine s_istore_n_7_2 (q := 4) dX11_marksKept_3 rfl rfl rfl ?_
  refine g_aload_n (q := 5) dX11_marksKept_4 rfl rfl ?_
  refine g_getO (q := 8) (kI := 4) fX11_30 (by first | assumption | exact S.at _ rfl) dX11_marksKept_5 rfl rfl (by first | assumption | exact L.at _ _ rfl | exact LK.at (by assumption) _ _ rfl | ((repeat first | rewrite [wr_na (by decide)] | rewrite [wr_nk (by decide)] | rewrite [wa_na (by decide)]); first | assumption | exact LK.at (by assumption) _ _ rfl) | exact rfl) ?_
  refine g_getI (q := 11) (kI := 0) fX11_151 (by first | assumption | exact S.at _ rfl) dX11_marksKept_8 rfl rfl ?_
  rw [hst0]
  refine s_istore_n_7_3 (q := 12) dX11_marksKept_11 rfl rfl rfl ?_
  refine g_iconst (q := 13) dX11_marksKept_12 rfl ?_
  refine s_istore_7_4 (q := 15) dX11_marksKept_13 rfl rfl rfl ?_
  refine g_forA (α := Nat → Bool) (fun i p => [some (.inr (.inr 0)), some (.inl m), some (.inl ((bset p 10 : Nat) : Int)), some (.inl (stT β (ct 81) s.1 i.toNat)), some (.inl i), none, none]) (fun i p c => 0 ≤ i ∧ CX sh c b β s q N V ∧ mE ct c ∧ ∀ k, k < 10 → (p k = true ↔ keptP β (ct 81) s.1 m i.toNat k)) n ?_ ?_ (i := 0) (a := fun _ => true) (by omega) ⟨by omega, X, eqBut.rf, fun k _ => ⟨fun _ j hj => by omega, fun _ => rfl⟩⟩ (by simp [lsSub, stT]; decide)
  · rintro i p c hi ⟨i0, X1, e, hp⟩ kk
    have L1 := X1.L
    have e80 : c 80 2 = n := by rw [e 80 (by decide)]; exact hn
    have e81 : c 81 = ct 81 := e 81 (by decide)
    have ei : ((i.toNat : Nat) : Int) = i := by omega
    have hin : i.toNat < n := by omega
    have hoki := hok i.toNat hin
    have hsti := hst (i := i.toNat) (by omega)
    rw [ei] at hoki
    have hd10 : (w32 (ct 81 i)).tdiv (w32 10) = ct 81 i / 10 := by rw [w32_id (x := ct 81 i) (by omega) (by omega), td_pos hoki.1]; rfl
    have hm10 : (w32 (ct 81 i)).tmod (w32 10) = ct 81 i % 10 := by rw [w32_id (x := ct 81 i) (by omega) (by omega), tm_pos hoki.1]; rfl
    have hst1 : stT β (ct 81) s.1 (i + 1).toNat = nxB β (stT β (ct 81) s.1 i.toNat) (ct 81 i / 10) (ct 81 i % 10) := by
      rw [show (i + 1).toNat = i.toNat + 1 by omega]
      show nxB β _ (ct 81 (i.toNat : Nat) / 10) (ct 81 (i.toNat : Nat) % 10) = _
      rw [ei]
    refine g_iload (q := 17) dX11_marksKept_15 rfl rfl ?_
    refine g_aload_n (q := 18) dX11_marksKept_17 rfl rfl ?_
    refine g_getO (q := 21) (kI := 13) fX11_95 (by first | assumption | exact S.at _ rfl) dX11_marksKept_18 rfl rfl (by first | assumption | exact L.at _ _ rfl | exact LK.at (by assumption) _ _ rfl | ((repeat first | rewrite [wr_na (by decide)] | rewrite [wr_nk (by decide)] | rewrite [wa_na (by decide)]); first | assumption | exact LK.at (by assumption) _ _ rfl) | exact rfl) ?_
    refine g_getI (q := 24) (kI := 2) fX11_357 (by first | assumption | exact S.at _ rfl) dX11_marksKept_21 rfl rfl ?_
    refine g_icmp_ge (q := 27) (tg := 88) dX11_marksKept_24 (by decide) rfl (fun c_24 => ?_) (fun c_24 => ?_)
    · rw [e80] at c_24
      exact absurd c_24 (by unfold w32; omega)
    · refine g_aload_n (q := 28) dX11_marksKept_27 rfl rfl ?_
      refine g_getO (q := 31) (kI := 13) fX11_95 (by first | assumption | exact S.at _ rfl) dX11_marksKept_28 rfl rfl (by first | assumption | exact L.at _ _ rfl | exact LK.at (by assumption) _ _ rfl | ((repeat first | rewrite [wr_na (by decide)] | rewrite [wr_nk (by decide)] | rewrite [wa_na (by decide)]); first | assumption | exact LK.at (by assumption) _ _ rfl) | exact rfl) ?_
      refine g_getA (q := 34) (kI := 1) fX11_376 (by first | assumption | exact S.at _ rfl) dX11_marksKept_31 rfl rfl (by first | assumption | exact L.at _ _ rfl | exact LK.at (by assumption) _ _ rfl | ((repeat first | rewrite [wr_na (by decide)] | rewrite [wr_nk (by decide)] | rewrite [wa_na (by decide)]); first | assumption | exact LK.at (by assumption) _ _ rfl) | exact rfl) ?_
      refine g_iload (q := 36) dX11_marksKept_34 rfl rfl ?_
      refine g_iaload (q := 37) (by first | assumption | exact S.at _ rfl) (by omega) (by omega) (by omega) dX11_marksKept_36 rfl ?_
      rw [e81]
      refine s_istore_7_5 (q := 39) dX11_marksKept_37 rfl rfl rfl ?_
      refine g_iload (q := 41) dX11_marksKept_39 rfl rfl ?_
      refine g_bipush (q := 43) dX11_marksKept_41 (by decide +kernel) rfl ?_
      refine g_irem (q := 44) dX11_marksKept_43 (by decide) rfl ?_
      rw [hm10]
      refine s_istore_7_6 (q := 46) dX11_marksKept_44 rfl rfl rfl ?_
      refine g_iload (q := 48) dX11_marksKept_46 rfl rfl ?_
      refine g_bipush (q := 50) dX11_marksKept_48 (by decide +kernel) rfl ?_
      refine g_idiv (q := 51) dX11_marksKept_50 (by decide) rfl ?_
      rw [hd10]
      have tail : ∀ p2 c2, CX sh c2 b β s q N V → mE ct c2 → (∀ k, k < 10 → (p2 k = true ↔ keptP β (ct 81) s.1 m (i + 1).toNat k)) → G (mkK YX11_marksKept (d + 3) sh sh Po) 66 [some (.inr (.inr 0)), some (.inl m), some (.inl ((bset p2 10 : Nat) : Int)), some (.inl (stT β (ct 81) s.1 i.toNat)), some (.inl i), some (.inl (ct 81 i)), some (.inl (ct 81 i % 10))] [] sh c2 := by
        intro p2 c2 X2 e2 h2
        have L2 := X2.L
        refine g_aload_n (q := 67) dX11_marksKept_66 rfl rfl ?_
        refine g_getO (q := 70) (kI := 11) fX11_79 (by first | assumption | exact S.at _ rfl) dX11_marksKept_67 rfl rfl (by first | assumption | exact L.at _ _ rfl | exact LK.at (by assumption) _ _ rfl | ((repeat first | rewrite [wr_na (by decide)] | rewrite [wr_nk (by decide)] | rewrite [wa_na (by decide)]); first | assumption | exact LK.at (by assumption) _ _ rfl) | exact rfl) ?_
        refine g_iload_n (q := 71) dX11_marksKept_70 rfl rfl ?_
        refine g_iload (q := 73) dX11_marksKept_71 rfl rfl ?_
        refine g_bipush (q := 75) dX11_marksKept_73 (by decide +kernel) rfl ?_
        refine g_idiv (q := 76) dX11_marksKept_75 (by decide) rfl ?_
        rw [hd10]
        refine g_iload (q := 78) dX11_marksKept_76 rfl rfl ?_
        refine g_callV (q := 81) lX11_248 mX4_behind nX4_behind rfl (x_behind (d + 2) sh _ S X2 hsti.1 hsti.2 (by omega) hoki.2.2) (by first | assumption | exact S.at _ rfl) rfl rfl shLe.rf (rmOk.mk (by omega) (by first | exact shLe.rf | assumption)) (Nat.le_of_ble_eq_true rfl) dX11_marksKept_78 rfl rfl (kI fun r_ c_ hp => ?_)
        obtain ⟨hr, hq⟩ := hp
        replace hr := hr.symm
        replace hq := hq.symm
        subst hr hq
        rw [← hst1]
        refine s_istore_n_7_3 (q := 82) dX11_marksKept_81 rfl rfl rfl ?_
        refine s_iinc_7_4 (q := 85) dX11_marksKept_82 rfl rfl rfl ?_
        refine g_goto (q := 15) dX11_marksKept_85 (by decide) ?_
        exact kk p2 _ _ (by simp [lsSub]) ⟨by omega, X2, e2, h2⟩
      have split' : ∀ k, keptP β (ct 81) s.1 m (i + 1).toNat k ↔ keptP β (ct 81) s.1 m i.toNat k ∧ (ct 81 i / 10 = m → β.W (stT β (ct 81) s.1 i.toNat) m k (ct 81 i % 10) = true) := by
        intro k
        rw [show (i + 1).toNat = i.toNat + 1 by omega]
        constructor
        · intro h
          refine ⟨fun j hj => h j (by omega), ?_⟩
          have := h i.toNat (by omega)
          rw [ei] at this
          exact this
        · rintro ⟨h1, h2⟩ j hj
          by_cases hji : j = i.toNat
          · rw [hji, ei]
            exact h2
          · exact h1 j (by omega)
      refine g_iload_n (q := 52) dX11_marksKept_51 rfl rfl ?_
      refine g_icmp_ne (q := 55) (tg := 66) dX11_marksKept_52 (by decide) rfl (fun c_52 => ?_) (fun c_52 => ?_)
      · refine tail p c X1 e (fun k hk => ?_)
        rw [hp k hk, split' k]
        exact ⟨fun h => ⟨h, fun z => absurd (by rw [z]) c_52⟩, fun h => h.1⟩
      · have hmi : ct 81 i / 10 = m := by unfold w32 at c_52; omega
        refine g_iload_n (q := 56) dX11_marksKept_55 rfl rfl ?_
        refine g_aload_n (q := 57) dX11_marksKept_56 rfl rfl ?_
        refine g_iload_n (q := 58) dX11_marksKept_57 rfl rfl ?_
        refine g_iload_n (q := 59) dX11_marksKept_58 rfl rfl ?_
        refine g_iload (q := 61) dX11_marksKept_59 rfl rfl ?_
        refine g_callV (q := 64) lX11_364 mX11_marksThatWould nX11_marksThatWould rfl (x_marksThatWould d sh _ S X1 hsti.1 hsti.2 hm.1 (by omega) (by omega) (by omega)) (by first | assumption | exact S.at _ rfl) rfl rfl shLe.rf (rmOk.mk (by omega) (by first | exact shLe.rf | assumption)) (Nat.le_of_ble_eq_true rfl) dX11_marksKept_61 rfl rfl (kI fun r c2 hp2 => ?_)
        obtain ⟨rfl, X2, e2⟩ := hp2
        refine g_iand (q := 65) dX11_marksKept_64 rfl ?_
        rw [andI_bset]
        refine s_istore_n_7_2 (q := 66) dX11_marksKept_65 rfl rfl rfl ?_
        refine tail _ c2 X2 (e.tr e2) (fun k hk => ?_)
        rw [Bool.and_eq_true, hp k hk, split' k]
        exact ⟨fun h => ⟨h.1, fun _ => h.2⟩, fun h => ⟨h.1, h.2 hmi⟩⟩
  · rintro p c ⟨-, X1, e, hp⟩
    have L1 := X1.L
    have e80 : c 80 2 = n := by rw [e 80 (by decide)]; exact hn
    refine g_iload (q := 17) dX11_marksKept_15 rfl rfl ?_
    refine g_aload_n (q := 18) dX11_marksKept_17 rfl rfl ?_
    refine g_getO (q := 21) (kI := 13) fX11_95 (by first | assumption | exact S.at _ rfl) dX11_marksKept_18 rfl rfl (by first | assumption | exact L.at _ _ rfl | exact LK.at (by assumption) _ _ rfl | ((repeat first | rewrite [wr_na (by decide)] | rewrite [wr_nk (by decide)] | rewrite [wa_na (by decide)]); first | assumption | exact LK.at (by assumption) _ _ rfl) | exact rfl) ?_
    refine g_getI (q := 24) (kI := 2) fX11_357 (by first | assumption | exact S.at _ rfl) dX11_marksKept_21 rfl rfl ?_
    refine g_icmp_ge (q := 27) (tg := 88) dX11_marksKept_24 (by decide) rfl (fun c_24 => ?_) (fun c_24 => ?_)
    · refine g_iload_n (q := 89) dX11_marksKept_88 rfl rfl ?_
      refine g_ireturn dX11_marksKept_89 rfl ?_
      rw [← hP]
      exact ⟨_, rfl, ⟨p, rfl, hp⟩, X1, e⟩
    · rw [e80] at c_24
      exact absurd c_24 (Int.lt_irrefl _)
theorem x_kept {t m : Int} (S : SH sh) (X : CX sh ct b β s q N V) (T : TC ct sz bt vl) (ht : i32 t) (hm : i32 m) : Mt YX11_kept (d + 5) [.inr (.inr 0), .inl t, .inl m] sh sh ct (pI fun r c => (∃ tl, told sz vl t tl ∧ ∃ no, keptNo β sz vl t m no ∧ ((no ≠ 0 ∧ r = no) ∨ (no = 0 ∧ isSet 10 (fun k => keptP β tl s.1 m (sz t).toNat k) r))) ∧ CX sh c b β s q N V ∧ kF q ct c) := by
  refine Mt.of rfl (Nat.le_of_ble_eq_true rfl) ?_
  show G _ 0 [some (.inr (.inr 0)), some (.inl t), some (.inl m), none] [] sh ct
  refine g_aload_n (q := 1) dX11_kept_0 rfl rfl ?_
  refine g_iload_n (q := 2) dX11_kept_1 rfl rfl ?_
  refine g_iload_n (q := 3) dX11_kept_2 rfl rfl ?_
  refine g_callV (q := 6) lX11_358 mX11_refusedKept nX11_refusedKept rfl (x_refusedKept d sh _ S X T ht hm) (by first | assumption | exact S.at _ rfl) rfl rfl shLe.rf (rmOk.mk (by omega) (by first | exact shLe.rf | assumption)) (Nat.le_of_ble_eq_true rfl) dX11_kept_3 rfl rfl (kI fun no c1 hp => ?_)
  obtain ⟨hno, hT, X1, f1⟩ := hp
  have hng := hno.rg
  refine s_istore_n_4_3 (q := 7) dX11_kept_6 rfl rfl rfl ?_
  refine g_iload_n (q := 8) dX11_kept_7 rfl rfl ?_
  refine g_if_eq (q := 11) (tg := 15) dX11_kept_8 (by decide) rfl (fun c_8 => ?_) (fun c_8 => ?_)
  · have h0 : no = 0 := by unfold w32 at c_8; omega
    obtain ⟨g1, g2⟩ := hT h0
    have hno' := hno
    rw [h0] at hno'
    obtain ⟨hmb, hrow⟩ := hno'.zero
    obtain ⟨o1, o2, o3⟩ := hrow
    refine g_aload_n (q := 16) dX11_kept_15 rfl rfl ?_
    refine g_iload_n (q := 17) dX11_kept_16 rfl rfl ?_
    refine g_callV (q := 20) lX11_361 mX11_marksKept nX11_marksKept rfl (x_marksKept (d + 1) sh _ S X1 (n := (sz t).toNat) (by omega) (by omega) (fun i hi => by rw [g2 i (by omega)]; exact o3 i (by omega) (by omega)) hmb) (by first | assumption | exact S.at _ rfl) rfl rfl shLe.rf (rmOk.mk (by omega) (by first | exact shLe.rf | assumption)) (Nat.le_of_ble_eq_true rfl) dX11_kept_17 rfl rfl (kI fun r c2 hp2 => ?_)
    obtain ⟨hr, X2, e2⟩ := hp2
    refine g_ireturn dX11_kept_20 rfl ?_
    exact ⟨_, rfl, ⟨c1 81, g2, no, hno, Or.inr ⟨h0, hr⟩⟩, X2, f1.tr e2.k⟩
  · refine g_iload_n (q := 12) dX11_kept_11 rfl rfl ?_
    refine g_goto (q := 20) dX11_kept_12 (by decide) ?_
    refine g_ireturn dX11_kept_20 rfl ?_
    exact ⟨_, rfl, ⟨fun i => vl t i, fun i _ => rfl, no, hno, Or.inl ⟨fun z => c_8 (by rw [z]; rfl), rfl⟩⟩, X1, f1⟩
theorem w_att {st m : Int} {p : Nat → Bool} (i : Nat) : w32 (attL β st m p i) = attL β st m p i := by
  have := attL_in β st m p i
  exact w32_id (by omega) (by omega)
theorem w_kws {st m : Int} {p : Nat → Bool} (i : Nat) : w32 (kwS (attL β st m p) (-1) i).2 = (kwS (attL β st m p) (-1) i).2 := by
  have hkw := kwS_in (L := attL β st m p) (now := -1) ⟨by decide, by decide⟩ i (fun k _ => by have := attL_in β st m p k; omega)
  exact w32_id (by omega) (by omega)
theorem x_attempt {t m : Int} (S : SH sh) (X : CX sh ct b β s q N V) (T : TC ct sz bt vl) (ht : i32 t) (hm : i32 m) : Mt YX11_attempt (d + 5) [.inr (.inr 0), .inl t, .inl m] sh sh ct (pI fun r c => (∃ tl, told sz vl t tl ∧ ∃ no, keptNo β sz vl t m no ∧ ((no ≠ 0 ∧ r = no) ∨ (no = 0 ∧ qAtt β tl s.1 m (sz t).toNat r))) ∧ CX sh c b β s q N V ∧ kF q ct c) := by
  have hb2 := X.2.2.1.2.2.2.2.1
  have hb3 := X.2.2.1.2.2.2.2.2.1
  have hrg := X.2.2.1.1.1
  generalize hP : (pI fun r c => (∃ tl, told sz vl t tl ∧ ∃ no, keptNo β sz vl t m no ∧ ((no ≠ 0 ∧ r = no) ∨ (no = 0 ∧ qAtt β tl s.1 m (sz t).toNat r))) ∧ CX sh c b β s q N V ∧ kF q ct c) = Po
  refine Mt.of rfl (Nat.le_of_ble_eq_true rfl) ?_
  show G _ 0 [some (.inr (.inr 0)), some (.inl t), some (.inl m), none, none, none, none, none, none, none] [] sh ct
  refine g_aload_n (q := 1) dX11_attempt_0 rfl rfl ?_
  refine g_iload_n (q := 2) dX11_attempt_1 rfl rfl ?_
  refine g_iload_n (q := 3) dX11_attempt_2 rfl rfl ?_
  refine g_callV (q := 6) lX11_358 mX11_refusedKept nX11_refusedKept rfl (x_refusedKept d sh _ S X T ht hm) (by first | assumption | exact S.at _ rfl) rfl rfl shLe.rf (rmOk.mk (by omega) (by first | exact shLe.rf | assumption)) (Nat.le_of_ble_eq_true rfl) dX11_attempt_3 rfl rfl (kI fun no c1 hp => ?_)
  obtain ⟨hno, hT, X1, f1⟩ := hp
  have hng := hno.rg
  refine s_istore_n_10_3 (q := 7) dX11_attempt_6 rfl rfl rfl ?_
  refine g_iload_n (q := 8) dX11_attempt_7 rfl rfl ?_
  refine g_if_eq (q := 11) (tg := 13) dX11_attempt_8 (by decide) rfl (fun c_8 => ?_) (fun c_8 => ?_)
  · have h0 : no = 0 := by unfold w32 at c_8; omega
    obtain ⟨g1, g2⟩ := hT h0
    have hno' := hno
    rw [h0] at hno'
    obtain ⟨hmb, hrow⟩ := hno'.zero
    obtain ⟨o1, o2, o3⟩ := hrow
    refine g_aload_n (q := 14) dX11_attempt_13 rfl rfl ?_
    refine g_iload_n (q := 15) dX11_attempt_14 rfl rfl ?_
    refine g_callV (q := 18) lX11_361 mX11_marksKept nX11_marksKept rfl (x_marksKept (d + 1) sh _ S X1 (n := (sz t).toNat) (by omega) (by omega) (fun i hi => by rw [g2 i (by omega)]; exact o3 i (by omega) (by omega)) hmb) (by first | assumption | exact S.at _ rfl) rfl rfl shLe.rf (rmOk.mk (by omega) (by first | exact shLe.rf | assumption)) (Nat.le_of_ble_eq_true rfl) dX11_attempt_15 rfl rfl (kI fun r c2 hp2 => ?_)
    obtain ⟨⟨p, rfl, hp⟩, X2, e2⟩ := hp2
    have hz10 := bset_lt p 10
    have hq10 := cntB_le p 10
    have fin : ∀ v c, CX sh c b β s q N V → kF q ct c → ((bset p 10 = 0 ∧ v = -1) ∨ (bset p 10 ≠ 0 ∧ v = (kwS (attL β s.1 m p) (-1) (β.n 3).toNat).1)) → Po (some (.inl v)) c := by
      intro v c Xc fc h
      rw [← hP]
      exact ⟨_, rfl, ⟨c1 81, g2, no, hno, Or.inr ⟨h0, p, hp, h⟩⟩, Xc, fc⟩
    refine s_istore_10_4 (q := 20) dX11_attempt_18 rfl rfl rfl ?_
    refine g_iconst (q := 21) dX11_attempt_20 rfl ?_
    refine s_istore_10_5 (q := 23) dX11_attempt_21 rfl rfl rfl ?_
    refine g_iconst (q := 24) dX11_attempt_23 rfl ?_
    refine s_istore_10_6 (q := 26) dX11_attempt_24 rfl rfl rfl ?_
    refine g_iload (q := 28) dX11_attempt_26 rfl rfl ?_
    refine g_if_eq (q := 31) (tg := 104) dX11_attempt_28 (by decide) rfl (fun c_28 => ?_) (fun c_28 => ?_)
    · have hz : bset p 10 = 0 := by unfold w32 at c_28; omega
      refine g_iload (q := 106) dX11_attempt_104 rfl rfl ?_
      refine g_ireturn dX11_attempt_106 rfl ?_
      exact fin _ _ X2 (f1.tr e2.k) (Or.inl ⟨hz, rfl⟩)
    · have hz : bset p 10 ≠ 0 := fun z => c_28 (by rw [z]; rfl)
      refine g_iconst (q := 32) dX11_attempt_31 rfl ?_
      refine s_istore_10_7 (q := 34) dX11_attempt_32 rfl rfl rfl ?_
      refine g_for (fun i => [some (.inr (.inr 0)), some (.inl t), some (.inl m), some (.inl no), some (.inl ((bset p 10 : Nat) : Int)), some (.inl (kwS (attL β s.1 m p) (-1) i.toNat).1), some (.inl (kwS (attL β s.1 m p) (-1) i.toNat).2), some (.inl i), none, none]) (fun i c => 0 ≤ i ∧ CX sh c b β s q N V ∧ kF q ct c) (β.n 3) ?_ ?_ (i := 0) (by omega) ⟨by omega, X2, f1.tr e2.k⟩ (by simp [lsSub, kwS])
      · rintro i c hi ⟨i0, X3, f3⟩ kk
        have L3 := X3.L
        have h02 := X3.1
        have sb := (X3.bb S).1
        have hn3 := X3.n 3
        have hst : c 12 0 = s.1 := X3.2.1.1
        have ei : ((i.toNat : Nat) : Int) = i := by omega
        have hw10 := cntB_le (fun k => p k && β.W s.1 m k i) 10
        refine g_iload (q := 36) dX11_attempt_34 rfl rfl ?_
        refine g_aload_n (q := 37) dX11_attempt_36 rfl rfl ?_
        refine g_getO (q := 40) (kI := 2) fX11_20 (by first | assumption | exact S.at _ rfl) dX11_attempt_37 rfl rfl (by first | assumption | exact L.at _ _ rfl | exact LK.at (by assumption) _ _ rfl | ((repeat first | rewrite [wr_na (by decide)] | rewrite [wr_nk (by decide)] | rewrite [wa_na (by decide)]); first | assumption | exact LK.at (by assumption) _ _ rfl) | exact rfl) ?_
        refine g_getI (q := 43) (kI := 3) fX11_313 (by first | assumption | exact S.at _ rfl) dX11_attempt_40 rfl rfl ?_
        refine g_icmp_ge (q := 46) (tg := 104) dX11_attempt_43 (by decide) rfl (fun c_43 => ?_) (fun c_43 => ?_)
        · rw [hn3] at c_43
          exact absurd c_43 (by unfold w32; omega)
        · refine g_iload (q := 48) dX11_attempt_46 rfl rfl ?_
          refine g_aload_n (q := 49) dX11_attempt_48 rfl rfl ?_
          refine g_aload_n (q := 50) dX11_attempt_49 rfl rfl ?_
          refine g_getO (q := 53) (kI := 4) fX11_30 (by first | assumption | exact S.at _ rfl) dX11_attempt_50 rfl rfl (by first | assumption | exact L.at _ _ rfl | exact LK.at (by assumption) _ _ rfl | ((repeat first | rewrite [wr_na (by decide)] | rewrite [wr_nk (by decide)] | rewrite [wa_na (by decide)]); first | assumption | exact LK.at (by assumption) _ _ rfl) | exact rfl) ?_
          refine g_getI (q := 56) (kI := 0) fX11_151 (by first | assumption | exact S.at _ rfl) dX11_attempt_53 rfl rfl ?_
          rw [hst]
          refine g_iload_n (q := 57) dX11_attempt_56 rfl rfl ?_
          refine g_iload (q := 59) dX11_attempt_57 rfl rfl ?_
          refine g_callV (q := 62) lX11_364 mX11_marksThatWould nX11_marksThatWould rfl (x_marksThatWould (d + 2) sh _ S X3 hrg.1 hrg.2 hmb.1 (by omega) i0 (by omega)) (by first | assumption | exact S.at _ rfl) rfl rfl shLe.rf (rmOk.mk (by omega) (by first | exact shLe.rf | assumption)) (Nat.le_of_ble_eq_true rfl) dX11_attempt_59 rfl rfl (kI fun r c4 hp4 => ?_)
          obtain ⟨rfl, X4, e4⟩ := hp4
          refine g_iand (q := 63) dX11_attempt_62 rfl ?_
          rw [andI_bset]
          have hz2 := bset_lt (fun k => p k && β.W s.1 m k i) 10
          refine g_callS (q := 66) lX11_367 mJ6_bitCount_0f7a4 sJ6_bitCount_0f7a4 rfl (c_bitCount (d + 4) sh _ hz2) shLe.rf (rmOk.mk (by omega) (by first | exact shLe.rf | assumption)) (Nat.le_of_ble_eq_true rfl) dX11_attempt_63 rfl rfl (kI fun r_ c_ hp => ?_)
          obtain ⟨hr, hq⟩ := hp
          replace hr := hr.symm
          replace hq := hq.symm
          subst hr hq
          rw [pop_bset]
          refine s_istore_10_8 (q := 68) dX11_attempt_66 rfl rfl rfl ?_
          refine g_iload (q := 70) dX11_attempt_68 rfl rfl ?_
          refine g_iload (q := 72) dX11_attempt_70 rfl rfl ?_
          refine g_callS (q := 75) lX11_367 mJ6_bitCount_0f7a4 sJ6_bitCount_0f7a4 rfl (c_bitCount (d + 4) sh _ hz10) shLe.rf (rmOk.mk (by omega) (by first | exact shLe.rf | assumption)) (Nat.le_of_ble_eq_true rfl) dX11_attempt_72 rfl rfl (kI fun r_ c_ hp => ?_)
          obtain ⟨hr, hq⟩ := hp
          replace hr := hr.symm
          replace hq := hq.symm
          subst hr hq
          rw [pop_bset]
          refine g_iload (q := 77) dX11_attempt_75 rfl rfl ?_
          refine g_isub (q := 78) dX11_attempt_77 rfl ?_
          refine g_mmin (q := 81) lX11_371 tb_mminS tb_mI tb_mminC (rmOk.mk (by omega) (by first | exact shLe.rf | assumption)) (Nat.le_of_ble_eq_true rfl) dX11_attempt_78 rfl ?_
          have hmin : (if w32 (((cntB p 10 : Nat) : Int) - ((cntB (fun k => p k && β.W s.1 m k i) 10 : Nat) : Int)) < w32 ((cntB (fun k => p k && β.W s.1 m k i) 10 : Nat) : Int) then ((cntB p 10 : Nat) : Int) - ((cntB (fun k => p k && β.W s.1 m k i) 10 : Nat) : Int) else ((cntB (fun k => p k && β.W s.1 m k i) 10 : Nat) : Int)) = attL β s.1 m p i.toNat := by
            unfold attL
            rw [ei, w32_id (x := ((cntB (fun k => p k && β.W s.1 m k i) 10 : Nat) : Int)) (by omega) (by omega), w32_id (x := ((cntB p 10 : Nat) : Int) - ((cntB (fun k => p k && β.W s.1 m k i) 10 : Nat) : Int)) (by omega) (by omega)]
            (repeat' split) <;> omega
          rw [hmin]
          have stp : kwS (attL β s.1 m p) (-1) (i + 1).toNat = if attL β s.1 m p i.toNat ≤ (kwS (attL β s.1 m p) (-1) i.toNat).2 then kwS (attL β s.1 m p) (-1) i.toNat else ((i.toNat : Int), attL β s.1 m p i.toNat) := by
            rw [show (i + 1).toNat = i.toNat + 1 by omega]
            rfl
          have wa1 := w_att (β := β) (st := s.1) (m := m) (p := p) i.toNat
          have wa2 := w_kws (β := β) (st := s.1) (m := m) (p := p) i.toNat
          refine s_istore_10_9 (q := 83) dX11_attempt_81 rfl rfl rfl ?_
          refine g_iload (q := 85) dX11_attempt_83 rfl rfl ?_
          refine g_iload (q := 87) dX11_attempt_85 rfl rfl ?_
          refine g_icmp_le (q := 90) (tg := 98) dX11_attempt_87 (by decide) rfl (fun c_87 => ?_) (fun c_87 => ?_)
          · have hle : attL β s.1 m p i.toNat ≤ (kwS (attL β s.1 m p) (-1) i.toNat).2 := by
              rw [wa1, wa2] at c_87
              exact c_87
            rw [if_pos hle] at stp
            refine s_iinc_10_7 (q := 101) dX11_attempt_98 rfl rfl rfl ?_
            refine g_goto (q := 34) dX11_attempt_101 (by decide) ?_
            refine kk _ _ ?_ ⟨by omega, X4, f3.tr e4.k⟩
            rw [stp]
            simp [lsSub]
          · have hgt : ¬ attL β s.1 m p i.toNat ≤ (kwS (attL β s.1 m p) (-1) i.toNat).2 := by
              rw [wa1, wa2] at c_87
              exact Int.not_le.mpr c_87
            rw [if_neg hgt] at stp
            refine g_iload (q := 92) dX11_attempt_90 rfl rfl ?_
            refine s_istore_10_6 (q := 94) dX11_attempt_92 rfl rfl rfl ?_
            refine g_iload (q := 96) dX11_attempt_94 rfl rfl ?_
            refine s_istore_10_5 (q := 98) dX11_attempt_96 rfl rfl rfl ?_
            refine s_iinc_10_7 (q := 101) dX11_attempt_98 rfl rfl rfl ?_
            refine g_goto (q := 34) dX11_attempt_101 (by decide) ?_
            refine kk _ _ ?_ ⟨by omega, X4, f3.tr e4.k⟩
            rw [stp]
            simp [lsSub]
            omega
      · rintro c ⟨-, X3, f3⟩
        have h02 := X3.1
        have sb := (X3.bb S).1
        have hn3 := X3.n 3
        refine g_iload (q := 36) dX11_attempt_34 rfl rfl ?_
        refine g_aload_n (q := 37) dX11_attempt_36 rfl rfl ?_
        refine g_getO (q := 40) (kI := 2) fX11_20 (by first | assumption | exact S.at _ rfl) dX11_attempt_37 rfl rfl (by first | assumption | exact L.at _ _ rfl | exact LK.at (by assumption) _ _ rfl | ((repeat first | rewrite [wr_na (by decide)] | rewrite [wr_nk (by decide)] | rewrite [wa_na (by decide)]); first | assumption | exact LK.at (by assumption) _ _ rfl) | exact rfl) ?_
        refine g_getI (q := 43) (kI := 3) fX11_313 (by first | assumption | exact S.at _ rfl) dX11_attempt_40 rfl rfl ?_
        refine g_icmp_ge (q := 46) (tg := 104) dX11_attempt_43 (by decide) rfl (fun c_43 => ?_) (fun c_43 => ?_)
        · refine g_iload (q := 106) dX11_attempt_104 rfl rfl ?_
          refine g_ireturn dX11_attempt_106 rfl ?_
          exact fin _ _ X3 f3 (Or.inr ⟨hz, rfl⟩)
        · rw [hn3] at c_43
          exact absurd c_43 (Int.lt_irrefl _)
  · refine g_iload_n (q := 12) dX11_attempt_11 rfl rfl ?_
    refine g_ireturn dX11_attempt_12 rfl ?_
    rw [← hP]
    exact ⟨_, rfl, ⟨fun i => vl t i, fun i _ => rfl, no, hno, Or.inl ⟨fun z => c_8 (by rw [z]; rfl), rfl⟩⟩, X1, f1⟩
end
