/-! MinuteBook: count, fault, feed -/
theorem dX11_count_0 : decode cX11_count 0 = .ok (.iload_n 1, 1) := by decide +kernel
theorem dX11_count_1 : decode cX11_count 1 = .ok (.tableswitch 157 0 9 #[55, 66, 77, 107, 115, 123, 131, 136, 144, 149], 55) := by decide +kernel
theorem dX11_count_56 : decode cX11_count 56 = .ok (.aload_n 0, 1) := by decide +kernel
theorem dX11_count_57 : decode cX11_count 57 = .ok (.getfield 30, 3) := by decide +kernel
theorem dX11_count_60 : decode cX11_count 60 = .ok (.getfield 151, 3) := by decide +kernel
theorem dX11_count_63 : decode cX11_count 63 = .ok (.invokestatic 297, 3) := by decide +kernel
theorem dX11_count_66 : decode cX11_count 66 = .ok (.ireturn, 1) := by decide +kernel
theorem dX11_count_67 : decode cX11_count 67 = .ok (.aload_n 0, 1) := by decide +kernel
theorem dX11_count_68 : decode cX11_count 68 = .ok (.getfield 30, 3) := by decide +kernel
theorem dX11_count_71 : decode cX11_count 71 = .ok (.getfield 151, 3) := by decide +kernel
theorem dX11_count_74 : decode cX11_count 74 = .ok (.invokestatic 306, 3) := by decide +kernel
theorem dX11_count_77 : decode cX11_count 77 = .ok (.ireturn, 1) := by decide +kernel
theorem dX11_count_78 : decode cX11_count 78 = .ok (.aload_n 0, 1) := by decide +kernel
theorem dX11_count_79 : decode cX11_count 79 = .ok (.getfield 30, 3) := by decide +kernel
theorem dX11_count_82 : decode cX11_count 82 = .ok (.getfield 151, 3) := by decide +kernel
theorem dX11_count_85 : decode cX11_count 85 = .ok (.invokestatic 154, 3) := by decide +kernel
theorem dX11_count_88 : decode cX11_count 88 = .ok (.bipush 6, 2) := by decide +kernel
theorem dX11_count_90 : decode cX11_count 90 = .ok (.if_icmp .ne 7, 3) := by decide +kernel
theorem dX11_count_93 : decode cX11_count 93 = .ok (.iconst (-1), 1) := by decide +kernel
theorem dX11_count_94 : decode cX11_count 94 = .ok (.goto 13, 3) := by decide +kernel
theorem dX11_count_97 : decode cX11_count 97 = .ok (.aload_n 0, 1) := by decide +kernel
theorem dX11_count_98 : decode cX11_count 98 = .ok (.getfield 30, 3) := by decide +kernel
theorem dX11_count_101 : decode cX11_count 101 = .ok (.getfield 151, 3) := by decide +kernel
theorem dX11_count_104 : decode cX11_count 104 = .ok (.invokestatic 154, 3) := by decide +kernel
theorem dX11_count_107 : decode cX11_count 107 = .ok (.ireturn, 1) := by decide +kernel
theorem dX11_count_108 : decode cX11_count 108 = .ok (.aload_n 0, 1) := by decide +kernel
theorem dX11_count_109 : decode cX11_count 109 = .ok (.getfield 20, 3) := by decide +kernel
theorem dX11_count_112 : decode cX11_count 112 = .ok (.getfield 284, 3) := by decide +kernel
theorem dX11_count_115 : decode cX11_count 115 = .ok (.ireturn, 1) := by decide +kernel
theorem dX11_count_116 : decode cX11_count 116 = .ok (.aload_n 0, 1) := by decide +kernel
theorem dX11_count_117 : decode cX11_count 117 = .ok (.getfield 20, 3) := by decide +kernel
theorem dX11_count_120 : decode cX11_count 120 = .ok (.getfield 313, 3) := by decide +kernel
theorem dX11_count_123 : decode cX11_count 123 = .ok (.ireturn, 1) := by decide +kernel
theorem dX11_count_124 : decode cX11_count 124 = .ok (.aload_n 0, 1) := by decide +kernel
theorem dX11_count_125 : decode cX11_count 125 = .ok (.getfield 30, 3) := by decide +kernel
theorem dX11_count_128 : decode cX11_count 128 = .ok (.getfield 201, 3) := by decide +kernel
theorem dX11_count_131 : decode cX11_count 131 = .ok (.ireturn, 1) := by decide +kernel
theorem dX11_count_132 : decode cX11_count 132 = .ok (.aload_n 0, 1) := by decide +kernel
theorem dX11_count_133 : decode cX11_count 133 = .ok (.invokevirtual 430, 3) := by decide +kernel
theorem dX11_count_136 : decode cX11_count 136 = .ok (.ireturn, 1) := by decide +kernel
theorem dX11_count_137 : decode cX11_count 137 = .ok (.aload_n 0, 1) := by decide +kernel
theorem dX11_count_138 : decode cX11_count 138 = .ok (.getfield 40, 3) := by decide +kernel
theorem dX11_count_141 : decode cX11_count 141 = .ok (.getfield 207, 3) := by decide +kernel
theorem dX11_count_144 : decode cX11_count 144 = .ok (.ireturn, 1) := by decide +kernel
theorem dX11_count_145 : decode cX11_count 145 = .ok (.aload_n 0, 1) := by decide +kernel
theorem dX11_count_146 : decode cX11_count 146 = .ok (.getfield 13, 3) := by decide +kernel
theorem dX11_count_149 : decode cX11_count 149 = .ok (.ireturn, 1) := by decide +kernel
theorem dX11_count_150 : decode cX11_count 150 = .ok (.aload_n 0, 1) := by decide +kernel
theorem dX11_count_151 : decode cX11_count 151 = .ok (.getfield 20, 3) := by decide +kernel
theorem dX11_count_154 : decode cX11_count 154 = .ok (.getfield 129, 3) := by decide +kernel
theorem dX11_count_157 : decode cX11_count 157 = .ok (.ireturn, 1) := by decide +kernel
theorem dX11_count_158 : decode cX11_count 158 = .ok (.iconst (-1), 1) := by decide +kernel
theorem dX11_count_159 : decode cX11_count 159 = .ok (.ireturn, 1) := by decide +kernel
theorem dX11_marksTogether_0 : decode cX11_marksTogether 0 = .ok (.iconst 0, 1) := by decide +kernel
theorem dX11_marksTogether_1 : decode cX11_marksTogether 1 = .ok (.istore_n 1, 1) := by decide +kernel
theorem dX11_marksTogether_2 : decode cX11_marksTogether 2 = .ok (.iconst 0, 1) := by decide +kernel
theorem dX11_marksTogether_3 : decode cX11_marksTogether 3 = .ok (.istore_n 2, 1) := by decide +kernel
theorem dX11_marksTogether_4 : decode cX11_marksTogether 4 = .ok (.iload_n 2, 1) := by decide +kernel
theorem dX11_marksTogether_5 : decode cX11_marksTogether 5 = .ok (.aload_n 0, 1) := by decide +kernel
theorem dX11_marksTogether_6 : decode cX11_marksTogether 6 = .ok (.getfield 20, 3) := by decide +kernel
theorem dX11_marksTogether_9 : decode cX11_marksTogether 9 = .ok (.getfield 284, 3) := by decide +kernel
theorem dX11_marksTogether_12 : decode cX11_marksTogether 12 = .ok (.if_icmp .ge 21, 3) := by decide +kernel
theorem dX11_marksTogether_15 : decode cX11_marksTogether 15 = .ok (.iload_n 1, 1) := by decide +kernel
theorem dX11_marksTogether_16 : decode cX11_marksTogether 16 = .ok (.aload_n 0, 1) := by decide +kernel
theorem dX11_marksTogether_17 : decode cX11_marksTogether 17 = .ok (.getfield 30, 3) := by decide +kernel
theorem dX11_marksTogether_20 : decode cX11_marksTogether 20 = .ok (.getfield 139, 3) := by decide +kernel
theorem dX11_marksTogether_23 : decode cX11_marksTogether 23 = .ok (.iload_n 2, 1) := by decide +kernel
theorem dX11_marksTogether_24 : decode cX11_marksTogether 24 = .ok (.iaload, 1) := by decide +kernel
theorem dX11_marksTogether_25 : decode cX11_marksTogether 25 = .ok (.iadd, 1) := by decide +kernel
theorem dX11_marksTogether_26 : decode cX11_marksTogether 26 = .ok (.istore_n 1, 1) := by decide +kernel
theorem dX11_marksTogether_27 : decode cX11_marksTogether 27 = .ok (.iinc 2 1, 3) := by decide +kernel
theorem dX11_marksTogether_30 : decode cX11_marksTogether 30 = .ok (.goto (-26), 3) := by decide +kernel
theorem dX11_marksTogether_33 : decode cX11_marksTogether 33 = .ok (.iload_n 1, 1) := by decide +kernel
theorem dX11_marksTogether_34 : decode cX11_marksTogether 34 = .ok (.ireturn, 1) := by decide +kernel
theorem dX11_feed_0 : decode cX11_feed 0 = .ok (.aload_n 0, 1) := by decide +kernel
theorem dX11_feed_1 : decode cX11_feed 1 = .ok (.getfield 13, 3) := by decide +kernel
theorem dX11_feed_4 : decode cX11_feed 4 = .ok (.bipush 20, 2) := by decide +kernel
theorem dX11_feed_6 : decode cX11_feed 6 = .ok (.iadd, 1) := by decide +kernel
theorem dX11_feed_7 : decode cX11_feed 7 = .ok (.sipush 900, 3) := by decide +kernel
theorem dX11_feed_10 : decode cX11_feed 10 = .ok (.if_icmp .le 6, 3) := by decide +kernel
theorem dX11_feed_13 : decode cX11_feed 13 = .ok (.bipush (-5), 2) := by decide +kernel
theorem dX11_feed_15 : decode cX11_feed 15 = .ok (.ireturn, 1) := by decide +kernel
theorem dX11_feed_16 : decode cX11_feed 16 = .ok (.aload_n 0, 1) := by decide +kernel
theorem dX11_feed_17 : decode cX11_feed 17 = .ok (.iload_n 1, 1) := by decide +kernel
theorem dX11_feed_18 : decode cX11_feed 18 = .ok (.invokevirtual 108, 3) := by decide +kernel
theorem dX11_feed_21 : decode cX11_feed 21 = .ok (.aload_n 0, 1) := by decide +kernel
theorem dX11_feed_22 : decode cX11_feed 22 = .ok (.iload_n 2, 1) := by decide +kernel
theorem dX11_feed_23 : decode cX11_feed 23 = .ok (.invokevirtual 108, 3) := by decide +kernel
theorem dX11_feed_26 : decode cX11_feed 26 = .ok (.aload_n 0, 1) := by decide +kernel
theorem dX11_feed_27 : decode cX11_feed 27 = .ok (.iload_n 3, 1) := by decide +kernel
theorem dX11_feed_28 : decode cX11_feed 28 = .ok (.invokevirtual 108, 3) := by decide +kernel
theorem dX11_feed_31 : decode cX11_feed 31 = .ok (.aload_n 0, 1) := by decide +kernel
theorem dX11_feed_32 : decode cX11_feed 32 = .ok (.iload 4, 2) := by decide +kernel
theorem dX11_feed_34 : decode cX11_feed 34 = .ok (.invokevirtual 108, 3) := by decide +kernel
theorem dX11_feed_37 : decode cX11_feed 37 = .ok (.aload_n 0, 1) := by decide +kernel
theorem dX11_feed_38 : decode cX11_feed 38 = .ok (.iload 5, 2) := by decide +kernel
theorem dX11_feed_40 : decode cX11_feed 40 = .ok (.invokevirtual 108, 3) := by decide +kernel
theorem dX11_feed_43 : decode cX11_feed 43 = .ok (.aload_n 0, 1) := by decide +kernel
theorem dX11_feed_44 : decode cX11_feed 44 = .ok (.getfield 13, 3) := by decide +kernel
theorem dX11_feed_47 : decode cX11_feed 47 = .ok (.ireturn, 1) := by decide +kernel
theorem dX11_tapeInt_0 : decode cX11_tapeInt 0 = .ok (.bipush 24, 2) := by decide +kernel
theorem dX11_tapeInt_2 : decode cX11_tapeInt 2 = .ok (.istore_n 2, 1) := by decide +kernel
theorem dX11_tapeInt_3 : decode cX11_tapeInt 3 = .ok (.iload_n 2, 1) := by decide +kernel
theorem dX11_tapeInt_4 : decode cX11_tapeInt 4 = .ok (.ifCond .lt 42, 3) := by decide +kernel
theorem dX11_tapeInt_7 : decode cX11_tapeInt 7 = .ok (.aload_n 0, 1) := by decide +kernel
theorem dX11_tapeInt_8 : decode cX11_tapeInt 8 = .ok (.getfield 13, 3) := by decide +kernel
theorem dX11_tapeInt_11 : decode cX11_tapeInt 11 = .ok (.sipush 900, 3) := by decide +kernel
theorem dX11_tapeInt_14 : decode cX11_tapeInt 14 = .ok (.if_icmp .ge 26, 3) := by decide +kernel
theorem dX11_tapeInt_17 : decode cX11_tapeInt 17 = .ok (.aload_n 0, 1) := by decide +kernel
theorem dX11_tapeInt_18 : decode cX11_tapeInt 18 = .ok (.getfield 9, 3) := by decide +kernel
theorem dX11_tapeInt_21 : decode cX11_tapeInt 21 = .ok (.aload_n 0, 1) := by decide +kernel
theorem dX11_tapeInt_22 : decode cX11_tapeInt 22 = .ok (.getfield 13, 3) := by decide +kernel
theorem dX11_tapeInt_25 : decode cX11_tapeInt 25 = .ok (.iload_n 1, 1) := by decide +kernel
theorem dX11_tapeInt_26 : decode cX11_tapeInt 26 = .ok (.iload_n 2, 1) := by decide +kernel
theorem dX11_tapeInt_27 : decode cX11_tapeInt 27 = .ok (.ishr, 1) := by decide +kernel
theorem dX11_tapeInt_28 : decode cX11_tapeInt 28 = .ok (.i2b, 1) := by decide +kernel
theorem dX11_tapeInt_29 : decode cX11_tapeInt 29 = .ok (.bastore, 1) := by decide +kernel
theorem dX11_tapeInt_30 : decode cX11_tapeInt 30 = .ok (.aload_n 0, 1) := by decide +kernel
theorem dX11_tapeInt_31 : decode cX11_tapeInt 31 = .ok (.dup, 1) := by decide +kernel
theorem dX11_tapeInt_32 : decode cX11_tapeInt 32 = .ok (.getfield 13, 3) := by decide +kernel
theorem dX11_tapeInt_35 : decode cX11_tapeInt 35 = .ok (.iconst 1, 1) := by decide +kernel
theorem dX11_tapeInt_36 : decode cX11_tapeInt 36 = .ok (.iadd, 1) := by decide +kernel
theorem dX11_tapeInt_37 : decode cX11_tapeInt 37 = .ok (.putfield 13, 3) := by decide +kernel
theorem dX11_tapeInt_40 : decode cX11_tapeInt 40 = .ok (.iinc 2 (-8), 3) := by decide +kernel
theorem dX11_tapeInt_43 : decode cX11_tapeInt 43 = .ok (.goto (-40), 3) := by decide +kernel
theorem dX11_tapeInt_46 : decode cX11_tapeInt 46 = .ok (.return_, 1) := by decide +kernel
theorem dX11_fault_0 : decode cX11_fault 0 = .ok (.iload_n 1, 1) := by decide +kernel
theorem dX11_fault_1 : decode cX11_fault 1 = .ok (.lookupswitch 43 #[(0, 27), (1, 35)], 27) := by decide +kernel
theorem dX11_fault_28 : decode cX11_fault 28 = .ok (.aload_n 0, 1) := by decide +kernel
theorem dX11_fault_29 : decode cX11_fault 29 = .ok (.getfield 63, 3) := by decide +kernel
theorem dX11_fault_32 : decode cX11_fault 32 = .ok (.getfield 116, 3) := by decide +kernel
theorem dX11_fault_35 : decode cX11_fault 35 = .ok (.ireturn, 1) := by decide +kernel
theorem dX11_fault_36 : decode cX11_fault 36 = .ok (.aload_n 0, 1) := by decide +kernel
theorem dX11_fault_37 : decode cX11_fault 37 = .ok (.getfield 63, 3) := by decide +kernel
theorem dX11_fault_40 : decode cX11_fault 40 = .ok (.getfield 132, 3) := by decide +kernel
theorem dX11_fault_43 : decode cX11_fault 43 = .ok (.ireturn, 1) := by decide +kernel
theorem dX11_fault_44 : decode cX11_fault 44 = .ok (.iconst (-1), 1) := by decide +kernel
theorem dX11_fault_45 : decode cX11_fault 45 = .ok (.ireturn, 1) := by decide +kernel
section
variable (d : Nat) (sh : mbSh) (ct : mbCt) {b : Int} {β : Bk} {s z : Sit} {q : Int} {N : Nat} {V n : Int} {pl : Int → Sit}
theorem x_marksTogether (S : SH sh) (X : CX sh ct b β s q N V) : Mt YX11_marksTogether d [.inr (.inr 0)] sh sh ct (pI fun r c => r = sm s.2.2 (β.n 2).toNat ∧ c = ct) := by
  have L := X.L
  have h02 := X.1
  have sb := (X.bb S).1
  have hn2 := X.n 2
  have hb2 := X.2.2.1.2.2.2.2.1
  have s13 : shA sh 13 = some (20, 6) := S.at _ rfl
  refine Mt.of rfl (Nat.le_of_ble_eq_true rfl) ?_
  show G _ 0 [some (.inr (.inr 0)), none, none] [] sh ct
  refine g_iconst (q := 1) dX11_marksTogether_0 rfl ?_
  refine s_istore_n_3_1 (q := 2) dX11_marksTogether_1 rfl rfl rfl ?_
  refine g_iconst (q := 3) dX11_marksTogether_2 rfl ?_
  refine s_istore_n_3_2 (q := 4) dX11_marksTogether_3 rfl rfl rfl ?_
  refine g_for (fun k => [some (.inr (.inr 0)), some (.inl (sm s.2.2 k.toNat)), some (.inl k)]) (fun k c => 0 ≤ k ∧ c = ct) (β.n 2) ?_ ?_ (i := 0) (by omega) ⟨by omega, rfl⟩ (by simp [lsSub]; rfl)
  · rintro k c hk ⟨k0, hc⟩ kk
    subst hc
    have ek : ((k.toNat : Nat) : Int) = k := by omega
    have hmk : c 13 k = s.2.2 k := X.2.1.2.2 k k0 (by omega)
    refine g_iload_n (q := 5) dX11_marksTogether_4 rfl rfl ?_
    refine g_aload_n (q := 6) dX11_marksTogether_5 rfl rfl ?_
    refine g_getO (q := 9) (kI := 2) fX11_20 (by first | assumption | exact S.at _ rfl) dX11_marksTogether_6 rfl rfl (by first | assumption | exact L.at _ _ rfl | exact LK.at (by assumption) _ _ rfl | ((repeat first | rewrite [wr_na (by decide)] | rewrite [wr_nk (by decide)] | rewrite [wa_na (by decide)]); first | assumption | exact LK.at (by assumption) _ _ rfl) | exact rfl) ?_
    refine g_getI (q := 12) (kI := 2) fX11_284 (by first | assumption | exact S.at _ rfl) dX11_marksTogether_9 rfl rfl ?_
    refine g_icmp_ge (q := 15) (tg := 33) dX11_marksTogether_12 (by decide) rfl (fun c_12 => ?_) (fun c_12 => ?_)
    · rw [hn2] at c_12
      exact absurd c_12 (by unfold w32; omega)
    · refine g_iload_n (q := 16) dX11_marksTogether_15 rfl rfl ?_
      refine g_aload_n (q := 17) dX11_marksTogether_16 rfl rfl ?_
      refine g_getO (q := 20) (kI := 4) fX11_30 (by first | assumption | exact S.at _ rfl) dX11_marksTogether_17 rfl rfl (by first | assumption | exact L.at _ _ rfl | exact LK.at (by assumption) _ _ rfl | ((repeat first | rewrite [wr_na (by decide)] | rewrite [wr_nk (by decide)] | rewrite [wa_na (by decide)]); first | assumption | exact LK.at (by assumption) _ _ rfl) | exact rfl) ?_
      refine g_getA (q := 23) (kI := 2) fX11_139 (by first | assumption | exact S.at _ rfl) dX11_marksTogether_20 rfl rfl (by first | assumption | exact L.at _ _ rfl | exact LK.at (by assumption) _ _ rfl | ((repeat first | rewrite [wr_na (by decide)] | rewrite [wr_nk (by decide)] | rewrite [wa_na (by decide)]); first | assumption | exact LK.at (by assumption) _ _ rfl) | exact rfl) ?_
      refine g_iload_n (q := 24) dX11_marksTogether_23 rfl rfl ?_
      refine g_iaload (q := 25) (by first | assumption | exact S.at _ rfl) (by omega) (by omega) (by omega) dX11_marksTogether_24 rfl ?_
      rw [hmk]
      refine g_iadd (q := 26) dX11_marksTogether_25 rfl ?_
      refine s_istore_n_3_1 (q := 27) dX11_marksTogether_26 rfl rfl rfl ?_
      refine s_iinc_3_2 (q := 30) dX11_marksTogether_27 rfl rfl rfl ?_
      refine g_goto (q := 4) dX11_marksTogether_30 (by decide) ?_
      refine kk _ _ ?_ ⟨by omega, rfl⟩
      rw [show (k + 1).toNat = k.toNat + 1 by omega]
      simp only [sm, ek]
      simp [lsSub]
  · rintro c ⟨-, hc⟩
    subst hc
    refine g_iload_n (q := 5) dX11_marksTogether_4 rfl rfl ?_
    refine g_aload_n (q := 6) dX11_marksTogether_5 rfl rfl ?_
    refine g_getO (q := 9) (kI := 2) fX11_20 (by first | assumption | exact S.at _ rfl) dX11_marksTogether_6 rfl rfl (by first | assumption | exact L.at _ _ rfl | exact LK.at (by assumption) _ _ rfl | ((repeat first | rewrite [wr_na (by decide)] | rewrite [wr_nk (by decide)] | rewrite [wa_na (by decide)]); first | assumption | exact LK.at (by assumption) _ _ rfl) | exact rfl) ?_
    refine g_getI (q := 12) (kI := 2) fX11_284 (by first | assumption | exact S.at _ rfl) dX11_marksTogether_9 rfl rfl ?_
    refine g_icmp_ge (q := 15) (tg := 33) dX11_marksTogether_12 (by decide) rfl (fun c_12 => ?_) (fun c_12 => ?_)
    · refine g_iload_n (q := 34) dX11_marksTogether_33 rfl rfl ?_
      refine g_ireturn dX11_marksTogether_34 rfl ?_
      exact ⟨_, rfl, rfl, rfl⟩
    · rw [hn2] at c_12
      exact absurd c_12 (Int.lt_irrefl _)
theorem x_count {w tn : Int} (S : SH sh) (C : CP sh ct b β s n pl q N V) (hw : i32 w) (h1 : ct 0 1 = tn) : Mt YX11_count (d + 1) [.inr (.inr 0), .inl w] sh sh ct (pI fun r c => r = cntV2 β s n tn w ∧ c = ct) := by
  obtain ⟨X, P⟩ := C
  have L := X.L
  have h02 := X.1
  have sb := (X.bb S).1
  have hrg := X.2.2.1.1.1
  have hst : ct 12 0 = s.1 := X.2.1.1
  have hsd : ct 12 1 = s.2.1 := X.2.1.2.1
  have p2 := P.2.1
  unfold i32 at hw
  refine Mt.of rfl (Nat.le_of_ble_eq_true rfl) ?_
  show G _ 0 [some (.inr (.inr 0)), some (.inl w)] [] sh ct
  refine g_iload_n (q := 1) dX11_count_0 rfl rfl ?_
  rcases (show w = 0 ∨ w = 1 ∨ w = 2 ∨ w = 3 ∨ w = 4 ∨ w = 5 ∨ w = 6 ∨ w = 7 ∨ w = 8 ∨ w = 9 ∨ (w < 0 ∨ 9 < w) by omega) with rfl | rfl | rfl | rfl | rfl | rfl | rfl | rfl | rfl | rfl | hw2
  · refine g_tabIn (q := 56) dX11_count_1 0 rfl (by decide) (by decide) rfl (by decide) ?_
    refine g_aload_n (q := 57) dX11_count_56 rfl rfl ?_
    refine g_getO (q := 60) (kI := 4) fX11_30 (by first | assumption | exact S.at _ rfl) dX11_count_57 rfl rfl (by first | assumption | exact L.at _ _ rfl | exact LK.at (by assumption) _ _ rfl | ((repeat first | rewrite [wr_na (by decide)] | rewrite [wr_nk (by decide)] | rewrite [wa_na (by decide)]); first | assumption | exact LK.at (by assumption) _ _ rfl) | exact rfl) ?_
    refine g_getI (q := 63) (kI := 0) fX11_151 (by first | assumption | exact S.at _ rfl) dX11_count_60 rfl rfl ?_
    rw [hst]
    refine g_callS (q := 66) lX11_297 mX11_toneOf sX11_toneOf rfl (c_toneOf d sh _ hrg.1 (by omega)) shLe.rf (rmOk.mk (by omega) (by first | exact shLe.rf | assumption)) (Nat.le_of_ble_eq_true rfl) dX11_count_63 rfl rfl (kI fun r_ c_ hp => ?_)
    obtain ⟨hr, hq⟩ := hp
    replace hr := hr.symm
    replace hq := hq.symm
    subst hr hq
    refine g_ireturn dX11_count_66 rfl ?_
    exact ⟨_, rfl, rfl, rfl⟩
  · refine g_tabIn (q := 67) dX11_count_1 1 rfl (by decide) (by decide) rfl (by decide) ?_
    refine g_aload_n (q := 68) dX11_count_67 rfl rfl ?_
    refine g_getO (q := 71) (kI := 4) fX11_30 (by first | assumption | exact S.at _ rfl) dX11_count_68 rfl rfl (by first | assumption | exact L.at _ _ rfl | exact LK.at (by assumption) _ _ rfl | ((repeat first | rewrite [wr_na (by decide)] | rewrite [wr_nk (by decide)] | rewrite [wa_na (by decide)]); first | assumption | exact LK.at (by assumption) _ _ rfl) | exact rfl) ?_
    refine g_getI (q := 74) (kI := 0) fX11_151 (by first | assumption | exact S.at _ rfl) dX11_count_71 rfl rfl ?_
    rw [hst]
    refine g_callS (q := 77) lX11_306 mX11_heatOf sX11_heatOf rfl (c_heatOf d sh _ hrg.1 (by omega)) shLe.rf (rmOk.mk (by omega) (by first | exact shLe.rf | assumption)) (Nat.le_of_ble_eq_true rfl) dX11_count_74 rfl rfl (kI fun r_ c_ hp => ?_)
    obtain ⟨hr, hq⟩ := hp
    replace hr := hr.symm
    replace hq := hq.symm
    subst hr hq
    refine g_ireturn dX11_count_77 rfl ?_
    exact ⟨_, rfl, rfl, rfl⟩
  · refine g_tabIn (q := 78) dX11_count_1 2 rfl (by decide) (by decide) rfl (by decide) ?_
    refine g_aload_n (q := 79) dX11_count_78 rfl rfl ?_
    refine g_getO (q := 82) (kI := 4) fX11_30 (by first | assumption | exact S.at _ rfl) dX11_count_79 rfl rfl (by first | assumption | exact L.at _ _ rfl | exact LK.at (by assumption) _ _ rfl | ((repeat first | rewrite [wr_na (by decide)] | rewrite [wr_nk (by decide)] | rewrite [wa_na (by decide)]); first | assumption | exact LK.at (by assumption) _ _ rfl) | exact rfl) ?_
    refine g_getI (q := 85) (kI := 0) fX11_151 (by first | assumption | exact S.at _ rfl) dX11_count_82 rfl rfl ?_
    rw [hst]
    refine g_callS (q := 88) lX11_154 mX11_lastOf sX11_lastOf rfl (c_lastOf d sh _ hrg.1 (by omega)) shLe.rf (rmOk.mk (by omega) (by first | exact shLe.rf | assumption)) (Nat.le_of_ble_eq_true rfl) dX11_count_85 rfl rfl (kI fun r_ c_ hp => ?_)
    obtain ⟨hr, hq⟩ := hp
    replace hr := hr.symm
    replace hq := hq.symm
    subst hr hq
    refine g_bipush (q := 90) dX11_count_88 (by decide +kernel) rfl ?_
    refine g_icmp_ne (q := 93) (tg := 97) dX11_count_90 (by decide) rfl (fun c_90 => ?_) (fun c_90 => ?_)
    · refine g_aload_n (q := 98) dX11_count_97 rfl rfl ?_
      refine g_getO (q := 101) (kI := 4) fX11_30 (by first | assumption | exact S.at _ rfl) dX11_count_98 rfl rfl (by first | assumption | exact L.at _ _ rfl | exact LK.at (by assumption) _ _ rfl | ((repeat first | rewrite [wr_na (by decide)] | rewrite [wr_nk (by decide)] | rewrite [wa_na (by decide)]); first | assumption | exact LK.at (by assumption) _ _ rfl) | exact rfl) ?_
      refine g_getI (q := 104) (kI := 0) fX11_151 (by first | assumption | exact S.at _ rfl) dX11_count_101 rfl rfl ?_
      rw [hst]
      refine g_callS (q := 107) lX11_154 mX11_lastOf sX11_lastOf rfl (c_lastOf d sh _ hrg.1 (by omega)) shLe.rf (rmOk.mk (by omega) (by first | exact shLe.rf | assumption)) (Nat.le_of_ble_eq_true rfl) dX11_count_104 rfl rfl (kI fun r_ c_ hp => ?_)
      obtain ⟨hr, hq⟩ := hp
      replace hr := hr.symm
      replace hq := hq.symm
      subst hr hq
      refine g_ireturn dX11_count_107 rfl ?_
      refine ⟨_, rfl, ?_, rfl⟩
      show s.1 % 7 = (if s.1 % 7 = 6 then -1 else s.1 % 7)
      rw [if_neg (fun z => c_90 (by rw [z]))]
    · refine g_iconst (q := 94) dX11_count_93 rfl ?_
      refine g_goto (q := 107) dX11_count_94 (by decide) ?_
      refine g_ireturn dX11_count_107 rfl ?_
      refine ⟨_, rfl, ?_, rfl⟩
      show -1 = (if s.1 % 7 = 6 then -1 else s.1 % 7)
      rw [if_pos (by unfold w32 at c_90; omega)]
  · refine g_tabIn (q := 108) dX11_count_1 3 rfl (by decide) (by decide) rfl (by decide) ?_
    refine g_aload_n (q := 109) dX11_count_108 rfl rfl ?_
    refine g_getO (q := 112) (kI := 2) fX11_20 (by first | assumption | exact S.at _ rfl) dX11_count_109 rfl rfl (by first | assumption | exact L.at _ _ rfl | exact LK.at (by assumption) _ _ rfl | ((repeat first | rewrite [wr_na (by decide)] | rewrite [wr_nk (by decide)] | rewrite [wa_na (by decide)]); first | assumption | exact LK.at (by assumption) _ _ rfl) | exact rfl) ?_
    refine g_getI (q := 115) (kI := 2) fX11_284 (by first | assumption | exact S.at _ rfl) dX11_count_112 rfl rfl ?_
    refine g_ireturn dX11_count_115 rfl ?_
    exact ⟨_, rfl, X.n 2, rfl⟩
  · refine g_tabIn (q := 116) dX11_count_1 4 rfl (by decide) (by decide) rfl (by decide) ?_
    refine g_aload_n (q := 117) dX11_count_116 rfl rfl ?_
    refine g_getO (q := 120) (kI := 2) fX11_20 (by first | assumption | exact S.at _ rfl) dX11_count_117 rfl rfl (by first | assumption | exact L.at _ _ rfl | exact LK.at (by assumption) _ _ rfl | ((repeat first | rewrite [wr_na (by decide)] | rewrite [wr_nk (by decide)] | rewrite [wa_na (by decide)]); first | assumption | exact LK.at (by assumption) _ _ rfl) | exact rfl) ?_
    refine g_getI (q := 123) (kI := 3) fX11_313 (by first | assumption | exact S.at _ rfl) dX11_count_120 rfl rfl ?_
    refine g_ireturn dX11_count_123 rfl ?_
    exact ⟨_, rfl, X.n 3, rfl⟩
  · refine g_tabIn (q := 124) dX11_count_1 5 rfl (by decide) (by decide) rfl (by decide) ?_
    refine g_aload_n (q := 125) dX11_count_124 rfl rfl ?_
    refine g_getO (q := 128) (kI := 4) fX11_30 (by first | assumption | exact S.at _ rfl) dX11_count_125 rfl rfl (by first | assumption | exact L.at _ _ rfl | exact LK.at (by assumption) _ _ rfl | ((repeat first | rewrite [wr_na (by decide)] | rewrite [wr_nk (by decide)] | rewrite [wa_na (by decide)]); first | assumption | exact LK.at (by assumption) _ _ rfl) | exact rfl) ?_
    refine g_getI (q := 131) (kI := 1) fX11_201 (by first | assumption | exact S.at _ rfl) dX11_count_128 rfl rfl ?_
    refine g_ireturn dX11_count_131 rfl ?_
    exact ⟨_, rfl, hsd, rfl⟩
  · refine g_tabIn (q := 132) dX11_count_1 6 rfl (by decide) (by decide) rfl (by decide) ?_
    refine g_aload_n (q := 133) dX11_count_132 rfl rfl ?_
    refine g_callV (q := 136) lX11_430 mX11_marksTogether nX11_marksTogether rfl (x_marksTogether d sh _ S X) (by first | assumption | exact S.at _ rfl) rfl rfl shLe.rf (rmOk.mk (by omega) (by first | exact shLe.rf | assumption)) (Nat.le_of_ble_eq_true rfl) dX11_count_133 rfl rfl (kI fun r_ c_ hp => ?_)
    obtain ⟨hr, hq⟩ := hp
    replace hr := hr.symm
    replace hq := hq.symm
    subst hr hq
    refine g_ireturn dX11_count_136 rfl ?_
    exact ⟨_, rfl, rfl, rfl⟩
  · refine g_tabIn (q := 137) dX11_count_1 7 rfl (by decide) (by decide) rfl (by decide) ?_
    refine g_aload_n (q := 138) dX11_count_137 rfl rfl ?_
    refine g_getO (q := 141) (kI := 6) fX11_40 (by first | assumption | exact S.at _ rfl) dX11_count_138 rfl rfl (by first | assumption | exact L.at _ _ rfl | exact LK.at (by assumption) _ _ rfl | ((repeat first | rewrite [wr_na (by decide)] | rewrite [wr_nk (by decide)] | rewrite [wa_na (by decide)]); first | assumption | exact LK.at (by assumption) _ _ rfl) | exact rfl) ?_
    refine g_getI (q := 144) (kI := 2) fX11_207 (by first | assumption | exact S.at _ rfl) dX11_count_141 rfl rfl ?_
    refine g_ireturn dX11_count_144 rfl ?_
    exact ⟨_, rfl, p2, rfl⟩
  · refine g_tabIn (q := 145) dX11_count_1 8 rfl (by decide) (by decide) rfl (by decide) ?_
    refine g_aload_n (q := 146) dX11_count_145 rfl rfl ?_
    refine g_getI (q := 149) (kI := 1) fX11_13 (by first | assumption | exact S.at _ rfl) dX11_count_146 rfl rfl ?_
    refine g_ireturn dX11_count_149 rfl ?_
    exact ⟨_, rfl, h1, rfl⟩
  · refine g_tabIn (q := 150) dX11_count_1 9 rfl (by decide) (by decide) rfl (by decide) ?_
    refine g_aload_n (q := 151) dX11_count_150 rfl rfl ?_
    refine g_getO (q := 154) (kI := 2) fX11_20 (by first | assumption | exact S.at _ rfl) dX11_count_151 rfl rfl (by first | assumption | exact L.at _ _ rfl | exact LK.at (by assumption) _ _ rfl | ((repeat first | rewrite [wr_na (by decide)] | rewrite [wr_nk (by decide)] | rewrite [wa_na (by decide)]); first | assumption | exact LK.at (by assumption) _ _ rfl) | exact rfl) ?_
    refine g_getI (q := 157) (kI := 5) fX11_129 (by first | assumption | exact S.at _ rfl) dX11_count_154 rfl rfl ?_
    refine g_ireturn dX11_count_157 rfl ?_
    exact ⟨_, rfl, X.n 5, rfl⟩
  · refine g_tabOut (q := 158) dX11_count_1 (by rw [w32_id hw.1 hw.2]; exact hw2) (by decide) ?_
    refine g_iconst (q := 159) dX11_count_158 rfl ?_
    refine g_ireturn dX11_count_159 rfl ?_
    refine ⟨_, rfl, ?_, rfl⟩
    unfold cntV2
    (repeat rw [if_neg (by omega)])
theorem x_fault {w : Int} (S : SH sh) (L : LK ct) (hw : i32 w) : Mt YX11_fault d [.inr (.inr 0), .inl w] sh sh ct (pI fun r c => r = (if w = 0 then ct 64 0 else if w = 1 then ct 64 1 else -1) ∧ c = ct) := by
  unfold i32 at hw
  have ww := w32_id hw.1 hw.2
  refine Mt.of rfl (Nat.le_of_ble_eq_true rfl) ?_
  show G _ 0 [some (.inr (.inr 0)), some (.inl w)] [] sh ct
  refine g_iload_n (q := 1) dX11_fault_0 rfl rfl ?_
  by_cases h0 : w = 0
  · refine g_look (q := 28) dX11_fault_1 rfl (by rw [ww, h0]) (by decide) ?_
    refine g_aload_n (q := 29) dX11_fault_28 rfl rfl ?_
    refine g_getO (q := 32) (kI := 9) fX11_63 (by first | assumption | exact S.at _ rfl) dX11_fault_29 rfl rfl (by first | assumption | exact L.at _ _ rfl | exact LK.at (by assumption) _ _ rfl | ((repeat first | rewrite [wr_na (by decide)] | rewrite [wr_nk (by decide)] | rewrite [wa_na (by decide)]); first | assumption | exact LK.at (by assumption) _ _ rfl) | exact rfl) ?_
    refine g_getI (q := 35) (kI := 0) fX11_116 (by first | assumption | exact S.at _ rfl) dX11_fault_32 rfl rfl ?_
    refine g_ireturn dX11_fault_35 rfl ?_
    exact ⟨_, rfl, by rw [if_pos h0], rfl⟩
  · by_cases h1 : w = 1
    · refine g_look (q := 36) dX11_fault_1 rfl (by rw [ww, h1]) (by decide) ?_
      refine g_aload_n (q := 37) dX11_fault_36 rfl rfl ?_
      refine g_getO (q := 40) (kI := 9) fX11_63 (by first | assumption | exact S.at _ rfl) dX11_fault_37 rfl rfl (by first | assumption | exact L.at _ _ rfl | exact LK.at (by assumption) _ _ rfl | ((repeat first | rewrite [wr_na (by decide)] | rewrite [wr_nk (by decide)] | rewrite [wa_na (by decide)]); first | assumption | exact LK.at (by assumption) _ _ rfl) | exact rfl) ?_
      refine g_getI (q := 43) (kI := 1) fX11_132 (by first | assumption | exact S.at _ rfl) dX11_fault_40 rfl rfl ?_
      refine g_ireturn dX11_fault_43 rfl ?_
      exact ⟨_, rfl, by rw [if_neg h0, if_pos h1], rfl⟩
    · refine g_look (q := 44) dX11_fault_1 (off := 43) rfl (by rw [ww]; show (if (0 : Int) = w then (27 : Int) else if (1 : Int) = w then 35 else 43) = 43; rw [if_neg (fun z => h0 z.symm), if_neg (fun z => h1 z.symm)]) (by decide) ?_
      refine g_iconst (q := 45) dX11_fault_44 rfl ?_
      refine g_ireturn dX11_fault_45 rfl ?_
      exact ⟨_, rfl, by rw [if_neg h0, if_neg h1], rfl⟩
theorem x_tapeInt {a tn : Int} (S : SH sh) (L : LK ct) (h1 : ct 0 1 = tn) (t0 : 0 ≤ tn) (t1 : tn + 4 ≤ 900) : Mt YX11_tapeInt d [.inr (.inr 0), .inl a] sh sh ct (pN fun c => c 0 1 = tn + 4 ∧ (∀ k, 0 ≤ k → k < 4 → c 1 (tn + k) = w8 (shrI a (24 - 8 * k))) ∧ (∀ j, j < tn → c 1 j = ct 1 j) ∧ (∀ k, k ≠ 1 → c 0 k = ct 0 k) ∧ eqBut [0, 1] ct c) := by
  have s1 : shA sh 1 = some (22, 900) := S.at _ rfl
  generalize hP : (pN fun c => c 0 1 = tn + 4 ∧ (∀ k, 0 ≤ k → k < 4 → c 1 (tn + k) = w8 (shrI a (24 - 8 * k))) ∧ (∀ j, j < tn → c 1 j = ct 1 j) ∧ (∀ k, k ≠ 1 → c 0 k = ct 0 k) ∧ eqBut [0, 1] ct c) = Po
  refine Mt.of rfl (Nat.le_of_ble_eq_true rfl) ?_
  show G _ 0 [some (.inr (.inr 0)), some (.inl a), none] [] sh ct
  refine g_bipush (q := 2) dX11_tapeInt_0 (by decide +kernel) rfl ?_
  refine s_istore_n_3_2 (q := 3) dX11_tapeInt_2 rfl rfl rfl ?_
  refine g_for (fun k => [some (.inr (.inr 0)), some (.inl a), some (.inl (24 - 8 * k))]) (fun k c => 0 ≤ k ∧ c 0 1 = tn + k ∧ (∀ j, 0 ≤ j → j < k → c 1 (tn + j) = w8 (shrI a (24 - 8 * j))) ∧ (∀ j, j < tn → c 1 j = ct 1 j) ∧ (∀ k, k ≠ 1 → c 0 k = ct 0 k) ∧ eqBut [0, 1] ct c) 4 ?_ ?_ (i := 0) (by omega) ⟨by omega, by rw [h1, Int.add_zero], fun j _ _ => by omega, fun j _ => rfl, fun k hk => rfl, eqBut.rf⟩ (by simp [lsSub])
  · rintro k c hk ⟨k0, i5, i1, i2, i3, i4⟩ kk
    have L1 : c 0 0 = 1 := by rw [i3 0 (by decide)]; exact L.at _ _ rfl
    refine g_iload_n (q := 4) dX11_tapeInt_3 rfl rfl ?_
    refine g_if_lt (q := 7) (tg := 46) dX11_tapeInt_4 (by decide) rfl (fun c_4 => ?_) (fun c_4 => ?_)
    · exact absurd c_4 (by unfold w32; omega)
    · refine g_aload_n (q := 8) dX11_tapeInt_7 rfl rfl ?_
      refine g_getI (q := 11) (kI := 1) fX11_13 (by first | assumption | exact S.at _ rfl) dX11_tapeInt_8 rfl rfl ?_
      rw [i5]
      refine g_sipush (q := 14) dX11_tapeInt_11 (by decide +kernel) rfl ?_
      refine g_icmp_ge (q := 17) (tg := 40) dX11_tapeInt_14 (by decide) rfl (fun c_14 => ?_) (fun c_14 => ?_)
      · exact absurd c_14 (by unfold w32; omega)
      · refine g_aload_n (q := 18) dX11_tapeInt_17 rfl rfl ?_
        refine g_getA (q := 21) (kI := 0) fX11_9 (by first | assumption | exact S.at _ rfl) dX11_tapeInt_18 rfl rfl (by first | assumption | exact L.at _ _ rfl | exact LK.at (by assumption) _ _ rfl | ((repeat first | rewrite [wr_na (by decide)] | rewrite [wr_nk (by decide)] | rewrite [wa_na (by decide)]); first | assumption | exact LK.at (by assumption) _ _ rfl) | exact rfl) ?_
        refine g_aload_n (q := 22) dX11_tapeInt_21 rfl rfl ?_
        refine g_getI (q := 25) (kI := 1) fX11_13 (by first | assumption | exact S.at _ rfl) dX11_tapeInt_22 rfl rfl ?_
        rw [i5]
        refine g_iload_n (q := 26) dX11_tapeInt_25 rfl rfl ?_
        refine g_iload_n (q := 27) dX11_tapeInt_26 rfl rfl ?_
        refine g_ishr (q := 28) dX11_tapeInt_27 rfl ?_
        refine g_i2b (q := 29) dX11_tapeInt_28 rfl ?_
        refine g_bastore (q := 30) (by first | assumption | exact S.at _ rfl) (by omega) (by omega) (by omega) dX11_tapeInt_29 rfl ?_
        refine g_aload_n (q := 31) dX11_tapeInt_30 rfl rfl ?_
        refine g_dup (q := 32) dX11_tapeInt_31 rfl rfl ?_
        refine g_getI (q := 35) (kI := 1) fX11_13 (by first | assumption | exact S.at _ rfl) dX11_tapeInt_32 rfl rfl ?_
        have hq : ∀ z, wr c 1 (tn + k) z 0 1 = tn + k := fun z => by rw [wr_na (by decide)]; exact i5
        rw [hq]
        refine g_iconst (q := 36) dX11_tapeInt_35 rfl ?_
        refine g_iadd (q := 37) dX11_tapeInt_36 rfl ?_
        refine g_putI (q := 40) (kI := 1) fX11_13 (by first | assumption | exact S.at _ rfl) dX11_tapeInt_37 rfl rfl ?_
        refine s_iinc_3_2 (q := 43) dX11_tapeInt_40 rfl rfl rfl ?_
        refine g_goto (q := 3) dX11_tapeInt_43 (by decide) ?_
        refine kk _ _ (by simp [lsSub]; omega) ⟨by omega, by rw [wr_eq]; omega, fun j j0 j1 => ?_, fun j hj => ?_, fun j a => ?_, (i4.wr (by decide)).wr (by decide)⟩
        · rw [wr_na (by decide)]
          by_cases hjk : j = k
          · subst hjk
            rw [wr_eq]
            first | rfl | (unfold w8; omega)
          · rw [wr_nk (by omega)]
            exact i1 j j0 (by omega)
        · rw [wr_na (by decide), wr_nk (by omega)]
          exact i2 j hj
        · rw [wr_nk a, wr_na (by decide)]
          exact i3 j a
  · rintro c ⟨-, i5, i1, i2, i3, i4⟩
    refine g_iload_n (q := 4) dX11_tapeInt_3 rfl rfl ?_
    refine g_if_lt (q := 7) (tg := 46) dX11_tapeInt_4 (by decide) rfl (fun c_4 => ?_) (fun c_4 => ?_)
    · refine g_return dX11_tapeInt_46 rfl ?_
      rw [← hP]
      exact ⟨rfl, i5, i1, i2, i3, i4⟩
    · exact absurd (show w32 (24 - 8 * 4) < 0 by decide) (by omega)
end
