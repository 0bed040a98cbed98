/-! MinuteBook: the shortest minutes -/
def SB (c : mbCt) (β : Bk) (s : Sit) (q : Int) (N : Nat) (tone use cap : Int) (M : Nat) (r : Int) : Prop := r = c 77 5 ∧ WD c q N β s.2.2 ∧ c 77 7 = s.1 ∧ c 77 8 = tone ∧ U9 c = (use % 18446744073709551616).toNat ∧ c 77 10 = cap ∧ c 77 11 = wM M
theorem SB.way {c : mbCt} {β : Bk} {s : Sit} {q : Int} {N : Nat} {tone use cap qu un r : Int} {M : Nat} (h : SB c β s q N tone use cap M r) (hU : useOk (use % 18446744073709551616).toNat qu un) : wyS β s.2.2 s.1 qu un cap tone M r := by
  obtain ⟨h1, h2, h3, h4, h5, h6, h7⟩ := h
  have := h2.len
  rw [h3, h4, h5, h6, h7, scW_use hU (useN_ok qu un)] at this
  rw [h1]
  exact this
theorem SB.lt {c : mbCt} {β : Bk} {s : Sit} {q : Int} {N : Nat} {tone use cap r : Int} {M : Nat} (h : SB c β s q N tone use cap M r) (hN : N ≤ 19201) : -1 ≤ r ∧ r ≤ 19201 := by
  obtain ⟨h1, ⟨n, f, a1, a2, a3, B, a5, a6⟩, -⟩ := h
  rcases a6 with ⟨b1, b2, b3, b4⟩ | ⟨b1, b2, b3⟩
  · have : ∀ j, dep (prQ c q) j ≤ j := by
      intro j
      induction j using Nat.strongRecOn with
      | ind j ih =>
        unfold dep
        split
        · rename_i hh
          have := ih _ hh.2
          omega
        · omega
    have := this f
    omega
  · omega
theorem use_all : useOk ((281474976710655 : Int) % 18446744073709551616).toNat (-1) (-1) := by
  intro i hi
  have h : ∀ i : Fin 48, (281474976710655 : Nat).testBit i.val = true := by decide +kernel
  have e : ((281474976710655 : Int) % 18446744073709551616).toNat = 281474976710655 := rfl
  rw [e, h ⟨i, hi⟩]
  simp
  omega
theorem use_mem {m : Int} (h0 : 0 ≤ m) (h1 : m < 6) : useOk (xorL (shlL 255 (8 * m)) (-1) % 18446744073709551616).toNat m (-1) := by
  intro i hi
  have h : ∀ (m : Fin 6) (i : Fin 48), ((xorL (shlL 255 (8 * (m.val : Int))) (-1)) % 18446744073709551616).toNat.testBit i.val = decide (i.val / 8 ≠ m.val) := by decide +kernel
  have := h ⟨m.toNat, by omega⟩ ⟨i, hi⟩
  have e : ((m.toNat : Nat) : Int) = m := by omega
  simp only [e] at this
  rw [this, decide_eq_true_eq]
  omega
theorem use_say {y : Int} (h0 : 0 ≤ y) (h1 : y < 8) : useOk (xorL (shlL 1103823438081 y) (-1) % 18446744073709551616).toNat (-1) y := by
  intro i hi
  have h : ∀ (y : Fin 8) (i : Fin 48), ((xorL (shlL 1103823438081 (y.val : Int)) (-1)) % 18446744073709551616).toNat.testBit i.val = decide (i.val % 8 ≠ y.val) := by decide +kernel
  have := h ⟨y.toNat, by omega⟩ ⟨i, hi⟩
  have e : ((y.toNat : Nat) : Int) = y := by omega
  simp only [e] at this
  rw [this, decide_eq_true_eq]
  omega
theorem ndM_0 : ndM 0 = 700 := by decide +kernel
theorem kF.tr {q : Int} {a b c : mbCt} (h : kF q a b) (h2 : kF q b c) : kF q a c := eqBq.tr h h2
theorem kF.rf {q : Int} {a : mbCt} : kF q a a := eqBq.rf
theorem dX11_isMember_0 : decode cX11_isMember 0 = .ok (.iload_n 1, 1) := by decide +kernel
theorem dX11_isMember_1 : decode cX11_isMember 1 = .ok (.ifCond .lt 18, 3) := by decide +kernel
theorem dX11_isMember_4 : decode cX11_isMember 4 = .ok (.iload_n 1, 1) := by decide +kernel
theorem dX11_isMember_5 : decode cX11_isMember 5 = .ok (.aload_n 0, 1) := by decide +kernel
theorem dX11_isMember_6 : decode cX11_isMember 6 = .ok (.getfield 20, 3) := by decide +kernel
theorem dX11_isMember_9 : decode cX11_isMember 9 = .ok (.getfield 284, 3) := by decide +kernel
theorem dX11_isMember_12 : decode cX11_isMember 12 = .ok (.if_icmp .ge 7, 3) := by decide +kernel
theorem dX11_isMember_15 : decode cX11_isMember 15 = .ok (.iconst 1, 1) := by decide +kernel
theorem dX11_isMember_16 : decode cX11_isMember 16 = .ok (.goto 4, 3) := by decide +kernel
theorem dX11_isMember_19 : decode cX11_isMember 19 = .ok (.iconst 0, 1) := by decide +kernel
theorem dX11_isMember_20 : decode cX11_isMember 20 = .ok (.ireturn, 1) := by decide +kernel
theorem dX11_isSaying_0 : decode cX11_isSaying 0 = .ok (.iload_n 1, 1) := by decide +kernel
theorem dX11_isSaying_1 : decode cX11_isSaying 1 = .ok (.ifCond .lt 18, 3) := by decide +kernel
theorem dX11_isSaying_4 : decode cX11_isSaying 4 = .ok (.iload_n 1, 1) := by decide +kernel
theorem dX11_isSaying_5 : decode cX11_isSaying 5 = .ok (.aload_n 0, 1) := by decide +kernel
theorem dX11_isSaying_6 : decode cX11_isSaying 6 = .ok (.getfield 20, 3) := by decide +kernel
theorem dX11_isSaying_9 : decode cX11_isSaying 9 = .ok (.getfield 313, 3) := by decide +kernel
theorem dX11_isSaying_12 : decode cX11_isSaying 12 = .ok (.if_icmp .ge 7, 3) := by decide +kernel
theorem dX11_isSaying_15 : decode cX11_isSaying 15 = .ok (.iconst 1, 1) := by decide +kernel
theorem dX11_isSaying_16 : decode cX11_isSaying 16 = .ok (.goto 4, 3) := by decide +kernel
theorem dX11_isSaying_19 : decode cX11_isSaying 19 = .ok (.iconst 0, 1) := by decide +kernel
theorem dX11_isSaying_20 : decode cX11_isSaying 20 = .ok (.ireturn, 1) := by decide +kernel
theorem dX11_shortestBy_0 : decode cX11_shortestBy 0 = .ok (.aload_n 0, 1) := by decide +kernel
theorem dX11_shortestBy_1 : decode cX11_shortestBy 1 = .ok (.getfield 79, 3) := by decide +kernel
theorem dX11_shortestBy_4 : decode cX11_shortestBy 4 = .ok (.aload_n 0, 1) := by decide +kernel
theorem dX11_shortestBy_5 : decode cX11_shortestBy 5 = .ok (.getfield 30, 3) := by decide +kernel
theorem dX11_shortestBy_8 : decode cX11_shortestBy 8 = .ok (.getfield 139, 3) := by decide +kernel
theorem dX11_shortestBy_11 : decode cX11_shortestBy 11 = .ok (.invokevirtual 273, 3) := by decide +kernel
theorem dX11_shortestBy_14 : decode cX11_shortestBy 14 = .ok (.aload_n 0, 1) := by decide +kernel
theorem dX11_shortestBy_15 : decode cX11_shortestBy 15 = .ok (.getfield 88, 3) := by decide +kernel
theorem dX11_shortestBy_18 : decode cX11_shortestBy 18 = .ok (.aload_n 0, 1) := by decide +kernel
theorem dX11_shortestBy_19 : decode cX11_shortestBy 19 = .ok (.getfield 30, 3) := by decide +kernel
theorem dX11_shortestBy_22 : decode cX11_shortestBy 22 = .ok (.getfield 151, 3) := by decide +kernel
theorem dX11_shortestBy_25 : decode cX11_shortestBy 25 = .ok (.iload_n 1, 1) := by decide +kernel
theorem dX11_shortestBy_26 : decode cX11_shortestBy 26 = .ok (.lload_n 2, 1) := by decide +kernel
theorem dX11_shortestBy_27 : decode cX11_shortestBy 27 = .ok (.bipush 9, 2) := by decide +kernel
theorem dX11_shortestBy_29 : decode cX11_shortestBy 29 = .ok (.iconst 0, 1) := by decide +kernel
theorem dX11_shortestBy_30 : decode cX11_shortestBy 30 = .ok (.invokevirtual 309, 3) := by decide +kernel
theorem dX11_shortestBy_33 : decode cX11_shortestBy 33 = .ok (.ireturn, 1) := by decide +kernel
theorem dX11_shortest_0 : decode cX11_shortest 0 = .ok (.iload_n 1, 1) := by decide +kernel
theorem dX11_shortest_1 : decode cX11_shortest 1 = .ok (.invokestatic 252, 3) := by decide +kernel
theorem dX11_shortest_4 : decode cX11_shortest 4 = .ok (.ifCond .eq 14, 3) := by decide +kernel
theorem dX11_shortest_7 : decode cX11_shortest 7 = .ok (.aload_n 0, 1) := by decide +kernel
theorem dX11_shortest_8 : decode cX11_shortest 8 = .ok (.iload_n 1, 1) := by decide +kernel
theorem dX11_shortest_9 : decode cX11_shortest 9 = .ok (.ldc2_w 255, 3) := by decide +kernel
theorem dX11_shortest_12 : decode cX11_shortest 12 = .ok (.invokevirtual 257, 3) := by decide +kernel
theorem dX11_shortest_15 : decode cX11_shortest 15 = .ok (.goto 5, 3) := by decide +kernel
theorem dX11_shortest_18 : decode cX11_shortest 18 = .ok (.bipush (-3), 2) := by decide +kernel
theorem dX11_shortest_20 : decode cX11_shortest 20 = .ok (.ireturn, 1) := by decide +kernel
theorem dX11_minute_0 : decode cX11_minute 0 = .ok (.iload_n 1, 1) := by decide +kernel
theorem dX11_minute_1 : decode cX11_minute 1 = .ok (.invokestatic 252, 3) := by decide +kernel
theorem dX11_minute_4 : decode cX11_minute 4 = .ok (.ifCond .eq 7, 3) := by decide +kernel
theorem dX11_minute_7 : decode cX11_minute 7 = .ok (.iload_n 2, 1) := by decide +kernel
theorem dX11_minute_8 : decode cX11_minute 8 = .ok (.ifCond .ge 6, 3) := by decide +kernel
theorem dX11_minute_11 : decode cX11_minute 11 = .ok (.bipush (-3), 2) := by decide +kernel
theorem dX11_minute_13 : decode cX11_minute 13 = .ok (.ireturn, 1) := by decide +kernel
theorem dX11_minute_14 : decode cX11_minute 14 = .ok (.aload_n 0, 1) := by decide +kernel
theorem dX11_minute_15 : decode cX11_minute 15 = .ok (.iload_n 1, 1) := by decide +kernel
theorem dX11_minute_16 : decode cX11_minute 16 = .ok (.ldc2_w 255, 3) := by decide +kernel
theorem dX11_minute_19 : decode cX11_minute 19 = .ok (.invokevirtual 257, 3) := by decide +kernel
theorem dX11_minute_22 : decode cX11_minute 22 = .ok (.pop, 1) := by decide +kernel
theorem dX11_minute_23 : decode cX11_minute 23 = .ok (.aload_n 0, 1) := by decide +kernel
theorem dX11_minute_24 : decode cX11_minute 24 = .ok (.getfield 88, 3) := by decide +kernel
theorem dX11_minute_27 : decode cX11_minute 27 = .ok (.iload_n 2, 1) := by decide +kernel
theorem dX11_minute_28 : decode cX11_minute 28 = .ok (.invokevirtual 261, 3) := by decide +kernel
theorem dX11_minute_31 : decode cX11_minute 31 = .ok (.ireturn, 1) := by decide +kernel
theorem dX11_memberBits_0 : decode cX11_memberBits 0 = .ok (.ldc2_w 442, 3) := by decide +kernel
theorem dX11_memberBits_3 : decode cX11_memberBits 3 = .ok (.bipush 8, 2) := by decide +kernel
theorem dX11_memberBits_5 : decode cX11_memberBits 5 = .ok (.iload_n 0, 1) := by decide +kernel
theorem dX11_memberBits_6 : decode cX11_memberBits 6 = .ok (.imul, 1) := by decide +kernel
theorem dX11_memberBits_7 : decode cX11_memberBits 7 = .ok (.lshl, 1) := by decide +kernel
theorem dX11_memberBits_8 : decode cX11_memberBits 8 = .ok (.lreturn, 1) := by decide +kernel
theorem dX11_sayingBits_0 : decode cX11_sayingBits 0 = .ok (.ldc2_w 444, 3) := by decide +kernel
theorem dX11_sayingBits_3 : decode cX11_sayingBits 3 = .ok (.iload_n 0, 1) := by decide +kernel
theorem dX11_sayingBits_4 : decode cX11_sayingBits 4 = .ok (.lshl, 1) := by decide +kernel
theorem dX11_sayingBits_5 : decode cX11_sayingBits 5 = .ok (.lreturn, 1) := by decide +kernel
theorem dX11_without_0 : decode cX11_without 0 = .ok (.aload_n 0, 1) := by decide +kernel
theorem dX11_without_1 : decode cX11_without 1 = .ok (.iload_n 1, 1) := by decide +kernel
theorem dX11_without_2 : decode cX11_without 2 = .ok (.invokevirtual 135, 3) := by decide +kernel
theorem dX11_without_5 : decode cX11_without 5 = .ok (.ifCond .ne 6, 3) := by decide +kernel
theorem dX11_without_8 : decode cX11_without 8 = .ok (.bipush (-2), 2) := by decide +kernel
theorem dX11_without_10 : decode cX11_without 10 = .ok (.ireturn, 1) := by decide +kernel
theorem dX11_without_11 : decode cX11_without 11 = .ok (.iload_n 2, 1) := by decide +kernel
theorem dX11_without_12 : decode cX11_without 12 = .ok (.invokestatic 252, 3) := by decide +kernel
theorem dX11_without_15 : decode cX11_without 15 = .ok (.ifCond .eq 19, 3) := by decide +kernel
theorem dX11_without_18 : decode cX11_without 18 = .ok (.aload_n 0, 1) := by decide +kernel
theorem dX11_without_19 : decode cX11_without 19 = .ok (.iload_n 2, 1) := by decide +kernel
theorem dX11_without_20 : decode cX11_without 20 = .ok (.iload_n 1, 1) := by decide +kernel
theorem dX11_without_21 : decode cX11_without 21 = .ok (.invokestatic 281, 3) := by decide +kernel
theorem dX11_without_24 : decode cX11_without 24 = .ok (.ldc2_w 240, 3) := by decide +kernel
theorem dX11_without_27 : decode cX11_without 27 = .ok (.lxor, 1) := by decide +kernel
theorem dX11_without_28 : decode cX11_without 28 = .ok (.invokevirtual 257, 3) := by decide +kernel
theorem dX11_without_31 : decode cX11_without 31 = .ok (.goto 5, 3) := by decide +kernel
theorem dX11_without_34 : decode cX11_without 34 = .ok (.bipush (-3), 2) := by decide +kernel
theorem dX11_without_36 : decode cX11_without 36 = .ok (.ireturn, 1) := by decide +kernel
theorem dX11_needed_0 : decode cX11_needed 0 = .ok (.iload_n 1, 1) := by decide +kernel
theorem dX11_needed_1 : decode cX11_needed 1 = .ok (.invokestatic 252, 3) := by decide +kernel
theorem dX11_needed_4 : decode cX11_needed 4 = .ok (.ifCond .ne 6, 3) := by decide +kernel
theorem dX11_needed_7 : decode cX11_needed 7 = .ok (.bipush (-3), 2) := by decide +kernel
theorem dX11_needed_9 : decode cX11_needed 9 = .ok (.ireturn, 1) := by decide +kernel
theorem dX11_needed_10 : decode cX11_needed 10 = .ok (.iconst 0, 1) := by decide +kernel
theorem dX11_needed_11 : decode cX11_needed 11 = .ok (.istore_n 2, 1) := by decide +kernel
theorem dX11_needed_12 : decode cX11_needed 12 = .ok (.aload_n 0, 1) := by decide +kernel
theorem dX11_needed_13 : decode cX11_needed 13 = .ok (.iload_n 1, 1) := by decide +kernel
theorem dX11_needed_14 : decode cX11_needed 14 = .ok (.ldc2_w 255, 3) := by decide +kernel
theorem dX11_needed_17 : decode cX11_needed 17 = .ok (.invokevirtual 257, 3) := by decide +kernel
theorem dX11_needed_20 : decode cX11_needed 20 = .ok (.iconst (-1), 1) := by decide +kernel
theorem dX11_needed_21 : decode cX11_needed 21 = .ok (.if_icmp .eq 45, 3) := by decide +kernel
theorem dX11_needed_24 : decode cX11_needed 24 = .ok (.iconst 0, 1) := by decide +kernel
theorem dX11_needed_25 : decode cX11_needed 25 = .ok (.istore_n 3, 1) := by decide +kernel
theorem dX11_needed_26 : decode cX11_needed 26 = .ok (.iload_n 3, 1) := by decide +kernel
theorem dX11_needed_27 : decode cX11_needed 27 = .ok (.aload_n 0, 1) := by decide +kernel
theorem dX11_needed_28 : decode cX11_needed 28 = .ok (.getfield 20, 3) := by decide +kernel
theorem dX11_needed_31 : decode cX11_needed 31 = .ok (.getfield 284, 3) := by decide +kernel
theorem dX11_needed_34 : decode cX11_needed 34 = .ok (.if_icmp .ge 32, 3) := by decide +kernel
theorem dX11_needed_37 : decode cX11_needed 37 = .ok (.aload_n 0, 1) := by decide +kernel
theorem dX11_needed_38 : decode cX11_needed 38 = .ok (.iload_n 1, 1) := by decide +kernel
theorem dX11_needed_39 : decode cX11_needed 39 = .ok (.iload_n 3, 1) := by decide +kernel
theorem dX11_needed_40 : decode cX11_needed 40 = .ok (.invokestatic 281, 3) := by decide +kernel
theorem dX11_needed_43 : decode cX11_needed 43 = .ok (.ldc2_w 240, 3) := by decide +kernel
theorem dX11_needed_46 : decode cX11_needed 46 = .ok (.lxor, 1) := by decide +kernel
theorem dX11_needed_47 : decode cX11_needed 47 = .ok (.invokevirtual 257, 3) := by decide +kernel
theorem dX11_needed_50 : decode cX11_needed 50 = .ok (.iconst (-1), 1) := by decide +kernel
theorem dX11_needed_51 : decode cX11_needed 51 = .ok (.if_icmp .ne 9, 3) := by decide +kernel
theorem dX11_needed_54 : decode cX11_needed 54 = .ok (.iload_n 2, 1) := by decide +kernel
theorem dX11_needed_55 : decode cX11_needed 55 = .ok (.iconst 1, 1) := by decide +kernel
theorem dX11_needed_56 : decode cX11_needed 56 = .ok (.iload_n 3, 1) := by decide +kernel
theorem dX11_needed_57 : decode cX11_needed 57 = .ok (.ishl, 1) := by decide +kernel
theorem dX11_needed_58 : decode cX11_needed 58 = .ok (.ior, 1) := by decide +kernel
theorem dX11_needed_59 : decode cX11_needed 59 = .ok (.istore_n 2, 1) := by decide +kernel
theorem dX11_needed_60 : decode cX11_needed 60 = .ok (.iinc 3 1, 3) := by decide +kernel
theorem dX11_needed_63 : decode cX11_needed 63 = .ok (.goto (-37), 3) := by decide +kernel
theorem dX11_needed_66 : decode cX11_needed 66 = .ok (.iload_n 2, 1) := by decide +kernel
theorem dX11_needed_67 : decode cX11_needed 67 = .ok (.ireturn, 1) := by decide +kernel
theorem dX11_closed_0 : decode cX11_closed 0 = .ok (.aload_n 0, 1) := by decide +kernel
theorem dX11_closed_1 : decode cX11_closed 1 = .ok (.getfield 79, 3) := by decide +kernel
theorem dX11_closed_4 : decode cX11_closed 4 = .ok (.aload_n 0, 1) := by decide +kernel
theorem dX11_closed_5 : decode cX11_closed 5 = .ok (.getfield 30, 3) := by decide +kernel
theorem dX11_closed_8 : decode cX11_closed 8 = .ok (.getfield 151, 3) := by decide +kernel
theorem dX11_closed_11 : decode cX11_closed 11 = .ok (.invokevirtual 176, 3) := by decide +kernel
theorem dX11_closed_14 : decode cX11_closed 14 = .ok (.ifCond .eq 7, 3) := by decide +kernel
theorem dX11_closed_17 : decode cX11_closed 17 = .ok (.iconst 1, 1) := by decide +kernel
theorem dX11_closed_18 : decode cX11_closed 18 = .ok (.goto 4, 3) := by decide +kernel
theorem dX11_closed_21 : decode cX11_closed 21 = .ok (.iconst 0, 1) := by decide +kernel
theorem dX11_closed_22 : decode cX11_closed 22 = .ok (.ireturn, 1) := by decide +kernel
theorem dX11_exploreAll_0 : decode cX11_exploreAll 0 = .ok (.aload_n 0, 1) := by decide +kernel
theorem dX11_exploreAll_1 : decode cX11_exploreAll 1 = .ok (.getfield 79, 3) := by decide +kernel
theorem dX11_exploreAll_4 : decode cX11_exploreAll 4 = .ok (.aload_n 0, 1) := by decide +kernel
theorem dX11_exploreAll_5 : decode cX11_exploreAll 5 = .ok (.getfield 30, 3) := by decide +kernel
theorem dX11_exploreAll_8 : decode cX11_exploreAll 8 = .ok (.getfield 139, 3) := by decide +kernel
theorem dX11_exploreAll_11 : decode cX11_exploreAll 11 = .ok (.invokevirtual 273, 3) := by decide +kernel
theorem dX11_exploreAll_14 : decode cX11_exploreAll 14 = .ok (.aload_n 0, 1) := by decide +kernel
theorem dX11_exploreAll_15 : decode cX11_exploreAll 15 = .ok (.getfield 88, 3) := by decide +kernel
theorem dX11_exploreAll_18 : decode cX11_exploreAll 18 = .ok (.aload_n 0, 1) := by decide +kernel
theorem dX11_exploreAll_19 : decode cX11_exploreAll 19 = .ok (.getfield 30, 3) := by decide +kernel
theorem dX11_exploreAll_22 : decode cX11_exploreAll 22 = .ok (.getfield 151, 3) := by decide +kernel
theorem dX11_exploreAll_25 : decode cX11_exploreAll 25 = .ok (.bipush 10, 2) := by decide +kernel
theorem dX11_exploreAll_27 : decode cX11_exploreAll 27 = .ok (.ldc2_w 255, 3) := by decide +kernel
theorem dX11_exploreAll_30 : decode cX11_exploreAll 30 = .ok (.bipush 9, 2) := by decide +kernel
theorem dX11_exploreAll_32 : decode cX11_exploreAll 32 = .ok (.iconst 0, 1) := by decide +kernel
theorem dX11_exploreAll_33 : decode cX11_exploreAll 33 = .ok (.invokevirtual 309, 3) := by decide +kernel
theorem dX11_exploreAll_36 : decode cX11_exploreAll 36 = .ok (.pop, 1) := by decide +kernel
theorem dX11_exploreAll_37 : decode cX11_exploreAll 37 = .ok (.return_, 1) := by decide +kernel
theorem dX11_tones_0 : decode cX11_tones 0 = .ok (.aload_n 0, 1) := by decide +kernel
theorem dX11_tones_1 : decode cX11_tones 1 = .ok (.invokevirtual 290, 3) := by decide +kernel
theorem dX11_tones_4 : decode cX11_tones 4 = .ok (.iconst 0, 1) := by decide +kernel
theorem dX11_tones_5 : decode cX11_tones 5 = .ok (.istore_n 1, 1) := by decide +kernel
theorem dX11_tones_6 : decode cX11_tones 6 = .ok (.iconst 0, 1) := by decide +kernel
theorem dX11_tones_7 : decode cX11_tones 7 = .ok (.istore_n 2, 1) := by decide +kernel
theorem dX11_tones_8 : decode cX11_tones 8 = .ok (.iload_n 2, 1) := by decide +kernel
theorem dX11_tones_9 : decode cX11_tones 9 = .ok (.aload_n 0, 1) := by decide +kernel
theorem dX11_tones_10 : decode cX11_tones 10 = .ok (.getfield 88, 3) := by decide +kernel
theorem dX11_tones_13 : decode cX11_tones 13 = .ok (.getfield 293, 3) := by decide +kernel
theorem dX11_tones_16 : decode cX11_tones 16 = .ok (.if_icmp .ge 38, 3) := by decide +kernel
theorem dX11_tones_19 : decode cX11_tones 19 = .ok (.aload_n 0, 1) := by decide +kernel
theorem dX11_tones_20 : decode cX11_tones 20 = .ok (.getfield 88, 3) := by decide +kernel
theorem dX11_tones_23 : decode cX11_tones 23 = .ok (.iload_n 2, 1) := by decide +kernel
theorem dX11_tones_24 : decode cX11_tones 24 = .ok (.invokevirtual 294, 3) := by decide +kernel
theorem dX11_tones_27 : decode cX11_tones 27 = .ok (.istore_n 3, 1) := by decide +kernel
theorem dX11_tones_28 : decode cX11_tones 28 = .ok (.aload_n 0, 1) := by decide +kernel
theorem dX11_tones_29 : decode cX11_tones 29 = .ok (.getfield 79, 3) := by decide +kernel
theorem dX11_tones_32 : decode cX11_tones 32 = .ok (.iload_n 3, 1) := by decide +kernel
theorem dX11_tones_33 : decode cX11_tones 33 = .ok (.invokevirtual 176, 3) := by decide +kernel
theorem dX11_tones_36 : decode cX11_tones 36 = .ok (.ifCond .eq 12, 3) := by decide +kernel
theorem dX11_tones_39 : decode cX11_tones 39 = .ok (.iload_n 1, 1) := by decide +kernel
theorem dX11_tones_40 : decode cX11_tones 40 = .ok (.iconst 1, 1) := by decide +kernel
theorem dX11_tones_41 : decode cX11_tones 41 = .ok (.iload_n 3, 1) := by decide +kernel
theorem dX11_tones_42 : decode cX11_tones 42 = .ok (.invokestatic 297, 3) := by decide +kernel
theorem dX11_tones_45 : decode cX11_tones 45 = .ok (.ishl, 1) := by decide +kernel
theorem dX11_tones_46 : decode cX11_tones 46 = .ok (.ior, 1) := by decide +kernel
theorem dX11_tones_47 : decode cX11_tones 47 = .ok (.istore_n 1, 1) := by decide +kernel
theorem dX11_tones_48 : decode cX11_tones 48 = .ok (.iinc 2 1, 3) := by decide +kernel
theorem dX11_tones_51 : decode cX11_tones 51 = .ok (.goto (-43), 3) := by decide +kernel
theorem dX11_tones_54 : decode cX11_tones 54 = .ok (.iload_n 1, 1) := by decide +kernel
theorem dX11_tones_55 : decode cX11_tones 55 = .ok (.ireturn, 1) := by decide +kernel
theorem dX11_calmestHeat_0 : decode cX11_calmestHeat 0 = .ok (.aload_n 0, 1) := by decide +kernel
theorem dX11_calmestHeat_1 : decode cX11_calmestHeat 1 = .ok (.getfield 79, 3) := by decide +kernel
theorem dX11_calmestHeat_4 : decode cX11_calmestHeat 4 = .ok (.aload_n 0, 1) := by decide +kernel
theorem dX11_calmestHeat_5 : decode cX11_calmestHeat 5 = .ok (.getfield 30, 3) := by decide +kernel
theorem dX11_calmestHeat_8 : decode cX11_calmestHeat 8 = .ok (.getfield 139, 3) := by decide +kernel
theorem dX11_calmestHeat_11 : decode cX11_calmestHeat 11 = .ok (.invokevirtual 273, 3) := by decide +kernel
theorem dX11_calmestHeat_14 : decode cX11_calmestHeat 14 = .ok (.aload_n 0, 1) := by decide +kernel
theorem dX11_calmestHeat_15 : decode cX11_calmestHeat 15 = .ok (.getfield 30, 3) := by decide +kernel
theorem dX11_calmestHeat_18 : decode cX11_calmestHeat 18 = .ok (.getfield 151, 3) := by decide +kernel
theorem dX11_calmestHeat_21 : decode cX11_calmestHeat 21 = .ok (.invokestatic 306, 3) := by decide +kernel
theorem dX11_calmestHeat_24 : decode cX11_calmestHeat 24 = .ok (.istore_n 2, 1) := by decide +kernel
theorem dX11_calmestHeat_25 : decode cX11_calmestHeat 25 = .ok (.iload_n 2, 1) := by decide +kernel
theorem dX11_calmestHeat_26 : decode cX11_calmestHeat 26 = .ok (.bipush 9, 2) := by decide +kernel
theorem dX11_calmestHeat_28 : decode cX11_calmestHeat 28 = .ok (.if_icmp .gt 35, 3) := by decide +kernel
theorem dX11_calmestHeat_31 : decode cX11_calmestHeat 31 = .ok (.aload_n 0, 1) := by decide +kernel
theorem dX11_calmestHeat_32 : decode cX11_calmestHeat 32 = .ok (.getfield 88, 3) := by decide +kernel
theorem dX11_calmestHeat_35 : decode cX11_calmestHeat 35 = .ok (.aload_n 0, 1) := by decide +kernel
theorem dX11_calmestHeat_36 : decode cX11_calmestHeat 36 = .ok (.getfield 30, 3) := by decide +kernel
theorem dX11_calmestHeat_39 : decode cX11_calmestHeat 39 = .ok (.getfield 151, 3) := by decide +kernel
theorem dX11_calmestHeat_42 : decode cX11_calmestHeat 42 = .ok (.iload_n 1, 1) := by decide +kernel
theorem dX11_calmestHeat_43 : decode cX11_calmestHeat 43 = .ok (.ldc2_w 255, 3) := by decide +kernel
theorem dX11_calmestHeat_46 : decode cX11_calmestHeat 46 = .ok (.iload_n 2, 1) := by decide +kernel
theorem dX11_calmestHeat_47 : decode cX11_calmestHeat 47 = .ok (.iconst 0, 1) := by decide +kernel
theorem dX11_calmestHeat_48 : decode cX11_calmestHeat 48 = .ok (.invokevirtual 309, 3) := by decide +kernel
theorem dX11_calmestHeat_51 : decode cX11_calmestHeat 51 = .ok (.iconst (-1), 1) := by decide +kernel
theorem dX11_calmestHeat_52 : decode cX11_calmestHeat 52 = .ok (.if_icmp .eq 5, 3) := by decide +kernel
theorem dX11_calmestHeat_55 : decode cX11_calmestHeat 55 = .ok (.iload_n 2, 1) := by decide +kernel
theorem dX11_calmestHeat_56 : decode cX11_calmestHeat 56 = .ok (.ireturn, 1) := by decide +kernel
theorem dX11_calmestHeat_57 : decode cX11_calmestHeat 57 = .ok (.iinc 2 1, 3) := by decide +kernel
theorem dX11_calmestHeat_60 : decode cX11_calmestHeat 60 = .ok (.goto (-35), 3) := by decide +kernel
theorem dX11_calmestHeat_63 : decode cX11_calmestHeat 63 = .ok (.iconst (-1), 1) := by decide +kernel
theorem dX11_calmestHeat_64 : decode cX11_calmestHeat 64 = .ok (.ireturn, 1) := by decide +kernel
theorem dX11_calmest_0 : decode cX11_calmest 0 = .ok (.iload_n 2, 1) := by decide +kernel
theorem dX11_calmest_1 : decode cX11_calmest 1 = .ok (.bipush 10, 2) := by decide +kernel
theorem dX11_calmest_3 : decode cX11_calmest 3 = .ok (.if_icmp .lt 13, 3) := by decide +kernel
theorem dX11_calmest_6 : decode cX11_calmest 6 = .ok (.iload_n 2, 1) := by decide +kernel
theorem dX11_calmest_7 : decode cX11_calmest 7 = .ok (.bipush 29, 2) := by decide +kernel
theorem dX11_calmest_9 : decode cX11_calmest 9 = .ok (.if_icmp .gt 7, 3) := by decide +kernel
theorem dX11_calmest_12 : decode cX11_calmest 12 = .ok (.iconst 1, 1) := by decide +kernel
theorem dX11_calmest_13 : decode cX11_calmest 13 = .ok (.goto 4, 3) := by decide +kernel
theorem dX11_calmest_16 : decode cX11_calmest 16 = .ok (.iconst 0, 1) := by decide +kernel
theorem dX11_calmest_17 : decode cX11_calmest 17 = .ok (.istore_n 3, 1) := by decide +kernel
theorem dX11_calmest_18 : decode cX11_calmest 18 = .ok (.iload_n 2, 1) := by decide +kernel
theorem dX11_calmest_19 : decode cX11_calmest 19 = .ok (.ifCond .eq 15, 3) := by decide +kernel
theorem dX11_calmest_22 : decode cX11_calmest 22 = .ok (.iload_n 2, 1) := by decide +kernel
theorem dX11_calmest_23 : decode cX11_calmest 23 = .ok (.iconst 1, 1) := by decide +kernel
theorem dX11_calmest_24 : decode cX11_calmest 24 = .ok (.if_icmp .eq 10, 3) := by decide +kernel
theorem dX11_calmest_27 : decode cX11_calmest 27 = .ok (.iload_n 3, 1) := by decide +kernel
theorem dX11_calmest_28 : decode cX11_calmest 28 = .ok (.ifCond .ne 6, 3) := by decide +kernel
theorem dX11_calmest_31 : decode cX11_calmest 31 = .ok (.bipush (-2), 2) := by decide +kernel
theorem dX11_calmest_33 : decode cX11_calmest 33 = .ok (.ireturn, 1) := by decide +kernel
theorem dX11_calmest_34 : decode cX11_calmest 34 = .ok (.iload_n 1, 1) := by decide +kernel
theorem dX11_calmest_35 : decode cX11_calmest 35 = .ok (.invokestatic 252, 3) := by decide +kernel
theorem dX11_calmest_38 : decode cX11_calmest 38 = .ok (.ifCond .ne 6, 3) := by decide +kernel
theorem dX11_calmest_41 : decode cX11_calmest 41 = .ok (.bipush (-3), 2) := by decide +kernel
theorem dX11_calmest_43 : decode cX11_calmest 43 = .ok (.ireturn, 1) := by decide +kernel
theorem dX11_calmest_44 : decode cX11_calmest 44 = .ok (.aload_n 0, 1) := by decide +kernel
theorem dX11_calmest_45 : decode cX11_calmest 45 = .ok (.iload_n 1, 1) := by decide +kernel
theorem dX11_calmest_46 : decode cX11_calmest 46 = .ok (.invokevirtual 300, 3) := by decide +kernel
theorem dX11_calmest_49 : decode cX11_calmest 49 = .ok (.istore 4, 2) := by decide +kernel
theorem dX11_calmest_51 : decode cX11_calmest 51 = .ok (.iload 4, 2) := by decide +kernel
theorem dX11_calmest_53 : decode cX11_calmest 53 = .ok (.iconst (-1), 1) := by decide +kernel
theorem dX11_calmest_54 : decode cX11_calmest 54 = .ok (.if_icmp .eq 7, 3) := by decide +kernel
theorem dX11_calmest_57 : decode cX11_calmest 57 = .ok (.iload_n 2, 1) := by decide +kernel
theorem dX11_calmest_58 : decode cX11_calmest 58 = .ok (.ifCond .ne 6, 3) := by decide +kernel
theorem dX11_calmest_61 : decode cX11_calmest 61 = .ok (.iload 4, 2) := by decide +kernel
theorem dX11_calmest_63 : decode cX11_calmest 63 = .ok (.ireturn, 1) := by decide +kernel
theorem dX11_calmest_64 : decode cX11_calmest 64 = .ok (.iload_n 3, 1) := by decide +kernel
theorem dX11_calmest_65 : decode cX11_calmest 65 = .ok (.ifCond .eq 17, 3) := by decide +kernel
theorem dX11_calmest_68 : decode cX11_calmest 68 = .ok (.aload_n 0, 1) := by decide +kernel
theorem dX11_calmest_69 : decode cX11_calmest 69 = .ok (.getfield 88, 3) := by decide +kernel
theorem dX11_calmest_72 : decode cX11_calmest 72 = .ok (.iload_n 2, 1) := by decide +kernel
theorem dX11_calmest_73 : decode cX11_calmest 73 = .ok (.bipush 10, 2) := by decide +kernel
theorem dX11_calmest_75 : decode cX11_calmest 75 = .ok (.isub, 1) := by decide +kernel
theorem dX11_calmest_76 : decode cX11_calmest 76 = .ok (.invokevirtual 261, 3) := by decide +kernel
theorem dX11_calmest_79 : decode cX11_calmest 79 = .ok (.goto 10, 3) := by decide +kernel
theorem dX11_calmest_82 : decode cX11_calmest 82 = .ok (.aload_n 0, 1) := by decide +kernel
theorem dX11_calmest_83 : decode cX11_calmest 83 = .ok (.getfield 88, 3) := by decide +kernel
theorem dX11_calmest_86 : decode cX11_calmest 86 = .ok (.getfield 303, 3) := by decide +kernel
theorem dX11_calmest_89 : decode cX11_calmest 89 = .ok (.ireturn, 1) := by decide +kernel
theorem dX11_keyword_0 : decode cX11_keyword 0 = .ok (.aload_n 0, 1) := by decide +kernel
theorem dX11_keyword_1 : decode cX11_keyword 1 = .ok (.iconst (-1), 1) := by decide +kernel
theorem dX11_keyword_2 : decode cX11_keyword 2 = .ok (.ldc2_w 255, 3) := by decide +kernel
theorem dX11_keyword_5 : decode cX11_keyword 5 = .ok (.invokevirtual 257, 3) := by decide +kernel
theorem dX11_keyword_8 : decode cX11_keyword 8 = .ok (.istore_n 1, 1) := by decide +kernel
theorem dX11_keyword_9 : decode cX11_keyword 9 = .ok (.iconst (-1), 1) := by decide +kernel
theorem dX11_keyword_10 : decode cX11_keyword 10 = .ok (.istore_n 2, 1) := by decide +kernel
theorem dX11_keyword_11 : decode cX11_keyword 11 = .ok (.iload_n 1, 1) := by decide +kernel
theorem dX11_keyword_12 : decode cX11_keyword 12 = .ok (.iconst (-1), 1) := by decide +kernel
theorem dX11_keyword_13 : decode cX11_keyword 13 = .ok (.if_icmp .eq 65, 3) := by decide +kernel
theorem dX11_keyword_16 : decode cX11_keyword 16 = .ok (.iload_n 1, 1) := by decide +kernel
theorem dX11_keyword_17 : decode cX11_keyword 17 = .ok (.istore_n 3, 1) := by decide +kernel
theorem dX11_keyword_18 : decode cX11_keyword 18 = .ok (.iconst 0, 1) := by decide +kernel
theorem dX11_keyword_19 : decode cX11_keyword 19 = .ok (.istore 4, 2) := by decide +kernel
theorem dX11_keyword_21 : decode cX11_keyword 21 = .ok (.iload 4, 2) := by decide +kernel
theorem dX11_keyword_23 : decode cX11_keyword 23 = .ok (.aload_n 0, 1) := by decide +kernel
theorem dX11_keyword_24 : decode cX11_keyword 24 = .ok (.getfield 20, 3) := by decide +kernel
theorem dX11_keyword_27 : decode cX11_keyword 27 = .ok (.getfield 313, 3) := by decide +kernel
theorem dX11_keyword_30 : decode cX11_keyword 30 = .ok (.if_icmp .ge 48, 3) := by decide +kernel
theorem dX11_keyword_33 : decode cX11_keyword 33 = .ok (.aload_n 0, 1) := by decide +kernel
theorem dX11_keyword_34 : decode cX11_keyword 34 = .ok (.iconst (-1), 1) := by decide +kernel
theorem dX11_keyword_35 : decode cX11_keyword 35 = .ok (.iload 4, 2) := by decide +kernel
theorem dX11_keyword_37 : decode cX11_keyword 37 = .ok (.invokestatic 168, 3) := by decide +kernel
theorem dX11_keyword_40 : decode cX11_keyword 40 = .ok (.ldc2_w 240, 3) := by decide +kernel
theorem dX11_keyword_43 : decode cX11_keyword 43 = .ok (.lxor, 1) := by decide +kernel
theorem dX11_keyword_44 : decode cX11_keyword 44 = .ok (.invokevirtual 257, 3) := by decide +kernel
theorem dX11_keyword_47 : decode cX11_keyword 47 = .ok (.istore 5, 2) := by decide +kernel
theorem dX11_keyword_49 : decode cX11_keyword 49 = .ok (.iload 5, 2) := by decide +kernel
theorem dX11_keyword_51 : decode cX11_keyword 51 = .ok (.iconst (-1), 1) := by decide +kernel
theorem dX11_keyword_52 : decode cX11_keyword 52 = .ok (.if_icmp .ne 8, 3) := by decide +kernel
theorem dX11_keyword_55 : decode cX11_keyword 55 = .ok (.ldc_w 316, 3) := by decide +kernel
theorem dX11_keyword_58 : decode cX11_keyword 58 = .ok (.istore 5, 2) := by decide +kernel
theorem dX11_keyword_60 : decode cX11_keyword 60 = .ok (.iload 5, 2) := by decide +kernel
theorem dX11_keyword_62 : decode cX11_keyword 62 = .ok (.iload_n 3, 1) := by decide +kernel
theorem dX11_keyword_63 : decode cX11_keyword 63 = .ok (.if_icmp .le 9, 3) := by decide +kernel
theorem dX11_keyword_66 : decode cX11_keyword 66 = .ok (.iload 5, 2) := by decide +kernel
theorem dX11_keyword_68 : decode cX11_keyword 68 = .ok (.istore_n 3, 1) := by decide +kernel
theorem dX11_keyword_69 : decode cX11_keyword 69 = .ok (.iload 4, 2) := by decide +kernel
theorem dX11_keyword_71 : decode cX11_keyword 71 = .ok (.istore_n 2, 1) := by decide +kernel
theorem dX11_keyword_72 : decode cX11_keyword 72 = .ok (.iinc 4 1, 3) := by decide +kernel
theorem dX11_keyword_75 : decode cX11_keyword 75 = .ok (.goto (-54), 3) := by decide +kernel
theorem dX11_keyword_78 : decode cX11_keyword 78 = .ok (.iload_n 2, 1) := by decide +kernel
theorem dX11_keyword_79 : decode cX11_keyword 79 = .ok (.ireturn, 1) := by decide +kernel
theorem dX11_stroke_0 : decode cX11_stroke 0 = .ok (.iload_n 2, 1) := by decide +kernel
theorem dX11_stroke_1 : decode cX11_stroke 1 = .ok (.ifCond .eq 12, 3) := by decide +kernel
theorem dX11_stroke_4 : decode cX11_stroke 4 = .ok (.iload_n 2, 1) := by decide +kernel
theorem dX11_stroke_5 : decode cX11_stroke 5 = .ok (.iconst 1, 1) := by decide +kernel
theorem dX11_stroke_6 : decode cX11_stroke 6 = .ok (.if_icmp .eq 7, 3) := by decide +kernel
theorem dX11_stroke_9 : decode cX11_stroke 9 = .ok (.ldc2_w 387, 3) := by decide +kernel
theorem dX11_stroke_12 : decode cX11_stroke 12 = .ok (.lreturn, 1) := by decide +kernel
theorem dX11_stroke_13 : decode cX11_stroke 13 = .ok (.iload_n 1, 1) := by decide +kernel
theorem dX11_stroke_14 : decode cX11_stroke 14 = .ok (.invokestatic 252, 3) := by decide +kernel
theorem dX11_stroke_17 : decode cX11_stroke 17 = .ok (.ifCond .ne 7, 3) := by decide +kernel
theorem dX11_stroke_20 : decode cX11_stroke 20 = .ok (.ldc2_w 264, 3) := by decide +kernel
theorem dX11_stroke_23 : decode cX11_stroke 23 = .ok (.lreturn, 1) := by decide +kernel
theorem dX11_stroke_24 : decode cX11_stroke 24 = .ok (.aload_n 0, 1) := by decide +kernel
theorem dX11_stroke_25 : decode cX11_stroke 25 = .ok (.iload_n 1, 1) := by decide +kernel
theorem dX11_stroke_26 : decode cX11_stroke 26 = .ok (.ldc2_w 255, 3) := by decide +kernel
theorem dX11_stroke_29 : decode cX11_stroke 29 = .ok (.invokevirtual 257, 3) := by decide +kernel
theorem dX11_stroke_32 : decode cX11_stroke 32 = .ok (.istore_n 3, 1) := by decide +kernel
theorem dX11_stroke_33 : decode cX11_stroke 33 = .ok (.iload_n 3, 1) := by decide +kernel
theorem dX11_stroke_34 : decode cX11_stroke 34 = .ok (.bipush 16, 2) := by decide +kernel
theorem dX11_stroke_36 : decode cX11_stroke 36 = .ok (.if_icmp .le 7, 3) := by decide +kernel
theorem dX11_stroke_39 : decode cX11_stroke 39 = .ok (.ldc2_w 389, 3) := by decide +kernel
theorem dX11_stroke_42 : decode cX11_stroke 42 = .ok (.lreturn, 1) := by decide +kernel
theorem dX11_stroke_43 : decode cX11_stroke 43 = .ok (.iload_n 3, 1) := by decide +kernel
theorem dX11_stroke_44 : decode cX11_stroke 44 = .ok (.iconst (-1), 1) := by decide +kernel
theorem dX11_stroke_45 : decode cX11_stroke 45 = .ok (.if_icmp .ne 7, 3) := by decide +kernel
theorem dX11_stroke_48 : decode cX11_stroke 48 = .ok (.ldc2_w 240, 3) := by decide +kernel
theorem dX11_stroke_51 : decode cX11_stroke 51 = .ok (.lreturn, 1) := by decide +kernel
theorem dX11_stroke_52 : decode cX11_stroke 52 = .ok (.iload_n 2, 1) := by decide +kernel
theorem dX11_stroke_53 : decode cX11_stroke 53 = .ok (.ifCond .ne 17, 3) := by decide +kernel
theorem dX11_stroke_56 : decode cX11_stroke 56 = .ok (.getstatic 391, 3) := by decide +kernel
theorem dX11_stroke_59 : decode cX11_stroke 59 = .ok (.aload_n 0, 1) := by decide +kernel
theorem dX11_stroke_60 : decode cX11_stroke 60 = .ok (.getfield 20, 3) := by decide +kernel
theorem dX11_stroke_63 : decode cX11_stroke 63 = .ok (.getfield 394, 3) := by decide +kernel
theorem dX11_stroke_66 : decode cX11_stroke 66 = .ok (.iaload, 1) := by decide +kernel
theorem dX11_stroke_67 : decode cX11_stroke 67 = .ok (.goto 14, 3) := by decide +kernel
theorem dX11_stroke_70 : decode cX11_stroke 70 = .ok (.getstatic 397, 3) := by decide +kernel
theorem dX11_stroke_73 : decode cX11_stroke 73 = .ok (.aload_n 0, 1) := by decide +kernel
theorem dX11_stroke_74 : decode cX11_stroke 74 = .ok (.getfield 20, 3) := by decide +kernel
theorem dX11_stroke_77 : decode cX11_stroke 77 = .ok (.getfield 394, 3) := by decide +kernel
theorem dX11_stroke_80 : decode cX11_stroke 80 = .ok (.iaload, 1) := by decide +kernel
theorem dX11_stroke_81 : decode cX11_stroke 81 = .ok (.istore 4, 2) := by decide +kernel
theorem dX11_stroke_83 : decode cX11_stroke 83 = .ok (.lconst 1, 1) := by decide +kernel
theorem dX11_stroke_84 : decode cX11_stroke 84 = .ok (.lstore 5, 2) := by decide +kernel
theorem dX11_stroke_86 : decode cX11_stroke 86 = .ok (.iconst 1, 1) := by decide +kernel
theorem dX11_stroke_87 : decode cX11_stroke 87 = .ok (.istore 7, 2) := by decide +kernel
theorem dX11_stroke_89 : decode cX11_stroke 89 = .ok (.iload 7, 2) := by decide +kernel
theorem dX11_stroke_91 : decode cX11_stroke 91 = .ok (.iload_n 3, 1) := by decide +kernel
theorem dX11_stroke_92 : decode cX11_stroke 92 = .ok (.if_icmp .ge 17, 3) := by decide +kernel
theorem dX11_stroke_95 : decode cX11_stroke 95 = .ok (.lload 5, 2) := by decide +kernel
theorem dX11_stroke_97 : decode cX11_stroke 97 = .ok (.iload 4, 2) := by decide +kernel
theorem dX11_stroke_99 : decode cX11_stroke 99 = .ok (.i2l, 1) := by decide +kernel
theorem dX11_stroke_100 : decode cX11_stroke 100 = .ok (.lmul, 1) := by decide +kernel
theorem dX11_stroke_101 : decode cX11_stroke 101 = .ok (.lstore 5, 2) := by decide +kernel
theorem dX11_stroke_103 : decode cX11_stroke 103 = .ok (.iinc 7 1, 3) := by decide +kernel
theorem dX11_stroke_106 : decode cX11_stroke 106 = .ok (.goto (-17), 3) := by decide +kernel
theorem dX11_stroke_109 : decode cX11_stroke 109 = .ok (.lload 5, 2) := by decide +kernel
theorem dX11_stroke_111 : decode cX11_stroke 111 = .ok (.lreturn, 1) := by decide +kernel
theorem dX11_likeliest_0 : decode cX11_likeliest 0 = .ok (.aload_n 0, 1) := by decide +kernel
theorem dX11_likeliest_1 : decode cX11_likeliest 1 = .ok (.invokevirtual 290, 3) := by decide +kernel
theorem dX11_likeliest_4 : decode cX11_likeliest 4 = .ok (.iconst (-1), 1) := by decide +kernel
theorem dX11_likeliest_5 : decode cX11_likeliest 5 = .ok (.istore_n 1, 1) := by decide +kernel
theorem dX11_likeliest_6 : decode cX11_likeliest 6 = .ok (.ldc_w 316, 3) := by decide +kernel
theorem dX11_likeliest_9 : decode cX11_likeliest 9 = .ok (.istore_n 2, 1) := by decide +kernel
theorem dX11_likeliest_10 : decode cX11_likeliest 10 = .ok (.iconst 0, 1) := by decide +kernel
theorem dX11_likeliest_11 : decode cX11_likeliest 11 = .ok (.istore_n 3, 1) := by decide +kernel
theorem dX11_likeliest_12 : decode cX11_likeliest 12 = .ok (.iload_n 3, 1) := by decide +kernel
theorem dX11_likeliest_13 : decode cX11_likeliest 13 = .ok (.bipush 9, 2) := by decide +kernel
theorem dX11_likeliest_15 : decode cX11_likeliest 15 = .ok (.if_icmp .gt 44, 3) := by decide +kernel
theorem dX11_likeliest_18 : decode cX11_likeliest 18 = .ok (.aload_n 0, 1) := by decide +kernel
theorem dX11_likeliest_19 : decode cX11_likeliest 19 = .ok (.getfield 88, 3) := by decide +kernel
theorem dX11_likeliest_22 : decode cX11_likeliest 22 = .ok (.iload_n 3, 1) := by decide +kernel
theorem dX11_likeliest_23 : decode cX11_likeliest 23 = .ok (.invokevirtual 400, 3) := by decide +kernel
theorem dX11_likeliest_26 : decode cX11_likeliest 26 = .ok (.istore 4, 2) := by decide +kernel
theorem dX11_likeliest_28 : decode cX11_likeliest 28 = .ok (.iload 4, 2) := by decide +kernel
theorem dX11_likeliest_30 : decode cX11_likeliest 30 = .ok (.iconst (-1), 1) := by decide +kernel
theorem dX11_likeliest_31 : decode cX11_likeliest 31 = .ok (.if_icmp .eq 22, 3) := by decide +kernel
theorem dX11_likeliest_34 : decode cX11_likeliest 34 = .ok (.aload_n 0, 1) := by decide +kernel
theorem dX11_likeliest_35 : decode cX11_likeliest 35 = .ok (.iload 4, 2) := by decide +kernel
theorem dX11_likeliest_37 : decode cX11_likeliest 37 = .ok (.invokevirtual 403, 3) := by decide +kernel
theorem dX11_likeliest_40 : decode cX11_likeliest 40 = .ok (.iload_n 2, 1) := by decide +kernel
theorem dX11_likeliest_41 : decode cX11_likeliest 41 = .ok (.if_icmp .ge 12, 3) := by decide +kernel
theorem dX11_likeliest_44 : decode cX11_likeliest 44 = .ok (.aload_n 0, 1) := by decide +kernel
theorem dX11_likeliest_45 : decode cX11_likeliest 45 = .ok (.iload 4, 2) := by decide +kernel
theorem dX11_likeliest_47 : decode cX11_likeliest 47 = .ok (.invokevirtual 403, 3) := by decide +kernel
theorem dX11_likeliest_50 : decode cX11_likeliest 50 = .ok (.istore_n 2, 1) := by decide +kernel
theorem dX11_likeliest_51 : decode cX11_likeliest 51 = .ok (.iload_n 3, 1) := by decide +kernel
theorem dX11_likeliest_52 : decode cX11_likeliest 52 = .ok (.istore_n 1, 1) := by decide +kernel
theorem dX11_likeliest_53 : decode cX11_likeliest 53 = .ok (.iinc 3 1, 3) := by decide +kernel
theorem dX11_likeliest_56 : decode cX11_likeliest 56 = .ok (.goto (-44), 3) := by decide +kernel
theorem dX11_likeliest_59 : decode cX11_likeliest 59 = .ok (.iload_n 1, 1) := by decide +kernel
theorem dX11_likeliest_60 : decode cX11_likeliest 60 = .ok (.ireturn, 1) := by decide +kernel
theorem dX11_strokesThatCount_0 : decode cX11_strokesThatCount 0 = .ok (.iload_n 1, 1) := by decide +kernel
theorem dX11_strokesThatCount_1 : decode cX11_strokesThatCount 1 = .ok (.iconst 1, 1) := by decide +kernel
theorem dX11_strokesThatCount_2 : decode cX11_strokesThatCount 2 = .ok (.isub, 1) := by decide +kernel
theorem dX11_strokesThatCount_3 : decode cX11_strokesThatCount 3 = .ok (.iconst 0, 1) := by decide +kernel
theorem dX11_strokesThatCount_4 : decode cX11_strokesThatCount 4 = .ok (.invokestatic 406, 3) := by decide +kernel
theorem dX11_strokesThatCount_7 : decode cX11_strokesThatCount 7 = .ok (.istore_n 2, 1) := by decide +kernel
theorem dX11_strokesThatCount_8 : decode cX11_strokesThatCount 8 = .ok (.aload_n 0, 1) := by decide +kernel
theorem dX11_strokesThatCount_9 : decode cX11_strokesThatCount 9 = .ok (.getfield 20, 3) := by decide +kernel
theorem dX11_strokesThatCount_12 : decode cX11_strokesThatCount 12 = .ok (.getfield 394, 3) := by decide +kernel
theorem dX11_strokesThatCount_15 : decode cX11_strokesThatCount 15 = .ok (.ifCond .ne 5, 3) := by decide +kernel
theorem dX11_strokesThatCount_18 : decode cX11_strokesThatCount 18 = .ok (.iconst 0, 1) := by decide +kernel
theorem dX11_strokesThatCount_19 : decode cX11_strokesThatCount 19 = .ok (.istore_n 2, 1) := by decide +kernel
theorem dX11_strokesThatCount_20 : decode cX11_strokesThatCount 20 = .ok (.aload_n 0, 1) := by decide +kernel
theorem dX11_strokesThatCount_21 : decode cX11_strokesThatCount 21 = .ok (.getfield 20, 3) := by decide +kernel
theorem dX11_strokesThatCount_24 : decode cX11_strokesThatCount 24 = .ok (.getfield 394, 3) := by decide +kernel
theorem dX11_strokesThatCount_27 : decode cX11_strokesThatCount 27 = .ok (.bipush 10, 2) := by decide +kernel
theorem dX11_strokesThatCount_29 : decode cX11_strokesThatCount 29 = .ok (.if_icmp .ne 11, 3) := by decide +kernel
theorem dX11_strokesThatCount_32 : decode cX11_strokesThatCount 32 = .ok (.iload_n 2, 1) := by decide +kernel
theorem dX11_strokesThatCount_33 : decode cX11_strokesThatCount 33 = .ok (.iconst 1, 1) := by decide +kernel
theorem dX11_strokesThatCount_34 : decode cX11_strokesThatCount 34 = .ok (.invokestatic 371, 3) := by decide +kernel
theorem dX11_strokesThatCount_37 : decode cX11_strokesThatCount 37 = .ok (.goto 4, 3) := by decide +kernel
theorem dX11_strokesThatCount_40 : decode cX11_strokesThatCount 40 = .ok (.iload_n 2, 1) := by decide +kernel
theorem dX11_strokesThatCount_41 : decode cX11_strokesThatCount 41 = .ok (.ireturn, 1) := by decide +kernel
section
variable (d : Nat) (sh : mbSh) (ct : mbCt) {b : Int} {β : Bk} {s : Sit} {q : Int} {N : Nat} {V : Int}
theorem x_isMember {m : Int} (S : SH sh) (X : CX sh ct b β s q N V) (hm : i32 m) : Mt YX11_isMember d [.inr (.inr 0), .inl m] sh sh ct (pI fun r c => r = b01 (isMb β m) ∧ c = ct) := by
  unfold i32 at hm
  have h02 := X.1
  have sb := (X.bb S).1
  have hn := X.n 2
  have hb := X.2.2.1.2.2.2.2.1
  refine Mt.of rfl (Nat.le_of_ble_eq_true rfl) ?_
  show G _ 0 [some (.inr (.inr 0)), some (.inl m)] [] sh ct
  refine g_iload_n (q := 1) dX11_isMember_0 rfl rfl ?_
  refine g_if_lt (q := 4) (tg := 19) dX11_isMember_1 (by decide) rfl (fun c_1 => ?_) (fun c_1 => ?_)
  · refine g_iconst (q := 20) dX11_isMember_19 rfl ?_
    refine g_zreturn dX11_isMember_20 rfl (by decide +kernel) ?_
    refine ⟨_, rfl, ?_, rfl⟩; (try rw [hn] at c_12); first | (apply b01_t; unfold isMb; unfold w32 at *; omega) | (apply b01_f; unfold isMb; unfold w32 at *; omega)
  · refine g_iload_n (q := 5) dX11_isMember_4 rfl rfl ?_
    refine g_aload_n (q := 6) dX11_isMember_5 rfl rfl ?_
    refine g_getO (q := 9) (kI := 2) fX11_20 (by first | assumption | exact S.at _ rfl) dX11_isMember_6 rfl rfl (by first | assumption | exact L.at _ _ rfl | exact LK.at (by assumption) _ _ rfl | ((repeat first | rewrite [wr_na (by decide)] | rewrite [wr_nk (by decide)] | rewrite [wa_na (by decide)]); first | assumption | exact LK.at (by assumption) _ _ rfl) | exact rfl) ?_
    refine g_getI (q := 12) (kI := 2) fX11_284 (by first | assumption | exact S.at _ rfl) dX11_isMember_9 rfl rfl ?_
    refine g_icmp_ge (q := 15) (tg := 19) dX11_isMember_12 (by decide) rfl (fun c_12 => ?_) (fun c_12 => ?_)
    · refine g_iconst (q := 20) dX11_isMember_19 rfl ?_
      refine g_zreturn dX11_isMember_20 rfl (by decide +kernel) ?_
      refine ⟨_, rfl, ?_, rfl⟩; (try rw [hn] at c_12); first | (apply b01_t; unfold isMb; unfold w32 at *; omega) | (apply b01_f; unfold isMb; unfold w32 at *; omega)
    · refine g_iconst (q := 16) dX11_isMember_15 rfl ?_
      refine g_goto (q := 20) dX11_isMember_16 (by decide) ?_
      refine g_zreturn dX11_isMember_20 rfl (by decide +kernel) ?_
      refine ⟨_, rfl, ?_, rfl⟩; (try rw [hn] at c_12); first | (apply b01_t; unfold isMb; unfold w32 at *; omega) | (apply b01_f; unfold isMb; unfold w32 at *; omega)
theorem x_isSaying {y : Int} (S : SH sh) (X : CX sh ct b β s q N V) (hy : i32 y) : Mt YX11_isSaying d [.inr (.inr 0), .inl y] sh sh ct (pI fun r c => r = b01 (isSy β y) ∧ c = ct) := by
  unfold i32 at hy
  have h02 := X.1
  have sb := (X.bb S).1
  have hn := X.n 3
  have hb := X.2.2.1.2.2.2.2.2.1
  refine Mt.of rfl (Nat.le_of_ble_eq_true rfl) ?_
  show G _ 0 [some (.inr (.inr 0)), some (.inl y)] [] sh ct
  refine g_iload_n (q := 1) dX11_isSaying_0 rfl rfl ?_
  refine g_if_lt (q := 4) (tg := 19) dX11_isSaying_1 (by decide) rfl (fun c_1 => ?_) (fun c_1 => ?_)
  · refine g_iconst (q := 20) dX11_isSaying_19 rfl ?_
    refine g_zreturn dX11_isSaying_20 rfl (by decide +kernel) ?_
    refine ⟨_, rfl, ?_, rfl⟩; (try rw [hn] at c_12); first | (apply b01_t; unfold isSy; unfold w32 at *; omega) | (apply b01_f; unfold isSy; unfold w32 at *; omega)
  · refine g_iload_n (q := 5) dX11_isSaying_4 rfl rfl ?_
    refine g_aload_n (q := 6) dX11_isSaying_5 rfl rfl ?_
    refine g_getO (q := 9) (kI := 2) fX11_20 (by first | assumption | exact S.at _ rfl) dX11_isSaying_6 rfl rfl (by first | assumption | exact L.at _ _ rfl | exact LK.at (by assumption) _ _ rfl | ((repeat first | rewrite [wr_na (by decide)] | rewrite [wr_nk (by decide)] | rewrite [wa_na (by decide)]); first | assumption | exact LK.at (by assumption) _ _ rfl) | exact rfl) ?_
    refine g_getI (q := 12) (kI := 3) fX11_313 (by first | assumption | exact S.at _ rfl) dX11_isSaying_9 rfl rfl ?_
    refine g_icmp_ge (q := 15) (tg := 19) dX11_isSaying_12 (by decide) rfl (fun c_12 => ?_) (fun c_12 => ?_)
    · refine g_iconst (q := 20) dX11_isSaying_19 rfl ?_
      refine g_zreturn dX11_isSaying_20 rfl (by decide +kernel) ?_
      refine ⟨_, rfl, ?_, rfl⟩; (try rw [hn] at c_12); first | (apply b01_t; unfold isSy; unfold w32 at *; omega) | (apply b01_f; unfold isSy; unfold w32 at *; omega)
    · refine g_iconst (q := 16) dX11_isSaying_15 rfl ?_
      refine g_goto (q := 20) dX11_isSaying_16 (by decide) ?_
      refine g_zreturn dX11_isSaying_20 rfl (by decide +kernel) ?_
      refine ⟨_, rfl, ?_, rfl⟩; (try rw [hn] at c_12); first | (apply b01_t; unfold isSy; unfold w32 at *; omega) | (apply b01_f; unfold isSy; unfold w32 at *; omega)
/-- a search from now on -/
theorem x_find {tone use cap : Int} (S : SH sh) (Y : CY sh ct b β s q N V) (t0 : -1 ≤ tone) (t1 : tone ≤ 10) (c0 : 0 ≤ cap) (c1 : cap ≤ 9) (hcool : s.1 / 7 % 10 ≤ cap) : Mt YX10_find (d + 4) [.inr (.inr 77), .inl s.1, .inl tone, .inr (.inl use), .inl cap, .inl 0] sh sh ct (pI fun r c => SB c β s q N tone use cap 0 r ∧ CY sh c b β s q N V ∧ kF q ct c) := by
  have hq := Y.x.qc
  have hK := Y.2.2.2.1
  have hrg := Y.2.2.1.1.1
  have hN := hK.2.2.1.1.2.2.1
  refine Mt.imp (c_find (M := 0) d sh ct S hK.1 hK.2.2.1 Y.2.2.2.2.1 hrg.1 hrg.2 t0 t1 c0 c1 ((cool_iff c1).mpr hcool) (by decide) (Or.inl rfl) (by rw [ndM_0]; exact hN.1)) ?_
  rintro r c ⟨x, rfl, rfl, e, hM, hW, hD, h6, h7, h8, h9, h10, h11⟩
  have e' : kF q ct c := e.mono (by decide)
  have e70 : c 70 7 = ct 70 7 := by rw [e 70 (by decide) (q_ne hq (by decide) (by decide))]
  exact ⟨_, rfl, ⟨rfl, hD, h7, h8, h9, h10, h11⟩, Y.k e' (hK.find hq e hM hW) e70, e'⟩
theorem x_shortestBy {tone use : Int} (S : SH sh) (X : CX sh ct b β s q N V) (hV : V + 1 < 900000) (t0 : -1 ≤ tone) (t1 : tone ≤ 10) : Mt YX11_shortestBy (d + 5) [.inr (.inr 0), .inl tone, .inr (.inl use)] sh sh ct (pI fun r c => SB c β s q N tone use 9 0 r ∧ CY sh c b β s q N (V + 1) ∧ kF q ct c) := by
  have L := X.L
  refine Mt.of rfl (Nat.le_of_ble_eq_true rfl) ?_
  show G _ 0 [some (.inr (.inr 0)), some (.inl tone), some (.inr (.inl use)), none] [] sh ct
  refine g_aload_n (q := 1) dX11_shortestBy_0 rfl rfl ?_
  refine g_getO (q := 4) (kI := 11) fX11_79 (by first | assumption | exact S.at _ rfl) dX11_shortestBy_1 rfl rfl (by first | assumption | exact L.at _ _ rfl | exact LK.at (by assumption) _ _ rfl | ((repeat first | rewrite [wr_na (by decide)] | rewrite [wr_nk (by decide)] | rewrite [wa_na (by decide)]); first | assumption | exact LK.at (by assumption) _ _ rfl) | exact rfl) ?_
  refine g_aload_n (q := 5) dX11_shortestBy_4 rfl rfl ?_
  refine g_getO (q := 8) (kI := 4) fX11_30 (by first | assumption | exact S.at _ rfl) dX11_shortestBy_5 rfl rfl (by first | assumption | exact L.at _ _ rfl | exact LK.at (by assumption) _ _ rfl | ((repeat first | rewrite [wr_na (by decide)] | rewrite [wr_nk (by decide)] | rewrite [wa_na (by decide)]); first | assumption | exact LK.at (by assumption) _ _ rfl) | exact rfl) ?_
  refine g_getA (q := 11) (kI := 2) fX11_139 (by first | assumption | exact S.at _ rfl) dX11_shortestBy_8 rfl rfl (by first | assumption | exact L.at _ _ rfl | exact LK.at (by assumption) _ _ rfl | ((repeat first | rewrite [wr_na (by decide)] | rewrite [wr_nk (by decide)] | rewrite [wa_na (by decide)]); first | assumption | exact LK.at (by assumption) _ _ rfl) | exact rfl) ?_
  refine g_callV (q := 14) lX11_273 mX4_heed nX4_heed rfl (x_heed (d + 3) sh _ S X hV) (by first | assumption | exact S.at _ rfl) rfl rfl shLe.rf (rmOk.mk (by omega) (by first | exact shLe.rf | assumption)) (Nat.le_of_ble_eq_true rfl) dX11_shortestBy_11 rfl rfl (kN fun c1 hp => ?_)
  obtain ⟨Y, f1⟩ := hp
  have L1 := Y.x.L
  have hst : c1 12 0 = s.1 := Y.2.1.1
  refine g_aload_n (q := 15) dX11_shortestBy_14 rfl rfl ?_
  refine g_getO (q := 18) (kI := 12) fX11_88 (by first | assumption | exact S.at _ rfl) dX11_shortestBy_15 rfl rfl (by first | assumption | exact L.at _ _ rfl | exact LK.at (by assumption) _ _ rfl | ((repeat first | rewrite [wr_na (by decide)] | rewrite [wr_nk (by decide)] | rewrite [wa_na (by decide)]); first | assumption | exact LK.at (by assumption) _ _ rfl) | exact rfl) ?_
  refine g_aload_n (q := 19) dX11_shortestBy_18 rfl rfl ?_
  refine g_getO (q := 22) (kI := 4) fX11_30 (by first | assumption | exact S.at _ rfl) dX11_shortestBy_19 rfl rfl (by first | assumption | exact L.at _ _ rfl | exact LK.at (by assumption) _ _ rfl | ((repeat first | rewrite [wr_na (by decide)] | rewrite [wr_nk (by decide)] | rewrite [wa_na (by decide)]); first | assumption | exact LK.at (by assumption) _ _ rfl) | exact rfl) ?_
  refine g_getI (q := 25) (kI := 0) fX11_151 (by first | assumption | exact S.at _ rfl) dX11_shortestBy_22 rfl rfl ?_
  rw [hst]
  refine g_iload_n (q := 26) dX11_shortestBy_25 rfl rfl ?_
  refine g_lload_n (q := 27) dX11_shortestBy_26 rfl rfl ?_
  refine g_bipush (q := 29) dX11_shortestBy_27 (by decide +kernel) rfl ?_
  refine g_iconst (q := 30) dX11_shortestBy_29 rfl ?_
  refine g_callV (q := 33) lX11_309 mX10_find nX10_find rfl (x_find d sh _ S Y t0 t1 (by decide) (by decide) (by omega)) (by first | assumption | exact S.at _ rfl) rfl rfl shLe.rf (rmOk.mk (by omega) (by first | exact shLe.rf | assumption)) (Nat.le_of_ble_eq_true rfl) dX11_shortestBy_30 rfl rfl (kI fun r c2 hp => ?_)
  obtain ⟨h1, h2, h3⟩ := hp
  refine g_ireturn dX11_shortestBy_33 rfl ?_
  exact ⟨_, rfl, h1, h2, f1.tr h3⟩
theorem x_isTone {tone : Int} (ht : i32 tone) : Mt YX11_isTone d [.inl tone] sh sh ct (pI fun r c => r = b01 (isTn tone) ∧ c = ct) := by
  unfold i32 at ht
  refine Mt.imp (c_isTone d sh ct) ?_
  rintro r c ⟨x, rfl, rfl, rfl⟩
  refine ⟨_, rfl, b01_c ?_, rfl⟩
  rw [w32_id ht.1 ht.2]
theorem x_shortest {tone : Int} (S : SH sh) (X : CX sh ct b β s q N V) (hV : V + 1 < 900000) (ht : i32 tone) : Mt YX11_shortest (d + 6) [.inr (.inr 0), .inl tone] sh sh ct (pI fun r c => qShort β s.2.2 s.1 tone r ∧ CX sh c b β s q N (V + 1) ∧ kF q ct c) := by
  have L := X.L
  refine Mt.of rfl (Nat.le_of_ble_eq_true rfl) ?_
  show G _ 0 [some (.inr (.inr 0)), some (.inl tone)] [] sh ct
  refine g_iload_n (q := 1) dX11_shortest_0 rfl rfl ?_
  refine g_callS (q := 4) lX11_252 mX11_isTone sX11_isTone rfl (x_isTone (d + 5) sh _ ht) shLe.rf (rmOk.mk (by omega) (by first | exact shLe.rf | assumption)) (Nat.le_of_ble_eq_true rfl) dX11_shortest_1 rfl rfl (kI fun r_1 s_1 hp => ?_)
  obtain ⟨hr, hq⟩ := hp
  replace hr := hr.symm
  replace hq := hq.symm
  subst hr hq
  refine g_if_eq (q := 7) (tg := 18) dX11_shortest_4 (by decide) rfl (fun c_4 => ?_) (fun c_4 => ?_)
  · refine g_bipush (q := 20) dX11_shortest_18 (by decide +kernel) rfl ?_
    refine g_ireturn dX11_shortest_20 rfl ?_
    first | exact ⟨_, rfl, Or.inr ⟨wb0.mp c_4, rfl⟩, X.up (by omega) hV, kF.rf⟩ | exact ⟨_, rfl, Or.inl ⟨wbn.mp c_4, h1.way use_all⟩, h2.x, h3⟩
  · refine g_aload_n (q := 8) dX11_shortest_7 rfl rfl ?_
    refine g_iload_n (q := 9) dX11_shortest_8 rfl rfl ?_
    refine g_ldc2 (q := 12) dX11_shortest_9 kX11_255 rfl ?_
    refine g_callV (q := 15) lX11_257 mX11_shortestBy nX11_shortestBy rfl (x_shortestBy d sh _ S X hV (wbn.mp c_4).1 (by have := (wbn.mp c_4).2; omega)) (by first | assumption | exact S.at _ rfl) rfl rfl shLe.rf (rmOk.mk (by omega) (by first | exact shLe.rf | assumption)) (Nat.le_of_ble_eq_true rfl) dX11_shortest_12 rfl rfl (kI fun r_12 s_12 hp => ?_)
    obtain ⟨h1, h2, h3⟩ := hp
    refine g_goto (q := 20) dX11_shortest_15 (by decide) ?_
    refine g_ireturn dX11_shortest_20 rfl ?_
    first | exact ⟨_, rfl, Or.inr ⟨wb0.mp c_4, rfl⟩, X.up (by omega) hV, kF.rf⟩ | exact ⟨_, rfl, Or.inl ⟨wbn.mp c_4, h1.way use_all⟩, h2.x, h3⟩
/-- a minute of the way that was found -/
theorem x_minuteAt {tone use cap qu un i r : Int} {M : Nat} (S : SH sh) (Y : CY sh ct b β s q N V) (B : SB ct β s q N tone use cap M r) (hU : useOk (use % 18446744073709551616).toNat qu un) (hi : i32 i) : Mt YX10_minuteAt (d + 3) [.inr (.inr 77), .inl i] sh sh ct (pI fun v c => miS β s.2.2 s.1 qu un cap tone M i v ∧ CY sh c b β s q N V ∧ kF q ct c) := by
  unfold i32 at hi
  obtain ⟨h1, h2, h3, h4, h5, h6, h7⟩ := B
  have hK := Y.2.2.2.1
  refine Mt.imp (c_minuteAt d sh ct S hK.1 hK.2.2.1 h2 Y.2.2.2.2.1 hi.1 hi.2) ?_
  rintro r c ⟨x, rfl, hm, hv⟩
  rw [h3, h4, h5, h6, h7, scW_use hU (useN_ok qu un)] at hm
  exact ⟨_, rfl, hm, Y.mvt hv, hv.k⟩
theorem x_minute {tone i : Int} (S : SH sh) (X : CX sh ct b β s q N V) (hV : V + 1 < 900000) (ht : i32 tone) (hi : i32 i) : Mt YX11_minute (d + 6) [.inr (.inr 0), .inl tone, .inl i] sh sh ct (pI fun r c => qMin β s.2.2 s.1 tone i 0 r ∧ CX sh c b β s q N (V + 1) ∧ kF q ct c) := by
  have hi2 := hi
  unfold i32 at hi2
  refine Mt.of rfl (Nat.le_of_ble_eq_true rfl) ?_
  show G _ 0 [some (.inr (.inr 0)), some (.inl tone), some (.inl i)] [] sh ct
  refine g_iload_n (q := 1) dX11_minute_0 rfl rfl ?_
  refine g_callS (q := 4) lX11_252 mX11_isTone sX11_isTone rfl (x_isTone (d + 5) sh _ ht) shLe.rf (rmOk.mk (by omega) (by first | exact shLe.rf | assumption)) (Nat.le_of_ble_eq_true rfl) dX11_minute_1 rfl rfl (kI fun r_ c_ hp => ?_)
  obtain ⟨hr, hq⟩ := hp
  replace hr := hr.symm
  replace hq := hq.symm
  subst hr hq
  refine g_if_eq (q := 7) (tg := 11) dX11_minute_4 (by decide) rfl (fun c_4 => ?_) (fun c_4 => ?_)
  · refine g_bipush (q := 13) dX11_minute_11 (by decide +kernel) rfl ?_
    refine g_ireturn dX11_minute_13 rfl ?_
    exact ⟨_, rfl, Or.inr ⟨fun z => wb0.mp c_4 z.1, rfl⟩, X.up (by omega) hV, kF.rf⟩
  · have htn := wbn.mp c_4
    refine g_iload_n (q := 8) dX11_minute_7 rfl rfl ?_
    refine g_if_ge (q := 11) (tg := 14) dX11_minute_8 (by decide) rfl (fun c_8 => ?_) (fun c_8 => ?_)
    · have i0 : 0 ≤ i := by unfold w32 at c_8; omega
      refine g_aload_n (q := 15) dX11_minute_14 rfl rfl ?_
      refine g_iload_n (q := 16) dX11_minute_15 rfl rfl ?_
      refine g_ldc2 (q := 19) dX11_minute_16 kX11_255 rfl ?_
      refine g_callV (q := 22) lX11_257 mX11_shortestBy nX11_shortestBy rfl (x_shortestBy d sh _ S X hV htn.1 (by have := htn.2; omega)) (by first | assumption | exact S.at _ rfl) rfl rfl shLe.rf (rmOk.mk (by omega) (by first | exact shLe.rf | assumption)) (Nat.le_of_ble_eq_true rfl) dX11_minute_19 rfl rfl (kI fun r c1 hp => ?_)
      obtain ⟨B, Y, f1⟩ := hp
      have L1 := Y.x.L
      refine g_pop (q := 23) dX11_minute_22 rfl rfl ?_
      refine g_aload_n (q := 24) dX11_minute_23 rfl rfl ?_
      refine g_getO (q := 27) (kI := 12) fX11_88 (by first | assumption | exact S.at _ rfl) dX11_minute_24 rfl rfl (by first | assumption | exact L.at _ _ rfl | exact LK.at (by assumption) _ _ rfl | ((repeat first | rewrite [wr_na (by decide)] | rewrite [wr_nk (by decide)] | rewrite [wa_na (by decide)]); first | assumption | exact LK.at (by assumption) _ _ rfl) | exact rfl) ?_
      refine g_iload_n (q := 28) dX11_minute_27 rfl rfl ?_
      refine g_callV (q := 31) lX11_261 mX10_minuteAt nX10_minuteAt rfl (x_minuteAt (d + 2) sh _ S Y B use_all hi) (by first | assumption | exact S.at _ rfl) rfl rfl shLe.rf (rmOk.mk (by omega) (by first | exact shLe.rf | assumption)) (Nat.le_of_ble_eq_true rfl) dX11_minute_28 rfl rfl (kI fun v c2 hp => ?_)
      obtain ⟨hm, Y2, f2⟩ := hp
      refine g_ireturn dX11_minute_31 rfl ?_
      exact ⟨_, rfl, Or.inl ⟨htn, i0, hm⟩, Y2.x, f1.tr f2⟩
    · refine g_bipush (q := 13) dX11_minute_11 (by decide +kernel) rfl ?_
      refine g_ireturn dX11_minute_13 rfl ?_
      exact ⟨_, rfl, Or.inr ⟨fun z => by unfold w32 at c_8; omega, rfl⟩, X.up (by omega) hV, kF.rf⟩
theorem x_memberBits {m : Int} : Mt YX11_memberBits d [.inl m] sh sh ct (pL fun r c => r = shlL 255 (8 * m) ∧ c = ct) := by
  refine Mt.of rfl (Nat.le_of_ble_eq_true rfl) ?_
  show G _ 0 [some (.inl m)] [] sh ct
  refine g_ldc2 (q := 3) dX11_memberBits_0 kX11_442 rfl ?_
  refine g_bipush (q := 5) dX11_memberBits_3 (by decide +kernel) rfl ?_
  refine g_iload_n (q := 6) dX11_memberBits_5 rfl rfl ?_
  refine g_imul (q := 7) dX11_memberBits_6 rfl ?_
  refine g_lshl (q := 8) dX11_memberBits_7 rfl ?_
  refine g_lreturn dX11_memberBits_8 rfl ?_
  exact ⟨_, rfl, rfl, rfl⟩
theorem x_sayingBits {m : Int} : Mt YX11_sayingBits d [.inl m] sh sh ct (pL fun r c => r = shlL 1103823438081 m ∧ c = ct) := by
  refine Mt.of rfl (Nat.le_of_ble_eq_true rfl) ?_
  show G _ 0 [some (.inl m)] [] sh ct
  refine g_ldc2 (q := 3) dX11_sayingBits_0 kX11_444 rfl ?_
  refine g_iload_n (q := 4) dX11_sayingBits_3 rfl rfl ?_
  refine g_lshl (q := 5) dX11_sayingBits_4 rfl ?_
  refine g_lreturn dX11_sayingBits_5 rfl ?_
  exact ⟨_, rfl, rfl, rfl⟩
theorem x_without {m tone : Int} (S : SH sh) (X : CX sh ct b β s q N V) (hV : V + 1 < 900000) (hm : i32 m) (ht : i32 tone) : Mt YX11_without (d + 6) [.inr (.inr 0), .inl m, .inl tone] sh sh ct (pI fun r c => qWithout β s.2.2 s.1 m tone r ∧ CX sh c b β s q N (V + 1) ∧ kF q ct c) := by
  have hb := X.2.2.1.2.2.2.2.1
  refine Mt.of rfl (Nat.le_of_ble_eq_true rfl) ?_
  show G _ 0 [some (.inr (.inr 0)), some (.inl m), some (.inl tone)] [] sh ct
  refine g_aload_n (q := 1) dX11_without_0 rfl rfl ?_
  refine g_iload_n (q := 2) dX11_without_1 rfl rfl ?_
  refine g_callV (q := 5) lX11_135 mX11_isMember nX11_isMember rfl (x_isMember (d + 5) sh _ S X hm) (by first | assumption | exact S.at _ rfl) rfl rfl shLe.rf (rmOk.mk (by omega) (by first | exact shLe.rf | assumption)) (Nat.le_of_ble_eq_true rfl) dX11_without_2 rfl rfl (kI fun r_2 s_2 hp => ?_)
  obtain ⟨hr, hq⟩ := hp
  replace hr := hr.symm
  replace hq := hq.symm
  subst hr hq
  refine g_if_ne (q := 8) (tg := 11) dX11_without_5 (by decide) rfl (fun c_5 => ?_) (fun c_5 => ?_)
  · refine g_iload_n (q := 12) dX11_without_11 rfl rfl ?_
    refine g_callS (q := 15) lX11_252 mX11_isTone sX11_isTone rfl (x_isTone (d + 5) sh _ ht) shLe.rf (rmOk.mk (by omega) (by first | exact shLe.rf | assumption)) (Nat.le_of_ble_eq_true rfl) dX11_without_12 rfl rfl (kI fun r_12 s_12 hp => ?_)
    obtain ⟨hr, hq⟩ := hp
    replace hr := hr.symm
    replace hq := hq.symm
    subst hr hq
    refine g_if_eq (q := 18) (tg := 34) dX11_without_15 (by decide) rfl (fun c_15 => ?_) (fun c_15 => ?_)
    · refine g_bipush (q := 36) dX11_without_34 (by decide +kernel) rfl ?_
      refine g_ireturn dX11_without_36 rfl ?_
      first | exact ⟨_, rfl, Or.inr (Or.inr ⟨wb0.mp c_5, rfl⟩), X.up (by omega) hV, kF.rf⟩ | exact ⟨_, rfl, Or.inr (Or.inl ⟨wbn.mp c_5, wb0.mp c_15, rfl⟩), X.up (by omega) hV, kF.rf⟩ | exact ⟨_, rfl, Or.inl ⟨wbn.mp c_5, wbn.mp c_15, h1.way (use_mem (wbn.mp c_5).1 (by have := (wbn.mp c_5).2; omega))⟩, h2.x, h3⟩
    · refine g_aload_n (q := 19) dX11_without_18 rfl rfl ?_
      refine g_iload_n (q := 20) dX11_without_19 rfl rfl ?_
      refine g_iload_n (q := 21) dX11_without_20 rfl rfl ?_
      refine g_callS (q := 24) lX11_281 mX11_memberBits sX11_memberBits rfl (x_memberBits (d + 5) sh _) shLe.rf (rmOk.mk (by omega) (by first | exact shLe.rf | assumption)) (Nat.le_of_ble_eq_true rfl) dX11_without_21 rfl rfl (kL fun r_21 s_21 hp => ?_)
      obtain ⟨hr, hq⟩ := hp
      replace hr := hr.symm
      replace hq := hq.symm
      subst hr hq
      refine g_ldc2 (q := 27) dX11_without_24 kX11_240 rfl ?_
      refine g_lxor (q := 28) dX11_without_27 rfl ?_
      refine g_callV (q := 31) lX11_257 mX11_shortestBy nX11_shortestBy rfl (x_shortestBy d sh _ S X hV (wbn.mp c_15).1 (by have := (wbn.mp c_15).2; omega)) (by first | assumption | exact S.at _ rfl) rfl rfl shLe.rf (rmOk.mk (by omega) (by first | exact shLe.rf | assumption)) (Nat.le_of_ble_eq_true rfl) dX11_without_28 rfl rfl (kI fun r_28 s_28 hp => ?_)
      obtain ⟨h1, h2, h3⟩ := hp
      refine g_goto (q := 36) dX11_without_31 (by decide) ?_
      refine g_ireturn dX11_without_36 rfl ?_
      first | exact ⟨_, rfl, Or.inr (Or.inr ⟨wb0.mp c_5, rfl⟩), X.up (by omega) hV, kF.rf⟩ | exact ⟨_, rfl, Or.inr (Or.inl ⟨wbn.mp c_5, wb0.mp c_15, rfl⟩), X.up (by omega) hV, kF.rf⟩ | exact ⟨_, rfl, Or.inl ⟨wbn.mp c_5, wbn.mp c_15, h1.way (use_mem (wbn.mp c_5).1 (by have := (wbn.mp c_5).2; omega))⟩, h2.x, h3⟩
  · refine g_bipush (q := 10) dX11_without_8 (by decide +kernel) rfl ?_
    refine g_ireturn dX11_without_10 rfl ?_
    first | exact ⟨_, rfl, Or.inr (Or.inr ⟨wb0.mp c_5, rfl⟩), X.up (by omega) hV, kF.rf⟩ | exact ⟨_, rfl, Or.inr (Or.inl ⟨wbn.mp c_5, wb0.mp c_15, rfl⟩), X.up (by omega) hV, kF.rf⟩ | exact ⟨_, rfl, Or.inl ⟨wbn.mp c_5, wbn.mp c_15, h1.way (use_mem (wbn.mp c_5).1 (by have := (wbn.mp c_5).2; omega))⟩, h2.x, h3⟩
theorem x_needed {tone : Int} (S : SH sh) (X : CX sh ct b β s q N V) (hV : V + 20 < 900000) (ht : i32 tone) : Mt YX11_needed (d + 6) [.inr (.inr 0), .inl tone] sh sh ct (pI fun r c => qNeeded β s.2.2 s.1 tone r ∧ CX sh c b β s q N (V + 20) ∧ kF q ct c) := by
  have hb := X.2.2.1.2.2.2.2.1
  generalize hP : (pI fun r c => qNeeded β s.2.2 s.1 tone r ∧ CX sh c b β s q N (V + 20) ∧ kF q ct c) = Po
  refine Mt.of rfl (Nat.le_of_ble_eq_true rfl) ?_
  show G _ 0 [some (.inr (.inr 0)), some (.inl tone), none, none] [] sh ct
  refine g_iload_n (q := 1) dX11_needed_0 rfl rfl ?_
  refine g_callS (q := 4) lX11_252 mX11_isTone sX11_isTone rfl (x_isTone (d + 5) sh _ ht) shLe.rf (rmOk.mk (by omega) (by first | exact shLe.rf | assumption)) (Nat.le_of_ble_eq_true rfl) dX11_needed_1 rfl rfl (kI fun r_ c_ hp => ?_)
  obtain ⟨hr, hq⟩ := hp
  replace hr := hr.symm
  replace hq := hq.symm
  subst hr hq
  refine g_if_ne (q := 7) (tg := 10) dX11_needed_4 (by decide) rfl (fun c_4 => ?_) (fun c_4 => ?_)
  · have htn := wbn.mp c_4
    refine g_iconst (q := 11) dX11_needed_10 rfl ?_
    refine s_istore_n_4_2 (q := 12) dX11_needed_11 rfl rfl rfl ?_
    refine g_aload_n (q := 13) dX11_needed_12 rfl rfl ?_
    refine g_iload_n (q := 14) dX11_needed_13 rfl rfl ?_
    refine g_ldc2 (q := 17) dX11_needed_14 kX11_255 rfl ?_
    refine g_callV (q := 20) lX11_257 mX11_shortestBy nX11_shortestBy rfl (x_shortestBy d sh _ S X (by omega) htn.1 (by have := htn.2; omega)) (by first | assumption | exact S.at _ rfl) rfl rfl shLe.rf (rmOk.mk (by omega) (by first | exact shLe.rf | assumption)) (Nat.le_of_ble_eq_true rfl) dX11_needed_17 rfl rfl (kI fun r c1 hp => ?_)
    obtain ⟨B, Y, f1⟩ := hp
    have hw := B.way use_all
    have hge := B.lt Y.2.2.2.1.2.2.1.1.2.2.1.2
    refine g_iconst (q := 21) dX11_needed_20 rfl ?_
    refine g_icmp_eq (q := 24) (tg := 66) dX11_needed_21 (by decide) rfl (fun c_21 => ?_) (fun c_21 => ?_)
    · refine g_iload_n (q := 67) dX11_needed_66 rfl rfl ?_
      refine g_ireturn dX11_needed_67 rfl ?_
      rw [← hP]
      exact ⟨_, rfl, Or.inr (Or.inl ⟨htn, hw.none.mp (by unfold w32 at c_21; omega), rfl⟩), Y.x.up (by omega) hV, f1⟩
    · have hany : anyW β s.2.2 s.1 (-1) (-1) 9 tone 0 := by
        apply Classical.byContradiction
        intro z
        exact c_21 (by rw [hw.none.mpr z])
      refine g_iconst (q := 25) dX11_needed_24 rfl ?_
      refine s_istore_n_4_3 (q := 26) dX11_needed_25 rfl rfl rfl ?_
      refine g_forA (α := Int) (fun m a => [some (.inr (.inr 0)), some (.inl tone), some (.inl a), some (.inl m)]) (fun m a c => 0 ≤ m ∧ CX sh c b β s q N (V + 1 + m) ∧ kF q ct c ∧ isSet m.toNat (fun m => ¬ anyW β s.2.2 s.1 m (-1) 9 tone 0) a) (β.n 2) ?_ ?_ (i := 0) (a := 0) (by omega) ⟨by omega, by rw [Int.add_zero]; exact Y.x, f1, isSet.zero⟩ (by simp [lsSub])
      · rintro m a c hm ⟨m0, X1, f, hs⟩ kk
        have h02 := X1.1
        have sb := (X1.bb S).1
        have hn2 := X1.n 2
        have em : ((m.toNat : Nat) : Int) = m := by omega
        refine g_iload_n (q := 27) dX11_needed_26 rfl rfl ?_
        refine g_aload_n (q := 28) dX11_needed_27 rfl rfl ?_
        refine g_getO (q := 31) (kI := 2) fX11_20 (by first | assumption | exact S.at _ rfl) dX11_needed_28 rfl rfl (by first | assumption | exact L.at _ _ rfl | exact LK.at (by assumption) _ _ rfl | ((repeat first | rewrite [wr_na (by decide)] | rewrite [wr_nk (by decide)] | rewrite [wa_na (by decide)]); first | assumption | exact LK.at (by assumption) _ _ rfl) | exact rfl) ?_
        refine g_getI (q := 34) (kI := 2) fX11_284 (by first | assumption | exact S.at _ rfl) dX11_needed_31 rfl rfl ?_
        refine g_icmp_ge (q := 37) (tg := 66) dX11_needed_34 (by decide) rfl (fun c_34 => ?_) (fun c_34 => ?_)
        · rw [hn2] at c_34
          exact absurd c_34 (by unfold w32; omega)
        · refine g_aload_n (q := 38) dX11_needed_37 rfl rfl ?_
          refine g_iload_n (q := 39) dX11_needed_38 rfl rfl ?_
          refine g_iload_n (q := 40) dX11_needed_39 rfl rfl ?_
          refine g_callS (q := 43) lX11_281 mX11_memberBits sX11_memberBits rfl (x_memberBits (d + 5) sh _) shLe.rf (rmOk.mk (by omega) (by first | exact shLe.rf | assumption)) (Nat.le_of_ble_eq_true rfl) dX11_needed_40 rfl rfl (kL fun r_ c_ hp => ?_)
          obtain ⟨hr, hq⟩ := hp
          replace hr := hr.symm
          replace hq := hq.symm
          subst hr hq
          refine g_ldc2 (q := 46) dX11_needed_43 kX11_240 rfl ?_
          refine g_lxor (q := 47) dX11_needed_46 rfl ?_
          refine g_callV (q := 50) lX11_257 mX11_shortestBy nX11_shortestBy rfl (x_shortestBy d sh _ S X1 (by omega) htn.1 (by have := htn.2; omega)) (by first | assumption | exact S.at _ rfl) rfl rfl shLe.rf (rmOk.mk (by omega) (by first | exact shLe.rf | assumption)) (Nat.le_of_ble_eq_true rfl) dX11_needed_47 rfl rfl (kI fun r2 c2 hp => ?_)
          obtain ⟨B2, Y2, f2⟩ := hp
          have hw2 := B2.way (use_mem m0 (by omega))
          have hge2 := B2.lt Y2.2.2.2.1.2.2.1.1.2.2.1.2
          have nx : ∀ v, ((¬ anyW β s.2.2 s.1 m.toNat (-1) 9 tone 0 ∧ v = orI a (shlI 1 m.toNat)) ∨ (¬ ¬ anyW β s.2.2 s.1 m.toNat (-1) 9 tone 0 ∧ v = a)) → G (mkK YX11_needed (d + 6) sh sh Po) 60 [some (.inr (.inr 0)), some (.inl tone), some (.inl v), some (.inl m)] [] sh c2 := by
            intro v hv
            have hrg := hs.rg (by omega)
            refine s_iinc_4_3 (q := 63) dX11_needed_60 rfl rfl rfl ?_
            refine g_goto (q := 26) dX11_needed_63 (by decide) ?_
            refine kk v _ _ (by simp [lsSub]) ⟨by omega, by rw [show V + 1 + (m + 1) = V + 1 + m + 1 by omega]; exact Y2.x, f.tr f2, ?_⟩
            rw [show (m + 1).toNat = m.toNat + 1 by omega]
            rcases hv with ⟨h1, rfl⟩ | ⟨h1, rfl⟩
            · exact hs.up (by omega) (Or.inl ⟨h1, rfl⟩)
            · have := hs.up (v := 0) (by omega) (Or.inr ⟨h1, rfl⟩)
              rw [orI_0 hrg.1 (by omega)] at this
              exact this
          refine g_iconst (q := 51) dX11_needed_50 rfl ?_
          refine g_icmp_ne (q := 54) (tg := 60) dX11_needed_51 (by decide) rfl (fun c_51 => ?_) (fun c_51 => ?_)
          · refine nx a (Or.inr ⟨fun z => ?_, rfl⟩)
            rw [em] at z
            exact c_51 (by rw [hw2.none.mpr z])
          · refine g_iload_n (q := 55) dX11_needed_54 rfl rfl ?_
            refine g_iconst (q := 56) dX11_needed_55 rfl ?_
            refine g_iload_n (q := 57) dX11_needed_56 rfl rfl ?_
            refine g_ishl (q := 58) dX11_needed_57 rfl ?_
            refine g_ior (q := 59) dX11_needed_58 rfl ?_
            refine s_istore_n_4_2 (q := 60) dX11_needed_59 rfl rfl rfl ?_
            refine nx _ (Or.inl ⟨?_, by rw [em]⟩)
            rw [em]
            exact hw2.none.mp (by unfold w32 at c_51; omega)
      · rintro a c ⟨-, X1, f, hs⟩
        have h02 := X1.1
        have sb := (X1.bb S).1
        have hn2 := X1.n 2
        refine g_iload_n (q := 27) dX11_needed_26 rfl rfl ?_
        refine g_aload_n (q := 28) dX11_needed_27 rfl rfl ?_
        refine g_getO (q := 31) (kI := 2) fX11_20 (by first | assumption | exact S.at _ rfl) dX11_needed_28 rfl rfl (by first | assumption | exact L.at _ _ rfl | exact LK.at (by assumption) _ _ rfl | ((repeat first | rewrite [wr_na (by decide)] | rewrite [wr_nk (by decide)] | rewrite [wa_na (by decide)]); first | assumption | exact LK.at (by assumption) _ _ rfl) | exact rfl) ?_
        refine g_getI (q := 34) (kI := 2) fX11_284 (by first | assumption | exact S.at _ rfl) dX11_needed_31 rfl rfl ?_
        refine g_icmp_ge (q := 37) (tg := 66) dX11_needed_34 (by decide) rfl (fun c_34 => ?_) (fun c_34 => ?_)
        · refine g_iload_n (q := 67) dX11_needed_66 rfl rfl ?_
          refine g_ireturn dX11_needed_67 rfl ?_
          rw [← hP]
          exact ⟨_, rfl, Or.inl ⟨htn, hany, hs⟩, X1.up (by omega) hV, f⟩
        · rw [hn2] at c_34
          exact absurd c_34 (Int.lt_irrefl _)
  · refine g_bipush (q := 9) dX11_needed_7 (by decide +kernel) rfl ?_
    refine g_ireturn dX11_needed_9 rfl ?_
    rw [← hP]
    exact ⟨_, rfl, Or.inr (Or.inr ⟨wb0.mp c_4, rfl⟩), X.up (by omega) hV, kF.rf⟩
end
