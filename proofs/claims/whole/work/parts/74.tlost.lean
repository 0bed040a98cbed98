/-! the reference: lost lines -/
theorem dX12_lostBy_0 : decode cX12_lostBy 0 = .ok (.aload_n 0, 1) := by decide +kernel
theorem dX12_lostBy_1 : decode cX12_lostBy 1 = .ok (.invokevirtual 369, 3) := by decide +kernel
theorem dX12_lostBy_4 : decode cX12_lostBy 4 = .ok (.iconst 0, 1) := by decide +kernel
theorem dX12_lostBy_5 : decode cX12_lostBy 5 = .ok (.istore 4, 2) := by decide +kernel
theorem dX12_lostBy_7 : decode cX12_lostBy 7 = .ok (.iload 4, 2) := by decide +kernel
theorem dX12_lostBy_9 : decode cX12_lostBy 9 = .ok (.aload_n 0, 1) := by decide +kernel
theorem dX12_lostBy_10 : decode cX12_lostBy 10 = .ok (.getfield 78, 3) := by decide +kernel
theorem dX12_lostBy_13 : decode cX12_lostBy 13 = .ok (.iload_n 1, 1) := by decide +kernel
theorem dX12_lostBy_14 : decode cX12_lostBy 14 = .ok (.iaload, 1) := by decide +kernel
theorem dX12_lostBy_15 : decode cX12_lostBy 15 = .ok (.if_icmp .ge 70, 3) := by decide +kernel
theorem dX12_lostBy_18 : decode cX12_lostBy 18 = .ok (.aload_n 0, 1) := by decide +kernel
theorem dX12_lostBy_19 : decode cX12_lostBy 19 = .ok (.iload_n 1, 1) := by decide +kernel
theorem dX12_lostBy_20 : decode cX12_lostBy 20 = .ok (.iload 4, 2) := by decide +kernel
theorem dX12_lostBy_22 : decode cX12_lostBy 22 = .ok (.invokevirtual 387, 3) := by decide +kernel
theorem dX12_lostBy_25 : decode cX12_lostBy 25 = .ok (.istore 5, 2) := by decide +kernel
theorem dX12_lostBy_27 : decode cX12_lostBy 27 = .ok (.iload 4, 2) := by decide +kernel
theorem dX12_lostBy_29 : decode cX12_lostBy 29 = .ok (.iload_n 2, 1) := by decide +kernel
theorem dX12_lostBy_30 : decode cX12_lostBy 30 = .ok (.if_icmp .ne 12, 3) := by decide +kernel
theorem dX12_lostBy_33 : decode cX12_lostBy 33 = .ok (.iload_n 3, 1) := by decide +kernel
theorem dX12_lostBy_34 : decode cX12_lostBy 34 = .ok (.iconst (-1), 1) := by decide +kernel
theorem dX12_lostBy_35 : decode cX12_lostBy 35 = .ok (.if_icmp .eq 7, 3) := by decide +kernel
theorem dX12_lostBy_38 : decode cX12_lostBy 38 = .ok (.iconst 1, 1) := by decide +kernel
theorem dX12_lostBy_39 : decode cX12_lostBy 39 = .ok (.goto 4, 3) := by decide +kernel
theorem dX12_lostBy_42 : decode cX12_lostBy 42 = .ok (.iconst 0, 1) := by decide +kernel
theorem dX12_lostBy_43 : decode cX12_lostBy 43 = .ok (.istore 6, 2) := by decide +kernel
theorem dX12_lostBy_45 : decode cX12_lostBy 45 = .ok (.iload 6, 2) := by decide +kernel
theorem dX12_lostBy_47 : decode cX12_lostBy 47 = .ok (.ifCond .eq 17, 3) := by decide +kernel
theorem dX12_lostBy_50 : decode cX12_lostBy 50 = .ok (.iload 5, 2) := by decide +kernel
theorem dX12_lostBy_52 : decode cX12_lostBy 52 = .ok (.iconst (-1), 1) := by decide +kernel
theorem dX12_lostBy_53 : decode cX12_lostBy 53 = .ok (.if_icmp .eq 11, 3) := by decide +kernel
theorem dX12_lostBy_56 : decode cX12_lostBy 56 = .ok (.iload 5, 2) := by decide +kernel
theorem dX12_lostBy_58 : decode cX12_lostBy 58 = .ok (.iload_n 3, 1) := by decide +kernel
theorem dX12_lostBy_59 : decode cX12_lostBy 59 = .ok (.if_icmp .eq 5, 3) := by decide +kernel
theorem dX12_lostBy_62 : decode cX12_lostBy 62 = .ok (.lconst 0, 1) := by decide +kernel
theorem dX12_lostBy_63 : decode cX12_lostBy 63 = .ok (.lreturn, 1) := by decide +kernel
theorem dX12_lostBy_64 : decode cX12_lostBy 64 = .ok (.aload_n 0, 1) := by decide +kernel
theorem dX12_lostBy_65 : decode cX12_lostBy 65 = .ok (.iload 6, 2) := by decide +kernel
theorem dX12_lostBy_67 : decode cX12_lostBy 67 = .ok (.ifCond .eq 7, 3) := by decide +kernel
theorem dX12_lostBy_70 : decode cX12_lostBy 70 = .ok (.iload_n 3, 1) := by decide +kernel
theorem dX12_lostBy_71 : decode cX12_lostBy 71 = .ok (.goto 5, 3) := by decide +kernel
theorem dX12_lostBy_74 : decode cX12_lostBy 74 = .ok (.iload 5, 2) := by decide +kernel
theorem dX12_lostBy_76 : decode cX12_lostBy 76 = .ok (.invokevirtual 372, 3) := by decide +kernel
theorem dX12_lostBy_79 : decode cX12_lostBy 79 = .ok (.iinc 4 1, 3) := by decide +kernel
theorem dX12_lostBy_82 : decode cX12_lostBy 82 = .ok (.goto (-75), 3) := by decide +kernel
theorem dX12_lostBy_85 : decode cX12_lostBy 85 = .ok (.aload_n 0, 1) := by decide +kernel
theorem dX12_lostBy_86 : decode cX12_lostBy 86 = .ok (.iconst (-1), 1) := by decide +kernel
theorem dX12_lostBy_87 : decode cX12_lostBy 87 = .ok (.invokevirtual 375, 3) := by decide +kernel
theorem dX12_lostBy_90 : decode cX12_lostBy 90 = .ok (.lreturn, 1) := by decide +kernel
theorem dX12_lost_0 : decode cX12_lost 0 = .ok (.aload_n 0, 1) := by decide +kernel
theorem dX12_lost_1 : decode cX12_lost 1 = .ok (.iconst 0, 1) := by decide +kernel
theorem dX12_lost_2 : decode cX12_lost 2 = .ok (.putfield 1, 3) := by decide +kernel
theorem dX12_lost_5 : decode cX12_lost 5 = .ok (.aload_n 0, 1) := by decide +kernel
theorem dX12_lost_6 : decode cX12_lost 6 = .ok (.iload_n 1, 1) := by decide +kernel
theorem dX12_lost_7 : decode cX12_lost 7 = .ok (.bipush 10, 2) := by decide +kernel
theorem dX12_lost_9 : decode cX12_lost 9 = .ok (.iconst 1, 1) := by decide +kernel
theorem dX12_lost_10 : decode cX12_lost 10 = .ok (.invokevirtual 390, 3) := by decide +kernel
theorem dX12_lost_13 : decode cX12_lost 13 = .ok (.istore_n 2, 1) := by decide +kernel
theorem dX12_lost_14 : decode cX12_lost 14 = .ok (.iload_n 2, 1) := by decide +kernel
theorem dX12_lost_15 : decode cX12_lost 15 = .ok (.ifCond .eq 8, 3) := by decide +kernel
theorem dX12_lost_18 : decode cX12_lost 18 = .ok (.iload_n 2, 1) := by decide +kernel
theorem dX12_lost_19 : decode cX12_lost 19 = .ok (.i2l, 1) := by decide +kernel
theorem dX12_lost_20 : decode cX12_lost 20 = .ok (.goto 10, 3) := by decide +kernel
theorem dX12_lost_23 : decode cX12_lost 23 = .ok (.aload_n 0, 1) := by decide +kernel
theorem dX12_lost_24 : decode cX12_lost 24 = .ok (.iload_n 1, 1) := by decide +kernel
theorem dX12_lost_25 : decode cX12_lost 25 = .ok (.iconst (-1), 1) := by decide +kernel
theorem dX12_lost_26 : decode cX12_lost 26 = .ok (.iconst (-1), 1) := by decide +kernel
theorem dX12_lost_27 : decode cX12_lost 27 = .ok (.invokevirtual 406, 3) := by decide +kernel
theorem dX12_lost_30 : decode cX12_lost 30 = .ok (.lreturn, 1) := by decide +kernel
theorem dX12_noLost_0 : decode cX12_noLost 0 = .ok (.aload_n 0, 1) := by decide +kernel
theorem dX12_noLost_1 : decode cX12_noLost 1 = .ok (.iload_n 1, 1) := by decide +kernel
theorem dX12_noLost_2 : decode cX12_noLost 2 = .ok (.bipush 10, 2) := by decide +kernel
theorem dX12_noLost_4 : decode cX12_noLost 4 = .ok (.iconst 1, 1) := by decide +kernel
theorem dX12_noLost_5 : decode cX12_noLost 5 = .ok (.invokevirtual 390, 3) := by decide +kernel
theorem dX12_noLost_8 : decode cX12_noLost 8 = .ok (.istore_n 3, 1) := by decide +kernel
theorem dX12_noLost_9 : decode cX12_noLost 9 = .ok (.iload_n 3, 1) := by decide +kernel
theorem dX12_noLost_10 : decode cX12_noLost 10 = .ok (.ifCond .eq 7, 3) := by decide +kernel
theorem dX12_noLost_13 : decode cX12_noLost 13 = .ok (.iload_n 3, 1) := by decide +kernel
theorem dX12_noLost_14 : decode cX12_noLost 14 = .ok (.goto 27, 3) := by decide +kernel
theorem dX12_noLost_17 : decode cX12_noLost 17 = .ok (.iload_n 2, 1) := by decide +kernel
theorem dX12_noLost_18 : decode cX12_noLost 18 = .ok (.i2l, 1) := by decide +kernel
theorem dX12_noLost_19 : decode cX12_noLost 19 = .ok (.lconst 0, 1) := by decide +kernel
theorem dX12_noLost_20 : decode cX12_noLost 20 = .ok (.aload_n 0, 1) := by decide +kernel
theorem dX12_noLost_21 : decode cX12_noLost 21 = .ok (.getfield 78, 3) := by decide +kernel
theorem dX12_noLost_24 : decode cX12_noLost 24 = .ok (.iload_n 1, 1) := by decide +kernel
theorem dX12_noLost_25 : decode cX12_noLost 25 = .ok (.iaload, 1) := by decide +kernel
theorem dX12_noLost_26 : decode cX12_noLost 26 = .ok (.iconst 1, 1) := by decide +kernel
theorem dX12_noLost_27 : decode cX12_noLost 27 = .ok (.isub, 1) := by decide +kernel
theorem dX12_noLost_28 : decode cX12_noLost 28 = .ok (.i2l, 1) := by decide +kernel
theorem dX12_noLost_29 : decode cX12_noLost 29 = .ok (.invokestatic 150, 3) := by decide +kernel
theorem dX12_noLost_32 : decode cX12_noLost 32 = .ok (.ifCond .eq 7, 3) := by decide +kernel
theorem dX12_noLost_35 : decode cX12_noLost 35 = .ok (.iconst 0, 1) := by decide +kernel
theorem dX12_noLost_36 : decode cX12_noLost 36 = .ok (.goto 5, 3) := by decide +kernel
theorem dX12_noLost_39 : decode cX12_noLost 39 = .ok (.bipush (-7), 2) := by decide +kernel
theorem dX12_noLost_41 : decode cX12_noLost 41 = .ok (.ireturn, 1) := by decide +kernel
theorem dX12_sureMinute_0 : decode cX12_sureMinute 0 = .ok (.aload_n 0, 1) := by decide +kernel
theorem dX12_sureMinute_1 : decode cX12_sureMinute 1 = .ok (.iconst 0, 1) := by decide +kernel
theorem dX12_sureMinute_2 : decode cX12_sureMinute 2 = .ok (.putfield 1, 3) := by decide +kernel
theorem dX12_sureMinute_5 : decode cX12_sureMinute 5 = .ok (.aload_n 0, 1) := by decide +kernel
theorem dX12_sureMinute_6 : decode cX12_sureMinute 6 = .ok (.iload_n 1, 1) := by decide +kernel
theorem dX12_sureMinute_7 : decode cX12_sureMinute 7 = .ok (.iload_n 2, 1) := by decide +kernel
theorem dX12_sureMinute_8 : decode cX12_sureMinute 8 = .ok (.invokevirtual 410, 3) := by decide +kernel
theorem dX12_sureMinute_11 : decode cX12_sureMinute 11 = .ok (.istore_n 3, 1) := by decide +kernel
theorem dX12_sureMinute_12 : decode cX12_sureMinute 12 = .ok (.iload_n 3, 1) := by decide +kernel
theorem dX12_sureMinute_13 : decode cX12_sureMinute 13 = .ok (.ifCond .eq 5, 3) := by decide +kernel
theorem dX12_sureMinute_16 : decode cX12_sureMinute 16 = .ok (.iload_n 3, 1) := by decide +kernel
theorem dX12_sureMinute_17 : decode cX12_sureMinute 17 = .ok (.ireturn, 1) := by decide +kernel
theorem dX12_sureMinute_18 : decode cX12_sureMinute 18 = .ok (.aload_n 0, 1) := by decide +kernel
theorem dX12_sureMinute_19 : decode cX12_sureMinute 19 = .ok (.iload_n 1, 1) := by decide +kernel
theorem dX12_sureMinute_20 : decode cX12_sureMinute 20 = .ok (.iconst (-1), 1) := by decide +kernel
theorem dX12_sureMinute_21 : decode cX12_sureMinute 21 = .ok (.iconst (-1), 1) := by decide +kernel
theorem dX12_sureMinute_22 : decode cX12_sureMinute 22 = .ok (.invokevirtual 406, 3) := by decide +kernel
theorem dX12_sureMinute_25 : decode cX12_sureMinute 25 = .ok (.lstore 4, 2) := by decide +kernel
theorem dX12_sureMinute_27 : decode cX12_sureMinute 27 = .ok (.iconst 0, 1) := by decide +kernel
theorem dX12_sureMinute_28 : decode cX12_sureMinute 28 = .ok (.istore 6, 2) := by decide +kernel
theorem dX12_sureMinute_30 : decode cX12_sureMinute 30 = .ok (.iload 6, 2) := by decide +kernel
theorem dX12_sureMinute_32 : decode cX12_sureMinute 32 = .ok (.bipush 60, 2) := by decide +kernel
theorem dX12_sureMinute_34 : decode cX12_sureMinute 34 = .ok (.if_icmp .ge 43, 3) := by decide +kernel
theorem dX12_sureMinute_37 : decode cX12_sureMinute 37 = .ok (.lload 4, 2) := by decide +kernel
theorem dX12_sureMinute_39 : decode cX12_sureMinute 39 = .ok (.lconst 0, 1) := by decide +kernel
theorem dX12_sureMinute_40 : decode cX12_sureMinute 40 = .ok (.lcmp, 1) := by decide +kernel
theorem dX12_sureMinute_41 : decode cX12_sureMinute 41 = .ok (.ifCond .le 36, 3) := by decide +kernel
theorem dX12_sureMinute_44 : decode cX12_sureMinute 44 = .ok (.aload_n 0, 1) := by decide +kernel
theorem dX12_sureMinute_45 : decode cX12_sureMinute 45 = .ok (.iload 6, 2) := by decide +kernel
theorem dX12_sureMinute_47 : decode cX12_sureMinute 47 = .ok (.i2l, 1) := by decide +kernel
theorem dX12_sureMinute_48 : decode cX12_sureMinute 48 = .ok (.invokevirtual 384, 3) := by decide +kernel
theorem dX12_sureMinute_51 : decode cX12_sureMinute 51 = .ok (.ifCond .eq 20, 3) := by decide +kernel
theorem dX12_sureMinute_54 : decode cX12_sureMinute 54 = .ok (.aload_n 0, 1) := by decide +kernel
theorem dX12_sureMinute_55 : decode cX12_sureMinute 55 = .ok (.iload_n 1, 1) := by decide +kernel
theorem dX12_sureMinute_56 : decode cX12_sureMinute 56 = .ok (.iload_n 2, 1) := by decide +kernel
theorem dX12_sureMinute_57 : decode cX12_sureMinute 57 = .ok (.iload 6, 2) := by decide +kernel
theorem dX12_sureMinute_59 : decode cX12_sureMinute 59 = .ok (.invokevirtual 406, 3) := by decide +kernel
theorem dX12_sureMinute_62 : decode cX12_sureMinute 62 = .ok (.lload 4, 2) := by decide +kernel
theorem dX12_sureMinute_64 : decode cX12_sureMinute 64 = .ok (.lcmp, 1) := by decide +kernel
theorem dX12_sureMinute_65 : decode cX12_sureMinute 65 = .ok (.ifCond .ne 6, 3) := by decide +kernel
theorem dX12_sureMinute_68 : decode cX12_sureMinute 68 = .ok (.iload 6, 2) := by decide +kernel
theorem dX12_sureMinute_70 : decode cX12_sureMinute 70 = .ok (.ireturn, 1) := by decide +kernel
theorem dX12_sureMinute_71 : decode cX12_sureMinute 71 = .ok (.iinc 6 1, 3) := by decide +kernel
theorem dX12_sureMinute_74 : decode cX12_sureMinute 74 = .ok (.goto (-44), 3) := by decide +kernel
theorem dX12_sureMinute_77 : decode cX12_sureMinute 77 = .ok (.iconst (-1), 1) := by decide +kernel
theorem dX12_sureMinute_78 : decode cX12_sureMinute 78 = .ok (.ireturn, 1) := by decide +kernel
theorem dX12_speakers_0 : decode cX12_speakers 0 = .ok (.aload_n 0, 1) := by decide +kernel
theorem dX12_speakers_1 : decode cX12_speakers 1 = .ok (.iconst 0, 1) := by decide +kernel
theorem dX12_speakers_2 : decode cX12_speakers 2 = .ok (.putfield 1, 3) := by decide +kernel
theorem dX12_speakers_5 : decode cX12_speakers 5 = .ok (.aload_n 0, 1) := by decide +kernel
theorem dX12_speakers_6 : decode cX12_speakers 6 = .ok (.iload_n 1, 1) := by decide +kernel
theorem dX12_speakers_7 : decode cX12_speakers 7 = .ok (.iload_n 2, 1) := by decide +kernel
theorem dX12_speakers_8 : decode cX12_speakers 8 = .ok (.invokevirtual 410, 3) := by decide +kernel
theorem dX12_speakers_11 : decode cX12_speakers 11 = .ok (.istore_n 3, 1) := by decide +kernel
theorem dX12_speakers_12 : decode cX12_speakers 12 = .ok (.iload_n 3, 1) := by decide +kernel
theorem dX12_speakers_13 : decode cX12_speakers 13 = .ok (.ifCond .eq 5, 3) := by decide +kernel
theorem dX12_speakers_16 : decode cX12_speakers 16 = .ok (.iload_n 3, 1) := by decide +kernel
theorem dX12_speakers_17 : decode cX12_speakers 17 = .ok (.ireturn, 1) := by decide +kernel
theorem dX12_speakers_18 : decode cX12_speakers 18 = .ok (.iconst 0, 1) := by decide +kernel
theorem dX12_speakers_19 : decode cX12_speakers 19 = .ok (.istore 4, 2) := by decide +kernel
theorem dX12_speakers_21 : decode cX12_speakers 21 = .ok (.iconst 0, 1) := by decide +kernel
theorem dX12_speakers_22 : decode cX12_speakers 22 = .ok (.istore 5, 2) := by decide +kernel
theorem dX12_speakers_24 : decode cX12_speakers 24 = .ok (.iload 5, 2) := by decide +kernel
theorem dX12_speakers_26 : decode cX12_speakers 26 = .ok (.bipush 60, 2) := by decide +kernel
theorem dX12_speakers_28 : decode cX12_speakers 28 = .ok (.if_icmp .ge 58, 3) := by decide +kernel
theorem dX12_speakers_31 : decode cX12_speakers 31 = .ok (.aload_n 0, 1) := by decide +kernel
theorem dX12_speakers_32 : decode cX12_speakers 32 = .ok (.iload 5, 2) := by decide +kernel
theorem dX12_speakers_34 : decode cX12_speakers 34 = .ok (.i2l, 1) := by decide +kernel
theorem dX12_speakers_35 : decode cX12_speakers 35 = .ok (.invokevirtual 384, 3) := by decide +kernel
theorem dX12_speakers_38 : decode cX12_speakers 38 = .ok (.ifCond .eq 42, 3) := by decide +kernel
theorem dX12_speakers_41 : decode cX12_speakers 41 = .ok (.iload 4, 2) := by decide +kernel
theorem dX12_speakers_43 : decode cX12_speakers 43 = .ok (.i2l, 1) := by decide +kernel
theorem dX12_speakers_44 : decode cX12_speakers 44 = .ok (.iload 5, 2) := by decide +kernel
theorem dX12_speakers_46 : decode cX12_speakers 46 = .ok (.bipush 10, 2) := by decide +kernel
theorem dX12_speakers_48 : decode cX12_speakers 48 = .ok (.idiv, 1) := by decide +kernel
theorem dX12_speakers_49 : decode cX12_speakers 49 = .ok (.invokestatic 413, 3) := by decide +kernel
theorem dX12_speakers_52 : decode cX12_speakers 52 = .ok (.ifCond .ne 28, 3) := by decide +kernel
theorem dX12_speakers_55 : decode cX12_speakers 55 = .ok (.aload_n 0, 1) := by decide +kernel
theorem dX12_speakers_56 : decode cX12_speakers 56 = .ok (.iload_n 1, 1) := by decide +kernel
theorem dX12_speakers_57 : decode cX12_speakers 57 = .ok (.iload_n 2, 1) := by decide +kernel
theorem dX12_speakers_58 : decode cX12_speakers 58 = .ok (.iload 5, 2) := by decide +kernel
theorem dX12_speakers_60 : decode cX12_speakers 60 = .ok (.invokevirtual 406, 3) := by decide +kernel
theorem dX12_speakers_63 : decode cX12_speakers 63 = .ok (.lconst 0, 1) := by decide +kernel
theorem dX12_speakers_64 : decode cX12_speakers 64 = .ok (.lcmp, 1) := by decide +kernel
theorem dX12_speakers_65 : decode cX12_speakers 65 = .ok (.ifCond .le 15, 3) := by decide +kernel
theorem dX12_speakers_68 : decode cX12_speakers 68 = .ok (.iload 4, 2) := by decide +kernel
theorem dX12_speakers_70 : decode cX12_speakers 70 = .ok (.iconst 1, 1) := by decide +kernel
theorem dX12_speakers_71 : decode cX12_speakers 71 = .ok (.iload 5, 2) := by decide +kernel
theorem dX12_speakers_73 : decode cX12_speakers 73 = .ok (.bipush 10, 2) := by decide +kernel
theorem dX12_speakers_75 : decode cX12_speakers 75 = .ok (.idiv, 1) := by decide +kernel
theorem dX12_speakers_76 : decode cX12_speakers 76 = .ok (.ishl, 1) := by decide +kernel
theorem dX12_speakers_77 : decode cX12_speakers 77 = .ok (.ior, 1) := by decide +kernel
theorem dX12_speakers_78 : decode cX12_speakers 78 = .ok (.istore 4, 2) := by decide +kernel
theorem dX12_speakers_80 : decode cX12_speakers 80 = .ok (.iinc 5 1, 3) := by decide +kernel
theorem dX12_speakers_83 : decode cX12_speakers 83 = .ok (.goto (-59), 3) := by decide +kernel
theorem dX12_speakers_86 : decode cX12_speakers 86 = .ok (.iload 4, 2) := by decide +kernel
theorem dX12_speakers_88 : decode cX12_speakers 88 = .ok (.ireturn, 1) := by decide +kernel
theorem okN_t {β : Bk} {lost u : Int} (h : okN β lost u) : toldOk β u := by
  rcases h with h | h
  · exact Or.inr h
  · exact Or.inl h.2
section
variable (d : Nat) (sh : mbSh) (ct : mbCt) {β : Bk} {mk : Int → Int} {st : Int} {sz bt : Int → Int} {vl : Int → Int → Int}
set_option maxRecDepth 4000 in
theorem tw_lostBy {t p mi : Int} {n : Nat} {tl : Int → Int} (S : SH sh) (M : MD ct β mk st) (R : rowT ct t n tl) (hn : n ≤ 10) (hr : ∀ i : Nat, i < n → okN β 1 (tl i)) (hp : (p = -1 ∧ mi = -1) ∨ (0 ≤ p ∧ p < n ∧ okN β 0 mi)) : Mt YX12_lostBy (d + 7) [.inr (.inr 92), .inl t, .inl p, .inl mi] sh sh ct (pL fun r c => r = (if mi = -1 then cW β mk (-1) tl n n st else cntV β mk tl n st p mi) ∧ mF ct c) := by
  have hB := M.B
  have hrg := M.rg
  have hb2 := hB.2.2.1
  have hb3 := hB.2.2.2.1
  have h1 := R.1
  have hmi : -1 ≤ mi ∧ mi < 100 := by
    rcases hp with h | ⟨a, b, h | h⟩ <;> omega
  have s112 : shA sh 112 = some (20, 4) := S.at _ rfl
  generalize hP : (pL fun r c => r = (if mi = -1 then cW β mk (-1) tl n n st else cntV β mk tl n st p mi) ∧ mF ct c) = Po
  refine Mt.of rfl (Nat.le_of_ble_eq_true rfl) ?_
  show G _ 0 [some (.inr (.inr 92)), some (.inl t), some (.inl p), some (.inl mi), none, none, none] [] sh ct
  refine g_aload_n (q := 1) dX12_lostBy_0 rfl rfl ?_
  refine g_callV (q := 4) lX12_369 mX12_beginsRows nX12_beginsRows rfl (tw_beginsRows d sh _ S M) (by first | assumption | exact S.at _ rfl) rfl rfl shLe.rf (rmOk.mk (by omega) (by first | exact shLe.rf | assumption)) (Nat.le_of_ble_eq_true rfl) dX12_lostBy_1 rfl rfl (kN fun c1 hp1 => ?_)
  obtain ⟨D, hst, e1⟩ := hp1
  refine g_iconst (q := 5) dX12_lostBy_4 rfl ?_
  refine s_istore_7_4 (q := 7) dX12_lostBy_5 rfl rfl rfl ?_
  refine g_for (fun k => [some (.inr (.inr 92)), some (.inl t), some (.inl p), some (.inl mi), some (.inl k), none, none]) (fun k c => 0 ≤ k ∧ mF ct c ∧ LD c β mk (-1) (-1) 9 ∧ RwI c β mk (-1) (updT tl p mi) n k.toNat (cW β mk (-1) (updT tl p mi) n n st) ∧ (mi ≠ -1 → p < k → ¬ (tl p ≠ -1 ∧ tl p ≠ mi))) n ?_ ?_ (i := 0) (by omega) ⟨by omega, mF.of e1 rfl, D, RwI.start hrg.1 hrg.2 hst, fun h1 h2 => by omega⟩ (by simp [lsSub])
  · rintro k c hk ⟨k0, e, D, RW, hok⟩ kk
    have L2 := e.L M.L
    have ek : ((k.toNat : Nat) : Int) = k := by omega
    have hkn : k.toNat < n := by omega
    have R2 : rowT c t n tl := R.eq ct (e.1 112 (by decide)) (e.1 113 (by decide))
    have h112 := R2.2.2.1
    have hRk := R2.2.2.2 k.toNat hkn
    have hrk := hr k.toNat hkn
    rw [ek] at hRk hrk
    have step : ∀ (v : Int) (o5 o6 : Option gV), v = updT tl p mi k → toldOk β v → -1 ≤ v ∧ v < 100 → (mi ≠ -1 → p = k → ¬ (tl p ≠ -1 ∧ tl p ≠ mi)) → G (mkK YX12_lostBy (d + 7) sh sh Po) 76 [some (.inr (.inr 92)), some (.inl t), some (.inl p), some (.inl mi), some (.inl k), o5, o6] [.inl v, .inr (.inr 92)] sh c := by
      intro v o5 o6 hv hto hvb hpk
      refine g_callV (q := 79) lX12_372 mX12_goesRows nX12_goesRows rfl (tw_goesRows d sh _ S L2 D hB hvb (RW.rg (by omega))) (by first | assumption | exact S.at _ rfl) rfl rfl shLe.rf (rmOk.mk (by omega) (by first | exact shLe.rf | assumption)) (Nat.le_of_ble_eq_true rfl) dX12_lostBy_76 rfl rfl (kN fun c2 hp2 => ?_)
      refine s_iinc_7_4 (q := 82) dX12_lostBy_79 rfl rfl rfl ?_
      refine g_goto (q := 7) dX12_lostBy_82 (by decide) ?_
      refine kk _ _ (by simp [lsSub]) ⟨by omega, e.tr (mF.of hp2.2.2 rfl), D.eq (hp2.2.2 100 (by decide)) (hp2.2.2 103 (by decide)), ?_, fun a b => ?_⟩
      · rw [show (k + 1).toNat = k.toNat + 1 by omega]
        exact RW.step hB hkn hto (by rw [ek]; exact hv.symm) hp2
      · by_cases hpe : p = k
        · exact hpk a hpe
        · exact hok a (by omega)
    have h1a := h1
    refine g_iload (q := 9) dX12_lostBy_7 rfl rfl ?_
    refine g_aload_n (q := 10) dX12_lostBy_9 rfl rfl ?_
    refine g_getA (q := 13) (kI := 33) fX12_78 (by first | assumption | exact S.at _ rfl) dX12_lostBy_10 rfl rfl (by first | assumption | exact L.at _ _ rfl | exact LK.at (by assumption) _ _ rfl | ((repeat first | rewrite [wr_na (by decide)] | rewrite [wr_nk (by decide)] | rewrite [wa_na (by decide)]); first | assumption | exact LK.at (by assumption) _ _ rfl) | exact rfl) ?_
    refine g_iload_n (q := 14) dX12_lostBy_13 rfl rfl ?_
    refine g_iaload (q := 15) (by first | assumption | exact S.at _ rfl) (by omega) (by omega) (by omega) dX12_lostBy_14 rfl ?_
    refine g_icmp_ge (q := 18) (tg := 85) dX12_lostBy_15 (by decide) rfl (fun c_15 => ?_) (fun c_15 => ?_)
    · rw [h112] at c_15
      exact absurd c_15 (by unfold w32; omega)
    · refine g_aload_n (q := 19) dX12_lostBy_18 rfl rfl ?_
      refine g_iload_n (q := 20) dX12_lostBy_19 rfl rfl ?_
      refine g_iload (q := 22) dX12_lostBy_20 rfl rfl ?_
      have hmm := tw_minuteIn (d + 6) sh c (k := k.toNat) S L2 R2 hkn
      rw [ek] at hmm
      refine g_callV (q := 25) lX12_387 mX12_minuteIn nX12_minuteIn rfl (hmm) (by first | assumption | exact S.at _ rfl) rfl rfl shLe.rf (rmOk.mk (by omega) (by first | exact shLe.rf | assumption)) (Nat.le_of_ble_eq_true rfl) dX12_lostBy_22 rfl rfl (kI fun r_ c_ hp => ?_)
      obtain ⟨hr, hq⟩ := hp
      replace hr := hr.symm
      replace hq := hq.symm
      subst hr hq
      have plain : (k ≠ p ∨ mi = -1) → G (mkK YX12_lostBy (d + 7) sh sh Po) 42 [some (.inr (.inr 92)), some (.inl t), some (.inl p), some (.inl mi), some (.inl k), some (.inl (tl k)), none] [] sh c := by
        intro hne
        refine g_iconst (q := 43) dX12_lostBy_42 rfl ?_
        refine s_istore_7_6 (q := 45) dX12_lostBy_43 rfl rfl rfl ?_
        refine g_iload (q := 47) dX12_lostBy_45 rfl rfl ?_
        refine g_if_eq (q := 50) (tg := 64) dX12_lostBy_47 (by decide) rfl (fun c_47 => ?_) (fun c_47 => ?_)
        · refine g_aload_n (q := 65) dX12_lostBy_64 rfl rfl ?_
          refine g_iload (q := 67) dX12_lostBy_65 rfl rfl ?_
          refine g_if_eq (q := 70) (tg := 74) dX12_lostBy_67 (by decide) rfl (fun c_67 => ?_) (fun c_67 => ?_)
          · refine g_iload (q := 76) dX12_lostBy_74 rfl rfl ?_
            refine step (tl k) _ _ ?_ (okN_t hrk) hRk.2 (fun a b => ?_)
            · unfold updT
              rw [if_neg (fun z => hne.elim (fun q => q z.1) (fun q => z.2 q))]
            · rcases hne with h | h
              · exact absurd b.symm h
              · exact absurd h a
          · exact absurd rfl c_67
        · exact absurd rfl c_47
      refine s_istore_7_5 (q := 27) dX12_lostBy_25 rfl rfl rfl ?_
      refine g_iload (q := 29) dX12_lostBy_27 rfl rfl ?_
      refine g_iload_n (q := 30) dX12_lostBy_29 rfl rfl ?_
      refine g_icmp_ne (q := 33) (tg := 42) dX12_lostBy_30 (by decide) rfl (fun c_30 => ?_) (fun c_30 => ?_)
      · exact plain (Or.inl (fun z => c_30 (by rw [z])))
      · have hkp : k = p := by unfold w32 at c_30; omega
        refine g_iload_n (q := 34) dX12_lostBy_33 rfl rfl ?_
        refine g_iconst (q := 35) dX12_lostBy_34 rfl ?_
        refine g_icmp_eq (q := 38) (tg := 42) dX12_lostBy_35 (by decide) rfl (fun c_35 => ?_) (fun c_35 => ?_)
        · exact plain (Or.inr (by unfold w32 at c_35; omega))
        · have hm1 : mi ≠ -1 := fun z => c_35 (by rw [z])
          have hmok : okN β 0 mi := by
            rcases hp with h | h
            · exact absurd h.2 hm1
            · exact h.2.2
          have good : ¬ (tl p ≠ -1 ∧ tl p ≠ mi) → G (mkK YX12_lostBy (d + 7) sh sh Po) 64 [some (.inr (.inr 92)), some (.inl t), some (.inl p), some (.inl mi), some (.inl k), some (.inl (tl k)), some (.inl 1)] [] sh c := by
            intro hg
            refine g_aload_n (q := 65) dX12_lostBy_64 rfl rfl ?_
            refine g_iload (q := 67) dX12_lostBy_65 rfl rfl ?_
            refine g_if_eq (q := 70) (tg := 74) dX12_lostBy_67 (by decide) rfl (fun c_67 => ?_) (fun c_67 => ?_)
            · exact absurd c_67 (by decide)
            · refine g_iload_n (q := 71) dX12_lostBy_70 rfl rfl ?_
              refine g_goto (q := 76) dX12_lostBy_71 (by decide) ?_
              refine step mi _ _ ?_ (okN_t hmok) hmi (fun _ _ => hg)
              unfold updT
              rw [if_pos ⟨hkp, hm1⟩]
          refine g_iconst (q := 39) dX12_lostBy_38 rfl ?_
          refine g_goto (q := 43) dX12_lostBy_39 (by decide) ?_
          refine s_istore_7_6 (q := 45) dX12_lostBy_43 rfl rfl rfl ?_
          refine g_iload (q := 47) dX12_lostBy_45 rfl rfl ?_
          refine g_if_eq (q := 50) (tg := 64) dX12_lostBy_47 (by decide) rfl (fun c_47 => ?_) (fun c_47 => ?_)
          · exact absurd c_47 (by decide)
          · refine g_iload (q := 52) dX12_lostBy_50 rfl rfl ?_
            refine g_iconst (q := 53) dX12_lostBy_52 rfl ?_
            refine g_icmp_eq (q := 56) (tg := 64) dX12_lostBy_53 (by decide) rfl (fun c_53 => ?_) (fun c_53 => ?_)
            · exact good (fun z => z.1 (by rw [← hkp]; unfold w32 at c_53; omega))
            · refine g_iload (q := 58) dX12_lostBy_56 rfl rfl ?_
              refine g_iload_n (q := 59) dX12_lostBy_58 rfl rfl ?_
              refine g_icmp_eq (q := 62) (tg := 64) dX12_lostBy_59 (by decide) rfl (fun c_59 => ?_) (fun c_59 => ?_)
              · exact good (fun z => z.2 (by rw [← hkp]; unfold w32 at c_59; omega))
              · refine g_lconst0 (q := 63) dX12_lostBy_62 rfl ?_
                refine g_lreturn dX12_lostBy_63 rfl ?_
                rw [← hP]
                refine ⟨_, rfl, ?_, e⟩
                rw [if_neg hm1]
                unfold cntV
                rw [← hkp, if_pos ⟨fun z => c_53 (by rw [z]), fun z => c_59 (by rw [z])⟩]
  · rintro c ⟨-, e, D, RW, hok⟩
    have L2 := e.L M.L
    have R2 : rowT c t n tl := R.eq ct (e.1 112 (by decide)) (e.1 113 (by decide))
    have h112 := R2.2.2.1
    rw [show ((n : Int)).toNat = n by omega] at RW
    have h1a := h1
    refine g_iload (q := 9) dX12_lostBy_7 rfl rfl ?_
    refine g_aload_n (q := 10) dX12_lostBy_9 rfl rfl ?_
    refine g_getA (q := 13) (kI := 33) fX12_78 (by first | assumption | exact S.at _ rfl) dX12_lostBy_10 rfl rfl (by first | assumption | exact L.at _ _ rfl | exact LK.at (by assumption) _ _ rfl | ((repeat first | rewrite [wr_na (by decide)] | rewrite [wr_nk (by decide)] | rewrite [wa_na (by decide)]); first | assumption | exact LK.at (by assumption) _ _ rfl) | exact rfl) ?_
    refine g_iload_n (q := 14) dX12_lostBy_13 rfl rfl ?_
    refine g_iaload (q := 15) (by first | assumption | exact S.at _ rfl) (by omega) (by omega) (by omega) dX12_lostBy_14 rfl ?_
    refine g_icmp_ge (q := 18) (tg := 85) dX12_lostBy_15 (by decide) rfl (fun c_15 => ?_) (fun c_15 => ?_)
    · refine g_aload_n (q := 86) dX12_lostBy_85 rfl rfl ?_
      refine g_iconst (q := 87) dX12_lostBy_86 rfl ?_
      refine g_callV (q := 90) lX12_375 mX12_endsIn nX12_endsIn rfl (tw_endsIn d sh _ S L2 D (by decide) (by decide)) (by first | assumption | exact S.at _ rfl) rfl rfl shLe.rf (rmOk.mk (by omega) (by first | exact shLe.rf | assumption)) (Nat.le_of_ble_eq_true rfl) dX12_lostBy_87 rfl rfl (kL fun r_ c_ hp => ?_)
      obtain ⟨hr, hq⟩ := hp
      replace hr := hr.symm
      replace hq := hq.symm
      subst hr hq
      refine g_lreturn dX12_lostBy_90 rfl ?_
      rw [← hP]
      refine ⟨_, rfl, ?_, e⟩
      rw [RW.fin]
      by_cases hm1 : mi = -1
      · rw [if_pos hm1]
        congr 1
        funext k
        unfold updT
        rw [if_neg (fun z => z.2 hm1)]
      · rw [if_neg hm1]
        unfold cntV
        rw [if_neg (hok hm1 (by rcases hp with h | h; exact absurd h.2 hm1; exact h.2.1))]
    · rw [h112] at c_15
      exact absurd c_15 (Int.lt_irrefl _)
theorem tw_lost {t : Int} {tl : Int → Int} (S : SH sh) (M : MD ct β mk st) (T : MT ct sz bt vl) (ht : i32 t) (htl : told sz vl t tl) : Mt YX12_lost (d + 8) [.inr (.inr 92), .inl t] sh sh ct (pL fun r c => (∃ no, rowR β sz vl t 10 1 no ∧ ((no ≠ 0 ∧ r = no) ∨ (no = 0 ∧ r = cW β mk (-1) tl (sz t).toNat (sz t).toNat st))) ∧ mF ct c) := by
  have hB := M.B
  generalize hP : (pL fun r c => (∃ no, rowR β sz vl t 10 1 no ∧ ((no ≠ 0 ∧ r = no) ∨ (no = 0 ∧ r = cW β mk (-1) tl (sz t).toNat (sz t).toNat st))) ∧ mF ct c) = Po
  have L := M.L
  refine Mt.of rfl (Nat.le_of_ble_eq_true rfl) ?_
  show G _ 0 [some (.inr (.inr 92)), some (.inl t), none] [] sh ct
  refine g_aload_n (q := 1) dX12_lost_0 rfl rfl ?_
  refine g_iconst (q := 2) dX12_lost_1 rfl ?_
  refine g_putI (q := 5) (kI := 0) fX12_1 (by first | assumption | exact S.at _ rfl) dX12_lost_2 rfl rfl ?_
  refine g_aload_n (q := 6) dX12_lost_5 rfl rfl ?_
  refine g_iload_n (q := 7) dX12_lost_6 rfl rfl ?_
  refine g_bipush (q := 9) dX12_lost_7 (by decide +kernel) rfl ?_
  refine g_iconst (q := 10) dX12_lost_9 rfl ?_
  refine g_callV (q := 13) lX12_390 mX12_noRow nX12_noRow rfl (tw_noRow (d + 4) sh _ S (M.mf mF.th) (T.mf mF.th) ht (by omega) (Or.inr rfl)) (by first | assumption | exact S.at _ rfl) rfl rfl shLe.rf (rmOk.mk (by omega) (by first | exact shLe.rf | assumption)) (Nat.le_of_ble_eq_true rfl) dX12_lost_10 rfl rfl (kI fun no c1 hp => ?_)
  obtain ⟨hno, rfl⟩ := hp
  have hng := hno.rg
  refine s_istore_n_3_2 (q := 14) dX12_lost_13 rfl rfl rfl ?_
  refine g_iload_n (q := 15) dX12_lost_14 rfl rfl ?_
  refine g_if_eq (q := 18) (tg := 23) dX12_lost_15 (by decide) rfl (fun c_15 => ?_) (fun c_15 => ?_)
  · have h0 : no = 0 := by unfold w32 at c_15; omega
    subst h0
    have hrow := hno.zero
    have h2 := hrow.2.1
    have en : (((sz t).toNat : Nat) : Int) = sz t := by omega
    have R := hrow.row _ hB (T.mf (mF.th (v := 0))) en (fun i hi => htl i (by omega))
    refine g_aload_n (q := 24) dX12_lost_23 rfl rfl ?_
    refine g_iload_n (q := 25) dX12_lost_24 rfl rfl ?_
    refine g_iconst (q := 26) dX12_lost_25 rfl ?_
    refine g_iconst (q := 27) dX12_lost_26 rfl ?_
    refine g_callV (q := 30) lX12_406 mX12_lostBy nX12_lostBy rfl (tw_lostBy d sh _ S (M.mf mF.th) R.1 (by omega) R.2 (Or.inl ⟨rfl, rfl⟩)) (by first | assumption | exact S.at _ rfl) rfl rfl shLe.rf (rmOk.mk (by omega) (by first | exact shLe.rf | assumption)) (Nat.le_of_ble_eq_true rfl) dX12_lost_27 rfl rfl (kL fun r c2 hp => ?_)
    obtain ⟨hr, e2⟩ := hp
    rw [if_pos rfl] at hr
    refine g_lreturn dX12_lost_30 rfl ?_
    rw [← hP]
    exact ⟨_, rfl, ⟨0, hno, Or.inr ⟨rfl, hr⟩⟩, mF.th.tr e2⟩
  · refine g_iload_n (q := 19) dX12_lost_18 rfl rfl ?_
    refine g_i2l (q := 20) dX12_lost_19 rfl ?_
    refine g_goto (q := 30) dX12_lost_20 (by decide) ?_
    refine g_lreturn dX12_lost_30 rfl ?_
    rw [← hP]
    refine ⟨_, rfl, ⟨no, hno, Or.inl ⟨fun z => c_15 (by rw [z]; rfl), ?_⟩⟩, mF.th⟩
    unfold w32
    omega
def lostNo (β : Bk) (sz : Int → Int) (vl : Int → Int → Int) (t p r : Int) : Prop := ∃ no, rowR β sz vl t 10 1 no ∧ ((no ≠ 0 ∧ r = no) ∨ (no = 0 ∧ r = if 0 ≤ p ∧ p < sz t then 0 else -7))
theorem lostNo.rg {t p r : Int} (h : lostNo β sz vl t p r) : -7 ≤ r ∧ r ≤ 0 := by
  obtain ⟨no, h1, h2 | h2⟩ := h
  · have := h1.rg
    omega
  · have := h2.2
    split at this <;> omega
theorem lostNo.zero {t p : Int} (h : lostNo β sz vl t p 0) : rowOk β sz vl t 10 1 ∧ 0 ≤ p ∧ p < sz t := by
  obtain ⟨no, h1, h2 | ⟨h2, h3⟩⟩ := h
  · omega
  · subst h2
    refine ⟨h1.zero, ?_⟩
    split at h3 <;> omega
theorem lostNo.uni {t p r r2 : Int} (h : lostNo β sz vl t p r) (h2 : lostNo β sz vl t p r2) : r = r2 := by
  obtain ⟨no, h1, h3⟩ := h
  obtain ⟨no2, h4, h5⟩ := h2
  have := h1.uni h4
  subst this
  rcases h3 with ⟨a, b⟩ | ⟨a, b⟩ <;> rcases h5 with ⟨a', b'⟩ | ⟨a', b'⟩
  · omega
  · exact absurd a' a
  · exact absurd a a'
  · rw [b, b']
theorem tw_noLost {t p : Int} (S : SH sh) (M : MD ct β mk st) (T : MT ct sz bt vl) (ht : i32 t) (hp : i32 p) : Mt YX12_noLost (d + 4) [.inr (.inr 92), .inl t, .inl p] sh sh ct (pI fun r c => lostNo β sz vl t p r ∧ c = ct) := by
  have L := M.L
  unfold i32 at hp
  have s112 : shA sh 112 = some (20, 4) := S.at _ rfl
  refine Mt.of rfl (Nat.le_of_ble_eq_true rfl) ?_
  show G _ 0 [some (.inr (.inr 92)), some (.inl t), some (.inl p), none] [] sh ct
  refine g_aload_n (q := 1) dX12_noLost_0 rfl rfl ?_
  refine g_iload_n (q := 2) dX12_noLost_1 rfl rfl ?_
  refine g_bipush (q := 4) dX12_noLost_2 (by decide +kernel) rfl ?_
  refine g_iconst (q := 5) dX12_noLost_4 rfl ?_
  refine g_callV (q := 8) lX12_390 mX12_noRow nX12_noRow rfl (tw_noRow d sh _ S M T ht (by omega) (Or.inr rfl)) (by first | assumption | exact S.at _ rfl) rfl rfl shLe.rf (rmOk.mk (by omega) (by first | exact shLe.rf | assumption)) (Nat.le_of_ble_eq_true rfl) dX12_noLost_5 rfl rfl (kI fun no c1 hp1 => ?_)
  obtain ⟨hno, rfl⟩ := hp1
  have hng := hno.rg
  refine s_istore_n_4_3 (q := 9) dX12_noLost_8 rfl rfl rfl ?_
  refine g_iload_n (q := 10) dX12_noLost_9 rfl rfl ?_
  refine g_if_eq (q := 13) (tg := 17) dX12_noLost_10 (by decide) rfl (fun c_10 => ?_) (fun c_10 => ?_)
  · have h0 : no = 0 := by unfold w32 at c_10; omega
    subst h0
    have hrow := hno.zero
    have h1 := hrow.1
    have h2 := hrow.2.1
    have hT := T t h1.1 h1.2
    have h112 : c1 112 t = sz t := by
      rcases hT with ⟨a, b⟩ | ⟨a, b, e, f⟩
      · omega
      · exact b
    refine g_iload_n (q := 18) dX12_noLost_17 rfl rfl ?_
    refine g_i2l (q := 19) dX12_noLost_18 rfl ?_
    refine g_lconst0 (q := 20) dX12_noLost_19 rfl ?_
    refine g_aload_n (q := 21) dX12_noLost_20 rfl rfl ?_
    refine g_getA (q := 24) (kI := 33) fX12_78 (by first | assumption | exact S.at _ rfl) dX12_noLost_21 rfl rfl (by first | assumption | exact L.at _ _ rfl | exact LK.at (by assumption) _ _ rfl | ((repeat first | rewrite [wr_na (by decide)] | rewrite [wr_nk (by decide)] | rewrite [wa_na (by decide)]); first | assumption | exact LK.at (by assumption) _ _ rfl) | exact rfl) ?_
    refine g_iload_n (q := 25) dX12_noLost_24 rfl rfl ?_
    refine g_iaload (q := 26) (by first | assumption | exact S.at _ rfl) (by omega) (by omega) (by omega) dX12_noLost_25 rfl ?_
    refine g_iconst (q := 27) dX12_noLost_26 rfl ?_
    refine g_isub (q := 28) dX12_noLost_27 rfl ?_
    refine g_i2l (q := 29) dX12_noLost_28 rfl ?_
    rw [h112, w32_id (x := p) hp.1 hp.2, w32_id (x := sz t - 1) (by omega) (by omega)]
    refine g_callS (q := 32) lX12_150 mX12_within sX12_within rfl (tw_within (d + 3) sh _) shLe.rf (rmOk.mk (by omega) (by first | exact shLe.rf | assumption)) (Nat.le_of_ble_eq_true rfl) dX12_noLost_29 rfl rfl (kI fun r_ c_ hp => ?_)
    obtain ⟨hr, hq⟩ := hp
    replace hr := hr.symm
    replace hq := hq.symm
    subst hr hq
    refine g_if_eq (q := 35) (tg := 39) dX12_noLost_32 (by decide) rfl (fun c_32 => ?_) (fun c_32 => ?_)
    · have h32 := wb0.mp c_32
      refine g_bipush (q := 41) dX12_noLost_39 (by decide +kernel) rfl ?_
      refine g_ireturn dX12_noLost_41 rfl ?_
      refine ⟨_, rfl, ⟨0, hno, Or.inr ⟨rfl, ?_⟩⟩, rfl⟩
      rw [if_neg (by unfold w64 at h32; omega)]
    · have h32 := wbn.mp c_32
      refine g_iconst (q := 36) dX12_noLost_35 rfl ?_
      refine g_goto (q := 41) dX12_noLost_36 (by decide) ?_
      refine g_ireturn dX12_noLost_41 rfl ?_
      refine ⟨_, rfl, ⟨0, hno, Or.inr ⟨rfl, ?_⟩⟩, rfl⟩
      rw [if_pos (by unfold w64 at h32; omega)]
  · refine g_iload_n (q := 14) dX12_noLost_13 rfl rfl ?_
    refine g_goto (q := 41) dX12_noLost_14 (by decide) ?_
    refine g_ireturn dX12_noLost_41 rfl ?_
    exact ⟨_, rfl, ⟨no, hno, Or.inl ⟨fun z => c_10 (by rw [z]; rfl), rfl⟩⟩, rfl⟩
/-- a minute that stands at the place in some row -/
def fitV (β : Bk) (mk : Int → Int) (tl : Int → Int) (n : Nat) (st p v : Int) : Prop := (0 ≤ v ∧ v / 10 < β.n 2 ∧ v % 10 < β.n 3) ∧ 0 < cntV β mk tl n st p v
def qSure (β : Bk) (mk : Int → Int) (tl : Int → Int) (n : Nat) (st p r : Int) : Prop := (fitV β mk tl n st p r ∧ ∀ v, fitV β mk tl n st p v → v = r) ∨ (r = -1 ∧ ¬ ∃ u, fitV β mk tl n st p u ∧ ∀ v, fitV β mk tl n st p v → v = u)
theorem qSure.uni {tl : Int → Int} {n : Nat} {p r r2 : Int} (h : qSure β mk tl n st p r) (h2 : qSure β mk tl n st p r2) : r = r2 := by
  rcases h with ⟨a, b⟩ | ⟨a, b⟩ <;> rcases h2 with ⟨a', b'⟩ | ⟨a', b'⟩
  · exact (b r2 a').symm
  · exact absurd ⟨r, a, b⟩ b'
  · exact absurd ⟨r2, a', b'⟩ b
  · rw [a, a']
theorem cntV_nn {tl : Int → Int} {n : Nat} (p v : Int) : 0 ≤ cntV β mk tl n st p v := by
  unfold cntV
  split
  · omega
  · exact cW_nn _ _
/-- one stands there in all rows just if it alone fits -/
theorem sure_iff {tl : Int → Int} {n p : Nat} (hp : p < n) (hB : bkB β) (ht : toldOk β (tl p)) {v : Int} (hv : 0 ≤ v ∧ v / 10 < β.n 2 ∧ v % 10 < β.n 3) (hw : 0 < cW β mk (-1) tl n n st) : cntV β mk tl n st p v = cW β mk (-1) tl n n st ↔ ∀ u, fitV β mk tl n st p u → u = v := by
  have hb2 := hB.2.2.1
  have hb3 := hB.2.2.2.1
  have hsum := cnt_sum (mk := mk) (st := st) hp hB ht
  obtain ⟨i, hi, rfl, -, -⟩ := mnt_of hv.1 (by omega) (by omega)
  have hspl := sm_upd (f := fun j => if j = (i : Int) then 0 else cntV β mk tl n st p (mnt j.toNat)) (g := fun j => cntV β mk tl n st p (mnt j.toNat)) (j := (i : Int)) (by omega) (fun j hj => by show _ = if j = (i : Int) then _ else _; rw [if_neg hj]) (n := 48) (by omega)
  rw [hsum] at hspl
  have hii : ((i : Int)).toNat = i := by omega
  have e1 : cW β mk (-1) tl n n st = sm (fun j => if j = (i : Int) then 0 else cntV β mk tl n st p (mnt j.toNat)) 48 + cntV β mk tl n st p (mnt i) := by
    rw [hspl]
    show _ + (cntV β mk tl n st p (mnt ((i : Int)).toNat) - (if (i : Int) = (i : Int) then 0 else _)) = _
    rw [if_pos rfl, hii]
    omega
  have hnn : ∀ j : Int, 0 ≤ j → j < (48 : Nat) → 0 ≤ (if j = (i : Int) then 0 else cntV β mk tl n st p (mnt j.toNat)) := by
    intro j _ _
    split
    · omega
    · exact cntV_nn _ _
  constructor
  · intro h u hu
    apply Classical.byContradiction
    intro hne
    have hu1 := hu.1
    obtain ⟨k, hk, rfl, -, -⟩ := mnt_of hu1.1 (by omega) (by omega)
    have := sm_le (f := fun j => if j = (i : Int) then 0 else cntV β mk tl n st p (mnt j.toNat)) (j := (k : Int)) (by omega) (n := 48) (by omega) hnn
    have hki : (k : Int) ≠ (i : Int) := fun z => hne (by rw [show k = i by omega])
    have h2 : (if (k : Int) = (i : Int) then 0 else cntV β mk tl n st p (mnt ((k : Int)).toNat)) = cntV β mk tl n st p (mnt k) := by
      rw [if_neg hki, show ((k : Int)).toNat = k by omega]
    have h3 := hu.2
    have h4 : (if (k : Int) = (i : Int) then 0 else cntV β mk tl n st p (mnt ((k : Int)).toNat)) ≤ sm (fun j => if j = (i : Int) then 0 else cntV β mk tl n st p (mnt j.toNat)) 48 := this
    rw [h2] at h4
    omega
  · intro h
    have hz : sm (fun j => if j = (i : Int) then 0 else cntV β mk tl n st p (mnt j.toNat)) 48 = sm (fun _ => 0) 48 := by
      apply sm_cong
      intro j j0 j1
      show (if j = (i : Int) then 0 else _) = 0
      by_cases hj : j = (i : Int)
      · rw [if_pos hj]
      · rw [if_neg hj]
        apply Classical.byContradiction
        intro hne
        have hpos : 0 < cntV β mk tl n st p (mnt j.toNat) := by
          have := cntV_nn (β := β) (mk := mk) (st := st) (tl := tl) (n := n) p (mnt j.toNat)
          omega
        have hj48 : j.toNat < 48 := by omega
        obtain ⟨a1, a2, a3, a4⟩ := mnt_in hj48
        have hfit := (fit_iff hp hj48 hB ht).mpr hpos
        obtain ⟨x, -, hx, -⟩ := hfit
        have hc := (brL_mem.mp hx).2
        have hcb : canB β mk x j.toNat = true := by
          have hms : (msN β mk x).testBit j.toNat = true := by
            unfold alwN at hc
            split at hc
            · rw [Nat.testBit_and, Bool.and_eq_true] at hc
              exact hc.1
            · exact hc
          rw [msN_bit, Bool.and_eq_true] at hms
          exact hms.2
        unfold canB at hcb
        simp only [Bool.and_eq_true, decide_eq_true_eq] at hcb
        have := h (mnt j.toNat) ⟨⟨a1, by rw [a3]; exact hcb.1.1, by rw [a4]; exact hcb.1.2⟩, hpos⟩
        unfold mnt at this
        omega
    rw [sm_z] at hz
    omega
theorem cnt_le {tl : Int → Int} {n p : Nat} (hp : p < n) (hB : bkB β) (ht : toldOk β (tl p)) {v : Int} (hv : 0 ≤ v ∧ v / 10 < β.n 2 ∧ v % 10 < β.n 3) : cntV β mk tl n st p v ≤ cW β mk (-1) tl n n st := by
  have hb2 := hB.2.2.1
  have hb3 := hB.2.2.2.1
  rw [← cnt_sum (mk := mk) (st := st) hp hB ht]
  obtain ⟨i, hi, rfl, -, -⟩ := mnt_of hv.1 (by omega) (by omega)
  have := sm_le (f := fun j => cntV β mk tl n st p (mnt j.toNat)) (j := (i : Int)) (by omega) (n := 48) (by omega) (fun j _ _ => cntV_nn _ _)
  have h2 : cntV β mk tl n st p (mnt ((i : Int)).toNat) ≤ sm (fun j => cntV β mk tl n st p (mnt j.toNat)) 48 := this
  rw [show ((i : Int)).toNat = i by omega] at h2
  exact h2
end
