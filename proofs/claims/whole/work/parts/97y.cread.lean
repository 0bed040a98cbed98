/-! the class reads its laws -/
theorem dX6_readAtom_0 : decode cX6_readAtom 0 = .ok (.aload_n 0, 1) := by decide +kernel
theorem dX6_readAtom_1 : decode cX6_readAtom 1 = .ok (.getfield 51, 3) := by decide +kernel
theorem dX6_readAtom_4 : decode cX6_readAtom 4 = .ok (.bipush 40, 2) := by decide +kernel
theorem dX6_readAtom_6 : decode cX6_readAtom 6 = .ok (.if_icmp .ne 25, 3) := by decide +kernel
theorem dX6_readAtom_9 : decode cX6_readAtom 9 = .ok (.aload_n 0, 1) := by decide +kernel
theorem dX6_readAtom_10 : decode cX6_readAtom 10 = .ok (.iload_n 1, 1) := by decide +kernel
theorem dX6_readAtom_11 : decode cX6_readAtom 11 = .ok (.invokevirtual 187, 3) := by decide +kernel
theorem dX6_readAtom_14 : decode cX6_readAtom 14 = .ok (.ifCond .eq 16, 3) := by decide +kernel
theorem dX6_readAtom_17 : decode cX6_readAtom 17 = .ok (.aload_n 0, 1) := by decide +kernel
theorem dX6_readAtom_18 : decode cX6_readAtom 18 = .ok (.iload_n 1, 1) := by decide +kernel
theorem dX6_readAtom_19 : decode cX6_readAtom 19 = .ok (.iconst 1, 1) := by decide +kernel
theorem dX6_readAtom_20 : decode cX6_readAtom 20 = .ok (.iadd, 1) := by decide +kernel
theorem dX6_readAtom_21 : decode cX6_readAtom 21 = .ok (.invokevirtual 190, 3) := by decide +kernel
theorem dX6_readAtom_24 : decode cX6_readAtom 24 = .ok (.aload_n 0, 1) := by decide +kernel
theorem dX6_readAtom_25 : decode cX6_readAtom 25 = .ok (.bipush 41, 2) := by decide +kernel
theorem dX6_readAtom_27 : decode cX6_readAtom 27 = .ok (.invokevirtual 110, 3) := by decide +kernel
theorem dX6_readAtom_30 : decode cX6_readAtom 30 = .ok (.return_, 1) := by decide +kernel
theorem dX6_readAtom_31 : decode cX6_readAtom 31 = .ok (.aload_n 0, 1) := by decide +kernel
theorem dX6_readAtom_32 : decode cX6_readAtom 32 = .ok (.getfield 51, 3) := by decide +kernel
theorem dX6_readAtom_35 : decode cX6_readAtom 35 = .ok (.sipush 1000, 3) := by decide +kernel
theorem dX6_readAtom_38 : decode cX6_readAtom 38 = .ok (.if_icmp .lt 14, 3) := by decide +kernel
theorem dX6_readAtom_41 : decode cX6_readAtom 41 = .ok (.aload_n 0, 1) := by decide +kernel
theorem dX6_readAtom_42 : decode cX6_readAtom 42 = .ok (.getfield 51, 3) := by decide +kernel
theorem dX6_readAtom_45 : decode cX6_readAtom 45 = .ok (.sipush 1000, 3) := by decide +kernel
theorem dX6_readAtom_48 : decode cX6_readAtom 48 = .ok (.isub, 1) := by decide +kernel
theorem dX6_readAtom_49 : decode cX6_readAtom 49 = .ok (.goto 11, 3) := by decide +kernel
theorem dX6_readAtom_52 : decode cX6_readAtom 52 = .ok (.aload_n 0, 1) := by decide +kernel
theorem dX6_readAtom_53 : decode cX6_readAtom 53 = .ok (.aload_n 0, 1) := by decide +kernel
theorem dX6_readAtom_54 : decode cX6_readAtom 54 = .ok (.getfield 51, 3) := by decide +kernel
theorem dX6_readAtom_57 : decode cX6_readAtom 57 = .ok (.invokevirtual 199, 3) := by decide +kernel
theorem dX6_readAtom_60 : decode cX6_readAtom 60 = .ok (.istore_n 2, 1) := by decide +kernel
theorem dX6_readAtom_61 : decode cX6_readAtom 61 = .ok (.iload_n 2, 1) := by decide +kernel
theorem dX6_readAtom_62 : decode cX6_readAtom 62 = .ok (.bipush (-16), 2) := by decide +kernel
theorem dX6_readAtom_64 : decode cX6_readAtom 64 = .ok (.if_icmp .ne 9, 3) := by decide +kernel
theorem dX6_readAtom_67 : decode cX6_readAtom 67 = .ok (.aload_n 0, 1) := by decide +kernel
theorem dX6_readAtom_68 : decode cX6_readAtom 68 = .ok (.iconst 2, 1) := by decide +kernel
theorem dX6_readAtom_69 : decode cX6_readAtom 69 = .ok (.invokevirtual 107, 3) := by decide +kernel
theorem dX6_readAtom_72 : decode cX6_readAtom 72 = .ok (.return_, 1) := by decide +kernel
theorem dX6_readAtom_73 : decode cX6_readAtom 73 = .ok (.aload_n 0, 1) := by decide +kernel
theorem dX6_readAtom_74 : decode cX6_readAtom 74 = .ok (.getfield 26, 3) := by decide +kernel
theorem dX6_readAtom_77 : decode cX6_readAtom 77 = .ok (.iload_n 2, 1) := by decide +kernel
theorem dX6_readAtom_78 : decode cX6_readAtom 78 = .ok (.invokevirtual 181, 3) := by decide +kernel
theorem dX6_readAtom_81 : decode cX6_readAtom 81 = .ok (.aload_n 0, 1) := by decide +kernel
theorem dX6_readAtom_82 : decode cX6_readAtom 82 = .ok (.invokevirtual 104, 3) := by decide +kernel
theorem dX6_readAtom_85 : decode cX6_readAtom 85 = .ok (.return_, 1) := by decide +kernel
theorem dX6_readTerm_0 : decode cX6_readTerm 0 = .ok (.aload_n 0, 1) := by decide +kernel
theorem dX6_readTerm_1 : decode cX6_readTerm 1 = .ok (.iload_n 1, 1) := by decide +kernel
theorem dX6_readTerm_2 : decode cX6_readTerm 2 = .ok (.invokevirtual 196, 3) := by decide +kernel
theorem dX6_readTerm_5 : decode cX6_readTerm 5 = .ok (.iconst 0, 1) := by decide +kernel
theorem dX6_readTerm_6 : decode cX6_readTerm 6 = .ok (.istore_n 2, 1) := by decide +kernel
theorem dX6_readTerm_7 : decode cX6_readTerm 7 = .ok (.iload_n 2, 1) := by decide +kernel
theorem dX6_readTerm_8 : decode cX6_readTerm 8 = .ok (.aload_n 0, 1) := by decide +kernel
theorem dX6_readTerm_9 : decode cX6_readTerm 9 = .ok (.getfield 57, 3) := by decide +kernel
theorem dX6_readTerm_12 : decode cX6_readTerm 12 = .ok (.if_icmp .ge 36, 3) := by decide +kernel
theorem dX6_readTerm_15 : decode cX6_readTerm 15 = .ok (.aload_n 0, 1) := by decide +kernel
theorem dX6_readTerm_16 : decode cX6_readTerm 16 = .ok (.getfield 51, 3) := by decide +kernel
theorem dX6_readTerm_19 : decode cX6_readTerm 19 = .ok (.bipush 42, 2) := by decide +kernel
theorem dX6_readTerm_21 : decode cX6_readTerm 21 = .ok (.if_icmp .ne 27, 3) := by decide +kernel
theorem dX6_readTerm_24 : decode cX6_readTerm 24 = .ok (.aload_n 0, 1) := by decide +kernel
theorem dX6_readTerm_25 : decode cX6_readTerm 25 = .ok (.invokevirtual 104, 3) := by decide +kernel
theorem dX6_readTerm_28 : decode cX6_readTerm 28 = .ok (.aload_n 0, 1) := by decide +kernel
theorem dX6_readTerm_29 : decode cX6_readTerm 29 = .ok (.iload_n 1, 1) := by decide +kernel
theorem dX6_readTerm_30 : decode cX6_readTerm 30 = .ok (.invokevirtual 196, 3) := by decide +kernel
theorem dX6_readTerm_33 : decode cX6_readTerm 33 = .ok (.aload_n 0, 1) := by decide +kernel
theorem dX6_readTerm_34 : decode cX6_readTerm 34 = .ok (.getfield 26, 3) := by decide +kernel
theorem dX6_readTerm_37 : decode cX6_readTerm 37 = .ok (.bipush (-9), 2) := by decide +kernel
theorem dX6_readTerm_39 : decode cX6_readTerm 39 = .ok (.invokevirtual 181, 3) := by decide +kernel
theorem dX6_readTerm_42 : decode cX6_readTerm 42 = .ok (.iinc 2 1, 3) := by decide +kernel
theorem dX6_readTerm_45 : decode cX6_readTerm 45 = .ok (.goto (-38), 3) := by decide +kernel
theorem dX6_readTerm_48 : decode cX6_readTerm 48 = .ok (.return_, 1) := by decide +kernel
theorem dX6_readSum_0 : decode cX6_readSum 0 = .ok (.aload_n 0, 1) := by decide +kernel
theorem dX6_readSum_1 : decode cX6_readSum 1 = .ok (.iload_n 1, 1) := by decide +kernel
theorem dX6_readSum_2 : decode cX6_readSum 2 = .ok (.invokevirtual 193, 3) := by decide +kernel
theorem dX6_readSum_5 : decode cX6_readSum 5 = .ok (.iconst 0, 1) := by decide +kernel
theorem dX6_readSum_6 : decode cX6_readSum 6 = .ok (.istore_n 2, 1) := by decide +kernel
theorem dX6_readSum_7 : decode cX6_readSum 7 = .ok (.iload_n 2, 1) := by decide +kernel
theorem dX6_readSum_8 : decode cX6_readSum 8 = .ok (.aload_n 0, 1) := by decide +kernel
theorem dX6_readSum_9 : decode cX6_readSum 9 = .ok (.getfield 57, 3) := by decide +kernel
theorem dX6_readSum_12 : decode cX6_readSum 12 = .ok (.if_icmp .ge 61, 3) := by decide +kernel
theorem dX6_readSum_15 : decode cX6_readSum 15 = .ok (.aload_n 0, 1) := by decide +kernel
theorem dX6_readSum_16 : decode cX6_readSum 16 = .ok (.getfield 51, 3) := by decide +kernel
theorem dX6_readSum_19 : decode cX6_readSum 19 = .ok (.bipush 43, 2) := by decide +kernel
theorem dX6_readSum_21 : decode cX6_readSum 21 = .ok (.if_icmp .eq 12, 3) := by decide +kernel
theorem dX6_readSum_24 : decode cX6_readSum 24 = .ok (.aload_n 0, 1) := by decide +kernel
theorem dX6_readSum_25 : decode cX6_readSum 25 = .ok (.getfield 51, 3) := by decide +kernel
theorem dX6_readSum_28 : decode cX6_readSum 28 = .ok (.bipush 45, 2) := by decide +kernel
theorem dX6_readSum_30 : decode cX6_readSum 30 = .ok (.if_icmp .ne 43, 3) := by decide +kernel
theorem dX6_readSum_33 : decode cX6_readSum 33 = .ok (.aload_n 0, 1) := by decide +kernel
theorem dX6_readSum_34 : decode cX6_readSum 34 = .ok (.getfield 51, 3) := by decide +kernel
theorem dX6_readSum_37 : decode cX6_readSum 37 = .ok (.istore_n 3, 1) := by decide +kernel
theorem dX6_readSum_38 : decode cX6_readSum 38 = .ok (.aload_n 0, 1) := by decide +kernel
theorem dX6_readSum_39 : decode cX6_readSum 39 = .ok (.invokevirtual 104, 3) := by decide +kernel
theorem dX6_readSum_42 : decode cX6_readSum 42 = .ok (.aload_n 0, 1) := by decide +kernel
theorem dX6_readSum_43 : decode cX6_readSum 43 = .ok (.iload_n 1, 1) := by decide +kernel
theorem dX6_readSum_44 : decode cX6_readSum 44 = .ok (.invokevirtual 193, 3) := by decide +kernel
theorem dX6_readSum_47 : decode cX6_readSum 47 = .ok (.aload_n 0, 1) := by decide +kernel
theorem dX6_readSum_48 : decode cX6_readSum 48 = .ok (.getfield 26, 3) := by decide +kernel
theorem dX6_readSum_51 : decode cX6_readSum 51 = .ok (.iload_n 3, 1) := by decide +kernel
theorem dX6_readSum_52 : decode cX6_readSum 52 = .ok (.bipush 43, 2) := by decide +kernel
theorem dX6_readSum_54 : decode cX6_readSum 54 = .ok (.if_icmp .ne 8, 3) := by decide +kernel
theorem dX6_readSum_57 : decode cX6_readSum 57 = .ok (.bipush (-7), 2) := by decide +kernel
theorem dX6_readSum_59 : decode cX6_readSum 59 = .ok (.goto 5, 3) := by decide +kernel
theorem dX6_readSum_62 : decode cX6_readSum 62 = .ok (.bipush (-8), 2) := by decide +kernel
theorem dX6_readSum_64 : decode cX6_readSum 64 = .ok (.invokevirtual 181, 3) := by decide +kernel
theorem dX6_readSum_67 : decode cX6_readSum 67 = .ok (.iinc 2 1, 3) := by decide +kernel
theorem dX6_readSum_70 : decode cX6_readSum 70 = .ok (.goto (-63), 3) := by decide +kernel
theorem dX6_readSum_73 : decode cX6_readSum 73 = .ok (.return_, 1) := by decide +kernel
theorem dX6_readUnit_0 : decode cX6_readUnit 0 = .ok (.aload_n 0, 1) := by decide +kernel
theorem dX6_readUnit_1 : decode cX6_readUnit 1 = .ok (.getfield 51, 3) := by decide +kernel
theorem dX6_readUnit_4 : decode cX6_readUnit 4 = .ok (.sipush 143, 3) := by decide +kernel
theorem dX6_readUnit_7 : decode cX6_readUnit 7 = .ok (.if_icmp .ne 30, 3) := by decide +kernel
theorem dX6_readUnit_10 : decode cX6_readUnit 10 = .ok (.aload_n 0, 1) := by decide +kernel
theorem dX6_readUnit_11 : decode cX6_readUnit 11 = .ok (.iload_n 1, 1) := by decide +kernel
theorem dX6_readUnit_12 : decode cX6_readUnit 12 = .ok (.invokevirtual 187, 3) := by decide +kernel
theorem dX6_readUnit_15 : decode cX6_readUnit 15 = .ok (.ifCond .eq 131, 3) := by decide +kernel
theorem dX6_readUnit_18 : decode cX6_readUnit 18 = .ok (.aload_n 0, 1) := by decide +kernel
theorem dX6_readUnit_19 : decode cX6_readUnit 19 = .ok (.iload_n 1, 1) := by decide +kernel
theorem dX6_readUnit_20 : decode cX6_readUnit 20 = .ok (.iconst 1, 1) := by decide +kernel
theorem dX6_readUnit_21 : decode cX6_readUnit 21 = .ok (.iadd, 1) := by decide +kernel
theorem dX6_readUnit_22 : decode cX6_readUnit 22 = .ok (.invokevirtual 184, 3) := by decide +kernel
theorem dX6_readUnit_25 : decode cX6_readUnit 25 = .ok (.aload_n 0, 1) := by decide +kernel
theorem dX6_readUnit_26 : decode cX6_readUnit 26 = .ok (.getfield 26, 3) := by decide +kernel
theorem dX6_readUnit_29 : decode cX6_readUnit 29 = .ok (.bipush (-13), 2) := by decide +kernel
theorem dX6_readUnit_31 : decode cX6_readUnit 31 = .ok (.invokevirtual 181, 3) := by decide +kernel
theorem dX6_readUnit_34 : decode cX6_readUnit 34 = .ok (.goto 112, 3) := by decide +kernel
theorem dX6_readUnit_37 : decode cX6_readUnit 37 = .ok (.aload_n 0, 1) := by decide +kernel
theorem dX6_readUnit_38 : decode cX6_readUnit 38 = .ok (.getfield 51, 3) := by decide +kernel
theorem dX6_readUnit_41 : decode cX6_readUnit 41 = .ok (.bipush 91, 2) := by decide +kernel
theorem dX6_readUnit_43 : decode cX6_readUnit 43 = .ok (.if_icmp .ne 27, 3) := by decide +kernel
theorem dX6_readUnit_46 : decode cX6_readUnit 46 = .ok (.aload_n 0, 1) := by decide +kernel
theorem dX6_readUnit_47 : decode cX6_readUnit 47 = .ok (.iload_n 1, 1) := by decide +kernel
theorem dX6_readUnit_48 : decode cX6_readUnit 48 = .ok (.invokevirtual 187, 3) := by decide +kernel
theorem dX6_readUnit_51 : decode cX6_readUnit 51 = .ok (.ifCond .eq 95, 3) := by decide +kernel
theorem dX6_readUnit_54 : decode cX6_readUnit 54 = .ok (.aload_n 0, 1) := by decide +kernel
theorem dX6_readUnit_55 : decode cX6_readUnit 55 = .ok (.iload_n 1, 1) := by decide +kernel
theorem dX6_readUnit_56 : decode cX6_readUnit 56 = .ok (.iconst 1, 1) := by decide +kernel
theorem dX6_readUnit_57 : decode cX6_readUnit 57 = .ok (.iadd, 1) := by decide +kernel
theorem dX6_readUnit_58 : decode cX6_readUnit 58 = .ok (.invokevirtual 175, 3) := by decide +kernel
theorem dX6_readUnit_61 : decode cX6_readUnit 61 = .ok (.aload_n 0, 1) := by decide +kernel
theorem dX6_readUnit_62 : decode cX6_readUnit 62 = .ok (.bipush 93, 2) := by decide +kernel
theorem dX6_readUnit_64 : decode cX6_readUnit 64 = .ok (.invokevirtual 110, 3) := by decide +kernel
theorem dX6_readUnit_67 : decode cX6_readUnit 67 = .ok (.goto 79, 3) := by decide +kernel
theorem dX6_readUnit_70 : decode cX6_readUnit 70 = .ok (.aload_n 0, 1) := by decide +kernel
theorem dX6_readUnit_71 : decode cX6_readUnit 71 = .ok (.iload_n 1, 1) := by decide +kernel
theorem dX6_readUnit_72 : decode cX6_readUnit 72 = .ok (.invokevirtual 190, 3) := by decide +kernel
theorem dX6_readUnit_75 : decode cX6_readUnit 75 = .ok (.aload_n 0, 1) := by decide +kernel
theorem dX6_readUnit_76 : decode cX6_readUnit 76 = .ok (.getfield 51, 3) := by decide +kernel
theorem dX6_readUnit_79 : decode cX6_readUnit 79 = .ok (.istore_n 2, 1) := by decide +kernel
theorem dX6_readUnit_80 : decode cX6_readUnit 80 = .ok (.iload_n 2, 1) := by decide +kernel
theorem dX6_readUnit_81 : decode cX6_readUnit 81 = .ok (.bipush 61, 2) := by decide +kernel
theorem dX6_readUnit_83 : decode cX6_readUnit 83 = .ok (.if_icmp .eq 15, 3) := by decide +kernel
theorem dX6_readUnit_86 : decode cX6_readUnit 86 = .ok (.iload_n 2, 1) := by decide +kernel
theorem dX6_readUnit_87 : decode cX6_readUnit 87 = .ok (.bipush 60, 2) := by decide +kernel
theorem dX6_readUnit_89 : decode cX6_readUnit 89 = .ok (.if_icmp .eq 9, 3) := by decide +kernel
theorem dX6_readUnit_92 : decode cX6_readUnit 92 = .ok (.iload_n 2, 1) := by decide +kernel
theorem dX6_readUnit_93 : decode cX6_readUnit 93 = .ok (.bipush 62, 2) := by decide +kernel
theorem dX6_readUnit_95 : decode cX6_readUnit 95 = .ok (.if_icmp .ne 46, 3) := by decide +kernel
theorem dX6_readUnit_98 : decode cX6_readUnit 98 = .ok (.aload_n 0, 1) := by decide +kernel
theorem dX6_readUnit_99 : decode cX6_readUnit 99 = .ok (.invokevirtual 104, 3) := by decide +kernel
theorem dX6_readUnit_102 : decode cX6_readUnit 102 = .ok (.aload_n 0, 1) := by decide +kernel
theorem dX6_readUnit_103 : decode cX6_readUnit 103 = .ok (.iload_n 1, 1) := by decide +kernel
theorem dX6_readUnit_104 : decode cX6_readUnit 104 = .ok (.invokevirtual 190, 3) := by decide +kernel
theorem dX6_readUnit_107 : decode cX6_readUnit 107 = .ok (.aload_n 0, 1) := by decide +kernel
theorem dX6_readUnit_108 : decode cX6_readUnit 108 = .ok (.getfield 26, 3) := by decide +kernel
theorem dX6_readUnit_111 : decode cX6_readUnit 111 = .ok (.iload_n 2, 1) := by decide +kernel
theorem dX6_readUnit_112 : decode cX6_readUnit 112 = .ok (.bipush 61, 2) := by decide +kernel
theorem dX6_readUnit_114 : decode cX6_readUnit 114 = .ok (.if_icmp .ne 8, 3) := by decide +kernel
theorem dX6_readUnit_117 : decode cX6_readUnit 117 = .ok (.bipush (-10), 2) := by decide +kernel
theorem dX6_readUnit_119 : decode cX6_readUnit 119 = .ok (.goto 16, 3) := by decide +kernel
theorem dX6_readUnit_122 : decode cX6_readUnit 122 = .ok (.iload_n 2, 1) := by decide +kernel
theorem dX6_readUnit_123 : decode cX6_readUnit 123 = .ok (.bipush 60, 2) := by decide +kernel
theorem dX6_readUnit_125 : decode cX6_readUnit 125 = .ok (.if_icmp .ne 8, 3) := by decide +kernel
theorem dX6_readUnit_128 : decode cX6_readUnit 128 = .ok (.bipush (-11), 2) := by decide +kernel
theorem dX6_readUnit_130 : decode cX6_readUnit 130 = .ok (.goto 5, 3) := by decide +kernel
theorem dX6_readUnit_133 : decode cX6_readUnit 133 = .ok (.bipush (-12), 2) := by decide +kernel
theorem dX6_readUnit_135 : decode cX6_readUnit 135 = .ok (.invokevirtual 181, 3) := by decide +kernel
theorem dX6_readUnit_138 : decode cX6_readUnit 138 = .ok (.goto 8, 3) := by decide +kernel
theorem dX6_readUnit_141 : decode cX6_readUnit 141 = .ok (.aload_n 0, 1) := by decide +kernel
theorem dX6_readUnit_142 : decode cX6_readUnit 142 = .ok (.iconst 2, 1) := by decide +kernel
theorem dX6_readUnit_143 : decode cX6_readUnit 143 = .ok (.invokevirtual 107, 3) := by decide +kernel
theorem dX6_readUnit_146 : decode cX6_readUnit 146 = .ok (.return_, 1) := by decide +kernel
theorem dX6_readBoth_0 : decode cX6_readBoth 0 = .ok (.aload_n 0, 1) := by decide +kernel
theorem dX6_readBoth_1 : decode cX6_readBoth 1 = .ok (.iload_n 1, 1) := by decide +kernel
theorem dX6_readBoth_2 : decode cX6_readBoth 2 = .ok (.invokevirtual 184, 3) := by decide +kernel
theorem dX6_readBoth_5 : decode cX6_readBoth 5 = .ok (.iconst 0, 1) := by decide +kernel
theorem dX6_readBoth_6 : decode cX6_readBoth 6 = .ok (.istore_n 2, 1) := by decide +kernel
theorem dX6_readBoth_7 : decode cX6_readBoth 7 = .ok (.iload_n 2, 1) := by decide +kernel
theorem dX6_readBoth_8 : decode cX6_readBoth 8 = .ok (.aload_n 0, 1) := by decide +kernel
theorem dX6_readBoth_9 : decode cX6_readBoth 9 = .ok (.getfield 57, 3) := by decide +kernel
theorem dX6_readBoth_12 : decode cX6_readBoth 12 = .ok (.if_icmp .ge 37, 3) := by decide +kernel
theorem dX6_readBoth_15 : decode cX6_readBoth 15 = .ok (.aload_n 0, 1) := by decide +kernel
theorem dX6_readBoth_16 : decode cX6_readBoth 16 = .ok (.getfield 51, 3) := by decide +kernel
theorem dX6_readBoth_19 : decode cX6_readBoth 19 = .ok (.sipush 142, 3) := by decide +kernel
theorem dX6_readBoth_22 : decode cX6_readBoth 22 = .ok (.if_icmp .ne 27, 3) := by decide +kernel
theorem dX6_readBoth_25 : decode cX6_readBoth 25 = .ok (.aload_n 0, 1) := by decide +kernel
theorem dX6_readBoth_26 : decode cX6_readBoth 26 = .ok (.invokevirtual 104, 3) := by decide +kernel
theorem dX6_readBoth_29 : decode cX6_readBoth 29 = .ok (.aload_n 0, 1) := by decide +kernel
theorem dX6_readBoth_30 : decode cX6_readBoth 30 = .ok (.iload_n 1, 1) := by decide +kernel
theorem dX6_readBoth_31 : decode cX6_readBoth 31 = .ok (.invokevirtual 184, 3) := by decide +kernel
theorem dX6_readBoth_34 : decode cX6_readBoth 34 = .ok (.aload_n 0, 1) := by decide +kernel
theorem dX6_readBoth_35 : decode cX6_readBoth 35 = .ok (.getfield 26, 3) := by decide +kernel
theorem dX6_readBoth_38 : decode cX6_readBoth 38 = .ok (.bipush (-14), 2) := by decide +kernel
theorem dX6_readBoth_40 : decode cX6_readBoth 40 = .ok (.invokevirtual 181, 3) := by decide +kernel
theorem dX6_readBoth_43 : decode cX6_readBoth 43 = .ok (.iinc 2 1, 3) := by decide +kernel
theorem dX6_readBoth_46 : decode cX6_readBoth 46 = .ok (.goto (-39), 3) := by decide +kernel
theorem dX6_readBoth_49 : decode cX6_readBoth 49 = .ok (.return_, 1) := by decide +kernel
theorem dX6_readTruth_0 : decode cX6_readTruth 0 = .ok (.aload_n 0, 1) := by decide +kernel
theorem dX6_readTruth_1 : decode cX6_readTruth 1 = .ok (.iload_n 1, 1) := by decide +kernel
theorem dX6_readTruth_2 : decode cX6_readTruth 2 = .ok (.invokevirtual 178, 3) := by decide +kernel
theorem dX6_readTruth_5 : decode cX6_readTruth 5 = .ok (.iconst 0, 1) := by decide +kernel
theorem dX6_readTruth_6 : decode cX6_readTruth 6 = .ok (.istore_n 2, 1) := by decide +kernel
theorem dX6_readTruth_7 : decode cX6_readTruth 7 = .ok (.iload_n 2, 1) := by decide +kernel
theorem dX6_readTruth_8 : decode cX6_readTruth 8 = .ok (.aload_n 0, 1) := by decide +kernel
theorem dX6_readTruth_9 : decode cX6_readTruth 9 = .ok (.getfield 57, 3) := by decide +kernel
theorem dX6_readTruth_12 : decode cX6_readTruth 12 = .ok (.if_icmp .ge 37, 3) := by decide +kernel
theorem dX6_readTruth_15 : decode cX6_readTruth 15 = .ok (.aload_n 0, 1) := by decide +kernel
theorem dX6_readTruth_16 : decode cX6_readTruth 16 = .ok (.getfield 51, 3) := by decide +kernel
theorem dX6_readTruth_19 : decode cX6_readTruth 19 = .ok (.sipush 141, 3) := by decide +kernel
theorem dX6_readTruth_22 : decode cX6_readTruth 22 = .ok (.if_icmp .ne 27, 3) := by decide +kernel
theorem dX6_readTruth_25 : decode cX6_readTruth 25 = .ok (.aload_n 0, 1) := by decide +kernel
theorem dX6_readTruth_26 : decode cX6_readTruth 26 = .ok (.invokevirtual 104, 3) := by decide +kernel
theorem dX6_readTruth_29 : decode cX6_readTruth 29 = .ok (.aload_n 0, 1) := by decide +kernel
theorem dX6_readTruth_30 : decode cX6_readTruth 30 = .ok (.iload_n 1, 1) := by decide +kernel
theorem dX6_readTruth_31 : decode cX6_readTruth 31 = .ok (.invokevirtual 178, 3) := by decide +kernel
theorem dX6_readTruth_34 : decode cX6_readTruth 34 = .ok (.aload_n 0, 1) := by decide +kernel
theorem dX6_readTruth_35 : decode cX6_readTruth 35 = .ok (.getfield 26, 3) := by decide +kernel
theorem dX6_readTruth_38 : decode cX6_readTruth 38 = .ok (.bipush (-15), 2) := by decide +kernel
theorem dX6_readTruth_40 : decode cX6_readTruth 40 = .ok (.invokevirtual 181, 3) := by decide +kernel
theorem dX6_readTruth_43 : decode cX6_readTruth 43 = .ok (.iinc 2 1, 3) := by decide +kernel
theorem dX6_readTruth_46 : decode cX6_readTruth 46 = .ok (.goto (-39), 3) := by decide +kernel
theorem dX6_readTruth_49 : decode cX6_readTruth 49 = .ok (.return_, 1) := by decide +kernel
section
variable (d : Nat) (sh : mbSh) (ct : mbCt) {b T : Int} {K Pl : Int → Int} {σ : PS}
theorem RD.kd (D : RD ct b T K Pl σ) : kd T K := ⟨D.1.2.2.2.2.1, D.1.2.2.2.2.2.2, fun i a b => (D.1.2.2.2.2.2.1 i a b).2.2⟩
theorem RD.tb (D : RD ct b T K Pl σ) : 0 ≤ tkP K σ ∧ tkP K σ < 3000 := by
  unfold tkP
  split
  · have := (D.1.2.2.2.2.2.1 σ.1 D.2.1.1 D.2.1.2.1).2.2
    omega
  · omega
theorem r_takeNumber {most : Int} (S : SH sh) (D : RD ct b T K Pl σ) (hm : 0 ≤ most ∧ most < 100) : Mt YX6_takeNumber (d + 1) [.inr (.inr 64), .inl most] sh sh ct (pI fun r c => r = (numP T K Pl most σ).1 ∧ RD c b T K Pl (numP T K Pl most σ).2 ∧ rdF b ct c) := by
  have L := D.L
  have h7 := D.2.2.1
  have htb := D.tb
  refine Mt.of rfl (Nat.le_of_ble_eq_true rfl) ?_
  show G _ 0 [some (.inr (.inr 64)), some (.inl most), none] [] sh ct
  refine g_aload_n (q := 1) dX6_takeNumber_0 rfl rfl ?_
  refine g_getI (q := 4) (kI := 7) fX6_51 (by first | assumption | exact S.at _ rfl) dX6_takeNumber_1 rfl rfl ?_
  rw [h7]
  refine g_sipush (q := 7) dX6_takeNumber_4 (by decide +kernel) rfl ?_
  refine g_isub (q := 8) dX6_takeNumber_7 rfl ?_
  refine s_istore_n_3_2 (q := 9) dX6_takeNumber_8 rfl rfl rfl ?_
  refine g_iload_n (q := 10) dX6_takeNumber_9 rfl rfl ?_
  refine g_if_ge (q := 13) (tg := 20) dX6_takeNumber_10 (by decide) rfl (fun c_10 => ?_) (fun c_10 => ?_)
  · rw [w32_id (x := tkP K σ - 1000) (by omega) (by omega)] at c_10
    refine g_iload_n (q := 21) dX6_takeNumber_20 rfl rfl ?_
    refine g_iload_n (q := 22) dX6_takeNumber_21 rfl rfl ?_
    refine g_icmp_le (q := 25) (tg := 32) dX6_takeNumber_22 (by decide) rfl (fun c_22 => ?_) (fun c_22 => ?_)
    · rw [w32_id (x := tkP K σ - 1000) (by omega) (by omega), w32_id (x := most) (by omega) (by omega)] at c_22
      refine g_aload_n (q := 33) dX6_takeNumber_32 rfl rfl ?_
      refine g_callV (q := 36) lX6_104 mX6_step nX6_step rfl (r_step d sh _ S D) (by first | assumption | exact S.at _ rfl) rfl rfl shLe.rf (rmOk.mk (by omega) (by first | exact shLe.rf | assumption)) (Nat.le_of_ble_eq_true rfl) dX6_takeNumber_33 rfl rfl (kN fun c1 hp => ?_)
      refine g_iload_n (q := 37) dX6_takeNumber_36 rfl rfl ?_
      refine g_ireturn dX6_takeNumber_37 rfl ?_
      unfold numP
      rw [if_neg (by omega), if_neg (by omega)]
      exact ⟨_, rfl, rfl, hp⟩
    · rw [w32_id (x := tkP K σ - 1000) (by omega) (by omega), w32_id (x := most) (by omega) (by omega)] at c_22
      refine g_aload_n (q := 26) dX6_takeNumber_25 rfl rfl ?_
      refine g_iconst (q := 27) dX6_takeNumber_26 rfl ?_
      refine g_callV (q := 30) lX6_107 mX6_fail nX6_fail rfl (r_fail d sh _ S D (k := 3) (by decide)) (by first | assumption | exact S.at _ rfl) rfl rfl shLe.rf (rmOk.mk (by omega) (by first | exact shLe.rf | assumption)) (Nat.le_of_ble_eq_true rfl) dX6_takeNumber_27 rfl rfl (kN fun c1 hp => ?_)
      refine g_iconst (q := 31) dX6_takeNumber_30 rfl ?_
      refine g_ireturn dX6_takeNumber_31 rfl ?_
      unfold numP
      rw [if_neg (by omega), if_pos (by omega)]
      exact ⟨_, rfl, rfl, hp⟩
  · rw [w32_id (x := tkP K σ - 1000) (by omega) (by omega)] at c_10
    refine g_aload_n (q := 14) dX6_takeNumber_13 rfl rfl ?_
    refine g_iconst (q := 15) dX6_takeNumber_14 rfl ?_
    refine g_callV (q := 18) lX6_107 mX6_fail nX6_fail rfl (r_fail d sh _ S D (k := 2) (by decide)) (by first | assumption | exact S.at _ rfl) rfl rfl shLe.rf (rmOk.mk (by omega) (by first | exact shLe.rf | assumption)) (Nat.le_of_ble_eq_true rfl) dX6_takeNumber_15 rfl rfl (kN fun c1 hp => ?_)
    refine g_iconst (q := 19) dX6_takeNumber_18 rfl ?_
    refine g_ireturn dX6_takeNumber_19 rfl ?_
    unfold numP
    rw [if_pos (by omega)]
    exact ⟨_, rfl, rfl, hp⟩
theorem r_goesWithin {r : Nat} (S : SH sh) (D : RD ct b T K Pl σ) (hr : r ≤ 6) : Mt YX6_goesWithin (d + 1) [.inr (.inr 64), .inl (6 - (r : Int))] sh sh ct (pI fun v c => ((v = 0 ∧ r = 0 ∧ RD c b T K Pl (failP K Pl 4 σ)) ∨ (v = 1 ∧ 1 ≤ r ∧ RD c b T K Pl (stepP T σ))) ∧ rdF b ct c) := by
  refine Mt.of rfl (Nat.le_of_ble_eq_true rfl) ?_
  show G _ 0 [some (.inr (.inr 64)), some (.inl (6 - (r : Int)))] [] sh ct
  refine g_iload_n (q := 1) dX6_goesWithin_0 rfl rfl ?_
  refine g_bipush (q := 3) dX6_goesWithin_1 (by decide +kernel) rfl ?_
  refine g_icmp_lt (q := 6) (tg := 13) dX6_goesWithin_3 (by decide) rfl (fun c_3 => ?_) (fun c_3 => ?_)
  · rw [w32_id (x := 6 - (r : Int)) (by omega) (by omega), show w32 6 = 6 from rfl] at c_3
    refine g_aload_n (q := 14) dX6_goesWithin_13 rfl rfl ?_
    refine g_callV (q := 17) lX6_104 mX6_step nX6_step rfl (r_step d sh _ S D) (by first | assumption | exact S.at _ rfl) rfl rfl shLe.rf (rmOk.mk (by omega) (by first | exact shLe.rf | assumption)) (Nat.le_of_ble_eq_true rfl) dX6_goesWithin_14 rfl rfl (kN fun c1 hp => ?_)
    refine g_iconst (q := 18) dX6_goesWithin_17 rfl ?_
    refine g_zreturn dX6_goesWithin_18 rfl (by decide +kernel) ?_
    exact ⟨_, rfl, Or.inr ⟨rfl, by omega, hp.1⟩, hp.2⟩
  · rw [w32_id (x := 6 - (r : Int)) (by omega) (by omega), show w32 6 = 6 from rfl] at c_3
    refine g_aload_n (q := 7) dX6_goesWithin_6 rfl rfl ?_
    refine g_iconst (q := 8) dX6_goesWithin_7 rfl ?_
    refine g_callV (q := 11) lX6_107 mX6_fail nX6_fail rfl (r_fail d sh _ S D (k := 4) (by decide)) (by first | assumption | exact S.at _ rfl) rfl rfl shLe.rf (rmOk.mk (by omega) (by first | exact shLe.rf | assumption)) (Nat.le_of_ble_eq_true rfl) dX6_goesWithin_8 rfl rfl (kN fun c1 hp => ?_)
    refine g_iconst (q := 12) dX6_goesWithin_11 rfl ?_
    refine g_zreturn dX6_goesWithin_12 rfl (by decide +kernel) ?_
    exact ⟨_, rfl, Or.inl ⟨rfl, by omega, hp.1⟩, hp.2⟩
theorem r_code {op : Int} (S : SH sh) (D : RD ct b T K Pl σ) (hl : σ.2.1 = 0 → σ.2.2.2.length < 900) (h0 : -32768 ≤ op) (h1 : op < 32768) : Mt YX0_addCode d [.inr (.inr b), .inl op] sh sh ct (pN fun c => RD c b T K Pl (codeP op σ) ∧ rdF b ct c) := by
  refine (c_addCode d sh ct (bkAt_b S D.L D.1.2.1) D.2.2.2.2.1.1.1 D.2.2.2.2.1.1.2 h0 h1).imp ?_
  rintro r c ⟨hr, rfl⟩
  refine ⟨hr, ?_⟩
  have hb := D.1.2.1
  have ne1 : b ≠ b + 4 := by omega
  obtain ⟨g1, g2, g3, g4, ⟨g5, g5'⟩, g6, g7⟩ := D
  have f : rdF b ct (acC ct b op) := by
    unfold acC
    split
    · refine ⟨fun k _ _ _ _ => by rw [wr_na (by omega), wr_na (by omega)], fun k hk => by rw [wr_nk hk, wr_na (by omega)], (eqBut.rf.wr (by simp)).wr (by simp)⟩
    · exact rdF.rf
  have e64 : acC ct b op 64 = ct 64 := by
    unfold acC
    split
    · funext k
      rw [wr_na (by omega), wr_na (by omega)]
    · rfl
  have ei : (codeP op σ).1 = σ.1 ∧ (codeP op σ).2.1 = σ.2.1 ∧ (codeP op σ).2.2.1 = σ.2.2.1 := by
    unfold codeP
    split <;> exact ⟨rfl, rfl, rfl⟩
  have et : tkP K (codeP op σ) = tkP K σ := by unfold tkP; rw [ei.1, ei.2.1]
  refine ⟨⟨g1.fr f, by rw [ei.1, e64]; exact g2, by rw [et, e64]; exact g3, by rw [e64, ei.2.1, ei.2.2]; exact g4, ⟨?_, ?_⟩, by rw [ei.2.1]; exact g6, fun hw => ?_⟩, f⟩
  · unfold acC
    split
    · rw [wr_eq]
      omega
    · exact g5
  · intro j j0 j1
    unfold acC
    split
    · rw [wr_na (by omega)]
      by_cases hj : j = ct b 6
      · rw [hj, wr_eq]
        exact ⟨h0, h1⟩
      · rw [wr_nk hj]
        exact g5' j j0 j1
    · exact g5' j j0 j1
  · rw [ei.2.1] at hw
    obtain ⟨a1, a2⟩ := g7 hw
    have hll := hl hw
    have hlt : ct b 6 < 900 := by omega
    unfold acC
    rw [if_pos hlt, codeP_go hw]
    dsimp only
    rw [List.length_append, List.length_singleton]
    refine ⟨by rw [wr_eq, a1]; omega, fun j hj => ?_⟩
    rw [wr_na (by omega)]
    by_cases hjl : j < σ.2.2.2.length
    · rw [wr_nk (by omega), a2 j hjl, List.getD_eq_getElem?_getD, List.getD_eq_getElem?_getD, List.getElem?_append_left hjl]
    · have : j = σ.2.2.2.length := by omega
      subst this
      rw [← a1, wr_eq, List.getD_eq_getElem?_getD, List.getElem?_append_right (Nat.le_refl _), Nat.sub_self]
      rfl
theorem r_askedBy {om : Bool} (S : SH sh) (D : RD ct b T K Pl σ) (ho : ct 64 8 = b01 (om = true)) {t : Int} (h0 : 0 ≤ t) (h1 : t < 1000) : Mt YX6_askedBy d [.inr (.inr 64), .inl t] sh sh ct (pI fun r c => r = askC om t ∧ c = ct) := by
  have wt : w32 t = t := w32_id (by omega) (by omega)
  refine Mt.of rfl (Nat.le_of_ble_eq_true rfl) ?_
  show G _ 0 [some (.inr (.inr 64)), some (.inl t)] [] sh ct
  refine g_iload_n (q := 1) dX6_askedBy_0 rfl rfl ?_
  have none : askC om t = -16 → G (mkK YX6_askedBy d sh sh (pI fun r c => r = askC om t ∧ c = ct)) 137 [some (.inr (.inr 64)), some (.inl t)] [] sh ct := by
    intro h
    refine g_bipush (q := 139) dX6_askedBy_137 (by decide +kernel) rfl ?_
    refine g_ireturn dX6_askedBy_139 rfl ?_
    exact ⟨_, rfl, h.symm, rfl⟩
  by_cases h3 : t < 129 ∨ 145 < t
  · refine g_tabOut (q := 137) dX6_askedBy_1 (by rw [wt]; exact h3) (by decide) (none ?_)
    unfold askC
    rw [if_neg (by omega), if_neg (by omega), if_neg (by omega), if_neg (by omega), if_neg (by omega), if_neg (by omega)]

  · have hv : t = 129 ∨ t = 130 ∨ t = 131 ∨ t = 132 ∨ t = 133 ∨ t = 134 ∨ t = 135 ∨ t = 136 ∨ t = 137 ∨ t = 138 ∨ t = 139 ∨ t = 140 ∨ t = 141 ∨ t = 142 ∨ t = 143 ∨ t = 144 ∨ t = 145 := by omega
    rcases hv with hv | hv | hv | hv | hv | hv | hv | hv | hv | hv | hv | hv | hv | hv | hv | hv | hv
    · refine g_tabIn (q := 84) dX6_askedBy_1 129 (by rw [wt, hv]) (by decide) (by decide) rfl (by decide) ?_
      subst hv
      refine g_iconst (q := 85) dX6_askedBy_84 rfl ?_
      refine g_ireturn dX6_askedBy_85 rfl ?_
      exact ⟨_, rfl, rfl, rfl⟩
    · refine g_tabIn (q := 86) dX6_askedBy_1 130 (by rw [wt, hv]) (by decide) (by decide) rfl (by decide) ?_
      subst hv
      refine g_bipush (q := 88) dX6_askedBy_86 (by decide +kernel) rfl ?_
      refine g_ireturn dX6_askedBy_88 rfl ?_
      exact ⟨_, rfl, rfl, rfl⟩
    · refine g_tabIn (q := 137) dX6_askedBy_1 131 (by rw [wt, hv]) (by decide) (by decide) rfl (by decide) ?_
      refine none ?_
      subst hv
      unfold askC
      rw [if_neg (by decide), if_neg (by decide), if_neg (by decide), if_neg (fun z => absurd z.1 (by decide)), if_neg (fun z => absurd z.1 (by decide)), if_neg (fun z => absurd z.1 (by decide))]
    · refine g_tabIn (q := 107) dX6_askedBy_1 132 (by rw [wt, hv]) (by decide) (by decide) rfl (by decide) ?_
      subst hv
      refine g_aload_n (q := 108) dX6_askedBy_107 rfl rfl ?_
      refine g_getZ (q := 111) (kI := 8) fX6_171 (by first | assumption | exact S.at _ rfl) dX6_askedBy_108 rfl rfl ?_
      rw [ho]
      refine g_if_eq (q := 114) (tg := 119) dX6_askedBy_111 (by decide) rfl (fun c_111 => ?_) (fun c_111 => ?_)
      · have hn := wb0.mp c_111
        refine g_bipush (q := 121) dX6_askedBy_119 (by decide +kernel) rfl ?_
        refine g_ireturn dX6_askedBy_121 rfl ?_
        refine ⟨_, rfl, ?_, rfl⟩
        have ho2 : om = false := by cases om; rfl; exact absurd rfl hn
        subst ho2
        rfl
      · have hn := wbn.mp c_111
        refine g_bipush (q := 116) dX6_askedBy_114 (by decide +kernel) rfl ?_
        refine g_goto (q := 121) dX6_askedBy_116 (by decide) ?_
        refine g_ireturn dX6_askedBy_121 rfl ?_
        refine ⟨_, rfl, ?_, rfl⟩
        subst hn
        rfl
    · refine g_tabIn (q := 122) dX6_askedBy_1 133 (by rw [wt, hv]) (by decide) (by decide) rfl (by decide) ?_
      subst hv
      refine g_aload_n (q := 123) dX6_askedBy_122 rfl rfl ?_
      refine g_getZ (q := 126) (kI := 8) fX6_171 (by first | assumption | exact S.at _ rfl) dX6_askedBy_123 rfl rfl ?_
      rw [ho]
      refine g_if_eq (q := 129) (tg := 134) dX6_askedBy_126 (by decide) rfl (fun c_126 => ?_) (fun c_126 => ?_)
      · have hn := wb0.mp c_126
        refine g_bipush (q := 136) dX6_askedBy_134 (by decide +kernel) rfl ?_
        refine g_ireturn dX6_askedBy_136 rfl ?_
        refine ⟨_, rfl, ?_, rfl⟩
        have ho2 : om = false := by cases om; rfl; exact absurd rfl hn
        subst ho2
        rfl
      · have hn := wbn.mp c_126
        refine g_bipush (q := 131) dX6_askedBy_129 (by decide +kernel) rfl ?_
        refine g_goto (q := 136) dX6_askedBy_131 (by decide) ?_
        refine g_ireturn dX6_askedBy_136 rfl ?_
        refine ⟨_, rfl, ?_, rfl⟩
        subst hn
        rfl
    · refine g_tabIn (q := 137) dX6_askedBy_1 134 (by rw [wt, hv]) (by decide) (by decide) rfl (by decide) ?_
      refine none ?_
      subst hv
      unfold askC
      rw [if_neg (by decide), if_neg (by decide), if_neg (by decide), if_neg (fun z => absurd z.1 (by decide)), if_neg (fun z => absurd z.1 (by decide)), if_neg (fun z => absurd z.1 (by decide))]
    · refine g_tabIn (q := 137) dX6_askedBy_1 135 (by rw [wt, hv]) (by decide) (by decide) rfl (by decide) ?_
      refine none ?_
      subst hv
      unfold askC
      rw [if_neg (by decide), if_neg (by decide), if_neg (by decide), if_neg (fun z => absurd z.1 (by decide)), if_neg (fun z => absurd z.1 (by decide)), if_neg (fun z => absurd z.1 (by decide))]
    · refine g_tabIn (q := 137) dX6_askedBy_1 136 (by rw [wt, hv]) (by decide) (by decide) rfl (by decide) ?_
      refine none ?_
      subst hv
      unfold askC
      rw [if_neg (by decide), if_neg (by decide), if_neg (by decide), if_neg (fun z => absurd z.1 (by decide)), if_neg (fun z => absurd z.1 (by decide)), if_neg (fun z => absurd z.1 (by decide))]
    · refine g_tabIn (q := 137) dX6_askedBy_1 137 (by rw [wt, hv]) (by decide) (by decide) rfl (by decide) ?_
      refine none ?_
      subst hv
      unfold askC
      rw [if_neg (by decide), if_neg (by decide), if_neg (by decide), if_neg (fun z => absurd z.1 (by decide)), if_neg (fun z => absurd z.1 (by decide)), if_neg (fun z => absurd z.1 (by decide))]
    · refine g_tabIn (q := 137) dX6_askedBy_1 138 (by rw [wt, hv]) (by decide) (by decide) rfl (by decide) ?_
      refine none ?_
      subst hv
      unfold askC
      rw [if_neg (by decide), if_neg (by decide), if_neg (by decide), if_neg (fun z => absurd z.1 (by decide)), if_neg (fun z => absurd z.1 (by decide)), if_neg (fun z => absurd z.1 (by decide))]
    · refine g_tabIn (q := 137) dX6_askedBy_1 139 (by rw [wt, hv]) (by decide) (by decide) rfl (by decide) ?_
      refine none ?_
      subst hv
      unfold askC
      rw [if_neg (by decide), if_neg (by decide), if_neg (by decide), if_neg (fun z => absurd z.1 (by decide)), if_neg (fun z => absurd z.1 (by decide)), if_neg (fun z => absurd z.1 (by decide))]
    · refine g_tabIn (q := 137) dX6_askedBy_1 140 (by rw [wt, hv]) (by decide) (by decide) rfl (by decide) ?_
      refine none ?_
      subst hv
      unfold askC
      rw [if_neg (by decide), if_neg (by decide), if_neg (by decide), if_neg (fun z => absurd z.1 (by decide)), if_neg (fun z => absurd z.1 (by decide)), if_neg (fun z => absurd z.1 (by decide))]
    · refine g_tabIn (q := 137) dX6_askedBy_1 141 (by rw [wt, hv]) (by decide) (by decide) rfl (by decide) ?_
      refine none ?_
      subst hv
      unfold askC
      rw [if_neg (by decide), if_neg (by decide), if_neg (by decide), if_neg (fun z => absurd z.1 (by decide)), if_neg (fun z => absurd z.1 (by decide)), if_neg (fun z => absurd z.1 (by decide))]
    · refine g_tabIn (q := 137) dX6_askedBy_1 142 (by rw [wt, hv]) (by decide) (by decide) rfl (by decide) ?_
      refine none ?_
      subst hv
      unfold askC
      rw [if_neg (by decide), if_neg (by decide), if_neg (by decide), if_neg (fun z => absurd z.1 (by decide)), if_neg (fun z => absurd z.1 (by decide)), if_neg (fun z => absurd z.1 (by decide))]
    · refine g_tabIn (q := 137) dX6_askedBy_1 143 (by rw [wt, hv]) (by decide) (by decide) rfl (by decide) ?_
      refine none ?_
      subst hv
      unfold askC
      rw [if_neg (by decide), if_neg (by decide), if_neg (by decide), if_neg (fun z => absurd z.1 (by decide)), if_neg (fun z => absurd z.1 (by decide)), if_neg (fun z => absurd z.1 (by decide))]
    · refine g_tabIn (q := 89) dX6_askedBy_1 144 (by rw [wt, hv]) (by decide) (by decide) rfl (by decide) ?_
      subst hv
      refine g_bipush (q := 91) dX6_askedBy_89 (by decide +kernel) rfl ?_
      refine g_ireturn dX6_askedBy_91 rfl ?_
      exact ⟨_, rfl, rfl, rfl⟩
    · refine g_tabIn (q := 92) dX6_askedBy_1 145 (by rw [wt, hv]) (by decide) (by decide) rfl (by decide) ?_
      subst hv
      refine g_aload_n (q := 93) dX6_askedBy_92 rfl rfl ?_
      refine g_getZ (q := 96) (kI := 8) fX6_171 (by first | assumption | exact S.at _ rfl) dX6_askedBy_93 rfl rfl ?_
      rw [ho]
      refine g_if_eq (q := 99) (tg := 104) dX6_askedBy_96 (by decide) rfl (fun c_96 => ?_) (fun c_96 => ?_)
      · have hn := wb0.mp c_96
        refine g_bipush (q := 106) dX6_askedBy_104 (by decide +kernel) rfl ?_
        refine g_ireturn dX6_askedBy_106 rfl ?_
        refine ⟨_, rfl, ?_, rfl⟩
        have ho2 : om = false := by cases om; rfl; exact absurd rfl hn
        subst ho2
        rfl
      · have hn := wbn.mp c_96
        refine g_bipush (q := 101) dX6_askedBy_99 (by decide +kernel) rfl ?_
        refine g_goto (q := 106) dX6_askedBy_101 (by decide) ?_
        refine g_ireturn dX6_askedBy_106 rfl ?_
        refine ⟨_, rfl, ?_, rfl⟩
        subst hn
        rfl
end
