/-! the reference reads its laws -/
theorem dX12_readAtom_0 : decode cX12_readAtom 0 = .ok (.aload_n 0, 1) := by decide +kernel
theorem dX12_readAtom_1 : decode cX12_readAtom 1 = .ok (.bipush 23, 2) := by decide +kernel
theorem dX12_readAtom_3 : decode cX12_readAtom 3 = .ok (.invokevirtual 140, 3) := by decide +kernel
theorem dX12_readAtom_6 : decode cX12_readAtom 6 = .ok (.ifCond .eq 18, 3) := by decide +kernel
theorem dX12_readAtom_9 : decode cX12_readAtom 9 = .ok (.aload_n 0, 1) := by decide +kernel
theorem dX12_readAtom_10 : decode cX12_readAtom 10 = .ok (.aload_n 0, 1) := by decide +kernel
theorem dX12_readAtom_11 : decode cX12_readAtom 11 = .ok (.getfield 129, 3) := by decide +kernel
theorem dX12_readAtom_14 : decode cX12_readAtom 14 = .ok (.invokevirtual 157, 3) := by decide +kernel
theorem dX12_readAtom_17 : decode cX12_readAtom 17 = .ok (.aload_n 0, 1) := by decide +kernel
theorem dX12_readAtom_18 : decode cX12_readAtom 18 = .ok (.invokevirtual 143, 3) := by decide +kernel
theorem dX12_readAtom_21 : decode cX12_readAtom 21 = .ok (.goto 92, 3) := by decide +kernel
theorem dX12_readAtom_24 : decode cX12_readAtom 24 = .ok (.aload_n 0, 1) := by decide +kernel
theorem dX12_readAtom_25 : decode cX12_readAtom 25 = .ok (.getfield 134, 3) := by decide +kernel
theorem dX12_readAtom_28 : decode cX12_readAtom 28 = .ok (.ifCond .ne 38, 3) := by decide +kernel
theorem dX12_readAtom_31 : decode cX12_readAtom 31 = .ok (.aload_n 0, 1) := by decide +kernel
theorem dX12_readAtom_32 : decode cX12_readAtom 32 = .ok (.aload_n 0, 1) := by decide +kernel
theorem dX12_readAtom_33 : decode cX12_readAtom 33 = .ok (.getfield 116, 3) := by decide +kernel
theorem dX12_readAtom_36 : decode cX12_readAtom 36 = .ok (.invokevirtual 160, 3) := by decide +kernel
theorem dX12_readAtom_39 : decode cX12_readAtom 39 = .ok (.iconst (-1), 1) := by decide +kernel
theorem dX12_readAtom_40 : decode cX12_readAtom 40 = .ok (.if_icmp .eq 26, 3) := by decide +kernel
theorem dX12_readAtom_43 : decode cX12_readAtom 43 = .ok (.aload_n 0, 1) := by decide +kernel
theorem dX12_readAtom_44 : decode cX12_readAtom 44 = .ok (.sipush 1000, 3) := by decide +kernel
theorem dX12_readAtom_47 : decode cX12_readAtom 47 = .ok (.aload_n 0, 1) := by decide +kernel
theorem dX12_readAtom_48 : decode cX12_readAtom 48 = .ok (.aload_n 0, 1) := by decide +kernel
theorem dX12_readAtom_49 : decode cX12_readAtom 49 = .ok (.getfield 116, 3) := by decide +kernel
theorem dX12_readAtom_52 : decode cX12_readAtom 52 = .ok (.invokevirtual 160, 3) := by decide +kernel
theorem dX12_readAtom_55 : decode cX12_readAtom 55 = .ok (.iadd, 1) := by decide +kernel
theorem dX12_readAtom_56 : decode cX12_readAtom 56 = .ok (.invokevirtual 157, 3) := by decide +kernel
theorem dX12_readAtom_59 : decode cX12_readAtom 59 = .ok (.aload_n 0, 1) := by decide +kernel
theorem dX12_readAtom_60 : decode cX12_readAtom 60 = .ok (.invokevirtual 143, 3) := by decide +kernel
theorem dX12_readAtom_63 : decode cX12_readAtom 63 = .ok (.goto 50, 3) := by decide +kernel
theorem dX12_readAtom_66 : decode cX12_readAtom 66 = .ok (.aload_n 0, 1) := by decide +kernel
theorem dX12_readAtom_67 : decode cX12_readAtom 67 = .ok (.bipush 35, 2) := by decide +kernel
theorem dX12_readAtom_69 : decode cX12_readAtom 69 = .ok (.invokevirtual 140, 3) := by decide +kernel
theorem dX12_readAtom_72 : decode cX12_readAtom 72 = .ok (.ifCond .eq 36, 3) := by decide +kernel
theorem dX12_readAtom_75 : decode cX12_readAtom 75 = .ok (.aload_n 0, 1) := by decide +kernel
theorem dX12_readAtom_76 : decode cX12_readAtom 76 = .ok (.iload_n 1, 1) := by decide +kernel
theorem dX12_readAtom_77 : decode cX12_readAtom 77 = .ok (.invokevirtual 163, 3) := by decide +kernel
theorem dX12_readAtom_80 : decode cX12_readAtom 80 = .ok (.ifCond .ne 4, 3) := by decide +kernel
theorem dX12_readAtom_83 : decode cX12_readAtom 83 = .ok (.return_, 1) := by decide +kernel
theorem dX12_readAtom_84 : decode cX12_readAtom 84 = .ok (.aload_n 0, 1) := by decide +kernel
theorem dX12_readAtom_85 : decode cX12_readAtom 85 = .ok (.iload_n 1, 1) := by decide +kernel
theorem dX12_readAtom_86 : decode cX12_readAtom 86 = .ok (.iconst 1, 1) := by decide +kernel
theorem dX12_readAtom_87 : decode cX12_readAtom 87 = .ok (.iadd, 1) := by decide +kernel
theorem dX12_readAtom_88 : decode cX12_readAtom 88 = .ok (.invokevirtual 166, 3) := by decide +kernel
theorem dX12_readAtom_91 : decode cX12_readAtom 91 = .ok (.aload_n 0, 1) := by decide +kernel
theorem dX12_readAtom_92 : decode cX12_readAtom 92 = .ok (.bipush 36, 2) := by decide +kernel
theorem dX12_readAtom_94 : decode cX12_readAtom 94 = .ok (.invokevirtual 169, 3) := by decide +kernel
theorem dX12_readAtom_97 : decode cX12_readAtom 97 = .ok (.ifCond .ne 16, 3) := by decide +kernel
theorem dX12_readAtom_100 : decode cX12_readAtom 100 = .ok (.aload_n 0, 1) := by decide +kernel
theorem dX12_readAtom_101 : decode cX12_readAtom 101 = .ok (.iconst 2, 1) := by decide +kernel
theorem dX12_readAtom_102 : decode cX12_readAtom 102 = .ok (.invokevirtual 146, 3) := by decide +kernel
theorem dX12_readAtom_105 : decode cX12_readAtom 105 = .ok (.goto 8, 3) := by decide +kernel
theorem dX12_readAtom_108 : decode cX12_readAtom 108 = .ok (.aload_n 0, 1) := by decide +kernel
theorem dX12_readAtom_109 : decode cX12_readAtom 109 = .ok (.iconst 2, 1) := by decide +kernel
theorem dX12_readAtom_110 : decode cX12_readAtom 110 = .ok (.invokevirtual 146, 3) := by decide +kernel
theorem dX12_readAtom_113 : decode cX12_readAtom 113 = .ok (.return_, 1) := by decide +kernel
theorem dX12_readTerm_0 : decode cX12_readTerm 0 = .ok (.aload_n 0, 1) := by decide +kernel
theorem dX12_readTerm_1 : decode cX12_readTerm 1 = .ok (.iload_n 1, 1) := by decide +kernel
theorem dX12_readTerm_2 : decode cX12_readTerm 2 = .ok (.invokevirtual 172, 3) := by decide +kernel
theorem dX12_readTerm_5 : decode cX12_readTerm 5 = .ok (.aload_n 0, 1) := by decide +kernel
theorem dX12_readTerm_6 : decode cX12_readTerm 6 = .ok (.bipush 34, 2) := by decide +kernel
theorem dX12_readTerm_8 : decode cX12_readTerm 8 = .ok (.invokevirtual 169, 3) := by decide +kernel
theorem dX12_readTerm_11 : decode cX12_readTerm 11 = .ok (.ifCond .eq 18, 3) := by decide +kernel
theorem dX12_readTerm_14 : decode cX12_readTerm 14 = .ok (.aload_n 0, 1) := by decide +kernel
theorem dX12_readTerm_15 : decode cX12_readTerm 15 = .ok (.iload_n 1, 1) := by decide +kernel
theorem dX12_readTerm_16 : decode cX12_readTerm 16 = .ok (.invokevirtual 172, 3) := by decide +kernel
theorem dX12_readTerm_19 : decode cX12_readTerm 19 = .ok (.aload_n 0, 1) := by decide +kernel
theorem dX12_readTerm_20 : decode cX12_readTerm 20 = .ok (.sipush 3002, 3) := by decide +kernel
theorem dX12_readTerm_23 : decode cX12_readTerm 23 = .ok (.invokevirtual 157, 3) := by decide +kernel
theorem dX12_readTerm_26 : decode cX12_readTerm 26 = .ok (.goto (-21), 3) := by decide +kernel
theorem dX12_readTerm_29 : decode cX12_readTerm 29 = .ok (.return_, 1) := by decide +kernel
theorem dX12_readSum_0 : decode cX12_readSum 0 = .ok (.aload_n 0, 1) := by decide +kernel
theorem dX12_readSum_1 : decode cX12_readSum 1 = .ok (.iload_n 1, 1) := by decide +kernel
theorem dX12_readSum_2 : decode cX12_readSum 2 = .ok (.invokevirtual 175, 3) := by decide +kernel
theorem dX12_readSum_5 : decode cX12_readSum 5 = .ok (.aload_n 0, 1) := by decide +kernel
theorem dX12_readSum_6 : decode cX12_readSum 6 = .ok (.bipush 32, 2) := by decide +kernel
theorem dX12_readSum_8 : decode cX12_readSum 8 = .ok (.invokevirtual 140, 3) := by decide +kernel
theorem dX12_readSum_11 : decode cX12_readSum 11 = .ok (.ifCond .ne 12, 3) := by decide +kernel
theorem dX12_readSum_14 : decode cX12_readSum 14 = .ok (.aload_n 0, 1) := by decide +kernel
theorem dX12_readSum_15 : decode cX12_readSum 15 = .ok (.bipush 33, 2) := by decide +kernel
theorem dX12_readSum_17 : decode cX12_readSum 17 = .ok (.invokevirtual 140, 3) := by decide +kernel
theorem dX12_readSum_20 : decode cX12_readSum 20 = .ok (.ifCond .eq 39, 3) := by decide +kernel
theorem dX12_readSum_23 : decode cX12_readSum 23 = .ok (.aload_n 0, 1) := by decide +kernel
theorem dX12_readSum_24 : decode cX12_readSum 24 = .ok (.getfield 116, 3) := by decide +kernel
theorem dX12_readSum_27 : decode cX12_readSum 27 = .ok (.bipush 32, 2) := by decide +kernel
theorem dX12_readSum_29 : decode cX12_readSum 29 = .ok (.if_icmp .ne 9, 3) := by decide +kernel
theorem dX12_readSum_32 : decode cX12_readSum 32 = .ok (.sipush 3000, 3) := by decide +kernel
theorem dX12_readSum_35 : decode cX12_readSum 35 = .ok (.goto 6, 3) := by decide +kernel
theorem dX12_readSum_38 : decode cX12_readSum 38 = .ok (.sipush 3001, 3) := by decide +kernel
theorem dX12_readSum_41 : decode cX12_readSum 41 = .ok (.istore_n 2, 1) := by decide +kernel
theorem dX12_readSum_42 : decode cX12_readSum 42 = .ok (.aload_n 0, 1) := by decide +kernel
theorem dX12_readSum_43 : decode cX12_readSum 43 = .ok (.invokevirtual 143, 3) := by decide +kernel
theorem dX12_readSum_46 : decode cX12_readSum 46 = .ok (.aload_n 0, 1) := by decide +kernel
theorem dX12_readSum_47 : decode cX12_readSum 47 = .ok (.iload_n 1, 1) := by decide +kernel
theorem dX12_readSum_48 : decode cX12_readSum 48 = .ok (.invokevirtual 175, 3) := by decide +kernel
theorem dX12_readSum_51 : decode cX12_readSum 51 = .ok (.aload_n 0, 1) := by decide +kernel
theorem dX12_readSum_52 : decode cX12_readSum 52 = .ok (.iload_n 2, 1) := by decide +kernel
theorem dX12_readSum_53 : decode cX12_readSum 53 = .ok (.invokevirtual 157, 3) := by decide +kernel
theorem dX12_readSum_56 : decode cX12_readSum 56 = .ok (.goto (-51), 3) := by decide +kernel
theorem dX12_readSum_59 : decode cX12_readSum 59 = .ok (.return_, 1) := by decide +kernel
theorem dX12_readUnit_0 : decode cX12_readUnit 0 = .ok (.aload_n 0, 1) := by decide +kernel
theorem dX12_readUnit_1 : decode cX12_readUnit 1 = .ok (.bipush 17, 2) := by decide +kernel
theorem dX12_readUnit_3 : decode cX12_readUnit 3 = .ok (.invokevirtual 140, 3) := by decide +kernel
theorem dX12_readUnit_6 : decode cX12_readUnit 6 = .ok (.ifCond .eq 27, 3) := by decide +kernel
theorem dX12_readUnit_9 : decode cX12_readUnit 9 = .ok (.aload_n 0, 1) := by decide +kernel
theorem dX12_readUnit_10 : decode cX12_readUnit 10 = .ok (.iload_n 1, 1) := by decide +kernel
theorem dX12_readUnit_11 : decode cX12_readUnit 11 = .ok (.invokevirtual 163, 3) := by decide +kernel
theorem dX12_readUnit_14 : decode cX12_readUnit 14 = .ok (.ifCond .ne 4, 3) := by decide +kernel
theorem dX12_readUnit_17 : decode cX12_readUnit 17 = .ok (.return_, 1) := by decide +kernel
theorem dX12_readUnit_18 : decode cX12_readUnit 18 = .ok (.aload_n 0, 1) := by decide +kernel
theorem dX12_readUnit_19 : decode cX12_readUnit 19 = .ok (.iload_n 1, 1) := by decide +kernel
theorem dX12_readUnit_20 : decode cX12_readUnit 20 = .ok (.iconst 1, 1) := by decide +kernel
theorem dX12_readUnit_21 : decode cX12_readUnit 21 = .ok (.iadd, 1) := by decide +kernel
theorem dX12_readUnit_22 : decode cX12_readUnit 22 = .ok (.invokevirtual 178, 3) := by decide +kernel
theorem dX12_readUnit_25 : decode cX12_readUnit 25 = .ok (.aload_n 0, 1) := by decide +kernel
theorem dX12_readUnit_26 : decode cX12_readUnit 26 = .ok (.sipush 3006, 3) := by decide +kernel
theorem dX12_readUnit_29 : decode cX12_readUnit 29 = .ok (.invokevirtual 157, 3) := by decide +kernel
theorem dX12_readUnit_32 : decode cX12_readUnit 32 = .ok (.return_, 1) := by decide +kernel
theorem dX12_readUnit_33 : decode cX12_readUnit 33 = .ok (.aload_n 0, 1) := by decide +kernel
theorem dX12_readUnit_34 : decode cX12_readUnit 34 = .ok (.bipush 37, 2) := by decide +kernel
theorem dX12_readUnit_36 : decode cX12_readUnit 36 = .ok (.invokevirtual 140, 3) := by decide +kernel
theorem dX12_readUnit_39 : decode cX12_readUnit 39 = .ok (.ifCond .eq 34, 3) := by decide +kernel
theorem dX12_readUnit_42 : decode cX12_readUnit 42 = .ok (.aload_n 0, 1) := by decide +kernel
theorem dX12_readUnit_43 : decode cX12_readUnit 43 = .ok (.iload_n 1, 1) := by decide +kernel
theorem dX12_readUnit_44 : decode cX12_readUnit 44 = .ok (.invokevirtual 163, 3) := by decide +kernel
theorem dX12_readUnit_47 : decode cX12_readUnit 47 = .ok (.ifCond .ne 4, 3) := by decide +kernel
theorem dX12_readUnit_50 : decode cX12_readUnit 50 = .ok (.return_, 1) := by decide +kernel
theorem dX12_readUnit_51 : decode cX12_readUnit 51 = .ok (.aload_n 0, 1) := by decide +kernel
theorem dX12_readUnit_52 : decode cX12_readUnit 52 = .ok (.iload_n 1, 1) := by decide +kernel
theorem dX12_readUnit_53 : decode cX12_readUnit 53 = .ok (.iconst 1, 1) := by decide +kernel
theorem dX12_readUnit_54 : decode cX12_readUnit 54 = .ok (.iadd, 1) := by decide +kernel
theorem dX12_readUnit_55 : decode cX12_readUnit 55 = .ok (.invokevirtual 181, 3) := by decide +kernel
theorem dX12_readUnit_58 : decode cX12_readUnit 58 = .ok (.aload_n 0, 1) := by decide +kernel
theorem dX12_readUnit_59 : decode cX12_readUnit 59 = .ok (.bipush 38, 2) := by decide +kernel
theorem dX12_readUnit_61 : decode cX12_readUnit 61 = .ok (.invokevirtual 169, 3) := by decide +kernel
theorem dX12_readUnit_64 : decode cX12_readUnit 64 = .ok (.ifCond .ne 8, 3) := by decide +kernel
theorem dX12_readUnit_67 : decode cX12_readUnit 67 = .ok (.aload_n 0, 1) := by decide +kernel
theorem dX12_readUnit_68 : decode cX12_readUnit 68 = .ok (.iconst 2, 1) := by decide +kernel
theorem dX12_readUnit_69 : decode cX12_readUnit 69 = .ok (.invokevirtual 146, 3) := by decide +kernel
theorem dX12_readUnit_72 : decode cX12_readUnit 72 = .ok (.return_, 1) := by decide +kernel
theorem dX12_readUnit_73 : decode cX12_readUnit 73 = .ok (.aload_n 0, 1) := by decide +kernel
theorem dX12_readUnit_74 : decode cX12_readUnit 74 = .ok (.iload_n 1, 1) := by decide +kernel
theorem dX12_readUnit_75 : decode cX12_readUnit 75 = .ok (.invokevirtual 166, 3) := by decide +kernel
theorem dX12_readUnit_78 : decode cX12_readUnit 78 = .ok (.aload_n 0, 1) := by decide +kernel
theorem dX12_readUnit_79 : decode cX12_readUnit 79 = .ok (.bipush 39, 2) := by decide +kernel
theorem dX12_readUnit_81 : decode cX12_readUnit 81 = .ok (.invokevirtual 140, 3) := by decide +kernel
theorem dX12_readUnit_84 : decode cX12_readUnit 84 = .ok (.ifCond .eq 9, 3) := by decide +kernel
theorem dX12_readUnit_87 : decode cX12_readUnit 87 = .ok (.sipush 3003, 3) := by decide +kernel
theorem dX12_readUnit_90 : decode cX12_readUnit 90 = .ok (.goto 21, 3) := by decide +kernel
theorem dX12_readUnit_93 : decode cX12_readUnit 93 = .ok (.aload_n 0, 1) := by decide +kernel
theorem dX12_readUnit_94 : decode cX12_readUnit 94 = .ok (.bipush 40, 2) := by decide +kernel
theorem dX12_readUnit_96 : decode cX12_readUnit 96 = .ok (.invokevirtual 140, 3) := by decide +kernel
theorem dX12_readUnit_99 : decode cX12_readUnit 99 = .ok (.ifCond .eq 9, 3) := by decide +kernel
theorem dX12_readUnit_102 : decode cX12_readUnit 102 = .ok (.sipush 3004, 3) := by decide +kernel
theorem dX12_readUnit_105 : decode cX12_readUnit 105 = .ok (.goto 6, 3) := by decide +kernel
theorem dX12_readUnit_108 : decode cX12_readUnit 108 = .ok (.sipush 3005, 3) := by decide +kernel
theorem dX12_readUnit_111 : decode cX12_readUnit 111 = .ok (.istore_n 2, 1) := by decide +kernel
theorem dX12_readUnit_112 : decode cX12_readUnit 112 = .ok (.aload_n 0, 1) := by decide +kernel
theorem dX12_readUnit_113 : decode cX12_readUnit 113 = .ok (.bipush 39, 2) := by decide +kernel
theorem dX12_readUnit_115 : decode cX12_readUnit 115 = .ok (.invokevirtual 140, 3) := by decide +kernel
theorem dX12_readUnit_118 : decode cX12_readUnit 118 = .ok (.ifCond .ne 21, 3) := by decide +kernel
theorem dX12_readUnit_121 : decode cX12_readUnit 121 = .ok (.aload_n 0, 1) := by decide +kernel
theorem dX12_readUnit_122 : decode cX12_readUnit 122 = .ok (.bipush 40, 2) := by decide +kernel
theorem dX12_readUnit_124 : decode cX12_readUnit 124 = .ok (.invokevirtual 140, 3) := by decide +kernel
theorem dX12_readUnit_127 : decode cX12_readUnit 127 = .ok (.ifCond .ne 12, 3) := by decide +kernel
theorem dX12_readUnit_130 : decode cX12_readUnit 130 = .ok (.aload_n 0, 1) := by decide +kernel
theorem dX12_readUnit_131 : decode cX12_readUnit 131 = .ok (.bipush 41, 2) := by decide +kernel
theorem dX12_readUnit_133 : decode cX12_readUnit 133 = .ok (.invokevirtual 140, 3) := by decide +kernel
theorem dX12_readUnit_136 : decode cX12_readUnit 136 = .ok (.ifCond .eq 10, 3) := by decide +kernel
theorem dX12_readUnit_139 : decode cX12_readUnit 139 = .ok (.aload_n 0, 1) := by decide +kernel
theorem dX12_readUnit_140 : decode cX12_readUnit 140 = .ok (.invokevirtual 143, 3) := by decide +kernel
theorem dX12_readUnit_143 : decode cX12_readUnit 143 = .ok (.goto 8, 3) := by decide +kernel
theorem dX12_readUnit_146 : decode cX12_readUnit 146 = .ok (.aload_n 0, 1) := by decide +kernel
theorem dX12_readUnit_147 : decode cX12_readUnit 147 = .ok (.iconst 2, 1) := by decide +kernel
theorem dX12_readUnit_148 : decode cX12_readUnit 148 = .ok (.invokevirtual 146, 3) := by decide +kernel
theorem dX12_readUnit_151 : decode cX12_readUnit 151 = .ok (.aload_n 0, 1) := by decide +kernel
theorem dX12_readUnit_152 : decode cX12_readUnit 152 = .ok (.iload_n 1, 1) := by decide +kernel
theorem dX12_readUnit_153 : decode cX12_readUnit 153 = .ok (.invokevirtual 166, 3) := by decide +kernel
theorem dX12_readUnit_156 : decode cX12_readUnit 156 = .ok (.aload_n 0, 1) := by decide +kernel
theorem dX12_readUnit_157 : decode cX12_readUnit 157 = .ok (.iload_n 2, 1) := by decide +kernel
theorem dX12_readUnit_158 : decode cX12_readUnit 158 = .ok (.invokevirtual 157, 3) := by decide +kernel
theorem dX12_readUnit_161 : decode cX12_readUnit 161 = .ok (.return_, 1) := by decide +kernel
theorem dX12_readBoth_0 : decode cX12_readBoth 0 = .ok (.aload_n 0, 1) := by decide +kernel
theorem dX12_readBoth_1 : decode cX12_readBoth 1 = .ok (.iload_n 1, 1) := by decide +kernel
theorem dX12_readBoth_2 : decode cX12_readBoth 2 = .ok (.invokevirtual 178, 3) := by decide +kernel
theorem dX12_readBoth_5 : decode cX12_readBoth 5 = .ok (.aload_n 0, 1) := by decide +kernel
theorem dX12_readBoth_6 : decode cX12_readBoth 6 = .ok (.bipush 15, 2) := by decide +kernel
theorem dX12_readBoth_8 : decode cX12_readBoth 8 = .ok (.invokevirtual 169, 3) := by decide +kernel
theorem dX12_readBoth_11 : decode cX12_readBoth 11 = .ok (.ifCond .eq 18, 3) := by decide +kernel
theorem dX12_readBoth_14 : decode cX12_readBoth 14 = .ok (.aload_n 0, 1) := by decide +kernel
theorem dX12_readBoth_15 : decode cX12_readBoth 15 = .ok (.iload_n 1, 1) := by decide +kernel
theorem dX12_readBoth_16 : decode cX12_readBoth 16 = .ok (.invokevirtual 178, 3) := by decide +kernel
theorem dX12_readBoth_19 : decode cX12_readBoth 19 = .ok (.aload_n 0, 1) := by decide +kernel
theorem dX12_readBoth_20 : decode cX12_readBoth 20 = .ok (.sipush 3007, 3) := by decide +kernel
theorem dX12_readBoth_23 : decode cX12_readBoth 23 = .ok (.invokevirtual 157, 3) := by decide +kernel
theorem dX12_readBoth_26 : decode cX12_readBoth 26 = .ok (.goto (-21), 3) := by decide +kernel
theorem dX12_readBoth_29 : decode cX12_readBoth 29 = .ok (.return_, 1) := by decide +kernel
theorem dX12_readTruth_0 : decode cX12_readTruth 0 = .ok (.aload_n 0, 1) := by decide +kernel
theorem dX12_readTruth_1 : decode cX12_readTruth 1 = .ok (.iload_n 1, 1) := by decide +kernel
theorem dX12_readTruth_2 : decode cX12_readTruth 2 = .ok (.invokevirtual 184, 3) := by decide +kernel
theorem dX12_readTruth_5 : decode cX12_readTruth 5 = .ok (.aload_n 0, 1) := by decide +kernel
theorem dX12_readTruth_6 : decode cX12_readTruth 6 = .ok (.bipush 16, 2) := by decide +kernel
theorem dX12_readTruth_8 : decode cX12_readTruth 8 = .ok (.invokevirtual 169, 3) := by decide +kernel
theorem dX12_readTruth_11 : decode cX12_readTruth 11 = .ok (.ifCond .eq 18, 3) := by decide +kernel
theorem dX12_readTruth_14 : decode cX12_readTruth 14 = .ok (.aload_n 0, 1) := by decide +kernel
theorem dX12_readTruth_15 : decode cX12_readTruth 15 = .ok (.iload_n 1, 1) := by decide +kernel
theorem dX12_readTruth_16 : decode cX12_readTruth 16 = .ok (.invokevirtual 184, 3) := by decide +kernel
theorem dX12_readTruth_19 : decode cX12_readTruth 19 = .ok (.aload_n 0, 1) := by decide +kernel
theorem dX12_readTruth_20 : decode cX12_readTruth 20 = .ok (.sipush 3008, 3) := by decide +kernel
theorem dX12_readTruth_23 : decode cX12_readTruth 23 = .ok (.invokevirtual 157, 3) := by decide +kernel
theorem dX12_readTruth_26 : decode cX12_readTruth 26 = .ok (.goto (-21), 3) := by decide +kernel
theorem dX12_readTruth_29 : decode cX12_readTruth 29 = .ok (.return_, 1) := by decide +kernel
/-- a loop that ends because something falls -/
theorem g_wh {α : Type} {K : mbK} {pc : Nat} {sh : mbSh} (ls : List (Option gV)) (I : Nat → α → mbCt → Prop) (step : ∀ m a c, I m a c → (∀ m' a' ls' c', m' < m → lsSub ls ls' → I m' a' c' → G K pc ls' [] sh c') → G K pc ls [] sh c) : ∀ (m : Nat) (a : α) (c : mbCt) (ls' : List (Option gV)), I m a c → lsSub ls ls' → G K pc ls' [] sh c := by
  intro m
  induction m using Nat.strongRecOn with
  | ind m ih =>
    intro a c ls' h hl
    exact g_fg hl (step m a c h (fun m' a' ls2 c2 hm h2 h3 => ih m' hm a' c2 ls2 h3 h2))
section
variable (d : Nat) (sh : mbSh) {f K Pl E : Int → Int} {n T : Int} {om : Bool}
/-- a part of a law is read as it should be: by the method Y, within 6 - r -/
def MC (Y : mbY) (D : Nat) (sh : mbSh) (f : Int → Int) (n T : Int) (K Pl E : Int → Int) (om : Bool) (r : Nat) (P : PS → PS) : Prop := ∀ (ct : mbCt) (σ : PS), MR ct f n T K Pl E σ → gd T σ → ct 92 15 = rdg om → Mt Y D [.inr (.inr 92), .inl (6 - (r : Int))] sh sh ct (pN fun c => MR c f n T K Pl E (P σ) ∧ mrF ct c)
theorem mrF.rd {ct c : mbCt} (h : mrF ct c) (ho : ct 92 15 = rdg om) : c 92 15 = rdg om := by rw [h.1 15 (by decide) (by decide) (by decide) (by decide) (by decide) (by decide)]; exact ho
theorem tw_readTerm {r nd : Nat} {P : PS → PS} (S : SH sh) (hr : r ≤ 6) (hQ : PQ T om False nd P) (hP : MC YX12_readAtom (d + 6) sh f n T K Pl E om r P) : MC YX12_readTerm (d + 7) sh f n T K Pl E om r (fun σ => loopP T K isTi (fun _ => -9) P T.toNat (P σ)) := by
  intro ct σ M hg ho
  generalize hPo : (pN fun c => MR c f n T K Pl E (loopP T K isTi (fun _ => -9) P T.toNat (P σ)) ∧ mrF ct c) = Po
  refine Mt.of rfl (Nat.le_of_ble_eq_true rfl) ?_
  show G _ 0 [some (.inr (.inr 92)), some (.inl (6 - (r : Int)))] [] sh ct
  refine g_aload_n (q := 1) dX12_readTerm_0 rfl rfl ?_
  refine g_iload_n (q := 2) dX12_readTerm_1 rfl rfl ?_
  refine g_callV (q := 5) lX12_172 mX12_readAtom nX12_readAtom rfl (hP ct σ M hg ho) (by first | assumption | exact S.at _ rfl) rfl rfl shLe.rf (rmOk.mk (by omega) (by first | exact shLe.rf | assumption)) (Nat.le_of_ble_eq_true rfl) dX12_readTerm_2 rfl rfl (kN fun c1 hp => ?_)
  obtain ⟨M1, f1⟩ := hp
  have g1 := (hQ σ hg).1
  refine g_wh (α := PS) [some (.inr (.inr 92)), some (.inl (6 - (r : Int)))] (fun m τ c => MR c f n T K Pl E τ ∧ gd T τ ∧ mrF ct c ∧ T ≤ τ.1 + m ∧ loopP T K isTi (fun _ => -9) P m τ = loopP T K isTi (fun _ => -9) P T.toNat (P σ)) ?_ T.toNat (P σ) _ _ ⟨M1, g1, f1, by have := g1.1.1; omega, rfl⟩ (lsSub_rf _)
  rintro m τ c ⟨M2, g2, f2, hm, e2⟩ kk
  obtain ⟨m', rfl⟩ : ∃ m', m = m' + 1 := ⟨m - 1, by have := g2.1.2; omega⟩
  refine g_aload_n (q := 6) dX12_readTerm_5 rfl rfl ?_
  refine g_bipush (q := 8) dX12_readTerm_6 (by decide +kernel) rfl ?_
  refine g_callV (q := 11) lX12_169 mX12_eats nX12_eats rfl (tw_eats 0 sh _ S M2 g2 (x := 34) (y := 42) (by decide) (by decide)) (by first | assumption | exact S.at _ rfl) rfl rfl shLe.rf (rmOk.mk (by omega) (by first | exact shLe.rf | assumption)) (Nat.le_of_ble_eq_true rfl) dX12_readTerm_8 rfl rfl (kI fun v c3 hp => ?_)
  obtain ⟨hp, f3⟩ := hp
  rcases hp with ⟨ht, rfl, M3⟩ | ⟨ht, rfl, M3⟩
  · have hop : isTi (tkP K τ) := ht
    obtain ⟨s1, s2, s3⟩ := step_go M2.kd.1 g2 (by omega) (by omega) (by omega)
    have hs1 : (stepP T τ).1 = τ.1 + 1 := by rw [s3]
    have g3 := (stepP_gd g2).1
    have q := hQ (stepP T τ) g3
    have hrm := hQ.room M2.kd.1 g2 (by omega) (by omega) (by omega)
    refine g_if_eq (q := 14) (tg := 29) dX12_readTerm_11 (by decide) rfl (fun c_11 => ?_) (fun c_11 => ?_)
    · exact absurd c_11 (by decide)
    · refine g_aload_n (q := 15) dX12_readTerm_14 rfl rfl ?_
      refine g_iload_n (q := 16) dX12_readTerm_15 rfl rfl ?_
      refine g_callV (q := 19) lX12_172 mX12_readAtom nX12_readAtom rfl (hP _ _ M3 g3 ((f2.tr f3).rd ho)) (by first | assumption | exact S.at _ rfl) rfl rfl shLe.rf (rmOk.mk (by omega) (by first | exact shLe.rf | assumption)) (Nat.le_of_ble_eq_true rfl) dX12_readTerm_16 rfl rfl (kN fun c4 hp => ?_)
      obtain ⟨M4, f4⟩ := hp
      refine g_aload_n (q := 20) dX12_readTerm_19 rfl rfl ?_
      refine g_sipush (q := 23) dX12_readTerm_20 (by decide +kernel) rfl ?_
      refine g_callV (q := 26) lX12_157 mX12_codes nX12_codes rfl (tw_codes 0 sh _ S M4 (op := -9) (fun hw => (hrm hw).2) (by decide)) (by first | assumption | exact S.at _ rfl) rfl rfl shLe.rf (rmOk.mk (by omega) (by first | exact shLe.rf | assumption)) (Nat.le_of_ble_eq_true rfl) dX12_readTerm_23 rfl rfl (kN fun c5 hp => ?_)
      obtain ⟨M5, f5⟩ := hp
      have hc := codeP_gd (k := -9) q.1 (fun hw => (hrm hw).1)
      refine g_goto (q := 5) dX12_readTerm_26 (by decide) ?_
      refine kk m' _ _ _ (by omega) (lsSub_rf _) ⟨M5, hc.1, ((f2.tr f3).tr f4).tr f5, ?_, ?_⟩
      · rw [hc.2.1]
        have := q.2.1
        omega
      · rw [← e2, loopP_go hop]
  · refine g_if_eq (q := 14) (tg := 29) dX12_readTerm_11 (by decide) rfl (fun c_11 => ?_) (fun c_11 => ?_)
    · refine g_return dX12_readTerm_29 rfl ?_
      rw [← hPo]
      refine ⟨rfl, ?_, f2.tr f3⟩
      rw [← e2, loopP_stop ht]
      exact M3
    · exact absurd rfl c_11
theorem tw_readBoth {r nd : Nat} {P : PS → PS} (S : SH sh) (hr : r ≤ 6) (hQ : PQ T om True nd P) (hP : MC YX12_readUnit (d + 6) sh f n T K Pl E om r P) : MC YX12_readBoth (d + 7) sh f n T K Pl E om r (fun σ => loopP T K isAn (fun _ => -14) P T.toNat (P σ)) := by
  intro ct σ M hg ho
  generalize hPo : (pN fun c => MR c f n T K Pl E (loopP T K isAn (fun _ => -14) P T.toNat (P σ)) ∧ mrF ct c) = Po
  refine Mt.of rfl (Nat.le_of_ble_eq_true rfl) ?_
  show G _ 0 [some (.inr (.inr 92)), some (.inl (6 - (r : Int)))] [] sh ct
  refine g_aload_n (q := 1) dX12_readBoth_0 rfl rfl ?_
  refine g_iload_n (q := 2) dX12_readBoth_1 rfl rfl ?_
  refine g_callV (q := 5) lX12_178 mX12_readUnit nX12_readUnit rfl (hP ct σ M hg ho) (by first | assumption | exact S.at _ rfl) rfl rfl shLe.rf (rmOk.mk (by omega) (by first | exact shLe.rf | assumption)) (Nat.le_of_ble_eq_true rfl) dX12_readBoth_2 rfl rfl (kN fun c1 hp => ?_)
  obtain ⟨M1, f1⟩ := hp
  have g1 := (hQ σ hg).1
  refine g_wh (α := PS) [some (.inr (.inr 92)), some (.inl (6 - (r : Int)))] (fun m τ c => MR c f n T K Pl E τ ∧ gd T τ ∧ mrF ct c ∧ T ≤ τ.1 + m ∧ loopP T K isAn (fun _ => -14) P m τ = loopP T K isAn (fun _ => -14) P T.toNat (P σ)) ?_ T.toNat (P σ) _ _ ⟨M1, g1, f1, by have := g1.1.1; omega, rfl⟩ (lsSub_rf _)
  rintro m τ c ⟨M2, g2, f2, hm, e2⟩ kk
  obtain ⟨m', rfl⟩ : ∃ m', m = m' + 1 := ⟨m - 1, by have := g2.1.2; omega⟩
  refine g_aload_n (q := 6) dX12_readBoth_5 rfl rfl ?_
  refine g_bipush (q := 8) dX12_readBoth_6 (by decide +kernel) rfl ?_
  refine g_callV (q := 11) lX12_169 mX12_eats nX12_eats rfl (tw_eats 0 sh _ S M2 g2 (x := 15) (y := 142) (by decide) (by decide)) (by first | assumption | exact S.at _ rfl) rfl rfl shLe.rf (rmOk.mk (by omega) (by first | exact shLe.rf | assumption)) (Nat.le_of_ble_eq_true rfl) dX12_readBoth_8 rfl rfl (kI fun v c3 hp => ?_)
  obtain ⟨hp, f3⟩ := hp
  rcases hp with ⟨ht, rfl, M3⟩ | ⟨ht, rfl, M3⟩
  · have hop : isAn (tkP K τ) := ht
    obtain ⟨s1, s2, s3⟩ := step_go M2.kd.1 g2 (by omega) (by omega) (by omega)
    have hs1 : (stepP T τ).1 = τ.1 + 1 := by rw [s3]
    have g3 := (stepP_gd g2).1
    have q := hQ (stepP T τ) g3
    have hrm := hQ.room M2.kd.1 g2 (by omega) (by omega) (by omega)
    refine g_if_eq (q := 14) (tg := 29) dX12_readBoth_11 (by decide) rfl (fun c_11 => ?_) (fun c_11 => ?_)
    · exact absurd c_11 (by decide)
    · refine g_aload_n (q := 15) dX12_readBoth_14 rfl rfl ?_
      refine g_iload_n (q := 16) dX12_readBoth_15 rfl rfl ?_
      refine g_callV (q := 19) lX12_178 mX12_readUnit nX12_readUnit rfl (hP _ _ M3 g3 ((f2.tr f3).rd ho)) (by first | assumption | exact S.at _ rfl) rfl rfl shLe.rf (rmOk.mk (by omega) (by first | exact shLe.rf | assumption)) (Nat.le_of_ble_eq_true rfl) dX12_readBoth_16 rfl rfl (kN fun c4 hp => ?_)
      obtain ⟨M4, f4⟩ := hp
      refine g_aload_n (q := 20) dX12_readBoth_19 rfl rfl ?_
      refine g_sipush (q := 23) dX12_readBoth_20 (by decide +kernel) rfl ?_
      refine g_callV (q := 26) lX12_157 mX12_codes nX12_codes rfl (tw_codes 0 sh _ S M4 (op := -14) (fun hw => (hrm hw).2) (by decide)) (by first | assumption | exact S.at _ rfl) rfl rfl shLe.rf (rmOk.mk (by omega) (by first | exact shLe.rf | assumption)) (Nat.le_of_ble_eq_true rfl) dX12_readBoth_23 rfl rfl (kN fun c5 hp => ?_)
      obtain ⟨M5, f5⟩ := hp
      have hc := codeP_gd (k := -14) q.1 (fun hw => (hrm hw).1)
      refine g_goto (q := 5) dX12_readBoth_26 (by decide) ?_
      refine kk m' _ _ _ (by omega) (lsSub_rf _) ⟨M5, hc.1, ((f2.tr f3).tr f4).tr f5, ?_, ?_⟩
      · rw [hc.2.1]
        have := q.2.1
        omega
      · rw [← e2, loopP_go hop]
  · refine g_if_eq (q := 14) (tg := 29) dX12_readBoth_11 (by decide) rfl (fun c_11 => ?_) (fun c_11 => ?_)
    · refine g_return dX12_readBoth_29 rfl ?_
      rw [← hPo]
      refine ⟨rfl, ?_, f2.tr f3⟩
      rw [← e2, loopP_stop ht]
      exact M3
    · exact absurd rfl c_11
theorem tw_readTruth {r nd : Nat} {P : PS → PS} (S : SH sh) (hr : r ≤ 6) (hQ : PQ T om True nd P) (hP : MC YX12_readBoth (d + 6) sh f n T K Pl E om r P) : MC YX12_readTruth (d + 7) sh f n T K Pl E om r (fun σ => loopP T K isOr (fun _ => -15) P T.toNat (P σ)) := by
  intro ct σ M hg ho
  generalize hPo : (pN fun c => MR c f n T K Pl E (loopP T K isOr (fun _ => -15) P T.toNat (P σ)) ∧ mrF ct c) = Po
  refine Mt.of rfl (Nat.le_of_ble_eq_true rfl) ?_
  show G _ 0 [some (.inr (.inr 92)), some (.inl (6 - (r : Int)))] [] sh ct
  refine g_aload_n (q := 1) dX12_readTruth_0 rfl rfl ?_
  refine g_iload_n (q := 2) dX12_readTruth_1 rfl rfl ?_
  refine g_callV (q := 5) lX12_184 mX12_readBoth nX12_readBoth rfl (hP ct σ M hg ho) (by first | assumption | exact S.at _ rfl) rfl rfl shLe.rf (rmOk.mk (by omega) (by first | exact shLe.rf | assumption)) (Nat.le_of_ble_eq_true rfl) dX12_readTruth_2 rfl rfl (kN fun c1 hp => ?_)
  obtain ⟨M1, f1⟩ := hp
  have g1 := (hQ σ hg).1
  refine g_wh (α := PS) [some (.inr (.inr 92)), some (.inl (6 - (r : Int)))] (fun m τ c => MR c f n T K Pl E τ ∧ gd T τ ∧ mrF ct c ∧ T ≤ τ.1 + m ∧ loopP T K isOr (fun _ => -15) P m τ = loopP T K isOr (fun _ => -15) P T.toNat (P σ)) ?_ T.toNat (P σ) _ _ ⟨M1, g1, f1, by have := g1.1.1; omega, rfl⟩ (lsSub_rf _)
  rintro m τ c ⟨M2, g2, f2, hm, e2⟩ kk
  obtain ⟨m', rfl⟩ : ∃ m', m = m' + 1 := ⟨m - 1, by have := g2.1.2; omega⟩
  refine g_aload_n (q := 6) dX12_readTruth_5 rfl rfl ?_
  refine g_bipush (q := 8) dX12_readTruth_6 (by decide +kernel) rfl ?_
  refine g_callV (q := 11) lX12_169 mX12_eats nX12_eats rfl (tw_eats 0 sh _ S M2 g2 (x := 16) (y := 141) (by decide) (by decide)) (by first | assumption | exact S.at _ rfl) rfl rfl shLe.rf (rmOk.mk (by omega) (by first | exact shLe.rf | assumption)) (Nat.le_of_ble_eq_true rfl) dX12_readTruth_8 rfl rfl (kI fun v c3 hp => ?_)
  obtain ⟨hp, f3⟩ := hp
  rcases hp with ⟨ht, rfl, M3⟩ | ⟨ht, rfl, M3⟩
  · have hop : isOr (tkP K τ) := ht
    obtain ⟨s1, s2, s3⟩ := step_go M2.kd.1 g2 (by omega) (by omega) (by omega)
    have hs1 : (stepP T τ).1 = τ.1 + 1 := by rw [s3]
    have g3 := (stepP_gd g2).1
    have q := hQ (stepP T τ) g3
    have hrm := hQ.room M2.kd.1 g2 (by omega) (by omega) (by omega)
    refine g_if_eq (q := 14) (tg := 29) dX12_readTruth_11 (by decide) rfl (fun c_11 => ?_) (fun c_11 => ?_)
    · exact absurd c_11 (by decide)
    · refine g_aload_n (q := 15) dX12_readTruth_14 rfl rfl ?_
      refine g_iload_n (q := 16) dX12_readTruth_15 rfl rfl ?_
      refine g_callV (q := 19) lX12_184 mX12_readBoth nX12_readBoth rfl (hP _ _ M3 g3 ((f2.tr f3).rd ho)) (by first | assumption | exact S.at _ rfl) rfl rfl shLe.rf (rmOk.mk (by omega) (by first | exact shLe.rf | assumption)) (Nat.le_of_ble_eq_true rfl) dX12_readTruth_16 rfl rfl (kN fun c4 hp => ?_)
      obtain ⟨M4, f4⟩ := hp
      refine g_aload_n (q := 20) dX12_readTruth_19 rfl rfl ?_
      refine g_sipush (q := 23) dX12_readTruth_20 (by decide +kernel) rfl ?_
      refine g_callV (q := 26) lX12_157 mX12_codes nX12_codes rfl (tw_codes 0 sh _ S M4 (op := -15) (fun hw => (hrm hw).2) (by decide)) (by first | assumption | exact S.at _ rfl) rfl rfl shLe.rf (rmOk.mk (by omega) (by first | exact shLe.rf | assumption)) (Nat.le_of_ble_eq_true rfl) dX12_readTruth_23 rfl rfl (kN fun c5 hp => ?_)
      obtain ⟨M5, f5⟩ := hp
      have hc := codeP_gd (k := -15) q.1 (fun hw => (hrm hw).1)
      refine g_goto (q := 5) dX12_readTruth_26 (by decide) ?_
      refine kk m' _ _ _ (by omega) (lsSub_rf _) ⟨M5, hc.1, ((f2.tr f3).tr f4).tr f5, ?_, ?_⟩
      · rw [hc.2.1]
        have := q.2.1
        omega
      · rw [← e2, loopP_go hop]
  · refine g_if_eq (q := 14) (tg := 29) dX12_readTruth_11 (by decide) rfl (fun c_11 => ?_) (fun c_11 => ?_)
    · refine g_return dX12_readTruth_29 rfl ?_
      rw [← hPo]
      refine ⟨rfl, ?_, f2.tr f3⟩
      rw [← e2, loopP_stop ht]
      exact M3
    · exact absurd rfl c_11
theorem tw_readSum {r nd : Nat} {P : PS → PS} (S : SH sh) (hr : r ≤ 6) (hQ : PQ T om False nd P) (hP : MC YX12_readTerm (d + 6) sh f n T K Pl E om r P) : MC YX12_readSum (d + 7) sh f n T K Pl E om r (fun σ => loopP T K isPm cdPm P T.toNat (P σ)) := by
  intro ct σ M hg ho
  generalize hPo : (pN fun c => MR c f n T K Pl E (loopP T K isPm cdPm P T.toNat (P σ)) ∧ mrF ct c) = Po
  refine Mt.of rfl (Nat.le_of_ble_eq_true rfl) ?_
  show G _ 0 [some (.inr (.inr 92)), some (.inl (6 - (r : Int))), none] [] sh ct
  refine g_aload_n (q := 1) dX12_readSum_0 rfl rfl ?_
  refine g_iload_n (q := 2) dX12_readSum_1 rfl rfl ?_
  refine g_callV (q := 5) lX12_175 mX12_readTerm nX12_readTerm rfl (hP ct σ M hg ho) (by first | assumption | exact S.at _ rfl) rfl rfl shLe.rf (rmOk.mk (by omega) (by first | exact shLe.rf | assumption)) (Nat.le_of_ble_eq_true rfl) dX12_readSum_2 rfl rfl (kN fun c1 hp => ?_)
  obtain ⟨M1, f1⟩ := hp
  have g1 := (hQ σ hg).1
  refine g_wh (α := PS) [some (.inr (.inr 92)), some (.inl (6 - (r : Int))), none] (fun m τ c => MR c f n T K Pl E τ ∧ gd T τ ∧ mrF ct c ∧ T ≤ τ.1 + m ∧ loopP T K isPm cdPm P m τ = loopP T K isPm cdPm P T.toNat (P σ)) ?_ T.toNat (P σ) _ _ ⟨M1, g1, f1, by have := g1.1.1; omega, rfl⟩ (lsSub_rf _)
  rintro m τ c ⟨M2, g2, f2, hm, e2⟩ kk
  obtain ⟨m', rfl⟩ : ∃ m', m = m' + 1 := ⟨m - 1, by have := g2.1.2; omega⟩
  have L2 := M2.1
  have e43 := kR_iff M2.kv (x := 32) (y := 43) (by decide)
  have hkb := (kR_23 M2.kv).2
  have body : isPm (tkP K τ) → G (mkK YX12_readSum (d + 7) sh sh Po) 23 [some (.inr (.inr 92)), some (.inl (6 - (r : Int))), none] [] sh c := by
    intro hop
    have hp2 : tkP K τ = 43 ∨ tkP K τ = 45 := hop
    have t1 : tkP K τ ≠ 203 := by omega
    have t2 : tkP K τ ≠ 201 := by omega
    have t3 : tkP K τ ≠ 202 := by omega
    obtain ⟨s1, s2, s3⟩ := step_go M2.kd.1 g2 (by omega) (by omega) (by omega)
    have hk := tk_go (K := K) s1
    have hs1 : (stepP T τ).1 = τ.1 + 1 := by rw [s3]
    have g3 := (stepP_gd g2).1
    have q := hQ (stepP T τ) g3
    have hrm := hQ.room M2.kd.1 g2 (by omega) (by omega) (by omega)
    have fin : ∀ v, v = mTr (cdPm (tkP K τ)) → G (mkK YX12_readSum (d + 7) sh sh Po) 41 [some (.inr (.inr 92)), some (.inl (6 - (r : Int))), none] [.inl v] sh c := by
      intro v hv
      refine s_istore_n_3_2 (q := 42) dX12_readSum_41 rfl rfl rfl ?_
      refine g_aload_n (q := 43) dX12_readSum_42 rfl rfl ?_
      refine g_callV (q := 46) lX12_143 mX12_next nX12_next rfl (tw_nextM 0 sh _ S M2 g2 t1 t2 t3) (by first | assumption | exact S.at _ rfl) rfl rfl shLe.rf (rmOk.mk (by omega) (by first | exact shLe.rf | assumption)) (Nat.le_of_ble_eq_true rfl) dX12_readSum_43 rfl rfl (kN fun c3 hp => ?_)
      obtain ⟨M3, f3⟩ := hp
      refine g_aload_n (q := 47) dX12_readSum_46 rfl rfl ?_
      refine g_iload_n (q := 48) dX12_readSum_47 rfl rfl ?_
      refine g_callV (q := 51) lX12_175 mX12_readTerm nX12_readTerm rfl (hP _ _ M3 g3 ((f2.tr f3).rd ho)) (by first | assumption | exact S.at _ rfl) rfl rfl shLe.rf (rmOk.mk (by omega) (by first | exact shLe.rf | assumption)) (Nat.le_of_ble_eq_true rfl) dX12_readSum_48 rfl rfl (kN fun c4 hp => ?_)
      obtain ⟨M4, f4⟩ := hp
      refine g_aload_n (q := 52) dX12_readSum_51 rfl rfl ?_
      refine g_iload_n (q := 53) dX12_readSum_52 rfl rfl ?_
      refine g_callV (q := 56) lX12_157 mX12_codes nX12_codes rfl (tw_codes 0 sh _ S M4 (op := cdPm (tkP K τ)) (fun hw => (hrm hw).2) hv) (by first | assumption | exact S.at _ rfl) rfl rfl shLe.rf (rmOk.mk (by omega) (by first | exact shLe.rf | assumption)) (Nat.le_of_ble_eq_true rfl) dX12_readSum_53 rfl rfl (kN fun c5 hp => ?_)
      obtain ⟨M5, f5⟩ := hp
      have hc := codeP_gd (k := cdPm (tkP K τ)) q.1 (fun hw => (hrm hw).1)
      refine g_goto (q := 5) dX12_readSum_56 (by decide) ?_
      refine kk m' _ _ _ (by omega) ⟨rfl, rfl, trivial⟩ ⟨M5, hc.1, ((f2.tr f3).tr f4).tr f5, ?_, ?_⟩
      · rw [hc.2.1]
        have := q.2.1
        omega
      · rw [← e2, loopP_go hop]
    refine g_aload_n (q := 24) dX12_readSum_23 rfl rfl ?_
    refine g_getI (q := 27) (kI := 9) fX12_116 (by first | assumption | exact S.at _ rfl) dX12_readSum_24 rfl rfl ?_
    rw [M2.ki]
    refine g_bipush (q := 29) dX12_readSum_27 (by decide +kernel) rfl ?_
    refine g_icmp_ne (q := 32) (tg := 38) dX12_readSum_29 (by decide) rfl (fun c_29 => ?_) (fun c_29 => ?_)
    · rw [w32_id (x := kR (K τ.1)) (by omega) (by omega), show w32 32 = 32 from rfl] at c_29
      have h45 : tkP K τ = 45 := by
        rcases hp2 with h | h
        · exact absurd (e43.mpr (by omega)) c_29
        · exact h
      refine g_sipush (q := 41) dX12_readSum_38 (by decide +kernel) rfl ?_
      refine fin _ ?_
      rw [h45]
      rfl
    · rw [w32_id (x := kR (K τ.1)) (by omega) (by omega), show w32 32 = 32 from rfl] at c_29
      have h43 : tkP K τ = 43 := by
        have := e43.mp c_29
        omega
      refine g_sipush (q := 35) dX12_readSum_32 (by decide +kernel) rfl ?_
      refine g_goto (q := 41) dX12_readSum_35 (by decide) ?_
      refine fin _ ?_
      rw [h43]
      rfl
  refine g_aload_n (q := 6) dX12_readSum_5 rfl rfl ?_
  refine g_bipush (q := 8) dX12_readSum_6 (by decide +kernel) rfl ?_
  refine g_callV (q := 11) lX12_140 mX12_is nX12_is rfl (tw_is 0 sh _ S M2 (x := 32) (y := 43) (by decide)) (by first | assumption | exact S.at _ rfl) rfl rfl shLe.rf (rmOk.mk (by omega) (by first | exact shLe.rf | assumption)) (Nat.le_of_ble_eq_true rfl) dX12_readSum_8 rfl rfl (kI fun r_ c_ hp => ?_)
  obtain ⟨hr, hq⟩ := hp
  replace hr := hr.symm
  replace hq := hq.symm
  subst hr hq
  refine g_if_ne (q := 14) (tg := 23) dX12_readSum_11 (by decide) rfl (fun c_11 => ?_) (fun c_11 => ?_)
  · exact body (Or.inl (wbn.mp c_11))
  · have h1 := wb0.mp c_11
    refine g_aload_n (q := 15) dX12_readSum_14 rfl rfl ?_
    refine g_bipush (q := 17) dX12_readSum_15 (by decide +kernel) rfl ?_
    refine g_callV (q := 20) lX12_140 mX12_is nX12_is rfl (tw_is 0 sh _ S M2 (x := 33) (y := 45) (by decide)) (by first | assumption | exact S.at _ rfl) rfl rfl shLe.rf (rmOk.mk (by omega) (by first | exact shLe.rf | assumption)) (Nat.le_of_ble_eq_true rfl) dX12_readSum_17 rfl rfl (kI fun r_ c_ hp => ?_)
    obtain ⟨hr, hq⟩ := hp
    replace hr := hr.symm
    replace hq := hq.symm
    subst hr hq
    refine g_if_eq (q := 23) (tg := 59) dX12_readSum_20 (by decide) rfl (fun c_20 => ?_) (fun c_20 => ?_)
    · have h2 := wb0.mp c_20
      refine g_return dX12_readSum_59 rfl ?_
      rw [← hPo]
      refine ⟨rfl, ?_, f2⟩
      rw [← e2, loopP_stop (fun z => z.elim h1 h2)]
      exact M2
    · exact body (Or.inr (wbn.mp c_20))
theorem codeP_tk {op : Int} {σ : PS} : tkP K (codeP op σ) = tkP K σ := by
  unfold tkP codeP
  split <;> rfl
theorem tw_readAtom : ∀ {r : Nat} (S : SH sh) (hr : r ≤ 6), MC YX12_readAtom (d + 3 * r + 7) sh f n T K Pl E om r (atomP T K Pl om r)
  | r, S, hr => by
    intro ct σ M hg ho
    have hkd := M.kd.1
    have hb := M.kd.2
    have L := M.1
    have hK := M.kb
    have hlen := hg.2.2
    have hi1 := hg.1.2
    have hT := hkd.1
    generalize hPo : (pN fun c => MR c f n T K Pl E (atomP T K Pl om r σ) ∧ mrF ct c) = Po
    have hA : ∃ par, atomP T K Pl om r σ = atB T K Pl om par σ ∧ (r = 0 → par σ = failP K Pl 4 σ) ∧ (∀ r', r = r' + 1 → par σ = takeP T K Pl 41 (sumP T K (atomP T K Pl om r') (stepP T σ))) := by
      cases r with
      | zero => exact ⟨_, rfl, fun _ => rfl, fun r' h => by omega⟩
      | succ r => exact ⟨_, rfl, fun h => by omega, fun r' h => by
          have : r = r' := by omega
          subst this
          rfl⟩
    obtain ⟨par, hA, hA0, hA1⟩ := hA
    unfold atB at hA
    have at66 : ¬ 1000 ≤ tkP K σ → askC om (tkP K σ) = -16 → G (mkK YX12_readAtom (d + 3 * r + 7) sh sh Po) 66 [some (.inr (.inr 92)), some (.inl (6 - (r : Int)))] [] sh ct := by
      intro h1 h2
      refine g_aload_n (q := 67) dX12_readAtom_66 rfl rfl ?_
      refine g_bipush (q := 69) dX12_readAtom_67 (by decide +kernel) rfl ?_
      refine g_callV (q := 72) lX12_140 mX12_is nX12_is rfl (tw_is 0 sh _ S M (x := 35) (y := 40) (by decide)) (by first | assumption | exact S.at _ rfl) rfl rfl shLe.rf (rmOk.mk (by omega) (by first | exact shLe.rf | assumption)) (Nat.le_of_ble_eq_true rfl) dX12_readAtom_69 rfl rfl (kI fun r_ c_ hp => ?_)
      obtain ⟨hr, hq⟩ := hp
      replace hr := hr.symm
      replace hq := hq.symm
      subst hr hq
      refine g_if_eq (q := 75) (tg := 108) dX12_readAtom_72 (by decide) rfl (fun c_72 => ?_) (fun c_72 => ?_)
      · have h3 := wb0.mp c_72
        rw [if_neg h3, if_neg h1, if_pos h2] at hA
        refine g_aload_n (q := 109) dX12_readAtom_108 rfl rfl ?_
        refine g_iconst (q := 110) dX12_readAtom_109 rfl ?_
        refine g_callV (q := 113) lX12_146 mX12_fails nX12_fails rfl (tw_fails 0 sh _ S M (k := 2) (by decide)) (by first | assumption | exact S.at _ rfl) rfl rfl shLe.rf (rmOk.mk (by omega) (by first | exact shLe.rf | assumption)) (Nat.le_of_ble_eq_true rfl) dX12_readAtom_110 rfl rfl (kN fun c1 hp => ?_)
        refine g_return dX12_readAtom_113 rfl ?_
        rw [← hPo, hA]
        exact ⟨rfl, hp⟩
      · have h3 := wbn.mp c_72
        rw [if_pos h3] at hA
        refine g_aload_n (q := 76) dX12_readAtom_75 rfl rfl ?_
        refine g_iload_n (q := 77) dX12_readAtom_76 rfl rfl ?_
        refine g_callV (q := 80) lX12_163 mX12_goesIn nX12_goesIn rfl (tw_goesIn 0 sh _ S M hg (by omega) (by omega) (by omega) hr) (by first | assumption | exact S.at _ rfl) rfl rfl shLe.rf (rmOk.mk (by omega) (by first | exact shLe.rf | assumption)) (Nat.le_of_ble_eq_true rfl) dX12_readAtom_77 rfl rfl (kI fun v c1 hp => ?_)
        obtain ⟨hp, f1⟩ := hp
        rcases hp with ⟨rfl, hr0, M1⟩ | ⟨rfl, hr1, M1⟩
        · rw [hA0 hr0] at hA
          refine g_if_ne (q := 83) (tg := 84) dX12_readAtom_80 (by decide) rfl (fun c_80 => ?_) (fun c_80 => ?_)
          · exact absurd rfl c_80
          · refine g_return dX12_readAtom_83 rfl ?_
            rw [← hPo, hA]
            exact ⟨rfl, M1, f1⟩
        · obtain ⟨r', rfl⟩ : ∃ r', r = r' + 1 := ⟨r - 1, by omega⟩
          rw [hA1 r' rfl] at hA
          have gs := (stepP_gd hg).1
          have hQ := sumQ hkd (atomQ (Pl := Pl) (om := om) hkd hb r')
          have g2 := (hQ _ gs).1
          unfold takeP at hA
          refine g_if_ne (q := 83) (tg := 84) dX12_readAtom_80 (by decide) rfl (fun c_80 => ?_) (fun c_80 => ?_)
          · refine g_aload_n (q := 85) dX12_readAtom_84 rfl rfl ?_
            refine g_iload_n (q := 86) dX12_readAtom_85 rfl rfl ?_
            refine g_iconst (q := 87) dX12_readAtom_86 rfl ?_
            refine g_iadd (q := 88) dX12_readAtom_87 rfl ?_
            rw [show 6 - ((r' + 1 : Nat) : Int) + 1 = 6 - (r' : Int) by omega]
            refine g_callV (q := 91) lX12_166 mX12_readSum nX12_readSum rfl (tw_readSum (d + 3 * r' + 2) sh S (r := r') (by omega) (termQ hkd (atomQ hkd hb r')) (tw_readTerm (d + 3 * r' + 1) sh S (by omega) (atomQ hkd hb r') (tw_readAtom S (by omega))) _ _ M1 gs (f1.rd ho)) (by first | assumption | exact S.at _ rfl) rfl rfl shLe.rf (rmOk.mk (by omega) (by first | exact shLe.rf | assumption)) (Nat.le_of_ble_eq_true rfl) dX12_readAtom_88 rfl rfl (kN fun c2 hp => ?_)
            have M2 : MR c2 f n T K Pl E (sumP T K (atomP T K Pl om r') (stepP T σ)) := hp.1
            have f2 := hp.2
            refine g_aload_n (q := 92) dX12_readAtom_91 rfl rfl ?_
            refine g_bipush (q := 94) dX12_readAtom_92 (by decide +kernel) rfl ?_
            refine g_callV (q := 97) lX12_169 mX12_eats nX12_eats rfl (tw_eats 0 sh _ S M2 g2 (x := 36) (y := 41) (by decide) (by decide)) (by first | assumption | exact S.at _ rfl) rfl rfl shLe.rf (rmOk.mk (by omega) (by first | exact shLe.rf | assumption)) (Nat.le_of_ble_eq_true rfl) dX12_readAtom_94 rfl rfl (kI fun v c3 hp => ?_)
            obtain ⟨hp, f3⟩ := hp
            rcases hp with ⟨ht, rfl, M3⟩ | ⟨ht, rfl, M3⟩
            · rw [if_pos ht] at hA
              refine g_if_ne (q := 100) (tg := 113) dX12_readAtom_97 (by decide) rfl (fun c_97 => ?_) (fun c_97 => ?_)
              · refine g_return dX12_readAtom_113 rfl ?_
                rw [← hPo, hA]
                exact ⟨rfl, M3, (f1.tr f2).tr f3⟩
              · exact absurd c_97 (by decide)
            · rw [if_neg ht] at hA
              refine g_if_ne (q := 100) (tg := 113) dX12_readAtom_97 (by decide) rfl (fun c_97 => ?_) (fun c_97 => ?_)
              · exact absurd rfl c_97
              · refine g_aload_n (q := 101) dX12_readAtom_100 rfl rfl ?_
                refine g_iconst (q := 102) dX12_readAtom_101 rfl ?_
                refine g_callV (q := 105) lX12_146 mX12_fails nX12_fails rfl (tw_fails 0 sh _ S M3 (k := 2) (by decide)) (by first | assumption | exact S.at _ rfl) rfl rfl shLe.rf (rmOk.mk (by omega) (by first | exact shLe.rf | assumption)) (Nat.le_of_ble_eq_true rfl) dX12_readAtom_102 rfl rfl (kN fun c4 hp => ?_)
                obtain ⟨M4, f4⟩ := hp
                refine g_goto (q := 113) dX12_readAtom_105 (by decide) ?_
                refine g_return dX12_readAtom_113 rfl ?_
                rw [← hPo, hA]
                exact ⟨rfl, M4, ((f1.tr f2).tr f3).tr f4⟩
          · exact absurd c_80 (by decide)
    refine Mt.of rfl (Nat.le_of_ble_eq_true rfl) ?_
    show G _ 0 [some (.inr (.inr 92)), some (.inl (6 - (r : Int)))] [] sh ct
    refine g_aload_n (q := 1) dX12_readAtom_0 rfl rfl ?_
    refine g_bipush (q := 3) dX12_readAtom_1 (by decide +kernel) rfl ?_
    refine g_callV (q := 6) lX12_140 mX12_is nX12_is rfl (tw_isD 0 sh _ S M) (by first | assumption | exact S.at _ rfl) rfl rfl shLe.rf (rmOk.mk (by omega) (by first | exact shLe.rf | assumption)) (Nat.le_of_ble_eq_true rfl) dX12_readAtom_3 rfl rfl (kI fun r_ c_ hp => ?_)
    obtain ⟨hr, hq⟩ := hp
    replace hr := hr.symm
    replace hq := hq.symm
    subst hr hq
    refine g_if_eq (q := 9) (tg := 24) dX12_readAtom_6 (by decide) rfl (fun c_6 => ?_) (fun c_6 => ?_)
    · have h1 := wb0.mp c_6
      refine g_aload_n (q := 25) dX12_readAtom_24 rfl rfl ?_
      refine g_getI (q := 28) (kI := 11) fX12_134 (by first | assumption | exact S.at _ rfl) dX12_readAtom_25 rfl rfl ?_
      rw [M.w]
      refine g_if_ne (q := 31) (tg := 66) dX12_readAtom_28 (by decide) rfl (fun c_28 => ?_) (fun c_28 => ?_)
      · have hw : ¬ σ.2.1 = 0 := fun z => c_28 (M.wz.mpr z)
        refine at66 h1 ?_
        rw [tk_stop hw]
        unfold askC
        rw [if_neg (by decide), if_neg (by decide), if_neg (by decide), if_neg (fun z => absurd z.1 (by decide)), if_neg (fun z => absurd z.1 (by decide)), if_neg (fun z => absurd z.1 (by decide))]
      · have hw : σ.2.1 = 0 := M.wz.mp c_28
        have hk := tk_go (K := K) hw
        refine g_aload_n (q := 32) dX12_readAtom_31 rfl rfl ?_
        refine g_aload_n (q := 33) dX12_readAtom_32 rfl rfl ?_
        refine g_getI (q := 36) (kI := 9) fX12_116 (by first | assumption | exact S.at _ rfl) dX12_readAtom_33 rfl rfl ?_
        rw [M.ki]
        refine g_callV (q := 39) lX12_160 mX12_wordOf nX12_wordOf rfl (tw_wordOf 0 sh _ S L M.kv ho) (by first | assumption | exact S.at _ rfl) rfl rfl shLe.rf (rmOk.mk (by omega) (by first | exact shLe.rf | assumption)) (Nat.le_of_ble_eq_true rfl) dX12_readAtom_36 rfl rfl (kI fun v c1 hp => ?_)
        obtain ⟨hp, hc1⟩ := hp
        subst hc1
        rw [← hk] at hp
        rcases hp with ⟨h2, rfl⟩ | ⟨h2, hv⟩
        · refine g_iconst (q := 40) dX12_readAtom_39 rfl ?_
          refine g_icmp_eq (q := 43) (tg := 66) dX12_readAtom_40 (by decide) rfl (fun c_40 => ?_) (fun c_40 => ?_)
          · exact at66 h1 h2
          · exact absurd rfl c_40
        · have hin := (askC_in (om := om) (tkP K σ)).resolve_left h2
          have h40 : ¬ tkP K σ = 40 := by omega
          obtain ⟨-, s2, -⟩ := step_in (K := K) hkd hi1 (by omega) (by omega) (by omega)
          have hll := hlen hw
          rw [if_neg h40, if_neg h1, if_neg h2] at hA
          refine g_iconst (q := 40) dX12_readAtom_39 rfl ?_
          refine g_icmp_eq (q := 43) (tg := 66) dX12_readAtom_40 (by decide) rfl (fun c_40 => ?_) (fun c_40 => ?_)
          · rw [w32_id (x := v) (by omega) (by omega), show w32 (-1) = -1 from rfl] at c_40
            omega
          · refine g_aload_n (q := 44) dX12_readAtom_43 rfl rfl ?_
            refine g_sipush (q := 47) dX12_readAtom_44 (by decide +kernel) rfl ?_
            refine g_aload_n (q := 48) dX12_readAtom_47 rfl rfl ?_
            refine g_aload_n (q := 49) dX12_readAtom_48 rfl rfl ?_
            refine g_getI (q := 52) (kI := 9) fX12_116 (by first | assumption | exact S.at _ rfl) dX12_readAtom_49 rfl rfl ?_
            rw [M.ki]
            refine g_callV (q := 55) lX12_160 mX12_wordOf nX12_wordOf rfl (tw_wordOf 0 sh _ S L M.kv ho) (by first | assumption | exact S.at _ rfl) rfl rfl shLe.rf (rmOk.mk (by omega) (by first | exact shLe.rf | assumption)) (Nat.le_of_ble_eq_true rfl) dX12_readAtom_52 rfl rfl (kI fun v2 c2 hp => ?_)
            obtain ⟨hp, hc2⟩ := hp
            subst hc2
            rw [← hk] at hp
            have hv2 : v2 = -1 - askC om (tkP K σ) := by
              rcases hp with ⟨h, -⟩ | ⟨-, h⟩
              · exact absurd h h2
              · exact h
            refine g_iadd (q := 56) dX12_readAtom_55 rfl ?_
            refine g_callV (q := 59) lX12_157 mX12_codes nX12_codes rfl (tw_codes 0 sh _ S M (op := askC om (tkP K σ)) (fun _ => by omega) (by unfold mTr; rw [if_neg (by omega), if_pos (by omega)]; omega)) (by first | assumption | exact S.at _ rfl) rfl rfl shLe.rf (rmOk.mk (by omega) (by first | exact shLe.rf | assumption)) (Nat.le_of_ble_eq_true rfl) dX12_readAtom_56 rfl rfl (kN fun c3 hp => ?_)
            obtain ⟨M3, f3⟩ := hp
            refine g_aload_n (q := 60) dX12_readAtom_59 rfl rfl ?_
            refine g_callV (q := 63) lX12_143 mX12_next nX12_next rfl (tw_nextN 0 sh _ S M3 (by rw [codeP_tk]; omega) (by rw [codeP_tk]; omega) (by rw [codeP_tk]; omega)) (by first | assumption | exact S.at _ rfl) rfl rfl shLe.rf (rmOk.mk (by omega) (by first | exact shLe.rf | assumption)) (Nat.le_of_ble_eq_true rfl) dX12_readAtom_60 rfl rfl (kN fun c4 hp => ?_)
            obtain ⟨M4, f4⟩ := hp
            refine g_goto (q := 113) dX12_readAtom_63 (by decide) ?_
            refine g_return dX12_readAtom_113 rfl ?_
            rw [← hPo, hA]
            exact ⟨rfl, M4, f3.tr f4⟩
    · have h1 := wbn.mp c_6
      have hw := tk_w (K := K) (σ := σ) (by omega)
      have hk := tk_go (K := K) hw
      have hn := M.nu (by omega)
      have h40 : ¬ tkP K σ = 40 := by omega
      obtain ⟨-, s2, -⟩ := step_in (K := K) hkd hi1 (by omega) (by omega) (by omega)
      have hll := hlen hw
      rw [if_neg h40, if_pos h1] at hA
      refine g_aload_n (q := 10) dX12_readAtom_9 rfl rfl ?_
      refine g_aload_n (q := 11) dX12_readAtom_10 rfl rfl ?_
      refine g_getI (q := 14) (kI := 10) fX12_129 (by first | assumption | exact S.at _ rfl) dX12_readAtom_11 rfl rfl ?_
      rw [hn]
      refine g_callV (q := 17) lX12_157 mX12_codes nX12_codes rfl (tw_codes 0 sh _ S M (op := tkP K σ - 1000) (fun _ => by omega) (by unfold mTr; rw [if_pos (by omega), hk])) (by first | assumption | exact S.at _ rfl) rfl rfl shLe.rf (rmOk.mk (by omega) (by first | exact shLe.rf | assumption)) (Nat.le_of_ble_eq_true rfl) dX12_readAtom_14 rfl rfl (kN fun c3 hp => ?_)
      obtain ⟨M3, f3⟩ := hp
      refine g_aload_n (q := 18) dX12_readAtom_17 rfl rfl ?_
      refine g_callV (q := 21) lX12_143 mX12_next nX12_next rfl (tw_nextN 0 sh _ S M3 (by rw [codeP_tk]; omega) (by rw [codeP_tk]; omega) (by rw [codeP_tk]; omega)) (by first | assumption | exact S.at _ rfl) rfl rfl shLe.rf (rmOk.mk (by omega) (by first | exact shLe.rf | assumption)) (Nat.le_of_ble_eq_true rfl) dX12_readAtom_18 rfl rfl (kN fun c4 hp => ?_)
      obtain ⟨M4, f4⟩ := hp
      refine g_goto (q := 113) dX12_readAtom_21 (by decide) ?_
      refine g_return dX12_readAtom_113 rfl ?_
      rw [← hPo, hA]
      exact ⟨rfl, M4, f3.tr f4⟩
theorem tw_sum {r : Nat} (S : SH sh) (hr : r ≤ 6) (hk : kd T K) (hb : ∀ i, 0 ≤ i → i < T → K i < 2000) : MC YX12_readSum (d + 3 * r + 9) sh f n T K Pl E om r (sumP T K (atomP T K Pl om r)) := tw_readSum (d + 3 * r + 2) sh S hr (termQ hk (atomQ hk hb r)) (tw_readTerm (d + 3 * r + 1) sh S hr (atomQ hk hb r) (tw_readAtom (Pl := Pl) (om := om) d sh S hr))
theorem tw_readUnit : ∀ {r : Nat} (S : SH sh) (hr : r ≤ 6), MC YX12_readUnit (d + 3 * r + 10) sh f n T K Pl E om r (unitP T K Pl om r)
  | r, S, hr => by
    intro ct σ M hg ho
    have hkd := M.kd.1
    have hb := M.kd.2
    have hU : ∃ neg brk, unitP T K Pl om r σ = unB T K Pl neg brk (sumP T K (atomP T K Pl om r)) σ ∧ (r = 0 → neg σ = failP K Pl 4 σ ∧ brk σ = failP K Pl 4 σ) ∧ (∀ r', r = r' + 1 → neg σ = codeP (-13) (unitP T K Pl om r' (stepP T σ)) ∧ brk σ = takeP T K Pl 93 (truthP T K (unitP T K Pl om r') (stepP T σ))) := by
      cases r with
      | zero => exact ⟨_, _, rfl, fun _ => ⟨rfl, rfl⟩, fun r' h => by omega⟩
      | succ r => exact ⟨_, _, rfl, fun h => by omega, fun r' h => by
          have : r = r' := by omega
          subst this
          exact ⟨rfl, rfl⟩⟩
    obtain ⟨neg, brk, hU, hU0, hU1⟩ := hU
    unfold unB at hU
    generalize hPo : (pN fun c => MR c f n T K Pl E (unitP T K Pl om r σ) ∧ mrF ct c) = Po
    refine Mt.of rfl (Nat.le_of_ble_eq_true rfl) ?_
    show G _ 0 [some (.inr (.inr 92)), some (.inl (6 - (r : Int))), none] [] sh ct
    refine g_aload_n (q := 1) dX12_readUnit_0 rfl rfl ?_
    refine g_bipush (q := 3) dX12_readUnit_1 (by decide +kernel) rfl ?_
    refine g_callV (q := 6) lX12_140 mX12_is nX12_is rfl (tw_is 0 sh _ S M (x := 17) (y := 143) (by decide)) (by first | assumption | exact S.at _ rfl) rfl rfl shLe.rf (rmOk.mk (by omega) (by first | exact shLe.rf | assumption)) (Nat.le_of_ble_eq_true rfl) dX12_readUnit_3 rfl rfl (kI fun r_ c_ hp => ?_)
    obtain ⟨hr, hq⟩ := hp
    replace hr := hr.symm
    replace hq := hq.symm
    subst hr hq
    refine g_if_eq (q := 9) (tg := 33) dX12_readUnit_6 (by decide) rfl (fun c_6 => ?_) (fun c_6 => ?_)
    · have t1 := wb0.mp c_6
      rw [if_neg t1] at hU
      refine g_aload_n (q := 34) dX12_readUnit_33 rfl rfl ?_
      refine g_bipush (q := 36) dX12_readUnit_34 (by decide +kernel) rfl ?_
      refine g_callV (q := 39) lX12_140 mX12_is nX12_is rfl (tw_is 0 sh _ S M (x := 37) (y := 91) (by decide)) (by first | assumption | exact S.at _ rfl) rfl rfl shLe.rf (rmOk.mk (by omega) (by first | exact shLe.rf | assumption)) (Nat.le_of_ble_eq_true rfl) dX12_readUnit_36 rfl rfl (kI fun r_ c_ hp => ?_)
      obtain ⟨hr, hq⟩ := hp
      replace hr := hr.symm
      replace hq := hq.symm
      subst hr hq
      refine g_if_eq (q := 42) (tg := 73) dX12_readUnit_39 (by decide) rfl (fun c_39 => ?_) (fun c_39 => ?_)
      · have t2 := wb0.mp c_39
        rw [if_neg t2] at hU
        have hS := tw_sum (f := f) (n := n) (E := E) (Pl := Pl) (om := om) d sh S hr hkd hb
        have hQ := sumQ hkd (atomQ (Pl := Pl) (om := om) hkd hb r)
        refine g_aload_n (q := 74) dX12_readUnit_73 rfl rfl ?_
        refine g_iload_n (q := 75) dX12_readUnit_74 rfl rfl ?_
        refine g_callV (q := 78) lX12_166 mX12_readSum nX12_readSum rfl (hS _ _ M hg ho) (by first | assumption | exact S.at _ rfl) rfl rfl shLe.rf (rmOk.mk (by omega) (by first | exact shLe.rf | assumption)) (Nat.le_of_ble_eq_true rfl) dX12_readUnit_75 rfl rfl (kN fun c1 hp => ?_)
        obtain ⟨M1, f1⟩ := hp
        have g1 := (hQ σ hg).1
        unfold cmpP at hU
        generalize sumP T K (atomP T K Pl om r) σ = τ at M1 g1 hU
        have join : ∀ (c3 : mbCt) (υ : PS) (v op : Int), MR c3 f n T K Pl E υ → gd T υ → mrF ct c3 → v = mTr op → ((sumP T K (atomP T K Pl om r) υ).2.1 = 0 → (sumP T K (atomP T K Pl om r) υ).2.2.2.length < 900) → unitP T K Pl om r σ = codeP op (sumP T K (atomP T K Pl om r) υ) → G (mkK YX12_readUnit (d + 3 * r + 10) sh sh Po) 151 [some (.inr (.inr 92)), some (.inl (6 - (r : Int))), some (.inl v)] [] sh c3 := by
          intro c3 υ v op M3 g3 f3 hv hl hE
          refine g_aload_n (q := 152) dX12_readUnit_151 rfl rfl ?_
          refine g_iload_n (q := 153) dX12_readUnit_152 rfl rfl ?_
          refine g_callV (q := 156) lX12_166 mX12_readSum nX12_readSum rfl (hS _ _ M3 g3 (f3.rd ho)) (by first | assumption | exact S.at _ rfl) rfl rfl shLe.rf (rmOk.mk (by omega) (by first | exact shLe.rf | assumption)) (Nat.le_of_ble_eq_true rfl) dX12_readUnit_153 rfl rfl (kN fun c4 hp => ?_)
          obtain ⟨M4, f4⟩ := hp
          refine g_aload_n (q := 157) dX12_readUnit_156 rfl rfl ?_
          refine g_iload_n (q := 158) dX12_readUnit_157 rfl rfl ?_
          refine g_callV (q := 161) lX12_157 mX12_codes nX12_codes rfl (tw_codes 0 sh _ S M4 (op := op) hl hv) (by first | assumption | exact S.at _ rfl) rfl rfl shLe.rf (rmOk.mk (by omega) (by first | exact shLe.rf | assumption)) (Nat.le_of_ble_eq_true rfl) dX12_readUnit_158 rfl rfl (kN fun c5 hp => ?_)
          obtain ⟨M5, f5⟩ := hp
          refine g_return dX12_readUnit_161 rfl ?_
          rw [← hPo, hE]
          exact ⟨rfl, M5, (f3.tr f4).tr f5⟩
        have good : ∀ v, isCm (tkP K τ) → v = mTr (cdCm (tkP K τ)) → G (mkK YX12_readUnit (d + 3 * r + 10) sh sh Po) 139 [some (.inr (.inr 92)), some (.inl (6 - (r : Int))), some (.inl v)] [] sh c1 := by
          intro v hc hv
          have hc2 : tkP K τ = 61 ∨ tkP K τ = 60 ∨ tkP K τ = 62 := hc
          rw [if_pos hc] at hU
          have hrm := hQ.room hkd g1 (by omega) (by omega) (by omega)
          refine g_aload_n (q := 140) dX12_readUnit_139 rfl rfl ?_
          refine g_callV (q := 143) lX12_143 mX12_next nX12_next rfl (tw_nextM 0 sh _ S M1 g1 (by omega) (by omega) (by omega)) (by first | assumption | exact S.at _ rfl) rfl rfl shLe.rf (rmOk.mk (by omega) (by first | exact shLe.rf | assumption)) (Nat.le_of_ble_eq_true rfl) dX12_readUnit_140 rfl rfl (kN fun c3 hp => ?_)
          obtain ⟨M3, f3⟩ := hp
          refine g_goto (q := 151) dX12_readUnit_143 (by decide) ?_
          exact join c3 _ v _ M3 (stepP_gd g1).1 (f1.tr f3) hv (fun hw => (hrm hw).2) hU
        have mid : ∀ v op, v = mTr op → (isCm (tkP K τ) → op = cdCm (tkP K τ)) → G (mkK YX12_readUnit (d + 3 * r + 10) sh sh Po) 111 [some (.inr (.inr 92)), some (.inl (6 - (r : Int))), none] [.inl v] sh c1 := by
          intro v op hv hop
          refine s_istore_n_3_2 (q := 112) dX12_readUnit_111 rfl rfl rfl ?_
          refine g_aload_n (q := 113) dX12_readUnit_112 rfl rfl ?_
          refine g_bipush (q := 115) dX12_readUnit_113 (by decide +kernel) rfl ?_
          refine g_callV (q := 118) lX12_140 mX12_is nX12_is rfl (tw_is 0 sh _ S M1 (x := 39) (y := 61) (by decide)) (by first | assumption | exact S.at _ rfl) rfl rfl shLe.rf (rmOk.mk (by omega) (by first | exact shLe.rf | assumption)) (Nat.le_of_ble_eq_true rfl) dX12_readUnit_115 rfl rfl (kI fun r_ c_ hp => ?_)
          obtain ⟨hr, hq⟩ := hp
          replace hr := hr.symm
          replace hq := hq.symm
          subst hr hq
          refine g_if_ne (q := 121) (tg := 139) dX12_readUnit_118 (by decide) rfl (fun c_118 => ?_) (fun c_118 => ?_)
          · have hc : isCm (tkP K τ) := Or.inl (wbn.mp c_118)
            exact good v hc (by rw [hv, hop hc])
          · have n1 := wb0.mp c_118
            refine g_aload_n (q := 122) dX12_readUnit_121 rfl rfl ?_
            refine g_bipush (q := 124) dX12_readUnit_122 (by decide +kernel) rfl ?_
            refine g_callV (q := 127) lX12_140 mX12_is nX12_is rfl (tw_is 0 sh _ S M1 (x := 40) (y := 60) (by decide)) (by first | assumption | exact S.at _ rfl) rfl rfl shLe.rf (rmOk.mk (by omega) (by first | exact shLe.rf | assumption)) (Nat.le_of_ble_eq_true rfl) dX12_readUnit_124 rfl rfl (kI fun r_ c_ hp => ?_)
            obtain ⟨hr, hq⟩ := hp
            replace hr := hr.symm
            replace hq := hq.symm
            subst hr hq
            refine g_if_ne (q := 130) (tg := 139) dX12_readUnit_127 (by decide) rfl (fun c_127 => ?_) (fun c_127 => ?_)
            · have hc : isCm (tkP K τ) := Or.inr (Or.inl (wbn.mp c_127))
              exact good v hc (by rw [hv, hop hc])
            · have n2 := wb0.mp c_127
              refine g_aload_n (q := 131) dX12_readUnit_130 rfl rfl ?_
              refine g_bipush (q := 133) dX12_readUnit_131 (by decide +kernel) rfl ?_
              refine g_callV (q := 136) lX12_140 mX12_is nX12_is rfl (tw_is 0 sh _ S M1 (x := 41) (y := 62) (by decide)) (by first | assumption | exact S.at _ rfl) rfl rfl shLe.rf (rmOk.mk (by omega) (by first | exact shLe.rf | assumption)) (Nat.le_of_ble_eq_true rfl) dX12_readUnit_133 rfl rfl (kI fun r_ c_ hp => ?_)
              obtain ⟨hr, hq⟩ := hp
              replace hr := hr.symm
              replace hq := hq.symm
              subst hr hq
              refine g_if_eq (q := 139) (tg := 146) dX12_readUnit_136 (by decide) rfl (fun c_136 => ?_) (fun c_136 => ?_)
              · have n3 := wb0.mp c_136
                rw [if_neg (fun z => by rcases z with z | z | z <;> omega)] at hU
                refine g_aload_n (q := 147) dX12_readUnit_146 rfl rfl ?_
                refine g_iconst (q := 148) dX12_readUnit_147 rfl ?_
                refine g_callV (q := 151) lX12_146 mX12_fails nX12_fails rfl (tw_fails 0 sh _ S M1 (k := 2) (by decide)) (by first | assumption | exact S.at _ rfl) rfl rfl shLe.rf (rmOk.mk (by omega) (by first | exact shLe.rf | assumption)) (Nat.le_of_ble_eq_true rfl) dX12_readUnit_148 rfl rfl (kN fun c3 hp => ?_)
                obtain ⟨M3, f3⟩ := hp
                have hw : ¬ (failP K Pl 2 τ).2.1 = 0 := failP_w (by decide)
                have gf := (failP_gd (K := K) (Pl := Pl) (k := 2) (by decide) g1).1
                have hstay := (hQ _ gf).2.2.1 hw
                refine join c3 _ v op M3 gf (f1.tr f3) hv (fun z => absurd z (by rw [hstay]; exact hw)) ?_
                rw [hU, hstay, codeP_stop hw]
              · have hc : isCm (tkP K τ) := Or.inr (Or.inr (wbn.mp c_136))
                exact good v hc (by rw [hv, hop hc])
        refine g_aload_n (q := 79) dX12_readUnit_78 rfl rfl ?_
        refine g_bipush (q := 81) dX12_readUnit_79 (by decide +kernel) rfl ?_
        refine g_callV (q := 84) lX12_140 mX12_is nX12_is rfl (tw_is 0 sh _ S M1 (x := 39) (y := 61) (by decide)) (by first | assumption | exact S.at _ rfl) rfl rfl shLe.rf (rmOk.mk (by omega) (by first | exact shLe.rf | assumption)) (Nat.le_of_ble_eq_true rfl) dX12_readUnit_81 rfl rfl (kI fun r_ c_ hp => ?_)
        obtain ⟨hr, hq⟩ := hp
        replace hr := hr.symm
        replace hq := hq.symm
        subst hr hq
        refine g_if_eq (q := 87) (tg := 93) dX12_readUnit_84 (by decide) rfl (fun c_84 => ?_) (fun c_84 => ?_)
        · have n1 := wb0.mp c_84
          refine g_aload_n (q := 94) dX12_readUnit_93 rfl rfl ?_
          refine g_bipush (q := 96) dX12_readUnit_94 (by decide +kernel) rfl ?_
          refine g_callV (q := 99) lX12_140 mX12_is nX12_is rfl (tw_is 0 sh _ S M1 (x := 40) (y := 60) (by decide)) (by first | assumption | exact S.at _ rfl) rfl rfl shLe.rf (rmOk.mk (by omega) (by first | exact shLe.rf | assumption)) (Nat.le_of_ble_eq_true rfl) dX12_readUnit_96 rfl rfl (kI fun r_ c_ hp => ?_)
          obtain ⟨hr, hq⟩ := hp
          replace hr := hr.symm
          replace hq := hq.symm
          subst hr hq
          refine g_if_eq (q := 102) (tg := 108) dX12_readUnit_99 (by decide) rfl (fun c_99 => ?_) (fun c_99 => ?_)
          · have n2 := wb0.mp c_99
            refine g_sipush (q := 111) dX12_readUnit_108 (by decide +kernel) rfl ?_
            exact mid _ (-12) (by decide) (fun _ => by unfold cdCm; rw [if_neg n1, if_neg n2])
          · have n2 := wbn.mp c_99
            refine g_sipush (q := 105) dX12_readUnit_102 (by decide +kernel) rfl ?_
            refine g_goto (q := 111) dX12_readUnit_105 (by decide) ?_
            exact mid _ (-11) (by decide) (fun _ => by unfold cdCm; rw [if_neg n1, if_pos n2])
        · have n1 := wbn.mp c_84
          refine g_sipush (q := 90) dX12_readUnit_87 (by decide +kernel) rfl ?_
          refine g_goto (q := 111) dX12_readUnit_90 (by decide) ?_
          exact mid _ (-10) (by decide) (fun _ => by unfold cdCm; rw [if_pos n1])
      · have t2 := wbn.mp c_39
        rw [if_pos t2] at hU
        refine g_aload_n (q := 43) dX12_readUnit_42 rfl rfl ?_
        refine g_iload_n (q := 44) dX12_readUnit_43 rfl rfl ?_
        refine g_callV (q := 47) lX12_163 mX12_goesIn nX12_goesIn rfl (tw_goesIn 0 sh _ S M hg (by omega) (by omega) (by omega) hr) (by first | assumption | exact S.at _ rfl) rfl rfl shLe.rf (rmOk.mk (by omega) (by first | exact shLe.rf | assumption)) (Nat.le_of_ble_eq_true rfl) dX12_readUnit_44 rfl rfl (kI fun v c1 hp => ?_)
        obtain ⟨hp, f1⟩ := hp
        rcases hp with ⟨rfl, hr0, M1⟩ | ⟨rfl, hr1, M1⟩
        · rw [(hU0 hr0).2] at hU
          refine g_if_ne (q := 50) (tg := 51) dX12_readUnit_47 (by decide) rfl (fun c_47 => ?_) (fun c_47 => ?_)
          · exact absurd rfl c_47
          · refine g_return dX12_readUnit_50 rfl ?_
            rw [← hPo, hU]
            exact ⟨rfl, M1, f1⟩
        · obtain ⟨r', rfl⟩ : ∃ r', r = r' + 1 := ⟨r - 1, by omega⟩
          rw [(hU1 r' rfl).2] at hU
          have gs := (stepP_gd hg).1
          have hQ := truthQ hkd (unitQ (Pl := Pl) (om := om) hkd hb r')
          have g2 := (hQ _ gs).1
          unfold takeP at hU
          refine g_if_ne (q := 50) (tg := 51) dX12_readUnit_47 (by decide) rfl (fun c_47 => ?_) (fun c_47 => ?_)
          · refine g_aload_n (q := 52) dX12_readUnit_51 rfl rfl ?_
            refine g_iload_n (q := 53) dX12_readUnit_52 rfl rfl ?_
            refine g_iconst (q := 54) dX12_readUnit_53 rfl ?_
            refine g_iadd (q := 55) dX12_readUnit_54 rfl ?_
            rw [show 6 - ((r' + 1 : Nat) : Int) + 1 = 6 - (r' : Int) by omega]
            refine g_callV (q := 58) lX12_181 mX12_readTruth nX12_readTruth rfl (tw_readTruth (d + 3 * r' + 5) sh S (r := r') (by omega) (bothQ hkd (unitQ hkd hb r')) (tw_readBoth (d + 3 * r' + 4) sh S (by omega) (unitQ hkd hb r') (tw_readUnit S (by omega))) _ _ M1 gs (f1.rd ho)) (by first | assumption | exact S.at _ rfl) rfl rfl shLe.rf (rmOk.mk (by omega) (by first | exact shLe.rf | assumption)) (Nat.le_of_ble_eq_true rfl) dX12_readUnit_55 rfl rfl (kN fun c2 hp => ?_)
            have M2 : MR c2 f n T K Pl E (truthP T K (unitP T K Pl om r') (stepP T σ)) := hp.1
            have f2 := hp.2
            refine g_aload_n (q := 59) dX12_readUnit_58 rfl rfl ?_
            refine g_bipush (q := 61) dX12_readUnit_59 (by decide +kernel) rfl ?_
            refine g_callV (q := 64) lX12_169 mX12_eats nX12_eats rfl (tw_eats 0 sh _ S M2 g2 (x := 38) (y := 93) (by decide) (by decide)) (by first | assumption | exact S.at _ rfl) rfl rfl shLe.rf (rmOk.mk (by omega) (by first | exact shLe.rf | assumption)) (Nat.le_of_ble_eq_true rfl) dX12_readUnit_61 rfl rfl (kI fun v c3 hp => ?_)
            obtain ⟨hp, f3⟩ := hp
            rcases hp with ⟨ht, rfl, M3⟩ | ⟨ht, rfl, M3⟩
            · rw [if_pos ht] at hU
              refine g_if_ne (q := 67) (tg := 72) dX12_readUnit_64 (by decide) rfl (fun c_64 => ?_) (fun c_64 => ?_)
              · refine g_return dX12_readUnit_72 rfl ?_
                rw [← hPo, hU]
                exact ⟨rfl, M3, (f1.tr f2).tr f3⟩
              · exact absurd c_64 (by decide)
            · rw [if_neg ht] at hU
              refine g_if_ne (q := 67) (tg := 72) dX12_readUnit_64 (by decide) rfl (fun c_64 => ?_) (fun c_64 => ?_)
              · exact absurd rfl c_64
              · refine g_aload_n (q := 68) dX12_readUnit_67 rfl rfl ?_
                refine g_iconst (q := 69) dX12_readUnit_68 rfl ?_
                refine g_callV (q := 72) lX12_146 mX12_fails nX12_fails rfl (tw_fails 0 sh _ S M3 (k := 2) (by decide)) (by first | assumption | exact S.at _ rfl) rfl rfl shLe.rf (rmOk.mk (by omega) (by first | exact shLe.rf | assumption)) (Nat.le_of_ble_eq_true rfl) dX12_readUnit_69 rfl rfl (kN fun c4 hp => ?_)
                obtain ⟨M4, f4⟩ := hp
                refine g_return dX12_readUnit_72 rfl ?_
                rw [← hPo, hU]
                exact ⟨rfl, M4, ((f1.tr f2).tr f3).tr f4⟩
          · exact absurd c_47 (by decide)
    · have t1 := wbn.mp c_6
      rw [if_pos t1] at hU
      refine g_aload_n (q := 10) dX12_readUnit_9 rfl rfl ?_
      refine g_iload_n (q := 11) dX12_readUnit_10 rfl rfl ?_
      refine g_callV (q := 14) lX12_163 mX12_goesIn nX12_goesIn rfl (tw_goesIn 0 sh _ S M hg (by omega) (by omega) (by omega) hr) (by first | assumption | exact S.at _ rfl) rfl rfl shLe.rf (rmOk.mk (by omega) (by first | exact shLe.rf | assumption)) (Nat.le_of_ble_eq_true rfl) dX12_readUnit_11 rfl rfl (kI fun v c1 hp => ?_)
      obtain ⟨hp, f1⟩ := hp
      rcases hp with ⟨rfl, hr0, M1⟩ | ⟨rfl, hr1, M1⟩
      · rw [(hU0 hr0).1] at hU
        refine g_if_ne (q := 17) (tg := 18) dX12_readUnit_14 (by decide) rfl (fun c_14 => ?_) (fun c_14 => ?_)
        · exact absurd rfl c_14
        · refine g_return dX12_readUnit_17 rfl ?_
          rw [← hPo, hU]
          exact ⟨rfl, M1, f1⟩
      · obtain ⟨r', rfl⟩ : ∃ r', r = r' + 1 := ⟨r - 1, by omega⟩
        rw [(hU1 r' rfl).1] at hU
        have gs := (stepP_gd hg).1
        have hQ := unitQ (Pl := Pl) (om := om) hkd hb r'
        have hrm := hQ.room hkd hg (by omega) (by omega) (by omega)
        refine g_if_ne (q := 17) (tg := 18) dX12_readUnit_14 (by decide) rfl (fun c_14 => ?_) (fun c_14 => ?_)
        · refine g_aload_n (q := 19) dX12_readUnit_18 rfl rfl ?_
          refine g_iload_n (q := 20) dX12_readUnit_19 rfl rfl ?_
          refine g_iconst (q := 21) dX12_readUnit_20 rfl ?_
          refine g_iadd (q := 22) dX12_readUnit_21 rfl ?_
          rw [show 6 - ((r' + 1 : Nat) : Int) + 1 = 6 - (r' : Int) by omega]
          refine g_callV (q := 25) lX12_178 mX12_readUnit nX12_readUnit rfl (tw_readUnit S (r := r') (by omega) _ _ M1 gs (f1.rd ho)) (by first | assumption | exact S.at _ rfl) rfl rfl shLe.rf (rmOk.mk (by omega) (by first | exact shLe.rf | assumption)) (Nat.le_of_ble_eq_true rfl) dX12_readUnit_22 rfl rfl (kN fun c2 hp => ?_)
          obtain ⟨M2, f2⟩ := hp
          refine g_aload_n (q := 26) dX12_readUnit_25 rfl rfl ?_
          refine g_sipush (q := 29) dX12_readUnit_26 (by decide +kernel) rfl ?_
          refine g_callV (q := 32) lX12_157 mX12_codes nX12_codes rfl (tw_codes 0 sh _ S M2 (op := -13) (fun hw => (hrm hw).2) (by decide)) (by first | assumption | exact S.at _ rfl) rfl rfl shLe.rf (rmOk.mk (by omega) (by first | exact shLe.rf | assumption)) (Nat.le_of_ble_eq_true rfl) dX12_readUnit_29 rfl rfl (kN fun c3 hp => ?_)
          obtain ⟨M3, f3⟩ := hp
          refine g_return dX12_readUnit_32 rfl ?_
          rw [← hPo, hU]
          exact ⟨rfl, M3, (f1.tr f2).tr f3⟩
        · exact absurd c_14 (by decide)
theorem tw_truth {r : Nat} (S : SH sh) (hr : r ≤ 6) (hk : kd T K) (hb : ∀ i, 0 ≤ i → i < T → K i < 2000) : MC YX12_readTruth (d + 3 * r + 12) sh f n T K Pl E om r (truthP T K (unitP T K Pl om r)) := tw_readTruth (d + 3 * r + 5) sh S hr (bothQ hk (unitQ hk hb r)) (tw_readBoth (d + 3 * r + 4) sh S hr (unitQ hk hb r) (tw_readUnit (Pl := Pl) (om := om) d sh S hr))
end
