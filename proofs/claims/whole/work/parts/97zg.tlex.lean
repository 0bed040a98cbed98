/-! the reference's reader: words, digits, the next token -/
theorem dX12_see_0 : decode cX12_see 0 = .ok (.iload_n 1, 1) := by decide +kernel
theorem dX12_see_1 : decode cX12_see 1 = .ok (.aload_n 0, 1) := by decide +kernel
theorem dX12_see_2 : decode cX12_see 2 = .ok (.getfield 91, 3) := by decide +kernel
theorem dX12_see_5 : decode cX12_see 5 = .ok (.if_icmp .ge 12, 3) := by decide +kernel
theorem dX12_see_8 : decode cX12_see 8 = .ok (.aload_n 0, 1) := by decide +kernel
theorem dX12_see_9 : decode cX12_see 9 = .ok (.getfield 21, 3) := by decide +kernel
theorem dX12_see_12 : decode cX12_see 12 = .ok (.iload_n 1, 1) := by decide +kernel
theorem dX12_see_13 : decode cX12_see 13 = .ok (.iaload, 1) := by decide +kernel
theorem dX12_see_14 : decode cX12_see 14 = .ok (.goto 4, 3) := by decide +kernel
theorem dX12_see_17 : decode cX12_see 17 = .ok (.iconst (-1), 1) := by decide +kernel
theorem dX12_see_18 : decode cX12_see 18 = .ok (.ireturn, 1) := by decide +kernel
theorem dX12_isSmall_0 : decode cX12_isSmall 0 = .ok (.iload_n 0, 1) := by decide +kernel
theorem dX12_isSmall_1 : decode cX12_isSmall 1 = .ok (.bipush 97, 2) := by decide +kernel
theorem dX12_isSmall_3 : decode cX12_isSmall 3 = .ok (.if_icmp .lt 13, 3) := by decide +kernel
theorem dX12_isSmall_6 : decode cX12_isSmall 6 = .ok (.iload_n 0, 1) := by decide +kernel
theorem dX12_isSmall_7 : decode cX12_isSmall 7 = .ok (.bipush 122, 2) := by decide +kernel
theorem dX12_isSmall_9 : decode cX12_isSmall 9 = .ok (.if_icmp .gt 7, 3) := by decide +kernel
theorem dX12_isSmall_12 : decode cX12_isSmall 12 = .ok (.iconst 1, 1) := by decide +kernel
theorem dX12_isSmall_13 : decode cX12_isSmall 13 = .ok (.goto 4, 3) := by decide +kernel
theorem dX12_isSmall_16 : decode cX12_isSmall 16 = .ok (.iconst 0, 1) := by decide +kernel
theorem dX12_isSmall_17 : decode cX12_isSmall 17 = .ok (.ireturn, 1) := by decide +kernel
theorem dX12_isDigit_0 : decode cX12_isDigit 0 = .ok (.iload_n 0, 1) := by decide +kernel
theorem dX12_isDigit_1 : decode cX12_isDigit 1 = .ok (.bipush 48, 2) := by decide +kernel
theorem dX12_isDigit_3 : decode cX12_isDigit 3 = .ok (.if_icmp .lt 13, 3) := by decide +kernel
theorem dX12_isDigit_6 : decode cX12_isDigit 6 = .ok (.iload_n 0, 1) := by decide +kernel
theorem dX12_isDigit_7 : decode cX12_isDigit 7 = .ok (.bipush 57, 2) := by decide +kernel
theorem dX12_isDigit_9 : decode cX12_isDigit 9 = .ok (.if_icmp .gt 7, 3) := by decide +kernel
theorem dX12_isDigit_12 : decode cX12_isDigit 12 = .ok (.iconst 1, 1) := by decide +kernel
theorem dX12_isDigit_13 : decode cX12_isDigit 13 = .ok (.goto 4, 3) := by decide +kernel
theorem dX12_isDigit_16 : decode cX12_isDigit 16 = .ok (.iconst 0, 1) := by decide +kernel
theorem dX12_isDigit_17 : decode cX12_isDigit 17 = .ok (.ireturn, 1) := by decide +kernel
theorem dX12_keyAt_0 : decode cX12_keyAt 0 = .ok (.iconst 0, 1) := by decide +kernel
theorem dX12_keyAt_1 : decode cX12_keyAt 1 = .ok (.istore_n 1, 1) := by decide +kernel
theorem dX12_keyAt_2 : decode cX12_keyAt 2 = .ok (.iconst 1, 1) := by decide +kernel
theorem dX12_keyAt_3 : decode cX12_keyAt 3 = .ok (.istore_n 2, 1) := by decide +kernel
theorem dX12_keyAt_4 : decode cX12_keyAt 4 = .ok (.iload_n 2, 1) := by decide +kernel
theorem dX12_keyAt_5 : decode cX12_keyAt 5 = .ok (.ldc 94, 2) := by decide +kernel
theorem dX12_keyAt_7 : decode cX12_keyAt 7 = .ok (.invokevirtual 96, 3) := by decide +kernel
theorem dX12_keyAt_10 : decode cX12_keyAt 10 = .ok (.if_icmp .ge 113, 3) := by decide +kernel
theorem dX12_keyAt_13 : decode cX12_keyAt 13 = .ok (.iconst 0, 1) := by decide +kernel
theorem dX12_keyAt_14 : decode cX12_keyAt 14 = .ok (.istore_n 3, 1) := by decide +kernel
theorem dX12_keyAt_15 : decode cX12_keyAt 15 = .ok (.ldc 94, 2) := by decide +kernel
theorem dX12_keyAt_17 : decode cX12_keyAt 17 = .ok (.iload_n 2, 1) := by decide +kernel
theorem dX12_keyAt_18 : decode cX12_keyAt 18 = .ok (.iload_n 3, 1) := by decide +kernel
theorem dX12_keyAt_19 : decode cX12_keyAt 19 = .ok (.iadd, 1) := by decide +kernel
theorem dX12_keyAt_20 : decode cX12_keyAt 20 = .ok (.invokevirtual 102, 3) := by decide +kernel
theorem dX12_keyAt_23 : decode cX12_keyAt 23 = .ok (.bipush 32, 2) := by decide +kernel
theorem dX12_keyAt_25 : decode cX12_keyAt 25 = .ok (.if_icmp .eq 44, 3) := by decide +kernel
theorem dX12_keyAt_28 : decode cX12_keyAt 28 = .ok (.aload_n 0, 1) := by decide +kernel
theorem dX12_keyAt_29 : decode cX12_keyAt 29 = .ok (.getfield 106, 3) := by decide +kernel
theorem dX12_keyAt_32 : decode cX12_keyAt 32 = .ok (.iload_n 3, 1) := by decide +kernel
theorem dX12_keyAt_33 : decode cX12_keyAt 33 = .ok (.iadd, 1) := by decide +kernel
theorem dX12_keyAt_34 : decode cX12_keyAt 34 = .ok (.aload_n 0, 1) := by decide +kernel
theorem dX12_keyAt_35 : decode cX12_keyAt 35 = .ok (.getfield 109, 3) := by decide +kernel
theorem dX12_keyAt_38 : decode cX12_keyAt 38 = .ok (.if_icmp .ge 31, 3) := by decide +kernel
theorem dX12_keyAt_41 : decode cX12_keyAt 41 = .ok (.aload_n 0, 1) := by decide +kernel
theorem dX12_keyAt_42 : decode cX12_keyAt 42 = .ok (.getfield 21, 3) := by decide +kernel
theorem dX12_keyAt_45 : decode cX12_keyAt 45 = .ok (.aload_n 0, 1) := by decide +kernel
theorem dX12_keyAt_46 : decode cX12_keyAt 46 = .ok (.getfield 106, 3) := by decide +kernel
theorem dX12_keyAt_49 : decode cX12_keyAt 49 = .ok (.iload_n 3, 1) := by decide +kernel
theorem dX12_keyAt_50 : decode cX12_keyAt 50 = .ok (.iadd, 1) := by decide +kernel
theorem dX12_keyAt_51 : decode cX12_keyAt 51 = .ok (.iaload, 1) := by decide +kernel
theorem dX12_keyAt_52 : decode cX12_keyAt 52 = .ok (.ldc 94, 2) := by decide +kernel
theorem dX12_keyAt_54 : decode cX12_keyAt 54 = .ok (.iload_n 2, 1) := by decide +kernel
theorem dX12_keyAt_55 : decode cX12_keyAt 55 = .ok (.iload_n 3, 1) := by decide +kernel
theorem dX12_keyAt_56 : decode cX12_keyAt 56 = .ok (.iadd, 1) := by decide +kernel
theorem dX12_keyAt_57 : decode cX12_keyAt 57 = .ok (.invokevirtual 102, 3) := by decide +kernel
theorem dX12_keyAt_60 : decode cX12_keyAt 60 = .ok (.if_icmp .ne 9, 3) := by decide +kernel
theorem dX12_keyAt_63 : decode cX12_keyAt 63 = .ok (.iinc 3 1, 3) := by decide +kernel
theorem dX12_keyAt_66 : decode cX12_keyAt 66 = .ok (.goto (-51), 3) := by decide +kernel
theorem dX12_keyAt_69 : decode cX12_keyAt 69 = .ok (.ldc 94, 2) := by decide +kernel
theorem dX12_keyAt_71 : decode cX12_keyAt 71 = .ok (.iload_n 2, 1) := by decide +kernel
theorem dX12_keyAt_72 : decode cX12_keyAt 72 = .ok (.iload_n 3, 1) := by decide +kernel
theorem dX12_keyAt_73 : decode cX12_keyAt 73 = .ok (.iadd, 1) := by decide +kernel
theorem dX12_keyAt_74 : decode cX12_keyAt 74 = .ok (.invokevirtual 102, 3) := by decide +kernel
theorem dX12_keyAt_77 : decode cX12_keyAt 77 = .ok (.bipush 32, 2) := by decide +kernel
theorem dX12_keyAt_79 : decode cX12_keyAt 79 = .ok (.if_icmp .ne 18, 3) := by decide +kernel
theorem dX12_keyAt_82 : decode cX12_keyAt 82 = .ok (.aload_n 0, 1) := by decide +kernel
theorem dX12_keyAt_83 : decode cX12_keyAt 83 = .ok (.getfield 106, 3) := by decide +kernel
theorem dX12_keyAt_86 : decode cX12_keyAt 86 = .ok (.iload_n 3, 1) := by decide +kernel
theorem dX12_keyAt_87 : decode cX12_keyAt 87 = .ok (.iadd, 1) := by decide +kernel
theorem dX12_keyAt_88 : decode cX12_keyAt 88 = .ok (.aload_n 0, 1) := by decide +kernel
theorem dX12_keyAt_89 : decode cX12_keyAt 89 = .ok (.getfield 109, 3) := by decide +kernel
theorem dX12_keyAt_92 : decode cX12_keyAt 92 = .ok (.if_icmp .ne 5, 3) := by decide +kernel
theorem dX12_keyAt_95 : decode cX12_keyAt 95 = .ok (.iload_n 1, 1) := by decide +kernel
theorem dX12_keyAt_96 : decode cX12_keyAt 96 = .ok (.ireturn, 1) := by decide +kernel
theorem dX12_keyAt_97 : decode cX12_keyAt 97 = .ok (.ldc 94, 2) := by decide +kernel
theorem dX12_keyAt_99 : decode cX12_keyAt 99 = .ok (.iload_n 2, 1) := by decide +kernel
theorem dX12_keyAt_100 : decode cX12_keyAt 100 = .ok (.invokevirtual 102, 3) := by decide +kernel
theorem dX12_keyAt_103 : decode cX12_keyAt 103 = .ok (.bipush 32, 2) := by decide +kernel
theorem dX12_keyAt_105 : decode cX12_keyAt 105 = .ok (.if_icmp .eq 9, 3) := by decide +kernel
theorem dX12_keyAt_108 : decode cX12_keyAt 108 = .ok (.iinc 2 1, 3) := by decide +kernel
theorem dX12_keyAt_111 : decode cX12_keyAt 111 = .ok (.goto (-14), 3) := by decide +kernel
theorem dX12_keyAt_114 : decode cX12_keyAt 114 = .ok (.iinc 2 1, 3) := by decide +kernel
theorem dX12_keyAt_117 : decode cX12_keyAt 117 = .ok (.iinc 1 1, 3) := by decide +kernel
theorem dX12_keyAt_120 : decode cX12_keyAt 120 = .ok (.goto (-116), 3) := by decide +kernel
theorem dX12_keyAt_123 : decode cX12_keyAt 123 = .ok (.bipush 22, 2) := by decide +kernel
theorem dX12_keyAt_125 : decode cX12_keyAt 125 = .ok (.ireturn, 1) := by decide +kernel
theorem dX12_next_0 : decode cX12_next 0 = .ok (.aload_n 0, 1) := by decide +kernel
theorem dX12_next_1 : decode cX12_next 1 = .ok (.aload_n 0, 1) := by decide +kernel
theorem dX12_next_2 : decode cX12_next 2 = .ok (.getfield 109, 3) := by decide +kernel
theorem dX12_next_5 : decode cX12_next 5 = .ok (.putfield 106, 3) := by decide +kernel
theorem dX12_next_8 : decode cX12_next 8 = .ok (.aload_n 0, 1) := by decide +kernel
theorem dX12_next_9 : decode cX12_next 9 = .ok (.aload_n 0, 1) := by decide +kernel
theorem dX12_next_10 : decode cX12_next 10 = .ok (.getfield 106, 3) := by decide +kernel
theorem dX12_next_13 : decode cX12_next 13 = .ok (.invokevirtual 112, 3) := by decide +kernel
theorem dX12_next_16 : decode cX12_next 16 = .ok (.bipush 10, 2) := by decide +kernel
theorem dX12_next_18 : decode cX12_next 18 = .ok (.if_icmp .eq 16, 3) := by decide +kernel
theorem dX12_next_21 : decode cX12_next 21 = .ok (.aload_n 0, 1) := by decide +kernel
theorem dX12_next_22 : decode cX12_next 22 = .ok (.aload_n 0, 1) := by decide +kernel
theorem dX12_next_23 : decode cX12_next 23 = .ok (.getfield 106, 3) := by decide +kernel
theorem dX12_next_26 : decode cX12_next 26 = .ok (.invokevirtual 112, 3) := by decide +kernel
theorem dX12_next_29 : decode cX12_next 29 = .ok (.bipush 32, 2) := by decide +kernel
theorem dX12_next_31 : decode cX12_next 31 = .ok (.if_icmp .ne 16, 3) := by decide +kernel
theorem dX12_next_34 : decode cX12_next 34 = .ok (.aload_n 0, 1) := by decide +kernel
theorem dX12_next_35 : decode cX12_next 35 = .ok (.dup, 1) := by decide +kernel
theorem dX12_next_36 : decode cX12_next 36 = .ok (.getfield 106, 3) := by decide +kernel
theorem dX12_next_39 : decode cX12_next 39 = .ok (.iconst 1, 1) := by decide +kernel
theorem dX12_next_40 : decode cX12_next 40 = .ok (.iadd, 1) := by decide +kernel
theorem dX12_next_41 : decode cX12_next 41 = .ok (.putfield 106, 3) := by decide +kernel
theorem dX12_next_44 : decode cX12_next 44 = .ok (.goto (-36), 3) := by decide +kernel
theorem dX12_next_47 : decode cX12_next 47 = .ok (.aload_n 0, 1) := by decide +kernel
theorem dX12_next_48 : decode cX12_next 48 = .ok (.aload_n 0, 1) := by decide +kernel
theorem dX12_next_49 : decode cX12_next 49 = .ok (.getfield 106, 3) := by decide +kernel
theorem dX12_next_52 : decode cX12_next 52 = .ok (.putfield 109, 3) := by decide +kernel
theorem dX12_next_55 : decode cX12_next 55 = .ok (.aload_n 0, 1) := by decide +kernel
theorem dX12_next_56 : decode cX12_next 56 = .ok (.getfield 106, 3) := by decide +kernel
theorem dX12_next_59 : decode cX12_next 59 = .ok (.aload_n 0, 1) := by decide +kernel
theorem dX12_next_60 : decode cX12_next 60 = .ok (.getfield 91, 3) := by decide +kernel
theorem dX12_next_63 : decode cX12_next 63 = .ok (.if_icmp .lt 12, 3) := by decide +kernel
theorem dX12_next_66 : decode cX12_next 66 = .ok (.aload_n 0, 1) := by decide +kernel
theorem dX12_next_67 : decode cX12_next 67 = .ok (.bipush 24, 2) := by decide +kernel
theorem dX12_next_69 : decode cX12_next 69 = .ok (.putfield 116, 3) := by decide +kernel
theorem dX12_next_72 : decode cX12_next 72 = .ok (.goto 222, 3) := by decide +kernel
theorem dX12_next_75 : decode cX12_next 75 = .ok (.aload_n 0, 1) := by decide +kernel
theorem dX12_next_76 : decode cX12_next 76 = .ok (.aload_n 0, 1) := by decide +kernel
theorem dX12_next_77 : decode cX12_next 77 = .ok (.getfield 106, 3) := by decide +kernel
theorem dX12_next_80 : decode cX12_next 80 = .ok (.invokevirtual 112, 3) := by decide +kernel
theorem dX12_next_83 : decode cX12_next 83 = .ok (.invokestatic 119, 3) := by decide +kernel
theorem dX12_next_86 : decode cX12_next 86 = .ok (.ifCond .eq 41, 3) := by decide +kernel
theorem dX12_next_89 : decode cX12_next 89 = .ok (.aload_n 0, 1) := by decide +kernel
theorem dX12_next_90 : decode cX12_next 90 = .ok (.aload_n 0, 1) := by decide +kernel
theorem dX12_next_91 : decode cX12_next 91 = .ok (.getfield 109, 3) := by decide +kernel
theorem dX12_next_94 : decode cX12_next 94 = .ok (.invokevirtual 112, 3) := by decide +kernel
theorem dX12_next_97 : decode cX12_next 97 = .ok (.invokestatic 119, 3) := by decide +kernel
theorem dX12_next_100 : decode cX12_next 100 = .ok (.ifCond .eq 16, 3) := by decide +kernel
theorem dX12_next_103 : decode cX12_next 103 = .ok (.aload_n 0, 1) := by decide +kernel
theorem dX12_next_104 : decode cX12_next 104 = .ok (.dup, 1) := by decide +kernel
theorem dX12_next_105 : decode cX12_next 105 = .ok (.getfield 109, 3) := by decide +kernel
theorem dX12_next_108 : decode cX12_next 108 = .ok (.iconst 1, 1) := by decide +kernel
theorem dX12_next_109 : decode cX12_next 109 = .ok (.iadd, 1) := by decide +kernel
theorem dX12_next_110 : decode cX12_next 110 = .ok (.putfield 109, 3) := by decide +kernel
theorem dX12_next_113 : decode cX12_next 113 = .ok (.goto (-24), 3) := by decide +kernel
theorem dX12_next_116 : decode cX12_next 116 = .ok (.aload_n 0, 1) := by decide +kernel
theorem dX12_next_117 : decode cX12_next 117 = .ok (.aload_n 0, 1) := by decide +kernel
theorem dX12_next_118 : decode cX12_next 118 = .ok (.invokevirtual 123, 3) := by decide +kernel
theorem dX12_next_121 : decode cX12_next 121 = .ok (.putfield 116, 3) := by decide +kernel
theorem dX12_next_124 : decode cX12_next 124 = .ok (.goto 170, 3) := by decide +kernel
theorem dX12_next_127 : decode cX12_next 127 = .ok (.aload_n 0, 1) := by decide +kernel
theorem dX12_next_128 : decode cX12_next 128 = .ok (.aload_n 0, 1) := by decide +kernel
theorem dX12_next_129 : decode cX12_next 129 = .ok (.getfield 106, 3) := by decide +kernel
theorem dX12_next_132 : decode cX12_next 132 = .ok (.invokevirtual 112, 3) := by decide +kernel
theorem dX12_next_135 : decode cX12_next 135 = .ok (.invokestatic 126, 3) := by decide +kernel
theorem dX12_next_138 : decode cX12_next 138 = .ok (.ifCond .eq 98, 3) := by decide +kernel
theorem dX12_next_141 : decode cX12_next 141 = .ok (.aload_n 0, 1) := by decide +kernel
theorem dX12_next_142 : decode cX12_next 142 = .ok (.iconst 0, 1) := by decide +kernel
theorem dX12_next_143 : decode cX12_next 143 = .ok (.putfield 129, 3) := by decide +kernel
theorem dX12_next_146 : decode cX12_next 146 = .ok (.aload_n 0, 1) := by decide +kernel
theorem dX12_next_147 : decode cX12_next 147 = .ok (.aload_n 0, 1) := by decide +kernel
theorem dX12_next_148 : decode cX12_next 148 = .ok (.getfield 109, 3) := by decide +kernel
theorem dX12_next_151 : decode cX12_next 151 = .ok (.invokevirtual 112, 3) := by decide +kernel
theorem dX12_next_154 : decode cX12_next 154 = .ok (.invokestatic 126, 3) := by decide +kernel
theorem dX12_next_157 : decode cX12_next 157 = .ok (.ifCond .eq 52, 3) := by decide +kernel
theorem dX12_next_160 : decode cX12_next 160 = .ok (.aload_n 0, 1) := by decide +kernel
theorem dX12_next_161 : decode cX12_next 161 = .ok (.getfield 109, 3) := by decide +kernel
theorem dX12_next_164 : decode cX12_next 164 = .ok (.aload_n 0, 1) := by decide +kernel
theorem dX12_next_165 : decode cX12_next 165 = .ok (.getfield 106, 3) := by decide +kernel
theorem dX12_next_168 : decode cX12_next 168 = .ok (.isub, 1) := by decide +kernel
theorem dX12_next_169 : decode cX12_next 169 = .ok (.iconst 3, 1) := by decide +kernel
theorem dX12_next_170 : decode cX12_next 170 = .ok (.if_icmp .ge 26, 3) := by decide +kernel
theorem dX12_next_173 : decode cX12_next 173 = .ok (.aload_n 0, 1) := by decide +kernel
theorem dX12_next_174 : decode cX12_next 174 = .ok (.bipush 10, 2) := by decide +kernel
theorem dX12_next_176 : decode cX12_next 176 = .ok (.aload_n 0, 1) := by decide +kernel
theorem dX12_next_177 : decode cX12_next 177 = .ok (.getfield 129, 3) := by decide +kernel
theorem dX12_next_180 : decode cX12_next 180 = .ok (.imul, 1) := by decide +kernel
theorem dX12_next_181 : decode cX12_next 181 = .ok (.aload_n 0, 1) := by decide +kernel
theorem dX12_next_182 : decode cX12_next 182 = .ok (.aload_n 0, 1) := by decide +kernel
theorem dX12_next_183 : decode cX12_next 183 = .ok (.getfield 109, 3) := by decide +kernel
theorem dX12_next_186 : decode cX12_next 186 = .ok (.invokevirtual 112, 3) := by decide +kernel
theorem dX12_next_189 : decode cX12_next 189 = .ok (.iadd, 1) := by decide +kernel
theorem dX12_next_190 : decode cX12_next 190 = .ok (.bipush 48, 2) := by decide +kernel
theorem dX12_next_192 : decode cX12_next 192 = .ok (.isub, 1) := by decide +kernel
theorem dX12_next_193 : decode cX12_next 193 = .ok (.putfield 129, 3) := by decide +kernel
theorem dX12_next_196 : decode cX12_next 196 = .ok (.aload_n 0, 1) := by decide +kernel
theorem dX12_next_197 : decode cX12_next 197 = .ok (.dup, 1) := by decide +kernel
theorem dX12_next_198 : decode cX12_next 198 = .ok (.getfield 109, 3) := by decide +kernel
theorem dX12_next_201 : decode cX12_next 201 = .ok (.iconst 1, 1) := by decide +kernel
theorem dX12_next_202 : decode cX12_next 202 = .ok (.iadd, 1) := by decide +kernel
theorem dX12_next_203 : decode cX12_next 203 = .ok (.putfield 109, 3) := by decide +kernel
theorem dX12_next_206 : decode cX12_next 206 = .ok (.goto (-60), 3) := by decide +kernel
theorem dX12_next_209 : decode cX12_next 209 = .ok (.aload_n 0, 1) := by decide +kernel
theorem dX12_next_210 : decode cX12_next 210 = .ok (.aload_n 0, 1) := by decide +kernel
theorem dX12_next_211 : decode cX12_next 211 = .ok (.getfield 109, 3) := by decide +kernel
theorem dX12_next_214 : decode cX12_next 214 = .ok (.aload_n 0, 1) := by decide +kernel
theorem dX12_next_215 : decode cX12_next 215 = .ok (.getfield 106, 3) := by decide +kernel
theorem dX12_next_218 : decode cX12_next 218 = .ok (.isub, 1) := by decide +kernel
theorem dX12_next_219 : decode cX12_next 219 = .ok (.iconst 3, 1) := by decide +kernel
theorem dX12_next_220 : decode cX12_next 220 = .ok (.if_icmp .le 8, 3) := by decide +kernel
theorem dX12_next_223 : decode cX12_next 223 = .ok (.bipush 25, 2) := by decide +kernel
theorem dX12_next_225 : decode cX12_next 225 = .ok (.goto 5, 3) := by decide +kernel
theorem dX12_next_228 : decode cX12_next 228 = .ok (.bipush 23, 2) := by decide +kernel
theorem dX12_next_230 : decode cX12_next 230 = .ok (.putfield 116, 3) := by decide +kernel
theorem dX12_next_233 : decode cX12_next 233 = .ok (.goto 61, 3) := by decide +kernel
theorem dX12_next_236 : decode cX12_next 236 = .ok (.aload_n 0, 1) := by decide +kernel
theorem dX12_next_237 : decode cX12_next 237 = .ok (.dup, 1) := by decide +kernel
theorem dX12_next_238 : decode cX12_next 238 = .ok (.getfield 109, 3) := by decide +kernel
theorem dX12_next_241 : decode cX12_next 241 = .ok (.iconst 1, 1) := by decide +kernel
theorem dX12_next_242 : decode cX12_next 242 = .ok (.iadd, 1) := by decide +kernel
theorem dX12_next_243 : decode cX12_next 243 = .ok (.putfield 109, 3) := by decide +kernel
theorem dX12_next_246 : decode cX12_next 246 = .ok (.aload_n 0, 1) := by decide +kernel
theorem dX12_next_247 : decode cX12_next 247 = .ok (.bipush 25, 2) := by decide +kernel
theorem dX12_next_249 : decode cX12_next 249 = .ok (.putfield 116, 3) := by decide +kernel
theorem dX12_next_252 : decode cX12_next 252 = .ok (.iconst 0, 1) := by decide +kernel
theorem dX12_next_253 : decode cX12_next 253 = .ok (.istore_n 1, 1) := by decide +kernel
theorem dX12_next_254 : decode cX12_next 254 = .ok (.iload_n 1, 1) := by decide +kernel
theorem dX12_next_255 : decode cX12_next 255 = .ok (.ldc 132, 2) := by decide +kernel
theorem dX12_next_257 : decode cX12_next 257 = .ok (.invokevirtual 96, 3) := by decide +kernel
theorem dX12_next_260 : decode cX12_next 260 = .ok (.if_icmp .ge 34, 3) := by decide +kernel
theorem dX12_next_263 : decode cX12_next 263 = .ok (.aload_n 0, 1) := by decide +kernel
theorem dX12_next_264 : decode cX12_next 264 = .ok (.aload_n 0, 1) := by decide +kernel
theorem dX12_next_265 : decode cX12_next 265 = .ok (.getfield 106, 3) := by decide +kernel
theorem dX12_next_268 : decode cX12_next 268 = .ok (.invokevirtual 112, 3) := by decide +kernel
theorem dX12_next_271 : decode cX12_next 271 = .ok (.ldc 132, 2) := by decide +kernel
theorem dX12_next_273 : decode cX12_next 273 = .ok (.iload_n 1, 1) := by decide +kernel
theorem dX12_next_274 : decode cX12_next 274 = .ok (.invokevirtual 102, 3) := by decide +kernel
theorem dX12_next_277 : decode cX12_next 277 = .ok (.if_icmp .ne 11, 3) := by decide +kernel
theorem dX12_next_280 : decode cX12_next 280 = .ok (.aload_n 0, 1) := by decide +kernel
theorem dX12_next_281 : decode cX12_next 281 = .ok (.bipush 30, 2) := by decide +kernel
theorem dX12_next_283 : decode cX12_next 283 = .ok (.iload_n 1, 1) := by decide +kernel
theorem dX12_next_284 : decode cX12_next 284 = .ok (.iadd, 1) := by decide +kernel
theorem dX12_next_285 : decode cX12_next 285 = .ok (.putfield 116, 3) := by decide +kernel
theorem dX12_next_288 : decode cX12_next 288 = .ok (.iinc 1 1, 3) := by decide +kernel
theorem dX12_next_291 : decode cX12_next 291 = .ok (.goto (-37), 3) := by decide +kernel
theorem dX12_next_294 : decode cX12_next 294 = .ok (.return_, 1) := by decide +kernel
theorem mbX.keys (E : mbE) (U : State) (H : Heap) (h : mbX E U H) : vk_R RX12 94 " book tone heat member mark saying up down warm cool would closes stroke last who and or not " (E.2.2.2 0) U := h.2.1.1
theorem mbX.sgns (E : mbE) (U : State) (H : Heap) (h : mbX E U H) : vk_R RX12 132 ";:+-*()[]=<>" (E.2.2.2 2) U := h.2.1.2.2.1
def rSt : List Nat := [1, 6, 11, 16, 23, 28, 35, 38, 43, 48, 53, 59, 66, 73, 78, 82, 86, 89, 93]
def rLn : List Nat := [4, 4, 4, 6, 4, 6, 2, 4, 4, 4, 5, 6, 6, 4, 3, 3, 2, 3, 0]
def rS (w : Nat) : Nat := rSt.getD w 0
def rL (w : Nat) : Nat := rLn.getD w 0
/-- the reference's number of a class's word -/
def rWl : List Nat := [0, 1, 2, 3, 4, 5, 6, 7, 8, 9, 10, 11, 12, 16, 15, 17, 13, 14]
def rW (w : Nat) : Nat := rWl.getD w 0
theorem r_len : strN 0 = 93 := rfl
theorem rS_t : ∀ w : Fin 18, rS w.val + rL w.val + 1 = rS (w.val + 1) ∧ rS (w.val + 1) ≤ 93 ∧ strB 0 (rS w.val + rL w.val) = 32 ∧ rL w.val ≤ 6 ∧ ∀ j : Fin 6, j.val < rL w.val → strB 0 (rS w.val + j.val) ≠ 32 := by decide +kernel
theorem rW_t : ∀ w : Fin 18, rW w.val < 18 ∧ rL (rW w.val) = cL w.val ∧ ∀ j : Fin 6, j.val < cL w.val → strB 0 (rS (rW w.val) + j.val) = strB 1 (cS w.val + j.val) := by decide +kernel
theorem rW_on : ∀ r : Fin 18, ∃ w : Fin 18, rW w.val = r.val := by decide +kernel
/-- the word r of the reference stands from p to e -/
def isR (f : Int → Int) (p e : Int) (r : Nat) : Prop := e - p = (rL r : Nat) ∧ ∀ j : Nat, j < rL r → f (p + j) = strB 0 (rS r + j)
theorem isR_W {f : Int → Int} {p e : Int} {w : Nat} (hw : w < 18) : isR f p e (rW w) ↔ isW f p e w := by
  obtain ⟨h1, h2, h3⟩ := rW_t ⟨w, hw⟩
  dsimp only at h1 h2 h3
  have hl := (rS_t ⟨rW w, h1⟩).2.2.2.1
  dsimp only at hl
  unfold isR isW
  rw [h2]
  constructor
  · rintro ⟨a, b⟩
    exact ⟨a, fun j hj => by rw [b j hj]; exact h3 ⟨j, by omega⟩ hj⟩
  · rintro ⟨a, b⟩
    exact ⟨a, fun j hj => by rw [b j hj]; exact (h3 ⟨j, by omega⟩ hj).symm⟩
theorem isR.uni {f : Int → Int} {p e : Int} {r t : Nat} (hr : r < 18) (ht : t < 18) (h : isR f p e r) (h2 : isR f p e t) : r = t := by
  obtain ⟨w, hw⟩ := rW_on ⟨r, hr⟩
  obtain ⟨v, hv⟩ := rW_on ⟨t, ht⟩
  dsimp only at hw hv
  rw [← hw] at h ⊢
  rw [← hv] at h2 ⊢
  rw [isW.uni w.isLt v.isLt ((isR_W w.isLt).mp h) ((isR_W v.isLt).mp h2)]
/-- the reference's number of a kind -/
def kR (k : Int) : Int := if 1000 ≤ k then 23 else if k = 202 then 25 else if k = 201 then 24 else if k = 200 then 22 else if 128 ≤ k then ((rW (k - 128).toNat : Nat) : Int) else if k = 59 then 30 else if k = 58 then 31 else if k = 43 then 32 else if k = 45 then 33 else if k = 42 then 34 else if k = 40 then 35 else if k = 41 then 36 else if k = 91 then 37 else if k = 93 then 38 else if k = 61 then 39 else if k = 60 then 40 else 41
/-- the bytes of a text as the reference has them -/
def tpR (ct : mbCt) (f : Int → Int) (n : Int) : Prop := ∀ j, 0 ≤ j → j < n → ct 95 j = f j % 256 ∧ -128 ≤ f j ∧ f j < 128
section
variable (d : Nat) (sh : mbSh) (ct : mbCt) {x n p e k : Int} {f : Int → Int}
theorem tw_see (S : SH sh) (L : LK ct) (h8 : ct 92 8 = n) (n0 : 0 ≤ n) (n1 : n ≤ 900) (h0 : 0 ≤ x) (h1 : x ≤ 1000) : Mt YX12_see d [.inr (.inr 92), .inl x] sh sh ct (pI fun r c => r = (if x < n then ct 95 x else -1) ∧ c = ct) := by
  have wx : w32 x = x := w32_id (by omega) (by omega)
  have wn : w32 n = n := w32_id (by omega) (by omega)
  refine Mt.of rfl (Nat.le_of_ble_eq_true rfl) ?_
  show G _ 0 [some (.inr (.inr 92)), some (.inl x)] [] sh ct
  refine g_iload_n (q := 1) dX12_see_0 rfl rfl ?_
  refine g_aload_n (q := 2) dX12_see_1 rfl rfl ?_
  refine g_getI (q := 5) (kI := 8) fX12_91 (by first | assumption | exact S.at _ rfl) dX12_see_2 rfl rfl ?_
  rw [h8]
  refine g_icmp_ge (q := 8) (tg := 17) dX12_see_5 (by decide) rfl (fun c_5 => ?_) (fun c_5 => ?_)
  · rw [wx, wn] at c_5
    refine g_iconst (q := 18) dX12_see_17 rfl ?_
    refine g_ireturn dX12_see_18 rfl ?_
    exact ⟨_, rfl, by rw [if_neg (by omega)], rfl⟩
  · rw [wx, wn] at c_5
    refine g_aload_n (q := 9) dX12_see_8 rfl rfl ?_
    refine g_getA (q := 12) (kI := 3) fX12_21 (by first | assumption | exact S.at _ rfl) dX12_see_9 rfl rfl (by first | assumption | exact L.at _ _ rfl | exact LK.at (by assumption) _ _ rfl | ((repeat first | rewrite [wr_na (by decide)] | rewrite [wr_nk (by decide)] | rewrite [wa_na (by decide)]); first | assumption | exact LK.at (by assumption) _ _ rfl) | exact rfl) ?_
    refine g_iload_n (q := 13) dX12_see_12 rfl rfl ?_
    refine g_iaload (q := 14) (by first | assumption | exact S.at _ rfl) (by omega) (by omega) (by omega) dX12_see_13 rfl ?_
    refine g_goto (q := 18) dX12_see_14 (by decide) ?_
    refine g_ireturn dX12_see_18 rfl ?_
    exact ⟨_, rfl, by rw [if_pos (by omega)], rfl⟩
theorem tw_isSmall (h0 : -1 ≤ x) (h1 : x < 256) : Mt YX12_isSmall d [.inl x] sh sh ct (pI fun r c => r = b01 (isLt x) ∧ c = ct) := by
  have wx : w32 x = x := w32_id (by omega) (by omega)
  refine Mt.of rfl (Nat.le_of_ble_eq_true rfl) ?_
  show G _ 0 [some (.inl x)] [] sh ct
  refine g_iload_n (q := 1) dX12_isSmall_0 rfl rfl ?_
  refine g_bipush (q := 3) dX12_isSmall_1 (by decide +kernel) rfl ?_
  refine g_icmp_lt (q := 6) (tg := 16) dX12_isSmall_3 (by decide) rfl (fun c_3 => ?_) (fun c_3 => ?_)
  · refine g_iconst (q := 17) dX12_isSmall_16 rfl ?_
    refine g_zreturn dX12_isSmall_17 rfl (by decide +kernel) ?_
    refine ⟨_, rfl, ?_, rfl⟩; rw [wx] at *; first | (apply b01_t; rw [show w32 97 = 97 from rfl] at *; rw [show w32 122 = 122 from rfl] at *; omega) | (apply b01_f; intro z; first | (rw [show w32 97 = 97 from rfl] at *; omega) | (rw [show w32 122 = 122 from rfl] at *; omega))
  · refine g_iload_n (q := 7) dX12_isSmall_6 rfl rfl ?_
    refine g_bipush (q := 9) dX12_isSmall_7 (by decide +kernel) rfl ?_
    refine g_icmp_gt (q := 12) (tg := 16) dX12_isSmall_9 (by decide) rfl (fun c_9 => ?_) (fun c_9 => ?_)
    · refine g_iconst (q := 17) dX12_isSmall_16 rfl ?_
      refine g_zreturn dX12_isSmall_17 rfl (by decide +kernel) ?_
      refine ⟨_, rfl, ?_, rfl⟩; rw [wx] at *; first | (apply b01_t; rw [show w32 97 = 97 from rfl] at *; rw [show w32 122 = 122 from rfl] at *; omega) | (apply b01_f; intro z; first | (rw [show w32 97 = 97 from rfl] at *; omega) | (rw [show w32 122 = 122 from rfl] at *; omega))
    · refine g_iconst (q := 13) dX12_isSmall_12 rfl ?_
      refine g_goto (q := 17) dX12_isSmall_13 (by decide) ?_
      refine g_zreturn dX12_isSmall_17 rfl (by decide +kernel) ?_
      refine ⟨_, rfl, ?_, rfl⟩; rw [wx] at *; first | (apply b01_t; rw [show w32 97 = 97 from rfl] at *; rw [show w32 122 = 122 from rfl] at *; omega) | (apply b01_f; intro z; first | (rw [show w32 97 = 97 from rfl] at *; omega) | (rw [show w32 122 = 122 from rfl] at *; omega))
theorem tw_isDigit (h0 : -1 ≤ x) (h1 : x < 256) : Mt YX12_isDigit d [.inl x] sh sh ct (pI fun r c => r = b01 (isDg x) ∧ c = ct) := by
  have wx : w32 x = x := w32_id (by omega) (by omega)
  refine Mt.of rfl (Nat.le_of_ble_eq_true rfl) ?_
  show G _ 0 [some (.inl x)] [] sh ct
  refine g_iload_n (q := 1) dX12_isDigit_0 rfl rfl ?_
  refine g_bipush (q := 3) dX12_isDigit_1 (by decide +kernel) rfl ?_
  refine g_icmp_lt (q := 6) (tg := 16) dX12_isDigit_3 (by decide) rfl (fun c_3 => ?_) (fun c_3 => ?_)
  · refine g_iconst (q := 17) dX12_isDigit_16 rfl ?_
    refine g_zreturn dX12_isDigit_17 rfl (by decide +kernel) ?_
    refine ⟨_, rfl, ?_, rfl⟩; rw [wx] at *; first | (apply b01_t; rw [show w32 48 = 48 from rfl] at *; rw [show w32 57 = 57 from rfl] at *; omega) | (apply b01_f; intro z; first | (rw [show w32 48 = 48 from rfl] at *; omega) | (rw [show w32 57 = 57 from rfl] at *; omega))
  · refine g_iload_n (q := 7) dX12_isDigit_6 rfl rfl ?_
    refine g_bipush (q := 9) dX12_isDigit_7 (by decide +kernel) rfl ?_
    refine g_icmp_gt (q := 12) (tg := 16) dX12_isDigit_9 (by decide) rfl (fun c_9 => ?_) (fun c_9 => ?_)
    · refine g_iconst (q := 17) dX12_isDigit_16 rfl ?_
      refine g_zreturn dX12_isDigit_17 rfl (by decide +kernel) ?_
      refine ⟨_, rfl, ?_, rfl⟩; rw [wx] at *; first | (apply b01_t; rw [show w32 48 = 48 from rfl] at *; rw [show w32 57 = 57 from rfl] at *; omega) | (apply b01_f; intro z; first | (rw [show w32 48 = 48 from rfl] at *; omega) | (rw [show w32 57 = 57 from rfl] at *; omega))
    · refine g_iconst (q := 13) dX12_isDigit_12 rfl ?_
      refine g_goto (q := 17) dX12_isDigit_13 (by decide) ?_
      refine g_zreturn dX12_isDigit_17 rfl (by decide +kernel) ?_
      refine ⟨_, rfl, ?_, rfl⟩; rw [wx] at *; first | (apply b01_t; rw [show w32 48 = 48 from rfl] at *; rw [show w32 57 = 57 from rfl] at *; omega) | (apply b01_f; intro z; first | (rw [show w32 48 = 48 from rfl] at *; omega) | (rw [show w32 57 = 57 from rfl] at *; omega))
theorem tw_keyAt (S : SH sh) (L : LK ct) (h6 : ct 92 6 = p) (h7 : ct 92 7 = e) (p0 : 0 ≤ p) (p1 : p ≤ e) (e1 : e ≤ 900) (hb : ∀ j, p ≤ j → j < e → 0 ≤ ct 95 j ∧ ct 95 j < 256) : Mt YX12_keyAt (d + 4) [.inr (.inr 92)] sh sh ct (pI fun r c => ((∃ t : Nat, t < 18 ∧ isR (ct 95) p e t ∧ r = (t : Int)) ∨ ((∀ t : Nat, t < 18 → ¬ isR (ct 95) p e t) ∧ r = 22)) ∧ c = ct) := by
  have s95 : shA sh 95 = some (20, 900) := S.at _ rfl
  generalize hP : (pI fun r c => ((∃ t : Nat, t < 18 ∧ isR (ct 95) p e t ∧ r = (t : Int)) ∨ ((∀ t : Nat, t < 18 → ¬ isR (ct 95) p e t) ∧ r = 22)) ∧ c = ct) = Po
  have ch : ∀ {pc q : Nat} {ls : List (Option gV)} {st : List gV} {i : Int}, decode cX12_keyAt pc = .ok (.invokevirtual 102, 3) → pc + 3 = q → 0 ≤ i → i < 93 → (st.map gcat).sum ≤ 8 → G (mkK YX12_keyAt (d + 4) sh sh Po) q ls (.inl (strB 0 i.toNat) :: st) sh ct → G (mkK YX12_keyAt (d + 4) sh sh Po) pc ls (.inl i :: .inr (.inr (-2)) :: st) sh ct := by
    intro pc q ls st i hd hq i0 i1 hst k
    refine g_callT (as := [.inl i]) (q := q) (by decide) lX12_102 mJ0_charAt_5068e nJ0_charAt_5068e rfl rfl (j_charAt d sh ct (i := 0) (by decide) i0 (by rw [r_len]; omega)) shLe.rf (rmOk.mk (by omega) shLe.rf) hst hd rfl hq (kI fun r c2 hp => ?_)
    obtain ⟨rfl, rfl⟩ := hp
    exact k
  refine Mt.of rfl (Nat.le_of_ble_eq_true rfl) ?_
  show G _ 0 [some (.inr (.inr 92)), none, none, none] [] sh ct
  refine g_iconst (q := 1) dX12_keyAt_0 rfl ?_
  refine s_istore_n_4_1 (q := 2) dX12_keyAt_1 rfl rfl rfl ?_
  refine g_iconst (q := 3) dX12_keyAt_2 rfl ?_
  refine s_istore_n_4_2 (q := 4) dX12_keyAt_3 rfl rfl rfl ?_
  refine g_for (fun t => [some (.inr (.inr 92)), some (.inl t), some (.inl (rS t.toNat : Nat)), none]) (fun t c => 0 ≤ t ∧ c = ct ∧ ∀ w : Nat, (w : Int) < t → ¬ isR (ct 95) p e w) 18 ?_ ?_ (i := 0) (by omega) ⟨Int.le_refl _, rfl, fun w hw => by omega⟩ (by simp [lsSub]; rfl)
  · rintro t c ht ⟨t0, rfl, hno⟩ kk
    obtain ⟨w, rfl⟩ : ∃ w : Nat, t = w := ⟨t.toNat, by omega⟩
    have hw18 : w < 18 := by omega
    obtain ⟨r1, r2, r3, r4, r5⟩ := rS_t ⟨w, hw18⟩
    dsimp only at r1 r2 r3 r4 r5
    rw [Int.toNat_natCast]
    have hnext : ∀ ls' : List (Option gV), lsSub [some (.inr (.inr 92)), some (.inl ((w : Int) + 1)), some (.inl (rS (w + 1) : Nat)), none] ls' → ¬ isR (c 95) p e w → G (mkK YX12_keyAt (d + 4) sh sh Po) 4 ls' [] sh c := by
      intro ls' hl hn
      refine kk ls' c (by rw [show ((w : Int) + 1).toNat = w + 1 by omega]; exact hl) ⟨by omega, rfl, fun v hv => ?_⟩
      by_cases h : v = w
      · rw [h]; exact hn
      · exact hno v (by omega)
    have third : ∀ (o : Option gV), ¬ isR (c 95) p e w → G (mkK YX12_keyAt (d + 4) sh sh Po) 97 [some (.inr (.inr 92)), some (.inl (w : Int)), some (.inl (rS w : Nat)), o] [] sh c := by
      intro o hn
      refine g_for (fun j => [some (.inr (.inr 92)), some (.inl (w : Int)), some (.inl (((rS w : Nat) : Int) + j)), none]) (fun j c' => 0 ≤ j ∧ c' = c) (rL w : Nat) ?_ ?_ (i := 0) (by omega) ⟨Int.le_refl _, rfl⟩ (by simp [lsSub])
      · rintro j c' hj ⟨j0, rfl⟩ kk2
        have r5' := r5 ⟨j.toNat, by omega⟩ (by dsimp only; omega)
        dsimp only at r5'
        have hsb := strB_in (i := 0) (j := rS w + j.toNat) (by decide) (by rw [r_len]; omega)
        refine g_ldcS (q := 99) (i := 0) mbX.keys dX12_keyAt_97 rfl ?_
        refine g_iload_n (q := 100) dX12_keyAt_99 rfl rfl ?_
        refine ch dX12_keyAt_100 rfl (by omega) (by omega) (Nat.le_of_ble_eq_true rfl) ?_
        rw [show (((rS w : Nat) : Int) + j).toNat = rS w + j.toNat by omega]
        refine g_bipush (q := 105) dX12_keyAt_103 (by decide +kernel) rfl ?_
        refine g_icmp_eq (q := 108) (tg := 114) dX12_keyAt_105 (by decide) rfl (fun c_105 => ?_) (fun c_105 => ?_)
        · rw [w32_id (x := strB 0 (rS w + j.toNat)) (by omega) (by omega), show w32 32 = 32 from rfl] at c_105
          exact absurd c_105 r5'
        · refine s_iinc_4_2 (q := 111) dX12_keyAt_108 rfl rfl rfl ?_
          refine g_goto (q := 97) dX12_keyAt_111 (by decide) ?_
          refine kk2 _ _ ?_ ⟨by omega, rfl⟩
          rw [show ((rS w : Nat) : Int) + (j + 1) = ((rS w : Nat) : Int) + j + 1 by omega]
          simp [lsSub]
      · rintro c' ⟨j0, rfl⟩
        refine g_ldcS (q := 99) (i := 0) mbX.keys dX12_keyAt_97 rfl ?_
        refine g_iload_n (q := 100) dX12_keyAt_99 rfl rfl ?_
        refine ch dX12_keyAt_100 rfl (by omega) (by omega) (Nat.le_of_ble_eq_true rfl) ?_
        rw [show (((rS w : Nat) : Int) + (rL w : Nat)).toNat = rS w + rL w by omega, r3]
        refine g_bipush (q := 105) dX12_keyAt_103 (by decide +kernel) rfl ?_
        refine g_icmp_eq (q := 108) (tg := 114) dX12_keyAt_105 (by decide) rfl (fun c_105 => ?_) (fun c_105 => ?_)
        · refine s_iinc_4_2 (q := 117) dX12_keyAt_114 rfl rfl rfl ?_
          refine s_iinc_4_1 (q := 120) dX12_keyAt_117 rfl rfl rfl ?_
          refine g_goto (q := 4) dX12_keyAt_120 (by decide) ?_
          refine hnext _ ?_ hn
          rw [show ((rS (w + 1) : Nat) : Int) = ((rS w : Nat) : Int) + (rL w : Nat) + 1 by omega]
          simp [lsSub]
        · exact absurd rfl c_105
    have out : ∀ i : Nat, i ≤ rL w → p + i ≤ e → (∀ j : Nat, j < i → c 95 (p + j) = strB 0 (rS w + j)) → (i = rL w ∨ p + i = e ∨ (i < rL w ∧ c 95 (p + i) ≠ strB 0 (rS w + i))) → G (mkK YX12_keyAt (d + 4) sh sh Po) 69 [some (.inr (.inr 92)), some (.inl (w : Int)), some (.inl (rS w : Nat)), some (.inl (i : Int))] [] sh c := by
      intro i hi hpe hpre hex
      have hsb := strB_in (i := 0) (j := rS w + i) (by decide) (by rw [r_len]; omega)
      refine g_ldcS (q := 71) (i := 0) mbX.keys dX12_keyAt_69 rfl ?_
      refine g_iload_n (q := 72) dX12_keyAt_71 rfl rfl ?_
      refine g_iload_n (q := 73) dX12_keyAt_72 rfl rfl ?_
      refine g_iadd (q := 74) dX12_keyAt_73 rfl ?_
      refine ch dX12_keyAt_74 rfl (by omega) (by omega) (Nat.le_of_ble_eq_true rfl) ?_
      rw [show (((rS w : Nat) : Int) + (i : Int)).toNat = rS w + i by omega]
      refine g_bipush (q := 79) dX12_keyAt_77 (by decide +kernel) rfl ?_
      refine g_icmp_ne (q := 82) (tg := 97) dX12_keyAt_79 (by decide) rfl (fun c_79 => ?_) (fun c_79 => ?_)
      · rw [w32_id (x := strB 0 (rS w + i)) (by omega) (by omega), show w32 32 = 32 from rfl] at c_79
        refine third _ (fun z => ?_)
        have hlt : i < rL w := by
          apply Classical.byContradiction
          intro h
          exact c_79 (by rw [show i = rL w by omega]; exact r3)
        rcases hex with h | h | ⟨-, h⟩
        · omega
        · have := z.1
          omega
        · exact h (z.2 i hlt)
      · rw [w32_id (x := strB 0 (rS w + i)) (by omega) (by omega), show w32 32 = 32 from rfl] at c_79
        have hiL : i = rL w := by
          apply Classical.byContradiction
          intro h
          exact r5 ⟨i, by omega⟩ (by dsimp only; omega) (by dsimp only; omega)
        refine g_aload_n (q := 83) dX12_keyAt_82 rfl rfl ?_
        refine g_getI (q := 86) (kI := 6) fX12_106 (by first | assumption | exact S.at _ rfl) dX12_keyAt_83 rfl rfl ?_
        rw [h6]
        refine g_iload_n (q := 87) dX12_keyAt_86 rfl rfl ?_
        refine g_iadd (q := 88) dX12_keyAt_87 rfl ?_
        refine g_aload_n (q := 89) dX12_keyAt_88 rfl rfl ?_
        refine g_getI (q := 92) (kI := 7) fX12_109 (by first | assumption | exact S.at _ rfl) dX12_keyAt_89 rfl rfl ?_
        rw [h7]
        refine g_icmp_ne (q := 95) (tg := 97) dX12_keyAt_92 (by decide) rfl (fun c_92 => ?_) (fun c_92 => ?_)
        · rw [w32_id (x := p + (i : Int)) (by omega) (by omega), w32_id (x := e) (by omega) (by omega)] at c_92
          exact third _ (fun z => by have := z.1; omega)
        · rw [w32_id (x := p + (i : Int)) (by omega) (by omega), w32_id (x := e) (by omega) (by omega)] at c_92
          refine g_iload_n (q := 96) dX12_keyAt_95 rfl rfl ?_
          refine g_ireturn dX12_keyAt_96 rfl ?_
          rw [← hP]
          exact ⟨_, rfl, Or.inl ⟨w, hw18, ⟨by omega, fun j hj => hpre j (by omega)⟩, rfl⟩, rfl⟩
    refine g_iload_n (q := 5) dX12_keyAt_4 rfl rfl ?_
    refine g_ldcS (q := 7) (i := 0) mbX.keys dX12_keyAt_5 rfl ?_
    refine g_callT (as := []) (q := 10) (by decide) lX12_96 mJ0_length_8abf5 nJ0_length_8abf5 rfl rfl (j_length 0 sh c (i := 0) (by decide)) shLe.rf (rmOk.mk (by omega) shLe.rf) (Nat.le_of_ble_eq_true rfl) dX12_keyAt_7 rfl rfl (kI fun r c2 hp => ?_)
    obtain ⟨rfl, rfl⟩ := hp
    rw [r_len]
    refine g_icmp_ge (q := 13) (tg := 123) dX12_keyAt_10 (by decide) rfl (fun c_10 => ?_) (fun c_10 => ?_)
    · exact absurd c_10 (by rw [w32_id (x := ((rS w : Nat) : Int)) (by omega) (by omega), w32_id (x := ((93 : Nat) : Int)) (by omega) (by omega)]; omega)
    · refine g_iconst (q := 14) dX12_keyAt_13 rfl ?_
      refine s_istore_n_4_3 (q := 15) dX12_keyAt_14 rfl rfl rfl ?_
      refine g_for (fun i => [some (.inr (.inr 92)), some (.inl (w : Int)), some (.inl (rS w : Nat)), some (.inl i)]) (fun i c' => 0 ≤ i ∧ c' = c2 ∧ p + i ≤ e ∧ ∀ j : Nat, (j : Int) < i → c2 95 (p + j) = strB 0 (rS w + j)) (rL w : Nat) ?_ ?_ (i := 0) (by omega) ⟨Int.le_refl _, rfl, by omega, fun j hj => by omega⟩ (by simp [lsSub])
      · rintro i c' hi ⟨i0, rfl, hpe, hpre⟩ kk2
        obtain ⟨i, rfl⟩ : ∃ u : Nat, i = u := ⟨i.toNat, by omega⟩
        have hsb := strB_in (i := 0) (j := rS w + i) (by decide) (by rw [r_len]; omega)
        refine g_ldcS (q := 17) (i := 0) mbX.keys dX12_keyAt_15 rfl ?_
        refine g_iload_n (q := 18) dX12_keyAt_17 rfl rfl ?_
        refine g_iload_n (q := 19) dX12_keyAt_18 rfl rfl ?_
        refine g_iadd (q := 20) dX12_keyAt_19 rfl ?_
        refine ch dX12_keyAt_20 rfl (by omega) (by omega) (Nat.le_of_ble_eq_true rfl) ?_
        rw [show (((rS w : Nat) : Int) + (i : Int)).toNat = rS w + i by omega]
        refine g_bipush (q := 25) dX12_keyAt_23 (by decide +kernel) rfl ?_
        refine g_icmp_eq (q := 28) (tg := 69) dX12_keyAt_25 (by decide) rfl (fun c_25 => ?_) (fun c_25 => ?_)
        · rw [w32_id (x := strB 0 (rS w + i)) (by omega) (by omega), show w32 32 = 32 from rfl] at c_25
          exact absurd c_25 (r5 ⟨i, by omega⟩ (by dsimp only; omega))
        · refine g_aload_n (q := 29) dX12_keyAt_28 rfl rfl ?_
          refine g_getI (q := 32) (kI := 6) fX12_106 (by first | assumption | exact S.at _ rfl) dX12_keyAt_29 rfl rfl ?_
          rw [h6]
          refine g_iload_n (q := 33) dX12_keyAt_32 rfl rfl ?_
          refine g_iadd (q := 34) dX12_keyAt_33 rfl ?_
          refine g_aload_n (q := 35) dX12_keyAt_34 rfl rfl ?_
          refine g_getI (q := 38) (kI := 7) fX12_109 (by first | assumption | exact S.at _ rfl) dX12_keyAt_35 rfl rfl ?_
          rw [h7]
          refine g_icmp_ge (q := 41) (tg := 69) dX12_keyAt_38 (by decide) rfl (fun c_38 => ?_) (fun c_38 => ?_)
          · rw [w32_id (x := p + (i : Int)) (by omega) (by omega), w32_id (x := e) (by omega) (by omega)] at c_38
            exact out i (by omega) hpe (fun j hj => hpre j (by omega)) (Or.inr (Or.inl (by omega)))
          · rw [w32_id (x := p + (i : Int)) (by omega) (by omega), w32_id (x := e) (by omega) (by omega)] at c_38
            have hbi := hb (p + i) (by omega) (by omega)
            refine g_aload_n (q := 42) dX12_keyAt_41 rfl rfl ?_
            refine g_getA (q := 45) (kI := 3) fX12_21 (by first | assumption | exact S.at _ rfl) dX12_keyAt_42 rfl rfl (by first | assumption | exact L.at _ _ rfl | exact LK.at (by assumption) _ _ rfl | ((repeat first | rewrite [wr_na (by decide)] | rewrite [wr_nk (by decide)] | rewrite [wa_na (by decide)]); first | assumption | exact LK.at (by assumption) _ _ rfl) | exact rfl) ?_
            refine g_aload_n (q := 46) dX12_keyAt_45 rfl rfl ?_
            refine g_getI (q := 49) (kI := 6) fX12_106 (by first | assumption | exact S.at _ rfl) dX12_keyAt_46 rfl rfl ?_
            rw [h6]
            refine g_iload_n (q := 50) dX12_keyAt_49 rfl rfl ?_
            refine g_iadd (q := 51) dX12_keyAt_50 rfl ?_
            refine g_iaload (q := 52) (by first | assumption | exact S.at _ rfl) (by omega) (by omega) (by omega) dX12_keyAt_51 rfl ?_
            refine g_ldcS (q := 54) (i := 0) mbX.keys dX12_keyAt_52 rfl ?_
            refine g_iload_n (q := 55) dX12_keyAt_54 rfl rfl ?_
            refine g_iload_n (q := 56) dX12_keyAt_55 rfl rfl ?_
            refine g_iadd (q := 57) dX12_keyAt_56 rfl ?_
            refine ch dX12_keyAt_57 rfl (by omega) (by omega) (Nat.le_of_ble_eq_true rfl) ?_
            rw [show (((rS w : Nat) : Int) + (i : Int)).toNat = rS w + i by omega]
            refine g_icmp_ne (q := 63) (tg := 69) dX12_keyAt_60 (by decide) rfl (fun c_60 => ?_) (fun c_60 => ?_)
            · rw [w32_id (x := c' 95 (p + (i : Int))) (by omega) (by omega), w32_id (x := strB 0 (rS w + i)) (by omega) (by omega)] at c_60
              exact out i (by omega) hpe (fun j hj => hpre j (by omega)) (Or.inr (Or.inr ⟨by omega, c_60⟩))
            · rw [w32_id (x := c' 95 (p + (i : Int))) (by omega) (by omega), w32_id (x := strB 0 (rS w + i)) (by omega) (by omega)] at c_60
              refine s_iinc_4_3 (q := 66) dX12_keyAt_63 rfl rfl rfl ?_
              refine g_goto (q := 15) dX12_keyAt_66 (by decide) ?_
              refine kk2 _ _ (by simp [lsSub]) ⟨by omega, rfl, by omega, fun j hj => ?_⟩
              by_cases h : j = i
              · rw [h]; omega
              · exact hpre j (by omega)
      · rintro c' ⟨i0, rfl, hpe, hpre⟩
        have hsb : strB 0 (rS w + rL w) = 32 := r3
        refine g_ldcS (q := 17) (i := 0) mbX.keys dX12_keyAt_15 rfl ?_
        refine g_iload_n (q := 18) dX12_keyAt_17 rfl rfl ?_
        refine g_iload_n (q := 19) dX12_keyAt_18 rfl rfl ?_
        refine g_iadd (q := 20) dX12_keyAt_19 rfl ?_
        refine ch dX12_keyAt_20 rfl (by omega) (by omega) (Nat.le_of_ble_eq_true rfl) ?_
        rw [show (((rS w : Nat) : Int) + (rL w : Nat)).toNat = rS w + rL w by omega, r3]
        refine g_bipush (q := 25) dX12_keyAt_23 (by decide +kernel) rfl ?_
        refine g_icmp_eq (q := 28) (tg := 69) dX12_keyAt_25 (by decide) rfl (fun c_25 => ?_) (fun c_25 => ?_)
        · exact out (rL w) (Nat.le_refl _) hpe (fun j hj => hpre j (by omega)) (Or.inl rfl)
        · exact absurd rfl c_25
  · rintro c ⟨t0, rfl, hno⟩
    rw [show (rS (18 : Int).toNat : Nat) = 93 from rfl]
    refine g_iload_n (q := 5) dX12_keyAt_4 rfl rfl ?_
    refine g_ldcS (q := 7) (i := 0) mbX.keys dX12_keyAt_5 rfl ?_
    refine g_callT (as := []) (q := 10) (by decide) lX12_96 mJ0_length_8abf5 nJ0_length_8abf5 rfl rfl (j_length 0 sh c (i := 0) (by decide)) shLe.rf (rmOk.mk (by omega) shLe.rf) (Nat.le_of_ble_eq_true rfl) dX12_keyAt_7 rfl rfl (kI fun r c2 hp => ?_)
    obtain ⟨rfl, rfl⟩ := hp
    rw [r_len]
    refine g_icmp_ge (q := 13) (tg := 123) dX12_keyAt_10 (by decide) rfl (fun c_10 => ?_) (fun c_10 => ?_)
    · refine g_bipush (q := 125) dX12_keyAt_123 (by decide +kernel) rfl ?_
      refine g_ireturn dX12_keyAt_125 rfl ?_
      rw [← hP]
      exact ⟨_, rfl, Or.inr ⟨fun t ht => hno t (by omega), rfl⟩, rfl⟩
    · exact absurd c_10 (Int.lt_irrefl _)
end
