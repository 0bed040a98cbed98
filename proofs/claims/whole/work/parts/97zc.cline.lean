/-! the class reads its lines -/
theorem dX6_readText_0 : decode cX6_readText 0 = .ok (.aload_n 0, 1) := by decide +kernel
theorem dX6_readText_1 : decode cX6_readText 1 = .ok (.iconst 0, 1) := by decide +kernel
theorem dX6_readText_2 : decode cX6_readText 2 = .ok (.putfield 30, 3) := by decide +kernel
theorem dX6_readText_5 : decode cX6_readText 5 = .ok (.aload_n 0, 1) := by decide +kernel
theorem dX6_readText_6 : decode cX6_readText 6 = .ok (.iconst (-1), 1) := by decide +kernel
theorem dX6_readText_7 : decode cX6_readText 7 = .ok (.putfield 9, 3) := by decide +kernel
theorem dX6_readText_10 : decode cX6_readText 10 = .ok (.aload_n 0, 1) := by decide +kernel
theorem dX6_readText_11 : decode cX6_readText 11 = .ok (.aload_n 2, 1) := by decide +kernel
theorem dX6_readText_12 : decode cX6_readText 12 = .ok (.putfield 26, 3) := by decide +kernel
theorem dX6_readText_15 : decode cX6_readText 15 = .ok (.aload_n 0, 1) := by decide +kernel
theorem dX6_readText_16 : decode cX6_readText 16 = .ok (.getfield 26, 3) := by decide +kernel
theorem dX6_readText_19 : decode cX6_readText 19 = .ok (.invokevirtual 33, 3) := by decide +kernel
theorem dX6_readText_22 : decode cX6_readText 22 = .ok (.aload_n 0, 1) := by decide +kernel
theorem dX6_readText_23 : decode cX6_readText 23 = .ok (.iload_n 1, 1) := by decide +kernel
theorem dX6_readText_24 : decode cX6_readText 24 = .ok (.aload_n 0, 1) := by decide +kernel
theorem dX6_readText_25 : decode cX6_readText 25 = .ok (.getfield 22, 3) := by decide +kernel
theorem dX6_readText_28 : decode cX6_readText 28 = .ok (.arraylength, 1) := by decide +kernel
theorem dX6_readText_29 : decode cX6_readText 29 = .ok (.invokestatic 38, 3) := by decide +kernel
theorem dX6_readText_32 : decode cX6_readText 32 = .ok (.invokevirtual 44, 3) := by decide +kernel
theorem dX6_readText_35 : decode cX6_readText 35 = .ok (.aload_n 0, 1) := by decide +kernel
theorem dX6_readText_36 : decode cX6_readText 36 = .ok (.iconst 0, 1) := by decide +kernel
theorem dX6_readText_37 : decode cX6_readText 37 = .ok (.putfield 48, 3) := by decide +kernel
theorem dX6_readText_40 : decode cX6_readText 40 = .ok (.aload_n 0, 1) := by decide +kernel
theorem dX6_readText_41 : decode cX6_readText 41 = .ok (.aload_n 0, 1) := by decide +kernel
theorem dX6_readText_42 : decode cX6_readText 42 = .ok (.getfield 15, 3) := by decide +kernel
theorem dX6_readText_45 : decode cX6_readText 45 = .ok (.iconst 0, 1) := by decide +kernel
theorem dX6_readText_46 : decode cX6_readText 46 = .ok (.iaload, 1) := by decide +kernel
theorem dX6_readText_47 : decode cX6_readText 47 = .ok (.putfield 51, 3) := by decide +kernel
theorem dX6_readText_50 : decode cX6_readText 50 = .ok (.aload_n 0, 1) := by decide +kernel
theorem dX6_readText_51 : decode cX6_readText 51 = .ok (.invokevirtual 54, 3) := by decide +kernel
theorem dX6_readText_54 : decode cX6_readText 54 = .ok (.iconst 0, 1) := by decide +kernel
theorem dX6_readText_55 : decode cX6_readText 55 = .ok (.istore_n 3, 1) := by decide +kernel
theorem dX6_readText_56 : decode cX6_readText 56 = .ok (.iload_n 3, 1) := by decide +kernel
theorem dX6_readText_57 : decode cX6_readText 57 = .ok (.aload_n 0, 1) := by decide +kernel
theorem dX6_readText_58 : decode cX6_readText 58 = .ok (.getfield 57, 3) := by decide +kernel
theorem dX6_readText_61 : decode cX6_readText 61 = .ok (.if_icmp .ge 33, 3) := by decide +kernel
theorem dX6_readText_64 : decode cX6_readText 64 = .ok (.aload_n 0, 1) := by decide +kernel
theorem dX6_readText_65 : decode cX6_readText 65 = .ok (.getfield 51, 3) := by decide +kernel
theorem dX6_readText_68 : decode cX6_readText 68 = .ok (.sipush 201, 3) := by decide +kernel
theorem dX6_readText_71 : decode cX6_readText 71 = .ok (.if_icmp .eq 23, 3) := by decide +kernel
theorem dX6_readText_74 : decode cX6_readText 74 = .ok (.aload_n 0, 1) := by decide +kernel
theorem dX6_readText_75 : decode cX6_readText 75 = .ok (.getfield 51, 3) := by decide +kernel
theorem dX6_readText_78 : decode cX6_readText 78 = .ok (.sipush 203, 3) := by decide +kernel
theorem dX6_readText_81 : decode cX6_readText 81 = .ok (.if_icmp .eq 13, 3) := by decide +kernel
theorem dX6_readText_84 : decode cX6_readText 84 = .ok (.aload_n 0, 1) := by decide +kernel
theorem dX6_readText_85 : decode cX6_readText 85 = .ok (.invokevirtual 60, 3) := by decide +kernel
theorem dX6_readText_88 : decode cX6_readText 88 = .ok (.iinc 3 1, 3) := by decide +kernel
theorem dX6_readText_91 : decode cX6_readText 91 = .ok (.goto (-35), 3) := by decide +kernel
theorem dX6_readText_94 : decode cX6_readText 94 = .ok (.return_, 1) := by decide +kernel
theorem dX6_readFirstLine_0 : decode cX6_readFirstLine 0 = .ok (.aload_n 0, 1) := by decide +kernel
theorem dX6_readFirstLine_1 : decode cX6_readFirstLine 1 = .ok (.sipush 128, 3) := by decide +kernel
theorem dX6_readFirstLine_4 : decode cX6_readFirstLine 4 = .ok (.invokevirtual 110, 3) := by decide +kernel
theorem dX6_readFirstLine_7 : decode cX6_readFirstLine 7 = .ok (.aload_n 0, 1) := by decide +kernel
theorem dX6_readFirstLine_8 : decode cX6_readFirstLine 8 = .ok (.sipush 129, 3) := by decide +kernel
theorem dX6_readFirstLine_11 : decode cX6_readFirstLine 11 = .ok (.invokevirtual 110, 3) := by decide +kernel
theorem dX6_readFirstLine_14 : decode cX6_readFirstLine 14 = .ok (.aload_n 0, 1) := by decide +kernel
theorem dX6_readFirstLine_15 : decode cX6_readFirstLine 15 = .ok (.getfield 26, 3) := by decide +kernel
theorem dX6_readFirstLine_18 : decode cX6_readFirstLine 18 = .ok (.aload_n 0, 1) := by decide +kernel
theorem dX6_readFirstLine_19 : decode cX6_readFirstLine 19 = .ok (.bipush 9, 2) := by decide +kernel
theorem dX6_readFirstLine_21 : decode cX6_readFirstLine 21 = .ok (.invokevirtual 113, 3) := by decide +kernel
theorem dX6_readFirstLine_24 : decode cX6_readFirstLine 24 = .ok (.putfield 116, 3) := by decide +kernel
theorem dX6_readFirstLine_27 : decode cX6_readFirstLine 27 = .ok (.aload_n 0, 1) := by decide +kernel
theorem dX6_readFirstLine_28 : decode cX6_readFirstLine 28 = .ok (.sipush 130, 3) := by decide +kernel
theorem dX6_readFirstLine_31 : decode cX6_readFirstLine 31 = .ok (.invokevirtual 110, 3) := by decide +kernel
theorem dX6_readFirstLine_34 : decode cX6_readFirstLine 34 = .ok (.aload_n 0, 1) := by decide +kernel
theorem dX6_readFirstLine_35 : decode cX6_readFirstLine 35 = .ok (.getfield 26, 3) := by decide +kernel
theorem dX6_readFirstLine_38 : decode cX6_readFirstLine 38 = .ok (.aload_n 0, 1) := by decide +kernel
theorem dX6_readFirstLine_39 : decode cX6_readFirstLine 39 = .ok (.bipush 9, 2) := by decide +kernel
theorem dX6_readFirstLine_41 : decode cX6_readFirstLine 41 = .ok (.invokevirtual 113, 3) := by decide +kernel
theorem dX6_readFirstLine_44 : decode cX6_readFirstLine 44 = .ok (.putfield 119, 3) := by decide +kernel
theorem dX6_readFirstLine_47 : decode cX6_readFirstLine 47 = .ok (.aload_n 0, 1) := by decide +kernel
theorem dX6_readFirstLine_48 : decode cX6_readFirstLine 48 = .ok (.invokevirtual 122, 3) := by decide +kernel
theorem dX6_readFirstLine_51 : decode cX6_readFirstLine 51 = .ok (.return_, 1) := by decide +kernel
theorem dX6_readLine_0 : decode cX6_readLine 0 = .ok (.aload_n 0, 1) := by decide +kernel
theorem dX6_readLine_1 : decode cX6_readLine 1 = .ok (.getfield 51, 3) := by decide +kernel
theorem dX6_readLine_4 : decode cX6_readLine 4 = .ok (.tableswitch 162 131 140 #[56, 162, 63, 162, 162, 162, 162, 70, 106, 142], 56) := by decide +kernel
theorem dX6_readLine_60 : decode cX6_readLine 60 = .ok (.aload_n 0, 1) := by decide +kernel
theorem dX6_readLine_61 : decode cX6_readLine 61 = .ok (.invokevirtual 125, 3) := by decide +kernel
theorem dX6_readLine_64 : decode cX6_readLine 64 = .ok (.goto 107, 3) := by decide +kernel
theorem dX6_readLine_67 : decode cX6_readLine 67 = .ok (.aload_n 0, 1) := by decide +kernel
theorem dX6_readLine_68 : decode cX6_readLine 68 = .ok (.invokevirtual 128, 3) := by decide +kernel
theorem dX6_readLine_71 : decode cX6_readLine 71 = .ok (.goto 100, 3) := by decide +kernel
theorem dX6_readLine_74 : decode cX6_readLine 74 = .ok (.aload_n 0, 1) := by decide +kernel
theorem dX6_readLine_75 : decode cX6_readLine 75 = .ok (.getfield 26, 3) := by decide +kernel
theorem dX6_readLine_78 : decode cX6_readLine 78 = .ok (.aload_n 0, 1) := by decide +kernel
theorem dX6_readLine_79 : decode cX6_readLine 79 = .ok (.getfield 26, 3) := by decide +kernel
theorem dX6_readLine_82 : decode cX6_readLine 82 = .ok (.getfield 131, 3) := by decide +kernel
theorem dX6_readLine_85 : decode cX6_readLine 85 = .ok (.putfield 134, 3) := by decide +kernel
theorem dX6_readLine_88 : decode cX6_readLine 88 = .ok (.aload_n 0, 1) := by decide +kernel
theorem dX6_readLine_89 : decode cX6_readLine 89 = .ok (.iconst 1, 1) := by decide +kernel
theorem dX6_readLine_90 : decode cX6_readLine 90 = .ok (.invokevirtual 137, 3) := by decide +kernel
theorem dX6_readLine_93 : decode cX6_readLine 93 = .ok (.aload_n 0, 1) := by decide +kernel
theorem dX6_readLine_94 : decode cX6_readLine 94 = .ok (.getfield 26, 3) := by decide +kernel
theorem dX6_readLine_97 : decode cX6_readLine 97 = .ok (.aload_n 0, 1) := by decide +kernel
theorem dX6_readLine_98 : decode cX6_readLine 98 = .ok (.getfield 26, 3) := by decide +kernel
theorem dX6_readLine_101 : decode cX6_readLine 101 = .ok (.getfield 131, 3) := by decide +kernel
theorem dX6_readLine_104 : decode cX6_readLine 104 = .ok (.putfield 141, 3) := by decide +kernel
theorem dX6_readLine_107 : decode cX6_readLine 107 = .ok (.goto 64, 3) := by decide +kernel
theorem dX6_readLine_110 : decode cX6_readLine 110 = .ok (.aload_n 0, 1) := by decide +kernel
theorem dX6_readLine_111 : decode cX6_readLine 111 = .ok (.getfield 26, 3) := by decide +kernel
theorem dX6_readLine_114 : decode cX6_readLine 114 = .ok (.aload_n 0, 1) := by decide +kernel
theorem dX6_readLine_115 : decode cX6_readLine 115 = .ok (.getfield 26, 3) := by decide +kernel
theorem dX6_readLine_118 : decode cX6_readLine 118 = .ok (.getfield 131, 3) := by decide +kernel
theorem dX6_readLine_121 : decode cX6_readLine 121 = .ok (.putfield 144, 3) := by decide +kernel
theorem dX6_readLine_124 : decode cX6_readLine 124 = .ok (.aload_n 0, 1) := by decide +kernel
theorem dX6_readLine_125 : decode cX6_readLine 125 = .ok (.iconst 0, 1) := by decide +kernel
theorem dX6_readLine_126 : decode cX6_readLine 126 = .ok (.invokevirtual 137, 3) := by decide +kernel
theorem dX6_readLine_129 : decode cX6_readLine 129 = .ok (.aload_n 0, 1) := by decide +kernel
theorem dX6_readLine_130 : decode cX6_readLine 130 = .ok (.getfield 26, 3) := by decide +kernel
theorem dX6_readLine_133 : decode cX6_readLine 133 = .ok (.aload_n 0, 1) := by decide +kernel
theorem dX6_readLine_134 : decode cX6_readLine 134 = .ok (.getfield 26, 3) := by decide +kernel
theorem dX6_readLine_137 : decode cX6_readLine 137 = .ok (.getfield 131, 3) := by decide +kernel
theorem dX6_readLine_140 : decode cX6_readLine 140 = .ok (.putfield 147, 3) := by decide +kernel
theorem dX6_readLine_143 : decode cX6_readLine 143 = .ok (.goto 28, 3) := by decide +kernel
theorem dX6_readLine_146 : decode cX6_readLine 146 = .ok (.aload_n 0, 1) := by decide +kernel
theorem dX6_readLine_147 : decode cX6_readLine 147 = .ok (.invokevirtual 104, 3) := by decide +kernel
theorem dX6_readLine_150 : decode cX6_readLine 150 = .ok (.aload_n 0, 1) := by decide +kernel
theorem dX6_readLine_151 : decode cX6_readLine 151 = .ok (.getfield 26, 3) := by decide +kernel
theorem dX6_readLine_154 : decode cX6_readLine 154 = .ok (.aload_n 0, 1) := by decide +kernel
theorem dX6_readLine_155 : decode cX6_readLine 155 = .ok (.bipush 10, 2) := by decide +kernel
theorem dX6_readLine_157 : decode cX6_readLine 157 = .ok (.invokevirtual 113, 3) := by decide +kernel
theorem dX6_readLine_160 : decode cX6_readLine 160 = .ok (.putfield 150, 3) := by decide +kernel
theorem dX6_readLine_163 : decode cX6_readLine 163 = .ok (.goto 8, 3) := by decide +kernel
theorem dX6_readLine_166 : decode cX6_readLine 166 = .ok (.aload_n 0, 1) := by decide +kernel
theorem dX6_readLine_167 : decode cX6_readLine 167 = .ok (.iconst 2, 1) := by decide +kernel
theorem dX6_readLine_168 : decode cX6_readLine 168 = .ok (.invokevirtual 107, 3) := by decide +kernel
theorem dX6_readLine_171 : decode cX6_readLine 171 = .ok (.aload_n 0, 1) := by decide +kernel
theorem dX6_readLine_172 : decode cX6_readLine 172 = .ok (.invokevirtual 122, 3) := by decide +kernel
theorem dX6_readLine_175 : decode cX6_readLine 175 = .ok (.return_, 1) := by decide +kernel
theorem dX6_endLine_0 : decode cX6_endLine 0 = .ok (.aload_n 0, 1) := by decide +kernel
theorem dX6_endLine_1 : decode cX6_endLine 1 = .ok (.bipush 59, 2) := by decide +kernel
theorem dX6_endLine_3 : decode cX6_endLine 3 = .ok (.invokevirtual 110, 3) := by decide +kernel
theorem dX6_endLine_6 : decode cX6_endLine 6 = .ok (.aload_n 0, 1) := by decide +kernel
theorem dX6_endLine_7 : decode cX6_endLine 7 = .ok (.getfield 26, 3) := by decide +kernel
theorem dX6_endLine_10 : decode cX6_endLine 10 = .ok (.dup, 1) := by decide +kernel
theorem dX6_endLine_11 : decode cX6_endLine 11 = .ok (.getfield 153, 3) := by decide +kernel
theorem dX6_endLine_14 : decode cX6_endLine 14 = .ok (.iconst 1, 1) := by decide +kernel
theorem dX6_endLine_15 : decode cX6_endLine 15 = .ok (.iadd, 1) := by decide +kernel
theorem dX6_endLine_16 : decode cX6_endLine 16 = .ok (.putfield 153, 3) := by decide +kernel
theorem dX6_endLine_19 : decode cX6_endLine 19 = .ok (.return_, 1) := by decide +kernel
theorem dX6_readMember_0 : decode cX6_readMember 0 = .ok (.aload_n 0, 1) := by decide +kernel
theorem dX6_readMember_1 : decode cX6_readMember 1 = .ok (.getfield 26, 3) := by decide +kernel
theorem dX6_readMember_4 : decode cX6_readMember 4 = .ok (.getfield 156, 3) := by decide +kernel
theorem dX6_readMember_7 : decode cX6_readMember 7 = .ok (.istore_n 1, 1) := by decide +kernel
theorem dX6_readMember_8 : decode cX6_readMember 8 = .ok (.iload_n 1, 1) := by decide +kernel
theorem dX6_readMember_9 : decode cX6_readMember 9 = .ok (.bipush 6, 2) := by decide +kernel
theorem dX6_readMember_11 : decode cX6_readMember 11 = .ok (.if_icmp .lt 9, 3) := by decide +kernel
theorem dX6_readMember_14 : decode cX6_readMember 14 = .ok (.aload_n 0, 1) := by decide +kernel
theorem dX6_readMember_15 : decode cX6_readMember 15 = .ok (.iconst 4, 1) := by decide +kernel
theorem dX6_readMember_16 : decode cX6_readMember 16 = .ok (.invokevirtual 107, 3) := by decide +kernel
theorem dX6_readMember_19 : decode cX6_readMember 19 = .ok (.return_, 1) := by decide +kernel
theorem dX6_readMember_20 : decode cX6_readMember 20 = .ok (.aload_n 0, 1) := by decide +kernel
theorem dX6_readMember_21 : decode cX6_readMember 21 = .ok (.getfield 26, 3) := by decide +kernel
theorem dX6_readMember_24 : decode cX6_readMember 24 = .ok (.dup, 1) := by decide +kernel
theorem dX6_readMember_25 : decode cX6_readMember 25 = .ok (.getfield 156, 3) := by decide +kernel
theorem dX6_readMember_28 : decode cX6_readMember 28 = .ok (.iconst 1, 1) := by decide +kernel
theorem dX6_readMember_29 : decode cX6_readMember 29 = .ok (.iadd, 1) := by decide +kernel
theorem dX6_readMember_30 : decode cX6_readMember 30 = .ok (.putfield 156, 3) := by decide +kernel
theorem dX6_readMember_33 : decode cX6_readMember 33 = .ok (.aload_n 0, 1) := by decide +kernel
theorem dX6_readMember_34 : decode cX6_readMember 34 = .ok (.invokevirtual 104, 3) := by decide +kernel
theorem dX6_readMember_37 : decode cX6_readMember 37 = .ok (.iconst 0, 1) := by decide +kernel
theorem dX6_readMember_38 : decode cX6_readMember 38 = .ok (.istore_n 2, 1) := by decide +kernel
theorem dX6_readMember_39 : decode cX6_readMember 39 = .ok (.iload_n 2, 1) := by decide +kernel
theorem dX6_readMember_40 : decode cX6_readMember 40 = .ok (.aload_n 0, 1) := by decide +kernel
theorem dX6_readMember_41 : decode cX6_readMember 41 = .ok (.getfield 57, 3) := by decide +kernel
theorem dX6_readMember_44 : decode cX6_readMember 44 = .ok (.if_icmp .ge 38, 3) := by decide +kernel
theorem dX6_readMember_47 : decode cX6_readMember 47 = .ok (.aload_n 0, 1) := by decide +kernel
theorem dX6_readMember_48 : decode cX6_readMember 48 = .ok (.getfield 51, 3) := by decide +kernel
theorem dX6_readMember_51 : decode cX6_readMember 51 = .ok (.sipush 132, 3) := by decide +kernel
theorem dX6_readMember_54 : decode cX6_readMember 54 = .ok (.if_icmp .ne 28, 3) := by decide +kernel
theorem dX6_readMember_57 : decode cX6_readMember 57 = .ok (.aload_n 0, 1) := by decide +kernel
theorem dX6_readMember_58 : decode cX6_readMember 58 = .ok (.invokevirtual 104, 3) := by decide +kernel
theorem dX6_readMember_61 : decode cX6_readMember 61 = .ok (.aload_n 0, 1) := by decide +kernel
theorem dX6_readMember_62 : decode cX6_readMember 62 = .ok (.getfield 26, 3) := by decide +kernel
theorem dX6_readMember_65 : decode cX6_readMember 65 = .ok (.getfield 159, 3) := by decide +kernel
theorem dX6_readMember_68 : decode cX6_readMember 68 = .ok (.iload_n 1, 1) := by decide +kernel
theorem dX6_readMember_69 : decode cX6_readMember 69 = .ok (.aload_n 0, 1) := by decide +kernel
theorem dX6_readMember_70 : decode cX6_readMember 70 = .ok (.bipush 9, 2) := by decide +kernel
theorem dX6_readMember_72 : decode cX6_readMember 72 = .ok (.invokevirtual 113, 3) := by decide +kernel
theorem dX6_readMember_75 : decode cX6_readMember 75 = .ok (.iastore, 1) := by decide +kernel
theorem dX6_readMember_76 : decode cX6_readMember 76 = .ok (.iinc 2 1, 3) := by decide +kernel
theorem dX6_readMember_79 : decode cX6_readMember 79 = .ok (.goto (-40), 3) := by decide +kernel
theorem dX6_readMember_82 : decode cX6_readMember 82 = .ok (.return_, 1) := by decide +kernel
theorem dX6_readSaying_0 : decode cX6_readSaying 0 = .ok (.aload_n 0, 1) := by decide +kernel
theorem dX6_readSaying_1 : decode cX6_readSaying 1 = .ok (.getfield 26, 3) := by decide +kernel
theorem dX6_readSaying_4 : decode cX6_readSaying 4 = .ok (.getfield 162, 3) := by decide +kernel
theorem dX6_readSaying_7 : decode cX6_readSaying 7 = .ok (.istore_n 1, 1) := by decide +kernel
theorem dX6_readSaying_8 : decode cX6_readSaying 8 = .ok (.iload_n 1, 1) := by decide +kernel
theorem dX6_readSaying_9 : decode cX6_readSaying 9 = .ok (.bipush 8, 2) := by decide +kernel
theorem dX6_readSaying_11 : decode cX6_readSaying 11 = .ok (.if_icmp .lt 9, 3) := by decide +kernel
theorem dX6_readSaying_14 : decode cX6_readSaying 14 = .ok (.aload_n 0, 1) := by decide +kernel
theorem dX6_readSaying_15 : decode cX6_readSaying 15 = .ok (.iconst 4, 1) := by decide +kernel
theorem dX6_readSaying_16 : decode cX6_readSaying 16 = .ok (.invokevirtual 107, 3) := by decide +kernel
theorem dX6_readSaying_19 : decode cX6_readSaying 19 = .ok (.return_, 1) := by decide +kernel
theorem dX6_readSaying_20 : decode cX6_readSaying 20 = .ok (.aload_n 0, 1) := by decide +kernel
theorem dX6_readSaying_21 : decode cX6_readSaying 21 = .ok (.getfield 26, 3) := by decide +kernel
theorem dX6_readSaying_24 : decode cX6_readSaying 24 = .ok (.dup, 1) := by decide +kernel
theorem dX6_readSaying_25 : decode cX6_readSaying 25 = .ok (.getfield 162, 3) := by decide +kernel
theorem dX6_readSaying_28 : decode cX6_readSaying 28 = .ok (.iconst 1, 1) := by decide +kernel
theorem dX6_readSaying_29 : decode cX6_readSaying 29 = .ok (.iadd, 1) := by decide +kernel
theorem dX6_readSaying_30 : decode cX6_readSaying 30 = .ok (.putfield 162, 3) := by decide +kernel
theorem dX6_readSaying_33 : decode cX6_readSaying 33 = .ok (.aload_n 0, 1) := by decide +kernel
theorem dX6_readSaying_34 : decode cX6_readSaying 34 = .ok (.invokevirtual 104, 3) := by decide +kernel
theorem dX6_readSaying_37 : decode cX6_readSaying 37 = .ok (.iconst 0, 1) := by decide +kernel
theorem dX6_readSaying_38 : decode cX6_readSaying 38 = .ok (.istore_n 2, 1) := by decide +kernel
theorem dX6_readSaying_39 : decode cX6_readSaying 39 = .ok (.iload_n 2, 1) := by decide +kernel
theorem dX6_readSaying_40 : decode cX6_readSaying 40 = .ok (.aload_n 0, 1) := by decide +kernel
theorem dX6_readSaying_41 : decode cX6_readSaying 41 = .ok (.getfield 57, 3) := by decide +kernel
theorem dX6_readSaying_44 : decode cX6_readSaying 44 = .ok (.if_icmp .ge 111, 3) := by decide +kernel
theorem dX6_readSaying_47 : decode cX6_readSaying 47 = .ok (.aload_n 0, 1) := by decide +kernel
theorem dX6_readSaying_48 : decode cX6_readSaying 48 = .ok (.getfield 51, 3) := by decide +kernel
theorem dX6_readSaying_51 : decode cX6_readSaying 51 = .ok (.sipush 134, 3) := by decide +kernel
theorem dX6_readSaying_54 : decode cX6_readSaying 54 = .ok (.if_icmp .lt 101, 3) := by decide +kernel
theorem dX6_readSaying_57 : decode cX6_readSaying 57 = .ok (.aload_n 0, 1) := by decide +kernel
theorem dX6_readSaying_58 : decode cX6_readSaying 58 = .ok (.getfield 51, 3) := by decide +kernel
theorem dX6_readSaying_61 : decode cX6_readSaying 61 = .ok (.sipush 137, 3) := by decide +kernel
theorem dX6_readSaying_64 : decode cX6_readSaying 64 = .ok (.if_icmp .gt 91, 3) := by decide +kernel
theorem dX6_readSaying_67 : decode cX6_readSaying 67 = .ok (.aload_n 0, 1) := by decide +kernel
theorem dX6_readSaying_68 : decode cX6_readSaying 68 = .ok (.getfield 51, 3) := by decide +kernel
theorem dX6_readSaying_71 : decode cX6_readSaying 71 = .ok (.istore_n 3, 1) := by decide +kernel
theorem dX6_readSaying_72 : decode cX6_readSaying 72 = .ok (.aload_n 0, 1) := by decide +kernel
theorem dX6_readSaying_73 : decode cX6_readSaying 73 = .ok (.invokevirtual 104, 3) := by decide +kernel
theorem dX6_readSaying_76 : decode cX6_readSaying 76 = .ok (.aload_n 0, 1) := by decide +kernel
theorem dX6_readSaying_77 : decode cX6_readSaying 77 = .ok (.bipush 9, 2) := by decide +kernel
theorem dX6_readSaying_79 : decode cX6_readSaying 79 = .ok (.invokevirtual 113, 3) := by decide +kernel
theorem dX6_readSaying_82 : decode cX6_readSaying 82 = .ok (.istore 4, 2) := by decide +kernel
theorem dX6_readSaying_84 : decode cX6_readSaying 84 = .ok (.iload_n 3, 1) := by decide +kernel
theorem dX6_readSaying_85 : decode cX6_readSaying 85 = .ok (.sipush 134, 3) := by decide +kernel
theorem dX6_readSaying_88 : decode cX6_readSaying 88 = .ok (.if_icmp .eq 10, 3) := by decide +kernel
theorem dX6_readSaying_91 : decode cX6_readSaying 91 = .ok (.iload_n 3, 1) := by decide +kernel
theorem dX6_readSaying_92 : decode cX6_readSaying 92 = .ok (.sipush 135, 3) := by decide +kernel
theorem dX6_readSaying_95 : decode cX6_readSaying 95 = .ok (.if_icmp .ne 30, 3) := by decide +kernel
theorem dX6_readSaying_98 : decode cX6_readSaying 98 = .ok (.aload_n 0, 1) := by decide +kernel
theorem dX6_readSaying_99 : decode cX6_readSaying 99 = .ok (.getfield 26, 3) := by decide +kernel
theorem dX6_readSaying_102 : decode cX6_readSaying 102 = .ok (.getfield 165, 3) := by decide +kernel
theorem dX6_readSaying_105 : decode cX6_readSaying 105 = .ok (.iload_n 1, 1) := by decide +kernel
theorem dX6_readSaying_106 : decode cX6_readSaying 106 = .ok (.iload_n 3, 1) := by decide +kernel
theorem dX6_readSaying_107 : decode cX6_readSaying 107 = .ok (.sipush 134, 3) := by decide +kernel
theorem dX6_readSaying_110 : decode cX6_readSaying 110 = .ok (.if_icmp .ne 8, 3) := by decide +kernel
theorem dX6_readSaying_113 : decode cX6_readSaying 113 = .ok (.iload 4, 2) := by decide +kernel
theorem dX6_readSaying_115 : decode cX6_readSaying 115 = .ok (.goto 6, 3) := by decide +kernel
theorem dX6_readSaying_118 : decode cX6_readSaying 118 = .ok (.iload 4, 2) := by decide +kernel
theorem dX6_readSaying_120 : decode cX6_readSaying 120 = .ok (.ineg, 1) := by decide +kernel
theorem dX6_readSaying_121 : decode cX6_readSaying 121 = .ok (.iastore, 1) := by decide +kernel
theorem dX6_readSaying_122 : decode cX6_readSaying 122 = .ok (.goto 27, 3) := by decide +kernel
theorem dX6_readSaying_125 : decode cX6_readSaying 125 = .ok (.aload_n 0, 1) := by decide +kernel
theorem dX6_readSaying_126 : decode cX6_readSaying 126 = .ok (.getfield 26, 3) := by decide +kernel
theorem dX6_readSaying_129 : decode cX6_readSaying 129 = .ok (.getfield 168, 3) := by decide +kernel
theorem dX6_readSaying_132 : decode cX6_readSaying 132 = .ok (.iload_n 1, 1) := by decide +kernel
theorem dX6_readSaying_133 : decode cX6_readSaying 133 = .ok (.iload_n 3, 1) := by decide +kernel
theorem dX6_readSaying_134 : decode cX6_readSaying 134 = .ok (.sipush 136, 3) := by decide +kernel
theorem dX6_readSaying_137 : decode cX6_readSaying 137 = .ok (.if_icmp .ne 8, 3) := by decide +kernel
theorem dX6_readSaying_140 : decode cX6_readSaying 140 = .ok (.iload 4, 2) := by decide +kernel
theorem dX6_readSaying_142 : decode cX6_readSaying 142 = .ok (.goto 6, 3) := by decide +kernel
theorem dX6_readSaying_145 : decode cX6_readSaying 145 = .ok (.iload 4, 2) := by decide +kernel
theorem dX6_readSaying_147 : decode cX6_readSaying 147 = .ok (.ineg, 1) := by decide +kernel
theorem dX6_readSaying_148 : decode cX6_readSaying 148 = .ok (.iastore, 1) := by decide +kernel
theorem dX6_readSaying_149 : decode cX6_readSaying 149 = .ok (.iinc 2 1, 3) := by decide +kernel
theorem dX6_readSaying_152 : decode cX6_readSaying 152 = .ok (.goto (-113), 3) := by decide +kernel
theorem dX6_readSaying_155 : decode cX6_readSaying 155 = .ok (.return_, 1) := by decide +kernel
theorem dX6_readLaw_0 : decode cX6_readLaw 0 = .ok (.aload_n 0, 1) := by decide +kernel
theorem dX6_readLaw_1 : decode cX6_readLaw 1 = .ok (.iload_n 1, 1) := by decide +kernel
theorem dX6_readLaw_2 : decode cX6_readLaw 2 = .ok (.putfield 171, 3) := by decide +kernel
theorem dX6_readLaw_5 : decode cX6_readLaw 5 = .ok (.aload_n 0, 1) := by decide +kernel
theorem dX6_readLaw_6 : decode cX6_readLaw 6 = .ok (.invokevirtual 104, 3) := by decide +kernel
theorem dX6_readLaw_9 : decode cX6_readLaw 9 = .ok (.aload_n 0, 1) := by decide +kernel
theorem dX6_readLaw_10 : decode cX6_readLaw 10 = .ok (.bipush 58, 2) := by decide +kernel
theorem dX6_readLaw_12 : decode cX6_readLaw 12 = .ok (.invokevirtual 110, 3) := by decide +kernel
theorem dX6_readLaw_15 : decode cX6_readLaw 15 = .ok (.aload_n 0, 1) := by decide +kernel
theorem dX6_readLaw_16 : decode cX6_readLaw 16 = .ok (.iconst 0, 1) := by decide +kernel
theorem dX6_readLaw_17 : decode cX6_readLaw 17 = .ok (.invokevirtual 175, 3) := by decide +kernel
theorem dX6_readLaw_20 : decode cX6_readLaw 20 = .ok (.return_, 1) := by decide +kernel
def bkM (ct : mbCt) (b : Int) (β : BS) : Prop := (∀ k, 0 ≤ k → k ≤ 10 → k ≠ 6 → ct b k = β.1 k) ∧ (∀ m, 0 ≤ m → m < 6 → ct (b + 1) m = β.2.1 m) ∧ (∀ s, 0 ≤ s → s < 8 → ct (b + 2) s = β.2.2.1 s ∧ ct (b + 3) s = β.2.2.2 s)
def rbF (b : Int) (ct c : mbCt) : Prop := (∀ k, k ≠ 0 → k ≠ 1 → k ≠ 6 → k ≠ 7 → k ≠ 8 → c 64 k = ct 64 k) ∧ (∀ k, (k < 0 ∨ 10 < k) → c b k = ct b k) ∧ eqBut [64, b, b + 1, b + 2, b + 3, b + 4] ct c
theorem rbF.rf {b : Int} {ct : mbCt} : rbF b ct ct := ⟨fun _ _ _ _ _ _ => rfl, fun _ _ => rfl, eqBut.rf⟩
theorem rbF.tr {b : Int} {x y z : mbCt} (h : rbF b x y) (h2 : rbF b y z) : rbF b x z := ⟨fun k a b c d e => (h2.1 k a b c d e).trans (h.1 k a b c d e), fun k a => (h2.2.1 k a).trans (h.2.1 k a), h.2.2.tr h2.2.2⟩
theorem rdF.rb {b : Int} {ct c : mbCt} (f : rdF b ct c) : rbF b ct c := ⟨fun k a b c d _ => f.1 k a b c d, fun k h => f.2.1 k (by omega), f.2.2.mono (by simp)⟩
theorem rbF.L {b : Int} {ct c : mbCt} (hb : b = 2 ∨ b = 7) (L : LK ct) (f : rbF b ct c) : LK c := by
  have hb4 : bk4 b := hb.elim (fun h => Or.inl h) (fun h => Or.inr (Or.inl h))
  intro x k v hv
  by_cases hx : x = 64
  · subst hx
    by_cases h0 : k = 0
    · subst h0; cases hv
    · by_cases h1 : k = 1
      · subst h1; cases hv
      · by_cases h6 : k = 6
        · subst h6; cases hv
        · by_cases h7 : k = 7
          · subst h7; cases hv
          · by_cases h8 : k = 8
            · subst h8; cases hv
            · rw [f.1 k h0 h1 h6 h7 h8]; exact L _ _ _ hv
  · by_cases hxb : x = b
    · subst hxb
      by_cases h6 : k < 0 ∨ 10 < k
      · rw [f.2.1 k h6]; exact L _ _ _ hv
      · rw [lk_bk hb4 (by omega) (by omega)] at hv
        cases hv
    · by_cases hx4 : x = b + 1 ∨ x = b + 2 ∨ x = b + 3 ∨ x = b + 4
      · have : lkF x k = none := by
          rcases hx4 with rfl | rfl | rfl | rfl
          · exact lk_bkR hb4 (Or.inl rfl) k
          · exact lk_bkR hb4 (Or.inr (Or.inl rfl)) k
          · exact lk_bkR hb4 (Or.inr (Or.inr (Or.inl rfl))) k
          · exact lk_bkR hb4 (Or.inr (Or.inr (Or.inr rfl))) k
        rw [this] at hv
        cases hv
      · rw [f.2.2 x (by simp; omega)]
        exact L _ _ _ hv
section
variable {ct c : mbCt} {b T : Int} {K Pl : Int → Int} {σ τ : PS}
theorem RD.keep (D : RD ct b T K Pl σ) (f : rbF b ct c) (e64 : ∀ k, k ≠ 8 → c 64 k = ct 64 k) (e6 : c b 6 = ct b 6) (e4 : c (b + 4) = ct (b + 4)) : RD c b T K Pl σ := by
  obtain ⟨⟨L, hb, h9, h5, hT, hK, hE⟩, g2, g3, g4, ⟨g5, g5'⟩, g6, g7⟩ := D
  have e65 : c 65 = ct 65 := f.2.2 65 (by simp; omega)
  have e66 : c 66 = ct 66 := f.2.2 66 (by simp; omega)
  refine ⟨⟨f.L hb L, hb, by rw [e64 9 (by decide)]; exact h9, by rw [e64 5 (by decide)]; exact h5, hT, by rw [e65, e66]; exact hK, hE⟩, by rw [e64 6 (by decide)]; exact g2, by rw [e64 7 (by decide)]; exact g3, by rw [e64 0 (by decide), e64 1 (by decide)]; exact g4, ⟨by rw [e6]; exact g5, by unfold shR; rw [e4]; exact g5'⟩, g6, fun hw => by rw [e6, e4]; exact g7 hw⟩
def RB (ct : mbCt) (b T : Int) (K Pl : Int → Int) (a : PS × BS) : Prop := RD ct b T K Pl a.1 ∧ (a.1.2.1 = 0 → bkM ct b a.2)
theorem bkM.fr {β : BS} (hb : b = 2 ∨ b = 7) (h : bkM ct b β) (f : rdF b ct c) : bkM c b β := by
  have e1 : c (b + 1) = ct (b + 1) := f.2.2 _ (by simp; omega)
  have e2 : c (b + 2) = ct (b + 2) := f.2.2 _ (by simp; omega)
  have e3 : c (b + 3) = ct (b + 3) := f.2.2 _ (by simp; omega)
  exact ⟨fun k a b' n => by rw [f.2.1 k n]; exact h.1 k a b' n, by rw [e1]; exact h.2.1, by rw [e2, e3]; exact h.2.2⟩
theorem RB.st {β : BS} (h : RB ct b T K Pl (σ, β)) (D : RD c b T K Pl τ) (f : rdF b ct c) (hw : τ.2.1 = 0 → σ.2.1 = 0) : RB c b T K Pl (τ, β) := ⟨D, fun z => (h.2 (hw z)).fr D.1.2.1 f⟩
theorem RB.wn {n : Int → Int} {β : (Int → Int) × (Int → Int) × (Int → Int)} {k v v2 : Int} (h : RB ct b T K Pl (σ, n, β)) (k0 : 0 ≤ k) (k1 : k ≤ 10) (k6 : k ≠ 6) (hv : σ.2.1 = 0 → v = v2) : RB (wr ct b k v) b T K Pl (σ, upP n k v2, β) ∧ rbF b ct (wr ct b k v) := by
  have hb := h.1.1.2.1
  have f : rbF b ct (wr ct b k v) := ⟨fun j _ _ _ _ _ => wr_na (by omega), fun j hj => wr_nk (by omega), eqBut.rf.wr (by simp)⟩
  refine ⟨⟨h.1.keep f (fun j _ => wr_na (by omega)) (wr_nk (by omega)) (by funext j; exact wr_na (by omega)), fun z => ?_⟩, f⟩
  obtain ⟨h1, h2, h3⟩ := h.2 z
  refine ⟨fun j j0 j1 j6 => ?_, fun m m0 m1 => by rw [wr_na (by omega)]; exact h2 m m0 m1, fun s s0 s1 => by rw [wr_na (by omega), wr_na (by omega)]; exact h3 s s0 s1⟩
  dsimp only
  by_cases hj : j = k
  · rw [hj, wr_eq, upP_eq]; exact hv z
  · rw [wr_nk hj, upP_ne hj]; exact h1 j j0 j1 j6
end
section
variable (d : Nat) (sh : mbSh) (ct : mbCt) {b T : Int} {K Pl : Int → Int} {a : PS × BS} {σ : PS}
theorem r_endLine (S : SH sh) (R : RB ct b T K Pl a) (hg : gd T a.1) : Mt YX6_endLine (d + 2) [.inr (.inr 64)] sh sh ct (pN fun c => RB c b T K Pl (lnEnd T K Pl a) ∧ rbF b ct c) := by
  have D := R.1
  refine Mt.of rfl (Nat.le_of_ble_eq_true rfl) ?_
  show G _ 0 [some (.inr (.inr 64))] [] sh ct
  refine g_aload_n (q := 1) dX6_endLine_0 rfl rfl ?_
  refine g_bipush (q := 3) dX6_endLine_1 (by decide +kernel) rfl ?_
  refine g_callV (q := 6) lX6_110 mX6_take nX6_take rfl (r_take 0 sh _ S D (x := 59) (by decide)) (by first | assumption | exact S.at _ rfl) rfl rfl shLe.rf (rmOk.mk (by omega) (by first | exact shLe.rf | assumption)) (Nat.le_of_ble_eq_true rfl) dX6_endLine_3 rfl rfl (kN fun c1 hp => ?_)
  obtain ⟨D1, f1⟩ := hp
  have L := D1.L
  have hin := D1.into
  obtain ⟨s0, s1, s2, s3, s4, l1, l2, l3, l4⟩ := bkAt_b S L D1.1.2.1
  have R1 := RB.st (β := a.2) R D1 f1 (takeNC hg).w
  obtain ⟨R2, f2⟩ := RB.wn (n := a.2.1) (β := a.2.2) (k := 5) (v := c1 b 5 + 1) (v2 := a.2.1 5 + 1) R1 (by decide) (by decide) (by decide) (fun z => by rw [(R1.2 z).1 5 (by decide) (by decide) (by decide)])
  refine g_aload_n (q := 7) dX6_endLine_6 rfl rfl ?_
  refine g_getO (q := 10) (kI := 9) fX6_26 (by first | assumption | exact S.at _ rfl) dX6_endLine_7 rfl rfl hin ?_
  refine g_dup (q := 11) dX6_endLine_10 rfl rfl ?_
  refine g_getI (q := 14) (kI := 5) fX6_153 (by first | assumption | exact S.at _ rfl) dX6_endLine_11 rfl rfl ?_
  refine g_iconst (q := 15) dX6_endLine_14 rfl ?_
  refine g_iadd (q := 16) dX6_endLine_15 rfl ?_
  refine g_putI (q := 19) (kI := 5) fX6_153 (by first | assumption | exact S.at _ rfl) dX6_endLine_16 rfl rfl ?_
  refine g_return dX6_endLine_19 rfl ?_
  exact ⟨rfl, R2, f1.rb.tr f2⟩
theorem r_readFirstLine (S : SH sh) (hk : kd T K) (R : RB ct b T K Pl ((0, 0, 0, []), (fun _ => 0), (fun _ => 0), (fun _ => 0), (fun _ => 0))) : Mt YX6_readFirstLine (d + 3) [.inr (.inr 64)] sh sh ct (pN fun c => RB c b T K Pl (firstP T K Pl) ∧ rbF b ct c) := by
  have g0 := gd0 hk
  refine Mt.of rfl (Nat.le_of_ble_eq_true rfl) ?_
  show G _ 0 [some (.inr (.inr 64))] [] sh ct
  refine g_aload_n (q := 1) dX6_readFirstLine_0 rfl rfl ?_
  refine g_sipush (q := 4) dX6_readFirstLine_1 (by decide +kernel) rfl ?_
  refine g_callV (q := 7) lX6_110 mX6_take nX6_take rfl (r_take 0 sh _ S R.1 (x := 128) (by decide)) (by first | assumption | exact S.at _ rfl) rfl rfl shLe.rf (rmOk.mk (by omega) (by first | exact shLe.rf | assumption)) (Nat.le_of_ble_eq_true rfl) dX6_readFirstLine_4 rfl rfl (kN fun c1 hp => ?_)
  obtain ⟨D1, f1⟩ := hp
  have n1 := takeNC (K := K) (Pl := Pl) (x := 128) g0
  have R1 := RB.st R D1 f1 n1.w
  refine g_aload_n (q := 8) dX6_readFirstLine_7 rfl rfl ?_
  refine g_sipush (q := 11) dX6_readFirstLine_8 (by decide +kernel) rfl ?_
  refine g_callV (q := 14) lX6_110 mX6_take nX6_take rfl (r_take 0 sh _ S D1 (x := 129) (by decide)) (by first | assumption | exact S.at _ rfl) rfl rfl shLe.rf (rmOk.mk (by omega) (by first | exact shLe.rf | assumption)) (Nat.le_of_ble_eq_true rfl) dX6_readFirstLine_11 rfl rfl (kN fun c2 hp => ?_)
  obtain ⟨D2, f2⟩ := hp
  have n2 := takeNC (K := K) (Pl := Pl) (x := 129) n1.1
  have R2 := RB.st R1 D2 f2 n2.w
  have hin2 := D2.into
  have L2 := D2.L
  refine g_aload_n (q := 15) dX6_readFirstLine_14 rfl rfl ?_
  refine g_getO (q := 18) (kI := 9) fX6_26 (by first | assumption | exact S.at _ rfl) dX6_readFirstLine_15 rfl rfl hin2 ?_
  refine g_aload_n (q := 19) dX6_readFirstLine_18 rfl rfl ?_
  refine g_bipush (q := 21) dX6_readFirstLine_19 (by decide +kernel) rfl ?_
  refine g_callV (q := 24) lX6_113 mX6_takeNumber nX6_takeNumber rfl (r_takeNumber 0 sh _ S D2 (most := 9) (by decide)) (by first | assumption | exact S.at _ rfl) rfl rfl shLe.rf (rmOk.mk (by omega) (by first | exact shLe.rf | assumption)) (Nat.le_of_ble_eq_true rfl) dX6_readFirstLine_21 rfl rfl (kI fun v c3 hp => ?_)
  obtain ⟨hv, D3, f3⟩ := hp
  have n3 := (numNC (K := K) (Pl := Pl) (most := 9) n2.1).1
  have R3 := RB.st R2 D3 f3 n3.w
  obtain ⟨s0, s1, s2, s3, s4, l1, l2, l3, l4⟩ := bkAt_b S D3.L D3.1.2.1
  obtain ⟨R4, f4⟩ := RB.wn (k := 0) (v := v) (v2 := (tonP T K Pl).1) R3 (by decide) (by decide) (by decide) (fun _ => hv)
  refine g_putI (q := 27) (kI := 0) fX6_116 (by first | assumption | exact S.at _ rfl) dX6_readFirstLine_24 rfl rfl ?_
  refine g_aload_n (q := 28) dX6_readFirstLine_27 rfl rfl ?_
  refine g_sipush (q := 31) dX6_readFirstLine_28 (by decide +kernel) rfl ?_
  generalize wr c3 b 0 v = c4 at R4 f4
  have D4 := R4.1
  refine g_callV (q := 34) lX6_110 mX6_take nX6_take rfl (r_take 0 sh _ S D4 (x := 130) (by decide)) (by first | assumption | exact S.at _ rfl) rfl rfl shLe.rf (rmOk.mk (by omega) (by first | exact shLe.rf | assumption)) (Nat.le_of_ble_eq_true rfl) dX6_readFirstLine_31 rfl rfl (kN fun c5 hp => ?_)
  obtain ⟨D5, f5⟩ := hp
  have n5 := takeNC (K := K) (Pl := Pl) (x := 130) n3.1
  have R5 := RB.st R4 D5 f5 n5.w
  have hin5 := D5.into
  have L5 := D5.L
  refine g_aload_n (q := 35) dX6_readFirstLine_34 rfl rfl ?_
  refine g_getO (q := 38) (kI := 9) fX6_26 (by first | assumption | exact S.at _ rfl) dX6_readFirstLine_35 rfl rfl hin5 ?_
  refine g_aload_n (q := 39) dX6_readFirstLine_38 rfl rfl ?_
  refine g_bipush (q := 41) dX6_readFirstLine_39 (by decide +kernel) rfl ?_
  refine g_callV (q := 44) lX6_113 mX6_takeNumber nX6_takeNumber rfl (r_takeNumber 0 sh _ S D5 (most := 9) (by decide)) (by first | assumption | exact S.at _ rfl) rfl rfl shLe.rf (rmOk.mk (by omega) (by first | exact shLe.rf | assumption)) (Nat.le_of_ble_eq_true rfl) dX6_readFirstLine_41 rfl rfl (kI fun v c6 hp => ?_)
  obtain ⟨hv, D6, f6⟩ := hp
  have n6 := (numNC (K := K) (Pl := Pl) (most := 9) n5.1).1
  have R6 := RB.st R5 D6 f6 n6.w
  obtain ⟨R7, f7⟩ := RB.wn (k := 1) (v := v) (v2 := (heaP T K Pl).1) R6 (by decide) (by decide) (by decide) (fun _ => hv)
  refine g_putI (q := 47) (kI := 1) fX6_119 (by first | assumption | exact S.at _ rfl) dX6_readFirstLine_44 rfl rfl ?_
  refine g_aload_n (q := 48) dX6_readFirstLine_47 rfl rfl ?_
  generalize wr c6 b 1 v = c7 at R7 f7
  have D7 := R7.1
  refine g_callV (q := 51) lX6_122 mX6_endLine nX6_endLine rfl (r_endLine 0 sh _ S R7 n6.1) (by first | assumption | exact S.at _ rfl) rfl rfl shLe.rf (rmOk.mk (by omega) (by first | exact shLe.rf | assumption)) (Nat.le_of_ble_eq_true rfl) dX6_readFirstLine_48 rfl rfl (kN fun c8 hp => ?_)
  refine g_return dX6_readFirstLine_51 rfl ?_
  exact ⟨rfl, hp.1, (((((((f1.rb.tr f2.rb).tr f3.rb).tr f4).tr f5.rb).tr f6.rb).tr f7).tr hp.2)⟩
theorem r_readLaw {om : Bool} {v : Int} (S : SH sh) (hv : v = b01 (om = true)) (hb : ∀ i, 0 ≤ i → i < T → K i < 2000) (D : RD ct b T K Pl σ) (hg : gd T σ) : Mt YX6_readLaw (d + 26) [.inr (.inr 64), .inl v] sh sh ct (pN fun c => RD c b T K Pl (lawP T K Pl om σ) ∧ (∀ k, k ≠ 6 → c b k = ct b k) ∧ c (b + 1) = ct (b + 1) ∧ c (b + 2) = ct (b + 2) ∧ c (b + 3) = ct (b + 3) ∧ rbF b ct c) := by
  have hbb := D.1.2.1
  have hv01 : v = 0 ∨ v = 1 := by rw [hv]; exact b01_in _
  have f0 : rbF b ct (wr ct 64 8 v) := ⟨fun j _ _ _ _ h8 => wr_nk h8, fun j hj => wr_na (by omega), eqBut.rf.wr (by simp)⟩
  have D0 : RD (wr ct 64 8 v) b T K Pl σ := D.keep f0 (fun k h => wr_nk h) (wr_na (by omega)) (by funext j; exact wr_na (by omega))
  have o0 : wr ct 64 8 v 64 8 = b01 (om = true) := by rw [wr_eq]; exact hv
  have eb : ∀ x, x ≠ 64 → wr ct 64 8 v x = ct x := fun x hx => by funext j; exact wr_na hx
  refine Mt.of rfl (Nat.le_of_ble_eq_true rfl) ?_
  show G _ 0 [some (.inr (.inr 64)), some (.inl v)] [] sh ct
  refine g_aload_n (q := 1) dX6_readLaw_0 rfl rfl ?_
  refine g_iload_n (q := 2) dX6_readLaw_1 rfl rfl ?_
  refine g_putZ (q := 5) (kI := 8) fX6_171 (by first | assumption | exact S.at _ rfl) (by first | exact Or.inl rfl | exact Or.inr rfl | assumption) dX6_readLaw_2 rfl rfl ?_
  refine g_aload_n (q := 6) dX6_readLaw_5 rfl rfl ?_
  generalize wr ct 64 8 v = c0 at f0 D0 o0 eb
  refine g_callV (q := 9) lX6_104 mX6_step nX6_step rfl (r_step 0 sh _ S D0) (by first | assumption | exact S.at _ rfl) rfl rfl shLe.rf (rmOk.mk (by omega) (by first | exact shLe.rf | assumption)) (Nat.le_of_ble_eq_true rfl) dX6_readLaw_6 rfl rfl (kN fun c1 hp => ?_)
  obtain ⟨D1, f1⟩ := hp
  have n1 := stepNC hg
  refine g_aload_n (q := 10) dX6_readLaw_9 rfl rfl ?_
  refine g_bipush (q := 12) dX6_readLaw_10 (by decide +kernel) rfl ?_
  refine g_callV (q := 15) lX6_110 mX6_take nX6_take rfl (r_take 0 sh _ S D1 (x := 58) (by decide)) (by first | assumption | exact S.at _ rfl) rfl rfl shLe.rf (rmOk.mk (by omega) (by first | exact shLe.rf | assumption)) (Nat.le_of_ble_eq_true rfl) dX6_readLaw_12 rfl rfl (kN fun c2 hp => ?_)
  obtain ⟨D2, f2⟩ := hp
  have n2 := takeNC (K := K) (Pl := Pl) (x := 58) n1.1
  refine g_aload_n (q := 16) dX6_readLaw_15 rfl rfl ?_
  refine g_iconst (q := 17) dX6_readLaw_16 rfl ?_
  refine g_callV (q := 20) lX6_175 mX6_readTruth nX6_readTruth rfl (r_truth d sh (r := 6) S (by decide) D2.kd hb _ _ D2 n2.1 ((f1.tr f2).ofm o0)) (by first | assumption | exact S.at _ rfl) rfl rfl shLe.rf (rmOk.mk (by omega) (by first | exact shLe.rf | assumption)) (Nat.le_of_ble_eq_true rfl) dX6_readLaw_17 rfl rfl (kN fun c3 hp => ?_)
  obtain ⟨D3, f3⟩ := hp
  have f4 := (f1.tr f2).tr f3
  refine g_return dX6_readLaw_20 rfl ?_
  refine ⟨rfl, D3, fun k hk => ?_, ?_, ?_, ?_, f0.tr f4.rb⟩
  · rw [f4.2.1 k hk, eb b (by omega)]
  · rw [f4.2.2 (b + 1) (by simp; omega), eb _ (by omega)]
  · rw [f4.2.2 (b + 2) (by simp; omega), eb _ (by omega)]
  · rw [f4.2.2 (b + 3) (by simp; omega), eb _ (by omega)]
theorem r_readMember (S : SH sh) (R : RB ct b T K Pl a) (hI : bkRi T a) (ht : tkP K a.1 = 131) : Mt YX6_readMember (d + 2) [.inr (.inr 64)] sh sh ct (pN fun c => RB c b T K Pl (lineB T K Pl a) ∧ rbF b ct c) := by
  have D := R.1
  have L := D.L
  have hbb := D.1.2.1
  have hw := tk_w (K := K) (σ := a.1) (by omega)
  have hg := hI.1
  have hF := hI.2 hw
  have hM := R.2 hw
  have hkd := D.kd
  have hin := D.into
  obtain ⟨s0, s1, s2, s3, s4, l1, l2, l3, l4⟩ := bkAt_b S L hbb
  have hm : ct b 2 = a.2.1 2 := hM.1 2 (by decide) (by decide) (by decide)
  have hm2 := hF.1.2.2.1
  generalize hPo : (pN fun c => RB c b T K Pl (lineB T K Pl a) ∧ rbF b ct c) = Po
  unfold lineB at hPo
  rw [if_pos ht] at hPo
  refine Mt.of rfl (Nat.le_of_ble_eq_true rfl) ?_
  show G _ 0 [some (.inr (.inr 64)), none, none] [] sh ct
  refine g_aload_n (q := 1) dX6_readMember_0 rfl rfl ?_
  refine g_getO (q := 4) (kI := 9) fX6_26 (by first | assumption | exact S.at _ rfl) dX6_readMember_1 rfl rfl hin ?_
  refine g_getI (q := 7) (kI := 2) fX6_156 (by first | assumption | exact S.at _ rfl) dX6_readMember_4 rfl rfl ?_
  rw [hm]
  refine s_istore_n_3_1 (q := 8) dX6_readMember_7 rfl rfl rfl ?_
  refine g_iload_n (q := 9) dX6_readMember_8 rfl rfl ?_
  refine g_bipush (q := 11) dX6_readMember_9 (by decide +kernel) rfl ?_
  refine g_icmp_lt (q := 14) (tg := 20) dX6_readMember_11 (by decide) rfl (fun c_11 => ?_) (fun c_11 => ?_)
  · rw [w32_id (x := a.2.1 2) (by omega) (by omega), show w32 6 = 6 from rfl] at c_11
    rw [if_neg (by omega)] at hPo
    refine g_aload_n (q := 21) dX6_readMember_20 rfl rfl ?_
    refine g_getO (q := 24) (kI := 9) fX6_26 (by first | assumption | exact S.at _ rfl) dX6_readMember_21 rfl rfl hin ?_
    refine g_dup (q := 25) dX6_readMember_24 rfl rfl ?_
    refine g_getI (q := 28) (kI := 2) fX6_156 (by first | assumption | exact S.at _ rfl) dX6_readMember_25 rfl rfl ?_
    rw [hm]
    obtain ⟨R1, f1⟩ := RB.wn (n := a.2.1) (β := a.2.2) (σ := a.1) (k := 2) (v := a.2.1 2 + 1) (v2 := a.2.1 2 + 1) R (by decide) (by decide) (by decide) (fun _ => rfl)
    refine g_iconst (q := 29) dX6_readMember_28 rfl ?_
    refine g_iadd (q := 30) dX6_readMember_29 rfl ?_
    refine g_putI (q := 33) (kI := 2) fX6_156 (by first | assumption | exact S.at _ rfl) dX6_readMember_30 rfl rfl ?_
    refine g_aload_n (q := 34) dX6_readMember_33 rfl rfl ?_
    generalize wr ct b 2 (a.2.1 2 + 1) = c1 at R1 f1
    have D1 := R1.1
    have M1 := R1.2 hw
    refine g_callV (q := 37) lX6_104 mX6_step nX6_step rfl (r_step 0 sh _ S D1) (by first | assumption | exact S.at _ rfl) rfl rfl shLe.rf (rmOk.mk (by omega) (by first | exact shLe.rf | assumption)) (Nat.le_of_ble_eq_true rfl) dX6_readMember_34 rfl rfl (kN fun c2 hp => ?_)
    obtain ⟨D2, f2⟩ := hp
    have n2 := stepNC hg
    have M2 := M1.fr hbb f2
    refine g_iconst (q := 38) dX6_readMember_37 rfl ?_
    refine s_istore_n_3_2 (q := 39) dX6_readMember_38 rfl rfl rfl ?_
    refine g_forA (α := PS × (Int → Int)) (fun i _ => [some (.inr (.inr 64)), some (.inl (a.2.1 2)), some (.inl i)]) (fun i e c => 0 ≤ i ∧ RD c b T K Pl e.1 ∧ NC T a.1 e.1 ∧ rbF b ct c ∧ bkM c b (upP a.2.1 2 (a.2.1 2 + 1), e.2, a.2.2.2) ∧ mkL T K Pl (a.2.1 2) (T - i).toNat e = mkL T K Pl (a.2.1 2) T.toNat (stepP T a.1, a.2.2.1)) T ?_ ?_ (i := 0) (a := (stepP T a.1, a.2.2.1)) (by have := hkd.1; omega) ⟨Int.le_refl _, D2, n2, f1.tr f2.rb, M2, by rw [show T - 0 = T by omega]⟩ (by simp [lsSub])
    · rintro i ⟨τ, mk⟩ c hi ⟨i0, D3, n3, f3, M3, e3⟩ kk
      dsimp only at D3 n3 M3
      have L := D3.L
      have htb := D3.tb
      have hT := hkd.1
      have hto := D3.toks
      have h7 := D3.2.2.1
      refine g_iload_n (q := 40) dX6_readMember_39 rfl rfl ?_
      refine g_aload_n (q := 41) dX6_readMember_40 rfl rfl ?_
      refine g_getI (q := 44) (kI := 5) fX6_57 (by first | assumption | exact S.at _ rfl) dX6_readMember_41 rfl rfl ?_
      rw [hto]
      refine g_icmp_ge (q := 47) (tg := 82) dX6_readMember_44 (by decide) rfl (fun c_44 => ?_) (fun c_44 => ?_)
      · exact absurd c_44 (by rw [w32_id (x := i) (by omega) (by omega), w32_id (x := T) (by omega) (by omega)]; omega)
      · refine g_aload_n (q := 48) dX6_readMember_47 rfl rfl ?_
        refine g_getI (q := 51) (kI := 7) fX6_51 (by first | assumption | exact S.at _ rfl) dX6_readMember_48 rfl rfl ?_
        rw [h7]
        refine g_sipush (q := 54) dX6_readMember_51 (by decide +kernel) rfl ?_
        refine g_icmp_ne (q := 57) (tg := 82) dX6_readMember_54 (by decide) rfl (fun c_54 => ?_) (fun c_54 => ?_)
        · rw [w32_id (x := tkP K τ) (by omega) (by omega), show w32 132 = 132 from rfl] at c_54
          have e4 : mkL T K Pl (a.2.1 2) (T - i).toNat (τ, mk) = (τ, mk) := by
            cases (T - i).toNat with
            | zero => rfl
            | succ n => show (if tkP K τ = 132 then _ else _) = _; rw [if_neg c_54]
          rw [e4] at e3
          refine g_return dX6_readMember_82 rfl ?_
          rw [← hPo, ← e3]
          exact ⟨rfl, ⟨D3, fun _ => M3⟩, f3⟩
        · rw [w32_id (x := tkP K τ) (by omega) (by omega), show w32 132 = 132 from rfl] at c_54
          have c54 : tkP K τ = 132 := by omega
          refine g_aload_n (q := 58) dX6_readMember_57 rfl rfl ?_
          refine g_callV (q := 61) lX6_104 mX6_step nX6_step rfl (r_step 0 sh _ S D3) (by first | assumption | exact S.at _ rfl) rfl rfl shLe.rf (rmOk.mk (by omega) (by first | exact shLe.rf | assumption)) (Nat.le_of_ble_eq_true rfl) dX6_readMember_58 rfl rfl (kN fun c4 hp => ?_)
          obtain ⟨D4, f4⟩ := hp
          have n4 := stepNC n3.1
          have hin4 := D4.into
          have L4 := D4.L
          obtain ⟨-, -, -, -, -, k1, -, -, -⟩ := bkAt_b S L4 hbb
          refine g_aload_n (q := 62) dX6_readMember_61 rfl rfl ?_
          refine g_getO (q := 65) (kI := 9) fX6_26 (by first | assumption | exact S.at _ rfl) dX6_readMember_62 rfl rfl (by first | exact hin4 | exact k1) ?_
          refine g_getA (q := 68) (kI := 11) fX6_159 (by first | assumption | exact S.at _ rfl) dX6_readMember_65 rfl rfl (by first | exact hin4 | exact k1) ?_
          refine g_iload_n (q := 69) dX6_readMember_68 rfl rfl ?_
          refine g_aload_n (q := 70) dX6_readMember_69 rfl rfl ?_
          refine g_bipush (q := 72) dX6_readMember_70 (by decide +kernel) rfl ?_
          refine g_callV (q := 75) lX6_113 mX6_takeNumber nX6_takeNumber rfl (r_takeNumber 0 sh _ S D4 (most := 9) (by decide)) (by first | assumption | exact S.at _ rfl) rfl rfl shLe.rf (rmOk.mk (by omega) (by first | exact shLe.rf | assumption)) (Nat.le_of_ble_eq_true rfl) dX6_readMember_72 rfl rfl (kI fun v c5 hp => ?_)
          obtain ⟨hv, D5, f5⟩ := hp
          have n5 := (numNC (K := K) (Pl := Pl) (most := 9) n4.1).1
          have M5 := (M3.fr hbb f4).fr hbb f5
          refine g_iastore (q := 76) (by first | assumption | exact S.at _ rfl) (by omega) (by omega) (by omega) dX6_readMember_75 rfl ?_
          refine s_iinc_3_2 (q := 79) dX6_readMember_76 rfl rfl rfl ?_
          refine g_goto (q := 39) dX6_readMember_79 (by decide) ?_
          have fw : rbF b c5 (wr c5 (b + 1) (a.2.1 2) v) := ⟨fun j _ _ _ _ _ => wr_na (by omega), fun j hj => wr_na (by omega), eqBut.rf.wr (by simp)⟩
          refine kk ((numP T K Pl 9 (stepP T τ)).2, upP mk (a.2.1 2) (numP T K Pl 9 (stepP T τ)).1) _ _ (by simp [lsSub]) ⟨by omega, D5.keep fw (fun j _ => wr_na (by omega)) (wr_na (by omega)) (by funext j; exact wr_na (by omega)), (n3.tr n4).tr n5, ((f3.tr f4.rb).tr f5.rb).tr fw, ⟨fun k k0 k1 k6 => by rw [wr_na (by omega)]; exact M5.1 k k0 k1 k6, fun m m0 m1 => ?_, fun s s0 s1 => by rw [wr_na (by omega), wr_na (by omega)]; exact M5.2.2 s s0 s1⟩, ?_⟩
          · dsimp only
            by_cases hmm : m = a.2.1 2
            · rw [hmm, wr_eq, upP_eq]; exact hv
            · rw [wr_nk hmm, upP_ne hmm]; exact M5.2.1 m m0 m1
          · rw [← e3, show (T - i).toNat = (T - (i + 1)).toNat + 1 by omega]
            show _ = (if tkP K τ = 132 then _ else _)
            rw [if_pos c54]
    · rintro ⟨τ, mk⟩ c ⟨i0, D3, n3, f3, M3, e3⟩
      dsimp only at D3 n3 M3
      have hT := hkd.1
      have hto := D3.toks
      have L := D3.L
      rw [show (T - T).toNat = 0 by omega] at e3
      refine g_iload_n (q := 40) dX6_readMember_39 rfl rfl ?_
      refine g_aload_n (q := 41) dX6_readMember_40 rfl rfl ?_
      refine g_getI (q := 44) (kI := 5) fX6_57 (by first | assumption | exact S.at _ rfl) dX6_readMember_41 rfl rfl ?_
      rw [hto]
      refine g_icmp_ge (q := 47) (tg := 82) dX6_readMember_44 (by decide) rfl (fun c_44 => ?_) (fun c_44 => ?_)
      · refine g_return dX6_readMember_82 rfl ?_
        rw [← hPo, ← e3]
        exact ⟨rfl, ⟨D3, fun _ => M3⟩, f3⟩
      · exact absurd c_44 (Int.lt_irrefl _)
  · rw [w32_id (x := a.2.1 2) (by omega) (by omega), show w32 6 = 6 from rfl] at c_11
    rw [if_pos (by omega)] at hPo
    refine g_aload_n (q := 15) dX6_readMember_14 rfl rfl ?_
    refine g_iconst (q := 16) dX6_readMember_15 rfl ?_
    refine g_callV (q := 19) lX6_107 mX6_fail nX6_fail rfl (r_fail 0 sh _ S D (k := 4) (by decide)) (by first | assumption | exact S.at _ rfl) rfl rfl shLe.rf (rmOk.mk (by omega) (by first | exact shLe.rf | assumption)) (Nat.le_of_ble_eq_true rfl) dX6_readMember_16 rfl rfl (kN fun c1 hp => ?_)
    refine g_return dX6_readMember_19 rfl ?_
    rw [← hPo]
    exact ⟨rfl, ⟨hp.1, fun z => absurd z (failP_w (by decide))⟩, hp.2.rb⟩
end
