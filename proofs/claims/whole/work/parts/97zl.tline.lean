/-! the reference reads its lines -/
theorem dX12_readMember_0 : decode cX12_readMember 0 = .ok (.aload_n 0, 1) := by decide +kernel
theorem dX12_readMember_1 : decode cX12_readMember 1 = .ok (.getfield 24, 3) := by decide +kernel
theorem dX12_readMember_4 : decode cX12_readMember 4 = .ok (.iconst 1, 1) := by decide +kernel
theorem dX12_readMember_5 : decode cX12_readMember 5 = .ok (.iaload, 1) := by decide +kernel
theorem dX12_readMember_6 : decode cX12_readMember 6 = .ok (.istore_n 1, 1) := by decide +kernel
theorem dX12_readMember_7 : decode cX12_readMember 7 = .ok (.iload_n 1, 1) := by decide +kernel
theorem dX12_readMember_8 : decode cX12_readMember 8 = .ok (.bipush 6, 2) := by decide +kernel
theorem dX12_readMember_10 : decode cX12_readMember 10 = .ok (.if_icmp .ne 8, 3) := by decide +kernel
theorem dX12_readMember_13 : decode cX12_readMember 13 = .ok (.aload_n 0, 1) := by decide +kernel
theorem dX12_readMember_14 : decode cX12_readMember 14 = .ok (.iconst 4, 1) := by decide +kernel
theorem dX12_readMember_15 : decode cX12_readMember 15 = .ok (.invokevirtual 146, 3) := by decide +kernel
theorem dX12_readMember_18 : decode cX12_readMember 18 = .ok (.aload_n 0, 1) := by decide +kernel
theorem dX12_readMember_19 : decode cX12_readMember 19 = .ok (.getfield 134, 3) := by decide +kernel
theorem dX12_readMember_22 : decode cX12_readMember 22 = .ok (.ifCond .eq 4, 3) := by decide +kernel
theorem dX12_readMember_25 : decode cX12_readMember 25 = .ok (.return_, 1) := by decide +kernel
theorem dX12_readMember_26 : decode cX12_readMember 26 = .ok (.aload_n 0, 1) := by decide +kernel
theorem dX12_readMember_27 : decode cX12_readMember 27 = .ok (.invokevirtual 143, 3) := by decide +kernel
theorem dX12_readMember_30 : decode cX12_readMember 30 = .ok (.aload_n 0, 1) := by decide +kernel
theorem dX12_readMember_31 : decode cX12_readMember 31 = .ok (.getfield 134, 3) := by decide +kernel
theorem dX12_readMember_34 : decode cX12_readMember 34 = .ok (.ifCond .ne 30, 3) := by decide +kernel
theorem dX12_readMember_37 : decode cX12_readMember 37 = .ok (.aload_n 0, 1) := by decide +kernel
theorem dX12_readMember_38 : decode cX12_readMember 38 = .ok (.iconst 4, 1) := by decide +kernel
theorem dX12_readMember_39 : decode cX12_readMember 39 = .ok (.invokevirtual 169, 3) := by decide +kernel
theorem dX12_readMember_42 : decode cX12_readMember 42 = .ok (.ifCond .eq 22, 3) := by decide +kernel
theorem dX12_readMember_45 : decode cX12_readMember 45 = .ok (.aload_n 0, 1) := by decide +kernel
theorem dX12_readMember_46 : decode cX12_readMember 46 = .ok (.getfield 24, 3) := by decide +kernel
theorem dX12_readMember_49 : decode cX12_readMember 49 = .ok (.bipush 32, 2) := by decide +kernel
theorem dX12_readMember_51 : decode cX12_readMember 51 = .ok (.iload_n 1, 1) := by decide +kernel
theorem dX12_readMember_52 : decode cX12_readMember 52 = .ok (.iadd, 1) := by decide +kernel
theorem dX12_readMember_53 : decode cX12_readMember 53 = .ok (.aload_n 0, 1) := by decide +kernel
theorem dX12_readMember_54 : decode cX12_readMember 54 = .ok (.iconst 0, 1) := by decide +kernel
theorem dX12_readMember_55 : decode cX12_readMember 55 = .ok (.bipush 9, 2) := by decide +kernel
theorem dX12_readMember_57 : decode cX12_readMember 57 = .ok (.invokevirtual 187, 3) := by decide +kernel
theorem dX12_readMember_60 : decode cX12_readMember 60 = .ok (.iastore, 1) := by decide +kernel
theorem dX12_readMember_61 : decode cX12_readMember 61 = .ok (.goto (-31), 3) := by decide +kernel
theorem dX12_readMember_64 : decode cX12_readMember 64 = .ok (.aload_n 0, 1) := by decide +kernel
theorem dX12_readMember_65 : decode cX12_readMember 65 = .ok (.getfield 134, 3) := by decide +kernel
theorem dX12_readMember_68 : decode cX12_readMember 68 = .ok (.ifCond .ne 13, 3) := by decide +kernel
theorem dX12_readMember_71 : decode cX12_readMember 71 = .ok (.aload_n 0, 1) := by decide +kernel
theorem dX12_readMember_72 : decode cX12_readMember 72 = .ok (.getfield 24, 3) := by decide +kernel
theorem dX12_readMember_75 : decode cX12_readMember 75 = .ok (.iconst 1, 1) := by decide +kernel
theorem dX12_readMember_76 : decode cX12_readMember 76 = .ok (.dup2, 1) := by decide +kernel
theorem dX12_readMember_77 : decode cX12_readMember 77 = .ok (.iaload, 1) := by decide +kernel
theorem dX12_readMember_78 : decode cX12_readMember 78 = .ok (.iconst 1, 1) := by decide +kernel
theorem dX12_readMember_79 : decode cX12_readMember 79 = .ok (.iadd, 1) := by decide +kernel
theorem dX12_readMember_80 : decode cX12_readMember 80 = .ok (.iastore, 1) := by decide +kernel
theorem dX12_readMember_81 : decode cX12_readMember 81 = .ok (.return_, 1) := by decide +kernel
theorem dX12_readSaying_0 : decode cX12_readSaying 0 = .ok (.aload_n 0, 1) := by decide +kernel
theorem dX12_readSaying_1 : decode cX12_readSaying 1 = .ok (.getfield 24, 3) := by decide +kernel
theorem dX12_readSaying_4 : decode cX12_readSaying 4 = .ok (.iconst 2, 1) := by decide +kernel
theorem dX12_readSaying_5 : decode cX12_readSaying 5 = .ok (.iaload, 1) := by decide +kernel
theorem dX12_readSaying_6 : decode cX12_readSaying 6 = .ok (.istore_n 1, 1) := by decide +kernel
theorem dX12_readSaying_7 : decode cX12_readSaying 7 = .ok (.iload_n 1, 1) := by decide +kernel
theorem dX12_readSaying_8 : decode cX12_readSaying 8 = .ok (.bipush 8, 2) := by decide +kernel
theorem dX12_readSaying_10 : decode cX12_readSaying 10 = .ok (.if_icmp .ne 8, 3) := by decide +kernel
theorem dX12_readSaying_13 : decode cX12_readSaying 13 = .ok (.aload_n 0, 1) := by decide +kernel
theorem dX12_readSaying_14 : decode cX12_readSaying 14 = .ok (.iconst 4, 1) := by decide +kernel
theorem dX12_readSaying_15 : decode cX12_readSaying 15 = .ok (.invokevirtual 146, 3) := by decide +kernel
theorem dX12_readSaying_18 : decode cX12_readSaying 18 = .ok (.aload_n 0, 1) := by decide +kernel
theorem dX12_readSaying_19 : decode cX12_readSaying 19 = .ok (.getfield 134, 3) := by decide +kernel
theorem dX12_readSaying_22 : decode cX12_readSaying 22 = .ok (.ifCond .eq 4, 3) := by decide +kernel
theorem dX12_readSaying_25 : decode cX12_readSaying 25 = .ok (.return_, 1) := by decide +kernel
theorem dX12_readSaying_26 : decode cX12_readSaying 26 = .ok (.aload_n 0, 1) := by decide +kernel
theorem dX12_readSaying_27 : decode cX12_readSaying 27 = .ok (.invokevirtual 143, 3) := by decide +kernel
theorem dX12_readSaying_30 : decode cX12_readSaying 30 = .ok (.aload_n 0, 1) := by decide +kernel
theorem dX12_readSaying_31 : decode cX12_readSaying 31 = .ok (.getfield 134, 3) := by decide +kernel
theorem dX12_readSaying_34 : decode cX12_readSaying 34 = .ok (.ifCond .ne 78, 3) := by decide +kernel
theorem dX12_readSaying_37 : decode cX12_readSaying 37 = .ok (.aload_n 0, 1) := by decide +kernel
theorem dX12_readSaying_38 : decode cX12_readSaying 38 = .ok (.getfield 116, 3) := by decide +kernel
theorem dX12_readSaying_41 : decode cX12_readSaying 41 = .ok (.i2l, 1) := by decide +kernel
theorem dX12_readSaying_42 : decode cX12_readSaying 42 = .ok (.ldc2_w 191, 3) := by decide +kernel
theorem dX12_readSaying_45 : decode cX12_readSaying 45 = .ok (.ldc2_w 193, 3) := by decide +kernel
theorem dX12_readSaying_48 : decode cX12_readSaying 48 = .ok (.invokestatic 150, 3) := by decide +kernel
theorem dX12_readSaying_51 : decode cX12_readSaying 51 = .ok (.ifCond .eq 61, 3) := by decide +kernel
theorem dX12_readSaying_54 : decode cX12_readSaying 54 = .ok (.aload_n 0, 1) := by decide +kernel
theorem dX12_readSaying_55 : decode cX12_readSaying 55 = .ok (.getfield 116, 3) := by decide +kernel
theorem dX12_readSaying_58 : decode cX12_readSaying 58 = .ok (.istore_n 2, 1) := by decide +kernel
theorem dX12_readSaying_59 : decode cX12_readSaying 59 = .ok (.aload_n 0, 1) := by decide +kernel
theorem dX12_readSaying_60 : decode cX12_readSaying 60 = .ok (.invokevirtual 143, 3) := by decide +kernel
theorem dX12_readSaying_63 : decode cX12_readSaying 63 = .ok (.aload_n 0, 1) := by decide +kernel
theorem dX12_readSaying_64 : decode cX12_readSaying 64 = .ok (.iconst 0, 1) := by decide +kernel
theorem dX12_readSaying_65 : decode cX12_readSaying 65 = .ok (.bipush 9, 2) := by decide +kernel
theorem dX12_readSaying_67 : decode cX12_readSaying 67 = .ok (.invokevirtual 187, 3) := by decide +kernel
theorem dX12_readSaying_70 : decode cX12_readSaying 70 = .ok (.istore_n 3, 1) := by decide +kernel
theorem dX12_readSaying_71 : decode cX12_readSaying 71 = .ok (.aload_n 0, 1) := by decide +kernel
theorem dX12_readSaying_72 : decode cX12_readSaying 72 = .ok (.getfield 24, 3) := by decide +kernel
theorem dX12_readSaying_75 : decode cX12_readSaying 75 = .ok (.iload_n 2, 1) := by decide +kernel
theorem dX12_readSaying_76 : decode cX12_readSaying 76 = .ok (.bipush 8, 2) := by decide +kernel
theorem dX12_readSaying_78 : decode cX12_readSaying 78 = .ok (.if_icmp .ge 8, 3) := by decide +kernel
theorem dX12_readSaying_81 : decode cX12_readSaying 81 = .ok (.bipush 12, 2) := by decide +kernel
theorem dX12_readSaying_83 : decode cX12_readSaying 83 = .ok (.goto 5, 3) := by decide +kernel
theorem dX12_readSaying_86 : decode cX12_readSaying 86 = .ok (.bipush 20, 2) := by decide +kernel
theorem dX12_readSaying_88 : decode cX12_readSaying 88 = .ok (.iload_n 1, 1) := by decide +kernel
theorem dX12_readSaying_89 : decode cX12_readSaying 89 = .ok (.iadd, 1) := by decide +kernel
theorem dX12_readSaying_90 : decode cX12_readSaying 90 = .ok (.iload_n 2, 1) := by decide +kernel
theorem dX12_readSaying_91 : decode cX12_readSaying 91 = .ok (.bipush 6, 2) := by decide +kernel
theorem dX12_readSaying_93 : decode cX12_readSaying 93 = .ok (.if_icmp .eq 9, 3) := by decide +kernel
theorem dX12_readSaying_96 : decode cX12_readSaying 96 = .ok (.iload_n 2, 1) := by decide +kernel
theorem dX12_readSaying_97 : decode cX12_readSaying 97 = .ok (.bipush 8, 2) := by decide +kernel
theorem dX12_readSaying_99 : decode cX12_readSaying 99 = .ok (.if_icmp .ne 7, 3) := by decide +kernel
theorem dX12_readSaying_102 : decode cX12_readSaying 102 = .ok (.iload_n 3, 1) := by decide +kernel
theorem dX12_readSaying_103 : decode cX12_readSaying 103 = .ok (.goto 5, 3) := by decide +kernel
theorem dX12_readSaying_106 : decode cX12_readSaying 106 = .ok (.iload_n 3, 1) := by decide +kernel
theorem dX12_readSaying_107 : decode cX12_readSaying 107 = .ok (.ineg, 1) := by decide +kernel
theorem dX12_readSaying_108 : decode cX12_readSaying 108 = .ok (.iastore, 1) := by decide +kernel
theorem dX12_readSaying_109 : decode cX12_readSaying 109 = .ok (.goto (-79), 3) := by decide +kernel
theorem dX12_readSaying_112 : decode cX12_readSaying 112 = .ok (.aload_n 0, 1) := by decide +kernel
theorem dX12_readSaying_113 : decode cX12_readSaying 113 = .ok (.getfield 134, 3) := by decide +kernel
theorem dX12_readSaying_116 : decode cX12_readSaying 116 = .ok (.ifCond .ne 13, 3) := by decide +kernel
theorem dX12_readSaying_119 : decode cX12_readSaying 119 = .ok (.aload_n 0, 1) := by decide +kernel
theorem dX12_readSaying_120 : decode cX12_readSaying 120 = .ok (.getfield 24, 3) := by decide +kernel
theorem dX12_readSaying_123 : decode cX12_readSaying 123 = .ok (.iconst 2, 1) := by decide +kernel
theorem dX12_readSaying_124 : decode cX12_readSaying 124 = .ok (.dup2, 1) := by decide +kernel
theorem dX12_readSaying_125 : decode cX12_readSaying 125 = .ok (.iaload, 1) := by decide +kernel
theorem dX12_readSaying_126 : decode cX12_readSaying 126 = .ok (.iconst 1, 1) := by decide +kernel
theorem dX12_readSaying_127 : decode cX12_readSaying 127 = .ok (.iadd, 1) := by decide +kernel
theorem dX12_readSaying_128 : decode cX12_readSaying 128 = .ok (.iastore, 1) := by decide +kernel
theorem dX12_readSaying_129 : decode cX12_readSaying 129 = .ok (.return_, 1) := by decide +kernel
theorem dX12_readLaw_0 : decode cX12_readLaw 0 = .ok (.aload_n 0, 1) := by decide +kernel
theorem dX12_readLaw_1 : decode cX12_readLaw 1 = .ok (.invokevirtual 143, 3) := by decide +kernel
theorem dX12_readLaw_4 : decode cX12_readLaw 4 = .ok (.aload_n 0, 1) := by decide +kernel
theorem dX12_readLaw_5 : decode cX12_readLaw 5 = .ok (.bipush 31, 2) := by decide +kernel
theorem dX12_readLaw_7 : decode cX12_readLaw 7 = .ok (.invokevirtual 169, 3) := by decide +kernel
theorem dX12_readLaw_10 : decode cX12_readLaw 10 = .ok (.ifCond .ne 8, 3) := by decide +kernel
theorem dX12_readLaw_13 : decode cX12_readLaw 13 = .ok (.aload_n 0, 1) := by decide +kernel
theorem dX12_readLaw_14 : decode cX12_readLaw 14 = .ok (.iconst 2, 1) := by decide +kernel
theorem dX12_readLaw_15 : decode cX12_readLaw 15 = .ok (.invokevirtual 146, 3) := by decide +kernel
theorem dX12_readLaw_18 : decode cX12_readLaw 18 = .ok (.aload_n 0, 1) := by decide +kernel
theorem dX12_readLaw_19 : decode cX12_readLaw 19 = .ok (.getfield 24, 3) := by decide +kernel
theorem dX12_readLaw_22 : decode cX12_readLaw 22 = .ok (.sipush 139, 3) := by decide +kernel
theorem dX12_readLaw_25 : decode cX12_readLaw 25 = .ok (.iaload, 1) := by decide +kernel
theorem dX12_readLaw_26 : decode cX12_readLaw 26 = .ok (.istore_n 2, 1) := by decide +kernel
theorem dX12_readLaw_27 : decode cX12_readLaw 27 = .ok (.aload_n 0, 1) := by decide +kernel
theorem dX12_readLaw_28 : decode cX12_readLaw 28 = .ok (.iload_n 1, 1) := by decide +kernel
theorem dX12_readLaw_29 : decode cX12_readLaw 29 = .ok (.putfield 154, 3) := by decide +kernel
theorem dX12_readLaw_32 : decode cX12_readLaw 32 = .ok (.aload_n 0, 1) := by decide +kernel
theorem dX12_readLaw_33 : decode cX12_readLaw 33 = .ok (.iconst 0, 1) := by decide +kernel
theorem dX12_readLaw_34 : decode cX12_readLaw 34 = .ok (.invokevirtual 181, 3) := by decide +kernel
theorem dX12_readLaw_37 : decode cX12_readLaw 37 = .ok (.aload_n 0, 1) := by decide +kernel
theorem dX12_readLaw_38 : decode cX12_readLaw 38 = .ok (.getfield 134, 3) := by decide +kernel
theorem dX12_readLaw_41 : decode cX12_readLaw 41 = .ok (.ifCond .eq 4, 3) := by decide +kernel
theorem dX12_readLaw_44 : decode cX12_readLaw 44 = .ok (.return_, 1) := by decide +kernel
theorem dX12_readLaw_45 : decode cX12_readLaw 45 = .ok (.aload_n 0, 1) := by decide +kernel
theorem dX12_readLaw_46 : decode cX12_readLaw 46 = .ok (.getfield 24, 3) := by decide +kernel
theorem dX12_readLaw_49 : decode cX12_readLaw 49 = .ok (.bipush 6, 2) := by decide +kernel
theorem dX12_readLaw_51 : decode cX12_readLaw 51 = .ok (.iload_n 1, 1) := by decide +kernel
theorem dX12_readLaw_52 : decode cX12_readLaw 52 = .ok (.iadd, 1) := by decide +kernel
theorem dX12_readLaw_53 : decode cX12_readLaw 53 = .ok (.iconst 1, 1) := by decide +kernel
theorem dX12_readLaw_54 : decode cX12_readLaw 54 = .ok (.iastore, 1) := by decide +kernel
theorem dX12_readLaw_55 : decode cX12_readLaw 55 = .ok (.aload_n 0, 1) := by decide +kernel
theorem dX12_readLaw_56 : decode cX12_readLaw 56 = .ok (.getfield 24, 3) := by decide +kernel
theorem dX12_readLaw_59 : decode cX12_readLaw 59 = .ok (.bipush 8, 2) := by decide +kernel
theorem dX12_readLaw_61 : decode cX12_readLaw 61 = .ok (.iload_n 1, 1) := by decide +kernel
theorem dX12_readLaw_62 : decode cX12_readLaw 62 = .ok (.iadd, 1) := by decide +kernel
theorem dX12_readLaw_63 : decode cX12_readLaw 63 = .ok (.iload_n 2, 1) := by decide +kernel
theorem dX12_readLaw_64 : decode cX12_readLaw 64 = .ok (.iastore, 1) := by decide +kernel
theorem dX12_readLaw_65 : decode cX12_readLaw 65 = .ok (.aload_n 0, 1) := by decide +kernel
theorem dX12_readLaw_66 : decode cX12_readLaw 66 = .ok (.getfield 24, 3) := by decide +kernel
theorem dX12_readLaw_69 : decode cX12_readLaw 69 = .ok (.bipush 10, 2) := by decide +kernel
theorem dX12_readLaw_71 : decode cX12_readLaw 71 = .ok (.iload_n 1, 1) := by decide +kernel
theorem dX12_readLaw_72 : decode cX12_readLaw 72 = .ok (.iadd, 1) := by decide +kernel
theorem dX12_readLaw_73 : decode cX12_readLaw 73 = .ok (.aload_n 0, 1) := by decide +kernel
theorem dX12_readLaw_74 : decode cX12_readLaw 74 = .ok (.getfield 24, 3) := by decide +kernel
theorem dX12_readLaw_77 : decode cX12_readLaw 77 = .ok (.sipush 139, 3) := by decide +kernel
theorem dX12_readLaw_80 : decode cX12_readLaw 80 = .ok (.iaload, 1) := by decide +kernel
theorem dX12_readLaw_81 : decode cX12_readLaw 81 = .ok (.iload_n 2, 1) := by decide +kernel
theorem dX12_readLaw_82 : decode cX12_readLaw 82 = .ok (.isub, 1) := by decide +kernel
theorem dX12_readLaw_83 : decode cX12_readLaw 83 = .ok (.iastore, 1) := by decide +kernel
theorem dX12_readLaw_84 : decode cX12_readLaw 84 = .ok (.return_, 1) := by decide +kernel
theorem dX12_readLine_0 : decode cX12_readLine 0 = .ok (.aload_n 0, 1) := by decide +kernel
theorem dX12_readLine_1 : decode cX12_readLine 1 = .ok (.getfield 134, 3) := by decide +kernel
theorem dX12_readLine_4 : decode cX12_readLine 4 = .ok (.ifCond .eq 4, 3) := by decide +kernel
theorem dX12_readLine_7 : decode cX12_readLine 7 = .ok (.return_, 1) := by decide +kernel
theorem dX12_readLine_8 : decode cX12_readLine 8 = .ok (.aload_n 0, 1) := by decide +kernel
theorem dX12_readLine_9 : decode cX12_readLine 9 = .ok (.iconst 3, 1) := by decide +kernel
theorem dX12_readLine_10 : decode cX12_readLine 10 = .ok (.invokevirtual 140, 3) := by decide +kernel
theorem dX12_readLine_13 : decode cX12_readLine 13 = .ok (.ifCond .eq 10, 3) := by decide +kernel
theorem dX12_readLine_16 : decode cX12_readLine 16 = .ok (.aload_n 0, 1) := by decide +kernel
theorem dX12_readLine_17 : decode cX12_readLine 17 = .ok (.invokevirtual 195, 3) := by decide +kernel
theorem dX12_readLine_20 : decode cX12_readLine 20 = .ok (.goto 80, 3) := by decide +kernel
theorem dX12_readLine_23 : decode cX12_readLine 23 = .ok (.aload_n 0, 1) := by decide +kernel
theorem dX12_readLine_24 : decode cX12_readLine 24 = .ok (.iconst 5, 1) := by decide +kernel
theorem dX12_readLine_25 : decode cX12_readLine 25 = .ok (.invokevirtual 140, 3) := by decide +kernel
theorem dX12_readLine_28 : decode cX12_readLine 28 = .ok (.ifCond .eq 10, 3) := by decide +kernel
theorem dX12_readLine_31 : decode cX12_readLine 31 = .ok (.aload_n 0, 1) := by decide +kernel
theorem dX12_readLine_32 : decode cX12_readLine 32 = .ok (.invokevirtual 198, 3) := by decide +kernel
theorem dX12_readLine_35 : decode cX12_readLine 35 = .ok (.goto 65, 3) := by decide +kernel
theorem dX12_readLine_38 : decode cX12_readLine 38 = .ok (.aload_n 0, 1) := by decide +kernel
theorem dX12_readLine_39 : decode cX12_readLine 39 = .ok (.bipush 10, 2) := by decide +kernel
theorem dX12_readLine_41 : decode cX12_readLine 41 = .ok (.invokevirtual 140, 3) := by decide +kernel
theorem dX12_readLine_44 : decode cX12_readLine 44 = .ok (.ifCond .ne 12, 3) := by decide +kernel
theorem dX12_readLine_47 : decode cX12_readLine 47 = .ok (.aload_n 0, 1) := by decide +kernel
theorem dX12_readLine_48 : decode cX12_readLine 48 = .ok (.bipush 11, 2) := by decide +kernel
theorem dX12_readLine_50 : decode cX12_readLine 50 = .ok (.invokevirtual 140, 3) := by decide +kernel
theorem dX12_readLine_53 : decode cX12_readLine 53 = .ok (.ifCond .eq 17, 3) := by decide +kernel
theorem dX12_readLine_56 : decode cX12_readLine 56 = .ok (.aload_n 0, 1) := by decide +kernel
theorem dX12_readLine_57 : decode cX12_readLine 57 = .ok (.aload_n 0, 1) := by decide +kernel
theorem dX12_readLine_58 : decode cX12_readLine 58 = .ok (.getfield 116, 3) := by decide +kernel
theorem dX12_readLine_61 : decode cX12_readLine 61 = .ok (.bipush 10, 2) := by decide +kernel
theorem dX12_readLine_63 : decode cX12_readLine 63 = .ok (.isub, 1) := by decide +kernel
theorem dX12_readLine_64 : decode cX12_readLine 64 = .ok (.invokevirtual 201, 3) := by decide +kernel
theorem dX12_readLine_67 : decode cX12_readLine 67 = .ok (.goto 33, 3) := by decide +kernel
theorem dX12_readLine_70 : decode cX12_readLine 70 = .ok (.aload_n 0, 1) := by decide +kernel
theorem dX12_readLine_71 : decode cX12_readLine 71 = .ok (.bipush 12, 2) := by decide +kernel
theorem dX12_readLine_73 : decode cX12_readLine 73 = .ok (.invokevirtual 169, 3) := by decide +kernel
theorem dX12_readLine_76 : decode cX12_readLine 76 = .ok (.ifCond .eq 19, 3) := by decide +kernel
theorem dX12_readLine_79 : decode cX12_readLine 79 = .ok (.aload_n 0, 1) := by decide +kernel
theorem dX12_readLine_80 : decode cX12_readLine 80 = .ok (.getfield 24, 3) := by decide +kernel
theorem dX12_readLine_83 : decode cX12_readLine 83 = .ok (.iconst 5, 1) := by decide +kernel
theorem dX12_readLine_84 : decode cX12_readLine 84 = .ok (.aload_n 0, 1) := by decide +kernel
theorem dX12_readLine_85 : decode cX12_readLine 85 = .ok (.iconst 0, 1) := by decide +kernel
theorem dX12_readLine_86 : decode cX12_readLine 86 = .ok (.bipush 10, 2) := by decide +kernel
theorem dX12_readLine_88 : decode cX12_readLine 88 = .ok (.invokevirtual 187, 3) := by decide +kernel
theorem dX12_readLine_91 : decode cX12_readLine 91 = .ok (.iastore, 1) := by decide +kernel
theorem dX12_readLine_92 : decode cX12_readLine 92 = .ok (.goto 8, 3) := by decide +kernel
theorem dX12_readLine_95 : decode cX12_readLine 95 = .ok (.aload_n 0, 1) := by decide +kernel
theorem dX12_readLine_96 : decode cX12_readLine 96 = .ok (.iconst 2, 1) := by decide +kernel
theorem dX12_readLine_97 : decode cX12_readLine 97 = .ok (.invokevirtual 146, 3) := by decide +kernel
theorem dX12_readLine_100 : decode cX12_readLine 100 = .ok (.return_, 1) := by decide +kernel
theorem dX12_ends_0 : decode cX12_ends 0 = .ok (.aload_n 0, 1) := by decide +kernel
theorem dX12_ends_1 : decode cX12_ends 1 = .ok (.bipush 30, 2) := by decide +kernel
theorem dX12_ends_3 : decode cX12_ends 3 = .ok (.invokevirtual 169, 3) := by decide +kernel
theorem dX12_ends_6 : decode cX12_ends 6 = .ok (.ifCond .ne 8, 3) := by decide +kernel
theorem dX12_ends_9 : decode cX12_ends 9 = .ok (.aload_n 0, 1) := by decide +kernel
theorem dX12_ends_10 : decode cX12_ends 10 = .ok (.iconst 2, 1) := by decide +kernel
theorem dX12_ends_11 : decode cX12_ends 11 = .ok (.invokevirtual 146, 3) := by decide +kernel
theorem dX12_ends_14 : decode cX12_ends 14 = .ok (.aload_n 0, 1) := by decide +kernel
theorem dX12_ends_15 : decode cX12_ends 15 = .ok (.getfield 24, 3) := by decide +kernel
theorem dX12_ends_18 : decode cX12_ends 18 = .ok (.iconst 0, 1) := by decide +kernel
theorem dX12_ends_19 : decode cX12_ends 19 = .ok (.dup2, 1) := by decide +kernel
theorem dX12_ends_20 : decode cX12_ends 20 = .ok (.iaload, 1) := by decide +kernel
theorem dX12_ends_21 : decode cX12_ends 21 = .ok (.iconst 1, 1) := by decide +kernel
theorem dX12_ends_22 : decode cX12_ends 22 = .ok (.iadd, 1) := by decide +kernel
theorem dX12_ends_23 : decode cX12_ends 23 = .ok (.iastore, 1) := by decide +kernel
theorem dX12_ends_24 : decode cX12_ends 24 = .ok (.return_, 1) := by decide +kernel
/-- a law's places in the fresh row -/
def lwR (ct : mbCt) (law u v : Int) : Prop := ct 96 (6 + law) = b01 (u ≠ v) ∧ ct 96 (8 + law) = u ∧ ct 96 (10 + law) = v - u
/-- the fresh row holds what was read -/
def frB (ct : mbCt) (β : BS) : Prop := (ct 96 0 = β.1 5 ∧ ct 96 1 = β.1 2 ∧ ct 96 2 = β.1 3 ∧ ct 96 3 = β.1 0 ∧ ct 96 4 = β.1 1 ∧ ct 96 5 = β.1 4) ∧ (lwR ct 0 (β.1 7) (β.1 8) ∧ lwR ct 1 (β.1 9) (β.1 10)) ∧ (∀ s, 0 ≤ s → s < 8 → ct 96 (12 + s) = β.2.2.1 s ∧ ct 96 (20 + s) = β.2.2.2 s) ∧ (∀ m, 0 ≤ m → m < 6 → ct 96 (32 + m) = β.2.1 m) ∧ ∀ j, (28 ≤ j ∧ j ≤ 31) ∨ j = 38 → ct 96 j = if j = 30 then 6 else 0
def MB (ct : mbCt) (f : Int → Int) (n T : Int) (K Pl E : Int → Int) (a : PS × BS) : Prop := MR ct f n T K Pl E a.1 ∧ (a.1.2.1 = 0 → frB ct a.2)
def mlF (ct c : mbCt) : Prop := (∀ j, j ≠ 6 → j ≠ 7 → j ≠ 9 → j ≠ 10 → j ≠ 11 → j ≠ 12 → j ≠ 15 → c 92 j = ct 92 j) ∧ eqBut [92, 96] ct c
def nPl : List (Int × Int) := [(0, 5), (1, 2), (2, 3), (3, 0), (4, 1), (5, 4)]
theorem nPl_i : ∀ x ∈ nPl, ∀ y ∈ nPl, (x.1 = y.1 ↔ x.2 = y.2) := by decide +kernel
theorem nPl_b : ∀ x ∈ nPl, (0 ≤ x.1 ∧ x.1 < 6) ∧ (0 ≤ x.2 ∧ x.2 < 6) := by decide +kernel
section
variable {ct c c2 : mbCt} {f K Pl E : Int → Int} {n T k p v u x m s law : Int} {σ : PS} {nn mk tt ht g g1 g2 : Int → Int} {β : BS} {ρ : (Int → Int) × (Int → Int) × (Int → Int)}
theorem mlF.rf : mlF ct ct := ⟨fun _ _ _ _ _ _ _ _ => rfl, eqBut.rf⟩
theorem mlF.tr (h : mlF ct c) (h2 : mlF c c2) : mlF ct c2 := ⟨fun j a b c d e f g => (h2.1 j a b c d e f g).trans (h.1 j a b c d e f g), h.2.tr h2.2⟩
theorem mrF.ml (h : mrF ct c) : mlF ct c := ⟨fun j a b c d e f _ => h.1 j a b c d e f, h.2.2⟩
theorem mlF.w96 : mlF ct (wr ct 96 k v) := ⟨fun j _ _ _ _ _ _ _ => by rw [wr_na (by decide)], eqBut.rf.wr (by decide)⟩
theorem mlF.w15 : mlF ct (wr ct 92 15 v) := ⟨fun j _ _ _ _ _ _ h => by rw [wr_nk h], eqBut.rf.wr (by decide)⟩
theorem MR.w96 (M : MR ct f n T K Pl E σ) (hk : k < 139) : MR (wr ct 96 k v) f n T K Pl E σ := by
  obtain ⟨L, ⟨a1, a2, a3, a4⟩, i, ⟨h6, h7, h9, h10⟩, ⟨h11, hwb, h12⟩, hc⟩ := M
  have e92 : (wr ct 96 k v) 92 = ct 92 := by funext j; exact wr_na (by decide)
  have e95 : (wr ct 96 k v) 95 = ct 95 := by funext j; exact wr_na (by decide)
  unfold MR tpR
  rw [e92, e95]
  refine ⟨L.wr (lkF_none rfl _), ⟨a1, a2, a3, a4⟩, i, ⟨h6, h7, h9, h10⟩, ⟨h11, hwb, h12⟩, fun z => ?_⟩
  obtain ⟨b1, b2⟩ := hc z
  exact ⟨by rw [wr_nk (by omega)]; exact b1, fun j hj => by rw [wr_nk (by omega)]; exact b2 j hj⟩
theorem MR.w15 (M : MR ct f n T K Pl E σ) : MR (wr ct 92 15 v) f n T K Pl E σ := by
  obtain ⟨L, ⟨a1, a2, a3, a4⟩, i, ⟨h6, h7, h9, h10⟩, ⟨h11, hwb, h12⟩, hc⟩ := M
  have e95 : (wr ct 92 15 v) 95 = ct 95 := by funext j; exact wr_na (by decide)
  have e96 : (wr ct 92 15 v) 96 = ct 96 := by funext j; exact wr_na (by decide)
  have e : ∀ j, j ≠ 15 → (wr ct 92 15 v) 92 j = ct 92 j := fun j hj => wr_nk hj
  unfold MR tpR
  rw [e95, e96, e 8 (by decide), e 6 (by decide), e 7 (by decide), e 9 (by decide), e 10 (by decide), e 11 (by decide), e 12 (by decide)]
  exact ⟨L.wr rfl, ⟨a1, a2, a3, a4⟩, i, ⟨h6, h7, h9, h10⟩, ⟨h11, hwb, h12⟩, hc⟩
theorem frB.eq (h : frB ct β) (e : ∀ j, 0 ≤ j → j < 139 → c 96 j = ct 96 j) : frB c β := by
  obtain ⟨⟨a1, a2, a3, a4, a5, a6⟩, ⟨⟨b1, b2, b3⟩, b4, b5, b6⟩, ht, hm, h38⟩ := h
  exact ⟨⟨(e _ (by decide) (by decide)).trans a1, (e _ (by decide) (by decide)).trans a2, (e _ (by decide) (by decide)).trans a3, (e _ (by decide) (by decide)).trans a4, (e _ (by decide) (by decide)).trans a5, (e _ (by decide) (by decide)).trans a6⟩, ⟨⟨(e _ (by decide) (by decide)).trans b1, (e _ (by decide) (by decide)).trans b2, (e _ (by decide) (by decide)).trans b3⟩, (e _ (by decide) (by decide)).trans b4, (e _ (by decide) (by decide)).trans b5, (e _ (by decide) (by decide)).trans b6⟩, fun s s0 s1 => ⟨(e _ (by omega) (by omega)).trans (ht s s0 s1).1, (e _ (by omega) (by omega)).trans (ht s s0 s1).2⟩, fun m m0 m1 => (e _ (by omega) (by omega)).trans (hm m m0 m1), fun j hj => (e _ (by omega) (by omega)).trans (h38 j hj)⟩
theorem frB.nu (h : frB ct (nn, ρ)) (hp : (p, k) ∈ nPl) : frB (wr ct 96 p v) (upP nn k v, ρ) := by
  have hb := nPl_b _ hp
  dsimp only at hb
  have key : ∀ p' k', (p', k') ∈ nPl → ct 96 p' = nn k' → wr ct 96 p v 96 p' = upP nn k v k' := by
    intro p' k' h' e
    by_cases z : p' = p
    · have z2 : k' = k := (nPl_i _ h' _ hp).mp z
      rw [z, z2, wr_eq, upP_eq]
    · rw [wr_nk z, upP_ne (fun w => z ((nPl_i _ h' _ hp).mpr w))]
      exact e
  have u7 : upP nn k v 7 = nn 7 := upP_ne (by omega)
  have u8 : upP nn k v 8 = nn 8 := upP_ne (by omega)
  have u9 : upP nn k v 9 = nn 9 := upP_ne (by omega)
  have u10 : upP nn k v 10 = nn 10 := upP_ne (by omega)
  obtain ⟨⟨a1, a2, a3, a4, a5, a6⟩, ⟨⟨b1, b2, b3⟩, b4, b5, b6⟩, ht, hm, h38⟩ := h
  dsimp only at b1 b2 b3 b4 b5 b6 a1 a2 a3 a4 a5 a6
  unfold frB lwR
  dsimp only
  simp only [u7, u8, u9, u10]
  exact ⟨⟨key _ _ (by decide) a1, key _ _ (by decide) a2, key _ _ (by decide) a3, key _ _ (by decide) a4, key _ _ (by decide) a5, key _ _ (by decide) a6⟩, ⟨⟨by rw [wr_nk (by omega)]; exact b1, by rw [wr_nk (by omega)]; exact b2, by rw [wr_nk (by omega)]; exact b3⟩, by rw [wr_nk (by omega)]; exact b4, by rw [wr_nk (by omega)]; exact b5, by rw [wr_nk (by omega)]; exact b6⟩, fun s s0 s1 => ⟨by rw [wr_nk (by omega)]; exact (ht s s0 s1).1, by rw [wr_nk (by omega)]; exact (ht s s0 s1).2⟩, fun m m0 m1 => by rw [wr_nk (by omega)]; exact hm m m0 m1, fun j hj => by rw [wr_nk (by omega)]; exact h38 j hj⟩
theorem frB.law0 (h : frB ct (nn, ρ)) (hne : u ≠ v) : frB (wr (wr (wr ct 96 (6 + 0) 1) 96 (8 + 0) u) 96 (10 + 0) (v - u)) (upP (upP nn 7 u) 8 v, ρ) := by
  have e : ∀ j, j ≠ 6 → j ≠ 8 → j ≠ 10 → (wr (wr (wr ct 96 (6 + 0) 1) 96 (8 + 0) u) 96 (10 + 0) (v - u)) 96 j = ct 96 j := fun j h6 h8 h10 => by rw [wr_nk (by omega), wr_nk (by omega), wr_nk (by omega)]
  have u7 : upP (upP nn 7 u) 8 v 7 = u := by rw [upP_ne (by decide), upP_eq]
  have u8 : upP (upP nn 7 u) 8 v 8 = v := upP_eq
  have uu : ∀ j, j ≠ 7 → j ≠ 8 → upP (upP nn 7 u) 8 v j = nn j := fun j j7 j8 => by rw [upP_ne j8, upP_ne j7]
  obtain ⟨⟨a1, a2, a3, a4, a5, a6⟩, ⟨⟨b1, b2, b3⟩, b4, b5, b6⟩, ht, hm, h38⟩ := h
  dsimp only at b1 b2 b3 b4 b5 b6 a1 a2 a3 a4 a5 a6
  unfold frB lwR
  dsimp only
  simp only [u7, u8, uu 9 (by decide) (by decide), uu 10 (by decide) (by decide), uu 0 (by decide) (by decide), uu 1 (by decide) (by decide), uu 2 (by decide) (by decide), uu 3 (by decide) (by decide), uu 4 (by decide) (by decide), uu 5 (by decide) (by decide)]
  refine ⟨⟨by rw [e _ (by decide) (by decide) (by decide)]; exact a1, by rw [e _ (by decide) (by decide) (by decide)]; exact a2, by rw [e _ (by decide) (by decide) (by decide)]; exact a3, by rw [e _ (by decide) (by decide) (by decide)]; exact a4, by rw [e _ (by decide) (by decide) (by decide)]; exact a5, by rw [e _ (by decide) (by decide) (by decide)]; exact a6⟩, ⟨⟨?_, ?_, ?_⟩, by rw [e _ (by decide) (by decide) (by decide)]; exact b4, by rw [e _ (by decide) (by decide) (by decide)]; exact b5, by rw [e _ (by decide) (by decide) (by decide)]; exact b6⟩, fun s s0 s1 => ⟨by rw [e _ (by omega) (by omega) (by omega)]; exact (ht s s0 s1).1, by rw [e _ (by omega) (by omega) (by omega)]; exact (ht s s0 s1).2⟩, fun m m0 m1 => by rw [e _ (by omega) (by omega) (by omega)]; exact hm m m0 m1, fun j hj => by rw [e _ (by omega) (by omega) (by omega)]; exact h38 j hj⟩
  · rw [wr_nk (by decide), wr_nk (by decide), wr_eq]
    exact b01_t hne
  · rw [wr_nk (by decide), wr_eq]
  · rw [wr_eq]
theorem frB.law1 (h : frB ct (nn, ρ)) (hne : u ≠ v) : frB (wr (wr (wr ct 96 (6 + 1) 1) 96 (8 + 1) u) 96 (10 + 1) (v - u)) (upP (upP nn 9 u) 10 v, ρ) := by
  have e : ∀ j, j ≠ 7 → j ≠ 9 → j ≠ 11 → (wr (wr (wr ct 96 (6 + 1) 1) 96 (8 + 1) u) 96 (10 + 1) (v - u)) 96 j = ct 96 j := fun j h6 h8 h10 => by rw [wr_nk (by omega), wr_nk (by omega), wr_nk (by omega)]
  have u9 : upP (upP nn 9 u) 10 v 9 = u := by rw [upP_ne (by decide), upP_eq]
  have u10 : upP (upP nn 9 u) 10 v 10 = v := upP_eq
  have uu : ∀ j, j ≠ 9 → j ≠ 10 → upP (upP nn 9 u) 10 v j = nn j := fun j j7 j8 => by rw [upP_ne j8, upP_ne j7]
  obtain ⟨⟨a1, a2, a3, a4, a5, a6⟩, ⟨⟨b1, b2, b3⟩, b4, b5, b6⟩, ht, hm, h38⟩ := h
  dsimp only at b1 b2 b3 b4 b5 b6 a1 a2 a3 a4 a5 a6
  unfold frB lwR
  dsimp only
  simp only [u9, u10, uu 7 (by decide) (by decide), uu 8 (by decide) (by decide), uu 0 (by decide) (by decide), uu 1 (by decide) (by decide), uu 2 (by decide) (by decide), uu 3 (by decide) (by decide), uu 4 (by decide) (by decide), uu 5 (by decide) (by decide)]
  refine ⟨⟨by rw [e _ (by decide) (by decide) (by decide)]; exact a1, by rw [e _ (by decide) (by decide) (by decide)]; exact a2, by rw [e _ (by decide) (by decide) (by decide)]; exact a3, by rw [e _ (by decide) (by decide) (by decide)]; exact a4, by rw [e _ (by decide) (by decide) (by decide)]; exact a5, by rw [e _ (by decide) (by decide) (by decide)]; exact a6⟩, ⟨⟨by rw [e _ (by decide) (by decide) (by decide)]; exact b1, by rw [e _ (by decide) (by decide) (by decide)]; exact b2, by rw [e _ (by decide) (by decide) (by decide)]; exact b3⟩, ?_, ?_, ?_⟩, fun s s0 s1 => ⟨by rw [e _ (by omega) (by omega) (by omega)]; exact (ht s s0 s1).1, by rw [e _ (by omega) (by omega) (by omega)]; exact (ht s s0 s1).2⟩, fun m m0 m1 => by rw [e _ (by omega) (by omega) (by omega)]; exact hm m m0 m1, fun j hj => by rw [e _ (by omega) (by omega) (by omega)]; exact h38 j hj⟩
  · rw [wr_nk (by decide), wr_nk (by decide), wr_eq]
    exact b01_t hne
  · rw [wr_nk (by decide), wr_eq]
  · rw [wr_eq]
theorem frB.mar (h : frB ct (nn, mk, tt, ht)) (m0 : 0 ≤ m) (m1 : m < 6) (e : ∀ j, 0 ≤ j → j < 139 → j ≠ 32 + m → c 96 j = ct 96 j) (hm : c 96 (32 + m) = g m) (hg : ∀ j, j ≠ m → g j = mk j) : frB c (nn, g, tt, ht) := by
  obtain ⟨⟨a1, a2, a3, a4, a5, a6⟩, ⟨⟨b1, b2, b3⟩, b4, b5, b6⟩, ht, hmm, h38⟩ := h
  refine ⟨⟨(e _ (by decide) (by decide) (by omega)).trans a1, (e _ (by decide) (by decide) (by omega)).trans a2, (e _ (by decide) (by decide) (by omega)).trans a3, (e _ (by decide) (by decide) (by omega)).trans a4, (e _ (by decide) (by decide) (by omega)).trans a5, (e _ (by decide) (by decide) (by omega)).trans a6⟩, ⟨⟨(e _ (by decide) (by decide) (by omega)).trans b1, (e _ (by decide) (by decide) (by omega)).trans b2, (e _ (by decide) (by decide) (by omega)).trans b3⟩, (e _ (by decide) (by decide) (by omega)).trans b4, (e _ (by decide) (by decide) (by omega)).trans b5, (e _ (by decide) (by decide) (by omega)).trans b6⟩, fun s s0 s1 => ⟨(e _ (by omega) (by omega) (by omega)).trans (ht s s0 s1).1, (e _ (by omega) (by omega) (by omega)).trans (ht s s0 s1).2⟩, fun j j0 j1 => ?_, fun j hj => (e _ (by omega) (by omega) (by omega)).trans (h38 j hj)⟩
  by_cases hj : j = m
  · rw [hj]; exact hm
  · show c 96 (32 + j) = g j
    rw [hg j hj, e _ (by omega) (by omega) (by omega)]
    exact hmm j j0 j1
theorem frB.sy (h : frB ct (nn, mk, tt, ht)) (s0 : 0 ≤ s) (s1 : s < 8) (e : ∀ j, 0 ≤ j → j < 139 → j ≠ 12 + s → j ≠ 20 + s → c 96 j = ct 96 j) (h1 : c 96 (12 + s) = g1 s) (h2 : c 96 (20 + s) = g2 s) (hg : ∀ j, j ≠ s → g1 j = tt j ∧ g2 j = ht j) : frB c (nn, mk, g1, g2) := by
  obtain ⟨⟨a1, a2, a3, a4, a5, a6⟩, ⟨⟨b1, b2, b3⟩, b4, b5, b6⟩, htt, hmm, h38⟩ := h
  refine ⟨⟨(e _ (by decide) (by decide) (by omega) (by omega)).trans a1, (e _ (by decide) (by decide) (by omega) (by omega)).trans a2, (e _ (by decide) (by decide) (by omega) (by omega)).trans a3, (e _ (by decide) (by decide) (by omega) (by omega)).trans a4, (e _ (by decide) (by decide) (by omega) (by omega)).trans a5, (e _ (by decide) (by decide) (by omega) (by omega)).trans a6⟩, ⟨⟨(e _ (by decide) (by decide) (by omega) (by omega)).trans b1, (e _ (by decide) (by decide) (by omega) (by omega)).trans b2, (e _ (by decide) (by decide) (by omega) (by omega)).trans b3⟩, (e _ (by decide) (by decide) (by omega) (by omega)).trans b4, (e _ (by decide) (by decide) (by omega) (by omega)).trans b5, (e _ (by decide) (by decide) (by omega) (by omega)).trans b6⟩, fun j j0 j1 => ?_, fun j j0 j1 => (e _ (by omega) (by omega) (by omega) (by omega)).trans (hmm j j0 j1), fun j hj => (e _ (by omega) (by omega) (by omega) (by omega)).trans (h38 j hj)⟩
  by_cases hj : j = s
  · rw [hj]; exact ⟨h1, h2⟩
  · show c 96 (12 + j) = g1 j ∧ c 96 (20 + j) = g2 j
    rw [(hg j hj).1, (hg j hj).2, e _ (by omega) (by omega) (by omega) (by omega), e (20 + j) (by omega) (by omega) (by omega) (by omega)]
    exact htt j j0 j1
theorem mkL_stop {m : Int} {b : PS × (Int → Int)} (h : ¬ tkP K b.1 = 132) : ∀ N, mkL T K Pl m N b = b
  | 0 => rfl
  | N + 1 => by unfold mkL; rw [if_neg h]
theorem mkL_go {m : Int} {b : PS × (Int → Int)} {N : Nat} (h : tkP K b.1 = 132) : mkL T K Pl m (N + 1) b = mkL T K Pl m N ((numP T K Pl 9 (stepP T b.1)).2, upP b.2 m (numP T K Pl 9 (stepP T b.1)).1) := by rw [mkL, if_pos h]
theorem syL_stop {m : Int} {b : PS × (Int → Int) × (Int → Int)} (h : ¬ (134 ≤ tkP K b.1 ∧ tkP K b.1 ≤ 137)) : ∀ N, syL T K Pl m N b = b
  | 0 => rfl
  | N + 1 => by unfold syL; rw [if_neg h]
theorem syL_go {m : Int} {b : PS × (Int → Int) × (Int → Int)} {N : Nat} (h : 134 ≤ tkP K b.1 ∧ tkP K b.1 ≤ 137) : syL T K Pl m (N + 1) b = syL T K Pl m N ((numP T K Pl 9 (stepP T b.1)).2, syT (tkP K b.1) m (numP T K Pl 9 (stepP T b.1)).1 b.2.1, syH (tkP K b.1) m (numP T K Pl 9 (stepP T b.1)).1 b.2.2) := by rw [syL, if_pos h]
theorem sy_ne {t v j : Int} (hj : j ≠ s) : syT t s v g j = g j ∧ syH t s v g j = g j := by
  unfold syT syH
  constructor
  · split
    · exact upP_ne hj
    · split
      · exact upP_ne hj
      · rfl
  · split
    · exact upP_ne hj
    · split
      · exact upP_ne hj
      · rfl
theorem syL_ne {m : Int} : ∀ (N : Nat) (b : PS × (Int → Int) × (Int → Int)) (j : Int), j ≠ m → (syL T K Pl m N b).2.1 j = b.2.1 j ∧ (syL T K Pl m N b).2.2 j = b.2.2 j
  | 0, b, j, _ => ⟨rfl, rfl⟩
  | N + 1, b, j, hj => by
    by_cases h : 134 ≤ tkP K b.1 ∧ tkP K b.1 ≤ 137
    · rw [syL_go h]
      have := syL_ne N ((numP T K Pl 9 (stepP T b.1)).2, syT (tkP K b.1) m (numP T K Pl 9 (stepP T b.1)).1 b.2.1, syH (tkP K b.1) m (numP T K Pl 9 (stepP T b.1)).1 b.2.2) j hj
      rw [this.1, this.2]
      exact ⟨(sy_ne hj).1, (sy_ne hj).2⟩
    · rw [syL_stop h]
      exact ⟨rfl, rfl⟩
end
section
variable (d : Nat) (sh : mbSh) (ct : mbCt) {f K Pl E : Int → Int} {n T : Int} {a : PS × BS}
theorem tw_ends (S : SH sh) (B : MB ct f n T K Pl E a) (hg : gd T a.1) : Mt YX12_ends (d + 7) [.inr (.inr 92)] sh sh ct (pN fun c => MB c f n T K Pl E (lnEnd T K Pl a) ∧ mlF ct c) := by
  obtain ⟨M, hF⟩ := B
  have s96 : shA sh 96 = some (20, 1040) := S.at _ rfl
  have hN := takeNC (K := K) (Pl := Pl) (x := 59) hg
  generalize hPo : (pN fun c => MB c f n T K Pl E (lnEnd T K Pl a) ∧ mlF ct c) = Po
  have tail : ∀ c, MR c f n T K Pl E (takeP T K Pl 59 a.1) → mrF ct c → G (mkK YX12_ends (d + 7) sh sh Po) 14 [some (.inr (.inr 92))] [] sh c := by
    intro c M2 f2
    have L2 := M2.1
    refine g_aload_n (q := 15) dX12_ends_14 rfl rfl ?_
    refine g_getA (q := 18) (kI := 4) fX12_24 (by first | assumption | exact S.at _ rfl) dX12_ends_15 rfl rfl (by first | assumption | exact L.at _ _ rfl | exact LK.at (by assumption) _ _ rfl | ((repeat first | rewrite [wr_na (by decide)] | rewrite [wr_nk (by decide)] | rewrite [wa_na (by decide)]); first | assumption | exact LK.at (by assumption) _ _ rfl) | exact rfl) ?_
    refine g_iconst (q := 19) dX12_ends_18 rfl ?_
    refine g_dup2 (q := 20) dX12_ends_19 rfl rfl rfl ?_
    refine g_iaload (q := 21) (by first | assumption | exact S.at _ rfl) (by omega) (by omega) (by omega) dX12_ends_20 rfl ?_
    refine g_iconst (q := 22) dX12_ends_21 rfl ?_
    refine g_iadd (q := 23) dX12_ends_22 rfl ?_
    refine g_iastore (q := 24) (by first | assumption | exact S.at _ rfl) (by omega) (by omega) (by omega) dX12_ends_23 rfl ?_
    refine g_return dX12_ends_24 rfl ?_
    rw [← hPo]
    refine ⟨rfl, ⟨M2.w96 (by decide), fun z => ?_⟩, f2.ml.tr mlF.w96⟩
    have h := hF (hN.w z)
    have e0 : c 96 0 = a.2.1 5 := by rw [f2.2.1 0 (by decide)]; exact h.1.1
    rw [e0]
    exact (frB.eq h (fun j _ hj => f2.2.1 j hj)).nu (by decide)
  refine Mt.of rfl (Nat.le_of_ble_eq_true rfl) ?_
  show G _ 0 [some (.inr (.inr 92))] [] sh ct
  refine g_aload_n (q := 1) dX12_ends_0 rfl rfl ?_
  refine g_bipush (q := 3) dX12_ends_1 (by decide +kernel) rfl ?_
  refine g_callV (q := 6) lX12_169 mX12_eats nX12_eats rfl (tw_eats 0 sh _ S M hg (x := 30) (y := 59) (by decide) (by decide)) (by first | assumption | exact S.at _ rfl) rfl rfl shLe.rf (rmOk.mk (by omega) (by first | exact shLe.rf | assumption)) (Nat.le_of_ble_eq_true rfl) dX12_ends_3 rfl rfl (kI fun v c3 hp => ?_)
  obtain ⟨hp, f3⟩ := hp
  rcases hp with ⟨ht, rfl, M3⟩ | ⟨ht, rfl, M3⟩
  · refine g_if_ne (q := 9) (tg := 14) dX12_ends_6 (by decide) rfl (fun c_6 => ?_) (fun c_6 => ?_)
    · refine tail _ ?_ f3
      unfold takeP
      rw [if_pos ht]
      exact M3
    · exact absurd c_6 (by decide)
  · refine g_if_ne (q := 9) (tg := 14) dX12_ends_6 (by decide) rfl (fun c_6 => ?_) (fun c_6 => ?_)
    · exact absurd rfl c_6
    · refine g_aload_n (q := 10) dX12_ends_9 rfl rfl ?_
      refine g_iconst (q := 11) dX12_ends_10 rfl ?_
      refine g_callV (q := 14) lX12_146 mX12_fails nX12_fails rfl (tw_fails 0 sh _ S M3 (k := 2) (by decide)) (by first | assumption | exact S.at _ rfl) rfl rfl shLe.rf (rmOk.mk (by omega) (by first | exact shLe.rf | assumption)) (Nat.le_of_ble_eq_true rfl) dX12_ends_11 rfl rfl (kN fun c4 hp => ?_)
      refine tail _ ?_ (f3.tr hp.2)
      unfold takeP
      rw [if_neg ht]
      exact hp.1
theorem tw_readMember (S : SH sh) (B : MB ct f n T K Pl E a) (hI : bkRi T a) (ht : tkP K a.1 = 131) : Mt YX12_readMember (d + 7) [.inr (.inr 92)] sh sh ct (pN fun c => MB c f n T K Pl E (lineB T K Pl a) ∧ mlF ct c) := by
  obtain ⟨M, hF⟩ := B
  have L := M.1
  have hg := hI.1
  have hw := tk_w (K := K) (σ := a.1) (by omega)
  have F := hF hw
  have R := hI.2 hw
  have m01 := R.1.2.2.1
  have e1 : ct 96 1 = a.2.1 2 := F.1.2.1
  have s96 : shA sh 96 = some (20, 1040) := S.at _ rfl
  have hE : lineB T K Pl a = (if 6 ≤ a.2.1 2 then (failP K Pl 4 a.1, a.2) else ((mkL T K Pl (a.2.1 2) T.toNat (stepP T a.1, a.2.2.1)).1, upP a.2.1 2 (a.2.1 2 + 1), (mkL T K Pl (a.2.1 2) T.toNat (stepP T a.1, a.2.2.1)).2, a.2.2.2)) := by unfold lineB; rw [if_pos ht]
  generalize hPo : (pN fun c => MB c f n T K Pl E (lineB T K Pl a) ∧ mlF ct c) = Po
  generalize hm : a.2.1 2 = m at m01 e1 hE
  refine Mt.of rfl (Nat.le_of_ble_eq_true rfl) ?_
  show G _ 0 [some (.inr (.inr 92)), none] [] sh ct
  refine g_aload_n (q := 1) dX12_readMember_0 rfl rfl ?_
  refine g_getA (q := 4) (kI := 4) fX12_24 (by first | assumption | exact S.at _ rfl) dX12_readMember_1 rfl rfl (by first | assumption | exact L.at _ _ rfl | exact LK.at (by assumption) _ _ rfl | ((repeat first | rewrite [wr_na (by decide)] | rewrite [wr_nk (by decide)] | rewrite [wa_na (by decide)]); first | assumption | exact LK.at (by assumption) _ _ rfl) | exact rfl) ?_
  refine g_iconst (q := 5) dX12_readMember_4 rfl ?_
  refine g_iaload (q := 6) (by first | assumption | exact S.at _ rfl) (by omega) (by omega) (by omega) dX12_readMember_5 rfl ?_
  rw [e1]
  refine s_istore_n_2_1 (q := 7) dX12_readMember_6 rfl rfl rfl ?_
  refine g_iload_n (q := 8) dX12_readMember_7 rfl rfl ?_
  refine g_bipush (q := 10) dX12_readMember_8 (by decide +kernel) rfl ?_
  refine g_icmp_ne (q := 13) (tg := 18) dX12_readMember_10 (by decide) rfl (fun c_10 => ?_) (fun c_10 => ?_)
  · rw [w32_id (x := m) (by omega) (by omega), show w32 6 = 6 from rfl] at c_10
    rw [if_neg (by omega)] at hE
    refine g_aload_n (q := 19) dX12_readMember_18 rfl rfl ?_
    refine g_getI (q := 22) (kI := 11) fX12_134 (by first | assumption | exact S.at _ rfl) dX12_readMember_19 rfl rfl ?_
    rw [M.w, hw]
    refine g_if_eq (q := 25) (tg := 26) dX12_readMember_22 (by decide) rfl (fun c_22 => ?_) (fun c_22 => ?_)
    · refine g_aload_n (q := 27) dX12_readMember_26 rfl rfl ?_
      refine g_callV (q := 30) lX12_143 mX12_next nX12_next rfl (tw_nextM 0 sh _ S M hg (by omega) (by omega) (by omega)) (by first | assumption | exact S.at _ rfl) rfl rfl shLe.rf (rmOk.mk (by omega) (by first | exact shLe.rf | assumption)) (Nat.le_of_ble_eq_true rfl) dX12_readMember_27 rfl rfl (kN fun c1 hp => ?_)
      obtain ⟨M1, f1⟩ := hp
      have g1 := (stepP_gd hg).1
      generalize hRR : mkL T K Pl m T.toNat (stepP T a.1, a.2.2.1) = RR at hE
      have hne : ∀ j, j ≠ m → RR.2 j = a.2.2.1 j := fun j hj => by rw [← hRR]; exact mkL_ne _ _ j hj
      have exit : ∀ c, MR c f n T K Pl E RR.1 → (∀ j, 0 ≤ j → j < 139 → j ≠ 32 + m → c 96 j = ct 96 j) → (RR.1.2.1 = 0 → c 96 (32 + m) = RR.2 m) → mlF ct c → G (mkK YX12_readMember (d + 7) sh sh Po) 64 [some (.inr (.inr 92)), some (.inl m)] [] sh c := by
        intro c M2 e2 h2 f2
        have L2 := M2.1
        refine g_aload_n (q := 65) dX12_readMember_64 rfl rfl ?_
        refine g_getI (q := 68) (kI := 11) fX12_134 (by first | assumption | exact S.at _ rfl) dX12_readMember_65 rfl rfl ?_
        rw [M2.w]
        refine g_if_ne (q := 71) (tg := 81) dX12_readMember_68 (by decide) rfl (fun c_68 => ?_) (fun c_68 => ?_)
        · have hw2 : ¬ RR.1.2.1 = 0 := fun z => c_68 (M2.wz.mpr z)
          refine g_return dX12_readMember_81 rfl ?_
          rw [← hPo, hE]
          exact ⟨rfl, ⟨M2, fun z => absurd z hw2⟩, f2⟩
        · have hw2 : RR.1.2.1 = 0 := M2.wz.mp c_68
          refine g_aload_n (q := 72) dX12_readMember_71 rfl rfl ?_
          refine g_getA (q := 75) (kI := 4) fX12_24 (by first | assumption | exact S.at _ rfl) dX12_readMember_72 rfl rfl (by first | assumption | exact L.at _ _ rfl | exact LK.at (by assumption) _ _ rfl | ((repeat first | rewrite [wr_na (by decide)] | rewrite [wr_nk (by decide)] | rewrite [wa_na (by decide)]); first | assumption | exact LK.at (by assumption) _ _ rfl) | exact rfl) ?_
          refine g_iconst (q := 76) dX12_readMember_75 rfl ?_
          refine g_dup2 (q := 77) dX12_readMember_76 rfl rfl rfl ?_
          refine g_iaload (q := 78) (by first | assumption | exact S.at _ rfl) (by omega) (by omega) (by omega) dX12_readMember_77 rfl ?_
          refine g_iconst (q := 79) dX12_readMember_78 rfl ?_
          refine g_iadd (q := 80) dX12_readMember_79 rfl ?_
          refine g_iastore (q := 81) (by first | assumption | exact S.at _ rfl) (by omega) (by omega) (by omega) dX12_readMember_80 rfl ?_
          refine g_return dX12_readMember_81 rfl ?_
          rw [← hPo, hE]
          refine ⟨rfl, ⟨M2.w96 (by decide), fun _ => ?_⟩, f2.tr mlF.w96⟩
          rw [e2 1 (by decide) (by decide) (by omega), e1]
          exact (frB.mar F (by omega) (by omega) e2 (h2 hw2) hne).nu (by decide)
      refine g_wh (α := PS × (Int → Int)) [some (.inr (.inr 92)), some (.inl m)] (fun N b c => MR c f n T K Pl E b.1 ∧ gd T b.1 ∧ (∀ j, 0 ≤ j → j < 139 → j ≠ 32 + m → c 96 j = ct 96 j) ∧ (b.1.2.1 = 0 → c 96 (32 + m) = b.2 m) ∧ mlF ct c ∧ (b.1.2.1 = 0 → T ≤ b.1.1 + N) ∧ mkL T K Pl m N b = RR) ?_ T.toNat (stepP T a.1, a.2.2.1) _ _ ⟨M1, g1, fun j _ hj _ => f1.2.1 j hj, fun _ => ?_, f1.ml, fun _ => by have := g1.1.1; dsimp only; omega, hRR⟩ (lsSub_rf _)
      · rintro N b c ⟨M2, g2, e2, h2, f2, hN, hb⟩ kk
        have L2 := M2.1
        refine g_aload_n (q := 31) dX12_readMember_30 rfl rfl ?_
        refine g_getI (q := 34) (kI := 11) fX12_134 (by first | assumption | exact S.at _ rfl) dX12_readMember_31 rfl rfl ?_
        rw [M2.w]
        refine g_if_ne (q := 37) (tg := 64) dX12_readMember_34 (by decide) rfl (fun c_34 => ?_) (fun c_34 => ?_)
        · have hw2 : ¬ b.1.2.1 = 0 := fun z => c_34 (M2.wz.mpr z)
          rw [mkL_stop (by rw [tk_stop hw2]; decide)] at hb
          subst hb
          exact exit c M2 e2 h2 f2
        · have hw2 : b.1.2.1 = 0 := M2.wz.mp c_34
          obtain ⟨N', rfl⟩ : ∃ N', N = N' + 1 := ⟨N - 1, by have := hN hw2; have := g2.1.2; omega⟩
          refine g_aload_n (q := 38) dX12_readMember_37 rfl rfl ?_
          refine g_iconst (q := 39) dX12_readMember_38 rfl ?_
          refine g_callV (q := 42) lX12_169 mX12_eats nX12_eats rfl (tw_eats 0 sh _ S M2 g2 (x := 4) (y := 132) (by decide) (by decide)) (by first | assumption | exact S.at _ rfl) rfl rfl shLe.rf (rmOk.mk (by omega) (by first | exact shLe.rf | assumption)) (Nat.le_of_ble_eq_true rfl) dX12_readMember_39 rfl rfl (kI fun v c3 hp => ?_)
          obtain ⟨hp, f3⟩ := hp
          have L3 : LK c3 := f3.L L2
          have e3 : ∀ j, 0 ≤ j → j < 139 → j ≠ 32 + m → c3 96 j = ct 96 j := fun j j0 j1 j2 => (f3.2.1 j j1).trans (e2 j j0 j1 j2)
          rcases hp with ⟨ht2, rfl, M3⟩ | ⟨ht2, rfl, M3⟩
          · refine g_if_eq (q := 45) (tg := 64) dX12_readMember_42 (by decide) rfl (fun c_42 => ?_) (fun c_42 => ?_)
            · exact absurd c_42 (by decide)
            · have g3 := (stepP_gd g2).1
              have st := step_go M2.kd.1 g2 (by omega) (by omega) (by omega)
              have hs1 : (stepP T b.1).1 = b.1.1 + 1 := by rw [st.2.2]
              obtain ⟨nc, -⟩ := numNC (K := K) (Pl := Pl) (most := 9) g3
              refine g_aload_n (q := 46) dX12_readMember_45 rfl rfl ?_
              refine g_getA (q := 49) (kI := 4) fX12_24 (by first | assumption | exact S.at _ rfl) dX12_readMember_46 rfl rfl (by first | assumption | exact L.at _ _ rfl | exact LK.at (by assumption) _ _ rfl | ((repeat first | rewrite [wr_na (by decide)] | rewrite [wr_nk (by decide)] | rewrite [wa_na (by decide)]); first | assumption | exact LK.at (by assumption) _ _ rfl) | exact rfl) ?_
              refine g_bipush (q := 51) dX12_readMember_49 (by decide +kernel) rfl ?_
              refine g_iload_n (q := 52) dX12_readMember_51 rfl rfl ?_
              refine g_iadd (q := 53) dX12_readMember_52 rfl ?_
              refine g_aload_n (q := 54) dX12_readMember_53 rfl rfl ?_
              refine g_iconst (q := 55) dX12_readMember_54 rfl ?_
              refine g_bipush (q := 57) dX12_readMember_55 (by decide +kernel) rfl ?_
              refine g_callV (q := 60) lX12_187 mX12_takes nX12_takes rfl (tw_takes 0 sh _ S M3 g3 (most := 9) (by decide)) (by first | assumption | exact S.at _ rfl) rfl rfl shLe.rf (rmOk.mk (by omega) (by first | exact shLe.rf | assumption)) (Nat.le_of_ble_eq_true rfl) dX12_readMember_57 rfl rfl (kI fun v c4 hp => ?_)
              obtain ⟨hv, M4, f4⟩ := hp
              refine g_iastore (q := 61) (by first | assumption | exact S.at _ rfl) (by omega) (by omega) (by omega) dX12_readMember_60 rfl ?_
              refine g_goto (q := 30) dX12_readMember_61 (by decide) ?_
              refine kk N' ((numP T K Pl 9 (stepP T b.1)).2, upP b.2 m (numP T K Pl 9 (stepP T b.1)).1) _ _ (by omega) (lsSub_rf _) ⟨M4.w96 (by omega), nc.1, fun j j0 j1 j2 => ?_, fun z => ?_, ((f2.tr f3.ml).tr f4.ml).tr mlF.w96, fun z => ?_, ?_⟩
              · rw [wr_nk j2, f4.2.1 j j1]
                exact e3 j j0 j1 j2
              · dsimp only
                rw [wr_eq, upP_eq]
                exact hv z
              · have := hN hw2
                have := nc.2.1
                dsimp only
                omega
              · rw [← hb, mkL_go ht2]
          · rw [mkL_stop ht2] at hb
            subst hb
            refine g_if_eq (q := 45) (tg := 64) dX12_readMember_42 (by decide) rfl (fun c_42 => ?_) (fun c_42 => ?_)
            · exact exit c3 M3 e3 (fun z => by rw [f3.2.1 _ (by omega)]; exact h2 z) (f2.tr f3.ml)
            · exact absurd rfl c_42
      · dsimp only
        rw [f1.2.1 _ (by omega)]
        exact F.2.2.2.1 m (by omega) (by omega)
    · exact absurd rfl c_22
  · rw [w32_id (x := m) (by omega) (by omega), show w32 6 = 6 from rfl] at c_10
    rw [if_pos (by omega)] at hE
    refine g_aload_n (q := 14) dX12_readMember_13 rfl rfl ?_
    refine g_iconst (q := 15) dX12_readMember_14 rfl ?_
    refine g_callV (q := 18) lX12_146 mX12_fails nX12_fails rfl (tw_fails 0 sh _ S M (k := 4) (by decide)) (by first | assumption | exact S.at _ rfl) rfl rfl shLe.rf (rmOk.mk (by omega) (by first | exact shLe.rf | assumption)) (Nat.le_of_ble_eq_true rfl) dX12_readMember_15 rfl rfl (kN fun c1 hp => ?_)
    obtain ⟨M1, f1⟩ := hp
    have L1 := M1.1
    have hw2 : ¬ (failP K Pl 4 a.1).2.1 = 0 := failP_w (by decide)
    refine g_aload_n (q := 19) dX12_readMember_18 rfl rfl ?_
    refine g_getI (q := 22) (kI := 11) fX12_134 (by first | assumption | exact S.at _ rfl) dX12_readMember_19 rfl rfl ?_
    rw [M1.w]
    refine g_if_eq (q := 25) (tg := 26) dX12_readMember_22 (by decide) rfl (fun c_22 => ?_) (fun c_22 => ?_)
    · exact absurd (M1.wz.mp c_22) hw2
    · refine g_return dX12_readMember_25 rfl ?_
      rw [← hPo, hE]
      exact ⟨rfl, ⟨M1, fun z => absurd z hw2⟩, f1.ml⟩
end
