/-! the reference: trays, images, counts -/
theorem dX12_cut_0 : decode cX12_cut 0 = .ok (.iload_n 2, 1) := by decide +kernel
theorem dX12_cut_1 : decode cX12_cut 1 = .ok (.ifCond .ne 10, 3) := by decide +kernel
theorem dX12_cut_4 : decode cX12_cut 4 = .ok (.lload_n 0, 1) := by decide +kernel
theorem dX12_cut_5 : decode cX12_cut 5 = .ok (.l2i, 1) := by decide +kernel
theorem dX12_cut_6 : decode cX12_cut 6 = .ok (.i2b, 1) := by decide +kernel
theorem dX12_cut_7 : decode cX12_cut 7 = .ok (.i2l, 1) := by decide +kernel
theorem dX12_cut_8 : decode cX12_cut 8 = .ok (.goto 27, 3) := by decide +kernel
theorem dX12_cut_11 : decode cX12_cut 11 = .ok (.iload_n 2, 1) := by decide +kernel
theorem dX12_cut_12 : decode cX12_cut 12 = .ok (.iconst 1, 1) := by decide +kernel
theorem dX12_cut_13 : decode cX12_cut 13 = .ok (.if_icmp .ne 10, 3) := by decide +kernel
theorem dX12_cut_16 : decode cX12_cut 16 = .ok (.lload_n 0, 1) := by decide +kernel
theorem dX12_cut_17 : decode cX12_cut 17 = .ok (.l2i, 1) := by decide +kernel
theorem dX12_cut_18 : decode cX12_cut 18 = .ok (.i2s, 1) := by decide +kernel
theorem dX12_cut_19 : decode cX12_cut 19 = .ok (.i2l, 1) := by decide +kernel
theorem dX12_cut_20 : decode cX12_cut 20 = .ok (.goto 15, 3) := by decide +kernel
theorem dX12_cut_23 : decode cX12_cut 23 = .ok (.iload_n 2, 1) := by decide +kernel
theorem dX12_cut_24 : decode cX12_cut 24 = .ok (.iconst 2, 1) := by decide +kernel
theorem dX12_cut_25 : decode cX12_cut 25 = .ok (.if_icmp .ne 9, 3) := by decide +kernel
theorem dX12_cut_28 : decode cX12_cut 28 = .ok (.lload_n 0, 1) := by decide +kernel
theorem dX12_cut_29 : decode cX12_cut 29 = .ok (.l2i, 1) := by decide +kernel
theorem dX12_cut_30 : decode cX12_cut 30 = .ok (.i2l, 1) := by decide +kernel
theorem dX12_cut_31 : decode cX12_cut 31 = .ok (.goto 4, 3) := by decide +kernel
theorem dX12_cut_34 : decode cX12_cut 34 = .ok (.lload_n 0, 1) := by decide +kernel
theorem dX12_cut_35 : decode cX12_cut 35 = .ok (.lreturn, 1) := by decide +kernel
theorem dX12_numbers_0 : decode cX12_numbers 0 = .ok (.aload_n 0, 1) := by decide +kernel
theorem dX12_numbers_1 : decode cX12_numbers 1 = .ok (.iconst 0, 1) := by decide +kernel
theorem dX12_numbers_2 : decode cX12_numbers 2 = .ok (.putfield 1, 3) := by decide +kernel
theorem dX12_numbers_5 : decode cX12_numbers 5 = .ok (.iload_n 1, 1) := by decide +kernel
theorem dX12_numbers_6 : decode cX12_numbers 6 = .ok (.i2l, 1) := by decide +kernel
theorem dX12_numbers_7 : decode cX12_numbers 7 = .ok (.lconst 0, 1) := by decide +kernel
theorem dX12_numbers_8 : decode cX12_numbers 8 = .ok (.ldc2_w 307, 3) := by decide +kernel
theorem dX12_numbers_11 : decode cX12_numbers 11 = .ok (.invokestatic 150, 3) := by decide +kernel
theorem dX12_numbers_14 : decode cX12_numbers 14 = .ok (.ifCond .eq 15, 3) := by decide +kernel
theorem dX12_numbers_17 : decode cX12_numbers 17 = .ok (.iload_n 2, 1) := by decide +kernel
theorem dX12_numbers_18 : decode cX12_numbers 18 = .ok (.i2l, 1) := by decide +kernel
theorem dX12_numbers_19 : decode cX12_numbers 19 = .ok (.lconst 0, 1) := by decide +kernel
theorem dX12_numbers_20 : decode cX12_numbers 20 = .ok (.ldc2_w 307, 3) := by decide +kernel
theorem dX12_numbers_23 : decode cX12_numbers 23 = .ok (.invokestatic 150, 3) := by decide +kernel
theorem dX12_numbers_26 : decode cX12_numbers 26 = .ok (.ifCond .ne 6, 3) := by decide +kernel
theorem dX12_numbers_29 : decode cX12_numbers 29 = .ok (.bipush (-2), 2) := by decide +kernel
theorem dX12_numbers_31 : decode cX12_numbers 31 = .ok (.ireturn, 1) := by decide +kernel
theorem dX12_numbers_32 : decode cX12_numbers 32 = .ok (.iload_n 3, 1) := by decide +kernel
theorem dX12_numbers_33 : decode cX12_numbers 33 = .ok (.i2l, 1) := by decide +kernel
theorem dX12_numbers_34 : decode cX12_numbers 34 = .ok (.lconst 0, 1) := by decide +kernel
theorem dX12_numbers_35 : decode cX12_numbers 35 = .ok (.ldc2_w 325, 3) := by decide +kernel
theorem dX12_numbers_38 : decode cX12_numbers 38 = .ok (.invokestatic 150, 3) := by decide +kernel
theorem dX12_numbers_41 : decode cX12_numbers 41 = .ok (.ifCond .ne 6, 3) := by decide +kernel
theorem dX12_numbers_44 : decode cX12_numbers 44 = .ok (.bipush (-3), 2) := by decide +kernel
theorem dX12_numbers_46 : decode cX12_numbers 46 = .ok (.ireturn, 1) := by decide +kernel
theorem dX12_numbers_47 : decode cX12_numbers 47 = .ok (.aload_n 0, 1) := by decide +kernel
theorem dX12_numbers_48 : decode cX12_numbers 48 = .ok (.getfield 75, 3) := by decide +kernel
theorem dX12_numbers_51 : decode cX12_numbers 51 = .ok (.iload_n 1, 1) := by decide +kernel
theorem dX12_numbers_52 : decode cX12_numbers 52 = .ok (.iload_n 2, 1) := by decide +kernel
theorem dX12_numbers_53 : decode cX12_numbers 53 = .ok (.iastore, 1) := by decide +kernel
theorem dX12_numbers_54 : decode cX12_numbers 54 = .ok (.aload_n 0, 1) := by decide +kernel
theorem dX12_numbers_55 : decode cX12_numbers 55 = .ok (.getfield 78, 3) := by decide +kernel
theorem dX12_numbers_58 : decode cX12_numbers 58 = .ok (.iload_n 1, 1) := by decide +kernel
theorem dX12_numbers_59 : decode cX12_numbers 59 = .ok (.iload_n 3, 1) := by decide +kernel
theorem dX12_numbers_60 : decode cX12_numbers 60 = .ok (.iastore, 1) := by decide +kernel
theorem dX12_numbers_61 : decode cX12_numbers 61 = .ok (.iconst 0, 1) := by decide +kernel
theorem dX12_numbers_62 : decode cX12_numbers 62 = .ok (.istore 4, 2) := by decide +kernel
theorem dX12_numbers_64 : decode cX12_numbers 64 = .ok (.iload 4, 2) := by decide +kernel
theorem dX12_numbers_66 : decode cX12_numbers 66 = .ok (.iload_n 3, 1) := by decide +kernel
theorem dX12_numbers_67 : decode cX12_numbers 67 = .ok (.if_icmp .ge 22, 3) := by decide +kernel
theorem dX12_numbers_70 : decode cX12_numbers 70 = .ok (.aload_n 0, 1) := by decide +kernel
theorem dX12_numbers_71 : decode cX12_numbers 71 = .ok (.getfield 81, 3) := by decide +kernel
theorem dX12_numbers_74 : decode cX12_numbers 74 = .ok (.bipush 40, 2) := by decide +kernel
theorem dX12_numbers_76 : decode cX12_numbers 76 = .ok (.iload_n 1, 1) := by decide +kernel
theorem dX12_numbers_77 : decode cX12_numbers 77 = .ok (.imul, 1) := by decide +kernel
theorem dX12_numbers_78 : decode cX12_numbers 78 = .ok (.iload 4, 2) := by decide +kernel
theorem dX12_numbers_80 : decode cX12_numbers 80 = .ok (.iadd, 1) := by decide +kernel
theorem dX12_numbers_81 : decode cX12_numbers 81 = .ok (.lconst 0, 1) := by decide +kernel
theorem dX12_numbers_82 : decode cX12_numbers 82 = .ok (.lastore, 1) := by decide +kernel
theorem dX12_numbers_83 : decode cX12_numbers 83 = .ok (.iinc 4 1, 3) := by decide +kernel
theorem dX12_numbers_86 : decode cX12_numbers 86 = .ok (.goto (-22), 3) := by decide +kernel
theorem dX12_numbers_89 : decode cX12_numbers 89 = .ok (.iconst 0, 1) := by decide +kernel
theorem dX12_numbers_90 : decode cX12_numbers 90 = .ok (.ireturn, 1) := by decide +kernel
theorem dX12_write_0 : decode cX12_write 0 = .ok (.aload_n 0, 1) := by decide +kernel
theorem dX12_write_1 : decode cX12_write 1 = .ok (.iconst 0, 1) := by decide +kernel
theorem dX12_write_2 : decode cX12_write 2 = .ok (.putfield 1, 3) := by decide +kernel
theorem dX12_write_5 : decode cX12_write 5 = .ok (.aload_n 0, 1) := by decide +kernel
theorem dX12_write_6 : decode cX12_write 6 = .ok (.iload_n 1, 1) := by decide +kernel
theorem dX12_write_7 : decode cX12_write 7 = .ok (.invokevirtual 309, 3) := by decide +kernel
theorem dX12_write_10 : decode cX12_write 10 = .ok (.istore 5, 2) := by decide +kernel
theorem dX12_write_12 : decode cX12_write 12 = .ok (.iload 5, 2) := by decide +kernel
theorem dX12_write_14 : decode cX12_write 14 = .ok (.ifCond .eq 7, 3) := by decide +kernel
theorem dX12_write_17 : decode cX12_write 17 = .ok (.iload 5, 2) := by decide +kernel
theorem dX12_write_19 : decode cX12_write 19 = .ok (.i2l, 1) := by decide +kernel
theorem dX12_write_20 : decode cX12_write 20 = .ok (.lreturn, 1) := by decide +kernel
theorem dX12_write_21 : decode cX12_write 21 = .ok (.iload_n 2, 1) := by decide +kernel
theorem dX12_write_22 : decode cX12_write 22 = .ok (.i2l, 1) := by decide +kernel
theorem dX12_write_23 : decode cX12_write 23 = .ok (.lconst 0, 1) := by decide +kernel
theorem dX12_write_24 : decode cX12_write 24 = .ok (.aload_n 0, 1) := by decide +kernel
theorem dX12_write_25 : decode cX12_write 25 = .ok (.getfield 78, 3) := by decide +kernel
theorem dX12_write_28 : decode cX12_write 28 = .ok (.iload_n 1, 1) := by decide +kernel
theorem dX12_write_29 : decode cX12_write 29 = .ok (.iaload, 1) := by decide +kernel
theorem dX12_write_30 : decode cX12_write 30 = .ok (.iconst 1, 1) := by decide +kernel
theorem dX12_write_31 : decode cX12_write 31 = .ok (.isub, 1) := by decide +kernel
theorem dX12_write_32 : decode cX12_write 32 = .ok (.i2l, 1) := by decide +kernel
theorem dX12_write_33 : decode cX12_write 33 = .ok (.invokestatic 150, 3) := by decide +kernel
theorem dX12_write_36 : decode cX12_write 36 = .ok (.ifCond .ne 7, 3) := by decide +kernel
theorem dX12_write_39 : decode cX12_write 39 = .ok (.ldc2_w 445, 3) := by decide +kernel
theorem dX12_write_42 : decode cX12_write 42 = .ok (.lreturn, 1) := by decide +kernel
theorem dX12_write_43 : decode cX12_write 43 = .ok (.aload_n 0, 1) := by decide +kernel
theorem dX12_write_44 : decode cX12_write 44 = .ok (.getfield 81, 3) := by decide +kernel
theorem dX12_write_47 : decode cX12_write 47 = .ok (.bipush 40, 2) := by decide +kernel
theorem dX12_write_49 : decode cX12_write 49 = .ok (.iload_n 1, 1) := by decide +kernel
theorem dX12_write_50 : decode cX12_write 50 = .ok (.imul, 1) := by decide +kernel
theorem dX12_write_51 : decode cX12_write 51 = .ok (.iload_n 2, 1) := by decide +kernel
theorem dX12_write_52 : decode cX12_write 52 = .ok (.iadd, 1) := by decide +kernel
theorem dX12_write_53 : decode cX12_write 53 = .ok (.lload_n 3, 1) := by decide +kernel
theorem dX12_write_54 : decode cX12_write 54 = .ok (.aload_n 0, 1) := by decide +kernel
theorem dX12_write_55 : decode cX12_write 55 = .ok (.getfield 75, 3) := by decide +kernel
theorem dX12_write_58 : decode cX12_write 58 = .ok (.iload_n 1, 1) := by decide +kernel
theorem dX12_write_59 : decode cX12_write 59 = .ok (.iaload, 1) := by decide +kernel
theorem dX12_write_60 : decode cX12_write 60 = .ok (.invokestatic 447, 3) := by decide +kernel
theorem dX12_write_63 : decode cX12_write 63 = .ok (.lastore, 1) := by decide +kernel
theorem dX12_write_64 : decode cX12_write 64 = .ok (.aload_n 0, 1) := by decide +kernel
theorem dX12_write_65 : decode cX12_write 65 = .ok (.getfield 81, 3) := by decide +kernel
theorem dX12_write_68 : decode cX12_write 68 = .ok (.bipush 40, 2) := by decide +kernel
theorem dX12_write_70 : decode cX12_write 70 = .ok (.iload_n 1, 1) := by decide +kernel
theorem dX12_write_71 : decode cX12_write 71 = .ok (.imul, 1) := by decide +kernel
theorem dX12_write_72 : decode cX12_write 72 = .ok (.iload_n 2, 1) := by decide +kernel
theorem dX12_write_73 : decode cX12_write 73 = .ok (.iadd, 1) := by decide +kernel
theorem dX12_write_74 : decode cX12_write 74 = .ok (.laload, 1) := by decide +kernel
theorem dX12_write_75 : decode cX12_write 75 = .ok (.lreturn, 1) := by decide +kernel
theorem dX12_lists_0 : decode cX12_lists 0 = .ok (.aload_n 0, 1) := by decide +kernel
theorem dX12_lists_1 : decode cX12_lists 1 = .ok (.iconst 0, 1) := by decide +kernel
theorem dX12_lists_2 : decode cX12_lists 2 = .ok (.putfield 1, 3) := by decide +kernel
theorem dX12_lists_5 : decode cX12_lists 5 = .ok (.aload_n 0, 1) := by decide +kernel
theorem dX12_lists_6 : decode cX12_lists 6 = .ok (.iload_n 1, 1) := by decide +kernel
theorem dX12_lists_7 : decode cX12_lists 7 = .ok (.invokevirtual 309, 3) := by decide +kernel
theorem dX12_lists_10 : decode cX12_lists 10 = .ok (.istore_n 3, 1) := by decide +kernel
theorem dX12_lists_11 : decode cX12_lists 11 = .ok (.iload_n 3, 1) := by decide +kernel
theorem dX12_lists_12 : decode cX12_lists 12 = .ok (.ifCond .eq 5, 3) := by decide +kernel
theorem dX12_lists_15 : decode cX12_lists 15 = .ok (.iload_n 3, 1) := by decide +kernel
theorem dX12_lists_16 : decode cX12_lists 16 = .ok (.ireturn, 1) := by decide +kernel
theorem dX12_lists_17 : decode cX12_lists 17 = .ok (.iload_n 2, 1) := by decide +kernel
theorem dX12_lists_18 : decode cX12_lists 18 = .ok (.invokestatic 358, 3) := by decide +kernel
theorem dX12_lists_21 : decode cX12_lists 21 = .ok (.ifCond .ne 6, 3) := by decide +kernel
theorem dX12_lists_24 : decode cX12_lists 24 = .ok (.bipush (-3), 2) := by decide +kernel
theorem dX12_lists_26 : decode cX12_lists 26 = .ok (.ireturn, 1) := by decide +kernel
theorem dX12_lists_27 : decode cX12_lists 27 = .ok (.aload_n 0, 1) := by decide +kernel
theorem dX12_lists_28 : decode cX12_lists 28 = .ok (.iload_n 2, 1) := by decide +kernel
theorem dX12_lists_29 : decode cX12_lists 29 = .ok (.invokevirtual 361, 3) := by decide +kernel
theorem dX12_lists_32 : decode cX12_lists 32 = .ok (.istore 4, 2) := by decide +kernel
theorem dX12_lists_34 : decode cX12_lists 34 = .ok (.iload 4, 2) := by decide +kernel
theorem dX12_lists_36 : decode cX12_lists 36 = .ok (.iconst (-1), 1) := by decide +kernel
theorem dX12_lists_37 : decode cX12_lists 37 = .ok (.if_icmp .ne 6, 3) := by decide +kernel
theorem dX12_lists_40 : decode cX12_lists 40 = .ok (.bipush (-5), 2) := by decide +kernel
theorem dX12_lists_42 : decode cX12_lists 42 = .ok (.ireturn, 1) := by decide +kernel
theorem dX12_lists_43 : decode cX12_lists 43 = .ok (.iload 4, 2) := by decide +kernel
theorem dX12_lists_45 : decode cX12_lists 45 = .ok (.aload_n 0, 1) := by decide +kernel
theorem dX12_lists_46 : decode cX12_lists 46 = .ok (.getfield 78, 3) := by decide +kernel
theorem dX12_lists_49 : decode cX12_lists 49 = .ok (.iload_n 1, 1) := by decide +kernel
theorem dX12_lists_50 : decode cX12_lists 50 = .ok (.iaload, 1) := by decide +kernel
theorem dX12_lists_51 : decode cX12_lists 51 = .ok (.if_icmp .ge 8, 3) := by decide +kernel
theorem dX12_lists_54 : decode cX12_lists 54 = .ok (.iload 4, 2) := by decide +kernel
theorem dX12_lists_56 : decode cX12_lists 56 = .ok (.goto 9, 3) := by decide +kernel
theorem dX12_lists_59 : decode cX12_lists 59 = .ok (.aload_n 0, 1) := by decide +kernel
theorem dX12_lists_60 : decode cX12_lists 60 = .ok (.getfield 78, 3) := by decide +kernel
theorem dX12_lists_63 : decode cX12_lists 63 = .ok (.iload_n 1, 1) := by decide +kernel
theorem dX12_lists_64 : decode cX12_lists 64 = .ok (.iaload, 1) := by decide +kernel
theorem dX12_lists_65 : decode cX12_lists 65 = .ok (.istore 5, 2) := by decide +kernel
theorem dX12_lists_67 : decode cX12_lists 67 = .ok (.iconst 0, 1) := by decide +kernel
theorem dX12_lists_68 : decode cX12_lists 68 = .ok (.istore 6, 2) := by decide +kernel
theorem dX12_lists_70 : decode cX12_lists 70 = .ok (.iload 6, 2) := by decide +kernel
theorem dX12_lists_72 : decode cX12_lists 72 = .ok (.iload 5, 2) := by decide +kernel
theorem dX12_lists_74 : decode cX12_lists 74 = .ok (.if_icmp .ge 29, 3) := by decide +kernel
theorem dX12_lists_77 : decode cX12_lists 77 = .ok (.aload_n 0, 1) := by decide +kernel
theorem dX12_lists_78 : decode cX12_lists 78 = .ok (.getfield 81, 3) := by decide +kernel
theorem dX12_lists_81 : decode cX12_lists 81 = .ok (.bipush 40, 2) := by decide +kernel
theorem dX12_lists_83 : decode cX12_lists 83 = .ok (.iload_n 1, 1) := by decide +kernel
theorem dX12_lists_84 : decode cX12_lists 84 = .ok (.imul, 1) := by decide +kernel
theorem dX12_lists_85 : decode cX12_lists 85 = .ok (.iload 6, 2) := by decide +kernel
theorem dX12_lists_87 : decode cX12_lists 87 = .ok (.iadd, 1) := by decide +kernel
theorem dX12_lists_88 : decode cX12_lists 88 = .ok (.aload_n 0, 1) := by decide +kernel
theorem dX12_lists_89 : decode cX12_lists 89 = .ok (.getfield 47, 3) := by decide +kernel
theorem dX12_lists_92 : decode cX12_lists 92 = .ok (.iload 6, 2) := by decide +kernel
theorem dX12_lists_94 : decode cX12_lists 94 = .ok (.iaload, 1) := by decide +kernel
theorem dX12_lists_95 : decode cX12_lists 95 = .ok (.i2l, 1) := by decide +kernel
theorem dX12_lists_96 : decode cX12_lists 96 = .ok (.lastore, 1) := by decide +kernel
theorem dX12_lists_97 : decode cX12_lists 97 = .ok (.iinc 6 1, 3) := by decide +kernel
theorem dX12_lists_100 : decode cX12_lists 100 = .ok (.goto (-30), 3) := by decide +kernel
theorem dX12_lists_103 : decode cX12_lists 103 = .ok (.iload 5, 2) := by decide +kernel
theorem dX12_lists_105 : decode cX12_lists 105 = .ok (.ireturn, 1) := by decide +kernel
theorem dX12_image_0 : decode cX12_image 0 = .ok (.aload_n 0, 1) := by decide +kernel
theorem dX12_image_1 : decode cX12_image 1 = .ok (.iconst 0, 1) := by decide +kernel
theorem dX12_image_2 : decode cX12_image 2 = .ok (.putfield 1, 3) := by decide +kernel
theorem dX12_image_5 : decode cX12_image 5 = .ok (.iload_n 1, 1) := by decide +kernel
theorem dX12_image_6 : decode cX12_image 6 = .ok (.i2l, 1) := by decide +kernel
theorem dX12_image_7 : decode cX12_image 7 = .ok (.lconst 0, 1) := by decide +kernel
theorem dX12_image_8 : decode cX12_image 8 = .ok (.lconst 1, 1) := by decide +kernel
theorem dX12_image_9 : decode cX12_image 9 = .ok (.invokestatic 150, 3) := by decide +kernel
theorem dX12_image_12 : decode cX12_image 12 = .ok (.ifCond .ne 6, 3) := by decide +kernel
theorem dX12_image_15 : decode cX12_image 15 = .ok (.bipush (-2), 2) := by decide +kernel
theorem dX12_image_17 : decode cX12_image 17 = .ok (.ireturn, 1) := by decide +kernel
theorem dX12_image_18 : decode cX12_image 18 = .ok (.iconst 0, 1) := by decide +kernel
theorem dX12_image_19 : decode cX12_image 19 = .ok (.istore_n 2, 1) := by decide +kernel
theorem dX12_image_20 : decode cX12_image 20 = .ok (.iload_n 2, 1) := by decide +kernel
theorem dX12_image_21 : decode cX12_image 21 = .ok (.sipush 1040, 3) := by decide +kernel
theorem dX12_image_24 : decode cX12_image 24 = .ok (.if_icmp .ge 29, 3) := by decide +kernel
theorem dX12_image_27 : decode cX12_image 27 = .ok (.aload_n 0, 1) := by decide +kernel
theorem dX12_image_28 : decode cX12_image 28 = .ok (.getfield 13, 3) := by decide +kernel
theorem dX12_image_31 : decode cX12_image 31 = .ok (.sipush 1040, 3) := by decide +kernel
theorem dX12_image_34 : decode cX12_image 34 = .ok (.iload_n 1, 1) := by decide +kernel
theorem dX12_image_35 : decode cX12_image 35 = .ok (.iconst 1, 1) := by decide +kernel
theorem dX12_image_36 : decode cX12_image 36 = .ok (.iadd, 1) := by decide +kernel
theorem dX12_image_37 : decode cX12_image 37 = .ok (.imul, 1) := by decide +kernel
theorem dX12_image_38 : decode cX12_image 38 = .ok (.iload_n 2, 1) := by decide +kernel
theorem dX12_image_39 : decode cX12_image 39 = .ok (.iadd, 1) := by decide +kernel
theorem dX12_image_40 : decode cX12_image 40 = .ok (.aload_n 0, 1) := by decide +kernel
theorem dX12_image_41 : decode cX12_image 41 = .ok (.getfield 13, 3) := by decide +kernel
theorem dX12_image_44 : decode cX12_image 44 = .ok (.iload_n 2, 1) := by decide +kernel
theorem dX12_image_45 : decode cX12_image 45 = .ok (.iaload, 1) := by decide +kernel
theorem dX12_image_46 : decode cX12_image 46 = .ok (.iastore, 1) := by decide +kernel
theorem dX12_image_47 : decode cX12_image 47 = .ok (.iinc 2 1, 3) := by decide +kernel
theorem dX12_image_50 : decode cX12_image 50 = .ok (.goto (-30), 3) := by decide +kernel
theorem dX12_image_53 : decode cX12_image 53 = .ok (.aload_n 0, 1) := by decide +kernel
theorem dX12_image_54 : decode cX12_image 54 = .ok (.getfield 17, 3) := by decide +kernel
theorem dX12_image_57 : decode cX12_image 57 = .ok (.iload_n 1, 1) := by decide +kernel
theorem dX12_image_58 : decode cX12_image 58 = .ok (.iconst 1, 1) := by decide +kernel
theorem dX12_image_59 : decode cX12_image 59 = .ok (.bastore, 1) := by decide +kernel
theorem dX12_image_60 : decode cX12_image 60 = .ok (.iconst 0, 1) := by decide +kernel
theorem dX12_image_61 : decode cX12_image 61 = .ok (.ireturn, 1) := by decide +kernel
theorem dX12_restore_0 : decode cX12_restore 0 = .ok (.aload_n 0, 1) := by decide +kernel
theorem dX12_restore_1 : decode cX12_restore 1 = .ok (.iconst 0, 1) := by decide +kernel
theorem dX12_restore_2 : decode cX12_restore 2 = .ok (.putfield 1, 3) := by decide +kernel
theorem dX12_restore_5 : decode cX12_restore 5 = .ok (.iload_n 1, 1) := by decide +kernel
theorem dX12_restore_6 : decode cX12_restore 6 = .ok (.i2l, 1) := by decide +kernel
theorem dX12_restore_7 : decode cX12_restore 7 = .ok (.lconst 0, 1) := by decide +kernel
theorem dX12_restore_8 : decode cX12_restore 8 = .ok (.lconst 1, 1) := by decide +kernel
theorem dX12_restore_9 : decode cX12_restore 9 = .ok (.invokestatic 150, 3) := by decide +kernel
theorem dX12_restore_12 : decode cX12_restore 12 = .ok (.ifCond .ne 6, 3) := by decide +kernel
theorem dX12_restore_15 : decode cX12_restore 15 = .ok (.bipush (-2), 2) := by decide +kernel
theorem dX12_restore_17 : decode cX12_restore 17 = .ok (.ireturn, 1) := by decide +kernel
theorem dX12_restore_18 : decode cX12_restore 18 = .ok (.aload_n 0, 1) := by decide +kernel
theorem dX12_restore_19 : decode cX12_restore 19 = .ok (.getfield 17, 3) := by decide +kernel
theorem dX12_restore_22 : decode cX12_restore 22 = .ok (.iload_n 1, 1) := by decide +kernel
theorem dX12_restore_23 : decode cX12_restore 23 = .ok (.baload, 1) := by decide +kernel
theorem dX12_restore_24 : decode cX12_restore 24 = .ok (.ifCond .ne 6, 3) := by decide +kernel
theorem dX12_restore_27 : decode cX12_restore 27 = .ok (.bipush (-5), 2) := by decide +kernel
theorem dX12_restore_29 : decode cX12_restore 29 = .ok (.ireturn, 1) := by decide +kernel
theorem dX12_restore_30 : decode cX12_restore 30 = .ok (.iconst 0, 1) := by decide +kernel
theorem dX12_restore_31 : decode cX12_restore 31 = .ok (.istore_n 2, 1) := by decide +kernel
theorem dX12_restore_32 : decode cX12_restore 32 = .ok (.iload_n 2, 1) := by decide +kernel
theorem dX12_restore_33 : decode cX12_restore 33 = .ok (.sipush 1040, 3) := by decide +kernel
theorem dX12_restore_36 : decode cX12_restore 36 = .ok (.if_icmp .ge 29, 3) := by decide +kernel
theorem dX12_restore_39 : decode cX12_restore 39 = .ok (.aload_n 0, 1) := by decide +kernel
theorem dX12_restore_40 : decode cX12_restore 40 = .ok (.getfield 13, 3) := by decide +kernel
theorem dX12_restore_43 : decode cX12_restore 43 = .ok (.iload_n 2, 1) := by decide +kernel
theorem dX12_restore_44 : decode cX12_restore 44 = .ok (.aload_n 0, 1) := by decide +kernel
theorem dX12_restore_45 : decode cX12_restore 45 = .ok (.getfield 13, 3) := by decide +kernel
theorem dX12_restore_48 : decode cX12_restore 48 = .ok (.sipush 1040, 3) := by decide +kernel
theorem dX12_restore_51 : decode cX12_restore 51 = .ok (.iload_n 1, 1) := by decide +kernel
theorem dX12_restore_52 : decode cX12_restore 52 = .ok (.iconst 1, 1) := by decide +kernel
theorem dX12_restore_53 : decode cX12_restore 53 = .ok (.iadd, 1) := by decide +kernel
theorem dX12_restore_54 : decode cX12_restore 54 = .ok (.imul, 1) := by decide +kernel
theorem dX12_restore_55 : decode cX12_restore 55 = .ok (.iload_n 2, 1) := by decide +kernel
theorem dX12_restore_56 : decode cX12_restore 56 = .ok (.iadd, 1) := by decide +kernel
theorem dX12_restore_57 : decode cX12_restore 57 = .ok (.iaload, 1) := by decide +kernel
theorem dX12_restore_58 : decode cX12_restore 58 = .ok (.iastore, 1) := by decide +kernel
theorem dX12_restore_59 : decode cX12_restore 59 = .ok (.iinc 2 1, 3) := by decide +kernel
theorem dX12_restore_62 : decode cX12_restore 62 = .ok (.goto (-30), 3) := by decide +kernel
theorem dX12_restore_65 : decode cX12_restore 65 = .ok (.aload_n 0, 1) := by decide +kernel
theorem dX12_restore_66 : decode cX12_restore 66 = .ok (.getfield 13, 3) := by decide +kernel
theorem dX12_restore_69 : decode cX12_restore 69 = .ok (.bipush 38, 2) := by decide +kernel
theorem dX12_restore_71 : decode cX12_restore 71 = .ok (.iconst 0, 1) := by decide +kernel
theorem dX12_restore_72 : decode cX12_restore 72 = .ok (.iastore, 1) := by decide +kernel
theorem dX12_restore_73 : decode cX12_restore 73 = .ok (.iconst 0, 1) := by decide +kernel
theorem dX12_restore_74 : decode cX12_restore 74 = .ok (.ireturn, 1) := by decide +kernel
theorem dX12_marksAll_0 : decode cX12_marksAll 0 = .ok (.iconst 0, 1) := by decide +kernel
theorem dX12_marksAll_1 : decode cX12_marksAll 1 = .ok (.istore_n 1, 1) := by decide +kernel
theorem dX12_marksAll_2 : decode cX12_marksAll 2 = .ok (.iconst 0, 1) := by decide +kernel
theorem dX12_marksAll_3 : decode cX12_marksAll 3 = .ok (.istore_n 2, 1) := by decide +kernel
theorem dX12_marksAll_4 : decode cX12_marksAll 4 = .ok (.iload_n 2, 1) := by decide +kernel
theorem dX12_marksAll_5 : decode cX12_marksAll 5 = .ok (.aload_n 0, 1) := by decide +kernel
theorem dX12_marksAll_6 : decode cX12_marksAll 6 = .ok (.getfield 13, 3) := by decide +kernel
theorem dX12_marksAll_9 : decode cX12_marksAll 9 = .ok (.iconst 1, 1) := by decide +kernel
theorem dX12_marksAll_10 : decode cX12_marksAll 10 = .ok (.iaload, 1) := by decide +kernel
theorem dX12_marksAll_11 : decode cX12_marksAll 11 = .ok (.if_icmp .ge 21, 3) := by decide +kernel
theorem dX12_marksAll_14 : decode cX12_marksAll 14 = .ok (.iload_n 1, 1) := by decide +kernel
theorem dX12_marksAll_15 : decode cX12_marksAll 15 = .ok (.aload_n 0, 1) := by decide +kernel
theorem dX12_marksAll_16 : decode cX12_marksAll 16 = .ok (.getfield 13, 3) := by decide +kernel
theorem dX12_marksAll_19 : decode cX12_marksAll 19 = .ok (.bipush 32, 2) := by decide +kernel
theorem dX12_marksAll_21 : decode cX12_marksAll 21 = .ok (.iload_n 2, 1) := by decide +kernel
theorem dX12_marksAll_22 : decode cX12_marksAll 22 = .ok (.iadd, 1) := by decide +kernel
theorem dX12_marksAll_23 : decode cX12_marksAll 23 = .ok (.iaload, 1) := by decide +kernel
theorem dX12_marksAll_24 : decode cX12_marksAll 24 = .ok (.iadd, 1) := by decide +kernel
theorem dX12_marksAll_25 : decode cX12_marksAll 25 = .ok (.istore_n 1, 1) := by decide +kernel
theorem dX12_marksAll_26 : decode cX12_marksAll 26 = .ok (.iinc 2 1, 3) := by decide +kernel
theorem dX12_marksAll_29 : decode cX12_marksAll 29 = .ok (.goto (-25), 3) := by decide +kernel
theorem dX12_marksAll_32 : decode cX12_marksAll 32 = .ok (.iload_n 1, 1) := by decide +kernel
theorem dX12_marksAll_33 : decode cX12_marksAll 33 = .ok (.ireturn, 1) := by decide +kernel
theorem dX12_count_0 : decode cX12_count 0 = .ok (.aload_n 0, 1) := by decide +kernel
theorem dX12_count_1 : decode cX12_count 1 = .ok (.iconst 0, 1) := by decide +kernel
theorem dX12_count_2 : decode cX12_count 2 = .ok (.putfield 1, 3) := by decide +kernel
theorem dX12_count_5 : decode cX12_count 5 = .ok (.iload_n 1, 1) := by decide +kernel
theorem dX12_count_6 : decode cX12_count 6 = .ok (.tableswitch 141 0 9 #[54, 62, 70, 94, 101, 108, 116, 121, 129, 134], 54) := by decide +kernel
theorem dX12_count_60 : decode cX12_count 60 = .ok (.aload_n 0, 1) := by decide +kernel
theorem dX12_count_61 : decode cX12_count 61 = .ok (.getfield 13, 3) := by decide +kernel
theorem dX12_count_64 : decode cX12_count 64 = .ok (.bipush 28, 2) := by decide +kernel
theorem dX12_count_66 : decode cX12_count 66 = .ok (.iaload, 1) := by decide +kernel
theorem dX12_count_67 : decode cX12_count 67 = .ok (.ireturn, 1) := by decide +kernel
theorem dX12_count_68 : decode cX12_count 68 = .ok (.aload_n 0, 1) := by decide +kernel
theorem dX12_count_69 : decode cX12_count 69 = .ok (.getfield 13, 3) := by decide +kernel
theorem dX12_count_72 : decode cX12_count 72 = .ok (.bipush 29, 2) := by decide +kernel
theorem dX12_count_74 : decode cX12_count 74 = .ok (.iaload, 1) := by decide +kernel
theorem dX12_count_75 : decode cX12_count 75 = .ok (.ireturn, 1) := by decide +kernel
theorem dX12_count_76 : decode cX12_count 76 = .ok (.aload_n 0, 1) := by decide +kernel
theorem dX12_count_77 : decode cX12_count 77 = .ok (.getfield 13, 3) := by decide +kernel
theorem dX12_count_80 : decode cX12_count 80 = .ok (.bipush 30, 2) := by decide +kernel
theorem dX12_count_82 : decode cX12_count 82 = .ok (.iaload, 1) := by decide +kernel
theorem dX12_count_83 : decode cX12_count 83 = .ok (.bipush 6, 2) := by decide +kernel
theorem dX12_count_85 : decode cX12_count 85 = .ok (.if_icmp .ne 7, 3) := by decide +kernel
theorem dX12_count_88 : decode cX12_count 88 = .ok (.iconst (-1), 1) := by decide +kernel
theorem dX12_count_89 : decode cX12_count 89 = .ok (.goto 10, 3) := by decide +kernel
theorem dX12_count_92 : decode cX12_count 92 = .ok (.aload_n 0, 1) := by decide +kernel
theorem dX12_count_93 : decode cX12_count 93 = .ok (.getfield 13, 3) := by decide +kernel
theorem dX12_count_96 : decode cX12_count 96 = .ok (.bipush 30, 2) := by decide +kernel
theorem dX12_count_98 : decode cX12_count 98 = .ok (.iaload, 1) := by decide +kernel
theorem dX12_count_99 : decode cX12_count 99 = .ok (.ireturn, 1) := by decide +kernel
theorem dX12_count_100 : decode cX12_count 100 = .ok (.aload_n 0, 1) := by decide +kernel
theorem dX12_count_101 : decode cX12_count 101 = .ok (.getfield 13, 3) := by decide +kernel
theorem dX12_count_104 : decode cX12_count 104 = .ok (.iconst 1, 1) := by decide +kernel
theorem dX12_count_105 : decode cX12_count 105 = .ok (.iaload, 1) := by decide +kernel
theorem dX12_count_106 : decode cX12_count 106 = .ok (.ireturn, 1) := by decide +kernel
theorem dX12_count_107 : decode cX12_count 107 = .ok (.aload_n 0, 1) := by decide +kernel
theorem dX12_count_108 : decode cX12_count 108 = .ok (.getfield 13, 3) := by decide +kernel
theorem dX12_count_111 : decode cX12_count 111 = .ok (.iconst 2, 1) := by decide +kernel
theorem dX12_count_112 : decode cX12_count 112 = .ok (.iaload, 1) := by decide +kernel
theorem dX12_count_113 : decode cX12_count 113 = .ok (.ireturn, 1) := by decide +kernel
theorem dX12_count_114 : decode cX12_count 114 = .ok (.aload_n 0, 1) := by decide +kernel
theorem dX12_count_115 : decode cX12_count 115 = .ok (.getfield 13, 3) := by decide +kernel
theorem dX12_count_118 : decode cX12_count 118 = .ok (.bipush 31, 2) := by decide +kernel
theorem dX12_count_120 : decode cX12_count 120 = .ok (.iaload, 1) := by decide +kernel
theorem dX12_count_121 : decode cX12_count 121 = .ok (.ireturn, 1) := by decide +kernel
theorem dX12_count_122 : decode cX12_count 122 = .ok (.aload_n 0, 1) := by decide +kernel
theorem dX12_count_123 : decode cX12_count 123 = .ok (.invokevirtual 451, 3) := by decide +kernel
theorem dX12_count_126 : decode cX12_count 126 = .ok (.ireturn, 1) := by decide +kernel
theorem dX12_count_127 : decode cX12_count 127 = .ok (.aload_n 0, 1) := by decide +kernel
theorem dX12_count_128 : decode cX12_count 128 = .ok (.getfield 13, 3) := by decide +kernel
theorem dX12_count_131 : decode cX12_count 131 = .ok (.bipush 38, 2) := by decide +kernel
theorem dX12_count_133 : decode cX12_count 133 = .ok (.iaload, 1) := by decide +kernel
theorem dX12_count_134 : decode cX12_count 134 = .ok (.ireturn, 1) := by decide +kernel
theorem dX12_count_135 : decode cX12_count 135 = .ok (.aload_n 0, 1) := by decide +kernel
theorem dX12_count_136 : decode cX12_count 136 = .ok (.getfield 88, 3) := by decide +kernel
theorem dX12_count_139 : decode cX12_count 139 = .ok (.ireturn, 1) := by decide +kernel
theorem dX12_count_140 : decode cX12_count 140 = .ok (.aload_n 0, 1) := by decide +kernel
theorem dX12_count_141 : decode cX12_count 141 = .ok (.getfield 13, 3) := by decide +kernel
theorem dX12_count_144 : decode cX12_count 144 = .ok (.iconst 0, 1) := by decide +kernel
theorem dX12_count_145 : decode cX12_count 145 = .ok (.iaload, 1) := by decide +kernel
theorem dX12_count_146 : decode cX12_count 146 = .ok (.ireturn, 1) := by decide +kernel
theorem dX12_count_147 : decode cX12_count 147 = .ok (.iconst (-1), 1) := by decide +kernel
theorem dX12_count_148 : decode cX12_count 148 = .ok (.ireturn, 1) := by decide +kernel
def up1 (f : Int → Int) (t v : Int) : Int → Int := fun k => if k = t then v else f k
def upR (vl : Int → Int → Int) (t : Int) (g : Int → Int) : Int → Int → Int := fun k i => if k = t then g i else vl k i
/-- the frame of calls on trays -/
def rF (ct c : mbCt) : Prop := eqBut [92, 97, 98, 100, 101, 102, 103, 111, 112, 113] ct c ∧ ∀ k, k ≠ 0 → c 92 k = ct 92 k
theorem rF.rf {ct : mbCt} : rF ct ct := ⟨eqBut.rf, fun _ _ => rfl⟩
theorem rF.tr {ct c c2 : mbCt} (h : rF ct c) (h2 : rF c c2) : rF ct c2 := ⟨h.1.tr h2.1, fun k hk => (h2.2 k hk).trans (h.2 k hk)⟩
theorem rF.th {ct : mbCt} {v : Int} : rF ct (wr ct 92 0 v) := ⟨eqBut.rf.wr (by decide), fun k hk => wr_nk hk⟩
section
variable (d : Nat) (sh : mbSh) (ct : mbCt) {β : Bk} {s : Sit} {n : Int} {pl : Int → Sit} {sz bt : Int → Int} {vl : Int → Int → Int}
theorem tw_numbers {t so m : Int} (S : SH sh) (L : LK ct) (T : MT ct sz bt vl) (ht : i32 t) (hs : i32 so) (hm : i32 m) : Mt YX12_numbers (d + 1) [.inr (.inr 92), .inl t, .inl so, .inl m] sh sh ct (pI fun r c => ((¬ (isTr t ∧ 0 ≤ so ∧ so ≤ 3) ∧ r = -2 ∧ MT c sz bt vl) ∨ ((isTr t ∧ 0 ≤ so ∧ so ≤ 3) ∧ ¬ (0 ≤ m ∧ m ≤ 40) ∧ r = -3 ∧ MT c sz bt vl) ∨ ((isTr t ∧ 0 ≤ so ∧ so ≤ 3) ∧ (0 ≤ m ∧ m ≤ 40) ∧ r = 0 ∧ MT c (up1 sz t m) (up1 bt t (8 * 2 ^ so.toNat)) (upR vl t (fun _ => 0)))) ∧ rF ct c) := by
  unfold i32 at ht hs hm
  have s111 : shA sh 111 = some (20, 4) := S.at _ rfl
  have s112 : shA sh 112 = some (20, 4) := S.at _ rfl
  have s113 : shA sh 113 = some (21, 160) := S.at _ rfl
  have T0 : MT (wr ct 92 0 0) sz bt vl := T.eq (wr_other _ _ _ _ _ (by decide)) (wr_other _ _ _ _ _ (by decide)) (wr_other _ _ _ _ _ (by decide))
  have L0 : LK (wr ct 92 0 0) := L.wr rfl
  generalize hP : (pI fun r c => ((¬ (isTr t ∧ 0 ≤ so ∧ so ≤ 3) ∧ r = -2 ∧ MT c sz bt vl) ∨ ((isTr t ∧ 0 ≤ so ∧ so ≤ 3) ∧ ¬ (0 ≤ m ∧ m ≤ 40) ∧ r = -3 ∧ MT c sz bt vl) ∨ ((isTr t ∧ 0 ≤ so ∧ so ≤ 3) ∧ (0 ≤ m ∧ m ≤ 40) ∧ r = 0 ∧ MT c (up1 sz t m) (up1 bt t (8 * 2 ^ so.toNat)) (upR vl t (fun _ => 0)))) ∧ rF ct c) = Po
  have f0 : rF ct (wr ct 92 0 0) := rF.th
  refine Mt.of rfl (Nat.le_of_ble_eq_true rfl) ?_
  show G _ 0 [some (.inr (.inr 92)), some (.inl t), some (.inl so), some (.inl m), none] [] sh ct
  refine g_aload_n (q := 1) dX12_numbers_0 rfl rfl ?_
  refine g_iconst (q := 2) dX12_numbers_1 rfl ?_
  refine g_putI (q := 5) (kI := 0) fX12_1 (by first | assumption | exact S.at _ rfl) dX12_numbers_2 rfl rfl ?_
  refine g_iload_n (q := 6) dX12_numbers_5 rfl rfl ?_
  refine g_i2l (q := 7) dX12_numbers_6 rfl ?_
  refine g_lconst0 (q := 8) dX12_numbers_7 rfl ?_
  refine g_ldc2 (q := 11) dX12_numbers_8 kX12_307 rfl ?_
  rw [w32_id (x := t) ht.1 ht.2]
  generalize hc0 : wr ct 92 0 0 = c0 at *
  refine g_callS (q := 14) lX12_150 mX12_within sX12_within rfl (tw_within d sh _) shLe.rf (rmOk.mk (by omega) (by first | exact shLe.rf | assumption)) (Nat.le_of_ble_eq_true rfl) dX12_numbers_11 rfl rfl (kI fun r_ c_ hp => ?_)
  obtain ⟨hr, hq⟩ := hp
  replace hr := hr.symm
  replace hq := hq.symm
  subst hr hq
  have no2 : ¬ (isTr t ∧ 0 ≤ so ∧ so ≤ 3) → Po (some (.inl (-2))) c0 := by
    intro h
    rw [← hP]
    exact ⟨_, rfl, Or.inl ⟨h, rfl, T0⟩, f0⟩
  refine g_if_eq (q := 17) (tg := 29) dX12_numbers_14 (by decide) rfl (fun c_14 => ?_) (fun c_14 => ?_)
  · refine g_bipush (q := 31) dX12_numbers_29 (by decide +kernel) rfl ?_
    refine g_ireturn dX12_numbers_31 rfl ?_
    exact no2 (fun z => by have := wb0.mp c_14; have := z.1; unfold isTr at this; unfold w64 at *; omega)
  · have h14 : isTr t := by
      have := wbn.mp c_14
      unfold w64 at this
      unfold isTr
      omega
    refine g_iload_n (q := 18) dX12_numbers_17 rfl rfl ?_
    refine g_i2l (q := 19) dX12_numbers_18 rfl ?_
    refine g_lconst0 (q := 20) dX12_numbers_19 rfl ?_
    refine g_ldc2 (q := 23) dX12_numbers_20 kX12_307 rfl ?_
    rw [w32_id (x := so) hs.1 hs.2]
    refine g_callS (q := 26) lX12_150 mX12_within sX12_within rfl (tw_within d sh _) shLe.rf (rmOk.mk (by omega) (by first | exact shLe.rf | assumption)) (Nat.le_of_ble_eq_true rfl) dX12_numbers_23 rfl rfl (kI fun r_ c_ hp => ?_)
    obtain ⟨hr, hq⟩ := hp
    replace hr := hr.symm
    replace hq := hq.symm
    subst hr hq
    refine g_if_ne (q := 29) (tg := 32) dX12_numbers_26 (by decide) rfl (fun c_26 => ?_) (fun c_26 => ?_)
    · have h26 : 0 ≤ so ∧ so ≤ 3 := by
        have := wbn.mp c_26
        unfold w64 at this
        omega
      refine g_iload_n (q := 33) dX12_numbers_32 rfl rfl ?_
      refine g_i2l (q := 34) dX12_numbers_33 rfl ?_
      refine g_lconst0 (q := 35) dX12_numbers_34 rfl ?_
      refine g_ldc2 (q := 38) dX12_numbers_35 kX12_325 rfl ?_
      rw [w32_id (x := m) hm.1 hm.2]
      refine g_callS (q := 41) lX12_150 mX12_within sX12_within rfl (tw_within d sh _) shLe.rf (rmOk.mk (by omega) (by first | exact shLe.rf | assumption)) (Nat.le_of_ble_eq_true rfl) dX12_numbers_38 rfl rfl (kI fun r_ c_ hp => ?_)
      obtain ⟨hr, hq⟩ := hp
      replace hr := hr.symm
      replace hq := hq.symm
      subst hr hq
      refine g_if_ne (q := 44) (tg := 47) dX12_numbers_41 (by decide) rfl (fun c_41 => ?_) (fun c_41 => ?_)
      · have h41 : 0 ≤ m ∧ m ≤ 40 := by
          have := wbn.mp c_41
          unfold w64 at this
          omega
        have L1 : LK (wr c0 111 t so) := L0.wr (lkF_none rfl t)
        have h14a := h14
        unfold isTr at h14a
        refine g_aload_n (q := 48) dX12_numbers_47 rfl rfl ?_
        refine g_getA (q := 51) (kI := 32) fX12_75 (by first | assumption | exact S.at _ rfl) dX12_numbers_48 rfl rfl (by first | assumption | exact L.at _ _ rfl | exact LK.at (by assumption) _ _ rfl | ((repeat first | rewrite [wr_na (by decide)] | rewrite [wr_nk (by decide)] | rewrite [wa_na (by decide)]); first | assumption | exact LK.at (by assumption) _ _ rfl) | exact rfl) ?_
        refine g_iload_n (q := 52) dX12_numbers_51 rfl rfl ?_
        refine g_iload_n (q := 53) dX12_numbers_52 rfl rfl ?_
        refine g_iastore (q := 54) (by first | assumption | exact S.at _ rfl) (by omega) (by omega) (by omega) dX12_numbers_53 rfl ?_
        refine g_aload_n (q := 55) dX12_numbers_54 rfl rfl ?_
        refine g_getA (q := 58) (kI := 33) fX12_78 (by first | assumption | exact S.at _ rfl) dX12_numbers_55 rfl rfl (by first | assumption | exact L.at _ _ rfl | exact LK.at (by assumption) _ _ rfl | ((repeat first | rewrite [wr_na (by decide)] | rewrite [wr_nk (by decide)] | rewrite [wa_na (by decide)]); first | assumption | exact LK.at (by assumption) _ _ rfl) | exact rfl) ?_
        refine g_iload_n (q := 59) dX12_numbers_58 rfl rfl ?_
        refine g_iload_n (q := 60) dX12_numbers_59 rfl rfl ?_
        refine g_iastore (q := 61) (by first | assumption | exact S.at _ rfl) (by omega) (by omega) (by omega) dX12_numbers_60 rfl ?_
        refine g_iconst (q := 62) dX12_numbers_61 rfl ?_
        refine s_istore_5_4 (q := 64) dX12_numbers_62 rfl rfl rfl ?_
        refine g_for (fun k => [some (.inr (.inr 92)), some (.inl t), some (.inl so), some (.inl m), some (.inl k)]) (fun k c => 0 ≤ k ∧ eqBut [111, 112, 113] c0 c ∧ c 111 = wr c0 111 t so 111 ∧ c 112 = wr c0 112 t m 112 ∧ (∀ j, (j < 40 * t ∨ 40 * t + k ≤ j) → c 113 j = c0 113 j) ∧ ∀ j, 0 ≤ j → j < k → c 113 (40 * t + j) = 0) m ?_ ?_ (i := 0) (by omega) ⟨by omega, (eqBut.rf.wr (by decide)).wr (by decide), by rw [wr_other _ _ _ _ _ (by decide)], by funext j; unfold wr; grind, fun j _ => by rw [wr_na (by decide), wr_na (by decide)], fun j _ _ => by omega⟩ (by simp [lsSub])
        · rintro k c hk ⟨k0, e, e1, e2, i1, i2⟩ kk
          have Lc : LK c := L0.eb e rfl
          refine g_iload (q := 66) dX12_numbers_64 rfl rfl ?_
          refine g_iload_n (q := 67) dX12_numbers_66 rfl rfl ?_
          refine g_icmp_ge (q := 70) (tg := 89) dX12_numbers_67 (by decide) rfl (fun c_67 => ?_) (fun c_67 => ?_)
          · exact absurd c_67 (by unfold w32; omega)
          · refine g_aload_n (q := 71) dX12_numbers_70 rfl rfl ?_
            refine g_getA (q := 74) (kI := 34) fX12_81 (by first | assumption | exact S.at _ rfl) dX12_numbers_71 rfl rfl (by first | assumption | exact L.at _ _ rfl | exact LK.at (by assumption) _ _ rfl | ((repeat first | rewrite [wr_na (by decide)] | rewrite [wr_nk (by decide)] | rewrite [wa_na (by decide)]); first | assumption | exact LK.at (by assumption) _ _ rfl) | exact rfl) ?_
            refine g_bipush (q := 76) dX12_numbers_74 (by decide +kernel) rfl ?_
            refine g_iload_n (q := 77) dX12_numbers_76 rfl rfl ?_
            refine g_imul (q := 78) dX12_numbers_77 rfl ?_
            refine g_iload (q := 80) dX12_numbers_78 rfl rfl ?_
            refine g_iadd (q := 81) dX12_numbers_80 rfl ?_
            refine g_lconst0 (q := 82) dX12_numbers_81 rfl ?_
            refine g_lastore (q := 83) (by first | assumption | exact S.at _ rfl) (by omega) (by omega) (by omega) dX12_numbers_82 rfl ?_
            refine s_iinc_5_4 (q := 86) dX12_numbers_83 rfl rfl rfl ?_
            refine g_goto (q := 64) dX12_numbers_86 (by decide) ?_
            refine kk _ _ (by simp [lsSub]) ⟨by omega, e.wr (by decide), by rw [wr_other _ _ _ _ _ (by decide)]; exact e1, by rw [wr_other _ _ _ _ _ (by decide)]; exact e2, fun j hj => ?_, fun j a b => ?_⟩
            · rw [wr_nk (by omega)]
              exact i1 j (by omega)
            · by_cases hjk : j = k
              · subst hjk
                exact wr_eq
              · rw [wr_nk (by omega)]
                exact i2 j a (by omega)
        · rintro c ⟨-, e, e1, e2, i1, i2⟩
          refine g_iload (q := 66) dX12_numbers_64 rfl rfl ?_
          refine g_iload_n (q := 67) dX12_numbers_66 rfl rfl ?_
          refine g_icmp_ge (q := 70) (tg := 89) dX12_numbers_67 (by decide) rfl (fun c_67 => ?_) (fun c_67 => ?_)
          · refine g_iconst (q := 90) dX12_numbers_89 rfl ?_
            refine g_ireturn dX12_numbers_90 rfl ?_
            rw [← hP]
            refine ⟨_, rfl, Or.inr (Or.inr ⟨⟨h14, h26⟩, h41, rfl, ?_⟩), f0.tr ⟨e.mono (by decide), fun k _ => by rw [e 92 (by decide)]⟩⟩
            intro u u0 u1
            rw [e1, e2]
            unfold up1 upR
            by_cases hu : u = t
            · subst hu
              right
              simp only [if_true]
              rw [wr_eq, wr_eq]
              refine ⟨h41, rfl, ⟨h26.1, h26.2, rfl⟩, fun i a b => ⟨i2 i a b, by unfold i64; omega⟩⟩
            · simp only [hu, if_false]
              rw [wr_nk hu, wr_nk hu]
              rcases T0 u u0 u1 with h | ⟨g1, g2, g3, g4⟩
              · exact Or.inl h
              · refine Or.inr ⟨g1, g2, g3, fun i a b => ?_⟩
                rw [i1 _ (by omega)]
                exact g4 i a b
          · exact absurd c_67 (Int.lt_irrefl _)
      · refine g_bipush (q := 46) dX12_numbers_44 (by decide +kernel) rfl ?_
        refine g_ireturn dX12_numbers_46 rfl ?_
        rw [← hP]
        exact ⟨_, rfl, Or.inr (Or.inl ⟨⟨h14, h26⟩, fun z => by have := wb0.mp c_41; unfold w64 at this; omega, rfl, T0⟩), f0⟩
    · refine g_bipush (q := 31) dX12_numbers_29 (by decide +kernel) rfl ?_
      refine g_ireturn dX12_numbers_31 rfl ?_
      exact no2 (fun z => by have := wb0.mp c_26; have := z.2; unfold w64 at *; omega)
theorem cut_0 (v : Int) : cutL 8 v = w8 v := by
  unfold cutL shrL shlL
  rw [show ((64 - 8 : Int) % 64).toNat = 56 from rfl, show (2 : Int) ^ 56 = 72057594037927936 from rfl]
  unfold w64 w8
  omega
theorem cut_1 (v : Int) : cutL 16 v = w16 v := by
  unfold cutL shrL shlL
  rw [show ((64 - 16 : Int) % 64).toNat = 48 from rfl, show (2 : Int) ^ 48 = 281474976710656 from rfl]
  unfold w64 w16
  omega
theorem cut_2 (v : Int) : cutL 32 v = w32 v := by
  unfold cutL shrL shlL
  rw [show ((64 - 32 : Int) % 64).toNat = 32 from rfl, show (2 : Int) ^ 32 = 4294967296 from rfl]
  unfold w64 w32
  omega
theorem cut_3 (v : Int) : cutL 64 v = w64 v := by
  unfold cutL shrL shlL
  rw [show ((64 - 64 : Int) % 64).toNat = 0 from rfl, Int.pow_zero, Int.mul_one, Int.ediv_one]
theorem tw_cut {v so : Int} (h0 : 0 ≤ so) (h1 : so ≤ 3) : Mt YX12_cut d [.inr (.inl v), .inl so] sh sh ct (pL fun r c => r = cutL (8 * 2 ^ so.toNat) v ∧ c = ct) := by
  refine Mt.of rfl (Nat.le_of_ble_eq_true rfl) ?_
  show G _ 0 [some (.inr (.inl v)), none, some (.inl so)] [] sh ct
  refine g_iload_n (q := 1) dX12_cut_0 rfl rfl ?_
  refine g_if_ne (q := 4) (tg := 11) dX12_cut_1 (by decide) rfl (fun c_1 => ?_) (fun c_1 => ?_)
  · refine g_iload_n (q := 12) dX12_cut_11 rfl rfl ?_
    refine g_iconst (q := 13) dX12_cut_12 rfl ?_
    refine g_icmp_ne (q := 16) (tg := 23) dX12_cut_13 (by decide) rfl (fun c_13 => ?_) (fun c_13 => ?_)
    · refine g_iload_n (q := 24) dX12_cut_23 rfl rfl ?_
      refine g_iconst (q := 25) dX12_cut_24 rfl ?_
      refine g_icmp_ne (q := 28) (tg := 34) dX12_cut_25 (by decide) rfl (fun c_25 => ?_) (fun c_25 => ?_)
      · have : so = 3 := by
          have h1' : so ≠ 0 := fun z => c_1 (by rw [z]; rfl)
          have h2' : so ≠ 1 := fun z => c_13 (by rw [z])
          have h3' : so ≠ 2 := fun z => c_25 (by rw [z])
          omega
        subst this
        refine g_lload_n (q := 35) dX12_cut_34 rfl rfl ?_
        refine g_topL (y := w64 v) (w64_w v).symm ?_
        refine g_lreturn dX12_cut_35 rfl ?_
        exact ⟨_, rfl, (cut_3 v).symm, rfl⟩
      · have : so = 2 := by unfold w32 at c_25; omega
        subst this
        refine g_lload_n (q := 29) dX12_cut_28 rfl rfl ?_
        refine g_l2i (q := 30) dX12_cut_29 rfl ?_
        refine g_i2l (q := 31) dX12_cut_30 rfl ?_
        refine g_goto (q := 35) dX12_cut_31 (by decide) ?_
        refine g_lreturn dX12_cut_35 rfl ?_
        exact ⟨_, rfl, (cut_2 v).symm, rfl⟩
    · have : so = 1 := by unfold w32 at c_13; omega
      subst this
      refine g_lload_n (q := 17) dX12_cut_16 rfl rfl ?_
      refine g_l2i (q := 18) dX12_cut_17 rfl ?_
      refine g_i2s (q := 19) dX12_cut_18 rfl ?_
      refine g_i2l (q := 20) dX12_cut_19 rfl ?_
      refine g_goto (q := 35) dX12_cut_20 (by decide) ?_
      refine g_lreturn dX12_cut_35 rfl ?_
      refine ⟨_, rfl, ?_, rfl⟩
      show w32 (w16 v) = cutL 16 v
      rw [cut_1, w32_id (by unfold w16; omega) (by unfold w16; omega)]
  · have : so = 0 := by unfold w32 at c_1; omega
    subst this
    refine g_lload_n (q := 5) dX12_cut_4 rfl rfl ?_
    refine g_l2i (q := 6) dX12_cut_5 rfl ?_
    refine g_i2b (q := 7) dX12_cut_6 rfl ?_
    refine g_i2l (q := 8) dX12_cut_7 rfl ?_
    refine g_goto (q := 35) dX12_cut_8 (by decide) ?_
    refine g_lreturn dX12_cut_35 rfl ?_
    refine ⟨_, rfl, ?_, rfl⟩
    show w32 (w8 v) = cutL 8 v
    rw [cut_0, w32_id (by unfold w8; omega) (by unfold w8; omega)]
theorem cutL_in (b v : Int) : i64 (cutL b v) := by
  unfold cutL shrL i64
  have h1 := w64_lo (shlL v (64 - b))
  have h2 := w64_hi (shlL v (64 - b))
  exact ⟨mb_divlo _ 9223372036854775808 (by decide) h1, mb_divhi _ 9223372036854775808 (by decide) h2⟩
theorem tw_write {t i v : Int} (S : SH sh) (L : LK ct) (T : MT ct sz bt vl) (ht : i32 t) (hi : i32 i) : Mt YX12_write (d + 2) [.inr (.inr 92), .inl t, .inl i, .inr (.inl v)] sh sh ct (pL fun r c => ((¬ isTr t ∧ r = -2 ∧ MT c sz bt vl) ∨ (isTr t ∧ sz t = -1 ∧ r = -6 ∧ MT c sz bt vl) ∨ (isTr t ∧ sz t ≠ -1 ∧ ¬ (0 ≤ i ∧ i < sz t) ∧ r = -7 ∧ MT c sz bt vl) ∨ (isTr t ∧ sz t ≠ -1 ∧ (0 ≤ i ∧ i < sz t) ∧ r = cutL (bt t) v ∧ MT c sz bt (upR vl t (up1 (vl t) i (cutL (bt t) v))))) ∧ rF ct c) := by
  have hi2 := hi
  unfold i32 at hi2
  have s111 : shA sh 111 = some (20, 4) := S.at _ rfl
  have s112 : shA sh 112 = some (20, 4) := S.at _ rfl
  have s113 : shA sh 113 = some (21, 160) := S.at _ rfl
  have T0 : MT (wr ct 92 0 0) sz bt vl := T.eq (wr_other _ _ _ _ _ (by decide)) (wr_other _ _ _ _ _ (by decide)) (wr_other _ _ _ _ _ (by decide))
  have L0 : LK (wr ct 92 0 0) := L.wr rfl
  have f0 : rF ct (wr ct 92 0 0) := rF.th
  generalize hP : (pL fun r c => ((¬ isTr t ∧ r = -2 ∧ MT c sz bt vl) ∨ (isTr t ∧ sz t = -1 ∧ r = -6 ∧ MT c sz bt vl) ∨ (isTr t ∧ sz t ≠ -1 ∧ ¬ (0 ≤ i ∧ i < sz t) ∧ r = -7 ∧ MT c sz bt vl) ∨ (isTr t ∧ sz t ≠ -1 ∧ (0 ≤ i ∧ i < sz t) ∧ r = cutL (bt t) v ∧ MT c sz bt (upR vl t (up1 (vl t) i (cutL (bt t) v))))) ∧ rF ct c) = Po
  refine Mt.of rfl (Nat.le_of_ble_eq_true rfl) ?_
  show G _ 0 [some (.inr (.inr 92)), some (.inl t), some (.inl i), some (.inr (.inl v)), none, none] [] sh ct
  refine g_aload_n (q := 1) dX12_write_0 rfl rfl ?_
  refine g_iconst (q := 2) dX12_write_1 rfl ?_
  refine g_putI (q := 5) (kI := 0) fX12_1 (by first | assumption | exact S.at _ rfl) dX12_write_2 rfl rfl ?_
  refine g_aload_n (q := 6) dX12_write_5 rfl rfl ?_
  refine g_iload_n (q := 7) dX12_write_6 rfl rfl ?_
  generalize hc0 : wr ct 92 0 0 = c0 at *
  refine g_callV (q := 10) lX12_309 mX12_noTray nX12_noTray rfl (tw_noTray d sh _ S L0 T0 ht) (by first | assumption | exact S.at _ rfl) rfl rfl shLe.rf (rmOk.mk (by omega) (by first | exact shLe.rf | assumption)) (Nat.le_of_ble_eq_true rfl) dX12_write_7 rfl rfl (kI fun r_ c_ hp => ?_)
  obtain ⟨hr, hq⟩ := hp
  replace hr := hr.symm
  replace hq := hq.symm
  subst hr hq
  by_cases htr : isTr t
  · rw [if_pos htr]
    have h14a := htr
    unfold isTr at h14a
    by_cases hz : sz t = -1
    · rw [if_pos hz]
      refine s_istore_6_5 (q := 12) dX12_write_10 rfl rfl rfl ?_
      refine g_iload (q := 14) dX12_write_12 rfl rfl ?_
      refine g_if_eq (q := 17) (tg := 21) dX12_write_14 (by decide) rfl (fun c_14 => ?_) (fun c_14 => ?_)
      · exact absurd c_14 (by decide)
      · refine g_iload (q := 19) dX12_write_17 rfl rfl ?_
        refine g_i2l (q := 20) dX12_write_19 rfl ?_
        refine g_lreturn dX12_write_20 rfl ?_
        rw [← hP]
        exact ⟨_, rfl, Or.inr (Or.inl ⟨htr, hz, rfl, T0⟩), f0⟩
    · rw [if_neg hz]
      obtain ⟨g1, g2, g3, g4⟩ := (T0 t htr.1 htr.2).resolve_left (fun z => hz z.1)
      refine s_istore_6_5 (q := 12) dX12_write_10 rfl rfl rfl ?_
      refine g_iload (q := 14) dX12_write_12 rfl rfl ?_
      refine g_if_eq (q := 17) (tg := 21) dX12_write_14 (by decide) rfl (fun c_14 => ?_) (fun c_14 => ?_)
      · refine g_iload_n (q := 22) dX12_write_21 rfl rfl ?_
        refine g_i2l (q := 23) dX12_write_22 rfl ?_
        refine g_lconst0 (q := 24) dX12_write_23 rfl ?_
        refine g_aload_n (q := 25) dX12_write_24 rfl rfl ?_
        refine g_getA (q := 28) (kI := 33) fX12_78 (by first | assumption | exact S.at _ rfl) dX12_write_25 rfl rfl (by first | assumption | exact L.at _ _ rfl | exact LK.at (by assumption) _ _ rfl | ((repeat first | rewrite [wr_na (by decide)] | rewrite [wr_nk (by decide)] | rewrite [wa_na (by decide)]); first | assumption | exact LK.at (by assumption) _ _ rfl) | exact rfl) ?_
        refine g_iload_n (q := 29) dX12_write_28 rfl rfl ?_
        refine g_iaload (q := 30) (by first | assumption | exact S.at _ rfl) (by omega) (by omega) (by omega) dX12_write_29 rfl ?_
        refine g_iconst (q := 31) dX12_write_30 rfl ?_
        refine g_isub (q := 32) dX12_write_31 rfl ?_
        refine g_i2l (q := 33) dX12_write_32 rfl ?_
        rw [g2, w32_id (x := i) hi2.1 hi2.2, w32_id (x := sz t - 1) (by omega) (by omega)]
        refine g_callS (q := 36) lX12_150 mX12_within sX12_within rfl (tw_within (d + 1) sh _) shLe.rf (rmOk.mk (by omega) (by first | exact shLe.rf | assumption)) (Nat.le_of_ble_eq_true rfl) dX12_write_33 rfl rfl (kI fun r_ c_ hp => ?_)
        obtain ⟨hr, hq⟩ := hp
        replace hr := hr.symm
        replace hq := hq.symm
        subst hr hq
        refine g_if_ne (q := 39) (tg := 43) dX12_write_36 (by decide) rfl (fun c_36 => ?_) (fun c_36 => ?_)
        · have h36 : 0 ≤ i ∧ i < sz t := by
            have := wbn.mp c_36
            unfold w64 at this
            omega
          refine g_aload_n (q := 44) dX12_write_43 rfl rfl ?_
          refine g_getA (q := 47) (kI := 34) fX12_81 (by first | assumption | exact S.at _ rfl) dX12_write_44 rfl rfl (by first | assumption | exact L.at _ _ rfl | exact LK.at (by assumption) _ _ rfl | ((repeat first | rewrite [wr_na (by decide)] | rewrite [wr_nk (by decide)] | rewrite [wa_na (by decide)]); first | assumption | exact LK.at (by assumption) _ _ rfl) | exact rfl) ?_
          refine g_bipush (q := 49) dX12_write_47 (by decide +kernel) rfl ?_
          refine g_iload_n (q := 50) dX12_write_49 rfl rfl ?_
          refine g_imul (q := 51) dX12_write_50 rfl ?_
          refine g_iload_n (q := 52) dX12_write_51 rfl rfl ?_
          refine g_iadd (q := 53) dX12_write_52 rfl ?_
          refine g_lload_n (q := 54) dX12_write_53 rfl rfl ?_
          refine g_aload_n (q := 55) dX12_write_54 rfl rfl ?_
          refine g_getA (q := 58) (kI := 32) fX12_75 (by first | assumption | exact S.at _ rfl) dX12_write_55 rfl rfl (by first | assumption | exact L.at _ _ rfl | exact LK.at (by assumption) _ _ rfl | ((repeat first | rewrite [wr_na (by decide)] | rewrite [wr_nk (by decide)] | rewrite [wa_na (by decide)]); first | assumption | exact LK.at (by assumption) _ _ rfl) | exact rfl) ?_
          refine g_iload_n (q := 59) dX12_write_58 rfl rfl ?_
          refine g_iaload (q := 60) (by first | assumption | exact S.at _ rfl) (by omega) (by omega) (by omega) dX12_write_59 rfl ?_
          refine g_callS (q := 63) lX12_447 mX12_cut sX12_cut rfl (tw_cut (d + 1) sh _ g3.1 g3.2.1) shLe.rf (rmOk.mk (by omega) (by first | exact shLe.rf | assumption)) (Nat.le_of_ble_eq_true rfl) dX12_write_60 rfl rfl (kL fun r_ c_ hp => ?_)
          obtain ⟨hr, hq⟩ := hp
          replace hr := hr.symm
          replace hq := hq.symm
          subst hr hq
          rw [← g3.2.2]
          have hq : ∀ z, wr c0 113 (40 * t + i) z 113 (40 * t + i) = z := fun z => wr_eq
          have L1 : ∀ z, LK (wr c0 113 (40 * t + i) z) := fun z => L0.wr (lkF_none rfl _)
          refine g_lastore (q := 64) (by first | assumption | exact S.at _ rfl) (by omega) (by omega) (by omega) dX12_write_63 rfl ?_
          refine g_aload_n (q := 65) dX12_write_64 rfl rfl ?_
          refine g_getA (q := 68) (kI := 34) fX12_81 (by first | assumption | exact S.at _ rfl) dX12_write_65 rfl rfl (by first | assumption | exact L.at _ _ rfl | exact LK.at (by assumption) _ _ rfl | ((repeat first | rewrite [wr_na (by decide)] | rewrite [wr_nk (by decide)] | rewrite [wa_na (by decide)]); first | assumption | exact LK.at (by assumption) _ _ rfl) | exact rfl) ?_
          refine g_bipush (q := 70) dX12_write_68 (by decide +kernel) rfl ?_
          refine g_iload_n (q := 71) dX12_write_70 rfl rfl ?_
          refine g_imul (q := 72) dX12_write_71 rfl ?_
          refine g_iload_n (q := 73) dX12_write_72 rfl rfl ?_
          refine g_iadd (q := 74) dX12_write_73 rfl ?_
          refine g_laload (q := 75) (by first | assumption | exact S.at _ rfl) (by omega) (by omega) (by omega) dX12_write_74 rfl ?_
          refine g_lreturn dX12_write_75 rfl ?_
          rw [← hP, hq]
          refine ⟨_, rfl, Or.inr (Or.inr (Or.inr ⟨htr, hz, h36, rfl, ?_⟩)), f0.tr ⟨eqBut.rf.wr (by decide), fun k _ => by rw [wr_na (by decide)]⟩⟩
          intro u u0 u1
          rw [wr_other c0 113 _ _ 111 (by decide), wr_other c0 113 _ _ 112 (by decide)]
          unfold upR up1
          by_cases hu : u = t
          · subst hu
            right
            simp only [if_true]
            refine ⟨g1, g2, g3, fun j a b => ?_⟩
            by_cases hj : j = i
            · subst hj
              rw [if_pos rfl, wr_eq]
              exact ⟨rfl, cutL_in _ _⟩
            · rw [if_neg hj, wr_nk (by omega)]
              exact g4 j a b
          · simp only [hu, if_false]
            rcases T0 u u0 u1 with h | ⟨q1, q2, q3, q4⟩
            · exact Or.inl h
            · refine Or.inr ⟨q1, q2, q3, fun j a b => ?_⟩
              rw [wr_nk (by omega)]
              exact q4 j a b
        · refine g_ldc2 (q := 42) dX12_write_39 kX12_445 rfl ?_
          refine g_lreturn dX12_write_42 rfl ?_
          rw [← hP]
          exact ⟨_, rfl, Or.inr (Or.inr (Or.inl ⟨htr, hz, fun z => by have := wb0.mp c_36; unfold w64 at this; omega, rfl, T0⟩)), f0⟩
      · exact absurd rfl c_14
  · rw [if_neg htr]
    refine s_istore_6_5 (q := 12) dX12_write_10 rfl rfl rfl ?_
    refine g_iload (q := 14) dX12_write_12 rfl rfl ?_
    refine g_if_eq (q := 17) (tg := 21) dX12_write_14 (by decide) rfl (fun c_14 => ?_) (fun c_14 => ?_)
    · exact absurd c_14 (by decide)
    · refine g_iload (q := 19) dX12_write_17 rfl rfl ?_
      refine g_i2l (q := 20) dX12_write_19 rfl ?_
      refine g_lreturn dX12_write_20 rfl ?_
      rw [← hP]
      exact ⟨_, rfl, Or.inl ⟨htr, rfl, T0⟩, f0⟩
end
