/-! the reference: members, sayings, the tape -/
theorem dX12_member_0 : decode cX12_member 0 = .ok (.aload_n 0, 1) := by decide +kernel
theorem dX12_member_1 : decode cX12_member 1 = .ok (.iconst 0, 1) := by decide +kernel
theorem dX12_member_2 : decode cX12_member 2 = .ok (.putfield 1, 3) := by decide +kernel
theorem dX12_member_5 : decode cX12_member 5 = .ok (.aload_n 0, 1) := by decide +kernel
theorem dX12_member_6 : decode cX12_member 6 = .ok (.iload_n 1, 1) := by decide +kernel
theorem dX12_member_7 : decode cX12_member 7 = .ok (.i2l, 1) := by decide +kernel
theorem dX12_member_8 : decode cX12_member 8 = .ok (.invokevirtual 220, 3) := by decide +kernel
theorem dX12_member_11 : decode cX12_member 11 = .ok (.ifCond .ne 6, 3) := by decide +kernel
theorem dX12_member_14 : decode cX12_member 14 = .ok (.bipush (-2), 2) := by decide +kernel
theorem dX12_member_16 : decode cX12_member 16 = .ok (.ireturn, 1) := by decide +kernel
theorem dX12_member_17 : decode cX12_member 17 = .ok (.iload_n 2, 1) := by decide +kernel
theorem dX12_member_18 : decode cX12_member 18 = .ok (.tableswitch 59 0 2 #[26, 36, 42], 26) := by decide +kernel
theorem dX12_member_44 : decode cX12_member 44 = .ok (.aload_n 0, 1) := by decide +kernel
theorem dX12_member_45 : decode cX12_member 45 = .ok (.getfield 13, 3) := by decide +kernel
theorem dX12_member_48 : decode cX12_member 48 = .ok (.bipush 32, 2) := by decide +kernel
theorem dX12_member_50 : decode cX12_member 50 = .ok (.iload_n 1, 1) := by decide +kernel
theorem dX12_member_51 : decode cX12_member 51 = .ok (.iadd, 1) := by decide +kernel
theorem dX12_member_52 : decode cX12_member 52 = .ok (.iaload, 1) := by decide +kernel
theorem dX12_member_53 : decode cX12_member 53 = .ok (.ireturn, 1) := by decide +kernel
theorem dX12_member_54 : decode cX12_member 54 = .ok (.aload_n 0, 1) := by decide +kernel
theorem dX12_member_55 : decode cX12_member 55 = .ok (.iload_n 1, 1) := by decide +kernel
theorem dX12_member_56 : decode cX12_member 56 = .ok (.invokevirtual 258, 3) := by decide +kernel
theorem dX12_member_59 : decode cX12_member 59 = .ok (.ireturn, 1) := by decide +kernel
theorem dX12_member_60 : decode cX12_member 60 = .ok (.aload_n 0, 1) := by decide +kernel
theorem dX12_member_61 : decode cX12_member 61 = .ok (.getfield 13, 3) := by decide +kernel
theorem dX12_member_64 : decode cX12_member 64 = .ok (.bipush 30, 2) := by decide +kernel
theorem dX12_member_66 : decode cX12_member 66 = .ok (.iaload, 1) := by decide +kernel
theorem dX12_member_67 : decode cX12_member 67 = .ok (.iload_n 1, 1) := by decide +kernel
theorem dX12_member_68 : decode cX12_member 68 = .ok (.if_icmp .ne 7, 3) := by decide +kernel
theorem dX12_member_71 : decode cX12_member 71 = .ok (.iconst 1, 1) := by decide +kernel
theorem dX12_member_72 : decode cX12_member 72 = .ok (.goto 4, 3) := by decide +kernel
theorem dX12_member_75 : decode cX12_member 75 = .ok (.iconst 0, 1) := by decide +kernel
theorem dX12_member_76 : decode cX12_member 76 = .ok (.ireturn, 1) := by decide +kernel
theorem dX12_member_77 : decode cX12_member 77 = .ok (.bipush (-2), 2) := by decide +kernel
theorem dX12_member_79 : decode cX12_member 79 = .ok (.ireturn, 1) := by decide +kernel
theorem dX12_saying_0 : decode cX12_saying 0 = .ok (.aload_n 0, 1) := by decide +kernel
theorem dX12_saying_1 : decode cX12_saying 1 = .ok (.iconst 0, 1) := by decide +kernel
theorem dX12_saying_2 : decode cX12_saying 2 = .ok (.putfield 1, 3) := by decide +kernel
theorem dX12_saying_5 : decode cX12_saying 5 = .ok (.aload_n 0, 1) := by decide +kernel
theorem dX12_saying_6 : decode cX12_saying 6 = .ok (.iload_n 1, 1) := by decide +kernel
theorem dX12_saying_7 : decode cX12_saying 7 = .ok (.i2l, 1) := by decide +kernel
theorem dX12_saying_8 : decode cX12_saying 8 = .ok (.invokevirtual 224, 3) := by decide +kernel
theorem dX12_saying_11 : decode cX12_saying 11 = .ok (.ifCond .ne 7, 3) := by decide +kernel
theorem dX12_saying_14 : decode cX12_saying 14 = .ok (.ldc_w 261, 3) := by decide +kernel
theorem dX12_saying_17 : decode cX12_saying 17 = .ok (.ireturn, 1) := by decide +kernel
theorem dX12_saying_18 : decode cX12_saying 18 = .ok (.iload_n 2, 1) := by decide +kernel
theorem dX12_saying_19 : decode cX12_saying 19 = .ok (.tableswitch 51 0 2 #[25, 35, 45], 25) := by decide +kernel
theorem dX12_saying_44 : decode cX12_saying 44 = .ok (.aload_n 0, 1) := by decide +kernel
theorem dX12_saying_45 : decode cX12_saying 45 = .ok (.getfield 13, 3) := by decide +kernel
theorem dX12_saying_48 : decode cX12_saying 48 = .ok (.bipush 12, 2) := by decide +kernel
theorem dX12_saying_50 : decode cX12_saying 50 = .ok (.iload_n 1, 1) := by decide +kernel
theorem dX12_saying_51 : decode cX12_saying 51 = .ok (.iadd, 1) := by decide +kernel
theorem dX12_saying_52 : decode cX12_saying 52 = .ok (.iaload, 1) := by decide +kernel
theorem dX12_saying_53 : decode cX12_saying 53 = .ok (.ireturn, 1) := by decide +kernel
theorem dX12_saying_54 : decode cX12_saying 54 = .ok (.aload_n 0, 1) := by decide +kernel
theorem dX12_saying_55 : decode cX12_saying 55 = .ok (.getfield 13, 3) := by decide +kernel
theorem dX12_saying_58 : decode cX12_saying 58 = .ok (.bipush 20, 2) := by decide +kernel
theorem dX12_saying_60 : decode cX12_saying 60 = .ok (.iload_n 1, 1) := by decide +kernel
theorem dX12_saying_61 : decode cX12_saying 61 = .ok (.iadd, 1) := by decide +kernel
theorem dX12_saying_62 : decode cX12_saying 62 = .ok (.iaload, 1) := by decide +kernel
theorem dX12_saying_63 : decode cX12_saying 63 = .ok (.ireturn, 1) := by decide +kernel
theorem dX12_saying_64 : decode cX12_saying 64 = .ok (.aload_n 0, 1) := by decide +kernel
theorem dX12_saying_65 : decode cX12_saying 65 = .ok (.iload_n 1, 1) := by decide +kernel
theorem dX12_saying_66 : decode cX12_saying 66 = .ok (.invokevirtual 262, 3) := by decide +kernel
theorem dX12_saying_69 : decode cX12_saying 69 = .ok (.ireturn, 1) := by decide +kernel
theorem dX12_saying_70 : decode cX12_saying 70 = .ok (.ldc_w 261, 3) := by decide +kernel
theorem dX12_saying_73 : decode cX12_saying 73 = .ok (.ireturn, 1) := by decide +kernel
theorem dX12_closed_0 : decode cX12_closed 0 = .ok (.aload_n 0, 1) := by decide +kernel
theorem dX12_closed_1 : decode cX12_closed 1 = .ok (.iconst 0, 1) := by decide +kernel
theorem dX12_closed_2 : decode cX12_closed 2 = .ok (.putfield 1, 3) := by decide +kernel
theorem dX12_closed_5 : decode cX12_closed 5 = .ok (.aload_n 0, 1) := by decide +kernel
theorem dX12_closed_6 : decode cX12_closed 6 = .ok (.aload_n 0, 1) := by decide +kernel
theorem dX12_closed_7 : decode cX12_closed 7 = .ok (.invokevirtual 251, 3) := by decide +kernel
theorem dX12_closed_10 : decode cX12_closed 10 = .ok (.invokevirtual 265, 3) := by decide +kernel
theorem dX12_closed_13 : decode cX12_closed 13 = .ok (.ifCond .eq 7, 3) := by decide +kernel
theorem dX12_closed_16 : decode cX12_closed 16 = .ok (.iconst 1, 1) := by decide +kernel
theorem dX12_closed_17 : decode cX12_closed 17 = .ok (.goto 4, 3) := by decide +kernel
theorem dX12_closed_20 : decode cX12_closed 20 = .ok (.iconst 0, 1) := by decide +kernel
theorem dX12_closed_21 : decode cX12_closed 21 = .ok (.ireturn, 1) := by decide +kernel
theorem dX12_open_0 : decode cX12_open 0 = .ok (.aload_n 0, 1) := by decide +kernel
theorem dX12_open_1 : decode cX12_open 1 = .ok (.iconst 0, 1) := by decide +kernel
theorem dX12_open_2 : decode cX12_open 2 = .ok (.putfield 1, 3) := by decide +kernel
theorem dX12_open_5 : decode cX12_open 5 = .ok (.iconst 0, 1) := by decide +kernel
theorem dX12_open_6 : decode cX12_open 6 = .ok (.istore_n 1, 1) := by decide +kernel
theorem dX12_open_7 : decode cX12_open 7 = .ok (.iconst 0, 1) := by decide +kernel
theorem dX12_open_8 : decode cX12_open 8 = .ok (.istore_n 2, 1) := by decide +kernel
theorem dX12_open_9 : decode cX12_open 9 = .ok (.iload_n 2, 1) := by decide +kernel
theorem dX12_open_10 : decode cX12_open 10 = .ok (.aload_n 0, 1) := by decide +kernel
theorem dX12_open_11 : decode cX12_open 11 = .ok (.getfield 13, 3) := by decide +kernel
theorem dX12_open_14 : decode cX12_open 14 = .ok (.iconst 1, 1) := by decide +kernel
theorem dX12_open_15 : decode cX12_open 15 = .ok (.iaload, 1) := by decide +kernel
theorem dX12_open_16 : decode cX12_open 16 = .ok (.if_icmp .ge 20, 3) := by decide +kernel
theorem dX12_open_19 : decode cX12_open 19 = .ok (.iload_n 1, 1) := by decide +kernel
theorem dX12_open_20 : decode cX12_open 20 = .ok (.aload_n 0, 1) := by decide +kernel
theorem dX12_open_21 : decode cX12_open 21 = .ok (.iload_n 2, 1) := by decide +kernel
theorem dX12_open_22 : decode cX12_open 22 = .ok (.invokevirtual 258, 3) := by decide +kernel
theorem dX12_open_25 : decode cX12_open 25 = .ok (.invokestatic 268, 3) := by decide +kernel
theorem dX12_open_28 : decode cX12_open 28 = .ok (.iadd, 1) := by decide +kernel
theorem dX12_open_29 : decode cX12_open 29 = .ok (.istore_n 1, 1) := by decide +kernel
theorem dX12_open_30 : decode cX12_open 30 = .ok (.iinc 2 1, 3) := by decide +kernel
theorem dX12_open_33 : decode cX12_open 33 = .ok (.goto (-24), 3) := by decide +kernel
theorem dX12_open_36 : decode cX12_open 36 = .ok (.iload_n 1, 1) := by decide +kernel
theorem dX12_open_37 : decode cX12_open 37 = .ok (.ireturn, 1) := by decide +kernel
theorem dX12_wouldSet_0 : decode cX12_wouldSet 0 = .ok (.iconst 0, 1) := by decide +kernel
theorem dX12_wouldSet_1 : decode cX12_wouldSet 1 = .ok (.istore_n 2, 1) := by decide +kernel
theorem dX12_wouldSet_2 : decode cX12_wouldSet 2 = .ok (.iconst 0, 1) := by decide +kernel
theorem dX12_wouldSet_3 : decode cX12_wouldSet 3 = .ok (.istore_n 3, 1) := by decide +kernel
theorem dX12_wouldSet_4 : decode cX12_wouldSet 4 = .ok (.iload_n 3, 1) := by decide +kernel
theorem dX12_wouldSet_5 : decode cX12_wouldSet 5 = .ok (.aload_n 0, 1) := by decide +kernel
theorem dX12_wouldSet_6 : decode cX12_wouldSet 6 = .ok (.getfield 13, 3) := by decide +kernel
theorem dX12_wouldSet_9 : decode cX12_wouldSet 9 = .ok (.iconst 2, 1) := by decide +kernel
theorem dX12_wouldSet_10 : decode cX12_wouldSet 10 = .ok (.iaload, 1) := by decide +kernel
theorem dX12_wouldSet_11 : decode cX12_wouldSet 11 = .ok (.if_icmp .ge 32, 3) := by decide +kernel
theorem dX12_wouldSet_14 : decode cX12_wouldSet 14 = .ok (.iload_n 2, 1) := by decide +kernel
theorem dX12_wouldSet_15 : decode cX12_wouldSet 15 = .ok (.aload_n 0, 1) := by decide +kernel
theorem dX12_wouldSet_16 : decode cX12_wouldSet 16 = .ok (.aload_n 0, 1) := by decide +kernel
theorem dX12_wouldSet_17 : decode cX12_wouldSet 17 = .ok (.invokevirtual 251, 3) := by decide +kernel
theorem dX12_wouldSet_20 : decode cX12_wouldSet 20 = .ok (.iload_n 1, 1) := by decide +kernel
theorem dX12_wouldSet_21 : decode cX12_wouldSet 21 = .ok (.iload_n 3, 1) := by decide +kernel
theorem dX12_wouldSet_22 : decode cX12_wouldSet 22 = .ok (.invokevirtual 254, 3) := by decide +kernel
theorem dX12_wouldSet_25 : decode cX12_wouldSet 25 = .ok (.ifCond .eq 9, 3) := by decide +kernel
theorem dX12_wouldSet_28 : decode cX12_wouldSet 28 = .ok (.iconst 1, 1) := by decide +kernel
theorem dX12_wouldSet_29 : decode cX12_wouldSet 29 = .ok (.iload_n 3, 1) := by decide +kernel
theorem dX12_wouldSet_30 : decode cX12_wouldSet 30 = .ok (.ishl, 1) := by decide +kernel
theorem dX12_wouldSet_31 : decode cX12_wouldSet 31 = .ok (.goto 4, 3) := by decide +kernel
theorem dX12_wouldSet_34 : decode cX12_wouldSet 34 = .ok (.iconst 0, 1) := by decide +kernel
theorem dX12_wouldSet_35 : decode cX12_wouldSet 35 = .ok (.ior, 1) := by decide +kernel
theorem dX12_wouldSet_36 : decode cX12_wouldSet 36 = .ok (.istore_n 2, 1) := by decide +kernel
theorem dX12_wouldSet_37 : decode cX12_wouldSet 37 = .ok (.iinc 3 1, 3) := by decide +kernel
theorem dX12_wouldSet_40 : decode cX12_wouldSet 40 = .ok (.goto (-36), 3) := by decide +kernel
theorem dX12_wouldSet_43 : decode cX12_wouldSet 43 = .ok (.iload_n 2, 1) := by decide +kernel
theorem dX12_wouldSet_44 : decode cX12_wouldSet 44 = .ok (.ireturn, 1) := by decide +kernel
theorem dX12_whoSet_0 : decode cX12_whoSet 0 = .ok (.iconst 0, 1) := by decide +kernel
theorem dX12_whoSet_1 : decode cX12_whoSet 1 = .ok (.istore_n 2, 1) := by decide +kernel
theorem dX12_whoSet_2 : decode cX12_whoSet 2 = .ok (.iconst 0, 1) := by decide +kernel
theorem dX12_whoSet_3 : decode cX12_whoSet 3 = .ok (.istore_n 3, 1) := by decide +kernel
theorem dX12_whoSet_4 : decode cX12_whoSet 4 = .ok (.iload_n 3, 1) := by decide +kernel
theorem dX12_whoSet_5 : decode cX12_whoSet 5 = .ok (.aload_n 0, 1) := by decide +kernel
theorem dX12_whoSet_6 : decode cX12_whoSet 6 = .ok (.getfield 13, 3) := by decide +kernel
theorem dX12_whoSet_9 : decode cX12_whoSet 9 = .ok (.iconst 1, 1) := by decide +kernel
theorem dX12_whoSet_10 : decode cX12_whoSet 10 = .ok (.iaload, 1) := by decide +kernel
theorem dX12_whoSet_11 : decode cX12_whoSet 11 = .ok (.if_icmp .ge 32, 3) := by decide +kernel
theorem dX12_whoSet_14 : decode cX12_whoSet 14 = .ok (.iload_n 2, 1) := by decide +kernel
theorem dX12_whoSet_15 : decode cX12_whoSet 15 = .ok (.aload_n 0, 1) := by decide +kernel
theorem dX12_whoSet_16 : decode cX12_whoSet 16 = .ok (.aload_n 0, 1) := by decide +kernel
theorem dX12_whoSet_17 : decode cX12_whoSet 17 = .ok (.invokevirtual 251, 3) := by decide +kernel
theorem dX12_whoSet_20 : decode cX12_whoSet 20 = .ok (.iload_n 3, 1) := by decide +kernel
theorem dX12_whoSet_21 : decode cX12_whoSet 21 = .ok (.iload_n 1, 1) := by decide +kernel
theorem dX12_whoSet_22 : decode cX12_whoSet 22 = .ok (.invokevirtual 254, 3) := by decide +kernel
theorem dX12_whoSet_25 : decode cX12_whoSet 25 = .ok (.ifCond .eq 9, 3) := by decide +kernel
theorem dX12_whoSet_28 : decode cX12_whoSet 28 = .ok (.iconst 1, 1) := by decide +kernel
theorem dX12_whoSet_29 : decode cX12_whoSet 29 = .ok (.iload_n 3, 1) := by decide +kernel
theorem dX12_whoSet_30 : decode cX12_whoSet 30 = .ok (.ishl, 1) := by decide +kernel
theorem dX12_whoSet_31 : decode cX12_whoSet 31 = .ok (.goto 4, 3) := by decide +kernel
theorem dX12_whoSet_34 : decode cX12_whoSet 34 = .ok (.iconst 0, 1) := by decide +kernel
theorem dX12_whoSet_35 : decode cX12_whoSet 35 = .ok (.ior, 1) := by decide +kernel
theorem dX12_whoSet_36 : decode cX12_whoSet 36 = .ok (.istore_n 2, 1) := by decide +kernel
theorem dX12_whoSet_37 : decode cX12_whoSet 37 = .ok (.iinc 3 1, 3) := by decide +kernel
theorem dX12_whoSet_40 : decode cX12_whoSet 40 = .ok (.goto (-36), 3) := by decide +kernel
theorem dX12_whoSet_43 : decode cX12_whoSet 43 = .ok (.iload_n 2, 1) := by decide +kernel
theorem dX12_whoSet_44 : decode cX12_whoSet 44 = .ok (.ireturn, 1) := by decide +kernel
theorem dX12_feed_0 : decode cX12_feed 0 = .ok (.aload_n 0, 1) := by decide +kernel
theorem dX12_feed_1 : decode cX12_feed 1 = .ok (.iconst 0, 1) := by decide +kernel
theorem dX12_feed_2 : decode cX12_feed 2 = .ok (.putfield 1, 3) := by decide +kernel
theorem dX12_feed_5 : decode cX12_feed 5 = .ok (.aload_n 0, 1) := by decide +kernel
theorem dX12_feed_6 : decode cX12_feed 6 = .ok (.getfield 88, 3) := by decide +kernel
theorem dX12_feed_9 : decode cX12_feed 9 = .ok (.bipush 20, 2) := by decide +kernel
theorem dX12_feed_11 : decode cX12_feed 11 = .ok (.iadd, 1) := by decide +kernel
theorem dX12_feed_12 : decode cX12_feed 12 = .ok (.sipush 900, 3) := by decide +kernel
theorem dX12_feed_15 : decode cX12_feed 15 = .ok (.if_icmp .le 6, 3) := by decide +kernel
theorem dX12_feed_18 : decode cX12_feed 18 = .ok (.bipush (-5), 2) := by decide +kernel
theorem dX12_feed_20 : decode cX12_feed 20 = .ok (.ireturn, 1) := by decide +kernel
theorem dX12_feed_21 : decode cX12_feed 21 = .ok (.iconst 0, 1) := by decide +kernel
theorem dX12_feed_22 : decode cX12_feed 22 = .ok (.istore 6, 2) := by decide +kernel
theorem dX12_feed_24 : decode cX12_feed 24 = .ok (.iload 6, 2) := by decide +kernel
theorem dX12_feed_26 : decode cX12_feed 26 = .ok (.bipush 20, 2) := by decide +kernel
theorem dX12_feed_28 : decode cX12_feed 28 = .ok (.if_icmp .ge 93, 3) := by decide +kernel
theorem dX12_feed_31 : decode cX12_feed 31 = .ok (.iload 6, 2) := by decide +kernel
theorem dX12_feed_33 : decode cX12_feed 33 = .ok (.iconst 4, 1) := by decide +kernel
theorem dX12_feed_34 : decode cX12_feed 34 = .ok (.if_icmp .ge 7, 3) := by decide +kernel
theorem dX12_feed_37 : decode cX12_feed 37 = .ok (.iload_n 1, 1) := by decide +kernel
theorem dX12_feed_38 : decode cX12_feed 38 = .ok (.goto 39, 3) := by decide +kernel
theorem dX12_feed_41 : decode cX12_feed 41 = .ok (.iload 6, 2) := by decide +kernel
theorem dX12_feed_43 : decode cX12_feed 43 = .ok (.bipush 8, 2) := by decide +kernel
theorem dX12_feed_45 : decode cX12_feed 45 = .ok (.if_icmp .ge 7, 3) := by decide +kernel
theorem dX12_feed_48 : decode cX12_feed 48 = .ok (.iload_n 2, 1) := by decide +kernel
theorem dX12_feed_49 : decode cX12_feed 49 = .ok (.goto 28, 3) := by decide +kernel
theorem dX12_feed_52 : decode cX12_feed 52 = .ok (.iload 6, 2) := by decide +kernel
theorem dX12_feed_54 : decode cX12_feed 54 = .ok (.bipush 12, 2) := by decide +kernel
theorem dX12_feed_56 : decode cX12_feed 56 = .ok (.if_icmp .ge 7, 3) := by decide +kernel
theorem dX12_feed_59 : decode cX12_feed 59 = .ok (.iload_n 3, 1) := by decide +kernel
theorem dX12_feed_60 : decode cX12_feed 60 = .ok (.goto 17, 3) := by decide +kernel
theorem dX12_feed_63 : decode cX12_feed 63 = .ok (.iload 6, 2) := by decide +kernel
theorem dX12_feed_65 : decode cX12_feed 65 = .ok (.bipush 16, 2) := by decide +kernel
theorem dX12_feed_67 : decode cX12_feed 67 = .ok (.if_icmp .ge 8, 3) := by decide +kernel
theorem dX12_feed_70 : decode cX12_feed 70 = .ok (.iload 4, 2) := by decide +kernel
theorem dX12_feed_72 : decode cX12_feed 72 = .ok (.goto 5, 3) := by decide +kernel
theorem dX12_feed_75 : decode cX12_feed 75 = .ok (.iload 5, 2) := by decide +kernel
theorem dX12_feed_77 : decode cX12_feed 77 = .ok (.istore 7, 2) := by decide +kernel
theorem dX12_feed_79 : decode cX12_feed 79 = .ok (.aload_n 0, 1) := by decide +kernel
theorem dX12_feed_80 : decode cX12_feed 80 = .ok (.getfield 21, 3) := by decide +kernel
theorem dX12_feed_83 : decode cX12_feed 83 = .ok (.aload_n 0, 1) := by decide +kernel
theorem dX12_feed_84 : decode cX12_feed 84 = .ok (.getfield 88, 3) := by decide +kernel
theorem dX12_feed_87 : decode cX12_feed 87 = .ok (.iload 7, 2) := by decide +kernel
theorem dX12_feed_89 : decode cX12_feed 89 = .ok (.bipush 24, 2) := by decide +kernel
theorem dX12_feed_91 : decode cX12_feed 91 = .ok (.bipush 8, 2) := by decide +kernel
theorem dX12_feed_93 : decode cX12_feed 93 = .ok (.iload 6, 2) := by decide +kernel
theorem dX12_feed_95 : decode cX12_feed 95 = .ok (.iconst 4, 1) := by decide +kernel
theorem dX12_feed_96 : decode cX12_feed 96 = .ok (.irem, 1) := by decide +kernel
theorem dX12_feed_97 : decode cX12_feed 97 = .ok (.imul, 1) := by decide +kernel
theorem dX12_feed_98 : decode cX12_feed 98 = .ok (.isub, 1) := by decide +kernel
theorem dX12_feed_99 : decode cX12_feed 99 = .ok (.ishr, 1) := by decide +kernel
theorem dX12_feed_100 : decode cX12_feed 100 = .ok (.sipush 255, 3) := by decide +kernel
theorem dX12_feed_103 : decode cX12_feed 103 = .ok (.iand, 1) := by decide +kernel
theorem dX12_feed_104 : decode cX12_feed 104 = .ok (.iastore, 1) := by decide +kernel
theorem dX12_feed_105 : decode cX12_feed 105 = .ok (.aload_n 0, 1) := by decide +kernel
theorem dX12_feed_106 : decode cX12_feed 106 = .ok (.dup, 1) := by decide +kernel
theorem dX12_feed_107 : decode cX12_feed 107 = .ok (.getfield 88, 3) := by decide +kernel
theorem dX12_feed_110 : decode cX12_feed 110 = .ok (.iconst 1, 1) := by decide +kernel
theorem dX12_feed_111 : decode cX12_feed 111 = .ok (.iadd, 1) := by decide +kernel
theorem dX12_feed_112 : decode cX12_feed 112 = .ok (.putfield 88, 3) := by decide +kernel
theorem dX12_feed_115 : decode cX12_feed 115 = .ok (.iinc 6 1, 3) := by decide +kernel
theorem dX12_feed_118 : decode cX12_feed 118 = .ok (.goto (-94), 3) := by decide +kernel
theorem dX12_feed_121 : decode cX12_feed 121 = .ok (.aload_n 0, 1) := by decide +kernel
theorem dX12_feed_122 : decode cX12_feed 122 = .ok (.getfield 88, 3) := by decide +kernel
theorem dX12_feed_125 : decode cX12_feed 125 = .ok (.ireturn, 1) := by decide +kernel
theorem dX12_fault_0 : decode cX12_fault 0 = .ok (.aload_n 0, 1) := by decide +kernel
theorem dX12_fault_1 : decode cX12_fault 1 = .ok (.iconst 0, 1) := by decide +kernel
theorem dX12_fault_2 : decode cX12_fault 2 = .ok (.putfield 1, 3) := by decide +kernel
theorem dX12_fault_5 : decode cX12_fault 5 = .ok (.iload_n 1, 1) := by decide +kernel
theorem dX12_fault_6 : decode cX12_fault 6 = .ok (.ifCond .ne 10, 3) := by decide +kernel
theorem dX12_fault_9 : decode cX12_fault 9 = .ok (.aload_n 0, 1) := by decide +kernel
theorem dX12_fault_10 : decode cX12_fault 10 = .ok (.getfield 210, 3) := by decide +kernel
theorem dX12_fault_13 : decode cX12_fault 13 = .ok (.goto 16, 3) := by decide +kernel
theorem dX12_fault_16 : decode cX12_fault 16 = .ok (.iload_n 1, 1) := by decide +kernel
theorem dX12_fault_17 : decode cX12_fault 17 = .ok (.iconst 1, 1) := by decide +kernel
theorem dX12_fault_18 : decode cX12_fault 18 = .ok (.if_icmp .ne 10, 3) := by decide +kernel
theorem dX12_fault_21 : decode cX12_fault 21 = .ok (.aload_n 0, 1) := by decide +kernel
theorem dX12_fault_22 : decode cX12_fault 22 = .ok (.getfield 27, 3) := by decide +kernel
theorem dX12_fault_25 : decode cX12_fault 25 = .ok (.goto 4, 3) := by decide +kernel
theorem dX12_fault_28 : decode cX12_fault 28 = .ok (.iconst (-1), 1) := by decide +kernel
theorem dX12_fault_29 : decode cX12_fault 29 = .ok (.ireturn, 1) := by decide +kernel
theorem isSet.n {n : Nat} {P : Nat → Prop} {r : Int} (h : isSet n P r) (hn : n ≤ 10) : ∃ q : Nat → Bool, r = (bset q 10 : Nat) ∧ ∀ i, (q i = true ↔ (i < n ∧ P i)) := by
  obtain ⟨p, rfl, hp⟩ := h
  refine ⟨fun i => decide (i < n) && p i, ?_, fun i => ?_⟩
  · have e1 := bset_pad (p := fun i => decide (i < n) && p i) (n := n) (10 - n) (fun i h1 h2 => by
      show (decide (i < n) && p i) = false
      rw [decide_eq_false (by omega), Bool.false_and])
    rw [show n + (10 - n) = 10 by omega] at e1
    rw [e1]
    congr 1
    apply bset_cong
    intro i hi
    show p i = (decide (i < n) && p i)
    rw [decide_eq_true hi, Bool.true_and]
  · show (decide (i < n) && p i) = true ↔ _
    rw [Bool.and_eq_true, decide_eq_true_eq]
    constructor
    · rintro ⟨a, b⟩
      exact ⟨a, (hp i a).mp b⟩
    · rintro ⟨a, b⟩
      exact ⟨a, (hp i a).mpr b⟩
abbrev isSy (β : Bk) (y : Int) : Prop := 0 ≤ y ∧ y < β.n 3
abbrev canW (β : Bk) (s : Sit) (m y : Int) : Prop := β.W s.1 m (s.2.2 m) y = true
def opnN (β : Bk) (s : Sit) : Nat → Nat
  | 0 => 0
  | m + 1 => opnN β s m + cntB (fun y => decide ((y : Int) < β.n 3) && β.W s.1 m (s.2.2 m) y) 10
def qMember (β : Bk) (s : Sit) (m w r : Int) : Prop := (¬ (isMb β m ∧ 0 ≤ w ∧ w ≤ 2) ∧ r = -2) ∨ (isMb β m ∧ ((w = 0 ∧ r = s.2.2 m) ∨ (w = 1 ∧ isSet (β.n 3).toNat (fun y => canW β s m y) r) ∨ (w = 2 ∧ r = b01 (s.1 % 7 = m))))
def qSaying (β : Bk) (s : Sit) (y w r : Int) : Prop := (¬ (isSy β y ∧ 0 ≤ w ∧ w ≤ 2) ∧ r = -99000002) ∨ (isSy β y ∧ ((w = 0 ∧ r = β.tt y) ∨ (w = 1 ∧ r = β.ht y) ∨ (w = 2 ∧ isSet (β.n 2).toNat (fun m => canW β s m y) r)))
theorem qMember.uni {β : Bk} {s : Sit} {m w r r2 : Int} (h : qMember β s m w r) (h2 : qMember β s m w r2) : r = r2 := by
  rcases h with ⟨a, b⟩ | ⟨a, ⟨b, c⟩ | ⟨b, c⟩ | ⟨b, c⟩⟩ <;> rcases h2 with ⟨a2, b2⟩ | ⟨a2, ⟨b2, c2⟩ | ⟨b2, c2⟩ | ⟨b2, c2⟩⟩ <;> first | omega | exact c.uni c2 | (rw [c, c2])
theorem qSaying.uni {β : Bk} {s : Sit} {m w r r2 : Int} (h : qSaying β s m w r) (h2 : qSaying β s m w r2) : r = r2 := by
  rcases h with ⟨a, b⟩ | ⟨a, ⟨b, c⟩ | ⟨b, c⟩ | ⟨b, c⟩⟩ <;> rcases h2 with ⟨a2, b2⟩ | ⟨a2, ⟨b2, c2⟩ | ⟨b2, c2⟩ | ⟨b2, c2⟩⟩ <;> first | omega | exact c.uni c2 | (rw [c, c2])
section
variable (d : Nat) (sh : mbSh) (ct : mbCt) {β : Bk} {s : Sit}
theorem tw_wouldSet {m : Int} (S : SH sh) (M : MA ct β s) (m0 : 0 ≤ m) (m1 : m < 6) : Mt YX12_wouldSet (d + 4) [.inr (.inr 92), .inl m] sh sh ct (pI fun r c => isSet (β.n 3).toNat (fun y => canW β s m y) r ∧ eqBut [97, 98] ct c) := by
  have hb3 := M.2.1.2.2.1.2.2.2.1
  generalize hP : (pI fun r c => isSet (β.n 3).toNat (fun y => canW β s m y) r ∧ eqBut [97, 98] ct c) = Po
  refine Mt.of rfl (Nat.le_of_ble_eq_true rfl) ?_
  show G _ 0 [some (.inr (.inr 92)), some (.inl m), none, none] [] sh ct
  refine g_iconst (q := 1) dX12_wouldSet_0 rfl ?_
  refine s_istore_n_4_2 (q := 2) dX12_wouldSet_1 rfl rfl rfl ?_
  refine g_iconst (q := 3) dX12_wouldSet_2 rfl ?_
  refine s_istore_n_4_3 (q := 4) dX12_wouldSet_3 rfl rfl rfl ?_
  refine g_forA (α := Int) (fun y a => [some (.inr (.inr 92)), some (.inl m), some (.inl a), some (.inl y)]) (fun y a c => 0 ≤ y ∧ eqBut [97, 98] ct c ∧ isSet y.toNat (fun y => canW β s m y) a) (β.n 3) ?_ ?_ (i := 0) (a := 0) (by omega) ⟨by omega, eqBut.rf, isSet.zero⟩ (by simp [lsSub])
  · rintro y a c hy ⟨y0, e, hs⟩ kk
    have L1 : LK c := M.1.eb e rfl
    have M1 : MA c β s := M.same L1 (frJ.of (e 93 (by decide)))
    have hsy := M1.md.say
    have hrg := M1.md.rg
    have ey : ((y.toNat : Nat) : Int) = y := by omega
    refine g_iload_n (q := 5) dX12_wouldSet_4 rfl rfl ?_
    refine g_aload_n (q := 6) dX12_wouldSet_5 rfl rfl ?_
    refine g_getA (q := 9) (kI := 1) fX12_13 (by first | assumption | exact S.at _ rfl) dX12_wouldSet_6 rfl rfl (by first | assumption | exact L.at _ _ rfl | exact LK.at (by assumption) _ _ rfl | ((repeat first | rewrite [wr_na (by decide)] | rewrite [wr_nk (by decide)] | rewrite [wa_na (by decide)]); first | assumption | exact LK.at (by assumption) _ _ rfl) | exact rfl) ?_
    refine g_iconst (q := 10) dX12_wouldSet_9 rfl ?_
    refine g_iaload (q := 11) (by first | assumption | exact S.at _ rfl) (by omega) (by omega) (by omega) dX12_wouldSet_10 rfl ?_
    refine g_icmp_ge (q := 14) (tg := 43) dX12_wouldSet_11 (by decide) rfl (fun c_11 => ?_) (fun c_11 => ?_)
    · rw [hsy.1] at c_11
      exact absurd c_11 (by unfold w32; omega)
    · refine g_iload_n (q := 15) dX12_wouldSet_14 rfl rfl ?_
      refine g_aload_n (q := 16) dX12_wouldSet_15 rfl rfl ?_
      refine g_aload_n (q := 17) dX12_wouldSet_16 rfl rfl ?_
      refine g_callV (q := 20) lX12_251 mX12_standNow nX12_standNow rfl (tw_standNow (d + 3) sh _ M1.md S) (by first | assumption | exact S.at _ rfl) rfl rfl shLe.rf (rmOk.mk (by omega) (by first | exact shLe.rf | assumption)) (Nat.le_of_ble_eq_true rfl) dX12_wouldSet_17 rfl rfl (kI fun r_ c_ hp => ?_)
      obtain ⟨hr, hq⟩ := hp
      replace hr := hr.symm
      replace hq := hq.symm
      subst hr hq
      refine g_iload_n (q := 21) dX12_wouldSet_20 rfl rfl ?_
      refine g_iload_n (q := 22) dX12_wouldSet_21 rfl rfl ?_
      refine g_callV (q := 25) lX12_254 mX12_wouldSay nX12_wouldSay rfl (tw_wouldSay d sh _ S M1.md hrg.1 hrg.2 m0 m1 y0 (by omega)) (by first | assumption | exact S.at _ rfl) rfl rfl shLe.rf (rmOk.mk (by omega) (by first | exact shLe.rf | assumption)) (Nat.le_of_ble_eq_true rfl) dX12_wouldSet_22 rfl rfl (kI fun r c1 hp => ?_)
      obtain ⟨rfl, e1⟩ := hp
      have nxt : ∀ v, ((canW β s m y.toNat ∧ v = shlI 1 y.toNat) ∨ (¬ canW β s m y.toNat ∧ v = 0)) → G (mkK YX12_wouldSet (d + 4) sh sh Po) 35 [some (.inr (.inr 92)), some (.inl m), some (.inl a), some (.inl y)] [.inl v, .inl a] sh c1 := by
        intro v hv
        refine g_ior (q := 36) dX12_wouldSet_35 rfl ?_
        refine s_istore_n_4_2 (q := 37) dX12_wouldSet_36 rfl rfl rfl ?_
        refine s_iinc_4_3 (q := 40) dX12_wouldSet_37 rfl rfl rfl ?_
        refine g_goto (q := 4) dX12_wouldSet_40 (by decide) ?_
        refine kk _ _ _ (by simp [lsSub]; rfl) ⟨by omega, e.tr e1, ?_⟩
        rw [show (y + 1).toNat = y.toNat + 1 by omega]
        exact hs.up (by omega) hv
      refine g_if_eq (q := 28) (tg := 34) dX12_wouldSet_25 (by decide) rfl (fun c_25 => ?_) (fun c_25 => ?_)
      · refine g_iconst (q := 35) dX12_wouldSet_34 rfl ?_
        refine nxt _ (Or.inr ⟨?_, rfl⟩)
        rw [ey]
        exact wb0.mp c_25
      · refine g_iconst (q := 29) dX12_wouldSet_28 rfl ?_
        refine g_iload_n (q := 30) dX12_wouldSet_29 rfl rfl ?_
        refine g_ishl (q := 31) dX12_wouldSet_30 rfl ?_
        refine g_goto (q := 35) dX12_wouldSet_31 (by decide) ?_
        refine nxt _ (Or.inl ⟨?_, by rw [ey]⟩)
        rw [ey]
        exact wbn.mp c_25
  · rintro a c ⟨-, e, hs⟩
    have L1 : LK c := M.1.eb e rfl
    have M1 : MA c β s := M.same L1 (frJ.of (e 93 (by decide)))
    have hsy := M1.md.say
    refine g_iload_n (q := 5) dX12_wouldSet_4 rfl rfl ?_
    refine g_aload_n (q := 6) dX12_wouldSet_5 rfl rfl ?_
    refine g_getA (q := 9) (kI := 1) fX12_13 (by first | assumption | exact S.at _ rfl) dX12_wouldSet_6 rfl rfl (by first | assumption | exact L.at _ _ rfl | exact LK.at (by assumption) _ _ rfl | ((repeat first | rewrite [wr_na (by decide)] | rewrite [wr_nk (by decide)] | rewrite [wa_na (by decide)]); first | assumption | exact LK.at (by assumption) _ _ rfl) | exact rfl) ?_
    refine g_iconst (q := 10) dX12_wouldSet_9 rfl ?_
    refine g_iaload (q := 11) (by first | assumption | exact S.at _ rfl) (by omega) (by omega) (by omega) dX12_wouldSet_10 rfl ?_
    refine g_icmp_ge (q := 14) (tg := 43) dX12_wouldSet_11 (by decide) rfl (fun c_11 => ?_) (fun c_11 => ?_)
    · refine g_iload_n (q := 44) dX12_wouldSet_43 rfl rfl ?_
      refine g_ireturn dX12_wouldSet_44 rfl ?_
      rw [← hP]
      exact ⟨_, rfl, hs, e⟩
    · rw [hsy.1] at c_11
      exact absurd c_11 (Int.lt_irrefl _)
theorem tw_whoSet {y : Int} (S : SH sh) (M : MA ct β s) (y0 : 0 ≤ y) (y1 : y < 8) : Mt YX12_whoSet (d + 4) [.inr (.inr 92), .inl y] sh sh ct (pI fun r c => isSet (β.n 2).toNat (fun m => canW β s m y) r ∧ eqBut [97, 98] ct c) := by
  have hb2 := M.2.1.2.2.1.2.2.1
  generalize hP : (pI fun r c => isSet (β.n 2).toNat (fun m => canW β s m y) r ∧ eqBut [97, 98] ct c) = Po
  refine Mt.of rfl (Nat.le_of_ble_eq_true rfl) ?_
  show G _ 0 [some (.inr (.inr 92)), some (.inl y), none, none] [] sh ct
  refine g_iconst (q := 1) dX12_whoSet_0 rfl ?_
  refine s_istore_n_4_2 (q := 2) dX12_whoSet_1 rfl rfl rfl ?_
  refine g_iconst (q := 3) dX12_whoSet_2 rfl ?_
  refine s_istore_n_4_3 (q := 4) dX12_whoSet_3 rfl rfl rfl ?_
  refine g_forA (α := Int) (fun m a => [some (.inr (.inr 92)), some (.inl y), some (.inl a), some (.inl m)]) (fun m a c => 0 ≤ m ∧ eqBut [97, 98] ct c ∧ isSet m.toNat (fun m => canW β s m y) a) (β.n 2) ?_ ?_ (i := 0) (a := 0) (by omega) ⟨by omega, eqBut.rf, isSet.zero⟩ (by simp [lsSub])
  · rintro m a c hm ⟨m0, e, hs⟩ kk
    have L1 : LK c := M.1.eb e rfl
    have M1 : MA c β s := M.same L1 (frJ.of (e 93 (by decide)))
    have hmm := M1.md.mem
    have hrg := M1.md.rg
    have em : ((m.toNat : Nat) : Int) = m := by omega
    refine g_iload_n (q := 5) dX12_whoSet_4 rfl rfl ?_
    refine g_aload_n (q := 6) dX12_whoSet_5 rfl rfl ?_
    refine g_getA (q := 9) (kI := 1) fX12_13 (by first | assumption | exact S.at _ rfl) dX12_whoSet_6 rfl rfl (by first | assumption | exact L.at _ _ rfl | exact LK.at (by assumption) _ _ rfl | ((repeat first | rewrite [wr_na (by decide)] | rewrite [wr_nk (by decide)] | rewrite [wa_na (by decide)]); first | assumption | exact LK.at (by assumption) _ _ rfl) | exact rfl) ?_
    refine g_iconst (q := 10) dX12_whoSet_9 rfl ?_
    refine g_iaload (q := 11) (by first | assumption | exact S.at _ rfl) (by omega) (by omega) (by omega) dX12_whoSet_10 rfl ?_
    refine g_icmp_ge (q := 14) (tg := 43) dX12_whoSet_11 (by decide) rfl (fun c_11 => ?_) (fun c_11 => ?_)
    · rw [hmm.1] at c_11
      exact absurd c_11 (by unfold w32; omega)
    · refine g_iload_n (q := 15) dX12_whoSet_14 rfl rfl ?_
      refine g_aload_n (q := 16) dX12_whoSet_15 rfl rfl ?_
      refine g_aload_n (q := 17) dX12_whoSet_16 rfl rfl ?_
      refine g_callV (q := 20) lX12_251 mX12_standNow nX12_standNow rfl (tw_standNow (d + 3) sh _ M1.md S) (by first | assumption | exact S.at _ rfl) rfl rfl shLe.rf (rmOk.mk (by omega) (by first | exact shLe.rf | assumption)) (Nat.le_of_ble_eq_true rfl) dX12_whoSet_17 rfl rfl (kI fun r_ c_ hp => ?_)
      obtain ⟨hr, hq⟩ := hp
      replace hr := hr.symm
      replace hq := hq.symm
      subst hr hq
      refine g_iload_n (q := 21) dX12_whoSet_20 rfl rfl ?_
      refine g_iload_n (q := 22) dX12_whoSet_21 rfl rfl ?_
      refine g_callV (q := 25) lX12_254 mX12_wouldSay nX12_wouldSay rfl (tw_wouldSay d sh _ S M1.md hrg.1 hrg.2 m0 (by omega) y0 (by omega)) (by first | assumption | exact S.at _ rfl) rfl rfl shLe.rf (rmOk.mk (by omega) (by first | exact shLe.rf | assumption)) (Nat.le_of_ble_eq_true rfl) dX12_whoSet_22 rfl rfl (kI fun r c1 hp => ?_)
      obtain ⟨rfl, e1⟩ := hp
      have nxt : ∀ v, ((canW β s m.toNat y ∧ v = shlI 1 m.toNat) ∨ (¬ canW β s m.toNat y ∧ v = 0)) → G (mkK YX12_whoSet (d + 4) sh sh Po) 35 [some (.inr (.inr 92)), some (.inl y), some (.inl a), some (.inl m)] [.inl v, .inl a] sh c1 := by
        intro v hv
        refine g_ior (q := 36) dX12_whoSet_35 rfl ?_
        refine s_istore_n_4_2 (q := 37) dX12_whoSet_36 rfl rfl rfl ?_
        refine s_iinc_4_3 (q := 40) dX12_whoSet_37 rfl rfl rfl ?_
        refine g_goto (q := 4) dX12_whoSet_40 (by decide) ?_
        refine kk _ _ _ (by simp [lsSub]; rfl) ⟨by omega, e.tr e1, ?_⟩
        rw [show (m + 1).toNat = m.toNat + 1 by omega]
        exact hs.up (by omega) hv
      refine g_if_eq (q := 28) (tg := 34) dX12_whoSet_25 (by decide) rfl (fun c_25 => ?_) (fun c_25 => ?_)
      · refine g_iconst (q := 35) dX12_whoSet_34 rfl ?_
        refine nxt _ (Or.inr ⟨?_, rfl⟩)
        rw [em]
        exact wb0.mp c_25
      · refine g_iconst (q := 29) dX12_whoSet_28 rfl ?_
        refine g_iload_n (q := 30) dX12_whoSet_29 rfl rfl ?_
        refine g_ishl (q := 31) dX12_whoSet_30 rfl ?_
        refine g_goto (q := 35) dX12_whoSet_31 (by decide) ?_
        refine nxt _ (Or.inl ⟨?_, by rw [em]⟩)
        rw [em]
        exact wbn.mp c_25
  · rintro a c ⟨-, e, hs⟩
    have L1 : LK c := M.1.eb e rfl
    have M1 : MA c β s := M.same L1 (frJ.of (e 93 (by decide)))
    have hmm := M1.md.mem
    refine g_iload_n (q := 5) dX12_whoSet_4 rfl rfl ?_
    refine g_aload_n (q := 6) dX12_whoSet_5 rfl rfl ?_
    refine g_getA (q := 9) (kI := 1) fX12_13 (by first | assumption | exact S.at _ rfl) dX12_whoSet_6 rfl rfl (by first | assumption | exact L.at _ _ rfl | exact LK.at (by assumption) _ _ rfl | ((repeat first | rewrite [wr_na (by decide)] | rewrite [wr_nk (by decide)] | rewrite [wa_na (by decide)]); first | assumption | exact LK.at (by assumption) _ _ rfl) | exact rfl) ?_
    refine g_iconst (q := 10) dX12_whoSet_9 rfl ?_
    refine g_iaload (q := 11) (by first | assumption | exact S.at _ rfl) (by omega) (by omega) (by omega) dX12_whoSet_10 rfl ?_
    refine g_icmp_ge (q := 14) (tg := 43) dX12_whoSet_11 (by decide) rfl (fun c_11 => ?_) (fun c_11 => ?_)
    · refine g_iload_n (q := 44) dX12_whoSet_43 rfl rfl ?_
      refine g_ireturn dX12_whoSet_44 rfl ?_
      rw [← hP]
      exact ⟨_, rfl, hs, e⟩
    · rw [hmm.1] at c_11
      exact absurd c_11 (Int.lt_irrefl _)
theorem tw_member {m w : Int} (S : SH sh) (M : MA ct β s) (hm : i32 m) (hw : i32 w) : Mt YX12_member (d + 5) [.inr (.inr 92), .inl m, .inl w] sh sh ct (pI fun r c => qMember β s m w r ∧ mF ct c) := by
  unfold i32 at hm hw
  have hb2 := M.2.1.2.2.1.2.2.1
  have M0 := M.mf (mF.th (v := 0))
  have L0 := M0.1
  have s93 : shA sh 93 = some (20, 3120) := S.at _ rfl
  generalize hP : (pI fun r c => qMember β s m w r ∧ mF ct c) = Po
  refine Mt.of rfl (Nat.le_of_ble_eq_true rfl) ?_
  show G _ 0 [some (.inr (.inr 92)), some (.inl m), some (.inl w)] [] sh ct
  refine g_aload_n (q := 1) dX12_member_0 rfl rfl ?_
  refine g_iconst (q := 2) dX12_member_1 rfl ?_
  refine g_putI (q := 5) (kI := 0) fX12_1 (by first | assumption | exact S.at _ rfl) dX12_member_2 rfl rfl ?_
  refine g_aload_n (q := 6) dX12_member_5 rfl rfl ?_
  refine g_iload_n (q := 7) dX12_member_6 rfl rfl ?_
  refine g_i2l (q := 8) dX12_member_7 rfl ?_
  rw [w32_id (x := m) hm.1 hm.2]
  refine g_callV (q := 11) lX12_220 mX12_isMember nX12_isMember rfl (tw_isMember (d + 3) sh _ M0.md S (by unfold i64; omega)) (by first | assumption | exact S.at _ rfl) rfl rfl shLe.rf (rmOk.mk (by omega) (by first | exact shLe.rf | assumption)) (Nat.le_of_ble_eq_true rfl) dX12_member_8 rfl rfl (kI fun r_ c_ hp => ?_)
  obtain ⟨hr, hq⟩ := hp
  replace hr := hr.symm
  replace hq := hq.symm
  subst hr hq
  refine g_if_ne (q := 14) (tg := 17) dX12_member_11 (by decide) rfl (fun c_11 => ?_) (fun c_11 => ?_)
  · have h11 := wbn.mp c_11
    have hmk := M0.md.mark h11.1 (by omega)
    have h30 := M0.md.now.2.2
    have hrg := M0.md.rg
    generalize hc0 : wr ct 92 0 0 = c0 at *
    have e0 : mF ct c0 := by rw [← hc0]; exact mF.th
    refine g_iload_n (q := 18) dX12_member_17 rfl rfl ?_
    rcases (show w = 0 ∨ w = 1 ∨ w = 2 ∨ (w < 0 ∨ 2 < w) by omega) with rfl | rfl | rfl | hw2
    · refine g_tabIn (q := 44) dX12_member_18 0 rfl (by decide) (by decide) rfl (by decide) ?_
      refine g_aload_n (q := 45) dX12_member_44 rfl rfl ?_
      refine g_getA (q := 48) (kI := 1) fX12_13 (by first | assumption | exact S.at _ rfl) dX12_member_45 rfl rfl (by first | assumption | exact L.at _ _ rfl | exact LK.at (by assumption) _ _ rfl | ((repeat first | rewrite [wr_na (by decide)] | rewrite [wr_nk (by decide)] | rewrite [wa_na (by decide)]); first | assumption | exact LK.at (by assumption) _ _ rfl) | exact rfl) ?_
      refine g_bipush (q := 50) dX12_member_48 (by decide +kernel) rfl ?_
      refine g_iload_n (q := 51) dX12_member_50 rfl rfl ?_
      refine g_iadd (q := 52) dX12_member_51 rfl ?_
      refine g_iaload (q := 53) (by first | assumption | exact S.at _ rfl) (by omega) (by omega) (by omega) dX12_member_52 rfl ?_
      refine g_ireturn dX12_member_53 rfl ?_
      rw [← hP]
      exact ⟨_, rfl, Or.inr ⟨h11, Or.inl ⟨rfl, hmk.1⟩⟩, e0⟩
    · refine g_tabIn (q := 54) dX12_member_18 1 rfl (by decide) (by decide) rfl (by decide) ?_
      refine g_aload_n (q := 55) dX12_member_54 rfl rfl ?_
      refine g_iload_n (q := 56) dX12_member_55 rfl rfl ?_
      refine g_callV (q := 59) lX12_258 mX12_wouldSet nX12_wouldSet rfl (tw_wouldSet d sh _ S M0 h11.1 (by omega)) (by first | assumption | exact S.at _ rfl) rfl rfl shLe.rf (rmOk.mk (by omega) (by first | exact shLe.rf | assumption)) (Nat.le_of_ble_eq_true rfl) dX12_member_56 rfl rfl (kI fun r c1 hp => ?_)
      obtain ⟨hr, e1⟩ := hp
      refine g_ireturn dX12_member_59 rfl ?_
      rw [← hP]
      exact ⟨_, rfl, Or.inr ⟨h11, Or.inr (Or.inl ⟨rfl, hr⟩)⟩, e0.tr (mF.of e1 rfl)⟩
    · refine g_tabIn (q := 60) dX12_member_18 2 rfl (by decide) (by decide) rfl (by decide) ?_
      refine g_aload_n (q := 61) dX12_member_60 rfl rfl ?_
      refine g_getA (q := 64) (kI := 1) fX12_13 (by first | assumption | exact S.at _ rfl) dX12_member_61 rfl rfl (by first | assumption | exact L.at _ _ rfl | exact LK.at (by assumption) _ _ rfl | ((repeat first | rewrite [wr_na (by decide)] | rewrite [wr_nk (by decide)] | rewrite [wa_na (by decide)]); first | assumption | exact LK.at (by assumption) _ _ rfl) | exact rfl) ?_
      refine g_bipush (q := 66) dX12_member_64 (by decide +kernel) rfl ?_
      refine g_iaload (q := 67) (by first | assumption | exact S.at _ rfl) (by omega) (by omega) (by omega) dX12_member_66 rfl ?_
      refine g_iload_n (q := 68) dX12_member_67 rfl rfl ?_
      refine g_icmp_ne (q := 71) (tg := 75) dX12_member_68 (by decide) rfl (fun c_68 => ?_) (fun c_68 => ?_)
      · refine g_iconst (q := 76) dX12_member_75 rfl ?_
        refine g_ireturn dX12_member_76 rfl ?_
        rw [← hP]; rw [h30] at c_68; refine ⟨_, rfl, Or.inr ⟨h11, Or.inr (Or.inr ⟨rfl, ?_⟩)⟩, e0⟩; first | (apply b01_t; unfold w32 at c_68; omega) | (apply b01_f; intro z; exact c_68 (by rw [z]))
      · refine g_iconst (q := 72) dX12_member_71 rfl ?_
        refine g_goto (q := 76) dX12_member_72 (by decide) ?_
        refine g_ireturn dX12_member_76 rfl ?_
        rw [← hP]; rw [h30] at c_68; refine ⟨_, rfl, Or.inr ⟨h11, Or.inr (Or.inr ⟨rfl, ?_⟩)⟩, e0⟩; first | (apply b01_t; unfold w32 at c_68; omega) | (apply b01_f; intro z; exact c_68 (by rw [z]))
    · refine g_tabOut (q := 77) dX12_member_18 (by rw [w32_id hw.1 hw.2]; exact hw2) (by decide) ?_
      refine g_bipush (q := 79) dX12_member_77 (by decide +kernel) rfl ?_
      refine g_ireturn dX12_member_79 rfl ?_
      rw [← hP]
      exact ⟨_, rfl, Or.inl ⟨by omega, rfl⟩, e0⟩
  · refine g_bipush (q := 16) dX12_member_14 (by decide +kernel) rfl ?_
    refine g_ireturn dX12_member_16 rfl ?_
    rw [← hP]
    exact ⟨_, rfl, Or.inl ⟨fun z => wb0.mp c_11 z.1, rfl⟩, mF.th⟩
theorem tw_saying {y w : Int} (S : SH sh) (M : MA ct β s) (hy : i32 y) (hw : i32 w) : Mt YX12_saying (d + 5) [.inr (.inr 92), .inl y, .inl w] sh sh ct (pI fun r c => qSaying β s y w r ∧ mF ct c) := by
  unfold i32 at hy hw
  have hb3 := M.2.1.2.2.1.2.2.2.1
  have M0 := M.mf (mF.th (v := 0))
  have L0 := M0.1
  have s93 : shA sh 93 = some (20, 3120) := S.at _ rfl
  generalize hP : (pI fun r c => qSaying β s y w r ∧ mF ct c) = Po
  refine Mt.of rfl (Nat.le_of_ble_eq_true rfl) ?_
  show G _ 0 [some (.inr (.inr 92)), some (.inl y), some (.inl w)] [] sh ct
  refine g_aload_n (q := 1) dX12_saying_0 rfl rfl ?_
  refine g_iconst (q := 2) dX12_saying_1 rfl ?_
  refine g_putI (q := 5) (kI := 0) fX12_1 (by first | assumption | exact S.at _ rfl) dX12_saying_2 rfl rfl ?_
  refine g_aload_n (q := 6) dX12_saying_5 rfl rfl ?_
  refine g_iload_n (q := 7) dX12_saying_6 rfl rfl ?_
  refine g_i2l (q := 8) dX12_saying_7 rfl ?_
  rw [w32_id (x := y) hy.1 hy.2]
  refine g_callV (q := 11) lX12_224 mX12_isSaying nX12_isSaying rfl (tw_isSaying (d + 3) sh _ M0.md S (by unfold i64; omega)) (by first | assumption | exact S.at _ rfl) rfl rfl shLe.rf (rmOk.mk (by omega) (by first | exact shLe.rf | assumption)) (Nat.le_of_ble_eq_true rfl) dX12_saying_8 rfl rfl (kI fun r_ c_ hp => ?_)
  obtain ⟨hr, hq⟩ := hp
  replace hr := hr.symm
  replace hq := hq.symm
  subst hr hq
  refine g_if_ne (q := 14) (tg := 18) dX12_saying_11 (by decide) rfl (fun c_11 => ?_) (fun c_11 => ?_)
  · have h11 := wbn.mp c_11
    have ht := (M0.md.turn h11.1 (by omega)).1
    generalize hc0 : wr ct 92 0 0 = c0 at *
    have e0 : mF ct c0 := by rw [← hc0]; exact mF.th
    refine g_iload_n (q := 19) dX12_saying_18 rfl rfl ?_
    rcases (show w = 0 ∨ w = 1 ∨ w = 2 ∨ (w < 0 ∨ 2 < w) by omega) with rfl | rfl | rfl | hw2
    · refine g_tabIn (q := 44) dX12_saying_19 0 rfl (by decide) (by decide) rfl (by decide) ?_
      refine g_aload_n (q := 45) dX12_saying_44 rfl rfl ?_
      refine g_getA (q := 48) (kI := 1) fX12_13 (by first | assumption | exact S.at _ rfl) dX12_saying_45 rfl rfl (by first | assumption | exact L.at _ _ rfl | exact LK.at (by assumption) _ _ rfl | ((repeat first | rewrite [wr_na (by decide)] | rewrite [wr_nk (by decide)] | rewrite [wa_na (by decide)]); first | assumption | exact LK.at (by assumption) _ _ rfl) | exact rfl) ?_
      refine g_bipush (q := 50) dX12_saying_48 (by decide +kernel) rfl ?_
      refine g_iload_n (q := 51) dX12_saying_50 rfl rfl ?_
      refine g_iadd (q := 52) dX12_saying_51 rfl ?_
      refine g_iaload (q := 53) (by first | assumption | exact S.at _ rfl) (by omega) (by omega) (by omega) dX12_saying_52 rfl ?_
      refine g_ireturn dX12_saying_53 rfl ?_
      rw [← hP]
      exact ⟨_, rfl, Or.inr ⟨h11, Or.inl ⟨rfl, ht.1⟩⟩, e0⟩
    · refine g_tabIn (q := 54) dX12_saying_19 1 rfl (by decide) (by decide) rfl (by decide) ?_
      refine g_aload_n (q := 55) dX12_saying_54 rfl rfl ?_
      refine g_getA (q := 58) (kI := 1) fX12_13 (by first | assumption | exact S.at _ rfl) dX12_saying_55 rfl rfl (by first | assumption | exact L.at _ _ rfl | exact LK.at (by assumption) _ _ rfl | ((repeat first | rewrite [wr_na (by decide)] | rewrite [wr_nk (by decide)] | rewrite [wa_na (by decide)]); first | assumption | exact LK.at (by assumption) _ _ rfl) | exact rfl) ?_
      refine g_bipush (q := 60) dX12_saying_58 (by decide +kernel) rfl ?_
      refine g_iload_n (q := 61) dX12_saying_60 rfl rfl ?_
      refine g_iadd (q := 62) dX12_saying_61 rfl ?_
      refine g_iaload (q := 63) (by first | assumption | exact S.at _ rfl) (by omega) (by omega) (by omega) dX12_saying_62 rfl ?_
      refine g_ireturn dX12_saying_63 rfl ?_
      rw [← hP]
      exact ⟨_, rfl, Or.inr ⟨h11, Or.inr (Or.inl ⟨rfl, ht.2⟩)⟩, e0⟩
    · refine g_tabIn (q := 64) dX12_saying_19 2 rfl (by decide) (by decide) rfl (by decide) ?_
      refine g_aload_n (q := 65) dX12_saying_64 rfl rfl ?_
      refine g_iload_n (q := 66) dX12_saying_65 rfl rfl ?_
      refine g_callV (q := 69) lX12_262 mX12_whoSet nX12_whoSet rfl (tw_whoSet d sh _ S M0 h11.1 (by omega)) (by first | assumption | exact S.at _ rfl) rfl rfl shLe.rf (rmOk.mk (by omega) (by first | exact shLe.rf | assumption)) (Nat.le_of_ble_eq_true rfl) dX12_saying_66 rfl rfl (kI fun r c1 hp => ?_)
      obtain ⟨hr, e1⟩ := hp
      refine g_ireturn dX12_saying_69 rfl ?_
      rw [← hP]
      exact ⟨_, rfl, Or.inr ⟨h11, Or.inr (Or.inr ⟨rfl, hr⟩)⟩, e0.tr (mF.of e1 rfl)⟩
    · refine g_tabOut (q := 70) dX12_saying_19 (by rw [w32_id hw.1 hw.2]; exact hw2) (by decide) ?_
      refine g_ldcw (q := 73) dX12_saying_70 kX12_261 rfl ?_
      refine g_ireturn dX12_saying_73 rfl ?_
      rw [← hP]
      exact ⟨_, rfl, Or.inl ⟨by omega, rfl⟩, e0⟩
  · refine g_ldcw (q := 17) dX12_saying_14 kX12_261 rfl ?_
    refine g_ireturn dX12_saying_17 rfl ?_
    rw [← hP]
    exact ⟨_, rfl, Or.inl ⟨fun z => wb0.mp c_11 z.1, rfl⟩, mF.th⟩
theorem tw_closed (S : SH sh) (M : MA ct β s) : Mt YX12_closed (d + 3) [.inr (.inr 92)] sh sh ct (pI fun r c => r = b01 (β.cl s.1 = true) ∧ mF ct c) := by
  have M0 := M.mf (mF.th (v := 0))
  have hrg := M0.md.rg
  refine Mt.of rfl (Nat.le_of_ble_eq_true rfl) ?_
  show G _ 0 [some (.inr (.inr 92))] [] sh ct
  refine g_aload_n (q := 1) dX12_closed_0 rfl rfl ?_
  refine g_iconst (q := 2) dX12_closed_1 rfl ?_
  refine g_putI (q := 5) (kI := 0) fX12_1 (by first | assumption | exact S.at _ rfl) dX12_closed_2 rfl rfl ?_
  refine g_aload_n (q := 6) dX12_closed_5 rfl rfl ?_
  refine g_aload_n (q := 7) dX12_closed_6 rfl rfl ?_
  refine g_callV (q := 10) lX12_251 mX12_standNow nX12_standNow rfl (tw_standNow (d + 2) sh _ M0.md S) (by first | assumption | exact S.at _ rfl) rfl rfl shLe.rf (rmOk.mk (by omega) (by first | exact shLe.rf | assumption)) (Nat.le_of_ble_eq_true rfl) dX12_closed_7 rfl rfl (kI fun r_ c_ hp => ?_)
  obtain ⟨hr, hq⟩ := hp
  replace hr := hr.symm
  replace hq := hq.symm
  subst hr hq
  refine g_callV (q := 13) lX12_265 mX12_isClosed nX12_isClosed rfl (tw_isClosed d sh _ S M0.md hrg.1 hrg.2) (by first | assumption | exact S.at _ rfl) rfl rfl shLe.rf (rmOk.mk (by omega) (by first | exact shLe.rf | assumption)) (Nat.le_of_ble_eq_true rfl) dX12_closed_10 rfl rfl (kI fun r c1 hp => ?_)
  obtain ⟨rfl, e1⟩ := hp
  refine g_if_eq (q := 16) (tg := 20) dX12_closed_13 (by decide) rfl (fun c_13 => ?_) (fun c_13 => ?_)
  · refine g_iconst (q := 21) dX12_closed_20 rfl ?_
    refine g_ireturn dX12_closed_21 rfl ?_
    refine ⟨_, rfl, ?_, (mF.th (v := 0)).tr (mF.of e1 rfl)⟩; first | exact b01_t (wbn.mp c_13) | exact b01_f (wb0.mp c_13)
  · refine g_iconst (q := 17) dX12_closed_16 rfl ?_
    refine g_goto (q := 21) dX12_closed_17 (by decide) ?_
    refine g_ireturn dX12_closed_21 rfl ?_
    refine ⟨_, rfl, ?_, (mF.th (v := 0)).tr (mF.of e1 rfl)⟩; first | exact b01_t (wbn.mp c_13) | exact b01_f (wb0.mp c_13)
theorem tw_open (S : SH sh) (M : MA ct β s) : Mt YX12_open (d + 5) [.inr (.inr 92)] sh sh ct (pI fun r c => r = (opnN β s (β.n 2).toNat : Nat) ∧ mF ct c) := by
  have hb2 := M.2.1.2.2.1.2.2.1
  have hb3 := M.2.1.2.2.1.2.2.2.1
  generalize hP : (pI fun r c => r = (opnN β s (β.n 2).toNat : Nat) ∧ mF ct c) = Po
  refine Mt.of rfl (Nat.le_of_ble_eq_true rfl) ?_
  show G _ 0 [some (.inr (.inr 92)), none, none] [] sh ct
  refine g_aload_n (q := 1) dX12_open_0 rfl rfl ?_
  refine g_iconst (q := 2) dX12_open_1 rfl ?_
  refine g_putI (q := 5) (kI := 0) fX12_1 (by first | assumption | exact S.at _ rfl) dX12_open_2 rfl rfl ?_
  refine g_iconst (q := 6) dX12_open_5 rfl ?_
  refine s_istore_n_3_1 (q := 7) dX12_open_6 rfl rfl rfl ?_
  refine g_iconst (q := 8) dX12_open_7 rfl ?_
  refine s_istore_n_3_2 (q := 9) dX12_open_8 rfl rfl rfl ?_
  refine g_for (fun m => [some (.inr (.inr 92)), some (.inl ((opnN β s m.toNat : Nat) : Int)), some (.inl m)]) (fun m c => 0 ≤ m ∧ mF ct c) (β.n 2) ?_ ?_ (i := 0) (by omega) ⟨by omega, mF.th⟩ (by simp [lsSub]; rfl)
  · rintro m c hm ⟨m0, e⟩ kk
    have M1 := M.mf e
    have L1 := M1.1
    have hmm := M1.md.mem
    have em : ((m.toNat : Nat) : Int) = m := by omega
    refine g_iload_n (q := 10) dX12_open_9 rfl rfl ?_
    refine g_aload_n (q := 11) dX12_open_10 rfl rfl ?_
    refine g_getA (q := 14) (kI := 1) fX12_13 (by first | assumption | exact S.at _ rfl) dX12_open_11 rfl rfl (by first | assumption | exact L.at _ _ rfl | exact LK.at (by assumption) _ _ rfl | ((repeat first | rewrite [wr_na (by decide)] | rewrite [wr_nk (by decide)] | rewrite [wa_na (by decide)]); first | assumption | exact LK.at (by assumption) _ _ rfl) | exact rfl) ?_
    refine g_iconst (q := 15) dX12_open_14 rfl ?_
    refine g_iaload (q := 16) (by first | assumption | exact S.at _ rfl) (by omega) (by omega) (by omega) dX12_open_15 rfl ?_
    refine g_icmp_ge (q := 19) (tg := 36) dX12_open_16 (by decide) rfl (fun c_16 => ?_) (fun c_16 => ?_)
    · rw [hmm.1] at c_16
      exact absurd c_16 (by unfold w32; omega)
    · refine g_iload_n (q := 20) dX12_open_19 rfl rfl ?_
      refine g_aload_n (q := 21) dX12_open_20 rfl rfl ?_
      refine g_iload_n (q := 22) dX12_open_21 rfl rfl ?_
      refine g_callV (q := 25) lX12_258 mX12_wouldSet nX12_wouldSet rfl (tw_wouldSet d sh _ S M1 m0 (by omega)) (by first | assumption | exact S.at _ rfl) rfl rfl shLe.rf (rmOk.mk (by omega) (by first | exact shLe.rf | assumption)) (Nat.le_of_ble_eq_true rfl) dX12_open_22 rfl rfl (kI fun r c1 hp => ?_)
      obtain ⟨hr, e1⟩ := hp
      obtain ⟨q, rfl, hq⟩ := hr.n (by omega)
      refine g_callS (q := 28) lX12_268 mX12_bitsOf sX12_bitsOf rfl (tw_bitsOf (d + 4) sh _ (q := q)) shLe.rf (rmOk.mk (by omega) (by first | exact shLe.rf | assumption)) (Nat.le_of_ble_eq_true rfl) dX12_open_25 rfl rfl (kI fun r_ c_ hp => ?_)
      obtain ⟨hr, hq⟩ := hp
      replace hr := hr.symm
      replace hq := hq.symm
      subst hr hq
      refine g_iadd (q := 29) dX12_open_28 rfl ?_
      refine s_istore_n_3_1 (q := 30) dX12_open_29 rfl rfl rfl ?_
      refine s_iinc_3_2 (q := 33) dX12_open_30 rfl rfl rfl ?_
      refine g_goto (q := 9) dX12_open_33 (by decide) ?_
      refine kk _ _ ?_ ⟨by omega, e.tr (mF.of e1 rfl)⟩
      have hs : ((opnN β s (m + 1).toNat : Nat) : Int) = (opnN β s m.toNat : Nat) + (cntB q 10 : Nat) := by
        rw [show (m + 1).toNat = m.toNat + 1 by omega]
        show ((opnN β s m.toNat + cntB (fun y => decide ((y : Int) < β.n 3) && β.W s.1 m.toNat (s.2.2 m.toNat) y) 10 : Nat) : Int) = _
        rw [em, cntB_cong (p := fun y => decide ((y : Int) < β.n 3) && β.W s.1 m (s.2.2 m) y) (q := q) (fun i _ => ?_)]
        · omega
        · have h := hq i
          cases hqi : q i
          · by_cases hi : (i : Int) < β.n 3
            · have : ¬ canW β s m i := fun z => by
                have := h.mpr ⟨by omega, z⟩
                rw [hqi] at this
                exact absurd this (by decide)
              unfold canW at this
              simp [this]
            · rw [decide_eq_false hi, Bool.false_and]
          · have h2 := h.mp hqi
            have h3 : β.W s.1 m (s.2.2 m) i = true := h2.2
            rw [decide_eq_true (show (i : Int) < β.n 3 by omega), h3]
            rfl
      rw [hs]
      simp [lsSub]
  · rintro c ⟨-, e⟩
    have M1 := M.mf e
    have L1 := M1.1
    have hmm := M1.md.mem
    refine g_iload_n (q := 10) dX12_open_9 rfl rfl ?_
    refine g_aload_n (q := 11) dX12_open_10 rfl rfl ?_
    refine g_getA (q := 14) (kI := 1) fX12_13 (by first | assumption | exact S.at _ rfl) dX12_open_11 rfl rfl (by first | assumption | exact L.at _ _ rfl | exact LK.at (by assumption) _ _ rfl | ((repeat first | rewrite [wr_na (by decide)] | rewrite [wr_nk (by decide)] | rewrite [wa_na (by decide)]); first | assumption | exact LK.at (by assumption) _ _ rfl) | exact rfl) ?_
    refine g_iconst (q := 15) dX12_open_14 rfl ?_
    refine g_iaload (q := 16) (by first | assumption | exact S.at _ rfl) (by omega) (by omega) (by omega) dX12_open_15 rfl ?_
    refine g_icmp_ge (q := 19) (tg := 36) dX12_open_16 (by decide) rfl (fun c_16 => ?_) (fun c_16 => ?_)
    · refine g_iload_n (q := 37) dX12_open_36 rfl rfl ?_
      refine g_ireturn dX12_open_37 rfl ?_
      rw [← hP]
      exact ⟨_, rfl, rfl, e⟩
    · rw [hmm.1] at c_16
      exact absurd c_16 (Int.lt_irrefl _)
theorem tw_fault {w : Int} (S : SH sh) (hw : i32 w) : Mt YX12_fault d [.inr (.inr 92), .inl w] sh sh ct (pI fun r c => r = (if w = 0 then ct 92 13 else if w = 1 then ct 92 14 else -1) ∧ c = wr ct 92 0 0) := by
  unfold i32 at hw
  have h13 : wr ct 92 0 0 92 13 = ct 92 13 := wr_nk (by decide)
  have h14 : wr ct 92 0 0 92 14 = ct 92 14 := wr_nk (by decide)
  refine Mt.of rfl (Nat.le_of_ble_eq_true rfl) ?_
  show G _ 0 [some (.inr (.inr 92)), some (.inl w)] [] sh ct
  refine g_aload_n (q := 1) dX12_fault_0 rfl rfl ?_
  refine g_iconst (q := 2) dX12_fault_1 rfl ?_
  refine g_putI (q := 5) (kI := 0) fX12_1 (by first | assumption | exact S.at _ rfl) dX12_fault_2 rfl rfl ?_
  refine g_iload_n (q := 6) dX12_fault_5 rfl rfl ?_
  refine g_if_ne (q := 9) (tg := 16) dX12_fault_6 (by decide) rfl (fun c_6 => ?_) (fun c_6 => ?_)
  · have h0 : w ≠ 0 := fun z => c_6 (by rw [z]; rfl)
    refine g_iload_n (q := 17) dX12_fault_16 rfl rfl ?_
    refine g_iconst (q := 18) dX12_fault_17 rfl ?_
    refine g_icmp_ne (q := 21) (tg := 28) dX12_fault_18 (by decide) rfl (fun c_18 => ?_) (fun c_18 => ?_)
    · have h1 : w ≠ 1 := fun z => c_18 (by rw [z])
      refine g_iconst (q := 29) dX12_fault_28 rfl ?_
      refine g_ireturn dX12_fault_29 rfl ?_
      exact ⟨_, rfl, by rw [if_neg h0, if_neg h1], rfl⟩
    · have h1 : w = 1 := by unfold w32 at c_18; omega
      refine g_aload_n (q := 22) dX12_fault_21 rfl rfl ?_
      refine g_getI (q := 25) (kI := 14) fX12_27 (by first | assumption | exact S.at _ rfl) dX12_fault_22 rfl rfl ?_
      refine g_goto (q := 29) dX12_fault_25 (by decide) ?_
      refine g_ireturn dX12_fault_29 rfl ?_
      exact ⟨_, rfl, by rw [if_neg h0, if_pos h1, h14], rfl⟩
  · have h0 : w = 0 := by unfold w32 at c_6; omega
    refine g_aload_n (q := 10) dX12_fault_9 rfl rfl ?_
    refine g_getI (q := 13) (kI := 13) fX12_210 (by first | assumption | exact S.at _ rfl) dX12_fault_10 rfl rfl ?_
    refine g_goto (q := 29) dX12_fault_13 (by decide) ?_
    refine g_ireturn dX12_fault_29 rfl ?_
    exact ⟨_, rfl, by rw [if_pos h0, h13], rfl⟩
def fdB (a b e f g k : Int) : Int := shrI (if k < 4 then a else if k < 8 then b else if k < 12 then e else if k < 16 then f else g) (24 - 8 * (k % 4)) % 256
theorem and255 (x : Int) : andI x 255 = x % 256 := by
  unfold andI
  rw [show ((255 : Int) % 4294967296).toNat = 2 ^ 8 - 1 from rfl, Nat.and_two_pow_sub_one_eq_mod]
  omega
theorem tw_feed {a b e f g tn : Int} (S : SH sh) (L : LK ct) (h5 : ct 92 5 = tn) (t0 : 0 ≤ tn) (t1 : tn ≤ 900) : Mt YX12_feed d [.inr (.inr 92), .inl a, .inl b, .inl e, .inl f, .inl g] sh sh ct (pI fun r c => ((880 < tn ∧ r = -5 ∧ c = wr ct 92 0 0) ∨ (tn ≤ 880 ∧ r = tn + 20 ∧ c 92 5 = tn + 20 ∧ (∀ k, 0 ≤ k → k < 20 → c 95 (tn + k) = fdB a b e f g k) ∧ (∀ j, j < tn → c 95 j = ct 95 j) ∧ (∀ k, k ≠ 0 → k ≠ 5 → c 92 k = ct 92 k) ∧ eqBut [92, 95] ct c))) := by
  have s95 : shA sh 95 = some (20, 900) := S.at _ rfl
  have h5' : wr ct 92 0 0 92 5 = tn := by rw [wr_nk (by decide)]; exact h5
  generalize hP : (pI fun r c => ((880 < tn ∧ r = -5 ∧ c = wr ct 92 0 0) ∨ (tn ≤ 880 ∧ r = tn + 20 ∧ c 92 5 = tn + 20 ∧ (∀ k, 0 ≤ k → k < 20 → c 95 (tn + k) = fdB a b e f g k) ∧ (∀ j, j < tn → c 95 j = ct 95 j) ∧ (∀ k, k ≠ 0 → k ≠ 5 → c 92 k = ct 92 k) ∧ eqBut [92, 95] ct c))) = Po
  refine Mt.of rfl (Nat.le_of_ble_eq_true rfl) ?_
  show G _ 0 [some (.inr (.inr 92)), some (.inl a), some (.inl b), some (.inl e), some (.inl f), some (.inl g), none, none] [] sh ct
  refine g_aload_n (q := 1) dX12_feed_0 rfl rfl ?_
  refine g_iconst (q := 2) dX12_feed_1 rfl ?_
  refine g_putI (q := 5) (kI := 0) fX12_1 (by first | assumption | exact S.at _ rfl) dX12_feed_2 rfl rfl ?_
  refine g_aload_n (q := 6) dX12_feed_5 rfl rfl ?_
  refine g_getI (q := 9) (kI := 5) fX12_88 (by first | assumption | exact S.at _ rfl) dX12_feed_6 rfl rfl ?_
  rw [h5']
  refine g_bipush (q := 11) dX12_feed_9 (by decide +kernel) rfl ?_
  refine g_iadd (q := 12) dX12_feed_11 rfl ?_
  refine g_sipush (q := 15) dX12_feed_12 (by decide +kernel) rfl ?_
  refine g_icmp_le (q := 18) (tg := 21) dX12_feed_15 (by decide) rfl (fun c_15 => ?_) (fun c_15 => ?_)
  · have ht : tn ≤ 880 := by unfold w32 at c_15; omega
    refine g_iconst (q := 22) dX12_feed_21 rfl ?_
    refine s_istore_8_6 (q := 24) dX12_feed_22 rfl rfl rfl ?_
    refine g_for (fun k => [some (.inr (.inr 92)), some (.inl a), some (.inl b), some (.inl e), some (.inl f), some (.inl g), some (.inl k), none]) (fun k c => 0 ≤ k ∧ c 92 5 = tn + k ∧ (∀ j, 0 ≤ j → j < k → c 95 (tn + j) = fdB a b e f g j) ∧ (∀ j, j < tn → c 95 j = ct 95 j) ∧ (∀ k, k ≠ 0 → k ≠ 5 → c 92 k = ct 92 k) ∧ eqBut [92, 95] ct c) 20 ?_ ?_ (i := 0) (by omega) ⟨by omega, by rw [h5', Int.add_zero], fun j _ _ => by omega, fun j _ => by rw [wr_na (by decide)], fun k hk _ => wr_nk hk, eqBut.rf.wr (by decide)⟩ (by simp [lsSub])
    · rintro k c hk ⟨k0, i5, i1, i2, i3, i4⟩ kk
      have L1 : c 92 3 = 95 := by rw [i3 3 (by decide) (by decide)]; exact L.at _ _ rfl
      have hm4 : (w32 k).tmod (w32 4) = k % 4 := by rw [w32_id (x := k) (by omega) (by omega), tm_pos k0]; rfl
      have body : ∀ v, v = (if k < 4 then a else if k < 8 then b else if k < 12 then e else if k < 16 then f else g) → G (mkK YX12_feed d sh sh Po) 77 [some (.inr (.inr 92)), some (.inl a), some (.inl b), some (.inl e), some (.inl f), some (.inl g), some (.inl k), none] [.inl v] sh c := by
        intro v hv
        refine s_istore_8_7 (q := 79) dX12_feed_77 rfl rfl rfl ?_
        refine g_aload_n (q := 80) dX12_feed_79 rfl rfl ?_
        refine g_getA (q := 83) (kI := 3) fX12_21 (by first | assumption | exact S.at _ rfl) dX12_feed_80 rfl rfl (by first | assumption | exact L.at _ _ rfl | exact LK.at (by assumption) _ _ rfl | ((repeat first | rewrite [wr_na (by decide)] | rewrite [wr_nk (by decide)] | rewrite [wa_na (by decide)]); first | assumption | exact LK.at (by assumption) _ _ rfl) | exact rfl) ?_
        refine g_aload_n (q := 84) dX12_feed_83 rfl rfl ?_
        refine g_getI (q := 87) (kI := 5) fX12_88 (by first | assumption | exact S.at _ rfl) dX12_feed_84 rfl rfl ?_
        rw [i5]
        refine g_iload (q := 89) dX12_feed_87 rfl rfl ?_
        refine g_bipush (q := 91) dX12_feed_89 (by decide +kernel) rfl ?_
        refine g_bipush (q := 93) dX12_feed_91 (by decide +kernel) rfl ?_
        refine g_iload (q := 95) dX12_feed_93 rfl rfl ?_
        refine g_iconst (q := 96) dX12_feed_95 rfl ?_
        refine g_irem (q := 97) dX12_feed_96 (by decide) rfl ?_
        rw [hm4]
        refine g_imul (q := 98) dX12_feed_97 rfl ?_
        refine g_isub (q := 99) dX12_feed_98 rfl ?_
        refine g_ishr (q := 100) dX12_feed_99 rfl ?_
        refine g_sipush (q := 103) dX12_feed_100 (by decide +kernel) rfl ?_
        refine g_iand (q := 104) dX12_feed_103 rfl ?_
        rw [and255]
        have hq : ∀ z, wr c 95 (tn + k) z 92 5 = tn + k := fun z => by rw [wr_na (by decide)]; exact i5
        refine g_iastore (q := 105) (by first | assumption | exact S.at _ rfl) (by omega) (by omega) (by omega) dX12_feed_104 rfl ?_
        refine g_aload_n (q := 106) dX12_feed_105 rfl rfl ?_
        refine g_dup (q := 107) dX12_feed_106 rfl rfl ?_
        refine g_getI (q := 110) (kI := 5) fX12_88 (by first | assumption | exact S.at _ rfl) dX12_feed_107 rfl rfl ?_
        rw [hq]
        refine g_iconst (q := 111) dX12_feed_110 rfl ?_
        refine g_iadd (q := 112) dX12_feed_111 rfl ?_
        refine g_putI (q := 115) (kI := 5) fX12_88 (by first | assumption | exact S.at _ rfl) dX12_feed_112 rfl rfl ?_
        refine s_iinc_8_6 (q := 118) dX12_feed_115 rfl rfl rfl ?_
        refine g_goto (q := 24) dX12_feed_118 (by decide) ?_
        refine kk _ _ (by simp [lsSub]) ⟨by omega, by rw [wr_eq]; omega, fun j j0 j1 => ?_, fun j hj => ?_, fun j a b => ?_, (i4.wr (by decide)).wr (by decide)⟩
        · rw [wr_na (by decide)]
          by_cases hjk : j = k
          · subst hjk
            rw [wr_eq]
            unfold fdB
            rw [← hv]
          · rw [wr_nk (by omega)]
            exact i1 j j0 (by omega)
        · rw [wr_na (by decide), wr_nk (by omega)]
          exact i2 j hj
        · rw [wr_nk b, wr_na (by decide)]
          exact i3 j a b
      refine g_iload (q := 26) dX12_feed_24 rfl rfl ?_
      refine g_bipush (q := 28) dX12_feed_26 (by decide +kernel) rfl ?_
      refine g_icmp_ge (q := 31) (tg := 121) dX12_feed_28 (by decide) rfl (fun c_28 => ?_) (fun c_28 => ?_)
      · exact absurd c_28 (by unfold w32; omega)
      · refine g_iload (q := 33) dX12_feed_31 rfl rfl ?_
        refine g_iconst (q := 34) dX12_feed_33 rfl ?_
        refine g_icmp_ge (q := 37) (tg := 41) dX12_feed_34 (by decide) rfl (fun c_34 => ?_) (fun c_34 => ?_)
        · refine g_iload (q := 43) dX12_feed_41 rfl rfl ?_
          refine g_bipush (q := 45) dX12_feed_43 (by decide +kernel) rfl ?_
          refine g_icmp_ge (q := 48) (tg := 52) dX12_feed_45 (by decide) rfl (fun c_45 => ?_) (fun c_45 => ?_)
          · refine g_iload (q := 54) dX12_feed_52 rfl rfl ?_
            refine g_bipush (q := 56) dX12_feed_54 (by decide +kernel) rfl ?_
            refine g_icmp_ge (q := 59) (tg := 63) dX12_feed_56 (by decide) rfl (fun c_56 => ?_) (fun c_56 => ?_)
            · refine g_iload (q := 65) dX12_feed_63 rfl rfl ?_
              refine g_bipush (q := 67) dX12_feed_65 (by decide +kernel) rfl ?_
              refine g_icmp_ge (q := 70) (tg := 75) dX12_feed_67 (by decide) rfl (fun c_67 => ?_) (fun c_67 => ?_)
              · refine g_iload (q := 77) dX12_feed_75 rfl rfl ?_
                exact body g (by unfold w32 at *; rw [if_neg (by omega), if_neg (by omega), if_neg (by omega), if_neg (by omega)])
              · refine g_iload (q := 72) dX12_feed_70 rfl rfl ?_
                refine g_goto (q := 77) dX12_feed_72 (by decide) ?_
                exact body f (by unfold w32 at *; rw [if_neg (by omega), if_neg (by omega), if_neg (by omega), if_pos (by omega)])
            · refine g_iload_n (q := 60) dX12_feed_59 rfl rfl ?_
              refine g_goto (q := 77) dX12_feed_60 (by decide) ?_
              exact body e (by unfold w32 at *; rw [if_neg (by omega), if_neg (by omega), if_pos (by omega)])
          · refine g_iload_n (q := 49) dX12_feed_48 rfl rfl ?_
            refine g_goto (q := 77) dX12_feed_49 (by decide) ?_
            exact body b (by unfold w32 at *; rw [if_neg (by omega), if_pos (by omega)])
        · refine g_iload_n (q := 38) dX12_feed_37 rfl rfl ?_
          refine g_goto (q := 77) dX12_feed_38 (by decide) ?_
          exact body a (by unfold w32 at *; rw [if_pos (by omega)])
    · rintro c ⟨-, i5, i1, i2, i3, i4⟩
      refine g_iload (q := 26) dX12_feed_24 rfl rfl ?_
      refine g_bipush (q := 28) dX12_feed_26 (by decide +kernel) rfl ?_
      refine g_icmp_ge (q := 31) (tg := 121) dX12_feed_28 (by decide) rfl (fun c_28 => ?_) (fun c_28 => ?_)
      · refine g_aload_n (q := 122) dX12_feed_121 rfl rfl ?_
        refine g_getI (q := 125) (kI := 5) fX12_88 (by first | assumption | exact S.at _ rfl) dX12_feed_122 rfl rfl ?_
        refine g_ireturn dX12_feed_125 rfl ?_
        rw [← hP]
        exact ⟨_, rfl, Or.inr ⟨ht, i5, i5, i1, i2, i3, i4⟩⟩
      · exact absurd c_28 (by decide)
  · refine g_bipush (q := 20) dX12_feed_18 (by decide +kernel) rfl ?_
    refine g_ireturn dX12_feed_20 rfl ?_
    rw [← hP]
    exact ⟨_, rfl, Or.inl ⟨by unfold w32 at c_15; omega, rfl, rfl⟩⟩
end
