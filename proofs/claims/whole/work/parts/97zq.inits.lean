/-! the constructors -/
theorem dX0_init_0 : decode cX0_init 0 = .ok (.aload_n 0, 1) := by decide +kernel
theorem dX0_init_1 : decode cX0_init 1 = .ok (.invokespecial 3, 3) := by decide +kernel
theorem dX0_init_4 : decode cX0_init 4 = .ok (.aload_n 0, 1) := by decide +kernel
theorem dX0_init_5 : decode cX0_init 5 = .ok (.bipush 6, 2) := by decide +kernel
theorem dX0_init_7 : decode cX0_init 7 = .ok (.newarray .int, 2) := by decide +kernel
theorem dX0_init_9 : decode cX0_init 9 = .ok (.putfield 9, 3) := by decide +kernel
theorem dX0_init_12 : decode cX0_init 12 = .ok (.aload_n 0, 1) := by decide +kernel
theorem dX0_init_13 : decode cX0_init 13 = .ok (.bipush 8, 2) := by decide +kernel
theorem dX0_init_15 : decode cX0_init 15 = .ok (.newarray .int, 2) := by decide +kernel
theorem dX0_init_17 : decode cX0_init 17 = .ok (.putfield 15, 3) := by decide +kernel
theorem dX0_init_20 : decode cX0_init 20 = .ok (.aload_n 0, 1) := by decide +kernel
theorem dX0_init_21 : decode cX0_init 21 = .ok (.bipush 8, 2) := by decide +kernel
theorem dX0_init_23 : decode cX0_init 23 = .ok (.newarray .int, 2) := by decide +kernel
theorem dX0_init_25 : decode cX0_init 25 = .ok (.putfield 18, 3) := by decide +kernel
theorem dX0_init_28 : decode cX0_init 28 = .ok (.aload_n 0, 1) := by decide +kernel
theorem dX0_init_29 : decode cX0_init 29 = .ok (.sipush 900, 3) := by decide +kernel
theorem dX0_init_32 : decode cX0_init 32 = .ok (.newarray .short, 2) := by decide +kernel
theorem dX0_init_34 : decode cX0_init 34 = .ok (.putfield 21, 3) := by decide +kernel
theorem dX0_init_37 : decode cX0_init 37 = .ok (.return_, 1) := by decide +kernel
theorem dX8_init_0 : decode cX8_init 0 = .ok (.aload_n 0, 1) := by decide +kernel
theorem dX8_init_1 : decode cX8_init 1 = .ok (.invokespecial 3, 3) := by decide +kernel
theorem dX8_init_4 : decode cX8_init 4 = .ok (.aload_n 0, 1) := by decide +kernel
theorem dX8_init_5 : decode cX8_init 5 = .ok (.bipush 6, 2) := by decide +kernel
theorem dX8_init_7 : decode cX8_init 7 = .ok (.putfield 9, 3) := by decide +kernel
theorem dX8_init_10 : decode cX8_init 10 = .ok (.aload_n 0, 1) := by decide +kernel
theorem dX8_init_11 : decode cX8_init 11 = .ok (.bipush 6, 2) := by decide +kernel
theorem dX8_init_13 : decode cX8_init 13 = .ok (.newarray .int, 2) := by decide +kernel
theorem dX8_init_15 : decode cX8_init 15 = .ok (.putfield 15, 3) := by decide +kernel
theorem dX8_init_18 : decode cX8_init 18 = .ok (.return_, 1) := by decide +kernel
theorem dX9_init_0 : decode cX9_init 0 = .ok (.aload_n 0, 1) := by decide +kernel
theorem dX9_init_1 : decode cX9_init 1 = .ok (.invokespecial 3, 3) := by decide +kernel
theorem dX9_init_4 : decode cX9_init 4 = .ok (.aload_n 0, 1) := by decide +kernel
theorem dX9_init_5 : decode cX9_init 5 = .ok (.bipush 40, 2) := by decide +kernel
theorem dX9_init_7 : decode cX9_init 7 = .ok (.newarray .long, 2) := by decide +kernel
theorem dX9_init_9 : decode cX9_init 9 = .ok (.putfield 9, 3) := by decide +kernel
theorem dX9_init_12 : decode cX9_init 12 = .ok (.aload_n 0, 1) := by decide +kernel
theorem dX9_init_13 : decode cX9_init 13 = .ok (.iconst (-1), 1) := by decide +kernel
theorem dX9_init_14 : decode cX9_init 14 = .ok (.putfield 15, 3) := by decide +kernel
theorem dX9_init_17 : decode cX9_init 17 = .ok (.return_, 1) := by decide +kernel
theorem dX2_init_0 : decode cX2_init 0 = .ok (.aload_n 0, 1) := by decide +kernel
theorem dX2_init_1 : decode cX2_init 1 = .ok (.invokespecial 1, 3) := by decide +kernel
theorem dX2_init_4 : decode cX2_init 4 = .ok (.aload_n 0, 1) := by decide +kernel
theorem dX2_init_5 : decode cX2_init 5 = .ok (.new 7, 3) := by decide +kernel
theorem dX2_init_8 : decode cX2_init 8 = .ok (.dup, 1) := by decide +kernel
theorem dX2_init_9 : decode cX2_init 9 = .ok (.invokespecial 9, 3) := by decide +kernel
theorem dX2_init_12 : decode cX2_init 12 = .ok (.putfield 10, 3) := by decide +kernel
theorem dX2_init_15 : decode cX2_init 15 = .ok (.aload_n 0, 1) := by decide +kernel
theorem dX2_init_16 : decode cX2_init 16 = .ok (.new 16, 3) := by decide +kernel
theorem dX2_init_19 : decode cX2_init 19 = .ok (.dup, 1) := by decide +kernel
theorem dX2_init_20 : decode cX2_init 20 = .ok (.invokespecial 18, 3) := by decide +kernel
theorem dX2_init_23 : decode cX2_init 23 = .ok (.putfield 19, 3) := by decide +kernel
theorem dX2_init_26 : decode cX2_init 26 = .ok (.return_, 1) := by decide +kernel
theorem dX5_init_0 : decode cX5_init 0 = .ok (.aload_n 0, 1) := by decide +kernel
theorem dX5_init_1 : decode cX5_init 1 = .ok (.invokespecial 3, 3) := by decide +kernel
theorem dX5_init_4 : decode cX5_init 4 = .ok (.aload_n 0, 1) := by decide +kernel
theorem dX5_init_5 : decode cX5_init 5 = .ok (.bipush 10, 2) := by decide +kernel
theorem dX5_init_7 : decode cX5_init 7 = .ok (.anewarray 9, 3) := by decide +kernel
theorem dX5_init_10 : decode cX5_init 10 = .ok (.putfield 11, 3) := by decide +kernel
theorem dX5_init_13 : decode cX5_init 13 = .ok (.iconst 0, 1) := by decide +kernel
theorem dX5_init_14 : decode cX5_init 14 = .ok (.istore_n 1, 1) := by decide +kernel
theorem dX5_init_15 : decode cX5_init 15 = .ok (.iload_n 1, 1) := by decide +kernel
theorem dX5_init_16 : decode cX5_init 16 = .ok (.bipush 10, 2) := by decide +kernel
theorem dX5_init_18 : decode cX5_init 18 = .ok (.if_icmp .ge 22, 3) := by decide +kernel
theorem dX5_init_21 : decode cX5_init 21 = .ok (.aload_n 0, 1) := by decide +kernel
theorem dX5_init_22 : decode cX5_init 22 = .ok (.getfield 11, 3) := by decide +kernel
theorem dX5_init_25 : decode cX5_init 25 = .ok (.iload_n 1, 1) := by decide +kernel
theorem dX5_init_26 : decode cX5_init 26 = .ok (.new 9, 3) := by decide +kernel
theorem dX5_init_29 : decode cX5_init 29 = .ok (.dup, 1) := by decide +kernel
theorem dX5_init_30 : decode cX5_init 30 = .ok (.invokespecial 17, 3) := by decide +kernel
theorem dX5_init_33 : decode cX5_init 33 = .ok (.aastore, 1) := by decide +kernel
theorem dX5_init_34 : decode cX5_init 34 = .ok (.iinc 1 1, 3) := by decide +kernel
theorem dX5_init_37 : decode cX5_init 37 = .ok (.goto (-22), 3) := by decide +kernel
theorem dX5_init_40 : decode cX5_init 40 = .ok (.return_, 1) := by decide +kernel
theorem dX6_init_0 : decode cX6_init 0 = .ok (.aload_n 0, 1) := by decide +kernel
theorem dX6_init_1 : decode cX6_init 1 = .ok (.invokespecial 3, 3) := by decide +kernel
theorem dX6_init_4 : decode cX6_init 4 = .ok (.aload_n 0, 1) := by decide +kernel
theorem dX6_init_5 : decode cX6_init 5 = .ok (.iconst (-1), 1) := by decide +kernel
theorem dX6_init_6 : decode cX6_init 6 = .ok (.putfield 9, 3) := by decide +kernel
theorem dX6_init_9 : decode cX6_init 9 = .ok (.aload_n 0, 1) := by decide +kernel
theorem dX6_init_10 : decode cX6_init 10 = .ok (.sipush 901, 3) := by decide +kernel
theorem dX6_init_13 : decode cX6_init 13 = .ok (.newarray .int, 2) := by decide +kernel
theorem dX6_init_15 : decode cX6_init 15 = .ok (.putfield 15, 3) := by decide +kernel
theorem dX6_init_18 : decode cX6_init 18 = .ok (.aload_n 0, 1) := by decide +kernel
theorem dX6_init_19 : decode cX6_init 19 = .ok (.sipush 901, 3) := by decide +kernel
theorem dX6_init_22 : decode cX6_init 22 = .ok (.newarray .int, 2) := by decide +kernel
theorem dX6_init_24 : decode cX6_init 24 = .ok (.putfield 19, 3) := by decide +kernel
theorem dX6_init_27 : decode cX6_init 27 = .ok (.aload_n 0, 1) := by decide +kernel
theorem dX6_init_28 : decode cX6_init 28 = .ok (.aload_n 1, 1) := by decide +kernel
theorem dX6_init_29 : decode cX6_init 29 = .ok (.putfield 22, 3) := by decide +kernel
theorem dX6_init_32 : decode cX6_init 32 = .ok (.aload_n 0, 1) := by decide +kernel
theorem dX6_init_33 : decode cX6_init 33 = .ok (.aload_n 2, 1) := by decide +kernel
theorem dX6_init_34 : decode cX6_init 34 = .ok (.putfield 26, 3) := by decide +kernel
theorem dX6_init_37 : decode cX6_init 37 = .ok (.return_, 1) := by decide +kernel
theorem dX7_init_0 : decode cX7_init 0 = .ok (.aload_n 0, 1) := by decide +kernel
theorem dX7_init_1 : decode cX7_init 1 = .ok (.invokespecial 3, 3) := by decide +kernel
theorem dX7_init_4 : decode cX7_init 4 = .ok (.aload_n 0, 1) := by decide +kernel
theorem dX7_init_5 : decode cX7_init 5 = .ok (.bipush 64, 2) := by decide +kernel
theorem dX7_init_7 : decode cX7_init 7 = .ok (.newarray .int, 2) := by decide +kernel
theorem dX7_init_9 : decode cX7_init 9 = .ok (.putfield 9, 3) := by decide +kernel
theorem dX7_init_12 : decode cX7_init 12 = .ok (.aload_n 0, 1) := by decide +kernel
theorem dX7_init_13 : decode cX7_init 13 = .ok (.bipush 6, 2) := by decide +kernel
theorem dX7_init_15 : decode cX7_init 15 = .ok (.newarray .int, 2) := by decide +kernel
theorem dX7_init_17 : decode cX7_init 17 = .ok (.putfield 15, 3) := by decide +kernel
theorem dX7_init_20 : decode cX7_init 20 = .ok (.return_, 1) := by decide +kernel
theorem dX4_init_0 : decode cX4_init 0 = .ok (.aload_n 0, 1) := by decide +kernel
theorem dX4_init_1 : decode cX4_init 1 = .ok (.invokespecial 3, 3) := by decide +kernel
theorem dX4_init_4 : decode cX4_init 4 = .ok (.aload_n 0, 1) := by decide +kernel
theorem dX4_init_5 : decode cX4_init 5 = .ok (.bipush 6, 2) := by decide +kernel
theorem dX4_init_7 : decode cX4_init 7 = .ok (.newarray .int, 2) := by decide +kernel
theorem dX4_init_9 : decode cX4_init 9 = .ok (.putfield 9, 3) := by decide +kernel
theorem dX4_init_12 : decode cX4_init 12 = .ok (.aload_n 0, 1) := by decide +kernel
theorem dX4_init_13 : decode cX4_init 13 = .ok (.sipush 700, 3) := by decide +kernel
theorem dX4_init_16 : decode cX4_init 16 = .ok (.newarray .long, 2) := by decide +kernel
theorem dX4_init_18 : decode cX4_init 18 = .ok (.putfield 15, 3) := by decide +kernel
theorem dX4_init_21 : decode cX4_init 21 = .ok (.aload_n 0, 1) := by decide +kernel
theorem dX4_init_22 : decode cX4_init 22 = .ok (.sipush 700, 3) := by decide +kernel
theorem dX4_init_25 : decode cX4_init 25 = .ok (.newarray .byte, 2) := by decide +kernel
theorem dX4_init_27 : decode cX4_init 27 = .ok (.putfield 19, 3) := by decide +kernel
theorem dX4_init_30 : decode cX4_init 30 = .ok (.aload_n 0, 1) := by decide +kernel
theorem dX4_init_31 : decode cX4_init 31 = .ok (.sipush 800, 3) := by decide +kernel
theorem dX4_init_34 : decode cX4_init 34 = .ok (.newarray .int, 2) := by decide +kernel
theorem dX4_init_36 : decode cX4_init 36 = .ok (.putfield 23, 3) := by decide +kernel
theorem dX4_init_39 : decode cX4_init 39 = .ok (.aload_n 0, 1) := by decide +kernel
theorem dX4_init_40 : decode cX4_init 40 = .ok (.bipush 48, 2) := by decide +kernel
theorem dX4_init_42 : decode cX4_init 42 = .ok (.newarray .int, 2) := by decide +kernel
theorem dX4_init_44 : decode cX4_init 44 = .ok (.putfield 26, 3) := by decide +kernel
theorem dX4_init_47 : decode cX4_init 47 = .ok (.aload_n 0, 1) := by decide +kernel
theorem dX4_init_48 : decode cX4_init 48 = .ok (.bipush 48, 2) := by decide +kernel
theorem dX4_init_50 : decode cX4_init 50 = .ok (.newarray .int, 2) := by decide +kernel
theorem dX4_init_52 : decode cX4_init 52 = .ok (.putfield 29, 3) := by decide +kernel
theorem dX4_init_55 : decode cX4_init 55 = .ok (.aload_n 0, 1) := by decide +kernel
theorem dX4_init_56 : decode cX4_init 56 = .ok (.aload_n 1, 1) := by decide +kernel
theorem dX4_init_57 : decode cX4_init 57 = .ok (.putfield 32, 3) := by decide +kernel
theorem dX4_init_60 : decode cX4_init 60 = .ok (.aload_n 0, 1) := by decide +kernel
theorem dX4_init_61 : decode cX4_init 61 = .ok (.aload_n 2, 1) := by decide +kernel
theorem dX4_init_62 : decode cX4_init 62 = .ok (.putfield 36, 3) := by decide +kernel
theorem dX4_init_65 : decode cX4_init 65 = .ok (.return_, 1) := by decide +kernel
theorem dX10_init_0 : decode cX10_init 0 = .ok (.aload_n 0, 1) := by decide +kernel
theorem dX10_init_1 : decode cX10_init 1 = .ok (.invokespecial 5, 3) := by decide +kernel
theorem dX10_init_4 : decode cX10_init 4 = .ok (.aload_n 0, 1) := by decide +kernel
theorem dX10_init_5 : decode cX10_init 5 = .ok (.sipush 700, 3) := by decide +kernel
theorem dX10_init_8 : decode cX10_init 8 = .ok (.newarray .int, 2) := by decide +kernel
theorem dX10_init_10 : decode cX10_init 10 = .ok (.putfield 11, 3) := by decide +kernel
theorem dX10_init_13 : decode cX10_init 13 = .ok (.aload_n 0, 1) := by decide +kernel
theorem dX10_init_14 : decode cX10_init 14 = .ok (.sipush 700, 3) := by decide +kernel
theorem dX10_init_17 : decode cX10_init 17 = .ok (.newarray .long, 2) := by decide +kernel
theorem dX10_init_19 : decode cX10_init 19 = .ok (.putfield 15, 3) := by decide +kernel
theorem dX10_init_22 : decode cX10_init 22 = .ok (.aload_n 0, 1) := by decide +kernel
theorem dX10_init_23 : decode cX10_init 23 = .ok (.iconst (-1), 1) := by decide +kernel
theorem dX10_init_24 : decode cX10_init 24 = .ok (.putfield 19, 3) := by decide +kernel
theorem dX10_init_27 : decode cX10_init 27 = .ok (.aload_n 0, 1) := by decide +kernel
theorem dX10_init_28 : decode cX10_init 28 = .ok (.iconst (-1), 1) := by decide +kernel
theorem dX10_init_29 : decode cX10_init 29 = .ok (.putfield 23, 3) := by decide +kernel
theorem dX10_init_32 : decode cX10_init 32 = .ok (.aload_n 0, 1) := by decide +kernel
theorem dX10_init_33 : decode cX10_init 33 = .ok (.iconst (-1), 1) := by decide +kernel
theorem dX10_init_34 : decode cX10_init 34 = .ok (.putfield 26, 3) := by decide +kernel
theorem dX10_init_37 : decode cX10_init 37 = .ok (.aload_n 0, 1) := by decide +kernel
theorem dX10_init_38 : decode cX10_init 38 = .ok (.aload_n 1, 1) := by decide +kernel
theorem dX10_init_39 : decode cX10_init 39 = .ok (.putfield 29, 3) := by decide +kernel
theorem dX10_init_42 : decode cX10_init 42 = .ok (.return_, 1) := by decide +kernel
theorem dX3_init_0 : decode cX3_init 0 = .ok (.aload_n 0, 1) := by decide +kernel
theorem dX3_init_1 : decode cX3_init 1 = .ok (.invokespecial 3, 3) := by decide +kernel
theorem dX3_init_4 : decode cX3_init 4 = .ok (.aload_n 0, 1) := by decide +kernel
theorem dX3_init_5 : decode cX3_init 5 = .ok (.bipush 12, 2) := by decide +kernel
theorem dX3_init_7 : decode cX3_init 7 = .ok (.newarray .int, 2) := by decide +kernel
theorem dX3_init_9 : decode cX3_init 9 = .ok (.putfield 9, 3) := by decide +kernel
theorem dX3_init_12 : decode cX3_init 12 = .ok (.aload_n 0, 1) := by decide +kernel
theorem dX3_init_13 : decode cX3_init 13 = .ok (.sipush 9100, 3) := by decide +kernel
theorem dX3_init_16 : decode cX3_init 16 = .ok (.newarray .byte, 2) := by decide +kernel
theorem dX3_init_18 : decode cX3_init 18 = .ok (.putfield 15, 3) := by decide +kernel
theorem dX3_init_21 : decode cX3_init 21 = .ok (.aload_n 0, 1) := by decide +kernel
theorem dX3_init_22 : decode cX3_init 22 = .ok (.sipush 9100, 3) := by decide +kernel
theorem dX3_init_25 : decode cX3_init 25 = .ok (.newarray .int, 2) := by decide +kernel
theorem dX3_init_27 : decode cX3_init 27 = .ok (.putfield 19, 3) := by decide +kernel
theorem dX3_init_30 : decode cX3_init 30 = .ok (.aload_n 0, 1) := by decide +kernel
theorem dX3_init_31 : decode cX3_init 31 = .ok (.bipush 14, 2) := by decide +kernel
theorem dX3_init_33 : decode cX3_init 33 = .ok (.newarray .int, 2) := by decide +kernel
theorem dX3_init_35 : decode cX3_init 35 = .ok (.putfield 22, 3) := by decide +kernel
theorem dX3_init_38 : decode cX3_init 38 = .ok (.aload_n 0, 1) := by decide +kernel
theorem dX3_init_39 : decode cX3_init 39 = .ok (.sipush 700, 3) := by decide +kernel
theorem dX3_init_42 : decode cX3_init 42 = .ok (.newarray .long, 2) := by decide +kernel
theorem dX3_init_44 : decode cX3_init 44 = .ok (.putfield 25, 3) := by decide +kernel
theorem dX3_init_47 : decode cX3_init 47 = .ok (.aload_n 0, 1) := by decide +kernel
theorem dX3_init_48 : decode cX3_init 48 = .ok (.sipush 700, 3) := by decide +kernel
theorem dX3_init_51 : decode cX3_init 51 = .ok (.newarray .long, 2) := by decide +kernel
theorem dX3_init_53 : decode cX3_init 53 = .ok (.putfield 29, 3) := by decide +kernel
theorem dX3_init_56 : decode cX3_init 56 = .ok (.aload_n 0, 1) := by decide +kernel
theorem dX3_init_57 : decode cX3_init 57 = .ok (.iconst (-1), 1) := by decide +kernel
theorem dX3_init_58 : decode cX3_init 58 = .ok (.putfield 32, 3) := by decide +kernel
theorem dX3_init_61 : decode cX3_init 61 = .ok (.aload_n 0, 1) := by decide +kernel
theorem dX3_init_62 : decode cX3_init 62 = .ok (.aload_n 1, 1) := by decide +kernel
theorem dX3_init_63 : decode cX3_init 63 = .ok (.putfield 36, 3) := by decide +kernel
theorem dX3_init_66 : decode cX3_init 66 = .ok (.return_, 1) := by decide +kernel
theorem dX1_init_0 : decode cX1_init 0 = .ok (.aload_n 0, 1) := by decide +kernel
theorem dX1_init_1 : decode cX1_init 1 = .ok (.invokespecial 3, 3) := by decide +kernel
theorem dX1_init_4 : decode cX1_init 4 = .ok (.aload_n 0, 1) := by decide +kernel
theorem dX1_init_5 : decode cX1_init 5 = .ok (.sipush 700, 3) := by decide +kernel
theorem dX1_init_8 : decode cX1_init 8 = .ok (.newarray .int, 2) := by decide +kernel
theorem dX1_init_10 : decode cX1_init 10 = .ok (.putfield 9, 3) := by decide +kernel
theorem dX1_init_13 : decode cX1_init 13 = .ok (.aload_n 0, 1) := by decide +kernel
theorem dX1_init_14 : decode cX1_init 14 = .ok (.sipush 700, 3) := by decide +kernel
theorem dX1_init_17 : decode cX1_init 17 = .ok (.newarray .int, 2) := by decide +kernel
theorem dX1_init_19 : decode cX1_init 19 = .ok (.putfield 15, 3) := by decide +kernel
theorem dX1_init_22 : decode cX1_init 22 = .ok (.aload_n 0, 1) := by decide +kernel
theorem dX1_init_23 : decode cX1_init 23 = .ok (.bipush 100, 2) := by decide +kernel
theorem dX1_init_25 : decode cX1_init 25 = .ok (.newarray .int, 2) := by decide +kernel
theorem dX1_init_27 : decode cX1_init 27 = .ok (.putfield 18, 3) := by decide +kernel
theorem dX1_init_30 : decode cX1_init 30 = .ok (.aload_n 0, 1) := by decide +kernel
theorem dX1_init_31 : decode cX1_init 31 = .ok (.bipush 100, 2) := by decide +kernel
theorem dX1_init_33 : decode cX1_init 33 = .ok (.newarray .int, 2) := by decide +kernel
theorem dX1_init_35 : decode cX1_init 35 = .ok (.putfield 21, 3) := by decide +kernel
theorem dX1_init_38 : decode cX1_init 38 = .ok (.aload_n 0, 1) := by decide +kernel
theorem dX1_init_39 : decode cX1_init 39 = .ok (.iconst (-1), 1) := by decide +kernel
theorem dX1_init_40 : decode cX1_init 40 = .ok (.putfield 24, 3) := by decide +kernel
theorem dX1_init_43 : decode cX1_init 43 = .ok (.aload_n 0, 1) := by decide +kernel
theorem dX1_init_44 : decode cX1_init 44 = .ok (.aload_n 1, 1) := by decide +kernel
theorem dX1_init_45 : decode cX1_init 45 = .ok (.putfield 28, 3) := by decide +kernel
theorem dX1_init_48 : decode cX1_init 48 = .ok (.aload_n 0, 1) := by decide +kernel
theorem dX1_init_49 : decode cX1_init 49 = .ok (.aload_n 2, 1) := by decide +kernel
theorem dX1_init_50 : decode cX1_init 50 = .ok (.putfield 32, 3) := by decide +kernel
theorem dX1_init_53 : decode cX1_init 53 = .ok (.return_, 1) := by decide +kernel
theorem pat_at {o n i : Nat} {P : mbSh} {q : Nat × Nat} (h : (SHL.drop o).take n = P) (hi : P[i]? = some q) : SHL[o + i]? = some q := by
  rw [← h, List.getElem?_take] at hi
  split at hi
  · rw [List.getElem?_drop] at hi
    exact hi
  · cases hi
theorem pat_sub {o n j m : Nat} {P : mbSh} (h : (SHL.drop o).take n = P) (hj : j + m ≤ n) : (SHL.drop (o + j)).take m = (P.drop j).take m := by
  rw [← h, List.drop_take, List.take_take, List.drop_drop, Nat.min_eq_left (by omega)]
theorem n_X0 (d : Nat) {o : Nat} {ct : mbCt} (hB : (SHL.drop o).take 5 = [(0, 15), (20, 6), (20, 8), (20, 8), (23, 900)]) (hO : o + 5 ≤ 114) (hc : cellIs (ct (o : Int)) (some [0, 0, 0, 0, 0, 0, 0, 0, 0, 0, 0, -1, -1, -1, -1])) : Mt YX0_init (d + 1) [.inr (.inr (o : Int))] (SHL.take (o + 1)) (SHL.take (o + 5)) ct (pN fun c => blk c o [some [0, 0, 0, 0, 0, 0, 0, 0, 0, 0, 0, ((o + 1 : Nat) : Int), ((o + 2 : Nat) : Int), ((o + 3 : Nat) : Int), ((o + 4 : Nat) : Int)], none, none, none, none] ∧ lowF o ct c) := by
  have h := IS.st hc
  refine Mt.of rfl (Nat.le_of_ble_eq_true rfl) ?_
  show G _ 0 [some (.inr (.inr (o : Int)))] [] (SHL.take (o + 1)) ct
  refine g_aload_n (q := 1) dX0_init_0 rfl rfl ?_
  refine g_objInit (q := 4) lX0_3 tb_oI tb_oC (shT_at (by omega) (by omega) (pat_at hB (i := 0) rfl)) (rmOk.mk (by omega) (shT_le (by omega))) (Nat.le_of_ble_eq_true rfl) dX0_init_1 rfl ?_
  refine g_aload_n (q := 5) dX0_init_4 rfl rfl ?_
  refine g_bipush (q := 7) dX0_init_5 (by decide +kernel) rfl ?_
  refine nT_arr (q := 9) (k := o + 1) (kd := 20) (n := 6) (idI := ((o + 1 : Nat) : Int)) h (pat_at hB (i := 1) rfl) rfl (by omega) (by omega) (by decide) (by decide) rfl ac_int rfl (by decide) rfl dX0_init_7 rfl (fun c h => ?_)
  replace h : IS ct o _ [some [0, 0, 0, 0, 0, 0, 0, 0, 0, 0, 0, -1, -1, -1, -1], none] := h
  refine g_putAF (q := 12) (kI := 11) rfl rfl rfl fX0_9 (shT_at (by omega) (by omega) (pat_at hB (i := 0) rfl)) dX0_init_9 rfl rfl ?_
  refine IS.putk (P := fun c => G _ _ _ _ _ c) (i := 0) (k := 11) h rfl (Nat.le_of_ble_eq_true rfl) rfl rfl (fun c h => ?_)
  replace h : IS ct o _ [some [0, 0, 0, 0, 0, 0, 0, 0, 0, 0, 0, ((o + 1 : Nat) : Int), -1, -1, -1], none] := h
  refine g_aload_n (q := 13) dX0_init_12 rfl rfl ?_
  refine g_bipush (q := 15) dX0_init_13 (by decide +kernel) rfl ?_
  refine nT_arr (q := 17) (k := o + 2) (kd := 20) (n := 8) (idI := ((o + 2 : Nat) : Int)) h (pat_at hB (i := 2) rfl) rfl (by omega) (by omega) (by decide) (by decide) rfl ac_int rfl (by decide) rfl dX0_init_15 rfl (fun c h => ?_)
  replace h : IS ct o _ [some [0, 0, 0, 0, 0, 0, 0, 0, 0, 0, 0, ((o + 1 : Nat) : Int), -1, -1, -1], none, none] := h
  refine g_putAF (q := 20) (kI := 12) rfl rfl rfl fX0_15 (shT_at (by omega) (by omega) (pat_at hB (i := 0) rfl)) dX0_init_17 rfl rfl ?_
  refine IS.putk (P := fun c => G _ _ _ _ _ c) (i := 0) (k := 12) h rfl (Nat.le_of_ble_eq_true rfl) rfl rfl (fun c h => ?_)
  replace h : IS ct o _ [some [0, 0, 0, 0, 0, 0, 0, 0, 0, 0, 0, ((o + 1 : Nat) : Int), ((o + 2 : Nat) : Int), -1, -1], none, none] := h
  refine g_aload_n (q := 21) dX0_init_20 rfl rfl ?_
  refine g_bipush (q := 23) dX0_init_21 (by decide +kernel) rfl ?_
  refine nT_arr (q := 25) (k := o + 3) (kd := 20) (n := 8) (idI := ((o + 3 : Nat) : Int)) h (pat_at hB (i := 3) rfl) rfl (by omega) (by omega) (by decide) (by decide) rfl ac_int rfl (by decide) rfl dX0_init_23 rfl (fun c h => ?_)
  replace h : IS ct o _ [some [0, 0, 0, 0, 0, 0, 0, 0, 0, 0, 0, ((o + 1 : Nat) : Int), ((o + 2 : Nat) : Int), -1, -1], none, none, none] := h
  refine g_putAF (q := 28) (kI := 13) rfl rfl rfl fX0_18 (shT_at (by omega) (by omega) (pat_at hB (i := 0) rfl)) dX0_init_25 rfl rfl ?_
  refine IS.putk (P := fun c => G _ _ _ _ _ c) (i := 0) (k := 13) h rfl (Nat.le_of_ble_eq_true rfl) rfl rfl (fun c h => ?_)
  replace h : IS ct o _ [some [0, 0, 0, 0, 0, 0, 0, 0, 0, 0, 0, ((o + 1 : Nat) : Int), ((o + 2 : Nat) : Int), ((o + 3 : Nat) : Int), -1], none, none, none] := h
  refine g_aload_n (q := 29) dX0_init_28 rfl rfl ?_
  refine g_sipush (q := 32) dX0_init_29 (by decide +kernel) rfl ?_
  refine nT_arr (q := 34) (k := o + 4) (kd := 23) (n := 900) (idI := ((o + 4 : Nat) : Int)) h (pat_at hB (i := 4) rfl) rfl (by omega) (by omega) (by decide) (by decide) rfl ac_short rfl (by decide) rfl dX0_init_32 rfl (fun c h => ?_)
  replace h : IS ct o _ [some [0, 0, 0, 0, 0, 0, 0, 0, 0, 0, 0, ((o + 1 : Nat) : Int), ((o + 2 : Nat) : Int), ((o + 3 : Nat) : Int), -1], none, none, none, none] := h
  refine g_putAF (q := 37) (kI := 14) rfl rfl rfl fX0_21 (shT_at (by omega) (by omega) (pat_at hB (i := 0) rfl)) dX0_init_34 rfl rfl ?_
  refine IS.putk (P := fun c => G _ _ _ _ _ c) (i := 0) (k := 14) h rfl (Nat.le_of_ble_eq_true rfl) rfl rfl (fun c h => ?_)
  replace h : IS ct o _ [some [0, 0, 0, 0, 0, 0, 0, 0, 0, 0, 0, ((o + 1 : Nat) : Int), ((o + 2 : Nat) : Int), ((o + 3 : Nat) : Int), ((o + 4 : Nat) : Int)], none, none, none, none] := h
  refine g_return dX0_init_37 rfl ?_
  exact ⟨rfl, h⟩
theorem n_X8 (d : Nat) {o : Nat} {ct : mbCt} (hB : (SHL.drop o).take 2 = [(8, 3), (20, 6)]) (hO : o + 2 ≤ 114) (hc : cellIs (ct (o : Int)) (some [0, 0, -1])) : Mt YX8_init (d + 1) [.inr (.inr (o : Int))] (SHL.take (o + 1)) (SHL.take (o + 2)) ct (pN fun c => blk c o [some [6, 0, ((o + 1 : Nat) : Int)], none] ∧ lowF o ct c) := by
  have h := IS.st hc
  refine Mt.of rfl (Nat.le_of_ble_eq_true rfl) ?_
  show G _ 0 [some (.inr (.inr (o : Int)))] [] (SHL.take (o + 1)) ct
  refine g_aload_n (q := 1) dX8_init_0 rfl rfl ?_
  refine g_objInit (q := 4) lX8_3 tb_oI tb_oC (shT_at (by omega) (by omega) (pat_at hB (i := 0) rfl)) (rmOk.mk (by omega) (shT_le (by omega))) (Nat.le_of_ble_eq_true rfl) dX8_init_1 rfl ?_
  refine g_aload_n (q := 5) dX8_init_4 rfl rfl ?_
  refine g_bipush (q := 7) dX8_init_5 (by decide +kernel) rfl ?_
  refine g_putI (q := 10) (kI := 0) fX8_9 (shT_at (by omega) (by omega) (pat_at hB (i := 0) rfl)) dX8_init_7 rfl rfl ?_
  refine IS.putk (P := fun c => G _ _ _ _ _ c) (i := 0) (k := 0) h rfl (Nat.le_of_ble_eq_true rfl) rfl rfl (fun c h => ?_)
  replace h : IS ct o _ [some [6, 0, -1]] := h
  refine g_aload_n (q := 11) dX8_init_10 rfl rfl ?_
  refine g_bipush (q := 13) dX8_init_11 (by decide +kernel) rfl ?_
  refine nT_arr (q := 15) (k := o + 1) (kd := 20) (n := 6) (idI := ((o + 1 : Nat) : Int)) h (pat_at hB (i := 1) rfl) rfl (by omega) (by omega) (by decide) (by decide) rfl ac_int rfl (by decide) rfl dX8_init_13 rfl (fun c h => ?_)
  replace h : IS ct o _ [some [6, 0, -1], none] := h
  refine g_putAF (q := 18) (kI := 2) rfl rfl rfl fX8_15 (shT_at (by omega) (by omega) (pat_at hB (i := 0) rfl)) dX8_init_15 rfl rfl ?_
  refine IS.putk (P := fun c => G _ _ _ _ _ c) (i := 0) (k := 2) h rfl (Nat.le_of_ble_eq_true rfl) rfl rfl (fun c h => ?_)
  replace h : IS ct o _ [some [6, 0, ((o + 1 : Nat) : Int)], none] := h
  refine g_return dX8_init_18 rfl ?_
  exact ⟨rfl, h⟩
theorem n_X9 (d : Nat) {o : Nat} {ct : mbCt} (hB : (SHL.drop o).take 2 = [(9, 3), (21, 40)]) (hO : o + 2 ≤ 114) (hc : cellIs (ct (o : Int)) (some [-1, 0, 0])) : Mt YX9_init (d + 1) [.inr (.inr (o : Int))] (SHL.take (o + 1)) (SHL.take (o + 2)) ct (pN fun c => blk c o [some [((o + 1 : Nat) : Int), -1, 0], none] ∧ lowF o ct c) := by
  have h := IS.st hc
  refine Mt.of rfl (Nat.le_of_ble_eq_true rfl) ?_
  show G _ 0 [some (.inr (.inr (o : Int)))] [] (SHL.take (o + 1)) ct
  refine g_aload_n (q := 1) dX9_init_0 rfl rfl ?_
  refine g_objInit (q := 4) lX9_3 tb_oI tb_oC (shT_at (by omega) (by omega) (pat_at hB (i := 0) rfl)) (rmOk.mk (by omega) (shT_le (by omega))) (Nat.le_of_ble_eq_true rfl) dX9_init_1 rfl ?_
  refine g_aload_n (q := 5) dX9_init_4 rfl rfl ?_
  refine g_bipush (q := 7) dX9_init_5 (by decide +kernel) rfl ?_
  refine nT_arr (q := 9) (k := o + 1) (kd := 21) (n := 40) (idI := ((o + 1 : Nat) : Int)) h (pat_at hB (i := 1) rfl) rfl (by omega) (by omega) (by decide) (by decide) rfl ac_long rfl (by decide) rfl dX9_init_7 rfl (fun c h => ?_)
  replace h : IS ct o _ [some [-1, 0, 0], none] := h
  refine g_putAF (q := 12) (kI := 0) rfl rfl rfl fX9_9 (shT_at (by omega) (by omega) (pat_at hB (i := 0) rfl)) dX9_init_9 rfl rfl ?_
  refine IS.putk (P := fun c => G _ _ _ _ _ c) (i := 0) (k := 0) h rfl (Nat.le_of_ble_eq_true rfl) rfl rfl (fun c h => ?_)
  replace h : IS ct o _ [some [((o + 1 : Nat) : Int), 0, 0], none] := h
  refine g_aload_n (q := 13) dX9_init_12 rfl rfl ?_
  refine g_iconst (q := 14) dX9_init_13 rfl ?_
  refine g_putI (q := 17) (kI := 1) fX9_15 (shT_at (by omega) (by omega) (pat_at hB (i := 0) rfl)) dX9_init_14 rfl rfl ?_
  refine IS.putk (P := fun c => G _ _ _ _ _ c) (i := 0) (k := 1) h rfl (Nat.le_of_ble_eq_true rfl) rfl rfl (fun c h => ?_)
  replace h : IS ct o _ [some [((o + 1 : Nat) : Int), -1, 0], none] := h
  refine g_return dX9_init_17 rfl ?_
  exact ⟨rfl, h⟩
theorem n_X2 (d : Nat) {o : Nat} {ct : mbCt} (hB : (SHL.drop o).take 8 = [(2, 3), (0, 15), (20, 6), (20, 8), (20, 8), (23, 900), (8, 3), (20, 6)]) (hO : o + 8 ≤ 114) (hc : cellIs (ct (o : Int)) (some [0, -1, -1])) : Mt YX2_init (d + 2) [.inr (.inr (o : Int))] (SHL.take (o + 1)) (SHL.take (o + 8)) ct (pN fun c => blk c o [some [0, ((o + 1 : Nat) : Int), ((o + 6 : Nat) : Int)], some [0, 0, 0, 0, 0, 0, 0, 0, 0, 0, 0, ((o + 2 : Nat) : Int), ((o + 3 : Nat) : Int), ((o + 4 : Nat) : Int), ((o + 5 : Nat) : Int)], none, none, none, none, some [6, 0, ((o + 7 : Nat) : Int)], none] ∧ lowF o ct c) := by
  have h := IS.st hc
  refine Mt.of rfl (Nat.le_of_ble_eq_true rfl) ?_
  show G _ 0 [some (.inr (.inr (o : Int)))] [] (SHL.take (o + 1)) ct
  refine g_aload_n (q := 1) dX2_init_0 rfl rfl ?_
  refine g_objInit (q := 4) lX2_1 tb_oI tb_oC (shT_at (by omega) (by omega) (pat_at hB (i := 0) rfl)) (rmOk.mk (by omega) (shT_le (by omega))) (Nat.le_of_ble_eq_true rfl) dX2_init_1 rfl ?_
  refine g_aload_n (q := 5) dX2_init_4 rfl rfl ?_
  refine nT_new (q := 8) (k := o + 1) (kd := 0) (n := 15) (idI := ((o + 1 : Nat) : Int)) (dl := [0, 0, 0, 0, 0, 0, 0, 0, 0, 0, 0, -1, -1, -1, -1]) h (pat_at hB (i := 1) rfl) rfl (by omega) (by omega) cl_0 (by decide) cX2_7 in_X0 ii_X0 rfl (by decide +kernel) dX2_init_5 rfl (fun c h => ?_)
  replace h : IS ct o _ [some [0, -1, -1], some [0, 0, 0, 0, 0, 0, 0, 0, 0, 0, 0, -1, -1, -1, -1]] := h
  refine g_dup (q := 9) dX2_init_8 rfl rfl ?_
  refine g_callIN (q := 12) rfl rfl lX2_9 mX0_init nX0_init rfl (n_X0 0 (o := o + 1) (pat_sub (j := 1) hB (by decide)) (by omega) (h.at 1 rfl rfl)) (shT_at (by omega) (by omega) (pat_at hB (i := 1) rfl)) (shT_le (by omega)) (rmOk.mk (by omega) (shT_le (by omega))) (Nat.le_of_ble_eq_true rfl) dX2_init_9 rfl rfl (kN fun c2 hp => ?_)
  replace h := IS.sub (t := [some [0, -1, -1]]) (p := o + 1) h rfl hp.1 hp.2
  clear hp
  replace h : IS ct o _ [some [0, -1, -1], some [0, 0, 0, 0, 0, 0, 0, 0, 0, 0, 0, ((o + 2 : Nat) : Int), ((o + 3 : Nat) : Int), ((o + 4 : Nat) : Int), ((o + 5 : Nat) : Int)], none, none, none, none] := h
  refine g_putOF (q := 15) (kI := 1) rfl rfl rfl fX2_10 (shT_at (by omega) (by omega) (pat_at hB (i := 0) rfl)) dX2_init_12 rfl rfl ?_
  refine IS.putk (P := fun c => G _ _ _ _ _ c) (i := 0) (k := 1) h rfl (Nat.le_of_ble_eq_true rfl) rfl rfl (fun c h => ?_)
  replace h : IS ct o _ [some [0, ((o + 1 : Nat) : Int), -1], some [0, 0, 0, 0, 0, 0, 0, 0, 0, 0, 0, ((o + 2 : Nat) : Int), ((o + 3 : Nat) : Int), ((o + 4 : Nat) : Int), ((o + 5 : Nat) : Int)], none, none, none, none] := h
  refine g_aload_n (q := 16) dX2_init_15 rfl rfl ?_
  refine nT_new (q := 19) (k := o + 6) (kd := 8) (n := 3) (idI := ((o + 6 : Nat) : Int)) (dl := [0, 0, -1]) h (pat_at hB (i := 6) rfl) rfl (by omega) (by omega) cl_8 (by decide) cX2_16 in_X8 ii_X8 rfl (by decide +kernel) dX2_init_16 rfl (fun c h => ?_)
  replace h : IS ct o _ [some [0, ((o + 1 : Nat) : Int), -1], some [0, 0, 0, 0, 0, 0, 0, 0, 0, 0, 0, ((o + 2 : Nat) : Int), ((o + 3 : Nat) : Int), ((o + 4 : Nat) : Int), ((o + 5 : Nat) : Int)], none, none, none, none, some [0, 0, -1]] := h
  refine g_dup (q := 20) dX2_init_19 rfl rfl ?_
  refine g_callIN (q := 23) rfl rfl lX2_18 mX8_init nX8_init rfl (n_X8 0 (o := o + 6) (pat_sub (j := 6) hB (by decide)) (by omega) (h.at 6 rfl rfl)) (shT_at (by omega) (by omega) (pat_at hB (i := 6) rfl)) (shT_le (by omega)) (rmOk.mk (by omega) (shT_le (by omega))) (Nat.le_of_ble_eq_true rfl) dX2_init_20 rfl rfl (kN fun c2 hp => ?_)
  replace h := IS.sub (t := [some [0, ((o + 1 : Nat) : Int), -1], some [0, 0, 0, 0, 0, 0, 0, 0, 0, 0, 0, ((o + 2 : Nat) : Int), ((o + 3 : Nat) : Int), ((o + 4 : Nat) : Int), ((o + 5 : Nat) : Int)], none, none, none, none]) (p := o + 6) h rfl hp.1 hp.2
  clear hp
  replace h : IS ct o _ [some [0, ((o + 1 : Nat) : Int), -1], some [0, 0, 0, 0, 0, 0, 0, 0, 0, 0, 0, ((o + 2 : Nat) : Int), ((o + 3 : Nat) : Int), ((o + 4 : Nat) : Int), ((o + 5 : Nat) : Int)], none, none, none, none, some [6, 0, ((o + 7 : Nat) : Int)], none] := h
  refine g_putOF (q := 26) (kI := 2) rfl rfl rfl fX2_19 (shT_at (by omega) (by omega) (pat_at hB (i := 0) rfl)) dX2_init_23 rfl rfl ?_
  refine IS.putk (P := fun c => G _ _ _ _ _ c) (i := 0) (k := 2) h rfl (Nat.le_of_ble_eq_true rfl) rfl rfl (fun c h => ?_)
  replace h : IS ct o _ [some [0, ((o + 1 : Nat) : Int), ((o + 6 : Nat) : Int)], some [0, 0, 0, 0, 0, 0, 0, 0, 0, 0, 0, ((o + 2 : Nat) : Int), ((o + 3 : Nat) : Int), ((o + 4 : Nat) : Int), ((o + 5 : Nat) : Int)], none, none, none, none, some [6, 0, ((o + 7 : Nat) : Int)], none] := h
  refine g_return dX2_init_26 rfl ?_
  exact ⟨rfl, h⟩
theorem n_X5 (d : Nat) {ct : mbCt} (hc : cellIs (ct 16) (some [-1, 0, 0])) : Mt YX5_init (d + 2) [.inr (.inr 16)] (SHL.take 17) (SHL.take 38) ct (pN fun c => blk c 16 [some [17, 0, 0], some [18, 20, 22, 24, 26, 28, 30, 32, 34, 36], some [6, 0, 19], none, some [6, 0, 21], none, some [6, 0, 23], none, some [6, 0, 25], none, some [6, 0, 27], none, some [6, 0, 29], none, some [6, 0, 31], none, some [6, 0, 33], none, some [6, 0, 35], none, some [6, 0, 37], none] ∧ lowF 16 ct c) := by
  have h := IS.st (o := 16) hc
  refine Mt.of rfl (Nat.le_of_ble_eq_true rfl) ?_
  show G _ 0 [some (.inr (.inr 16)), none] [] (SHL.take 17) ct
  refine g_aload_n (q := 1) dX5_init_0 rfl rfl ?_
  refine g_objInit (q := 4) lX5_3 tb_oI tb_oC rfl (rmOk.mk (by omega) (shT_le (by omega))) (Nat.le_of_ble_eq_true rfl) dX5_init_1 rfl ?_
  refine g_aload_n (q := 5) dX5_init_4 rfl rfl ?_
  refine g_bipush (q := 7) dX5_init_5 (by decide +kernel) rfl ?_
  refine nT_anew (q := 10) (k := 17) (kd := 25) (n := 10) (idI := 17) (vs := [-1, -1, -1, -1, -1, -1, -1, -1, -1, -1]) h rfl rfl (by omega) (by omega) (by decide) (by decide) rfl cX5_9 (by decide) rfl (by decide) rfl (by decide) dX5_init_7 rfl (fun c h => ?_)
  replace h : IS ct 16 _ [some [-1, 0, 0], some [-1, -1, -1, -1, -1, -1, -1, -1, -1, -1]] := h
  refine g_putAF (q := 13) (kI := 0) rfl rfl rfl fX5_11 rfl dX5_init_10 rfl rfl ?_
  refine IS.putk (P := fun c => G _ _ _ _ _ c) (i := 0) (k := 0) h rfl (Nat.le_of_ble_eq_true rfl) rfl rfl (fun c h => ?_)
  replace h : IS ct 16 _ [some [17, 0, 0], some [-1, -1, -1, -1, -1, -1, -1, -1, -1, -1]] := h
  refine g_iconst (q := 14) dX5_init_13 rfl ?_
  refine s_istore_n_2_1 (q := 15) dX5_init_14 rfl rfl rfl ?_
  refine g_iload_n (q := 16) dX5_init_15 rfl rfl ?_
  refine g_bipush (q := 18) dX5_init_16 (by decide +kernel) rfl ?_
  refine g_icmp_ge (q := 21) (tg := 40) dX5_init_18 (by decide) rfl (fun c_18 => ?_) (fun c_18 => ?_)
  · exact absurd c_18 (by decide)
  refine g_aload_n (q := 22) dX5_init_21 rfl rfl ?_
  refine g_getA (q := 25) (kI := 0) fX5_11 rfl dX5_init_22 rfl rfl (h.get 0 0 rfl rfl rfl rfl) ?_
  refine g_iload_n (q := 26) dX5_init_25 rfl rfl ?_
  refine nT_new (q := 29) (k := 18) (kd := 8) (n := 3) (idI := 18) (dl := [0, 0, -1]) h rfl rfl (by omega) (by omega) cl_8 (by decide) cX5_9 in_X8 ii_X8 rfl (by decide +kernel) dX5_init_26 rfl (fun c h => ?_)
  replace h : IS ct 16 _ [some [17, 0, 0], some [-1, -1, -1, -1, -1, -1, -1, -1, -1, -1], some [0, 0, -1]] := h
  refine g_dup (q := 30) dX5_init_29 rfl rfl ?_
  refine g_callIN (q := 33) rfl rfl lX5_17 mX8_init nX8_init rfl (n_X8 0 (o := 18) rfl (by omega) (h.at 2 rfl rfl)) rfl (shT_le (by omega)) (rmOk.mk (by omega) (shT_le (by omega))) (Nat.le_of_ble_eq_true rfl) dX5_init_30 rfl rfl (kN fun c2 hp => ?_)
  replace h := IS.sub (t := [some [17, 0, 0], some [-1, -1, -1, -1, -1, -1, -1, -1, -1, -1]]) (p := 18) h rfl hp.1 hp.2
  clear hp
  replace h : IS ct 16 _ [some [17, 0, 0], some [-1, -1, -1, -1, -1, -1, -1, -1, -1, -1], some [6, 0, 19], none] := h
  refine g_aastore (q := 34) (kd := 25) (kc := 8) rfl rfl (by decide) rfl (by decide) rfl (by decide) (by decide) (by decide) dX5_init_33 rfl ?_
  refine IS.putk (P := fun c => G _ _ _ _ _ c) (i := 1) (k := 0) h rfl (Nat.le_of_ble_eq_true rfl) rfl rfl (fun c h => ?_)
  replace h : IS ct 16 _ [some [17, 0, 0], some [18, -1, -1, -1, -1, -1, -1, -1, -1, -1], some [6, 0, 19], none] := h
  refine s_iinc_2_1 (q := 37) dX5_init_34 rfl rfl rfl ?_
  refine g_goto (q := 15) dX5_init_37 (by decide) ?_
  refine g_iload_n (q := 16) dX5_init_15 rfl rfl ?_
  refine g_bipush (q := 18) dX5_init_16 (by decide +kernel) rfl ?_
  refine g_icmp_ge (q := 21) (tg := 40) dX5_init_18 (by decide) rfl (fun c_18 => ?_) (fun c_18 => ?_)
  · exact absurd c_18 (by decide)
  refine g_aload_n (q := 22) dX5_init_21 rfl rfl ?_
  refine g_getA (q := 25) (kI := 0) fX5_11 rfl dX5_init_22 rfl rfl (h.get 0 0 rfl rfl rfl rfl) ?_
  refine g_iload_n (q := 26) dX5_init_25 rfl rfl ?_
  refine nT_new (q := 29) (k := 20) (kd := 8) (n := 3) (idI := 20) (dl := [0, 0, -1]) h rfl rfl (by omega) (by omega) cl_8 (by decide) cX5_9 in_X8 ii_X8 rfl (by decide +kernel) dX5_init_26 rfl (fun c h => ?_)
  replace h : IS ct 16 _ [some [17, 0, 0], some [18, -1, -1, -1, -1, -1, -1, -1, -1, -1], some [6, 0, 19], none, some [0, 0, -1]] := h
  refine g_dup (q := 30) dX5_init_29 rfl rfl ?_
  refine g_callIN (q := 33) rfl rfl lX5_17 mX8_init nX8_init rfl (n_X8 0 (o := 20) rfl (by omega) (h.at 4 rfl rfl)) rfl (shT_le (by omega)) (rmOk.mk (by omega) (shT_le (by omega))) (Nat.le_of_ble_eq_true rfl) dX5_init_30 rfl rfl (kN fun c2 hp => ?_)
  replace h := IS.sub (t := [some [17, 0, 0], some [18, -1, -1, -1, -1, -1, -1, -1, -1, -1], some [6, 0, 19], none]) (p := 20) h rfl hp.1 hp.2
  clear hp
  replace h : IS ct 16 _ [some [17, 0, 0], some [18, -1, -1, -1, -1, -1, -1, -1, -1, -1], some [6, 0, 19], none, some [6, 0, 21], none] := h
  refine g_aastore (q := 34) (kd := 25) (kc := 8) rfl rfl (by decide) rfl (by decide) rfl (by decide) (by decide) (by decide) dX5_init_33 rfl ?_
  refine IS.putk (P := fun c => G _ _ _ _ _ c) (i := 1) (k := 1) h rfl (Nat.le_of_ble_eq_true rfl) rfl rfl (fun c h => ?_)
  replace h : IS ct 16 _ [some [17, 0, 0], some [18, 20, -1, -1, -1, -1, -1, -1, -1, -1], some [6, 0, 19], none, some [6, 0, 21], none] := h
  refine s_iinc_2_1 (q := 37) dX5_init_34 rfl rfl rfl ?_
  refine g_goto (q := 15) dX5_init_37 (by decide) ?_
  refine g_iload_n (q := 16) dX5_init_15 rfl rfl ?_
  refine g_bipush (q := 18) dX5_init_16 (by decide +kernel) rfl ?_
  refine g_icmp_ge (q := 21) (tg := 40) dX5_init_18 (by decide) rfl (fun c_18 => ?_) (fun c_18 => ?_)
  · exact absurd c_18 (by decide)
  refine g_aload_n (q := 22) dX5_init_21 rfl rfl ?_
  refine g_getA (q := 25) (kI := 0) fX5_11 rfl dX5_init_22 rfl rfl (h.get 0 0 rfl rfl rfl rfl) ?_
  refine g_iload_n (q := 26) dX5_init_25 rfl rfl ?_
  refine nT_new (q := 29) (k := 22) (kd := 8) (n := 3) (idI := 22) (dl := [0, 0, -1]) h rfl rfl (by omega) (by omega) cl_8 (by decide) cX5_9 in_X8 ii_X8 rfl (by decide +kernel) dX5_init_26 rfl (fun c h => ?_)
  replace h : IS ct 16 _ [some [17, 0, 0], some [18, 20, -1, -1, -1, -1, -1, -1, -1, -1], some [6, 0, 19], none, some [6, 0, 21], none, some [0, 0, -1]] := h
  refine g_dup (q := 30) dX5_init_29 rfl rfl ?_
  refine g_callIN (q := 33) rfl rfl lX5_17 mX8_init nX8_init rfl (n_X8 0 (o := 22) rfl (by omega) (h.at 6 rfl rfl)) rfl (shT_le (by omega)) (rmOk.mk (by omega) (shT_le (by omega))) (Nat.le_of_ble_eq_true rfl) dX5_init_30 rfl rfl (kN fun c2 hp => ?_)
  replace h := IS.sub (t := [some [17, 0, 0], some [18, 20, -1, -1, -1, -1, -1, -1, -1, -1], some [6, 0, 19], none, some [6, 0, 21], none]) (p := 22) h rfl hp.1 hp.2
  clear hp
  replace h : IS ct 16 _ [some [17, 0, 0], some [18, 20, -1, -1, -1, -1, -1, -1, -1, -1], some [6, 0, 19], none, some [6, 0, 21], none, some [6, 0, 23], none] := h
  refine g_aastore (q := 34) (kd := 25) (kc := 8) rfl rfl (by decide) rfl (by decide) rfl (by decide) (by decide) (by decide) dX5_init_33 rfl ?_
  refine IS.putk (P := fun c => G _ _ _ _ _ c) (i := 1) (k := 2) h rfl (Nat.le_of_ble_eq_true rfl) rfl rfl (fun c h => ?_)
  replace h : IS ct 16 _ [some [17, 0, 0], some [18, 20, 22, -1, -1, -1, -1, -1, -1, -1], some [6, 0, 19], none, some [6, 0, 21], none, some [6, 0, 23], none] := h
  refine s_iinc_2_1 (q := 37) dX5_init_34 rfl rfl rfl ?_
  refine g_goto (q := 15) dX5_init_37 (by decide) ?_
  refine g_iload_n (q := 16) dX5_init_15 rfl rfl ?_
  refine g_bipush (q := 18) dX5_init_16 (by decide +kernel) rfl ?_
  refine g_icmp_ge (q := 21) (tg := 40) dX5_init_18 (by decide) rfl (fun c_18 => ?_) (fun c_18 => ?_)
  · exact absurd c_18 (by decide)
  refine g_aload_n (q := 22) dX5_init_21 rfl rfl ?_
  refine g_getA (q := 25) (kI := 0) fX5_11 rfl dX5_init_22 rfl rfl (h.get 0 0 rfl rfl rfl rfl) ?_
  refine g_iload_n (q := 26) dX5_init_25 rfl rfl ?_
  refine nT_new (q := 29) (k := 24) (kd := 8) (n := 3) (idI := 24) (dl := [0, 0, -1]) h rfl rfl (by omega) (by omega) cl_8 (by decide) cX5_9 in_X8 ii_X8 rfl (by decide +kernel) dX5_init_26 rfl (fun c h => ?_)
  replace h : IS ct 16 _ [some [17, 0, 0], some [18, 20, 22, -1, -1, -1, -1, -1, -1, -1], some [6, 0, 19], none, some [6, 0, 21], none, some [6, 0, 23], none, some [0, 0, -1]] := h
  refine g_dup (q := 30) dX5_init_29 rfl rfl ?_
  refine g_callIN (q := 33) rfl rfl lX5_17 mX8_init nX8_init rfl (n_X8 0 (o := 24) rfl (by omega) (h.at 8 rfl rfl)) rfl (shT_le (by omega)) (rmOk.mk (by omega) (shT_le (by omega))) (Nat.le_of_ble_eq_true rfl) dX5_init_30 rfl rfl (kN fun c2 hp => ?_)
  replace h := IS.sub (t := [some [17, 0, 0], some [18, 20, 22, -1, -1, -1, -1, -1, -1, -1], some [6, 0, 19], none, some [6, 0, 21], none, some [6, 0, 23], none]) (p := 24) h rfl hp.1 hp.2
  clear hp
  replace h : IS ct 16 _ [some [17, 0, 0], some [18, 20, 22, -1, -1, -1, -1, -1, -1, -1], some [6, 0, 19], none, some [6, 0, 21], none, some [6, 0, 23], none, some [6, 0, 25], none] := h
  refine g_aastore (q := 34) (kd := 25) (kc := 8) rfl rfl (by decide) rfl (by decide) rfl (by decide) (by decide) (by decide) dX5_init_33 rfl ?_
  refine IS.putk (P := fun c => G _ _ _ _ _ c) (i := 1) (k := 3) h rfl (Nat.le_of_ble_eq_true rfl) rfl rfl (fun c h => ?_)
  replace h : IS ct 16 _ [some [17, 0, 0], some [18, 20, 22, 24, -1, -1, -1, -1, -1, -1], some [6, 0, 19], none, some [6, 0, 21], none, some [6, 0, 23], none, some [6, 0, 25], none] := h
  refine s_iinc_2_1 (q := 37) dX5_init_34 rfl rfl rfl ?_
  refine g_goto (q := 15) dX5_init_37 (by decide) ?_
  refine g_iload_n (q := 16) dX5_init_15 rfl rfl ?_
  refine g_bipush (q := 18) dX5_init_16 (by decide +kernel) rfl ?_
  refine g_icmp_ge (q := 21) (tg := 40) dX5_init_18 (by decide) rfl (fun c_18 => ?_) (fun c_18 => ?_)
  · exact absurd c_18 (by decide)
  refine g_aload_n (q := 22) dX5_init_21 rfl rfl ?_
  refine g_getA (q := 25) (kI := 0) fX5_11 rfl dX5_init_22 rfl rfl (h.get 0 0 rfl rfl rfl rfl) ?_
  refine g_iload_n (q := 26) dX5_init_25 rfl rfl ?_
  refine nT_new (q := 29) (k := 26) (kd := 8) (n := 3) (idI := 26) (dl := [0, 0, -1]) h rfl rfl (by omega) (by omega) cl_8 (by decide) cX5_9 in_X8 ii_X8 rfl (by decide +kernel) dX5_init_26 rfl (fun c h => ?_)
  replace h : IS ct 16 _ [some [17, 0, 0], some [18, 20, 22, 24, -1, -1, -1, -1, -1, -1], some [6, 0, 19], none, some [6, 0, 21], none, some [6, 0, 23], none, some [6, 0, 25], none, some [0, 0, -1]] := h
  refine g_dup (q := 30) dX5_init_29 rfl rfl ?_
  refine g_callIN (q := 33) rfl rfl lX5_17 mX8_init nX8_init rfl (n_X8 0 (o := 26) rfl (by omega) (h.at 10 rfl rfl)) rfl (shT_le (by omega)) (rmOk.mk (by omega) (shT_le (by omega))) (Nat.le_of_ble_eq_true rfl) dX5_init_30 rfl rfl (kN fun c2 hp => ?_)
  replace h := IS.sub (t := [some [17, 0, 0], some [18, 20, 22, 24, -1, -1, -1, -1, -1, -1], some [6, 0, 19], none, some [6, 0, 21], none, some [6, 0, 23], none, some [6, 0, 25], none]) (p := 26) h rfl hp.1 hp.2
  clear hp
  replace h : IS ct 16 _ [some [17, 0, 0], some [18, 20, 22, 24, -1, -1, -1, -1, -1, -1], some [6, 0, 19], none, some [6, 0, 21], none, some [6, 0, 23], none, some [6, 0, 25], none, some [6, 0, 27], none] := h
  refine g_aastore (q := 34) (kd := 25) (kc := 8) rfl rfl (by decide) rfl (by decide) rfl (by decide) (by decide) (by decide) dX5_init_33 rfl ?_
  refine IS.putk (P := fun c => G _ _ _ _ _ c) (i := 1) (k := 4) h rfl (Nat.le_of_ble_eq_true rfl) rfl rfl (fun c h => ?_)
  replace h : IS ct 16 _ [some [17, 0, 0], some [18, 20, 22, 24, 26, -1, -1, -1, -1, -1], some [6, 0, 19], none, some [6, 0, 21], none, some [6, 0, 23], none, some [6, 0, 25], none, some [6, 0, 27], none] := h
  refine s_iinc_2_1 (q := 37) dX5_init_34 rfl rfl rfl ?_
  refine g_goto (q := 15) dX5_init_37 (by decide) ?_
  refine g_iload_n (q := 16) dX5_init_15 rfl rfl ?_
  refine g_bipush (q := 18) dX5_init_16 (by decide +kernel) rfl ?_
  refine g_icmp_ge (q := 21) (tg := 40) dX5_init_18 (by decide) rfl (fun c_18 => ?_) (fun c_18 => ?_)
  · exact absurd c_18 (by decide)
  refine g_aload_n (q := 22) dX5_init_21 rfl rfl ?_
  refine g_getA (q := 25) (kI := 0) fX5_11 rfl dX5_init_22 rfl rfl (h.get 0 0 rfl rfl rfl rfl) ?_
  refine g_iload_n (q := 26) dX5_init_25 rfl rfl ?_
  refine nT_new (q := 29) (k := 28) (kd := 8) (n := 3) (idI := 28) (dl := [0, 0, -1]) h rfl rfl (by omega) (by omega) cl_8 (by decide) cX5_9 in_X8 ii_X8 rfl (by decide +kernel) dX5_init_26 rfl (fun c h => ?_)
  replace h : IS ct 16 _ [some [17, 0, 0], some [18, 20, 22, 24, 26, -1, -1, -1, -1, -1], some [6, 0, 19], none, some [6, 0, 21], none, some [6, 0, 23], none, some [6, 0, 25], none, some [6, 0, 27], none, some [0, 0, -1]] := h
  refine g_dup (q := 30) dX5_init_29 rfl rfl ?_
  refine g_callIN (q := 33) rfl rfl lX5_17 mX8_init nX8_init rfl (n_X8 0 (o := 28) rfl (by omega) (h.at 12 rfl rfl)) rfl (shT_le (by omega)) (rmOk.mk (by omega) (shT_le (by omega))) (Nat.le_of_ble_eq_true rfl) dX5_init_30 rfl rfl (kN fun c2 hp => ?_)
  replace h := IS.sub (t := [some [17, 0, 0], some [18, 20, 22, 24, 26, -1, -1, -1, -1, -1], some [6, 0, 19], none, some [6, 0, 21], none, some [6, 0, 23], none, some [6, 0, 25], none, some [6, 0, 27], none]) (p := 28) h rfl hp.1 hp.2
  clear hp
  replace h : IS ct 16 _ [some [17, 0, 0], some [18, 20, 22, 24, 26, -1, -1, -1, -1, -1], some [6, 0, 19], none, some [6, 0, 21], none, some [6, 0, 23], none, some [6, 0, 25], none, some [6, 0, 27], none, some [6, 0, 29], none] := h
  refine g_aastore (q := 34) (kd := 25) (kc := 8) rfl rfl (by decide) rfl (by decide) rfl (by decide) (by decide) (by decide) dX5_init_33 rfl ?_
  refine IS.putk (P := fun c => G _ _ _ _ _ c) (i := 1) (k := 5) h rfl (Nat.le_of_ble_eq_true rfl) rfl rfl (fun c h => ?_)
  replace h : IS ct 16 _ [some [17, 0, 0], some [18, 20, 22, 24, 26, 28, -1, -1, -1, -1], some [6, 0, 19], none, some [6, 0, 21], none, some [6, 0, 23], none, some [6, 0, 25], none, some [6, 0, 27], none, some [6, 0, 29], none] := h
  refine s_iinc_2_1 (q := 37) dX5_init_34 rfl rfl rfl ?_
  refine g_goto (q := 15) dX5_init_37 (by decide) ?_
  refine g_iload_n (q := 16) dX5_init_15 rfl rfl ?_
  refine g_bipush (q := 18) dX5_init_16 (by decide +kernel) rfl ?_
  refine g_icmp_ge (q := 21) (tg := 40) dX5_init_18 (by decide) rfl (fun c_18 => ?_) (fun c_18 => ?_)
  · exact absurd c_18 (by decide)
  refine g_aload_n (q := 22) dX5_init_21 rfl rfl ?_
  refine g_getA (q := 25) (kI := 0) fX5_11 rfl dX5_init_22 rfl rfl (h.get 0 0 rfl rfl rfl rfl) ?_
  refine g_iload_n (q := 26) dX5_init_25 rfl rfl ?_
  refine nT_new (q := 29) (k := 30) (kd := 8) (n := 3) (idI := 30) (dl := [0, 0, -1]) h rfl rfl (by omega) (by omega) cl_8 (by decide) cX5_9 in_X8 ii_X8 rfl (by decide +kernel) dX5_init_26 rfl (fun c h => ?_)
  replace h : IS ct 16 _ [some [17, 0, 0], some [18, 20, 22, 24, 26, 28, -1, -1, -1, -1], some [6, 0, 19], none, some [6, 0, 21], none, some [6, 0, 23], none, some [6, 0, 25], none, some [6, 0, 27], none, some [6, 0, 29], none, some [0, 0, -1]] := h
  refine g_dup (q := 30) dX5_init_29 rfl rfl ?_
  refine g_callIN (q := 33) rfl rfl lX5_17 mX8_init nX8_init rfl (n_X8 0 (o := 30) rfl (by omega) (h.at 14 rfl rfl)) rfl (shT_le (by omega)) (rmOk.mk (by omega) (shT_le (by omega))) (Nat.le_of_ble_eq_true rfl) dX5_init_30 rfl rfl (kN fun c2 hp => ?_)
  replace h := IS.sub (t := [some [17, 0, 0], some [18, 20, 22, 24, 26, 28, -1, -1, -1, -1], some [6, 0, 19], none, some [6, 0, 21], none, some [6, 0, 23], none, some [6, 0, 25], none, some [6, 0, 27], none, some [6, 0, 29], none]) (p := 30) h rfl hp.1 hp.2
  clear hp
  replace h : IS ct 16 _ [some [17, 0, 0], some [18, 20, 22, 24, 26, 28, -1, -1, -1, -1], some [6, 0, 19], none, some [6, 0, 21], none, some [6, 0, 23], none, some [6, 0, 25], none, some [6, 0, 27], none, some [6, 0, 29], none, some [6, 0, 31], none] := h
  refine g_aastore (q := 34) (kd := 25) (kc := 8) rfl rfl (by decide) rfl (by decide) rfl (by decide) (by decide) (by decide) dX5_init_33 rfl ?_
  refine IS.putk (P := fun c => G _ _ _ _ _ c) (i := 1) (k := 6) h rfl (Nat.le_of_ble_eq_true rfl) rfl rfl (fun c h => ?_)
  replace h : IS ct 16 _ [some [17, 0, 0], some [18, 20, 22, 24, 26, 28, 30, -1, -1, -1], some [6, 0, 19], none, some [6, 0, 21], none, some [6, 0, 23], none, some [6, 0, 25], none, some [6, 0, 27], none, some [6, 0, 29], none, some [6, 0, 31], none] := h
  refine s_iinc_2_1 (q := 37) dX5_init_34 rfl rfl rfl ?_
  refine g_goto (q := 15) dX5_init_37 (by decide) ?_
  refine g_iload_n (q := 16) dX5_init_15 rfl rfl ?_
  refine g_bipush (q := 18) dX5_init_16 (by decide +kernel) rfl ?_
  refine g_icmp_ge (q := 21) (tg := 40) dX5_init_18 (by decide) rfl (fun c_18 => ?_) (fun c_18 => ?_)
  · exact absurd c_18 (by decide)
  refine g_aload_n (q := 22) dX5_init_21 rfl rfl ?_
  refine g_getA (q := 25) (kI := 0) fX5_11 rfl dX5_init_22 rfl rfl (h.get 0 0 rfl rfl rfl rfl) ?_
  refine g_iload_n (q := 26) dX5_init_25 rfl rfl ?_
  refine nT_new (q := 29) (k := 32) (kd := 8) (n := 3) (idI := 32) (dl := [0, 0, -1]) h rfl rfl (by omega) (by omega) cl_8 (by decide) cX5_9 in_X8 ii_X8 rfl (by decide +kernel) dX5_init_26 rfl (fun c h => ?_)
  replace h : IS ct 16 _ [some [17, 0, 0], some [18, 20, 22, 24, 26, 28, 30, -1, -1, -1], some [6, 0, 19], none, some [6, 0, 21], none, some [6, 0, 23], none, some [6, 0, 25], none, some [6, 0, 27], none, some [6, 0, 29], none, some [6, 0, 31], none, some [0, 0, -1]] := h
  refine g_dup (q := 30) dX5_init_29 rfl rfl ?_
  refine g_callIN (q := 33) rfl rfl lX5_17 mX8_init nX8_init rfl (n_X8 0 (o := 32) rfl (by omega) (h.at 16 rfl rfl)) rfl (shT_le (by omega)) (rmOk.mk (by omega) (shT_le (by omega))) (Nat.le_of_ble_eq_true rfl) dX5_init_30 rfl rfl (kN fun c2 hp => ?_)
  replace h := IS.sub (t := [some [17, 0, 0], some [18, 20, 22, 24, 26, 28, 30, -1, -1, -1], some [6, 0, 19], none, some [6, 0, 21], none, some [6, 0, 23], none, some [6, 0, 25], none, some [6, 0, 27], none, some [6, 0, 29], none, some [6, 0, 31], none]) (p := 32) h rfl hp.1 hp.2
  clear hp
  replace h : IS ct 16 _ [some [17, 0, 0], some [18, 20, 22, 24, 26, 28, 30, -1, -1, -1], some [6, 0, 19], none, some [6, 0, 21], none, some [6, 0, 23], none, some [6, 0, 25], none, some [6, 0, 27], none, some [6, 0, 29], none, some [6, 0, 31], none, some [6, 0, 33], none] := h
  refine g_aastore (q := 34) (kd := 25) (kc := 8) rfl rfl (by decide) rfl (by decide) rfl (by decide) (by decide) (by decide) dX5_init_33 rfl ?_
  refine IS.putk (P := fun c => G _ _ _ _ _ c) (i := 1) (k := 7) h rfl (Nat.le_of_ble_eq_true rfl) rfl rfl (fun c h => ?_)
  replace h : IS ct 16 _ [some [17, 0, 0], some [18, 20, 22, 24, 26, 28, 30, 32, -1, -1], some [6, 0, 19], none, some [6, 0, 21], none, some [6, 0, 23], none, some [6, 0, 25], none, some [6, 0, 27], none, some [6, 0, 29], none, some [6, 0, 31], none, some [6, 0, 33], none] := h
  refine s_iinc_2_1 (q := 37) dX5_init_34 rfl rfl rfl ?_
  refine g_goto (q := 15) dX5_init_37 (by decide) ?_
  refine g_iload_n (q := 16) dX5_init_15 rfl rfl ?_
  refine g_bipush (q := 18) dX5_init_16 (by decide +kernel) rfl ?_
  refine g_icmp_ge (q := 21) (tg := 40) dX5_init_18 (by decide) rfl (fun c_18 => ?_) (fun c_18 => ?_)
  · exact absurd c_18 (by decide)
  refine g_aload_n (q := 22) dX5_init_21 rfl rfl ?_
  refine g_getA (q := 25) (kI := 0) fX5_11 rfl dX5_init_22 rfl rfl (h.get 0 0 rfl rfl rfl rfl) ?_
  refine g_iload_n (q := 26) dX5_init_25 rfl rfl ?_
  refine nT_new (q := 29) (k := 34) (kd := 8) (n := 3) (idI := 34) (dl := [0, 0, -1]) h rfl rfl (by omega) (by omega) cl_8 (by decide) cX5_9 in_X8 ii_X8 rfl (by decide +kernel) dX5_init_26 rfl (fun c h => ?_)
  replace h : IS ct 16 _ [some [17, 0, 0], some [18, 20, 22, 24, 26, 28, 30, 32, -1, -1], some [6, 0, 19], none, some [6, 0, 21], none, some [6, 0, 23], none, some [6, 0, 25], none, some [6, 0, 27], none, some [6, 0, 29], none, some [6, 0, 31], none, some [6, 0, 33], none, some [0, 0, -1]] := h
  refine g_dup (q := 30) dX5_init_29 rfl rfl ?_
  refine g_callIN (q := 33) rfl rfl lX5_17 mX8_init nX8_init rfl (n_X8 0 (o := 34) rfl (by omega) (h.at 18 rfl rfl)) rfl (shT_le (by omega)) (rmOk.mk (by omega) (shT_le (by omega))) (Nat.le_of_ble_eq_true rfl) dX5_init_30 rfl rfl (kN fun c2 hp => ?_)
  replace h := IS.sub (t := [some [17, 0, 0], some [18, 20, 22, 24, 26, 28, 30, 32, -1, -1], some [6, 0, 19], none, some [6, 0, 21], none, some [6, 0, 23], none, some [6, 0, 25], none, some [6, 0, 27], none, some [6, 0, 29], none, some [6, 0, 31], none, some [6, 0, 33], none]) (p := 34) h rfl hp.1 hp.2
  clear hp
  replace h : IS ct 16 _ [some [17, 0, 0], some [18, 20, 22, 24, 26, 28, 30, 32, -1, -1], some [6, 0, 19], none, some [6, 0, 21], none, some [6, 0, 23], none, some [6, 0, 25], none, some [6, 0, 27], none, some [6, 0, 29], none, some [6, 0, 31], none, some [6, 0, 33], none, some [6, 0, 35], none] := h
  refine g_aastore (q := 34) (kd := 25) (kc := 8) rfl rfl (by decide) rfl (by decide) rfl (by decide) (by decide) (by decide) dX5_init_33 rfl ?_
  refine IS.putk (P := fun c => G _ _ _ _ _ c) (i := 1) (k := 8) h rfl (Nat.le_of_ble_eq_true rfl) rfl rfl (fun c h => ?_)
  replace h : IS ct 16 _ [some [17, 0, 0], some [18, 20, 22, 24, 26, 28, 30, 32, 34, -1], some [6, 0, 19], none, some [6, 0, 21], none, some [6, 0, 23], none, some [6, 0, 25], none, some [6, 0, 27], none, some [6, 0, 29], none, some [6, 0, 31], none, some [6, 0, 33], none, some [6, 0, 35], none] := h
  refine s_iinc_2_1 (q := 37) dX5_init_34 rfl rfl rfl ?_
  refine g_goto (q := 15) dX5_init_37 (by decide) ?_
  refine g_iload_n (q := 16) dX5_init_15 rfl rfl ?_
  refine g_bipush (q := 18) dX5_init_16 (by decide +kernel) rfl ?_
  refine g_icmp_ge (q := 21) (tg := 40) dX5_init_18 (by decide) rfl (fun c_18 => ?_) (fun c_18 => ?_)
  · exact absurd c_18 (by decide)
  refine g_aload_n (q := 22) dX5_init_21 rfl rfl ?_
  refine g_getA (q := 25) (kI := 0) fX5_11 rfl dX5_init_22 rfl rfl (h.get 0 0 rfl rfl rfl rfl) ?_
  refine g_iload_n (q := 26) dX5_init_25 rfl rfl ?_
  refine nT_new (q := 29) (k := 36) (kd := 8) (n := 3) (idI := 36) (dl := [0, 0, -1]) h rfl rfl (by omega) (by omega) cl_8 (by decide) cX5_9 in_X8 ii_X8 rfl (by decide +kernel) dX5_init_26 rfl (fun c h => ?_)
  replace h : IS ct 16 _ [some [17, 0, 0], some [18, 20, 22, 24, 26, 28, 30, 32, 34, -1], some [6, 0, 19], none, some [6, 0, 21], none, some [6, 0, 23], none, some [6, 0, 25], none, some [6, 0, 27], none, some [6, 0, 29], none, some [6, 0, 31], none, some [6, 0, 33], none, some [6, 0, 35], none, some [0, 0, -1]] := h
  refine g_dup (q := 30) dX5_init_29 rfl rfl ?_
  refine g_callIN (q := 33) rfl rfl lX5_17 mX8_init nX8_init rfl (n_X8 0 (o := 36) rfl (by omega) (h.at 20 rfl rfl)) rfl (shT_le (by omega)) (rmOk.mk (by omega) (shT_le (by omega))) (Nat.le_of_ble_eq_true rfl) dX5_init_30 rfl rfl (kN fun c2 hp => ?_)
  replace h := IS.sub (t := [some [17, 0, 0], some [18, 20, 22, 24, 26, 28, 30, 32, 34, -1], some [6, 0, 19], none, some [6, 0, 21], none, some [6, 0, 23], none, some [6, 0, 25], none, some [6, 0, 27], none, some [6, 0, 29], none, some [6, 0, 31], none, some [6, 0, 33], none, some [6, 0, 35], none]) (p := 36) h rfl hp.1 hp.2
  clear hp
  replace h : IS ct 16 _ [some [17, 0, 0], some [18, 20, 22, 24, 26, 28, 30, 32, 34, -1], some [6, 0, 19], none, some [6, 0, 21], none, some [6, 0, 23], none, some [6, 0, 25], none, some [6, 0, 27], none, some [6, 0, 29], none, some [6, 0, 31], none, some [6, 0, 33], none, some [6, 0, 35], none, some [6, 0, 37], none] := h
  refine g_aastore (q := 34) (kd := 25) (kc := 8) rfl rfl (by decide) rfl (by decide) rfl (by decide) (by decide) (by decide) dX5_init_33 rfl ?_
  refine IS.putk (P := fun c => G _ _ _ _ _ c) (i := 1) (k := 9) h rfl (Nat.le_of_ble_eq_true rfl) rfl rfl (fun c h => ?_)
  replace h : IS ct 16 _ [some [17, 0, 0], some [18, 20, 22, 24, 26, 28, 30, 32, 34, 36], some [6, 0, 19], none, some [6, 0, 21], none, some [6, 0, 23], none, some [6, 0, 25], none, some [6, 0, 27], none, some [6, 0, 29], none, some [6, 0, 31], none, some [6, 0, 33], none, some [6, 0, 35], none, some [6, 0, 37], none] := h
  refine s_iinc_2_1 (q := 37) dX5_init_34 rfl rfl rfl ?_
  refine g_goto (q := 15) dX5_init_37 (by decide) ?_
  refine g_iload_n (q := 16) dX5_init_15 rfl rfl ?_
  refine g_bipush (q := 18) dX5_init_16 (by decide +kernel) rfl ?_
  refine g_icmp_ge (q := 21) (tg := 40) dX5_init_18 (by decide) rfl (fun c_18 => ?_) (fun c_18 => ?_)
  rotate_left
  · exact absurd c_18 (by decide)
  refine g_return dX5_init_40 rfl ?_
  exact ⟨rfl, h⟩
theorem n_X6 (d : Nat) {ct : mbCt} (hc : cellIs (ct 64) (some [0, 0, -1, -1, -1, 0, 0, 0, 0, -1])) : Mt YX6_init (d + 1) [.inr (.inr 64), .inr (.inr 1), .inr (.inr 7)] (SHL.take 65) (SHL.take 67) ct (pN fun c => blk c 64 [some [0, -1, 1, 65, 66, 0, 0, 0, 0, 7], none, none] ∧ lowF 64 ct c) := by
  have h := IS.st (o := 64) hc
  refine Mt.of rfl (Nat.le_of_ble_eq_true rfl) ?_
  show G _ 0 [some (.inr (.inr 64)), some (.inr (.inr 1)), some (.inr (.inr 7))] [] (SHL.take 65) ct
  refine g_aload_n (q := 1) dX6_init_0 rfl rfl ?_
  refine g_objInit (q := 4) lX6_3 tb_oI tb_oC rfl (rmOk.mk (by omega) (shT_le (by omega))) (Nat.le_of_ble_eq_true rfl) dX6_init_1 rfl ?_
  refine g_aload_n (q := 5) dX6_init_4 rfl rfl ?_
  refine g_iconst (q := 6) dX6_init_5 rfl ?_
  refine g_putI (q := 9) (kI := 1) fX6_9 rfl dX6_init_6 rfl rfl ?_
  refine IS.putk (P := fun c => G _ _ _ _ _ c) (i := 0) (k := 1) h rfl (Nat.le_of_ble_eq_true rfl) rfl rfl (fun c h => ?_)
  replace h : IS ct 64 _ [some [0, -1, -1, -1, -1, 0, 0, 0, 0, -1]] := h
  refine g_aload_n (q := 10) dX6_init_9 rfl rfl ?_
  refine g_sipush (q := 13) dX6_init_10 (by decide +kernel) rfl ?_
  refine nT_arr (q := 15) (k := 65) (kd := 20) (n := 901) (idI := 65) h rfl rfl (by omega) (by omega) (by decide) (by decide) rfl ac_int rfl (by decide) rfl dX6_init_13 rfl (fun c h => ?_)
  replace h : IS ct 64 _ [some [0, -1, -1, -1, -1, 0, 0, 0, 0, -1], none] := h
  refine g_putAF (q := 18) (kI := 3) rfl rfl rfl fX6_15 rfl dX6_init_15 rfl rfl ?_
  refine IS.putk (P := fun c => G _ _ _ _ _ c) (i := 0) (k := 3) h rfl (Nat.le_of_ble_eq_true rfl) rfl rfl (fun c h => ?_)
  replace h : IS ct 64 _ [some [0, -1, -1, 65, -1, 0, 0, 0, 0, -1], none] := h
  refine g_aload_n (q := 19) dX6_init_18 rfl rfl ?_
  refine g_sipush (q := 22) dX6_init_19 (by decide +kernel) rfl ?_
  refine nT_arr (q := 24) (k := 66) (kd := 20) (n := 901) (idI := 66) h rfl rfl (by omega) (by omega) (by decide) (by decide) rfl ac_int rfl (by decide) rfl dX6_init_22 rfl (fun c h => ?_)
  replace h : IS ct 64 _ [some [0, -1, -1, 65, -1, 0, 0, 0, 0, -1], none, none] := h
  refine g_putAF (q := 27) (kI := 4) rfl rfl rfl fX6_19 rfl dX6_init_24 rfl rfl ?_
  refine IS.putk (P := fun c => G _ _ _ _ _ c) (i := 0) (k := 4) h rfl (Nat.le_of_ble_eq_true rfl) rfl rfl (fun c h => ?_)
  replace h : IS ct 64 _ [some [0, -1, -1, 65, 66, 0, 0, 0, 0, -1], none, none] := h
  refine g_aload_n (q := 28) dX6_init_27 rfl rfl ?_
  refine g_aload_n (q := 29) dX6_init_28 rfl rfl ?_
  refine g_putAF (q := 32) (kI := 2) rfl rfl rfl fX6_22 rfl dX6_init_29 rfl rfl ?_
  refine IS.putk (P := fun c => G _ _ _ _ _ c) (i := 0) (k := 2) h rfl (Nat.le_of_ble_eq_true rfl) rfl rfl (fun c h => ?_)
  replace h : IS ct 64 _ [some [0, -1, 1, 65, 66, 0, 0, 0, 0, -1], none, none] := h
  refine g_aload_n (q := 33) dX6_init_32 rfl rfl ?_
  refine g_aload_n (q := 34) dX6_init_33 rfl rfl ?_
  refine g_putO (q := 37) (kI := 9) fX6_26 rfl dX6_init_34 rfl rfl ?_
  refine IS.putk (P := fun c => G _ _ _ _ _ c) (i := 0) (k := 9) h rfl (Nat.le_of_ble_eq_true rfl) rfl rfl (fun c h => ?_)
  replace h : IS ct 64 _ [some [0, -1, 1, 65, 66, 0, 0, 0, 0, 7], none, none] := h
  refine g_return dX6_init_37 rfl ?_
  exact ⟨rfl, h⟩
theorem n_X7 (d : Nat) {ct : mbCt} (hc : cellIs (ct 67) (some [-1, -1])) : Mt YX7_init (d + 1) [.inr (.inr 67)] (SHL.take 68) (SHL.take 70) ct (pN fun c => blk c 67 [some [68, 69], none, none] ∧ lowF 67 ct c) := by
  have h := IS.st (o := 67) hc
  refine Mt.of rfl (Nat.le_of_ble_eq_true rfl) ?_
  show G _ 0 [some (.inr (.inr 67))] [] (SHL.take 68) ct
  refine g_aload_n (q := 1) dX7_init_0 rfl rfl ?_
  refine g_objInit (q := 4) lX7_3 tb_oI tb_oC rfl (rmOk.mk (by omega) (shT_le (by omega))) (Nat.le_of_ble_eq_true rfl) dX7_init_1 rfl ?_
  refine g_aload_n (q := 5) dX7_init_4 rfl rfl ?_
  refine g_bipush (q := 7) dX7_init_5 (by decide +kernel) rfl ?_
  refine nT_arr (q := 9) (k := 68) (kd := 20) (n := 64) (idI := 68) h rfl rfl (by omega) (by omega) (by decide) (by decide) rfl ac_int rfl (by decide) rfl dX7_init_7 rfl (fun c h => ?_)
  replace h : IS ct 67 _ [some [-1, -1], none] := h
  refine g_putAF (q := 12) (kI := 0) rfl rfl rfl fX7_9 rfl dX7_init_9 rfl rfl ?_
  refine IS.putk (P := fun c => G _ _ _ _ _ c) (i := 0) (k := 0) h rfl (Nat.le_of_ble_eq_true rfl) rfl rfl (fun c h => ?_)
  replace h : IS ct 67 _ [some [68, -1], none] := h
  refine g_aload_n (q := 13) dX7_init_12 rfl rfl ?_
  refine g_bipush (q := 15) dX7_init_13 (by decide +kernel) rfl ?_
  refine nT_arr (q := 17) (k := 69) (kd := 20) (n := 6) (idI := 69) h rfl rfl (by omega) (by omega) (by decide) (by decide) rfl ac_int rfl (by decide) rfl dX7_init_15 rfl (fun c h => ?_)
  replace h : IS ct 67 _ [some [68, -1], none, none] := h
  refine g_putAF (q := 20) (kI := 1) rfl rfl rfl fX7_15 rfl dX7_init_17 rfl rfl ?_
  refine IS.putk (P := fun c => G _ _ _ _ _ c) (i := 0) (k := 1) h rfl (Nat.le_of_ble_eq_true rfl) rfl rfl (fun c h => ?_)
  replace h : IS ct 67 _ [some [68, 69], none, none] := h
  refine g_return dX7_init_20 rfl ?_
  exact ⟨rfl, h⟩
theorem n_X4 (d : Nat) {ct : mbCt} (hc : cellIs (ct 70) (some [-1, -1, -1, -1, -1, -1, 0, 0, -1, -1])) : Mt YX4_init (d + 1) [.inr (.inr 70), .inr (.inr 2), .inr (.inr 67)] (SHL.take 71) (SHL.take 77) ct (pN fun c => blk c 70 [some [2, 67, 71, 72, 73, 74, 0, 0, 75, 76], none, none, none, none, none, none] ∧ lowF 70 ct c) := by
  have h := IS.st (o := 70) hc
  refine Mt.of rfl (Nat.le_of_ble_eq_true rfl) ?_
  show G _ 0 [some (.inr (.inr 70)), some (.inr (.inr 2)), some (.inr (.inr 67))] [] (SHL.take 71) ct
  refine g_aload_n (q := 1) dX4_init_0 rfl rfl ?_
  refine g_objInit (q := 4) lX4_3 tb_oI tb_oC rfl (rmOk.mk (by omega) (shT_le (by omega))) (Nat.le_of_ble_eq_true rfl) dX4_init_1 rfl ?_
  refine g_aload_n (q := 5) dX4_init_4 rfl rfl ?_
  refine g_bipush (q := 7) dX4_init_5 (by decide +kernel) rfl ?_
  refine nT_arr (q := 9) (k := 71) (kd := 20) (n := 6) (idI := 71) h rfl rfl (by omega) (by omega) (by decide) (by decide) rfl ac_int rfl (by decide) rfl dX4_init_7 rfl (fun c h => ?_)
  replace h : IS ct 70 _ [some [-1, -1, -1, -1, -1, -1, 0, 0, -1, -1], none] := h
  refine g_putAF (q := 12) (kI := 2) rfl rfl rfl fX4_9 rfl dX4_init_9 rfl rfl ?_
  refine IS.putk (P := fun c => G _ _ _ _ _ c) (i := 0) (k := 2) h rfl (Nat.le_of_ble_eq_true rfl) rfl rfl (fun c h => ?_)
  replace h : IS ct 70 _ [some [-1, -1, 71, -1, -1, -1, 0, 0, -1, -1], none] := h
  refine g_aload_n (q := 13) dX4_init_12 rfl rfl ?_
  refine g_sipush (q := 16) dX4_init_13 (by decide +kernel) rfl ?_
  refine nT_arr (q := 18) (k := 72) (kd := 21) (n := 700) (idI := 72) h rfl rfl (by omega) (by omega) (by decide) (by decide) rfl ac_long rfl (by decide) rfl dX4_init_16 rfl (fun c h => ?_)
  replace h : IS ct 70 _ [some [-1, -1, 71, -1, -1, -1, 0, 0, -1, -1], none, none] := h
  refine g_putAF (q := 21) (kI := 3) rfl rfl rfl fX4_15 rfl dX4_init_18 rfl rfl ?_
  refine IS.putk (P := fun c => G _ _ _ _ _ c) (i := 0) (k := 3) h rfl (Nat.le_of_ble_eq_true rfl) rfl rfl (fun c h => ?_)
  replace h : IS ct 70 _ [some [-1, -1, 71, 72, -1, -1, 0, 0, -1, -1], none, none] := h
  refine g_aload_n (q := 22) dX4_init_21 rfl rfl ?_
  refine g_sipush (q := 25) dX4_init_22 (by decide +kernel) rfl ?_
  refine nT_arr (q := 27) (k := 73) (kd := 22) (n := 700) (idI := 73) h rfl rfl (by omega) (by omega) (by decide) (by decide) rfl ac_byte rfl (by decide) rfl dX4_init_25 rfl (fun c h => ?_)
  replace h : IS ct 70 _ [some [-1, -1, 71, 72, -1, -1, 0, 0, -1, -1], none, none, none] := h
  refine g_putAF (q := 30) (kI := 4) rfl rfl rfl fX4_19 rfl dX4_init_27 rfl rfl ?_
  refine IS.putk (P := fun c => G _ _ _ _ _ c) (i := 0) (k := 4) h rfl (Nat.le_of_ble_eq_true rfl) rfl rfl (fun c h => ?_)
  replace h : IS ct 70 _ [some [-1, -1, 71, 72, 73, -1, 0, 0, -1, -1], none, none, none] := h
  refine g_aload_n (q := 31) dX4_init_30 rfl rfl ?_
  refine g_sipush (q := 34) dX4_init_31 (by decide +kernel) rfl ?_
  refine nT_arr (q := 36) (k := 74) (kd := 20) (n := 800) (idI := 74) h rfl rfl (by omega) (by omega) (by decide) (by decide) rfl ac_int rfl (by decide) rfl dX4_init_34 rfl (fun c h => ?_)
  replace h : IS ct 70 _ [some [-1, -1, 71, 72, 73, -1, 0, 0, -1, -1], none, none, none, none] := h
  refine g_putAF (q := 39) (kI := 5) rfl rfl rfl fX4_23 rfl dX4_init_36 rfl rfl ?_
  refine IS.putk (P := fun c => G _ _ _ _ _ c) (i := 0) (k := 5) h rfl (Nat.le_of_ble_eq_true rfl) rfl rfl (fun c h => ?_)
  replace h : IS ct 70 _ [some [-1, -1, 71, 72, 73, 74, 0, 0, -1, -1], none, none, none, none] := h
  refine g_aload_n (q := 40) dX4_init_39 rfl rfl ?_
  refine g_bipush (q := 42) dX4_init_40 (by decide +kernel) rfl ?_
  refine nT_arr (q := 44) (k := 75) (kd := 20) (n := 48) (idI := 75) h rfl rfl (by omega) (by omega) (by decide) (by decide) rfl ac_int rfl (by decide) rfl dX4_init_42 rfl (fun c h => ?_)
  replace h : IS ct 70 _ [some [-1, -1, 71, 72, 73, 74, 0, 0, -1, -1], none, none, none, none, none] := h
  refine g_putAF (q := 47) (kI := 8) rfl rfl rfl fX4_26 rfl dX4_init_44 rfl rfl ?_
  refine IS.putk (P := fun c => G _ _ _ _ _ c) (i := 0) (k := 8) h rfl (Nat.le_of_ble_eq_true rfl) rfl rfl (fun c h => ?_)
  replace h : IS ct 70 _ [some [-1, -1, 71, 72, 73, 74, 0, 0, 75, -1], none, none, none, none, none] := h
  refine g_aload_n (q := 48) dX4_init_47 rfl rfl ?_
  refine g_bipush (q := 50) dX4_init_48 (by decide +kernel) rfl ?_
  refine nT_arr (q := 52) (k := 76) (kd := 20) (n := 48) (idI := 76) h rfl rfl (by omega) (by omega) (by decide) (by decide) rfl ac_int rfl (by decide) rfl dX4_init_50 rfl (fun c h => ?_)
  replace h : IS ct 70 _ [some [-1, -1, 71, 72, 73, 74, 0, 0, 75, -1], none, none, none, none, none, none] := h
  refine g_putAF (q := 55) (kI := 9) rfl rfl rfl fX4_29 rfl dX4_init_52 rfl rfl ?_
  refine IS.putk (P := fun c => G _ _ _ _ _ c) (i := 0) (k := 9) h rfl (Nat.le_of_ble_eq_true rfl) rfl rfl (fun c h => ?_)
  replace h : IS ct 70 _ [some [-1, -1, 71, 72, 73, 74, 0, 0, 75, 76], none, none, none, none, none, none] := h
  refine g_aload_n (q := 56) dX4_init_55 rfl rfl ?_
  refine g_aload_n (q := 57) dX4_init_56 rfl rfl ?_
  refine g_putO (q := 60) (kI := 0) fX4_32 rfl dX4_init_57 rfl rfl ?_
  refine IS.putk (P := fun c => G _ _ _ _ _ c) (i := 0) (k := 0) h rfl (Nat.le_of_ble_eq_true rfl) rfl rfl (fun c h => ?_)
  replace h : IS ct 70 _ [some [2, -1, 71, 72, 73, 74, 0, 0, 75, 76], none, none, none, none, none, none] := h
  refine g_aload_n (q := 61) dX4_init_60 rfl rfl ?_
  refine g_aload_n (q := 62) dX4_init_61 rfl rfl ?_
  refine g_putOF (q := 65) (kI := 1) rfl rfl rfl fX4_36 rfl dX4_init_62 rfl rfl ?_
  refine IS.putk (P := fun c => G _ _ _ _ _ c) (i := 0) (k := 1) h rfl (Nat.le_of_ble_eq_true rfl) rfl rfl (fun c h => ?_)
  replace h : IS ct 70 _ [some [2, 67, 71, 72, 73, 74, 0, 0, 75, 76], none, none, none, none, none, none] := h
  refine g_return dX4_init_65 rfl ?_
  exact ⟨rfl, h⟩
theorem n_X10 (d : Nat) {ct : mbCt} (hc : cellIs (ct 77) (some [-1, -1, 0, -1, 0, 0, 0, 0, 0, 0, 0, 0])) : Mt YX10_init (d + 1) [.inr (.inr 77), .inr (.inr 70)] (SHL.take 78) (SHL.take 80) ct (pN fun c => blk c 77 [some [70, 78, 0, 79, -1, -1, -1, 0, 0, 0, 0, 0], none, none] ∧ lowF 77 ct c) := by
  have h := IS.st (o := 77) hc
  refine Mt.of rfl (Nat.le_of_ble_eq_true rfl) ?_
  show G _ 0 [some (.inr (.inr 77)), some (.inr (.inr 70))] [] (SHL.take 78) ct
  refine g_aload_n (q := 1) dX10_init_0 rfl rfl ?_
  refine g_objInit (q := 4) lX10_5 tb_oI tb_oC rfl (rmOk.mk (by omega) (shT_le (by omega))) (Nat.le_of_ble_eq_true rfl) dX10_init_1 rfl ?_
  refine g_aload_n (q := 5) dX10_init_4 rfl rfl ?_
  refine g_sipush (q := 8) dX10_init_5 (by decide +kernel) rfl ?_
  refine nT_arr (q := 10) (k := 78) (kd := 20) (n := 700) (idI := 78) h rfl rfl (by omega) (by omega) (by decide) (by decide) rfl ac_int rfl (by decide) rfl dX10_init_8 rfl (fun c h => ?_)
  replace h : IS ct 77 _ [some [-1, -1, 0, -1, 0, 0, 0, 0, 0, 0, 0, 0], none] := h
  refine g_putA (q := 13) (kI := 1) fX10_11 rfl dX10_init_10 rfl rfl ?_
  refine IS.putk (P := fun c => G _ _ _ _ _ c) (i := 0) (k := 1) h rfl (Nat.le_of_ble_eq_true rfl) rfl rfl (fun c h => ?_)
  replace h : IS ct 77 _ [some [-1, 78, 0, -1, 0, 0, 0, 0, 0, 0, 0, 0], none] := h
  refine g_aload_n (q := 14) dX10_init_13 rfl rfl ?_
  refine g_sipush (q := 17) dX10_init_14 (by decide +kernel) rfl ?_
  refine nT_arr (q := 19) (k := 79) (kd := 21) (n := 700) (idI := 79) h rfl rfl (by omega) (by omega) (by decide) (by decide) rfl ac_long rfl (by decide) rfl dX10_init_17 rfl (fun c h => ?_)
  replace h : IS ct 77 _ [some [-1, 78, 0, -1, 0, 0, 0, 0, 0, 0, 0, 0], none, none] := h
  refine g_putAF (q := 22) (kI := 3) rfl rfl rfl fX10_15 rfl dX10_init_19 rfl rfl ?_
  refine IS.putk (P := fun c => G _ _ _ _ _ c) (i := 0) (k := 3) h rfl (Nat.le_of_ble_eq_true rfl) rfl rfl (fun c h => ?_)
  replace h : IS ct 77 _ [some [-1, 78, 0, 79, 0, 0, 0, 0, 0, 0, 0, 0], none, none] := h
  refine g_aload_n (q := 23) dX10_init_22 rfl rfl ?_
  refine g_iconst (q := 24) dX10_init_23 rfl ?_
  refine g_putI (q := 27) (kI := 4) fX10_19 rfl dX10_init_24 rfl rfl ?_
  refine IS.putk (P := fun c => G _ _ _ _ _ c) (i := 0) (k := 4) h rfl (Nat.le_of_ble_eq_true rfl) rfl rfl (fun c h => ?_)
  replace h : IS ct 77 _ [some [-1, 78, 0, 79, -1, 0, 0, 0, 0, 0, 0, 0], none, none] := h
  refine g_aload_n (q := 28) dX10_init_27 rfl rfl ?_
  refine g_iconst (q := 29) dX10_init_28 rfl ?_
  refine g_putI (q := 32) (kI := 5) fX10_23 rfl dX10_init_29 rfl rfl ?_
  refine IS.putk (P := fun c => G _ _ _ _ _ c) (i := 0) (k := 5) h rfl (Nat.le_of_ble_eq_true rfl) rfl rfl (fun c h => ?_)
  replace h : IS ct 77 _ [some [-1, 78, 0, 79, -1, -1, 0, 0, 0, 0, 0, 0], none, none] := h
  refine g_aload_n (q := 33) dX10_init_32 rfl rfl ?_
  refine g_iconst (q := 34) dX10_init_33 rfl ?_
  refine g_putI (q := 37) (kI := 6) fX10_26 rfl dX10_init_34 rfl rfl ?_
  refine IS.putk (P := fun c => G _ _ _ _ _ c) (i := 0) (k := 6) h rfl (Nat.le_of_ble_eq_true rfl) rfl rfl (fun c h => ?_)
  replace h : IS ct 77 _ [some [-1, 78, 0, 79, -1, -1, -1, 0, 0, 0, 0, 0], none, none] := h
  refine g_aload_n (q := 38) dX10_init_37 rfl rfl ?_
  refine g_aload_n (q := 39) dX10_init_38 rfl rfl ?_
  refine g_putOF (q := 42) (kI := 0) rfl rfl rfl fX10_29 rfl dX10_init_39 rfl rfl ?_
  refine IS.putk (P := fun c => G _ _ _ _ _ c) (i := 0) (k := 0) h rfl (Nat.le_of_ble_eq_true rfl) rfl rfl (fun c h => ?_)
  replace h : IS ct 77 _ [some [70, 78, 0, 79, -1, -1, -1, 0, 0, 0, 0, 0], none, none] := h
  refine g_return dX10_init_42 rfl ?_
  exact ⟨rfl, h⟩
theorem n_X3 (d : Nat) {ct : mbCt} (hc : cellIs (ct 80) (some [-1, -1, 0, -1, -1, -1, -1, -1, 0, 0, 0, 0])) : Mt YX3_init (d + 1) [.inr (.inr 80), .inr (.inr 70)] (SHL.take 81) (SHL.take 87) ct (pN fun c => blk c 80 [some [70, 81, 0, 82, 83, 84, 85, 86, 0, -1, 0, 0], none, none, none, none, none, none] ∧ lowF 80 ct c) := by
  have h := IS.st (o := 80) hc
  refine Mt.of rfl (Nat.le_of_ble_eq_true rfl) ?_
  show G _ 0 [some (.inr (.inr 80)), some (.inr (.inr 70))] [] (SHL.take 81) ct
  refine g_aload_n (q := 1) dX3_init_0 rfl rfl ?_
  refine g_objInit (q := 4) lX3_3 tb_oI tb_oC rfl (rmOk.mk (by omega) (shT_le (by omega))) (Nat.le_of_ble_eq_true rfl) dX3_init_1 rfl ?_
  refine g_aload_n (q := 5) dX3_init_4 rfl rfl ?_
  refine g_bipush (q := 7) dX3_init_5 (by decide +kernel) rfl ?_
  refine nT_arr (q := 9) (k := 81) (kd := 20) (n := 12) (idI := 81) h rfl rfl (by omega) (by omega) (by decide) (by decide) rfl ac_int rfl (by decide) rfl dX3_init_7 rfl (fun c h => ?_)
  replace h : IS ct 80 _ [some [-1, -1, 0, -1, -1, -1, -1, -1, 0, 0, 0, 0], none] := h
  refine g_putAF (q := 12) (kI := 1) rfl rfl rfl fX3_9 rfl dX3_init_9 rfl rfl ?_
  refine IS.putk (P := fun c => G _ _ _ _ _ c) (i := 0) (k := 1) h rfl (Nat.le_of_ble_eq_true rfl) rfl rfl (fun c h => ?_)
  replace h : IS ct 80 _ [some [-1, 81, 0, -1, -1, -1, -1, -1, 0, 0, 0, 0], none] := h
  refine g_aload_n (q := 13) dX3_init_12 rfl rfl ?_
  refine g_sipush (q := 16) dX3_init_13 (by decide +kernel) rfl ?_
  refine nT_arr (q := 18) (k := 82) (kd := 22) (n := 9100) (idI := 82) h rfl rfl (by omega) (by omega) (by decide) (by decide) rfl ac_byte rfl (by decide) rfl dX3_init_16 rfl (fun c h => ?_)
  replace h : IS ct 80 _ [some [-1, 81, 0, -1, -1, -1, -1, -1, 0, 0, 0, 0], none, none] := h
  refine g_putAF (q := 21) (kI := 3) rfl rfl rfl fX3_15 rfl dX3_init_18 rfl rfl ?_
  refine IS.putk (P := fun c => G _ _ _ _ _ c) (i := 0) (k := 3) h rfl (Nat.le_of_ble_eq_true rfl) rfl rfl (fun c h => ?_)
  replace h : IS ct 80 _ [some [-1, 81, 0, 82, -1, -1, -1, -1, 0, 0, 0, 0], none, none] := h
  refine g_aload_n (q := 22) dX3_init_21 rfl rfl ?_
  refine g_sipush (q := 25) dX3_init_22 (by decide +kernel) rfl ?_
  refine nT_arr (q := 27) (k := 83) (kd := 20) (n := 9100) (idI := 83) h rfl rfl (by omega) (by omega) (by decide) (by decide) rfl ac_int rfl (by decide) rfl dX3_init_25 rfl (fun c h => ?_)
  replace h : IS ct 80 _ [some [-1, 81, 0, 82, -1, -1, -1, -1, 0, 0, 0, 0], none, none, none] := h
  refine g_putAF (q := 30) (kI := 4) rfl rfl rfl fX3_19 rfl dX3_init_27 rfl rfl ?_
  refine IS.putk (P := fun c => G _ _ _ _ _ c) (i := 0) (k := 4) h rfl (Nat.le_of_ble_eq_true rfl) rfl rfl (fun c h => ?_)
  replace h : IS ct 80 _ [some [-1, 81, 0, 82, 83, -1, -1, -1, 0, 0, 0, 0], none, none, none] := h
  refine g_aload_n (q := 31) dX3_init_30 rfl rfl ?_
  refine g_bipush (q := 33) dX3_init_31 (by decide +kernel) rfl ?_
  refine nT_arr (q := 35) (k := 84) (kd := 20) (n := 14) (idI := 84) h rfl rfl (by omega) (by omega) (by decide) (by decide) rfl ac_int rfl (by decide) rfl dX3_init_33 rfl (fun c h => ?_)
  replace h : IS ct 80 _ [some [-1, 81, 0, 82, 83, -1, -1, -1, 0, 0, 0, 0], none, none, none, none] := h
  refine g_putAF (q := 38) (kI := 5) rfl rfl rfl fX3_22 rfl dX3_init_35 rfl rfl ?_
  refine IS.putk (P := fun c => G _ _ _ _ _ c) (i := 0) (k := 5) h rfl (Nat.le_of_ble_eq_true rfl) rfl rfl (fun c h => ?_)
  replace h : IS ct 80 _ [some [-1, 81, 0, 82, 83, 84, -1, -1, 0, 0, 0, 0], none, none, none, none] := h
  refine g_aload_n (q := 39) dX3_init_38 rfl rfl ?_
  refine g_sipush (q := 42) dX3_init_39 (by decide +kernel) rfl ?_
  refine nT_arr (q := 44) (k := 85) (kd := 21) (n := 700) (idI := 85) h rfl rfl (by omega) (by omega) (by decide) (by decide) rfl ac_long rfl (by decide) rfl dX3_init_42 rfl (fun c h => ?_)
  replace h : IS ct 80 _ [some [-1, 81, 0, 82, 83, 84, -1, -1, 0, 0, 0, 0], none, none, none, none, none] := h
  refine g_putA (q := 47) (kI := 6) fX3_25 rfl dX3_init_44 rfl rfl ?_
  refine IS.putk (P := fun c => G _ _ _ _ _ c) (i := 0) (k := 6) h rfl (Nat.le_of_ble_eq_true rfl) rfl rfl (fun c h => ?_)
  replace h : IS ct 80 _ [some [-1, 81, 0, 82, 83, 84, 85, -1, 0, 0, 0, 0], none, none, none, none, none] := h
  refine g_aload_n (q := 48) dX3_init_47 rfl rfl ?_
  refine g_sipush (q := 51) dX3_init_48 (by decide +kernel) rfl ?_
  refine nT_arr (q := 53) (k := 86) (kd := 21) (n := 700) (idI := 86) h rfl rfl (by omega) (by omega) (by decide) (by decide) rfl ac_long rfl (by decide) rfl dX3_init_51 rfl (fun c h => ?_)
  replace h : IS ct 80 _ [some [-1, 81, 0, 82, 83, 84, 85, -1, 0, 0, 0, 0], none, none, none, none, none, none] := h
  refine g_putA (q := 56) (kI := 7) fX3_29 rfl dX3_init_53 rfl rfl ?_
  refine IS.putk (P := fun c => G _ _ _ _ _ c) (i := 0) (k := 7) h rfl (Nat.le_of_ble_eq_true rfl) rfl rfl (fun c h => ?_)
  replace h : IS ct 80 _ [some [-1, 81, 0, 82, 83, 84, 85, 86, 0, 0, 0, 0], none, none, none, none, none, none] := h
  refine g_aload_n (q := 57) dX3_init_56 rfl rfl ?_
  refine g_iconst (q := 58) dX3_init_57 rfl ?_
  refine g_putI (q := 61) (kI := 9) fX3_32 rfl dX3_init_58 rfl rfl ?_
  refine IS.putk (P := fun c => G _ _ _ _ _ c) (i := 0) (k := 9) h rfl (Nat.le_of_ble_eq_true rfl) rfl rfl (fun c h => ?_)
  replace h : IS ct 80 _ [some [-1, 81, 0, 82, 83, 84, 85, 86, 0, -1, 0, 0], none, none, none, none, none, none] := h
  refine g_aload_n (q := 62) dX3_init_61 rfl rfl ?_
  refine g_aload_n (q := 63) dX3_init_62 rfl rfl ?_
  refine g_putOF (q := 66) (kI := 0) rfl rfl rfl fX3_36 rfl dX3_init_63 rfl rfl ?_
  refine IS.putk (P := fun c => G _ _ _ _ _ c) (i := 0) (k := 0) h rfl (Nat.le_of_ble_eq_true rfl) rfl rfl (fun c h => ?_)
  replace h : IS ct 80 _ [some [70, 81, 0, 82, 83, 84, 85, 86, 0, -1, 0, 0], none, none, none, none, none, none] := h
  refine g_return dX3_init_66 rfl ?_
  exact ⟨rfl, h⟩
theorem n_X1 (d : Nat) {ct : mbCt} (hc : cellIs (ct 87) (some [-1, -1, -1, -1, -1, -1, 0, 0, 0])) : Mt YX1_init (d + 1) [.inr (.inr 87), .inr (.inr 70), .inr (.inr 77)] (SHL.take 88) (SHL.take 92) ct (pN fun c => blk c 87 [some [70, 77, 88, 89, 90, 91, -1, 0, 0], none, none, none, none] ∧ lowF 87 ct c) := by
  have h := IS.st (o := 87) hc
  refine Mt.of rfl (Nat.le_of_ble_eq_true rfl) ?_
  show G _ 0 [some (.inr (.inr 87)), some (.inr (.inr 70)), some (.inr (.inr 77))] [] (SHL.take 88) ct
  refine g_aload_n (q := 1) dX1_init_0 rfl rfl ?_
  refine g_objInit (q := 4) lX1_3 tb_oI tb_oC rfl (rmOk.mk (by omega) (shT_le (by omega))) (Nat.le_of_ble_eq_true rfl) dX1_init_1 rfl ?_
  refine g_aload_n (q := 5) dX1_init_4 rfl rfl ?_
  refine g_sipush (q := 8) dX1_init_5 (by decide +kernel) rfl ?_
  refine nT_arr (q := 10) (k := 88) (kd := 20) (n := 700) (idI := 88) h rfl rfl (by omega) (by omega) (by decide) (by decide) rfl ac_int rfl (by decide) rfl dX1_init_8 rfl (fun c h => ?_)
  replace h : IS ct 87 _ [some [-1, -1, -1, -1, -1, -1, 0, 0, 0], none] := h
  refine g_putAF (q := 13) (kI := 2) rfl rfl rfl fX1_9 rfl dX1_init_10 rfl rfl ?_
  refine IS.putk (P := fun c => G _ _ _ _ _ c) (i := 0) (k := 2) h rfl (Nat.le_of_ble_eq_true rfl) rfl rfl (fun c h => ?_)
  replace h : IS ct 87 _ [some [-1, -1, 88, -1, -1, -1, 0, 0, 0], none] := h
  refine g_aload_n (q := 14) dX1_init_13 rfl rfl ?_
  refine g_sipush (q := 17) dX1_init_14 (by decide +kernel) rfl ?_
  refine nT_arr (q := 19) (k := 89) (kd := 20) (n := 700) (idI := 89) h rfl rfl (by omega) (by omega) (by decide) (by decide) rfl ac_int rfl (by decide) rfl dX1_init_17 rfl (fun c h => ?_)
  replace h : IS ct 87 _ [some [-1, -1, 88, -1, -1, -1, 0, 0, 0], none, none] := h
  refine g_putAF (q := 22) (kI := 3) rfl rfl rfl fX1_15 rfl dX1_init_19 rfl rfl ?_
  refine IS.putk (P := fun c => G _ _ _ _ _ c) (i := 0) (k := 3) h rfl (Nat.le_of_ble_eq_true rfl) rfl rfl (fun c h => ?_)
  replace h : IS ct 87 _ [some [-1, -1, 88, 89, -1, -1, 0, 0, 0], none, none] := h
  refine g_aload_n (q := 23) dX1_init_22 rfl rfl ?_
  refine g_bipush (q := 25) dX1_init_23 (by decide +kernel) rfl ?_
  refine nT_arr (q := 27) (k := 90) (kd := 20) (n := 100) (idI := 90) h rfl rfl (by omega) (by omega) (by decide) (by decide) rfl ac_int rfl (by decide) rfl dX1_init_25 rfl (fun c h => ?_)
  replace h : IS ct 87 _ [some [-1, -1, 88, 89, -1, -1, 0, 0, 0], none, none, none] := h
  refine g_putAF (q := 30) (kI := 4) rfl rfl rfl fX1_18 rfl dX1_init_27 rfl rfl ?_
  refine IS.putk (P := fun c => G _ _ _ _ _ c) (i := 0) (k := 4) h rfl (Nat.le_of_ble_eq_true rfl) rfl rfl (fun c h => ?_)
  replace h : IS ct 87 _ [some [-1, -1, 88, 89, 90, -1, 0, 0, 0], none, none, none] := h
  refine g_aload_n (q := 31) dX1_init_30 rfl rfl ?_
  refine g_bipush (q := 33) dX1_init_31 (by decide +kernel) rfl ?_
  refine nT_arr (q := 35) (k := 91) (kd := 20) (n := 100) (idI := 91) h rfl rfl (by omega) (by omega) (by decide) (by decide) rfl ac_int rfl (by decide) rfl dX1_init_33 rfl (fun c h => ?_)
  replace h : IS ct 87 _ [some [-1, -1, 88, 89, 90, -1, 0, 0, 0], none, none, none, none] := h
  refine g_putAF (q := 38) (kI := 5) rfl rfl rfl fX1_21 rfl dX1_init_35 rfl rfl ?_
  refine IS.putk (P := fun c => G _ _ _ _ _ c) (i := 0) (k := 5) h rfl (Nat.le_of_ble_eq_true rfl) rfl rfl (fun c h => ?_)
  replace h : IS ct 87 _ [some [-1, -1, 88, 89, 90, 91, 0, 0, 0], none, none, none, none] := h
  refine g_aload_n (q := 39) dX1_init_38 rfl rfl ?_
  refine g_iconst (q := 40) dX1_init_39 rfl ?_
  refine g_putI (q := 43) (kI := 6) fX1_24 rfl dX1_init_40 rfl rfl ?_
  refine IS.putk (P := fun c => G _ _ _ _ _ c) (i := 0) (k := 6) h rfl (Nat.le_of_ble_eq_true rfl) rfl rfl (fun c h => ?_)
  replace h : IS ct 87 _ [some [-1, -1, 88, 89, 90, 91, -1, 0, 0], none, none, none, none] := h
  refine g_aload_n (q := 44) dX1_init_43 rfl rfl ?_
  refine g_aload_n (q := 45) dX1_init_44 rfl rfl ?_
  refine g_putOF (q := 48) (kI := 0) rfl rfl rfl fX1_28 rfl dX1_init_45 rfl rfl ?_
  refine IS.putk (P := fun c => G _ _ _ _ _ c) (i := 0) (k := 0) h rfl (Nat.le_of_ble_eq_true rfl) rfl rfl (fun c h => ?_)
  replace h : IS ct 87 _ [some [70, -1, 88, 89, 90, 91, -1, 0, 0], none, none, none, none] := h
  refine g_aload_n (q := 49) dX1_init_48 rfl rfl ?_
  refine g_aload_n (q := 50) dX1_init_49 rfl rfl ?_
  refine g_putOF (q := 53) (kI := 1) rfl rfl rfl fX1_32 rfl dX1_init_50 rfl rfl ?_
  refine IS.putk (P := fun c => G _ _ _ _ _ c) (i := 0) (k := 1) h rfl (Nat.le_of_ble_eq_true rfl) rfl rfl (fun c h => ?_)
  replace h : IS ct 87 _ [some [70, 77, 88, 89, 90, 91, -1, 0, 0], none, none, none, none] := h
  refine g_return dX1_init_53 rfl ?_
  exact ⟨rfl, h⟩
