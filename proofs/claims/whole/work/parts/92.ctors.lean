theorem dX8_init_0 : decode cX8_init 0 = .ok (.aload_n 0, 1) := by decide +kernel
theorem dX8_init_1 : decode cX8_init 1 = .ok (.invokespecial 3, 3) := by decide +kernel
theorem dX8_init_4 : decode cX8_init 4 = .ok (.aload_n 0, 1) := by decide +kernel
theorem dX8_init_5 : decode cX8_init 5 = .ok (.bipush 40, 2) := by decide +kernel
theorem dX8_init_7 : decode cX8_init 7 = .ok (.newarray .int, 2) := by decide +kernel
theorem dX8_init_9 : decode cX8_init 9 = .ok (.putfield 9, 3) := by decide +kernel
theorem dX8_init_12 : decode cX8_init 12 = .ok (.aload_n 0, 1) := by decide +kernel
theorem dX8_init_13 : decode cX8_init 13 = .ok (.bipush 40, 2) := by decide +kernel
theorem dX8_init_15 : decode cX8_init 15 = .ok (.newarray .int, 2) := by decide +kernel
theorem dX8_init_17 : decode cX8_init 17 = .ok (.putfield 15, 3) := by decide +kernel
theorem dX8_init_20 : decode cX8_init 20 = .ok (.aload_n 0, 1) := by decide +kernel
theorem dX8_init_21 : decode cX8_init 21 = .ok (.bipush 40, 2) := by decide +kernel
theorem dX8_init_23 : decode cX8_init 23 = .ok (.newarray .int, 2) := by decide +kernel
theorem dX8_init_25 : decode cX8_init 25 = .ok (.putfield 18, 3) := by decide +kernel
theorem dX8_init_28 : decode cX8_init 28 = .ok (.aload_n 0, 1) := by decide +kernel
theorem dX8_init_29 : decode cX8_init 29 = .ok (.bipush 40, 2) := by decide +kernel
theorem dX8_init_31 : decode cX8_init 31 = .ok (.newarray .int, 2) := by decide +kernel
theorem dX8_init_33 : decode cX8_init 33 = .ok (.putfield 21, 3) := by decide +kernel
theorem dX8_init_36 : decode cX8_init 36 = .ok (.aload_n 0, 1) := by decide +kernel
theorem dX8_init_37 : decode cX8_init 37 = .ok (.bipush 40, 2) := by decide +kernel
theorem dX8_init_39 : decode cX8_init 39 = .ok (.newarray .long, 2) := by decide +kernel
theorem dX8_init_41 : decode cX8_init 41 = .ok (.putfield 24, 3) := by decide +kernel
theorem dX8_init_44 : decode cX8_init 44 = .ok (.return_, 1) := by decide +kernel
theorem dX10_init_0 : decode cX10_init 0 = .ok (.aload_n 0, 1) := by decide +kernel
theorem dX10_init_1 : decode cX10_init 1 = .ok (.invokespecial 3, 3) := by decide +kernel
theorem dX10_init_4 : decode cX10_init 4 = .ok (.aload_n 0, 1) := by decide +kernel
theorem dX10_init_5 : decode cX10_init 5 = .ok (.bipush 36, 2) := by decide +kernel
theorem dX10_init_7 : decode cX10_init 7 = .ok (.newarray .long, 2) := by decide +kernel
theorem dX10_init_9 : decode cX10_init 9 = .ok (.putfield 9, 3) := by decide +kernel
theorem dX10_init_12 : decode cX10_init 12 = .ok (.aload_n 0, 1) := by decide +kernel
theorem dX10_init_13 : decode cX10_init 13 = .ok (.bipush 12, 2) := by decide +kernel
theorem dX10_init_15 : decode cX10_init 15 = .ok (.newarray .boolean, 2) := by decide +kernel
theorem dX10_init_17 : decode cX10_init 17 = .ok (.putfield 15, 3) := by decide +kernel
theorem dX10_init_20 : decode cX10_init 20 = .ok (.aload_n 0, 1) := by decide +kernel
theorem dX10_init_21 : decode cX10_init 21 = .ok (.bipush 12, 2) := by decide +kernel
theorem dX10_init_23 : decode cX10_init 23 = .ok (.newarray .int, 2) := by decide +kernel
theorem dX10_init_25 : decode cX10_init 25 = .ok (.putfield 19, 3) := by decide +kernel
theorem dX10_init_28 : decode cX10_init 28 = .ok (.aload_n 0, 1) := by decide +kernel
theorem dX10_init_29 : decode cX10_init 29 = .ok (.bipush 40, 2) := by decide +kernel
theorem dX10_init_31 : decode cX10_init 31 = .ok (.newarray .int, 2) := by decide +kernel
theorem dX10_init_33 : decode cX10_init 33 = .ok (.putfield 23, 3) := by decide +kernel
theorem dX10_init_36 : decode cX10_init 36 = .ok (.aload_n 0, 1) := by decide +kernel
theorem dX10_init_37 : decode cX10_init 37 = .ok (.bipush 40, 2) := by decide +kernel
theorem dX10_init_39 : decode cX10_init 39 = .ok (.newarray .int, 2) := by decide +kernel
theorem dX10_init_41 : decode cX10_init 41 = .ok (.putfield 26, 3) := by decide +kernel
theorem dX10_init_44 : decode cX10_init 44 = .ok (.aload_n 0, 1) := by decide +kernel
theorem dX10_init_45 : decode cX10_init 45 = .ok (.bipush 40, 2) := by decide +kernel
theorem dX10_init_47 : decode cX10_init 47 = .ok (.newarray .long, 2) := by decide +kernel
theorem dX10_init_49 : decode cX10_init 49 = .ok (.putfield 29, 3) := by decide +kernel
theorem dX10_init_52 : decode cX10_init 52 = .ok (.return_, 1) := by decide +kernel
theorem dX6_init_0 : decode cX6_init 0 = .ok (.aload_n 0, 1) := by decide +kernel
theorem dX6_init_1 : decode cX6_init 1 = .ok (.invokespecial 3, 3) := by decide +kernel
theorem dX6_init_4 : decode cX6_init 4 = .ok (.aload_n 0, 1) := by decide +kernel
theorem dX6_init_5 : decode cX6_init 5 = .ok (.bipush 7, 2) := by decide +kernel
theorem dX6_init_7 : decode cX6_init 7 = .ok (.newarray .int, 2) := by decide +kernel
theorem dX6_init_9 : decode cX6_init 9 = .ok (.dup, 1) := by decide +kernel
theorem dX6_init_10 : decode cX6_init 10 = .ok (.iconst 0, 1) := by decide +kernel
theorem dX6_init_11 : decode cX6_init 11 = .ok (.iconst (-1), 1) := by decide +kernel
theorem dX6_init_12 : decode cX6_init 12 = .ok (.iastore, 1) := by decide +kernel
theorem dX6_init_13 : decode cX6_init 13 = .ok (.dup, 1) := by decide +kernel
theorem dX6_init_14 : decode cX6_init 14 = .ok (.iconst 1, 1) := by decide +kernel
theorem dX6_init_15 : decode cX6_init 15 = .ok (.iconst (-1), 1) := by decide +kernel
theorem dX6_init_16 : decode cX6_init 16 = .ok (.iastore, 1) := by decide +kernel
theorem dX6_init_17 : decode cX6_init 17 = .ok (.dup, 1) := by decide +kernel
theorem dX6_init_18 : decode cX6_init 18 = .ok (.iconst 2, 1) := by decide +kernel
theorem dX6_init_19 : decode cX6_init 19 = .ok (.iconst (-1), 1) := by decide +kernel
theorem dX6_init_20 : decode cX6_init 20 = .ok (.iastore, 1) := by decide +kernel
theorem dX6_init_21 : decode cX6_init 21 = .ok (.dup, 1) := by decide +kernel
theorem dX6_init_22 : decode cX6_init 22 = .ok (.iconst 3, 1) := by decide +kernel
theorem dX6_init_23 : decode cX6_init 23 = .ok (.iconst (-1), 1) := by decide +kernel
theorem dX6_init_24 : decode cX6_init 24 = .ok (.iastore, 1) := by decide +kernel
theorem dX6_init_25 : decode cX6_init 25 = .ok (.dup, 1) := by decide +kernel
theorem dX6_init_26 : decode cX6_init 26 = .ok (.iconst 4, 1) := by decide +kernel
theorem dX6_init_27 : decode cX6_init 27 = .ok (.iconst (-1), 1) := by decide +kernel
theorem dX6_init_28 : decode cX6_init 28 = .ok (.iastore, 1) := by decide +kernel
theorem dX6_init_29 : decode cX6_init 29 = .ok (.dup, 1) := by decide +kernel
theorem dX6_init_30 : decode cX6_init 30 = .ok (.iconst 5, 1) := by decide +kernel
theorem dX6_init_31 : decode cX6_init 31 = .ok (.iconst (-1), 1) := by decide +kernel
theorem dX6_init_32 : decode cX6_init 32 = .ok (.iastore, 1) := by decide +kernel
theorem dX6_init_33 : decode cX6_init 33 = .ok (.dup, 1) := by decide +kernel
theorem dX6_init_34 : decode cX6_init 34 = .ok (.bipush 6, 2) := by decide +kernel
theorem dX6_init_36 : decode cX6_init 36 = .ok (.iconst (-1), 1) := by decide +kernel
theorem dX6_init_37 : decode cX6_init 37 = .ok (.iastore, 1) := by decide +kernel
theorem dX6_init_38 : decode cX6_init 38 = .ok (.putfield 9, 3) := by decide +kernel
theorem dX6_init_41 : decode cX6_init 41 = .ok (.return_, 1) := by decide +kernel
theorem dX2_init_0 : decode cX2_init 0 = .ok (.aload_n 0, 1) := by decide +kernel
theorem dX2_init_1 : decode cX2_init 1 = .ok (.invokespecial 3, 3) := by decide +kernel
theorem dX2_init_4 : decode cX2_init 4 = .ok (.return_, 1) := by decide +kernel
theorem dX4_init_0 : decode cX4_init 0 = .ok (.aload_n 0, 1) := by decide +kernel
theorem dX4_init_1 : decode cX4_init 1 = .ok (.invokespecial 3, 3) := by decide +kernel
theorem dX4_init_4 : decode cX4_init 4 = .ok (.aload_n 0, 1) := by decide +kernel
theorem dX4_init_5 : decode cX4_init 5 = .ok (.bipush 36, 2) := by decide +kernel
theorem dX4_init_7 : decode cX4_init 7 = .ok (.newarray .long, 2) := by decide +kernel
theorem dX4_init_9 : decode cX4_init 9 = .ok (.putfield 9, 3) := by decide +kernel
theorem dX4_init_12 : decode cX4_init 12 = .ok (.aload_n 0, 1) := by decide +kernel
theorem dX4_init_13 : decode cX4_init 13 = .ok (.bipush 12, 2) := by decide +kernel
theorem dX4_init_15 : decode cX4_init 15 = .ok (.newarray .boolean, 2) := by decide +kernel
theorem dX4_init_17 : decode cX4_init 17 = .ok (.putfield 15, 3) := by decide +kernel
theorem dX4_init_20 : decode cX4_init 20 = .ok (.return_, 1) := by decide +kernel
theorem dX5_init_0 : decode cX5_init 0 = .ok (.aload_n 0, 1) := by decide +kernel
theorem dX5_init_1 : decode cX5_init 1 = .ok (.invokespecial 3, 3) := by decide +kernel
theorem dX5_init_4 : decode cX5_init 4 = .ok (.aload_n 0, 1) := by decide +kernel
theorem dX5_init_5 : decode cX5_init 5 = .ok (.bipush 7, 2) := by decide +kernel
theorem dX5_init_7 : decode cX5_init 7 = .ok (.anewarray 11, 3) := by decide +kernel
theorem dX5_init_10 : decode cX5_init 10 = .ok (.putfield 13, 3) := by decide +kernel
theorem dX5_init_13 : decode cX5_init 13 = .ok (.iconst 0, 1) := by decide +kernel
theorem dX5_init_14 : decode cX5_init 14 = .ok (.istore_n 1, 1) := by decide +kernel
theorem dX5_init_15 : decode cX5_init 15 = .ok (.iload_n 1, 1) := by decide +kernel
theorem dX5_init_16 : decode cX5_init 16 = .ok (.bipush 7, 2) := by decide +kernel
theorem dX5_init_18 : decode cX5_init 18 = .ok (.if_icmp .ge 22, 3) := by decide +kernel
theorem dX5_init_21 : decode cX5_init 21 = .ok (.aload_n 0, 1) := by decide +kernel
theorem dX5_init_22 : decode cX5_init 22 = .ok (.getfield 13, 3) := by decide +kernel
theorem dX5_init_25 : decode cX5_init 25 = .ok (.iload_n 1, 1) := by decide +kernel
theorem dX5_init_26 : decode cX5_init 26 = .ok (.new 11, 3) := by decide +kernel
theorem dX5_init_29 : decode cX5_init 29 = .ok (.dup, 1) := by decide +kernel
theorem dX5_init_30 : decode cX5_init 30 = .ok (.invokespecial 17, 3) := by decide +kernel
theorem dX5_init_33 : decode cX5_init 33 = .ok (.aastore, 1) := by decide +kernel
theorem dX5_init_34 : decode cX5_init 34 = .ok (.iinc 1 1, 3) := by decide +kernel
theorem dX5_init_37 : decode cX5_init 37 = .ok (.goto (-22), 3) := by decide +kernel
theorem dX5_init_40 : decode cX5_init 40 = .ok (.return_, 1) := by decide +kernel
theorem dX9_init_0 : decode cX9_init 0 = .ok (.aload_n 0, 1) := by decide +kernel
theorem dX9_init_1 : decode cX9_init 1 = .ok (.invokespecial 3, 3) := by decide +kernel
theorem dX9_init_4 : decode cX9_init 4 = .ok (.aload_n 0, 1) := by decide +kernel
theorem dX9_init_5 : decode cX9_init 5 = .ok (.sipush 200, 3) := by decide +kernel
theorem dX9_init_8 : decode cX9_init 8 = .ok (.newarray .int, 2) := by decide +kernel
theorem dX9_init_10 : decode cX9_init 10 = .ok (.putfield 9, 3) := by decide +kernel
theorem dX9_init_13 : decode cX9_init 13 = .ok (.aload_n 0, 1) := by decide +kernel
theorem dX9_init_14 : decode cX9_init 14 = .ok (.sipush 200, 3) := by decide +kernel
theorem dX9_init_17 : decode cX9_init 17 = .ok (.newarray .long, 2) := by decide +kernel
theorem dX9_init_19 : decode cX9_init 19 = .ok (.putfield 15, 3) := by decide +kernel
theorem dX9_init_22 : decode cX9_init 22 = .ok (.return_, 1) := by decide +kernel
theorem dX1_init_0 : decode cX1_init 0 = .ok (.aload_n 0, 1) := by decide +kernel
theorem dX1_init_1 : decode cX1_init 1 = .ok (.invokespecial 3, 3) := by decide +kernel
theorem dX1_init_4 : decode cX1_init 4 = .ok (.aload_n 0, 1) := by decide +kernel
theorem dX1_init_5 : decode cX1_init 5 = .ok (.aload_n 1, 1) := by decide +kernel
theorem dX1_init_6 : decode cX1_init 6 = .ok (.putfield 9, 3) := by decide +kernel
theorem dX1_init_9 : decode cX1_init 9 = .ok (.aload_n 0, 1) := by decide +kernel
theorem dX1_init_10 : decode cX1_init 10 = .ok (.aload_n 2, 1) := by decide +kernel
theorem dX1_init_11 : decode cX1_init 11 = .ok (.putfield 15, 3) := by decide +kernel
theorem dX1_init_14 : decode cX1_init 14 = .ok (.return_, 1) := by decide +kernel
theorem dX0_init_0 : decode cX0_init 0 = .ok (.aload_n 0, 1) := by decide +kernel
theorem dX0_init_1 : decode cX0_init 1 = .ok (.invokespecial 3, 3) := by decide +kernel
theorem dX0_init_4 : decode cX0_init 4 = .ok (.aload_n 0, 1) := by decide +kernel
theorem dX0_init_5 : decode cX0_init 5 = .ok (.aload_n 1, 1) := by decide +kernel
theorem dX0_init_6 : decode cX0_init 6 = .ok (.putfield 9, 3) := by decide +kernel
theorem dX0_init_9 : decode cX0_init 9 = .ok (.aload_n 0, 1) := by decide +kernel
theorem dX0_init_10 : decode cX0_init 10 = .ok (.aload_n 2, 1) := by decide +kernel
theorem dX0_init_11 : decode cX0_init 11 = .ok (.putfield 15, 3) := by decide +kernel
theorem dX0_init_14 : decode cX0_init 14 = .ok (.aload_n 0, 1) := by decide +kernel
theorem dX0_init_15 : decode cX0_init 15 = .ok (.aload_n 3, 1) := by decide +kernel
theorem dX0_init_16 : decode cX0_init 16 = .ok (.putfield 19, 3) := by decide +kernel
theorem dX0_init_19 : decode cX0_init 19 = .ok (.aload_n 0, 1) := by decide +kernel
theorem dX0_init_20 : decode cX0_init 20 = .ok (.aload 4, 2) := by decide +kernel
theorem dX0_init_22 : decode cX0_init 22 = .ok (.putfield 23, 3) := by decide +kernel
theorem dX0_init_25 : decode cX0_init 25 = .ok (.return_, 1) := by decide +kernel
theorem dX7_init_0 : decode cX7_init 0 = .ok (.aload_n 0, 1) := by decide +kernel
theorem dX7_init_1 : decode cX7_init 1 = .ok (.invokespecial 3, 3) := by decide +kernel
theorem dX7_init_4 : decode cX7_init 4 = .ok (.aload_n 0, 1) := by decide +kernel
theorem dX7_init_5 : decode cX7_init 5 = .ok (.bipush 40, 2) := by decide +kernel
theorem dX7_init_7 : decode cX7_init 7 = .ok (.newarray .int, 2) := by decide +kernel
theorem dX7_init_9 : decode cX7_init 9 = .ok (.putfield 9, 3) := by decide +kernel
theorem dX7_init_12 : decode cX7_init 12 = .ok (.aload_n 0, 1) := by decide +kernel
theorem dX7_init_13 : decode cX7_init 13 = .ok (.bipush 40, 2) := by decide +kernel
theorem dX7_init_15 : decode cX7_init 15 = .ok (.newarray .boolean, 2) := by decide +kernel
theorem dX7_init_17 : decode cX7_init 17 = .ok (.putfield 15, 3) := by decide +kernel
theorem dX7_init_20 : decode cX7_init 20 = .ok (.aload_n 0, 1) := by decide +kernel
theorem dX7_init_21 : decode cX7_init 21 = .ok (.bipush 40, 2) := by decide +kernel
theorem dX7_init_23 : decode cX7_init 23 = .ok (.newarray .long, 2) := by decide +kernel
theorem dX7_init_25 : decode cX7_init 25 = .ok (.putfield 19, 3) := by decide +kernel
theorem dX7_init_28 : decode cX7_init 28 = .ok (.aload_n 0, 1) := by decide +kernel
theorem dX7_init_29 : decode cX7_init 29 = .ok (.bipush 12, 2) := by decide +kernel
theorem dX7_init_31 : decode cX7_init 31 = .ok (.newarray .boolean, 2) := by decide +kernel
theorem dX7_init_33 : decode cX7_init 33 = .ok (.putfield 23, 3) := by decide +kernel
theorem dX7_init_36 : decode cX7_init 36 = .ok (.aload_n 0, 1) := by decide +kernel
theorem dX7_init_37 : decode cX7_init 37 = .ok (.bipush 12, 2) := by decide +kernel
theorem dX7_init_39 : decode cX7_init 39 = .ok (.newarray .boolean, 2) := by decide +kernel
theorem dX7_init_41 : decode cX7_init 41 = .ok (.putfield 26, 3) := by decide +kernel
theorem dX7_init_44 : decode cX7_init 44 = .ok (.aload_n 0, 1) := by decide +kernel
theorem dX7_init_45 : decode cX7_init 45 = .ok (.bipush 36, 2) := by decide +kernel
theorem dX7_init_47 : decode cX7_init 47 = .ok (.newarray .long, 2) := by decide +kernel
theorem dX7_init_49 : decode cX7_init 49 = .ok (.putfield 29, 3) := by decide +kernel
theorem dX7_init_52 : decode cX7_init 52 = .ok (.aload_n 0, 1) := by decide +kernel
theorem dX7_init_53 : decode cX7_init 53 = .ok (.aload_n 1, 1) := by decide +kernel
theorem dX7_init_54 : decode cX7_init 54 = .ok (.getfield 32, 3) := by decide +kernel
theorem dX7_init_57 : decode cX7_init 57 = .ok (.putfield 38, 3) := by decide +kernel
theorem dX7_init_60 : decode cX7_init 60 = .ok (.aload_n 0, 1) := by decide +kernel
theorem dX7_init_61 : decode cX7_init 61 = .ok (.aload_n 1, 1) := by decide +kernel
theorem dX7_init_62 : decode cX7_init 62 = .ok (.putfield 39, 3) := by decide +kernel
theorem dX7_init_65 : decode cX7_init 65 = .ok (.aload_n 0, 1) := by decide +kernel
theorem dX7_init_66 : decode cX7_init 66 = .ok (.aload_n 1, 1) := by decide +kernel
theorem dX7_init_67 : decode cX7_init 67 = .ok (.getfield 43, 3) := by decide +kernel
theorem dX7_init_70 : decode cX7_init 70 = .ok (.putfield 47, 3) := by decide +kernel
theorem dX7_init_73 : decode cX7_init 73 = .ok (.aload_n 0, 1) := by decide +kernel
theorem dX7_init_74 : decode cX7_init 74 = .ok (.aload_n 2, 1) := by decide +kernel
theorem dX7_init_75 : decode cX7_init 75 = .ok (.putfield 48, 3) := by decide +kernel
theorem dX7_init_78 : decode cX7_init 78 = .ok (.aload_n 0, 1) := by decide +kernel
theorem dX7_init_79 : decode cX7_init 79 = .ok (.aload_n 3, 1) := by decide +kernel
theorem dX7_init_80 : decode cX7_init 80 = .ok (.putfield 52, 3) := by decide +kernel
theorem dX7_init_83 : decode cX7_init 83 = .ok (.return_, 1) := by decide +kernel
theorem dX3_init_0 : decode cX3_init 0 = .ok (.aload_n 0, 1) := by decide +kernel
theorem dX3_init_1 : decode cX3_init 1 = .ok (.invokespecial 3, 3) := by decide +kernel
theorem dX3_init_4 : decode cX3_init 4 = .ok (.aload_n 0, 1) := by decide +kernel
theorem dX3_init_5 : decode cX3_init 5 = .ok (.bipush 60, 2) := by decide +kernel
theorem dX3_init_7 : decode cX3_init 7 = .ok (.newarray .int, 2) := by decide +kernel
theorem dX3_init_9 : decode cX3_init 9 = .ok (.putfield 9, 3) := by decide +kernel
theorem dX3_init_12 : decode cX3_init 12 = .ok (.aload_n 0, 1) := by decide +kernel
theorem dX3_init_13 : decode cX3_init 13 = .ok (.bipush 60, 2) := by decide +kernel
theorem dX3_init_15 : decode cX3_init 15 = .ok (.newarray .long, 2) := by decide +kernel
theorem dX3_init_17 : decode cX3_init 17 = .ok (.putfield 15, 3) := by decide +kernel
theorem dX3_init_20 : decode cX3_init 20 = .ok (.aload_n 0, 1) := by decide +kernel
theorem dX3_init_21 : decode cX3_init 21 = .ok (.iconst 3, 1) := by decide +kernel
theorem dX3_init_22 : decode cX3_init 22 = .ok (.newarray .long, 2) := by decide +kernel
theorem dX3_init_24 : decode cX3_init 24 = .ok (.putfield 19, 3) := by decide +kernel
theorem dX3_init_27 : decode cX3_init 27 = .ok (.aload_n 0, 1) := by decide +kernel
theorem dX3_init_28 : decode cX3_init 28 = .ok (.iconst 3, 1) := by decide +kernel
theorem dX3_init_29 : decode cX3_init 29 = .ok (.newarray .long, 2) := by decide +kernel
theorem dX3_init_31 : decode cX3_init 31 = .ok (.putfield 22, 3) := by decide +kernel
theorem dX3_init_34 : decode cX3_init 34 = .ok (.aload_n 0, 1) := by decide +kernel
theorem dX3_init_35 : decode cX3_init 35 = .ok (.aload_n 1, 1) := by decide +kernel
theorem dX3_init_36 : decode cX3_init 36 = .ok (.getfield 25, 3) := by decide +kernel
theorem dX3_init_39 : decode cX3_init 39 = .ok (.putfield 31, 3) := by decide +kernel
theorem dX3_init_42 : decode cX3_init 42 = .ok (.aload_n 0, 1) := by decide +kernel
theorem dX3_init_43 : decode cX3_init 43 = .ok (.aload_n 1, 1) := by decide +kernel
theorem dX3_init_44 : decode cX3_init 44 = .ok (.putfield 32, 3) := by decide +kernel
theorem dX3_init_47 : decode cX3_init 47 = .ok (.aload_n 0, 1) := by decide +kernel
theorem dX3_init_48 : decode cX3_init 48 = .ok (.aload_n 1, 1) := by decide +kernel
theorem dX3_init_49 : decode cX3_init 49 = .ok (.getfield 36, 3) := by decide +kernel
theorem dX3_init_52 : decode cX3_init 52 = .ok (.putfield 40, 3) := by decide +kernel
theorem dX3_init_55 : decode cX3_init 55 = .ok (.aload_n 0, 1) := by decide +kernel
theorem dX3_init_56 : decode cX3_init 56 = .ok (.aload_n 2, 1) := by decide +kernel
theorem dX3_init_57 : decode cX3_init 57 = .ok (.putfield 41, 3) := by decide +kernel
theorem dX3_init_60 : decode cX3_init 60 = .ok (.aload_n 0, 1) := by decide +kernel
theorem dX3_init_61 : decode cX3_init 61 = .ok (.aload_n 3, 1) := by decide +kernel
theorem dX3_init_62 : decode cX3_init 62 = .ok (.putfield 45, 3) := by decide +kernel
theorem dX3_init_65 : decode cX3_init 65 = .ok (.return_, 1) := by decide +kernel
def rm_nX8 : Room := { frames := 1, cells := 5, slots := 200, locals := 12 }
set_option maxHeartbeats 4000000 in
set_option maxRecDepth 100000 in
theorem n_X8 (l : Launch) {dC : Nat → ClassId} {dI : Nat → Nat → Nat} {kA : Nat → ClassId} (h0 sz : Nat) : jm_n l (dC, dI) kA yX8_init cX8_init 1 rm_nX8 [.ref h0] sz [(h0, .inr (8, [.null, .null, .null, .null, .null, .int 0]))] (fun q => [(h0, .inr (8, [.ref (q 0), .ref (q 1), .ref (q 2), .ref (q 3), .ref (q 4), .int 0])), (q 0, .inl (kA 0, 40, .inl (fun _ => 0))), (q 1, .inl (kA 0, 40, .inl (fun _ => 0))), (q 2, .inl (kA 0, 40, .inl (fun _ => 0))), (q 3, .inl (kA 0, 40, .inl (fun _ => 0))), (q 4, .inl (kA 1, 40, .inr (.inl (fun _ => 0))))]) (fun _ => True) := jm_n_of (by decide) rfl (Nat.le_of_ble_eq_true rfl) (fun p e s m below meth c hx hb hml hown hts hr hlocks hK hN hAO hin hP A hD hA hS ls hl => by
  have hown : s.vm.findClass RX8 = some m.cls := hown
  have hl : lv_has ls 1 [(0, .ref h0)] := hl
  refine lv_aload_n hx hb dX8_init_0 rfl (lv_at hl 0 rfl) ?_
  refine W.objInit hx hb hown (hts _ kw_80) (hts _ kw_73) (hts _ kw_74) rfl (by rw [hml]; exact hl.1) rfl dX8_init_1 (Nat.le_of_ble_eq_true rfl) (Nat.le_of_ble_eq_true rfl) ?_
  refine W.eq (g2 := F0 m 4 ls []) rfl ?_
  refine lv_aload_n hx hb dX8_init_4 rfl (lv_at hl 0 rfl) ?_
  refine lv_bipush (v := 40) hx hb dX8_init_5 (by decide) ?_
  refine jn_nai hx hb hts kw_106 hK hP hD hS hA (by decide) (N' := 40) (by decide) (by decide) (Nat.le_of_ble_eq_true rfl) (Nat.le_of_ble_eq_true rfl) dX8_init_7 (fun q1 H hP hD hS => ?_)
  have hP : va_P (dC, dI) vwCl [(h0, .inr (8, [.null, .null, .null, .null, .null, .int 0])), (q1, .inl (kA 0, 40, .inl (fun _ => 0)))] H := hP
  have hD : va_D A [(h0, .inr (8, [.null, .null, .null, .null, .null, .int 0])), (q1, .inl (kA 0, 40, .inl (fun _ => 0)))] := hD
  refine W.widen (k := 1) (n := 40) (Nat.le_of_ble_eq_true rfl) (Nat.le_of_ble_eq_true rfl) ?_
  refine va_putF (D := (dC, dI)) (ci := 8) (v := .ref q1) (ty := tyX8 0) (C := RX8) (T := TX8) (N := 6) hx hb hts inK_X8 tyX8 tyX8_ok nmX8 hown hK hP hD hS 0 rfl rfl 0 (by decide) (hts _ kw_81) (fun _ h9 => h9) rfl hin rfl (tyX8_ok 0 (by decide)) rfl rfl (Nat.le_of_ble_eq_true rfl) dX8_init_9 (fun H locs hP hD hS => ?_)
  have hP : va_P (dC, dI) vwCl [(h0, .inr (8, [.ref q1, .null, .null, .null, .null, .int 0])), (q1, .inl (kA 0, 40, .inl (fun _ => 0)))] H := hP
  have hD : va_D A [(h0, .inr (8, [.ref q1, .null, .null, .null, .null, .int 0])), (q1, .inl (kA 0, 40, .inl (fun _ => 0)))] := hD
  refine lv_aload_n hx hb dX8_init_12 rfl (lv_at hl 0 rfl) ?_
  refine lv_bipush (v := 40) hx hb dX8_init_13 (by decide) ?_
  refine jn_nai hx hb hts kw_106 hK hP hD hS hA (by decide) (N' := 40) (by decide) (by decide) (Nat.le_of_ble_eq_true rfl) (Nat.le_of_ble_eq_true rfl) dX8_init_15 (fun q2 H hP hD hS => ?_)
  have hP : va_P (dC, dI) vwCl [(h0, .inr (8, [.ref q1, .null, .null, .null, .null, .int 0])), (q1, .inl (kA 0, 40, .inl (fun _ => 0))), (q2, .inl (kA 0, 40, .inl (fun _ => 0)))] H := hP
  have hD : va_D A [(h0, .inr (8, [.ref q1, .null, .null, .null, .null, .int 0])), (q1, .inl (kA 0, 40, .inl (fun _ => 0))), (q2, .inl (kA 0, 40, .inl (fun _ => 0)))] := hD
  refine W.widen (k := 2) (n := 80) (Nat.le_of_ble_eq_true rfl) (Nat.le_of_ble_eq_true rfl) ?_
  refine va_putF (D := (dC, dI)) (ci := 8) (v := .ref q2) (ty := tyX8 1) (C := RX8) (T := TX8) (N := 6) hx hb hts inK_X8 tyX8 tyX8_ok nmX8 hown hK hP hD hS 0 rfl rfl 1 (by decide) (hts _ kw_83) (fun _ h9 => h9) rfl hin rfl (tyX8_ok 1 (by decide)) rfl rfl (Nat.le_of_ble_eq_true rfl) dX8_init_17 (fun H locs hP hD hS => ?_)
  have hP : va_P (dC, dI) vwCl [(h0, .inr (8, [.ref q1, .ref q2, .null, .null, .null, .int 0])), (q1, .inl (kA 0, 40, .inl (fun _ => 0))), (q2, .inl (kA 0, 40, .inl (fun _ => 0)))] H := hP
  have hD : va_D A [(h0, .inr (8, [.ref q1, .ref q2, .null, .null, .null, .int 0])), (q1, .inl (kA 0, 40, .inl (fun _ => 0))), (q2, .inl (kA 0, 40, .inl (fun _ => 0)))] := hD
  refine lv_aload_n hx hb dX8_init_20 rfl (lv_at hl 0 rfl) ?_
  refine lv_bipush (v := 40) hx hb dX8_init_21 (by decide) ?_
  refine jn_nai hx hb hts kw_106 hK hP hD hS hA (by decide) (N' := 40) (by decide) (by decide) (Nat.le_of_ble_eq_true rfl) (Nat.le_of_ble_eq_true rfl) dX8_init_23 (fun q3 H hP hD hS => ?_)
  have hP : va_P (dC, dI) vwCl [(h0, .inr (8, [.ref q1, .ref q2, .null, .null, .null, .int 0])), (q1, .inl (kA 0, 40, .inl (fun _ => 0))), (q2, .inl (kA 0, 40, .inl (fun _ => 0))), (q3, .inl (kA 0, 40, .inl (fun _ => 0)))] H := hP
  have hD : va_D A [(h0, .inr (8, [.ref q1, .ref q2, .null, .null, .null, .int 0])), (q1, .inl (kA 0, 40, .inl (fun _ => 0))), (q2, .inl (kA 0, 40, .inl (fun _ => 0))), (q3, .inl (kA 0, 40, .inl (fun _ => 0)))] := hD
  refine W.widen (k := 3) (n := 120) (Nat.le_of_ble_eq_true rfl) (Nat.le_of_ble_eq_true rfl) ?_
  refine va_putF (D := (dC, dI)) (ci := 8) (v := .ref q3) (ty := tyX8 2) (C := RX8) (T := TX8) (N := 6) hx hb hts inK_X8 tyX8 tyX8_ok nmX8 hown hK hP hD hS 0 rfl rfl 2 (by decide) (hts _ kw_85) (fun _ h9 => h9) rfl hin rfl (tyX8_ok 2 (by decide)) rfl rfl (Nat.le_of_ble_eq_true rfl) dX8_init_25 (fun H locs hP hD hS => ?_)
  have hP : va_P (dC, dI) vwCl [(h0, .inr (8, [.ref q1, .ref q2, .ref q3, .null, .null, .int 0])), (q1, .inl (kA 0, 40, .inl (fun _ => 0))), (q2, .inl (kA 0, 40, .inl (fun _ => 0))), (q3, .inl (kA 0, 40, .inl (fun _ => 0)))] H := hP
  have hD : va_D A [(h0, .inr (8, [.ref q1, .ref q2, .ref q3, .null, .null, .int 0])), (q1, .inl (kA 0, 40, .inl (fun _ => 0))), (q2, .inl (kA 0, 40, .inl (fun _ => 0))), (q3, .inl (kA 0, 40, .inl (fun _ => 0)))] := hD
  refine lv_aload_n hx hb dX8_init_28 rfl (lv_at hl 0 rfl) ?_
  refine lv_bipush (v := 40) hx hb dX8_init_29 (by decide) ?_
  refine jn_nai hx hb hts kw_106 hK hP hD hS hA (by decide) (N' := 40) (by decide) (by decide) (Nat.le_of_ble_eq_true rfl) (Nat.le_of_ble_eq_true rfl) dX8_init_31 (fun q4 H hP hD hS => ?_)
  have hP : va_P (dC, dI) vwCl [(h0, .inr (8, [.ref q1, .ref q2, .ref q3, .null, .null, .int 0])), (q1, .inl (kA 0, 40, .inl (fun _ => 0))), (q2, .inl (kA 0, 40, .inl (fun _ => 0))), (q3, .inl (kA 0, 40, .inl (fun _ => 0))), (q4, .inl (kA 0, 40, .inl (fun _ => 0)))] H := hP
  have hD : va_D A [(h0, .inr (8, [.ref q1, .ref q2, .ref q3, .null, .null, .int 0])), (q1, .inl (kA 0, 40, .inl (fun _ => 0))), (q2, .inl (kA 0, 40, .inl (fun _ => 0))), (q3, .inl (kA 0, 40, .inl (fun _ => 0))), (q4, .inl (kA 0, 40, .inl (fun _ => 0)))] := hD
  refine W.widen (k := 4) (n := 160) (Nat.le_of_ble_eq_true rfl) (Nat.le_of_ble_eq_true rfl) ?_
  refine va_putF (D := (dC, dI)) (ci := 8) (v := .ref q4) (ty := tyX8 3) (C := RX8) (T := TX8) (N := 6) hx hb hts inK_X8 tyX8 tyX8_ok nmX8 hown hK hP hD hS 0 rfl rfl 3 (by decide) (hts _ kw_87) (fun _ h9 => h9) rfl hin rfl (tyX8_ok 3 (by decide)) rfl rfl (Nat.le_of_ble_eq_true rfl) dX8_init_33 (fun H locs hP hD hS => ?_)
  have hP : va_P (dC, dI) vwCl [(h0, .inr (8, [.ref q1, .ref q2, .ref q3, .ref q4, .null, .int 0])), (q1, .inl (kA 0, 40, .inl (fun _ => 0))), (q2, .inl (kA 0, 40, .inl (fun _ => 0))), (q3, .inl (kA 0, 40, .inl (fun _ => 0))), (q4, .inl (kA 0, 40, .inl (fun _ => 0)))] H := hP
  have hD : va_D A [(h0, .inr (8, [.ref q1, .ref q2, .ref q3, .ref q4, .null, .int 0])), (q1, .inl (kA 0, 40, .inl (fun _ => 0))), (q2, .inl (kA 0, 40, .inl (fun _ => 0))), (q3, .inl (kA 0, 40, .inl (fun _ => 0))), (q4, .inl (kA 0, 40, .inl (fun _ => 0)))] := hD
  refine lv_aload_n hx hb dX8_init_36 rfl (lv_at hl 0 rfl) ?_
  refine lv_bipush (v := 40) hx hb dX8_init_37 (by decide) ?_
  refine jn_nal hx hb hts kw_107 hK hP hD hS hA (by decide) (N' := 40) (by decide) (by decide) (Nat.le_of_ble_eq_true rfl) (Nat.le_of_ble_eq_true rfl) dX8_init_39 (fun q5 H hP hD hS => ?_)
  have hP : va_P (dC, dI) vwCl [(h0, .inr (8, [.ref q1, .ref q2, .ref q3, .ref q4, .null, .int 0])), (q1, .inl (kA 0, 40, .inl (fun _ => 0))), (q2, .inl (kA 0, 40, .inl (fun _ => 0))), (q3, .inl (kA 0, 40, .inl (fun _ => 0))), (q4, .inl (kA 0, 40, .inl (fun _ => 0))), (q5, .inl (kA 1, 40, .inr (.inl (fun _ => 0))))] H := hP
  have hD : va_D A [(h0, .inr (8, [.ref q1, .ref q2, .ref q3, .ref q4, .null, .int 0])), (q1, .inl (kA 0, 40, .inl (fun _ => 0))), (q2, .inl (kA 0, 40, .inl (fun _ => 0))), (q3, .inl (kA 0, 40, .inl (fun _ => 0))), (q4, .inl (kA 0, 40, .inl (fun _ => 0))), (q5, .inl (kA 1, 40, .inr (.inl (fun _ => 0))))] := hD
  refine W.widen (k := 5) (n := 200) (Nat.le_of_ble_eq_true rfl) (Nat.le_of_ble_eq_true rfl) ?_
  refine va_putF (D := (dC, dI)) (ci := 8) (v := .ref q5) (ty := tyX8 4) (C := RX8) (T := TX8) (N := 6) hx hb hts inK_X8 tyX8 tyX8_ok nmX8 hown hK hP hD hS 0 rfl rfl 4 (by decide) (hts _ kw_89) (fun _ h9 => h9) rfl hin rfl (tyX8_ok 4 (by decide)) rfl rfl (Nat.le_of_ble_eq_true rfl) dX8_init_41 (fun H locs hP hD hS => ?_)
  have hP : va_P (dC, dI) vwCl [(h0, .inr (8, [.ref q1, .ref q2, .ref q3, .ref q4, .ref q5, .int 0])), (q1, .inl (kA 0, 40, .inl (fun _ => 0))), (q2, .inl (kA 0, 40, .inl (fun _ => 0))), (q3, .inl (kA 0, 40, .inl (fun _ => 0))), (q4, .inl (kA 0, 40, .inl (fun _ => 0))), (q5, .inl (kA 1, 40, .inr (.inl (fun _ => 0))))] H := hP
  have hD : va_D A [(h0, .inr (8, [.ref q1, .ref q2, .ref q3, .ref q4, .ref q5, .int 0])), (q1, .inl (kA 0, 40, .inl (fun _ => 0))), (q2, .inl (kA 0, 40, .inl (fun _ => 0))), (q3, .inl (kA 0, 40, .inl (fun _ => 0))), (q4, .inl (kA 0, 40, .inl (fun _ => 0))), (q5, .inl (kA 1, 40, .inr (.inl (fun _ => 0))))] := hD
  exact W.vret hx hb hr (fun t ht _ => ⟨⟨fun k => ([q1, q2, q3, q4, q5] : List Nat).getD k 0, rfl, trivial, by rw [ht]; exact hP, hD⟩, hS.F ht⟩) hS.2.2 dX8_init_44 hlocks)

def rm_nX10 : Room := { frames := 1, cells := 6, slots := 180, locals := 12 }
set_option maxHeartbeats 4000000 in
set_option maxRecDepth 100000 in
theorem n_X10 (l : Launch) {dC : Nat → ClassId} {dI : Nat → Nat → Nat} {kA : Nat → ClassId} (h0 sz : Nat) : jm_n l (dC, dI) kA yX10_init cX10_init 1 rm_nX10 [.ref h0] sz [(h0, .inr (10, [.null, .null, .null, .null, .null, .null, .int 0, .int 0, .int 0, .long 0]))] (fun q => [(h0, .inr (10, [.ref (q 0), .ref (q 1), .ref (q 2), .ref (q 3), .ref (q 4), .ref (q 5), .int 0, .int 0, .int 0, .long 0])), (q 0, .inl (kA 1, 36, .inr (.inl (fun _ => 0)))), (q 1, .inl (kA 2, 12, .inl (fun _ => 0))), (q 2, .inl (kA 0, 12, .inl (fun _ => 0))), (q 3, .inl (kA 0, 40, .inl (fun _ => 0))), (q 4, .inl (kA 0, 40, .inl (fun _ => 0))), (q 5, .inl (kA 1, 40, .inr (.inl (fun _ => 0))))]) (fun _ => True) := jm_n_of (by decide) rfl (Nat.le_of_ble_eq_true rfl) (fun p e s m below meth c hx hb hml hown hts hr hlocks hK hN hAO hin hP A hD hA hS ls hl => by
  have hown : s.vm.findClass RX10 = some m.cls := hown
  have hl : lv_has ls 1 [(0, .ref h0)] := hl
  refine lv_aload_n hx hb dX10_init_0 rfl (lv_at hl 0 rfl) ?_
  refine W.objInit hx hb hown (hts _ kw_113) (hts _ kw_73) (hts _ kw_74) rfl (by rw [hml]; exact hl.1) rfl dX10_init_1 (Nat.le_of_ble_eq_true rfl) (Nat.le_of_ble_eq_true rfl) ?_
  refine W.eq (g2 := F0 m 4 ls []) rfl ?_
  refine lv_aload_n hx hb dX10_init_4 rfl (lv_at hl 0 rfl) ?_
  refine lv_bipush (v := 36) hx hb dX10_init_5 (by decide) ?_
  refine jn_nal hx hb hts kw_107 hK hP hD hS hA (by decide) (N' := 36) (by decide) (by decide) (Nat.le_of_ble_eq_true rfl) (Nat.le_of_ble_eq_true rfl) dX10_init_7 (fun q1 H hP hD hS => ?_)
  have hP : va_P (dC, dI) vwCl [(h0, .inr (10, [.null, .null, .null, .null, .null, .null, .int 0, .int 0, .int 0, .long 0])), (q1, .inl (kA 1, 36, .inr (.inl (fun _ => 0))))] H := hP
  have hD : va_D A [(h0, .inr (10, [.null, .null, .null, .null, .null, .null, .int 0, .int 0, .int 0, .long 0])), (q1, .inl (kA 1, 36, .inr (.inl (fun _ => 0))))] := hD
  refine W.widen (k := 1) (n := 36) (Nat.le_of_ble_eq_true rfl) (Nat.le_of_ble_eq_true rfl) ?_
  refine va_putF (D := (dC, dI)) (ci := 10) (v := .ref q1) (ty := tyX10 0) (C := RX10) (T := TX10) (N := 10) hx hb hts inK_X10 tyX10 tyX10_ok nmX10 hown hK hP hD hS 0 rfl rfl 0 (by decide) (hts _ kw_114) (fun _ h9 => h9) rfl hin rfl (tyX10_ok 0 (by decide)) rfl rfl (Nat.le_of_ble_eq_true rfl) dX10_init_9 (fun H locs hP hD hS => ?_)
  have hP : va_P (dC, dI) vwCl [(h0, .inr (10, [.ref q1, .null, .null, .null, .null, .null, .int 0, .int 0, .int 0, .long 0])), (q1, .inl (kA 1, 36, .inr (.inl (fun _ => 0))))] H := hP
  have hD : va_D A [(h0, .inr (10, [.ref q1, .null, .null, .null, .null, .null, .int 0, .int 0, .int 0, .long 0])), (q1, .inl (kA 1, 36, .inr (.inl (fun _ => 0))))] := hD
  refine lv_aload_n hx hb dX10_init_12 rfl (lv_at hl 0 rfl) ?_
  refine lv_bipush (v := 12) hx hb dX10_init_13 (by decide) ?_
  refine jn_naz hx hb hts kw_174 hK hP hD hS hA (by decide) (N' := 12) (by decide) (by decide) (Nat.le_of_ble_eq_true rfl) (Nat.le_of_ble_eq_true rfl) dX10_init_15 (fun q2 H hP hD hS => ?_)
  have hP : va_P (dC, dI) vwCl [(h0, .inr (10, [.ref q1, .null, .null, .null, .null, .null, .int 0, .int 0, .int 0, .long 0])), (q1, .inl (kA 1, 36, .inr (.inl (fun _ => 0)))), (q2, .inl (kA 2, 12, .inl (fun _ => 0)))] H := hP
  have hD : va_D A [(h0, .inr (10, [.ref q1, .null, .null, .null, .null, .null, .int 0, .int 0, .int 0, .long 0])), (q1, .inl (kA 1, 36, .inr (.inl (fun _ => 0)))), (q2, .inl (kA 2, 12, .inl (fun _ => 0)))] := hD
  refine W.widen (k := 2) (n := 48) (Nat.le_of_ble_eq_true rfl) (Nat.le_of_ble_eq_true rfl) ?_
  refine va_putF (D := (dC, dI)) (ci := 10) (v := .ref q2) (ty := tyX10 1) (C := RX10) (T := TX10) (N := 10) hx hb hts inK_X10 tyX10 tyX10_ok nmX10 hown hK hP hD hS 0 rfl rfl 1 (by decide) (hts _ kw_120) (fun _ h9 => h9) rfl hin rfl (tyX10_ok 1 (by decide)) rfl rfl (Nat.le_of_ble_eq_true rfl) dX10_init_17 (fun H locs hP hD hS => ?_)
  have hP : va_P (dC, dI) vwCl [(h0, .inr (10, [.ref q1, .ref q2, .null, .null, .null, .null, .int 0, .int 0, .int 0, .long 0])), (q1, .inl (kA 1, 36, .inr (.inl (fun _ => 0)))), (q2, .inl (kA 2, 12, .inl (fun _ => 0)))] H := hP
  have hD : va_D A [(h0, .inr (10, [.ref q1, .ref q2, .null, .null, .null, .null, .int 0, .int 0, .int 0, .long 0])), (q1, .inl (kA 1, 36, .inr (.inl (fun _ => 0)))), (q2, .inl (kA 2, 12, .inl (fun _ => 0)))] := hD
  refine lv_aload_n hx hb dX10_init_20 rfl (lv_at hl 0 rfl) ?_
  refine lv_bipush (v := 12) hx hb dX10_init_21 (by decide) ?_
  refine jn_nai hx hb hts kw_106 hK hP hD hS hA (by decide) (N' := 12) (by decide) (by decide) (Nat.le_of_ble_eq_true rfl) (Nat.le_of_ble_eq_true rfl) dX10_init_23 (fun q3 H hP hD hS => ?_)
  have hP : va_P (dC, dI) vwCl [(h0, .inr (10, [.ref q1, .ref q2, .null, .null, .null, .null, .int 0, .int 0, .int 0, .long 0])), (q1, .inl (kA 1, 36, .inr (.inl (fun _ => 0)))), (q2, .inl (kA 2, 12, .inl (fun _ => 0))), (q3, .inl (kA 0, 12, .inl (fun _ => 0)))] H := hP
  have hD : va_D A [(h0, .inr (10, [.ref q1, .ref q2, .null, .null, .null, .null, .int 0, .int 0, .int 0, .long 0])), (q1, .inl (kA 1, 36, .inr (.inl (fun _ => 0)))), (q2, .inl (kA 2, 12, .inl (fun _ => 0))), (q3, .inl (kA 0, 12, .inl (fun _ => 0)))] := hD
  refine W.widen (k := 3) (n := 60) (Nat.le_of_ble_eq_true rfl) (Nat.le_of_ble_eq_true rfl) ?_
  refine va_putF (D := (dC, dI)) (ci := 10) (v := .ref q3) (ty := tyX10 2) (C := RX10) (T := TX10) (N := 10) hx hb hts inK_X10 tyX10 tyX10_ok nmX10 hown hK hP hD hS 0 rfl rfl 2 (by decide) (hts _ kw_125) (fun _ h9 => h9) rfl hin rfl (tyX10_ok 2 (by decide)) rfl rfl (Nat.le_of_ble_eq_true rfl) dX10_init_25 (fun H locs hP hD hS => ?_)
  have hP : va_P (dC, dI) vwCl [(h0, .inr (10, [.ref q1, .ref q2, .ref q3, .null, .null, .null, .int 0, .int 0, .int 0, .long 0])), (q1, .inl (kA 1, 36, .inr (.inl (fun _ => 0)))), (q2, .inl (kA 2, 12, .inl (fun _ => 0))), (q3, .inl (kA 0, 12, .inl (fun _ => 0)))] H := hP
  have hD : va_D A [(h0, .inr (10, [.ref q1, .ref q2, .ref q3, .null, .null, .null, .int 0, .int 0, .int 0, .long 0])), (q1, .inl (kA 1, 36, .inr (.inl (fun _ => 0)))), (q2, .inl (kA 2, 12, .inl (fun _ => 0))), (q3, .inl (kA 0, 12, .inl (fun _ => 0)))] := hD
  refine lv_aload_n hx hb dX10_init_28 rfl (lv_at hl 0 rfl) ?_
  refine lv_bipush (v := 40) hx hb dX10_init_29 (by decide) ?_
  refine jn_nai hx hb hts kw_106 hK hP hD hS hA (by decide) (N' := 40) (by decide) (by decide) (Nat.le_of_ble_eq_true rfl) (Nat.le_of_ble_eq_true rfl) dX10_init_31 (fun q4 H hP hD hS => ?_)
  have hP : va_P (dC, dI) vwCl [(h0, .inr (10, [.ref q1, .ref q2, .ref q3, .null, .null, .null, .int 0, .int 0, .int 0, .long 0])), (q1, .inl (kA 1, 36, .inr (.inl (fun _ => 0)))), (q2, .inl (kA 2, 12, .inl (fun _ => 0))), (q3, .inl (kA 0, 12, .inl (fun _ => 0))), (q4, .inl (kA 0, 40, .inl (fun _ => 0)))] H := hP
  have hD : va_D A [(h0, .inr (10, [.ref q1, .ref q2, .ref q3, .null, .null, .null, .int 0, .int 0, .int 0, .long 0])), (q1, .inl (kA 1, 36, .inr (.inl (fun _ => 0)))), (q2, .inl (kA 2, 12, .inl (fun _ => 0))), (q3, .inl (kA 0, 12, .inl (fun _ => 0))), (q4, .inl (kA 0, 40, .inl (fun _ => 0)))] := hD
  refine W.widen (k := 4) (n := 100) (Nat.le_of_ble_eq_true rfl) (Nat.le_of_ble_eq_true rfl) ?_
  refine va_putF (D := (dC, dI)) (ci := 10) (v := .ref q4) (ty := tyX10 3) (C := RX10) (T := TX10) (N := 10) hx hb hts inK_X10 tyX10 tyX10_ok nmX10 hown hK hP hD hS 0 rfl rfl 3 (by decide) (hts _ kw_127) (fun _ h9 => h9) rfl hin rfl (tyX10_ok 3 (by decide)) rfl rfl (Nat.le_of_ble_eq_true rfl) dX10_init_33 (fun H locs hP hD hS => ?_)
  have hP : va_P (dC, dI) vwCl [(h0, .inr (10, [.ref q1, .ref q2, .ref q3, .ref q4, .null, .null, .int 0, .int 0, .int 0, .long 0])), (q1, .inl (kA 1, 36, .inr (.inl (fun _ => 0)))), (q2, .inl (kA 2, 12, .inl (fun _ => 0))), (q3, .inl (kA 0, 12, .inl (fun _ => 0))), (q4, .inl (kA 0, 40, .inl (fun _ => 0)))] H := hP
  have hD : va_D A [(h0, .inr (10, [.ref q1, .ref q2, .ref q3, .ref q4, .null, .null, .int 0, .int 0, .int 0, .long 0])), (q1, .inl (kA 1, 36, .inr (.inl (fun _ => 0)))), (q2, .inl (kA 2, 12, .inl (fun _ => 0))), (q3, .inl (kA 0, 12, .inl (fun _ => 0))), (q4, .inl (kA 0, 40, .inl (fun _ => 0)))] := hD
  refine lv_aload_n hx hb dX10_init_36 rfl (lv_at hl 0 rfl) ?_
  refine lv_bipush (v := 40) hx hb dX10_init_37 (by decide) ?_
  refine jn_nai hx hb hts kw_106 hK hP hD hS hA (by decide) (N' := 40) (by decide) (by decide) (Nat.le_of_ble_eq_true rfl) (Nat.le_of_ble_eq_true rfl) dX10_init_39 (fun q5 H hP hD hS => ?_)
  have hP : va_P (dC, dI) vwCl [(h0, .inr (10, [.ref q1, .ref q2, .ref q3, .ref q4, .null, .null, .int 0, .int 0, .int 0, .long 0])), (q1, .inl (kA 1, 36, .inr (.inl (fun _ => 0)))), (q2, .inl (kA 2, 12, .inl (fun _ => 0))), (q3, .inl (kA 0, 12, .inl (fun _ => 0))), (q4, .inl (kA 0, 40, .inl (fun _ => 0))), (q5, .inl (kA 0, 40, .inl (fun _ => 0)))] H := hP
  have hD : va_D A [(h0, .inr (10, [.ref q1, .ref q2, .ref q3, .ref q4, .null, .null, .int 0, .int 0, .int 0, .long 0])), (q1, .inl (kA 1, 36, .inr (.inl (fun _ => 0)))), (q2, .inl (kA 2, 12, .inl (fun _ => 0))), (q3, .inl (kA 0, 12, .inl (fun _ => 0))), (q4, .inl (kA 0, 40, .inl (fun _ => 0))), (q5, .inl (kA 0, 40, .inl (fun _ => 0)))] := hD
  refine W.widen (k := 5) (n := 140) (Nat.le_of_ble_eq_true rfl) (Nat.le_of_ble_eq_true rfl) ?_
  refine va_putF (D := (dC, dI)) (ci := 10) (v := .ref q5) (ty := tyX10 4) (C := RX10) (T := TX10) (N := 10) hx hb hts inK_X10 tyX10 tyX10_ok nmX10 hown hK hP hD hS 0 rfl rfl 4 (by decide) (hts _ kw_130) (fun _ h9 => h9) rfl hin rfl (tyX10_ok 4 (by decide)) rfl rfl (Nat.le_of_ble_eq_true rfl) dX10_init_41 (fun H locs hP hD hS => ?_)
  have hP : va_P (dC, dI) vwCl [(h0, .inr (10, [.ref q1, .ref q2, .ref q3, .ref q4, .ref q5, .null, .int 0, .int 0, .int 0, .long 0])), (q1, .inl (kA 1, 36, .inr (.inl (fun _ => 0)))), (q2, .inl (kA 2, 12, .inl (fun _ => 0))), (q3, .inl (kA 0, 12, .inl (fun _ => 0))), (q4, .inl (kA 0, 40, .inl (fun _ => 0))), (q5, .inl (kA 0, 40, .inl (fun _ => 0)))] H := hP
  have hD : va_D A [(h0, .inr (10, [.ref q1, .ref q2, .ref q3, .ref q4, .ref q5, .null, .int 0, .int 0, .int 0, .long 0])), (q1, .inl (kA 1, 36, .inr (.inl (fun _ => 0)))), (q2, .inl (kA 2, 12, .inl (fun _ => 0))), (q3, .inl (kA 0, 12, .inl (fun _ => 0))), (q4, .inl (kA 0, 40, .inl (fun _ => 0))), (q5, .inl (kA 0, 40, .inl (fun _ => 0)))] := hD
  refine lv_aload_n hx hb dX10_init_44 rfl (lv_at hl 0 rfl) ?_
  refine lv_bipush (v := 40) hx hb dX10_init_45 (by decide) ?_
  refine jn_nal hx hb hts kw_107 hK hP hD hS hA (by decide) (N' := 40) (by decide) (by decide) (Nat.le_of_ble_eq_true rfl) (Nat.le_of_ble_eq_true rfl) dX10_init_47 (fun q6 H hP hD hS => ?_)
  have hP : va_P (dC, dI) vwCl [(h0, .inr (10, [.ref q1, .ref q2, .ref q3, .ref q4, .ref q5, .null, .int 0, .int 0, .int 0, .long 0])), (q1, .inl (kA 1, 36, .inr (.inl (fun _ => 0)))), (q2, .inl (kA 2, 12, .inl (fun _ => 0))), (q3, .inl (kA 0, 12, .inl (fun _ => 0))), (q4, .inl (kA 0, 40, .inl (fun _ => 0))), (q5, .inl (kA 0, 40, .inl (fun _ => 0))), (q6, .inl (kA 1, 40, .inr (.inl (fun _ => 0))))] H := hP
  have hD : va_D A [(h0, .inr (10, [.ref q1, .ref q2, .ref q3, .ref q4, .ref q5, .null, .int 0, .int 0, .int 0, .long 0])), (q1, .inl (kA 1, 36, .inr (.inl (fun _ => 0)))), (q2, .inl (kA 2, 12, .inl (fun _ => 0))), (q3, .inl (kA 0, 12, .inl (fun _ => 0))), (q4, .inl (kA 0, 40, .inl (fun _ => 0))), (q5, .inl (kA 0, 40, .inl (fun _ => 0))), (q6, .inl (kA 1, 40, .inr (.inl (fun _ => 0))))] := hD
  refine W.widen (k := 6) (n := 180) (Nat.le_of_ble_eq_true rfl) (Nat.le_of_ble_eq_true rfl) ?_
  refine va_putF (D := (dC, dI)) (ci := 10) (v := .ref q6) (ty := tyX10 5) (C := RX10) (T := TX10) (N := 10) hx hb hts inK_X10 tyX10 tyX10_ok nmX10 hown hK hP hD hS 0 rfl rfl 5 (by decide) (hts _ kw_133) (fun _ h9 => h9) rfl hin rfl (tyX10_ok 5 (by decide)) rfl rfl (Nat.le_of_ble_eq_true rfl) dX10_init_49 (fun H locs hP hD hS => ?_)
  have hP : va_P (dC, dI) vwCl [(h0, .inr (10, [.ref q1, .ref q2, .ref q3, .ref q4, .ref q5, .ref q6, .int 0, .int 0, .int 0, .long 0])), (q1, .inl (kA 1, 36, .inr (.inl (fun _ => 0)))), (q2, .inl (kA 2, 12, .inl (fun _ => 0))), (q3, .inl (kA 0, 12, .inl (fun _ => 0))), (q4, .inl (kA 0, 40, .inl (fun _ => 0))), (q5, .inl (kA 0, 40, .inl (fun _ => 0))), (q6, .inl (kA 1, 40, .inr (.inl (fun _ => 0))))] H := hP
  have hD : va_D A [(h0, .inr (10, [.ref q1, .ref q2, .ref q3, .ref q4, .ref q5, .ref q6, .int 0, .int 0, .int 0, .long 0])), (q1, .inl (kA 1, 36, .inr (.inl (fun _ => 0)))), (q2, .inl (kA 2, 12, .inl (fun _ => 0))), (q3, .inl (kA 0, 12, .inl (fun _ => 0))), (q4, .inl (kA 0, 40, .inl (fun _ => 0))), (q5, .inl (kA 0, 40, .inl (fun _ => 0))), (q6, .inl (kA 1, 40, .inr (.inl (fun _ => 0))))] := hD
  exact W.vret hx hb hr (fun t ht _ => ⟨⟨fun k => ([q1, q2, q3, q4, q5, q6] : List Nat).getD k 0, rfl, trivial, by rw [ht]; exact hP, hD⟩, hS.F ht⟩) hS.2.2 dX10_init_52 hlocks)

def rm_nX6 : Room := { frames := 1, cells := 1, slots := 7, locals := 12 }
set_option maxHeartbeats 4000000 in
set_option maxRecDepth 100000 in
theorem n_X6 (l : Launch) {dC : Nat → ClassId} {dI : Nat → Nat → Nat} {kA : Nat → ClassId} (h0 sz : Nat) : jm_n l (dC, dI) kA yX6_init cX6_init 1 rm_nX6 [.ref h0] sz [(h0, .inr (6, [.null, .int 0]))] (fun q => [(h0, .inr (6, [.ref (q 0), .int 0])), (q 0, .inl (kA 0, 7, .inl (upd (upd (upd (upd (upd (upd (upd (fun _ => 0) (0 : Int32).toNatClampNeg (-1)) (1 : Int32).toNatClampNeg (-1)) (2 : Int32).toNatClampNeg (-1)) (3 : Int32).toNatClampNeg (-1)) (4 : Int32).toNatClampNeg (-1)) (5 : Int32).toNatClampNeg (-1)) (6 : Int32).toNatClampNeg (-1))))]) (fun _ => True) := jm_n_of (by decide) rfl (Nat.le_of_ble_eq_true rfl) (fun p e s m below meth c hx hb hml hown hts hr hlocks hK hN hAO hin hP A hD hA hS ls hl => by
  have hown : s.vm.findClass RX6 = some m.cls := hown
  have hl : lv_has ls 1 [(0, .ref h0)] := hl
  refine lv_aload_n hx hb dX6_init_0 rfl (lv_at hl 0 rfl) ?_
  refine W.objInit hx hb hown (hts _ kw_180) (hts _ kw_73) (hts _ kw_74) rfl (by rw [hml]; exact hl.1) rfl dX6_init_1 (Nat.le_of_ble_eq_true rfl) (Nat.le_of_ble_eq_true rfl) ?_
  refine W.eq (g2 := F0 m 4 ls []) rfl ?_
  refine lv_aload_n hx hb dX6_init_4 rfl (lv_at hl 0 rfl) ?_
  refine lv_bipush (v := 7) hx hb dX6_init_5 (by decide) ?_
  refine jn_nai hx hb hts kw_106 hK hP hD hS hA (by decide) (N' := 7) (by decide) (by decide) (Nat.le_of_ble_eq_true rfl) (Nat.le_of_ble_eq_true rfl) dX6_init_7 (fun q1 H hP hD hS => ?_)
  have hP : va_P (dC, dI) vwCl [(h0, .inr (6, [.null, .int 0])), (q1, .inl (kA 0, 7, .inl (fun _ => 0)))] H := hP
  have hD : va_D A [(h0, .inr (6, [.null, .int 0])), (q1, .inl (kA 0, 7, .inl (fun _ => 0)))] := hD
  refine W.widen (k := 1) (n := 7) (Nat.le_of_ble_eq_true rfl) (Nat.le_of_ble_eq_true rfl) ?_
  refine lv_dup hx hb dX6_init_9 rfl ?_
  refine lv_iconst (v := 0) hx hb dX6_init_10 (by decide) ?_
  refine lv_iconst (v := (-1)) hx hb dX6_init_11 (by decide) ?_
  refine va_iast hx hb hK hP hD hS 1 0 rfl rfl (by unfold vp_in; decide) dX6_init_12 (fun H locs hP hD hS => ?_)
  have hP : va_P (dC, dI) vwCl [(h0, .inr (6, [.null, .int 0])), (q1, .inl (kA 0, 7, .inl (upd (fun _ => 0) (0 : Int32).toNatClampNeg (-1))))] H := hP
  have hD : va_D A [(h0, .inr (6, [.null, .int 0])), (q1, .inl (kA 0, 7, .inl (upd (fun _ => 0) (0 : Int32).toNatClampNeg (-1))))] := hD
  refine lv_dup hx hb dX6_init_13 rfl ?_
  refine lv_iconst (v := 1) hx hb dX6_init_14 (by decide) ?_
  refine lv_iconst (v := (-1)) hx hb dX6_init_15 (by decide) ?_
  refine va_iast hx hb hK hP hD hS 1 0 rfl rfl (by unfold vp_in; decide) dX6_init_16 (fun H locs hP hD hS => ?_)
  have hP : va_P (dC, dI) vwCl [(h0, .inr (6, [.null, .int 0])), (q1, .inl (kA 0, 7, .inl (upd (upd (fun _ => 0) (0 : Int32).toNatClampNeg (-1)) (1 : Int32).toNatClampNeg (-1))))] H := hP
  have hD : va_D A [(h0, .inr (6, [.null, .int 0])), (q1, .inl (kA 0, 7, .inl (upd (upd (fun _ => 0) (0 : Int32).toNatClampNeg (-1)) (1 : Int32).toNatClampNeg (-1))))] := hD
  refine lv_dup hx hb dX6_init_17 rfl ?_
  refine lv_iconst (v := 2) hx hb dX6_init_18 (by decide) ?_
  refine lv_iconst (v := (-1)) hx hb dX6_init_19 (by decide) ?_
  refine va_iast hx hb hK hP hD hS 1 0 rfl rfl (by unfold vp_in; decide) dX6_init_20 (fun H locs hP hD hS => ?_)
  have hP : va_P (dC, dI) vwCl [(h0, .inr (6, [.null, .int 0])), (q1, .inl (kA 0, 7, .inl (upd (upd (upd (fun _ => 0) (0 : Int32).toNatClampNeg (-1)) (1 : Int32).toNatClampNeg (-1)) (2 : Int32).toNatClampNeg (-1))))] H := hP
  have hD : va_D A [(h0, .inr (6, [.null, .int 0])), (q1, .inl (kA 0, 7, .inl (upd (upd (upd (fun _ => 0) (0 : Int32).toNatClampNeg (-1)) (1 : Int32).toNatClampNeg (-1)) (2 : Int32).toNatClampNeg (-1))))] := hD
  refine lv_dup hx hb dX6_init_21 rfl ?_
  refine lv_iconst (v := 3) hx hb dX6_init_22 (by decide) ?_
  refine lv_iconst (v := (-1)) hx hb dX6_init_23 (by decide) ?_
  refine va_iast hx hb hK hP hD hS 1 0 rfl rfl (by unfold vp_in; decide) dX6_init_24 (fun H locs hP hD hS => ?_)
  have hP : va_P (dC, dI) vwCl [(h0, .inr (6, [.null, .int 0])), (q1, .inl (kA 0, 7, .inl (upd (upd (upd (upd (fun _ => 0) (0 : Int32).toNatClampNeg (-1)) (1 : Int32).toNatClampNeg (-1)) (2 : Int32).toNatClampNeg (-1)) (3 : Int32).toNatClampNeg (-1))))] H := hP
  have hD : va_D A [(h0, .inr (6, [.null, .int 0])), (q1, .inl (kA 0, 7, .inl (upd (upd (upd (upd (fun _ => 0) (0 : Int32).toNatClampNeg (-1)) (1 : Int32).toNatClampNeg (-1)) (2 : Int32).toNatClampNeg (-1)) (3 : Int32).toNatClampNeg (-1))))] := hD
  refine lv_dup hx hb dX6_init_25 rfl ?_
  refine lv_iconst (v := 4) hx hb dX6_init_26 (by decide) ?_
  refine lv_iconst (v := (-1)) hx hb dX6_init_27 (by decide) ?_
  refine va_iast hx hb hK hP hD hS 1 0 rfl rfl (by unfold vp_in; decide) dX6_init_28 (fun H locs hP hD hS => ?_)
  have hP : va_P (dC, dI) vwCl [(h0, .inr (6, [.null, .int 0])), (q1, .inl (kA 0, 7, .inl (upd (upd (upd (upd (upd (fun _ => 0) (0 : Int32).toNatClampNeg (-1)) (1 : Int32).toNatClampNeg (-1)) (2 : Int32).toNatClampNeg (-1)) (3 : Int32).toNatClampNeg (-1)) (4 : Int32).toNatClampNeg (-1))))] H := hP
  have hD : va_D A [(h0, .inr (6, [.null, .int 0])), (q1, .inl (kA 0, 7, .inl (upd (upd (upd (upd (upd (fun _ => 0) (0 : Int32).toNatClampNeg (-1)) (1 : Int32).toNatClampNeg (-1)) (2 : Int32).toNatClampNeg (-1)) (3 : Int32).toNatClampNeg (-1)) (4 : Int32).toNatClampNeg (-1))))] := hD
  refine lv_dup hx hb dX6_init_29 rfl ?_
  refine lv_iconst (v := 5) hx hb dX6_init_30 (by decide) ?_
  refine lv_iconst (v := (-1)) hx hb dX6_init_31 (by decide) ?_
  refine va_iast hx hb hK hP hD hS 1 0 rfl rfl (by unfold vp_in; decide) dX6_init_32 (fun H locs hP hD hS => ?_)
  have hP : va_P (dC, dI) vwCl [(h0, .inr (6, [.null, .int 0])), (q1, .inl (kA 0, 7, .inl (upd (upd (upd (upd (upd (upd (fun _ => 0) (0 : Int32).toNatClampNeg (-1)) (1 : Int32).toNatClampNeg (-1)) (2 : Int32).toNatClampNeg (-1)) (3 : Int32).toNatClampNeg (-1)) (4 : Int32).toNatClampNeg (-1)) (5 : Int32).toNatClampNeg (-1))))] H := hP
  have hD : va_D A [(h0, .inr (6, [.null, .int 0])), (q1, .inl (kA 0, 7, .inl (upd (upd (upd (upd (upd (upd (fun _ => 0) (0 : Int32).toNatClampNeg (-1)) (1 : Int32).toNatClampNeg (-1)) (2 : Int32).toNatClampNeg (-1)) (3 : Int32).toNatClampNeg (-1)) (4 : Int32).toNatClampNeg (-1)) (5 : Int32).toNatClampNeg (-1))))] := hD
  refine lv_dup hx hb dX6_init_33 rfl ?_
  refine lv_bipush (v := 6) hx hb dX6_init_34 (by decide) ?_
  refine lv_iconst (v := (-1)) hx hb dX6_init_36 (by decide) ?_
  refine va_iast hx hb hK hP hD hS 1 0 rfl rfl (by unfold vp_in; decide) dX6_init_37 (fun H locs hP hD hS => ?_)
  have hP : va_P (dC, dI) vwCl [(h0, .inr (6, [.null, .int 0])), (q1, .inl (kA 0, 7, .inl (upd (upd (upd (upd (upd (upd (upd (fun _ => 0) (0 : Int32).toNatClampNeg (-1)) (1 : Int32).toNatClampNeg (-1)) (2 : Int32).toNatClampNeg (-1)) (3 : Int32).toNatClampNeg (-1)) (4 : Int32).toNatClampNeg (-1)) (5 : Int32).toNatClampNeg (-1)) (6 : Int32).toNatClampNeg (-1))))] H := hP
  have hD : va_D A [(h0, .inr (6, [.null, .int 0])), (q1, .inl (kA 0, 7, .inl (upd (upd (upd (upd (upd (upd (upd (fun _ => 0) (0 : Int32).toNatClampNeg (-1)) (1 : Int32).toNatClampNeg (-1)) (2 : Int32).toNatClampNeg (-1)) (3 : Int32).toNatClampNeg (-1)) (4 : Int32).toNatClampNeg (-1)) (5 : Int32).toNatClampNeg (-1)) (6 : Int32).toNatClampNeg (-1))))] := hD
  refine va_putF (D := (dC, dI)) (ci := 6) (v := .ref q1) (ty := tyX6 0) (C := RX6) (T := TX6) (N := 2) hx hb hts inK_X6 tyX6 tyX6_ok nmX6 hown hK hP hD hS 0 rfl rfl 0 (by decide) (hts _ kw_181) (fun _ h9 => h9) rfl hin rfl (tyX6_ok 0 (by decide)) rfl rfl (Nat.le_of_ble_eq_true rfl) dX6_init_38 (fun H locs hP hD hS => ?_)
  have hP : va_P (dC, dI) vwCl [(h0, .inr (6, [.ref q1, .int 0])), (q1, .inl (kA 0, 7, .inl (upd (upd (upd (upd (upd (upd (upd (fun _ => 0) (0 : Int32).toNatClampNeg (-1)) (1 : Int32).toNatClampNeg (-1)) (2 : Int32).toNatClampNeg (-1)) (3 : Int32).toNatClampNeg (-1)) (4 : Int32).toNatClampNeg (-1)) (5 : Int32).toNatClampNeg (-1)) (6 : Int32).toNatClampNeg (-1))))] H := hP
  have hD : va_D A [(h0, .inr (6, [.ref q1, .int 0])), (q1, .inl (kA 0, 7, .inl (upd (upd (upd (upd (upd (upd (upd (fun _ => 0) (0 : Int32).toNatClampNeg (-1)) (1 : Int32).toNatClampNeg (-1)) (2 : Int32).toNatClampNeg (-1)) (3 : Int32).toNatClampNeg (-1)) (4 : Int32).toNatClampNeg (-1)) (5 : Int32).toNatClampNeg (-1)) (6 : Int32).toNatClampNeg (-1))))] := hD
  exact W.vret hx hb hr (fun t ht _ => ⟨⟨fun k => ([q1] : List Nat).getD k 0, rfl, trivial, by rw [ht]; exact hP, hD⟩, hS.F ht⟩) hS.2.2 dX6_init_41 hlocks)

def rm_nX2 : Room := { frames := 1, cells := 0, slots := 0, locals := 12 }
set_option maxHeartbeats 4000000 in
set_option maxRecDepth 100000 in
theorem n_X2 (l : Launch) {dC : Nat → ClassId} {dI : Nat → Nat → Nat} {kA : Nat → ClassId} (h0 sz : Nat) : jm_n l (dC, dI) kA yX2_init cX2_init 1 rm_nX2 [.ref h0] sz [(h0, .inr (2, [.int 0, .int 0, .int 0, .int 0, .int 0]))] (fun q => [(h0, .inr (2, [.int 0, .int 0, .int 0, .int 0, .int 0]))]) (fun _ => True) := jm_n_of (by decide) rfl (Nat.le_of_ble_eq_true rfl) (fun p e s m below meth c hx hb hml hown hts hr hlocks hK hN hAO hin hP A hD hA hS ls hl => by
  have hown : s.vm.findClass RX2 = some m.cls := hown
  have hl : lv_has ls 1 [(0, .ref h0)] := hl
  refine lv_aload_n hx hb dX2_init_0 rfl (lv_at hl 0 rfl) ?_
  refine W.objInit hx hb hown (hts _ kw_196) (hts _ kw_73) (hts _ kw_74) rfl (by rw [hml]; exact hl.1) rfl dX2_init_1 (Nat.le_of_ble_eq_true rfl) (Nat.le_of_ble_eq_true rfl) ?_
  refine W.eq (g2 := F0 m 4 ls []) rfl ?_
  exact W.vret hx hb hr (fun t ht _ => ⟨⟨fun k => ([] : List Nat).getD k 0, rfl, trivial, by rw [ht]; exact hP, hD⟩, hS.F ht⟩) hS.2.2 dX2_init_4 hlocks)

def rm_nX4 : Room := { frames := 1, cells := 2, slots := 48, locals := 12 }
set_option maxHeartbeats 4000000 in
set_option maxRecDepth 100000 in
theorem n_X4 (l : Launch) {dC : Nat → ClassId} {dI : Nat → Nat → Nat} {kA : Nat → ClassId} (h0 sz : Nat) : jm_n l (dC, dI) kA yX4_init cX4_init 1 rm_nX4 [.ref h0] sz [(h0, .inr (4, [.null, .null, .int 0, .long 0]))] (fun q => [(h0, .inr (4, [.ref (q 0), .ref (q 1), .int 0, .long 0])), (q 0, .inl (kA 1, 36, .inr (.inl (fun _ => 0)))), (q 1, .inl (kA 2, 12, .inl (fun _ => 0)))]) (fun _ => True) := jm_n_of (by decide) rfl (Nat.le_of_ble_eq_true rfl) (fun p e s m below meth c hx hb hml hown hts hr hlocks hK hN hAO hin hP A hD hA hS ls hl => by
  have hown : s.vm.findClass RX4 = some m.cls := hown
  have hl : lv_has ls 1 [(0, .ref h0)] := hl
  refine lv_aload_n hx hb dX4_init_0 rfl (lv_at hl 0 rfl) ?_
  refine W.objInit hx hb hown (hts _ kw_225) (hts _ kw_73) (hts _ kw_74) rfl (by rw [hml]; exact hl.1) rfl dX4_init_1 (Nat.le_of_ble_eq_true rfl) (Nat.le_of_ble_eq_true rfl) ?_
  refine W.eq (g2 := F0 m 4 ls []) rfl ?_
  refine lv_aload_n hx hb dX4_init_4 rfl (lv_at hl 0 rfl) ?_
  refine lv_bipush (v := 36) hx hb dX4_init_5 (by decide) ?_
  refine jn_nal hx hb hts kw_107 hK hP hD hS hA (by decide) (N' := 36) (by decide) (by decide) (Nat.le_of_ble_eq_true rfl) (Nat.le_of_ble_eq_true rfl) dX4_init_7 (fun q1 H hP hD hS => ?_)
  have hP : va_P (dC, dI) vwCl [(h0, .inr (4, [.null, .null, .int 0, .long 0])), (q1, .inl (kA 1, 36, .inr (.inl (fun _ => 0))))] H := hP
  have hD : va_D A [(h0, .inr (4, [.null, .null, .int 0, .long 0])), (q1, .inl (kA 1, 36, .inr (.inl (fun _ => 0))))] := hD
  refine W.widen (k := 1) (n := 36) (Nat.le_of_ble_eq_true rfl) (Nat.le_of_ble_eq_true rfl) ?_
  refine va_putF (D := (dC, dI)) (ci := 4) (v := .ref q1) (ty := tyX4 0) (C := RX4) (T := TX4) (N := 4) hx hb hts inK_X4 tyX4 tyX4_ok nmX4 hown hK hP hD hS 0 rfl rfl 0 (by decide) (hts _ kw_226) (fun _ h9 => h9) rfl hin rfl (tyX4_ok 0 (by decide)) rfl rfl (Nat.le_of_ble_eq_true rfl) dX4_init_9 (fun H locs hP hD hS => ?_)
  have hP : va_P (dC, dI) vwCl [(h0, .inr (4, [.ref q1, .null, .int 0, .long 0])), (q1, .inl (kA 1, 36, .inr (.inl (fun _ => 0))))] H := hP
  have hD : va_D A [(h0, .inr (4, [.ref q1, .null, .int 0, .long 0])), (q1, .inl (kA 1, 36, .inr (.inl (fun _ => 0))))] := hD
  refine lv_aload_n hx hb dX4_init_12 rfl (lv_at hl 0 rfl) ?_
  refine lv_bipush (v := 12) hx hb dX4_init_13 (by decide) ?_
  refine jn_naz hx hb hts kw_174 hK hP hD hS hA (by decide) (N' := 12) (by decide) (by decide) (Nat.le_of_ble_eq_true rfl) (Nat.le_of_ble_eq_true rfl) dX4_init_15 (fun q2 H hP hD hS => ?_)
  have hP : va_P (dC, dI) vwCl [(h0, .inr (4, [.ref q1, .null, .int 0, .long 0])), (q1, .inl (kA 1, 36, .inr (.inl (fun _ => 0)))), (q2, .inl (kA 2, 12, .inl (fun _ => 0)))] H := hP
  have hD : va_D A [(h0, .inr (4, [.ref q1, .null, .int 0, .long 0])), (q1, .inl (kA 1, 36, .inr (.inl (fun _ => 0)))), (q2, .inl (kA 2, 12, .inl (fun _ => 0)))] := hD
  refine W.widen (k := 2) (n := 48) (Nat.le_of_ble_eq_true rfl) (Nat.le_of_ble_eq_true rfl) ?_
  refine va_putF (D := (dC, dI)) (ci := 4) (v := .ref q2) (ty := tyX4 1) (C := RX4) (T := TX4) (N := 4) hx hb hts inK_X4 tyX4 tyX4_ok nmX4 hown hK hP hD hS 0 rfl rfl 1 (by decide) (hts _ kw_227) (fun _ h9 => h9) rfl hin rfl (tyX4_ok 1 (by decide)) rfl rfl (Nat.le_of_ble_eq_true rfl) dX4_init_17 (fun H locs hP hD hS => ?_)
  have hP : va_P (dC, dI) vwCl [(h0, .inr (4, [.ref q1, .ref q2, .int 0, .long 0])), (q1, .inl (kA 1, 36, .inr (.inl (fun _ => 0)))), (q2, .inl (kA 2, 12, .inl (fun _ => 0)))] H := hP
  have hD : va_D A [(h0, .inr (4, [.ref q1, .ref q2, .int 0, .long 0])), (q1, .inl (kA 1, 36, .inr (.inl (fun _ => 0)))), (q2, .inl (kA 2, 12, .inl (fun _ => 0)))] := hD
  exact W.vret hx hb hr (fun t ht _ => ⟨⟨fun k => ([q1, q2] : List Nat).getD k 0, rfl, trivial, by rw [ht]; exact hP, hD⟩, hS.F ht⟩) hS.2.2 dX4_init_20 hlocks)

def rm_nX5 : Room := { frames := 2, cells := 22, slots := 371, locals := 32 }
set_option maxHeartbeats 4000000 in
set_option maxRecDepth 100000 in
theorem n_X5 (l : Launch) {dC : Nat → ClassId} {dI : Nat → Nat → Nat} {kA : Nat → ClassId} (h0 sz : Nat) : jm_n l (dC, dI) kA yX5_init cX5_init 2 rm_nX5 [.ref h0] sz [(h0, .inr (5, [.null, .int 0, .int 0]))] (fun q => [(h0, .inr (5, [.ref (q 0), .int 0, .int 0])), (q 0, .inl (kA 3, 7, .inr (.inr (.inr (.inr (fun j => some (q (1 + 3 * j)))))))), (q 1, .inr (4, [.ref (q 2), .ref (q 3), .int 0, .long 0])), (q 2, .inl (kA 1, 36, .inr (.inl (fun _ => 0)))), (q 3, .inl (kA 2, 12, .inl (fun _ => 0))), (q 4, .inr (4, [.ref (q 5), .ref (q 6), .int 0, .long 0])), (q 5, .inl (kA 1, 36, .inr (.inl (fun _ => 0)))), (q 6, .inl (kA 2, 12, .inl (fun _ => 0))), (q 7, .inr (4, [.ref (q 8), .ref (q 9), .int 0, .long 0])), (q 8, .inl (kA 1, 36, .inr (.inl (fun _ => 0)))), (q 9, .inl (kA 2, 12, .inl (fun _ => 0))), (q 10, .inr (4, [.ref (q 11), .ref (q 12), .int 0, .long 0])), (q 11, .inl (kA 1, 36, .inr (.inl (fun _ => 0)))), (q 12, .inl (kA 2, 12, .inl (fun _ => 0))), (q 13, .inr (4, [.ref (q 14), .ref (q 15), .int 0, .long 0])), (q 14, .inl (kA 1, 36, .inr (.inl (fun _ => 0)))), (q 15, .inl (kA 2, 12, .inl (fun _ => 0))), (q 16, .inr (4, [.ref (q 17), .ref (q 18), .int 0, .long 0])), (q 17, .inl (kA 1, 36, .inr (.inl (fun _ => 0)))), (q 18, .inl (kA 2, 12, .inl (fun _ => 0))), (q 19, .inr (4, [.ref (q 20), .ref (q 21), .int 0, .long 0])), (q 20, .inl (kA 1, 36, .inr (.inl (fun _ => 0)))), (q 21, .inl (kA 2, 12, .inl (fun _ => 0)))]) (fun _ => True) := jm_n_of (by decide) rfl (Nat.le_of_ble_eq_true rfl) (fun p e s m below meth c hx hb hml hown hts hr hlocks hK hN hAO hin hP A hD hA hS ls hl => by
  have hown : s.vm.findClass RX5 = some m.cls := hown
  have hl : lv_has ls 2 [(0, .ref h0)] := hl
  refine lv_aload_n hx hb dX5_init_0 rfl (lv_at hl 0 rfl) ?_
  refine W.objInit hx hb hown (hts _ kw_218) (hts _ kw_73) (hts _ kw_74) rfl (by rw [hml]; exact hl.1) rfl dX5_init_1 (Nat.le_of_ble_eq_true rfl) (Nat.le_of_ble_eq_true rfl) ?_
  refine W.eq (g2 := F0 m 4 ls []) rfl ?_
  refine lv_aload_n hx hb dX5_init_4 rfl (lv_at hl 0 rfl) ?_
  refine lv_bipush (v := 7) hx hb dX5_init_5 (by decide) ?_
  refine jn_naq hx hb hts hown kw_219 hAO hK hP hD hS hA (by decide) (N' := 7) (by decide) (by decide) (Nat.le_of_ble_eq_true rfl) (Nat.le_of_ble_eq_true rfl) dX5_init_7 (fun q1 H hP hD hS => ?_)
  have hP : va_P (dC, dI) vwCl [(h0, .inr (5, [.null, .int 0, .int 0])), (q1, .inl (kA 3, 7, .inr (.inr (.inr (.inr (fun _ => none))))))] H := hP
  have hD : va_D A [(h0, .inr (5, [.null, .int 0, .int 0])), (q1, .inl (kA 3, 7, .inr (.inr (.inr (.inr (fun _ => none))))))] := hD
  refine W.widen (k := 1) (n := 7) (Nat.le_of_ble_eq_true rfl) (Nat.le_of_ble_eq_true rfl) ?_
  refine va_putF (D := (dC, dI)) (ci := 5) (v := .ref q1) (ty := tyX5 0) (C := RX5) (T := TX5) (N := 3) hx hb hts inK_X5 tyX5 tyX5_ok nmX5 hown hK hP hD hS 0 rfl rfl 0 (by decide) (hts _ kw_239) (fun _ h9 => h9) rfl hin rfl (tyX5_ok 0 (by decide)) rfl rfl (Nat.le_of_ble_eq_true rfl) dX5_init_10 (fun H locs hP hD hS => ?_)
  have hP : va_P (dC, dI) vwCl [(h0, .inr (5, [.ref q1, .int 0, .int 0])), (q1, .inl (kA 3, 7, .inr (.inr (.inr (.inr (fun _ => none))))))] H := hP
  have hD : va_D A [(h0, .inr (5, [.ref q1, .int 0, .int 0])), (q1, .inl (kA 3, 7, .inr (.inr (.inr (.inr (fun _ => none))))))] := hD
  refine lv_iconst (v := 0) hx hb dX5_init_13 (by decide) ?_
  refine lv_istore_n (lv' := [(1, .int 0), (0, .ref h0)]) hx hb dX5_init_14 rfl hl (by decide) rfl (fun ls hl => ?_)
  refine lv_iload_n hx hb dX5_init_15 rfl (lv_at hl 0 rfl) ?_
  refine lv_bipush (v := 7) hx hb dX5_init_16 (by decide) ?_
  refine lv_icmp_ge (tgt := 40) hx hb dX5_init_18 (by decide) (fun c0 => absurd c0 (by decide)) (fun _ => ?_)
  refine lv_aload_n hx hb dX5_init_21 rfl (lv_at hl 1 rfl) ?_
  refine va_get (D := (dC, dI)) (ci := 5) (v := .ref q1) (C := RX5) (T := TX5) (N := 3) hx hb hts inK_X5 hown hK hP 0 rfl rfl 0 (by decide) (hts _ kw_239) (fun _ h9 => h9) rfl dX5_init_22 ?_
  refine lv_iload_n hx hb dX5_init_25 rfl (lv_at hl 0 rfl) ?_
  refine va_new (ci := 4) (fs := [.null, .null, .int 0, .long 0]) (C := RX4) (T := TX4) (N := 4) hx hb hts inK_X4 tyX4 tyX4_ok hown (hts _ kw_219) (hts _ kw_221) (hts _ kw_58) hK hP hD hS hA rfl fs_X4 (Nat.le_of_ble_eq_true rfl) (Nat.le_of_ble_eq_true rfl) dX5_init_26 (fun q2 H hP hD hS => ?_)
  have hP : va_P (dC, dI) vwCl [(h0, .inr (5, [.ref q1, .int 0, .int 0])), (q1, .inl (kA 3, 7, .inr (.inr (.inr (.inr (fun _ => none)))))), (q2, .inr (4, [.null, .null, .int 0, .long 0]))] H := hP
  have hD : va_D A [(h0, .inr (5, [.ref q1, .int 0, .int 0])), (q1, .inl (kA 3, 7, .inr (.inr (.inr (.inr (fun _ => none)))))), (q2, .inr (4, [.null, .null, .int 0, .long 0]))] := hD
  refine W.widen (k := 2) (n := 11) (Nat.le_of_ble_eq_true rfl) (Nat.le_of_ble_eq_true rfl) ?_
  refine lv_dup hx hb dX5_init_29 rfl ?_
  refine jn_call (n := 0) (As := []) (rest := [.ref q2, .int 0, .ref q1]) (wr := [(h0, .inr (5, [.ref q1, .int 0, .int 0])), (q1, .inl (kA 3, 7, .inr (.inr (.inr (.inr (fun _ => none))))))]) hx hb hml hown hts hK hN hAO hl.1 (n_X4 l q2 H.size) hP hD hS hA [2] [0, 1] rfl rfl rfl rfl rfl (by decide) kw_224 (Or.inr ⟨_, nw_222⟩) kw_223 kw_58 rfl (by decide +kernel) rfl ⟨(Nat.le_of_ble_eq_true rfl), (Nat.le_of_ble_eq_true rfl)⟩ rfl (Nat.le_of_ble_eq_true rfl) dX5_init_30 ⟨(Nat.le_of_ble_eq_true rfl), (Nat.le_of_ble_eq_true rfl)⟩ (fun u3 H locs _ hP hD hS => ?_)
  have hP : va_P (dC, dI) vwCl [(h0, .inr (5, [.ref q1, .int 0, .int 0])), (q1, .inl (kA 3, 7, .inr (.inr (.inr (.inr (fun _ => none)))))), (q2, .inr (4, [.ref (u3 0), .ref (u3 1), .int 0, .long 0])), (u3 0, .inl (kA 1, 36, .inr (.inl (fun _ => 0)))), (u3 1, .inl (kA 2, 12, .inl (fun _ => 0)))] H := hP
  have hD : va_D A [(h0, .inr (5, [.ref q1, .int 0, .int 0])), (q1, .inl (kA 3, 7, .inr (.inr (.inr (.inr (fun _ => none)))))), (q2, .inr (4, [.ref (u3 0), .ref (u3 1), .int 0, .long 0])), (u3 0, .inl (kA 1, 36, .inr (.inl (fun _ => 0)))), (u3 1, .inl (kA 2, 12, .inl (fun _ => 0)))] := hD
  refine W.widen (k := 4) (n := 59) (Nat.le_of_ble_eq_true rfl) (Nat.le_of_ble_eq_true rfl) ?_
  refine va_astq hx hb hK hP hD hS 1 3 2 4 rfl rfl rfl rfl (by unfold vp_in; decide) dX5_init_33 (fun H locs hP hD hS => ?_)
  have hP : va_P (dC, dI) vwCl [(h0, .inr (5, [.ref q1, .int 0, .int 0])), (q1, .inl (kA 3, 7, .inr (.inr (.inr (.inr (va_up (fun _ => none) (0 : Int32).toNatClampNeg (some (q2)))))))), (q2, .inr (4, [.ref (u3 0), .ref (u3 1), .int 0, .long 0])), (u3 0, .inl (kA 1, 36, .inr (.inl (fun _ => 0)))), (u3 1, .inl (kA 2, 12, .inl (fun _ => 0)))] H := hP
  have hD : va_D A [(h0, .inr (5, [.ref q1, .int 0, .int 0])), (q1, .inl (kA 3, 7, .inr (.inr (.inr (.inr (va_up (fun _ => none) (0 : Int32).toNatClampNeg (some (q2)))))))), (q2, .inr (4, [.ref (u3 0), .ref (u3 1), .int 0, .long 0])), (u3 0, .inl (kA 1, 36, .inr (.inl (fun _ => 0)))), (u3 1, .inl (kA 2, 12, .inl (fun _ => 0)))] := hD
  refine lv_iinc (v := 1) (lv' := [(1, .int 1), (0, .ref h0)]) hx hb dX5_init_34 hl (k := 0) rfl (by decide) (by decide) rfl (fun ls hl => ?_)
  refine lv_goto (tgt := 15) hx hb dX5_init_37 (by decide) ?_
  refine lv_iload_n hx hb dX5_init_15 rfl (lv_at hl 0 rfl) ?_
  refine lv_bipush (v := 7) hx hb dX5_init_16 (by decide) ?_
  refine lv_icmp_ge (tgt := 40) hx hb dX5_init_18 (by decide) (fun c0 => absurd c0 (by decide)) (fun _ => ?_)
  refine lv_aload_n hx hb dX5_init_21 rfl (lv_at hl 1 rfl) ?_
  refine va_get (D := (dC, dI)) (ci := 5) (v := .ref q1) (C := RX5) (T := TX5) (N := 3) hx hb hts inK_X5 hown hK hP 0 rfl rfl 0 (by decide) (hts _ kw_239) (fun _ h9 => h9) rfl dX5_init_22 ?_
  refine lv_iload_n hx hb dX5_init_25 rfl (lv_at hl 0 rfl) ?_
  refine va_new (ci := 4) (fs := [.null, .null, .int 0, .long 0]) (C := RX4) (T := TX4) (N := 4) hx hb hts inK_X4 tyX4 tyX4_ok hown (hts _ kw_219) (hts _ kw_221) (hts _ kw_58) hK hP hD hS hA rfl fs_X4 (Nat.le_of_ble_eq_true rfl) (Nat.le_of_ble_eq_true rfl) dX5_init_26 (fun q4 H hP hD hS => ?_)
  have hP : va_P (dC, dI) vwCl [(h0, .inr (5, [.ref q1, .int 0, .int 0])), (q1, .inl (kA 3, 7, .inr (.inr (.inr (.inr (va_up (fun _ => none) (0 : Int32).toNatClampNeg (some (q2)))))))), (q2, .inr (4, [.ref (u3 0), .ref (u3 1), .int 0, .long 0])), (u3 0, .inl (kA 1, 36, .inr (.inl (fun _ => 0)))), (u3 1, .inl (kA 2, 12, .inl (fun _ => 0))), (q4, .inr (4, [.null, .null, .int 0, .long 0]))] H := hP
  have hD : va_D A [(h0, .inr (5, [.ref q1, .int 0, .int 0])), (q1, .inl (kA 3, 7, .inr (.inr (.inr (.inr (va_up (fun _ => none) (0 : Int32).toNatClampNeg (some (q2)))))))), (q2, .inr (4, [.ref (u3 0), .ref (u3 1), .int 0, .long 0])), (u3 0, .inl (kA 1, 36, .inr (.inl (fun _ => 0)))), (u3 1, .inl (kA 2, 12, .inl (fun _ => 0))), (q4, .inr (4, [.null, .null, .int 0, .long 0]))] := hD
  refine W.widen (k := 5) (n := 63) (Nat.le_of_ble_eq_true rfl) (Nat.le_of_ble_eq_true rfl) ?_
  refine lv_dup hx hb dX5_init_29 rfl ?_
  refine jn_call (n := 0) (As := []) (rest := [.ref q4, .int 1, .ref q1]) (wr := [(h0, .inr (5, [.ref q1, .int 0, .int 0])), (q1, .inl (kA 3, 7, .inr (.inr (.inr (.inr (va_up (fun _ => none) (0 : Int32).toNatClampNeg (some (q2)))))))), (q2, .inr (4, [.ref (u3 0), .ref (u3 1), .int 0, .long 0])), (u3 0, .inl (kA 1, 36, .inr (.inl (fun _ => 0)))), (u3 1, .inl (kA 2, 12, .inl (fun _ => 0)))]) hx hb hml hown hts hK hN hAO hl.1 (n_X4 l q4 H.size) hP hD hS hA [5] [0, 1, 2, 3, 4] rfl rfl rfl rfl rfl (by decide) kw_224 (Or.inr ⟨_, nw_222⟩) kw_223 kw_58 rfl (by decide +kernel) rfl ⟨(Nat.le_of_ble_eq_true rfl), (Nat.le_of_ble_eq_true rfl)⟩ rfl (Nat.le_of_ble_eq_true rfl) dX5_init_30 ⟨(Nat.le_of_ble_eq_true rfl), (Nat.le_of_ble_eq_true rfl)⟩ (fun u5 H locs _ hP hD hS => ?_)
  have hP : va_P (dC, dI) vwCl [(h0, .inr (5, [.ref q1, .int 0, .int 0])), (q1, .inl (kA 3, 7, .inr (.inr (.inr (.inr (va_up (fun _ => none) (0 : Int32).toNatClampNeg (some (q2)))))))), (q2, .inr (4, [.ref (u3 0), .ref (u3 1), .int 0, .long 0])), (u3 0, .inl (kA 1, 36, .inr (.inl (fun _ => 0)))), (u3 1, .inl (kA 2, 12, .inl (fun _ => 0))), (q4, .inr (4, [.ref (u5 0), .ref (u5 1), .int 0, .long 0])), (u5 0, .inl (kA 1, 36, .inr (.inl (fun _ => 0)))), (u5 1, .inl (kA 2, 12, .inl (fun _ => 0)))] H := hP
  have hD : va_D A [(h0, .inr (5, [.ref q1, .int 0, .int 0])), (q1, .inl (kA 3, 7, .inr (.inr (.inr (.inr (va_up (fun _ => none) (0 : Int32).toNatClampNeg (some (q2)))))))), (q2, .inr (4, [.ref (u3 0), .ref (u3 1), .int 0, .long 0])), (u3 0, .inl (kA 1, 36, .inr (.inl (fun _ => 0)))), (u3 1, .inl (kA 2, 12, .inl (fun _ => 0))), (q4, .inr (4, [.ref (u5 0), .ref (u5 1), .int 0, .long 0])), (u5 0, .inl (kA 1, 36, .inr (.inl (fun _ => 0)))), (u5 1, .inl (kA 2, 12, .inl (fun _ => 0)))] := hD
  refine W.widen (k := 7) (n := 111) (Nat.le_of_ble_eq_true rfl) (Nat.le_of_ble_eq_true rfl) ?_
  refine va_astq hx hb hK hP hD hS 1 3 5 4 rfl rfl rfl rfl (by unfold vp_in; decide) dX5_init_33 (fun H locs hP hD hS => ?_)
  have hP : va_P (dC, dI) vwCl [(h0, .inr (5, [.ref q1, .int 0, .int 0])), (q1, .inl (kA 3, 7, .inr (.inr (.inr (.inr (va_up (va_up (fun _ => none) (0 : Int32).toNatClampNeg (some (q2))) (1 : Int32).toNatClampNeg (some (q4)))))))), (q2, .inr (4, [.ref (u3 0), .ref (u3 1), .int 0, .long 0])), (u3 0, .inl (kA 1, 36, .inr (.inl (fun _ => 0)))), (u3 1, .inl (kA 2, 12, .inl (fun _ => 0))), (q4, .inr (4, [.ref (u5 0), .ref (u5 1), .int 0, .long 0])), (u5 0, .inl (kA 1, 36, .inr (.inl (fun _ => 0)))), (u5 1, .inl (kA 2, 12, .inl (fun _ => 0)))] H := hP
  have hD : va_D A [(h0, .inr (5, [.ref q1, .int 0, .int 0])), (q1, .inl (kA 3, 7, .inr (.inr (.inr (.inr (va_up (va_up (fun _ => none) (0 : Int32).toNatClampNeg (some (q2))) (1 : Int32).toNatClampNeg (some (q4)))))))), (q2, .inr (4, [.ref (u3 0), .ref (u3 1), .int 0, .long 0])), (u3 0, .inl (kA 1, 36, .inr (.inl (fun _ => 0)))), (u3 1, .inl (kA 2, 12, .inl (fun _ => 0))), (q4, .inr (4, [.ref (u5 0), .ref (u5 1), .int 0, .long 0])), (u5 0, .inl (kA 1, 36, .inr (.inl (fun _ => 0)))), (u5 1, .inl (kA 2, 12, .inl (fun _ => 0)))] := hD
  refine lv_iinc (v := 2) (lv' := [(1, .int 2), (0, .ref h0)]) hx hb dX5_init_34 hl (k := 0) rfl (by decide) (by decide) rfl (fun ls hl => ?_)
  refine lv_goto (tgt := 15) hx hb dX5_init_37 (by decide) ?_
  refine lv_iload_n hx hb dX5_init_15 rfl (lv_at hl 0 rfl) ?_
  refine lv_bipush (v := 7) hx hb dX5_init_16 (by decide) ?_
  refine lv_icmp_ge (tgt := 40) hx hb dX5_init_18 (by decide) (fun c0 => absurd c0 (by decide)) (fun _ => ?_)
  refine lv_aload_n hx hb dX5_init_21 rfl (lv_at hl 1 rfl) ?_
  refine va_get (D := (dC, dI)) (ci := 5) (v := .ref q1) (C := RX5) (T := TX5) (N := 3) hx hb hts inK_X5 hown hK hP 0 rfl rfl 0 (by decide) (hts _ kw_239) (fun _ h9 => h9) rfl dX5_init_22 ?_
  refine lv_iload_n hx hb dX5_init_25 rfl (lv_at hl 0 rfl) ?_
  refine va_new (ci := 4) (fs := [.null, .null, .int 0, .long 0]) (C := RX4) (T := TX4) (N := 4) hx hb hts inK_X4 tyX4 tyX4_ok hown (hts _ kw_219) (hts _ kw_221) (hts _ kw_58) hK hP hD hS hA rfl fs_X4 (Nat.le_of_ble_eq_true rfl) (Nat.le_of_ble_eq_true rfl) dX5_init_26 (fun q6 H hP hD hS => ?_)
  have hP : va_P (dC, dI) vwCl [(h0, .inr (5, [.ref q1, .int 0, .int 0])), (q1, .inl (kA 3, 7, .inr (.inr (.inr (.inr (va_up (va_up (fun _ => none) (0 : Int32).toNatClampNeg (some (q2))) (1 : Int32).toNatClampNeg (some (q4)))))))), (q2, .inr (4, [.ref (u3 0), .ref (u3 1), .int 0, .long 0])), (u3 0, .inl (kA 1, 36, .inr (.inl (fun _ => 0)))), (u3 1, .inl (kA 2, 12, .inl (fun _ => 0))), (q4, .inr (4, [.ref (u5 0), .ref (u5 1), .int 0, .long 0])), (u5 0, .inl (kA 1, 36, .inr (.inl (fun _ => 0)))), (u5 1, .inl (kA 2, 12, .inl (fun _ => 0))), (q6, .inr (4, [.null, .null, .int 0, .long 0]))] H := hP
  have hD : va_D A [(h0, .inr (5, [.ref q1, .int 0, .int 0])), (q1, .inl (kA 3, 7, .inr (.inr (.inr (.inr (va_up (va_up (fun _ => none) (0 : Int32).toNatClampNeg (some (q2))) (1 : Int32).toNatClampNeg (some (q4)))))))), (q2, .inr (4, [.ref (u3 0), .ref (u3 1), .int 0, .long 0])), (u3 0, .inl (kA 1, 36, .inr (.inl (fun _ => 0)))), (u3 1, .inl (kA 2, 12, .inl (fun _ => 0))), (q4, .inr (4, [.ref (u5 0), .ref (u5 1), .int 0, .long 0])), (u5 0, .inl (kA 1, 36, .inr (.inl (fun _ => 0)))), (u5 1, .inl (kA 2, 12, .inl (fun _ => 0))), (q6, .inr (4, [.null, .null, .int 0, .long 0]))] := hD
  refine W.widen (k := 8) (n := 115) (Nat.le_of_ble_eq_true rfl) (Nat.le_of_ble_eq_true rfl) ?_
  refine lv_dup hx hb dX5_init_29 rfl ?_
  refine jn_call (n := 0) (As := []) (rest := [.ref q6, .int 2, .ref q1]) (wr := [(h0, .inr (5, [.ref q1, .int 0, .int 0])), (q1, .inl (kA 3, 7, .inr (.inr (.inr (.inr (va_up (va_up (fun _ => none) (0 : Int32).toNatClampNeg (some (q2))) (1 : Int32).toNatClampNeg (some (q4)))))))), (q2, .inr (4, [.ref (u3 0), .ref (u3 1), .int 0, .long 0])), (u3 0, .inl (kA 1, 36, .inr (.inl (fun _ => 0)))), (u3 1, .inl (kA 2, 12, .inl (fun _ => 0))), (q4, .inr (4, [.ref (u5 0), .ref (u5 1), .int 0, .long 0])), (u5 0, .inl (kA 1, 36, .inr (.inl (fun _ => 0)))), (u5 1, .inl (kA 2, 12, .inl (fun _ => 0)))]) hx hb hml hown hts hK hN hAO hl.1 (n_X4 l q6 H.size) hP hD hS hA [8] [0, 1, 2, 3, 4, 5, 6, 7] rfl rfl rfl rfl rfl (by decide) kw_224 (Or.inr ⟨_, nw_222⟩) kw_223 kw_58 rfl (by decide +kernel) rfl ⟨(Nat.le_of_ble_eq_true rfl), (Nat.le_of_ble_eq_true rfl)⟩ rfl (Nat.le_of_ble_eq_true rfl) dX5_init_30 ⟨(Nat.le_of_ble_eq_true rfl), (Nat.le_of_ble_eq_true rfl)⟩ (fun u7 H locs _ hP hD hS => ?_)
  have hP : va_P (dC, dI) vwCl [(h0, .inr (5, [.ref q1, .int 0, .int 0])), (q1, .inl (kA 3, 7, .inr (.inr (.inr (.inr (va_up (va_up (fun _ => none) (0 : Int32).toNatClampNeg (some (q2))) (1 : Int32).toNatClampNeg (some (q4)))))))), (q2, .inr (4, [.ref (u3 0), .ref (u3 1), .int 0, .long 0])), (u3 0, .inl (kA 1, 36, .inr (.inl (fun _ => 0)))), (u3 1, .inl (kA 2, 12, .inl (fun _ => 0))), (q4, .inr (4, [.ref (u5 0), .ref (u5 1), .int 0, .long 0])), (u5 0, .inl (kA 1, 36, .inr (.inl (fun _ => 0)))), (u5 1, .inl (kA 2, 12, .inl (fun _ => 0))), (q6, .inr (4, [.ref (u7 0), .ref (u7 1), .int 0, .long 0])), (u7 0, .inl (kA 1, 36, .inr (.inl (fun _ => 0)))), (u7 1, .inl (kA 2, 12, .inl (fun _ => 0)))] H := hP
  have hD : va_D A [(h0, .inr (5, [.ref q1, .int 0, .int 0])), (q1, .inl (kA 3, 7, .inr (.inr (.inr (.inr (va_up (va_up (fun _ => none) (0 : Int32).toNatClampNeg (some (q2))) (1 : Int32).toNatClampNeg (some (q4)))))))), (q2, .inr (4, [.ref (u3 0), .ref (u3 1), .int 0, .long 0])), (u3 0, .inl (kA 1, 36, .inr (.inl (fun _ => 0)))), (u3 1, .inl (kA 2, 12, .inl (fun _ => 0))), (q4, .inr (4, [.ref (u5 0), .ref (u5 1), .int 0, .long 0])), (u5 0, .inl (kA 1, 36, .inr (.inl (fun _ => 0)))), (u5 1, .inl (kA 2, 12, .inl (fun _ => 0))), (q6, .inr (4, [.ref (u7 0), .ref (u7 1), .int 0, .long 0])), (u7 0, .inl (kA 1, 36, .inr (.inl (fun _ => 0)))), (u7 1, .inl (kA 2, 12, .inl (fun _ => 0)))] := hD
  refine W.widen (k := 10) (n := 163) (Nat.le_of_ble_eq_true rfl) (Nat.le_of_ble_eq_true rfl) ?_
  refine va_astq hx hb hK hP hD hS 1 3 8 4 rfl rfl rfl rfl (by unfold vp_in; decide) dX5_init_33 (fun H locs hP hD hS => ?_)
  have hP : va_P (dC, dI) vwCl [(h0, .inr (5, [.ref q1, .int 0, .int 0])), (q1, .inl (kA 3, 7, .inr (.inr (.inr (.inr (va_up (va_up (va_up (fun _ => none) (0 : Int32).toNatClampNeg (some (q2))) (1 : Int32).toNatClampNeg (some (q4))) (2 : Int32).toNatClampNeg (some (q6)))))))), (q2, .inr (4, [.ref (u3 0), .ref (u3 1), .int 0, .long 0])), (u3 0, .inl (kA 1, 36, .inr (.inl (fun _ => 0)))), (u3 1, .inl (kA 2, 12, .inl (fun _ => 0))), (q4, .inr (4, [.ref (u5 0), .ref (u5 1), .int 0, .long 0])), (u5 0, .inl (kA 1, 36, .inr (.inl (fun _ => 0)))), (u5 1, .inl (kA 2, 12, .inl (fun _ => 0))), (q6, .inr (4, [.ref (u7 0), .ref (u7 1), .int 0, .long 0])), (u7 0, .inl (kA 1, 36, .inr (.inl (fun _ => 0)))), (u7 1, .inl (kA 2, 12, .inl (fun _ => 0)))] H := hP
  have hD : va_D A [(h0, .inr (5, [.ref q1, .int 0, .int 0])), (q1, .inl (kA 3, 7, .inr (.inr (.inr (.inr (va_up (va_up (va_up (fun _ => none) (0 : Int32).toNatClampNeg (some (q2))) (1 : Int32).toNatClampNeg (some (q4))) (2 : Int32).toNatClampNeg (some (q6)))))))), (q2, .inr (4, [.ref (u3 0), .ref (u3 1), .int 0, .long 0])), (u3 0, .inl (kA 1, 36, .inr (.inl (fun _ => 0)))), (u3 1, .inl (kA 2, 12, .inl (fun _ => 0))), (q4, .inr (4, [.ref (u5 0), .ref (u5 1), .int 0, .long 0])), (u5 0, .inl (kA 1, 36, .inr (.inl (fun _ => 0)))), (u5 1, .inl (kA 2, 12, .inl (fun _ => 0))), (q6, .inr (4, [.ref (u7 0), .ref (u7 1), .int 0, .long 0])), (u7 0, .inl (kA 1, 36, .inr (.inl (fun _ => 0)))), (u7 1, .inl (kA 2, 12, .inl (fun _ => 0)))] := hD
  refine lv_iinc (v := 3) (lv' := [(1, .int 3), (0, .ref h0)]) hx hb dX5_init_34 hl (k := 0) rfl (by decide) (by decide) rfl (fun ls hl => ?_)
  refine lv_goto (tgt := 15) hx hb dX5_init_37 (by decide) ?_
  refine lv_iload_n hx hb dX5_init_15 rfl (lv_at hl 0 rfl) ?_
  refine lv_bipush (v := 7) hx hb dX5_init_16 (by decide) ?_
  refine lv_icmp_ge (tgt := 40) hx hb dX5_init_18 (by decide) (fun c0 => absurd c0 (by decide)) (fun _ => ?_)
  refine lv_aload_n hx hb dX5_init_21 rfl (lv_at hl 1 rfl) ?_
  refine va_get (D := (dC, dI)) (ci := 5) (v := .ref q1) (C := RX5) (T := TX5) (N := 3) hx hb hts inK_X5 hown hK hP 0 rfl rfl 0 (by decide) (hts _ kw_239) (fun _ h9 => h9) rfl dX5_init_22 ?_
  refine lv_iload_n hx hb dX5_init_25 rfl (lv_at hl 0 rfl) ?_
  refine va_new (ci := 4) (fs := [.null, .null, .int 0, .long 0]) (C := RX4) (T := TX4) (N := 4) hx hb hts inK_X4 tyX4 tyX4_ok hown (hts _ kw_219) (hts _ kw_221) (hts _ kw_58) hK hP hD hS hA rfl fs_X4 (Nat.le_of_ble_eq_true rfl) (Nat.le_of_ble_eq_true rfl) dX5_init_26 (fun q8 H hP hD hS => ?_)
  have hP : va_P (dC, dI) vwCl [(h0, .inr (5, [.ref q1, .int 0, .int 0])), (q1, .inl (kA 3, 7, .inr (.inr (.inr (.inr (va_up (va_up (va_up (fun _ => none) (0 : Int32).toNatClampNeg (some (q2))) (1 : Int32).toNatClampNeg (some (q4))) (2 : Int32).toNatClampNeg (some (q6)))))))), (q2, .inr (4, [.ref (u3 0), .ref (u3 1), .int 0, .long 0])), (u3 0, .inl (kA 1, 36, .inr (.inl (fun _ => 0)))), (u3 1, .inl (kA 2, 12, .inl (fun _ => 0))), (q4, .inr (4, [.ref (u5 0), .ref (u5 1), .int 0, .long 0])), (u5 0, .inl (kA 1, 36, .inr (.inl (fun _ => 0)))), (u5 1, .inl (kA 2, 12, .inl (fun _ => 0))), (q6, .inr (4, [.ref (u7 0), .ref (u7 1), .int 0, .long 0])), (u7 0, .inl (kA 1, 36, .inr (.inl (fun _ => 0)))), (u7 1, .inl (kA 2, 12, .inl (fun _ => 0))), (q8, .inr (4, [.null, .null, .int 0, .long 0]))] H := hP
  have hD : va_D A [(h0, .inr (5, [.ref q1, .int 0, .int 0])), (q1, .inl (kA 3, 7, .inr (.inr (.inr (.inr (va_up (va_up (va_up (fun _ => none) (0 : Int32).toNatClampNeg (some (q2))) (1 : Int32).toNatClampNeg (some (q4))) (2 : Int32).toNatClampNeg (some (q6)))))))), (q2, .inr (4, [.ref (u3 0), .ref (u3 1), .int 0, .long 0])), (u3 0, .inl (kA 1, 36, .inr (.inl (fun _ => 0)))), (u3 1, .inl (kA 2, 12, .inl (fun _ => 0))), (q4, .inr (4, [.ref (u5 0), .ref (u5 1), .int 0, .long 0])), (u5 0, .inl (kA 1, 36, .inr (.inl (fun _ => 0)))), (u5 1, .inl (kA 2, 12, .inl (fun _ => 0))), (q6, .inr (4, [.ref (u7 0), .ref (u7 1), .int 0, .long 0])), (u7 0, .inl (kA 1, 36, .inr (.inl (fun _ => 0)))), (u7 1, .inl (kA 2, 12, .inl (fun _ => 0))), (q8, .inr (4, [.null, .null, .int 0, .long 0]))] := hD
  refine W.widen (k := 11) (n := 167) (Nat.le_of_ble_eq_true rfl) (Nat.le_of_ble_eq_true rfl) ?_
  refine lv_dup hx hb dX5_init_29 rfl ?_
  refine jn_call (n := 0) (As := []) (rest := [.ref q8, .int 3, .ref q1]) (wr := [(h0, .inr (5, [.ref q1, .int 0, .int 0])), (q1, .inl (kA 3, 7, .inr (.inr (.inr (.inr (va_up (va_up (va_up (fun _ => none) (0 : Int32).toNatClampNeg (some (q2))) (1 : Int32).toNatClampNeg (some (q4))) (2 : Int32).toNatClampNeg (some (q6)))))))), (q2, .inr (4, [.ref (u3 0), .ref (u3 1), .int 0, .long 0])), (u3 0, .inl (kA 1, 36, .inr (.inl (fun _ => 0)))), (u3 1, .inl (kA 2, 12, .inl (fun _ => 0))), (q4, .inr (4, [.ref (u5 0), .ref (u5 1), .int 0, .long 0])), (u5 0, .inl (kA 1, 36, .inr (.inl (fun _ => 0)))), (u5 1, .inl (kA 2, 12, .inl (fun _ => 0))), (q6, .inr (4, [.ref (u7 0), .ref (u7 1), .int 0, .long 0])), (u7 0, .inl (kA 1, 36, .inr (.inl (fun _ => 0)))), (u7 1, .inl (kA 2, 12, .inl (fun _ => 0)))]) hx hb hml hown hts hK hN hAO hl.1 (n_X4 l q8 H.size) hP hD hS hA [11] [0, 1, 2, 3, 4, 5, 6, 7, 8, 9, 10] rfl rfl rfl rfl rfl (by decide) kw_224 (Or.inr ⟨_, nw_222⟩) kw_223 kw_58 rfl (by decide +kernel) rfl ⟨(Nat.le_of_ble_eq_true rfl), (Nat.le_of_ble_eq_true rfl)⟩ rfl (Nat.le_of_ble_eq_true rfl) dX5_init_30 ⟨(Nat.le_of_ble_eq_true rfl), (Nat.le_of_ble_eq_true rfl)⟩ (fun u9 H locs _ hP hD hS => ?_)
  have hP : va_P (dC, dI) vwCl [(h0, .inr (5, [.ref q1, .int 0, .int 0])), (q1, .inl (kA 3, 7, .inr (.inr (.inr (.inr (va_up (va_up (va_up (fun _ => none) (0 : Int32).toNatClampNeg (some (q2))) (1 : Int32).toNatClampNeg (some (q4))) (2 : Int32).toNatClampNeg (some (q6)))))))), (q2, .inr (4, [.ref (u3 0), .ref (u3 1), .int 0, .long 0])), (u3 0, .inl (kA 1, 36, .inr (.inl (fun _ => 0)))), (u3 1, .inl (kA 2, 12, .inl (fun _ => 0))), (q4, .inr (4, [.ref (u5 0), .ref (u5 1), .int 0, .long 0])), (u5 0, .inl (kA 1, 36, .inr (.inl (fun _ => 0)))), (u5 1, .inl (kA 2, 12, .inl (fun _ => 0))), (q6, .inr (4, [.ref (u7 0), .ref (u7 1), .int 0, .long 0])), (u7 0, .inl (kA 1, 36, .inr (.inl (fun _ => 0)))), (u7 1, .inl (kA 2, 12, .inl (fun _ => 0))), (q8, .inr (4, [.ref (u9 0), .ref (u9 1), .int 0, .long 0])), (u9 0, .inl (kA 1, 36, .inr (.inl (fun _ => 0)))), (u9 1, .inl (kA 2, 12, .inl (fun _ => 0)))] H := hP
  have hD : va_D A [(h0, .inr (5, [.ref q1, .int 0, .int 0])), (q1, .inl (kA 3, 7, .inr (.inr (.inr (.inr (va_up (va_up (va_up (fun _ => none) (0 : Int32).toNatClampNeg (some (q2))) (1 : Int32).toNatClampNeg (some (q4))) (2 : Int32).toNatClampNeg (some (q6)))))))), (q2, .inr (4, [.ref (u3 0), .ref (u3 1), .int 0, .long 0])), (u3 0, .inl (kA 1, 36, .inr (.inl (fun _ => 0)))), (u3 1, .inl (kA 2, 12, .inl (fun _ => 0))), (q4, .inr (4, [.ref (u5 0), .ref (u5 1), .int 0, .long 0])), (u5 0, .inl (kA 1, 36, .inr (.inl (fun _ => 0)))), (u5 1, .inl (kA 2, 12, .inl (fun _ => 0))), (q6, .inr (4, [.ref (u7 0), .ref (u7 1), .int 0, .long 0])), (u7 0, .inl (kA 1, 36, .inr (.inl (fun _ => 0)))), (u7 1, .inl (kA 2, 12, .inl (fun _ => 0))), (q8, .inr (4, [.ref (u9 0), .ref (u9 1), .int 0, .long 0])), (u9 0, .inl (kA 1, 36, .inr (.inl (fun _ => 0)))), (u9 1, .inl (kA 2, 12, .inl (fun _ => 0)))] := hD
  refine W.widen (k := 13) (n := 215) (Nat.le_of_ble_eq_true rfl) (Nat.le_of_ble_eq_true rfl) ?_
  refine va_astq hx hb hK hP hD hS 1 3 11 4 rfl rfl rfl rfl (by unfold vp_in; decide) dX5_init_33 (fun H locs hP hD hS => ?_)
  have hP : va_P (dC, dI) vwCl [(h0, .inr (5, [.ref q1, .int 0, .int 0])), (q1, .inl (kA 3, 7, .inr (.inr (.inr (.inr (va_up (va_up (va_up (va_up (fun _ => none) (0 : Int32).toNatClampNeg (some (q2))) (1 : Int32).toNatClampNeg (some (q4))) (2 : Int32).toNatClampNeg (some (q6))) (3 : Int32).toNatClampNeg (some (q8)))))))), (q2, .inr (4, [.ref (u3 0), .ref (u3 1), .int 0, .long 0])), (u3 0, .inl (kA 1, 36, .inr (.inl (fun _ => 0)))), (u3 1, .inl (kA 2, 12, .inl (fun _ => 0))), (q4, .inr (4, [.ref (u5 0), .ref (u5 1), .int 0, .long 0])), (u5 0, .inl (kA 1, 36, .inr (.inl (fun _ => 0)))), (u5 1, .inl (kA 2, 12, .inl (fun _ => 0))), (q6, .inr (4, [.ref (u7 0), .ref (u7 1), .int 0, .long 0])), (u7 0, .inl (kA 1, 36, .inr (.inl (fun _ => 0)))), (u7 1, .inl (kA 2, 12, .inl (fun _ => 0))), (q8, .inr (4, [.ref (u9 0), .ref (u9 1), .int 0, .long 0])), (u9 0, .inl (kA 1, 36, .inr (.inl (fun _ => 0)))), (u9 1, .inl (kA 2, 12, .inl (fun _ => 0)))] H := hP
  have hD : va_D A [(h0, .inr (5, [.ref q1, .int 0, .int 0])), (q1, .inl (kA 3, 7, .inr (.inr (.inr (.inr (va_up (va_up (va_up (va_up (fun _ => none) (0 : Int32).toNatClampNeg (some (q2))) (1 : Int32).toNatClampNeg (some (q4))) (2 : Int32).toNatClampNeg (some (q6))) (3 : Int32).toNatClampNeg (some (q8)))))))), (q2, .inr (4, [.ref (u3 0), .ref (u3 1), .int 0, .long 0])), (u3 0, .inl (kA 1, 36, .inr (.inl (fun _ => 0)))), (u3 1, .inl (kA 2, 12, .inl (fun _ => 0))), (q4, .inr (4, [.ref (u5 0), .ref (u5 1), .int 0, .long 0])), (u5 0, .inl (kA 1, 36, .inr (.inl (fun _ => 0)))), (u5 1, .inl (kA 2, 12, .inl (fun _ => 0))), (q6, .inr (4, [.ref (u7 0), .ref (u7 1), .int 0, .long 0])), (u7 0, .inl (kA 1, 36, .inr (.inl (fun _ => 0)))), (u7 1, .inl (kA 2, 12, .inl (fun _ => 0))), (q8, .inr (4, [.ref (u9 0), .ref (u9 1), .int 0, .long 0])), (u9 0, .inl (kA 1, 36, .inr (.inl (fun _ => 0)))), (u9 1, .inl (kA 2, 12, .inl (fun _ => 0)))] := hD
  refine lv_iinc (v := 4) (lv' := [(1, .int 4), (0, .ref h0)]) hx hb dX5_init_34 hl (k := 0) rfl (by decide) (by decide) rfl (fun ls hl => ?_)
  refine lv_goto (tgt := 15) hx hb dX5_init_37 (by decide) ?_
  refine lv_iload_n hx hb dX5_init_15 rfl (lv_at hl 0 rfl) ?_
  refine lv_bipush (v := 7) hx hb dX5_init_16 (by decide) ?_
  refine lv_icmp_ge (tgt := 40) hx hb dX5_init_18 (by decide) (fun c0 => absurd c0 (by decide)) (fun _ => ?_)
  refine lv_aload_n hx hb dX5_init_21 rfl (lv_at hl 1 rfl) ?_
  refine va_get (D := (dC, dI)) (ci := 5) (v := .ref q1) (C := RX5) (T := TX5) (N := 3) hx hb hts inK_X5 hown hK hP 0 rfl rfl 0 (by decide) (hts _ kw_239) (fun _ h9 => h9) rfl dX5_init_22 ?_
  refine lv_iload_n hx hb dX5_init_25 rfl (lv_at hl 0 rfl) ?_
  refine va_new (ci := 4) (fs := [.null, .null, .int 0, .long 0]) (C := RX4) (T := TX4) (N := 4) hx hb hts inK_X4 tyX4 tyX4_ok hown (hts _ kw_219) (hts _ kw_221) (hts _ kw_58) hK hP hD hS hA rfl fs_X4 (Nat.le_of_ble_eq_true rfl) (Nat.le_of_ble_eq_true rfl) dX5_init_26 (fun q10 H hP hD hS => ?_)
  have hP : va_P (dC, dI) vwCl [(h0, .inr (5, [.ref q1, .int 0, .int 0])), (q1, .inl (kA 3, 7, .inr (.inr (.inr (.inr (va_up (va_up (va_up (va_up (fun _ => none) (0 : Int32).toNatClampNeg (some (q2))) (1 : Int32).toNatClampNeg (some (q4))) (2 : Int32).toNatClampNeg (some (q6))) (3 : Int32).toNatClampNeg (some (q8)))))))), (q2, .inr (4, [.ref (u3 0), .ref (u3 1), .int 0, .long 0])), (u3 0, .inl (kA 1, 36, .inr (.inl (fun _ => 0)))), (u3 1, .inl (kA 2, 12, .inl (fun _ => 0))), (q4, .inr (4, [.ref (u5 0), .ref (u5 1), .int 0, .long 0])), (u5 0, .inl (kA 1, 36, .inr (.inl (fun _ => 0)))), (u5 1, .inl (kA 2, 12, .inl (fun _ => 0))), (q6, .inr (4, [.ref (u7 0), .ref (u7 1), .int 0, .long 0])), (u7 0, .inl (kA 1, 36, .inr (.inl (fun _ => 0)))), (u7 1, .inl (kA 2, 12, .inl (fun _ => 0))), (q8, .inr (4, [.ref (u9 0), .ref (u9 1), .int 0, .long 0])), (u9 0, .inl (kA 1, 36, .inr (.inl (fun _ => 0)))), (u9 1, .inl (kA 2, 12, .inl (fun _ => 0))), (q10, .inr (4, [.null, .null, .int 0, .long 0]))] H := hP
  have hD : va_D A [(h0, .inr (5, [.ref q1, .int 0, .int 0])), (q1, .inl (kA 3, 7, .inr (.inr (.inr (.inr (va_up (va_up (va_up (va_up (fun _ => none) (0 : Int32).toNatClampNeg (some (q2))) (1 : Int32).toNatClampNeg (some (q4))) (2 : Int32).toNatClampNeg (some (q6))) (3 : Int32).toNatClampNeg (some (q8)))))))), (q2, .inr (4, [.ref (u3 0), .ref (u3 1), .int 0, .long 0])), (u3 0, .inl (kA 1, 36, .inr (.inl (fun _ => 0)))), (u3 1, .inl (kA 2, 12, .inl (fun _ => 0))), (q4, .inr (4, [.ref (u5 0), .ref (u5 1), .int 0, .long 0])), (u5 0, .inl (kA 1, 36, .inr (.inl (fun _ => 0)))), (u5 1, .inl (kA 2, 12, .inl (fun _ => 0))), (q6, .inr (4, [.ref (u7 0), .ref (u7 1), .int 0, .long 0])), (u7 0, .inl (kA 1, 36, .inr (.inl (fun _ => 0)))), (u7 1, .inl (kA 2, 12, .inl (fun _ => 0))), (q8, .inr (4, [.ref (u9 0), .ref (u9 1), .int 0, .long 0])), (u9 0, .inl (kA 1, 36, .inr (.inl (fun _ => 0)))), (u9 1, .inl (kA 2, 12, .inl (fun _ => 0))), (q10, .inr (4, [.null, .null, .int 0, .long 0]))] := hD
  refine W.widen (k := 14) (n := 219) (Nat.le_of_ble_eq_true rfl) (Nat.le_of_ble_eq_true rfl) ?_
  refine lv_dup hx hb dX5_init_29 rfl ?_
  refine jn_call (n := 0) (As := []) (rest := [.ref q10, .int 4, .ref q1]) (wr := [(h0, .inr (5, [.ref q1, .int 0, .int 0])), (q1, .inl (kA 3, 7, .inr (.inr (.inr (.inr (va_up (va_up (va_up (va_up (fun _ => none) (0 : Int32).toNatClampNeg (some (q2))) (1 : Int32).toNatClampNeg (some (q4))) (2 : Int32).toNatClampNeg (some (q6))) (3 : Int32).toNatClampNeg (some (q8)))))))), (q2, .inr (4, [.ref (u3 0), .ref (u3 1), .int 0, .long 0])), (u3 0, .inl (kA 1, 36, .inr (.inl (fun _ => 0)))), (u3 1, .inl (kA 2, 12, .inl (fun _ => 0))), (q4, .inr (4, [.ref (u5 0), .ref (u5 1), .int 0, .long 0])), (u5 0, .inl (kA 1, 36, .inr (.inl (fun _ => 0)))), (u5 1, .inl (kA 2, 12, .inl (fun _ => 0))), (q6, .inr (4, [.ref (u7 0), .ref (u7 1), .int 0, .long 0])), (u7 0, .inl (kA 1, 36, .inr (.inl (fun _ => 0)))), (u7 1, .inl (kA 2, 12, .inl (fun _ => 0))), (q8, .inr (4, [.ref (u9 0), .ref (u9 1), .int 0, .long 0])), (u9 0, .inl (kA 1, 36, .inr (.inl (fun _ => 0)))), (u9 1, .inl (kA 2, 12, .inl (fun _ => 0)))]) hx hb hml hown hts hK hN hAO hl.1 (n_X4 l q10 H.size) hP hD hS hA [14] [0, 1, 2, 3, 4, 5, 6, 7, 8, 9, 10, 11, 12, 13] rfl rfl rfl rfl rfl (by decide) kw_224 (Or.inr ⟨_, nw_222⟩) kw_223 kw_58 rfl (by decide +kernel) rfl ⟨(Nat.le_of_ble_eq_true rfl), (Nat.le_of_ble_eq_true rfl)⟩ rfl (Nat.le_of_ble_eq_true rfl) dX5_init_30 ⟨(Nat.le_of_ble_eq_true rfl), (Nat.le_of_ble_eq_true rfl)⟩ (fun u11 H locs _ hP hD hS => ?_)
  have hP : va_P (dC, dI) vwCl [(h0, .inr (5, [.ref q1, .int 0, .int 0])), (q1, .inl (kA 3, 7, .inr (.inr (.inr (.inr (va_up (va_up (va_up (va_up (fun _ => none) (0 : Int32).toNatClampNeg (some (q2))) (1 : Int32).toNatClampNeg (some (q4))) (2 : Int32).toNatClampNeg (some (q6))) (3 : Int32).toNatClampNeg (some (q8)))))))), (q2, .inr (4, [.ref (u3 0), .ref (u3 1), .int 0, .long 0])), (u3 0, .inl (kA 1, 36, .inr (.inl (fun _ => 0)))), (u3 1, .inl (kA 2, 12, .inl (fun _ => 0))), (q4, .inr (4, [.ref (u5 0), .ref (u5 1), .int 0, .long 0])), (u5 0, .inl (kA 1, 36, .inr (.inl (fun _ => 0)))), (u5 1, .inl (kA 2, 12, .inl (fun _ => 0))), (q6, .inr (4, [.ref (u7 0), .ref (u7 1), .int 0, .long 0])), (u7 0, .inl (kA 1, 36, .inr (.inl (fun _ => 0)))), (u7 1, .inl (kA 2, 12, .inl (fun _ => 0))), (q8, .inr (4, [.ref (u9 0), .ref (u9 1), .int 0, .long 0])), (u9 0, .inl (kA 1, 36, .inr (.inl (fun _ => 0)))), (u9 1, .inl (kA 2, 12, .inl (fun _ => 0))), (q10, .inr (4, [.ref (u11 0), .ref (u11 1), .int 0, .long 0])), (u11 0, .inl (kA 1, 36, .inr (.inl (fun _ => 0)))), (u11 1, .inl (kA 2, 12, .inl (fun _ => 0)))] H := hP
  have hD : va_D A [(h0, .inr (5, [.ref q1, .int 0, .int 0])), (q1, .inl (kA 3, 7, .inr (.inr (.inr (.inr (va_up (va_up (va_up (va_up (fun _ => none) (0 : Int32).toNatClampNeg (some (q2))) (1 : Int32).toNatClampNeg (some (q4))) (2 : Int32).toNatClampNeg (some (q6))) (3 : Int32).toNatClampNeg (some (q8)))))))), (q2, .inr (4, [.ref (u3 0), .ref (u3 1), .int 0, .long 0])), (u3 0, .inl (kA 1, 36, .inr (.inl (fun _ => 0)))), (u3 1, .inl (kA 2, 12, .inl (fun _ => 0))), (q4, .inr (4, [.ref (u5 0), .ref (u5 1), .int 0, .long 0])), (u5 0, .inl (kA 1, 36, .inr (.inl (fun _ => 0)))), (u5 1, .inl (kA 2, 12, .inl (fun _ => 0))), (q6, .inr (4, [.ref (u7 0), .ref (u7 1), .int 0, .long 0])), (u7 0, .inl (kA 1, 36, .inr (.inl (fun _ => 0)))), (u7 1, .inl (kA 2, 12, .inl (fun _ => 0))), (q8, .inr (4, [.ref (u9 0), .ref (u9 1), .int 0, .long 0])), (u9 0, .inl (kA 1, 36, .inr (.inl (fun _ => 0)))), (u9 1, .inl (kA 2, 12, .inl (fun _ => 0))), (q10, .inr (4, [.ref (u11 0), .ref (u11 1), .int 0, .long 0])), (u11 0, .inl (kA 1, 36, .inr (.inl (fun _ => 0)))), (u11 1, .inl (kA 2, 12, .inl (fun _ => 0)))] := hD
  refine W.widen (k := 16) (n := 267) (Nat.le_of_ble_eq_true rfl) (Nat.le_of_ble_eq_true rfl) ?_
  refine va_astq hx hb hK hP hD hS 1 3 14 4 rfl rfl rfl rfl (by unfold vp_in; decide) dX5_init_33 (fun H locs hP hD hS => ?_)
  have hP : va_P (dC, dI) vwCl [(h0, .inr (5, [.ref q1, .int 0, .int 0])), (q1, .inl (kA 3, 7, .inr (.inr (.inr (.inr (va_up (va_up (va_up (va_up (va_up (fun _ => none) (0 : Int32).toNatClampNeg (some (q2))) (1 : Int32).toNatClampNeg (some (q4))) (2 : Int32).toNatClampNeg (some (q6))) (3 : Int32).toNatClampNeg (some (q8))) (4 : Int32).toNatClampNeg (some (q10)))))))), (q2, .inr (4, [.ref (u3 0), .ref (u3 1), .int 0, .long 0])), (u3 0, .inl (kA 1, 36, .inr (.inl (fun _ => 0)))), (u3 1, .inl (kA 2, 12, .inl (fun _ => 0))), (q4, .inr (4, [.ref (u5 0), .ref (u5 1), .int 0, .long 0])), (u5 0, .inl (kA 1, 36, .inr (.inl (fun _ => 0)))), (u5 1, .inl (kA 2, 12, .inl (fun _ => 0))), (q6, .inr (4, [.ref (u7 0), .ref (u7 1), .int 0, .long 0])), (u7 0, .inl (kA 1, 36, .inr (.inl (fun _ => 0)))), (u7 1, .inl (kA 2, 12, .inl (fun _ => 0))), (q8, .inr (4, [.ref (u9 0), .ref (u9 1), .int 0, .long 0])), (u9 0, .inl (kA 1, 36, .inr (.inl (fun _ => 0)))), (u9 1, .inl (kA 2, 12, .inl (fun _ => 0))), (q10, .inr (4, [.ref (u11 0), .ref (u11 1), .int 0, .long 0])), (u11 0, .inl (kA 1, 36, .inr (.inl (fun _ => 0)))), (u11 1, .inl (kA 2, 12, .inl (fun _ => 0)))] H := hP
  have hD : va_D A [(h0, .inr (5, [.ref q1, .int 0, .int 0])), (q1, .inl (kA 3, 7, .inr (.inr (.inr (.inr (va_up (va_up (va_up (va_up (va_up (fun _ => none) (0 : Int32).toNatClampNeg (some (q2))) (1 : Int32).toNatClampNeg (some (q4))) (2 : Int32).toNatClampNeg (some (q6))) (3 : Int32).toNatClampNeg (some (q8))) (4 : Int32).toNatClampNeg (some (q10)))))))), (q2, .inr (4, [.ref (u3 0), .ref (u3 1), .int 0, .long 0])), (u3 0, .inl (kA 1, 36, .inr (.inl (fun _ => 0)))), (u3 1, .inl (kA 2, 12, .inl (fun _ => 0))), (q4, .inr (4, [.ref (u5 0), .ref (u5 1), .int 0, .long 0])), (u5 0, .inl (kA 1, 36, .inr (.inl (fun _ => 0)))), (u5 1, .inl (kA 2, 12, .inl (fun _ => 0))), (q6, .inr (4, [.ref (u7 0), .ref (u7 1), .int 0, .long 0])), (u7 0, .inl (kA 1, 36, .inr (.inl (fun _ => 0)))), (u7 1, .inl (kA 2, 12, .inl (fun _ => 0))), (q8, .inr (4, [.ref (u9 0), .ref (u9 1), .int 0, .long 0])), (u9 0, .inl (kA 1, 36, .inr (.inl (fun _ => 0)))), (u9 1, .inl (kA 2, 12, .inl (fun _ => 0))), (q10, .inr (4, [.ref (u11 0), .ref (u11 1), .int 0, .long 0])), (u11 0, .inl (kA 1, 36, .inr (.inl (fun _ => 0)))), (u11 1, .inl (kA 2, 12, .inl (fun _ => 0)))] := hD
  refine lv_iinc (v := 5) (lv' := [(1, .int 5), (0, .ref h0)]) hx hb dX5_init_34 hl (k := 0) rfl (by decide) (by decide) rfl (fun ls hl => ?_)
  refine lv_goto (tgt := 15) hx hb dX5_init_37 (by decide) ?_
  refine lv_iload_n hx hb dX5_init_15 rfl (lv_at hl 0 rfl) ?_
  refine lv_bipush (v := 7) hx hb dX5_init_16 (by decide) ?_
  refine lv_icmp_ge (tgt := 40) hx hb dX5_init_18 (by decide) (fun c0 => absurd c0 (by decide)) (fun _ => ?_)
  refine lv_aload_n hx hb dX5_init_21 rfl (lv_at hl 1 rfl) ?_
  refine va_get (D := (dC, dI)) (ci := 5) (v := .ref q1) (C := RX5) (T := TX5) (N := 3) hx hb hts inK_X5 hown hK hP 0 rfl rfl 0 (by decide) (hts _ kw_239) (fun _ h9 => h9) rfl dX5_init_22 ?_
  refine lv_iload_n hx hb dX5_init_25 rfl (lv_at hl 0 rfl) ?_
  refine va_new (ci := 4) (fs := [.null, .null, .int 0, .long 0]) (C := RX4) (T := TX4) (N := 4) hx hb hts inK_X4 tyX4 tyX4_ok hown (hts _ kw_219) (hts _ kw_221) (hts _ kw_58) hK hP hD hS hA rfl fs_X4 (Nat.le_of_ble_eq_true rfl) (Nat.le_of_ble_eq_true rfl) dX5_init_26 (fun q12 H hP hD hS => ?_)
  have hP : va_P (dC, dI) vwCl [(h0, .inr (5, [.ref q1, .int 0, .int 0])), (q1, .inl (kA 3, 7, .inr (.inr (.inr (.inr (va_up (va_up (va_up (va_up (va_up (fun _ => none) (0 : Int32).toNatClampNeg (some (q2))) (1 : Int32).toNatClampNeg (some (q4))) (2 : Int32).toNatClampNeg (some (q6))) (3 : Int32).toNatClampNeg (some (q8))) (4 : Int32).toNatClampNeg (some (q10)))))))), (q2, .inr (4, [.ref (u3 0), .ref (u3 1), .int 0, .long 0])), (u3 0, .inl (kA 1, 36, .inr (.inl (fun _ => 0)))), (u3 1, .inl (kA 2, 12, .inl (fun _ => 0))), (q4, .inr (4, [.ref (u5 0), .ref (u5 1), .int 0, .long 0])), (u5 0, .inl (kA 1, 36, .inr (.inl (fun _ => 0)))), (u5 1, .inl (kA 2, 12, .inl (fun _ => 0))), (q6, .inr (4, [.ref (u7 0), .ref (u7 1), .int 0, .long 0])), (u7 0, .inl (kA 1, 36, .inr (.inl (fun _ => 0)))), (u7 1, .inl (kA 2, 12, .inl (fun _ => 0))), (q8, .inr (4, [.ref (u9 0), .ref (u9 1), .int 0, .long 0])), (u9 0, .inl (kA 1, 36, .inr (.inl (fun _ => 0)))), (u9 1, .inl (kA 2, 12, .inl (fun _ => 0))), (q10, .inr (4, [.ref (u11 0), .ref (u11 1), .int 0, .long 0])), (u11 0, .inl (kA 1, 36, .inr (.inl (fun _ => 0)))), (u11 1, .inl (kA 2, 12, .inl (fun _ => 0))), (q12, .inr (4, [.null, .null, .int 0, .long 0]))] H := hP
  have hD : va_D A [(h0, .inr (5, [.ref q1, .int 0, .int 0])), (q1, .inl (kA 3, 7, .inr (.inr (.inr (.inr (va_up (va_up (va_up (va_up (va_up (fun _ => none) (0 : Int32).toNatClampNeg (some (q2))) (1 : Int32).toNatClampNeg (some (q4))) (2 : Int32).toNatClampNeg (some (q6))) (3 : Int32).toNatClampNeg (some (q8))) (4 : Int32).toNatClampNeg (some (q10)))))))), (q2, .inr (4, [.ref (u3 0), .ref (u3 1), .int 0, .long 0])), (u3 0, .inl (kA 1, 36, .inr (.inl (fun _ => 0)))), (u3 1, .inl (kA 2, 12, .inl (fun _ => 0))), (q4, .inr (4, [.ref (u5 0), .ref (u5 1), .int 0, .long 0])), (u5 0, .inl (kA 1, 36, .inr (.inl (fun _ => 0)))), (u5 1, .inl (kA 2, 12, .inl (fun _ => 0))), (q6, .inr (4, [.ref (u7 0), .ref (u7 1), .int 0, .long 0])), (u7 0, .inl (kA 1, 36, .inr (.inl (fun _ => 0)))), (u7 1, .inl (kA 2, 12, .inl (fun _ => 0))), (q8, .inr (4, [.ref (u9 0), .ref (u9 1), .int 0, .long 0])), (u9 0, .inl (kA 1, 36, .inr (.inl (fun _ => 0)))), (u9 1, .inl (kA 2, 12, .inl (fun _ => 0))), (q10, .inr (4, [.ref (u11 0), .ref (u11 1), .int 0, .long 0])), (u11 0, .inl (kA 1, 36, .inr (.inl (fun _ => 0)))), (u11 1, .inl (kA 2, 12, .inl (fun _ => 0))), (q12, .inr (4, [.null, .null, .int 0, .long 0]))] := hD
  refine W.widen (k := 17) (n := 271) (Nat.le_of_ble_eq_true rfl) (Nat.le_of_ble_eq_true rfl) ?_
  refine lv_dup hx hb dX5_init_29 rfl ?_
  refine jn_call (n := 0) (As := []) (rest := [.ref q12, .int 5, .ref q1]) (wr := [(h0, .inr (5, [.ref q1, .int 0, .int 0])), (q1, .inl (kA 3, 7, .inr (.inr (.inr (.inr (va_up (va_up (va_up (va_up (va_up (fun _ => none) (0 : Int32).toNatClampNeg (some (q2))) (1 : Int32).toNatClampNeg (some (q4))) (2 : Int32).toNatClampNeg (some (q6))) (3 : Int32).toNatClampNeg (some (q8))) (4 : Int32).toNatClampNeg (some (q10)))))))), (q2, .inr (4, [.ref (u3 0), .ref (u3 1), .int 0, .long 0])), (u3 0, .inl (kA 1, 36, .inr (.inl (fun _ => 0)))), (u3 1, .inl (kA 2, 12, .inl (fun _ => 0))), (q4, .inr (4, [.ref (u5 0), .ref (u5 1), .int 0, .long 0])), (u5 0, .inl (kA 1, 36, .inr (.inl (fun _ => 0)))), (u5 1, .inl (kA 2, 12, .inl (fun _ => 0))), (q6, .inr (4, [.ref (u7 0), .ref (u7 1), .int 0, .long 0])), (u7 0, .inl (kA 1, 36, .inr (.inl (fun _ => 0)))), (u7 1, .inl (kA 2, 12, .inl (fun _ => 0))), (q8, .inr (4, [.ref (u9 0), .ref (u9 1), .int 0, .long 0])), (u9 0, .inl (kA 1, 36, .inr (.inl (fun _ => 0)))), (u9 1, .inl (kA 2, 12, .inl (fun _ => 0))), (q10, .inr (4, [.ref (u11 0), .ref (u11 1), .int 0, .long 0])), (u11 0, .inl (kA 1, 36, .inr (.inl (fun _ => 0)))), (u11 1, .inl (kA 2, 12, .inl (fun _ => 0)))]) hx hb hml hown hts hK hN hAO hl.1 (n_X4 l q12 H.size) hP hD hS hA [17] [0, 1, 2, 3, 4, 5, 6, 7, 8, 9, 10, 11, 12, 13, 14, 15, 16] rfl rfl rfl rfl rfl (by decide) kw_224 (Or.inr ⟨_, nw_222⟩) kw_223 kw_58 rfl (by decide +kernel) rfl ⟨(Nat.le_of_ble_eq_true rfl), (Nat.le_of_ble_eq_true rfl)⟩ rfl (Nat.le_of_ble_eq_true rfl) dX5_init_30 ⟨(Nat.le_of_ble_eq_true rfl), (Nat.le_of_ble_eq_true rfl)⟩ (fun u13 H locs _ hP hD hS => ?_)
  have hP : va_P (dC, dI) vwCl [(h0, .inr (5, [.ref q1, .int 0, .int 0])), (q1, .inl (kA 3, 7, .inr (.inr (.inr (.inr (va_up (va_up (va_up (va_up (va_up (fun _ => none) (0 : Int32).toNatClampNeg (some (q2))) (1 : Int32).toNatClampNeg (some (q4))) (2 : Int32).toNatClampNeg (some (q6))) (3 : Int32).toNatClampNeg (some (q8))) (4 : Int32).toNatClampNeg (some (q10)))))))), (q2, .inr (4, [.ref (u3 0), .ref (u3 1), .int 0, .long 0])), (u3 0, .inl (kA 1, 36, .inr (.inl (fun _ => 0)))), (u3 1, .inl (kA 2, 12, .inl (fun _ => 0))), (q4, .inr (4, [.ref (u5 0), .ref (u5 1), .int 0, .long 0])), (u5 0, .inl (kA 1, 36, .inr (.inl (fun _ => 0)))), (u5 1, .inl (kA 2, 12, .inl (fun _ => 0))), (q6, .inr (4, [.ref (u7 0), .ref (u7 1), .int 0, .long 0])), (u7 0, .inl (kA 1, 36, .inr (.inl (fun _ => 0)))), (u7 1, .inl (kA 2, 12, .inl (fun _ => 0))), (q8, .inr (4, [.ref (u9 0), .ref (u9 1), .int 0, .long 0])), (u9 0, .inl (kA 1, 36, .inr (.inl (fun _ => 0)))), (u9 1, .inl (kA 2, 12, .inl (fun _ => 0))), (q10, .inr (4, [.ref (u11 0), .ref (u11 1), .int 0, .long 0])), (u11 0, .inl (kA 1, 36, .inr (.inl (fun _ => 0)))), (u11 1, .inl (kA 2, 12, .inl (fun _ => 0))), (q12, .inr (4, [.ref (u13 0), .ref (u13 1), .int 0, .long 0])), (u13 0, .inl (kA 1, 36, .inr (.inl (fun _ => 0)))), (u13 1, .inl (kA 2, 12, .inl (fun _ => 0)))] H := hP
  have hD : va_D A [(h0, .inr (5, [.ref q1, .int 0, .int 0])), (q1, .inl (kA 3, 7, .inr (.inr (.inr (.inr (va_up (va_up (va_up (va_up (va_up (fun _ => none) (0 : Int32).toNatClampNeg (some (q2))) (1 : Int32).toNatClampNeg (some (q4))) (2 : Int32).toNatClampNeg (some (q6))) (3 : Int32).toNatClampNeg (some (q8))) (4 : Int32).toNatClampNeg (some (q10)))))))), (q2, .inr (4, [.ref (u3 0), .ref (u3 1), .int 0, .long 0])), (u3 0, .inl (kA 1, 36, .inr (.inl (fun _ => 0)))), (u3 1, .inl (kA 2, 12, .inl (fun _ => 0))), (q4, .inr (4, [.ref (u5 0), .ref (u5 1), .int 0, .long 0])), (u5 0, .inl (kA 1, 36, .inr (.inl (fun _ => 0)))), (u5 1, .inl (kA 2, 12, .inl (fun _ => 0))), (q6, .inr (4, [.ref (u7 0), .ref (u7 1), .int 0, .long 0])), (u7 0, .inl (kA 1, 36, .inr (.inl (fun _ => 0)))), (u7 1, .inl (kA 2, 12, .inl (fun _ => 0))), (q8, .inr (4, [.ref (u9 0), .ref (u9 1), .int 0, .long 0])), (u9 0, .inl (kA 1, 36, .inr (.inl (fun _ => 0)))), (u9 1, .inl (kA 2, 12, .inl (fun _ => 0))), (q10, .inr (4, [.ref (u11 0), .ref (u11 1), .int 0, .long 0])), (u11 0, .inl (kA 1, 36, .inr (.inl (fun _ => 0)))), (u11 1, .inl (kA 2, 12, .inl (fun _ => 0))), (q12, .inr (4, [.ref (u13 0), .ref (u13 1), .int 0, .long 0])), (u13 0, .inl (kA 1, 36, .inr (.inl (fun _ => 0)))), (u13 1, .inl (kA 2, 12, .inl (fun _ => 0)))] := hD
  refine W.widen (k := 19) (n := 319) (Nat.le_of_ble_eq_true rfl) (Nat.le_of_ble_eq_true rfl) ?_
  refine va_astq hx hb hK hP hD hS 1 3 17 4 rfl rfl rfl rfl (by unfold vp_in; decide) dX5_init_33 (fun H locs hP hD hS => ?_)
  have hP : va_P (dC, dI) vwCl [(h0, .inr (5, [.ref q1, .int 0, .int 0])), (q1, .inl (kA 3, 7, .inr (.inr (.inr (.inr (va_up (va_up (va_up (va_up (va_up (va_up (fun _ => none) (0 : Int32).toNatClampNeg (some (q2))) (1 : Int32).toNatClampNeg (some (q4))) (2 : Int32).toNatClampNeg (some (q6))) (3 : Int32).toNatClampNeg (some (q8))) (4 : Int32).toNatClampNeg (some (q10))) (5 : Int32).toNatClampNeg (some (q12)))))))), (q2, .inr (4, [.ref (u3 0), .ref (u3 1), .int 0, .long 0])), (u3 0, .inl (kA 1, 36, .inr (.inl (fun _ => 0)))), (u3 1, .inl (kA 2, 12, .inl (fun _ => 0))), (q4, .inr (4, [.ref (u5 0), .ref (u5 1), .int 0, .long 0])), (u5 0, .inl (kA 1, 36, .inr (.inl (fun _ => 0)))), (u5 1, .inl (kA 2, 12, .inl (fun _ => 0))), (q6, .inr (4, [.ref (u7 0), .ref (u7 1), .int 0, .long 0])), (u7 0, .inl (kA 1, 36, .inr (.inl (fun _ => 0)))), (u7 1, .inl (kA 2, 12, .inl (fun _ => 0))), (q8, .inr (4, [.ref (u9 0), .ref (u9 1), .int 0, .long 0])), (u9 0, .inl (kA 1, 36, .inr (.inl (fun _ => 0)))), (u9 1, .inl (kA 2, 12, .inl (fun _ => 0))), (q10, .inr (4, [.ref (u11 0), .ref (u11 1), .int 0, .long 0])), (u11 0, .inl (kA 1, 36, .inr (.inl (fun _ => 0)))), (u11 1, .inl (kA 2, 12, .inl (fun _ => 0))), (q12, .inr (4, [.ref (u13 0), .ref (u13 1), .int 0, .long 0])), (u13 0, .inl (kA 1, 36, .inr (.inl (fun _ => 0)))), (u13 1, .inl (kA 2, 12, .inl (fun _ => 0)))] H := hP
  have hD : va_D A [(h0, .inr (5, [.ref q1, .int 0, .int 0])), (q1, .inl (kA 3, 7, .inr (.inr (.inr (.inr (va_up (va_up (va_up (va_up (va_up (va_up (fun _ => none) (0 : Int32).toNatClampNeg (some (q2))) (1 : Int32).toNatClampNeg (some (q4))) (2 : Int32).toNatClampNeg (some (q6))) (3 : Int32).toNatClampNeg (some (q8))) (4 : Int32).toNatClampNeg (some (q10))) (5 : Int32).toNatClampNeg (some (q12)))))))), (q2, .inr (4, [.ref (u3 0), .ref (u3 1), .int 0, .long 0])), (u3 0, .inl (kA 1, 36, .inr (.inl (fun _ => 0)))), (u3 1, .inl (kA 2, 12, .inl (fun _ => 0))), (q4, .inr (4, [.ref (u5 0), .ref (u5 1), .int 0, .long 0])), (u5 0, .inl (kA 1, 36, .inr (.inl (fun _ => 0)))), (u5 1, .inl (kA 2, 12, .inl (fun _ => 0))), (q6, .inr (4, [.ref (u7 0), .ref (u7 1), .int 0, .long 0])), (u7 0, .inl (kA 1, 36, .inr (.inl (fun _ => 0)))), (u7 1, .inl (kA 2, 12, .inl (fun _ => 0))), (q8, .inr (4, [.ref (u9 0), .ref (u9 1), .int 0, .long 0])), (u9 0, .inl (kA 1, 36, .inr (.inl (fun _ => 0)))), (u9 1, .inl (kA 2, 12, .inl (fun _ => 0))), (q10, .inr (4, [.ref (u11 0), .ref (u11 1), .int 0, .long 0])), (u11 0, .inl (kA 1, 36, .inr (.inl (fun _ => 0)))), (u11 1, .inl (kA 2, 12, .inl (fun _ => 0))), (q12, .inr (4, [.ref (u13 0), .ref (u13 1), .int 0, .long 0])), (u13 0, .inl (kA 1, 36, .inr (.inl (fun _ => 0)))), (u13 1, .inl (kA 2, 12, .inl (fun _ => 0)))] := hD
  refine lv_iinc (v := 6) (lv' := [(1, .int 6), (0, .ref h0)]) hx hb dX5_init_34 hl (k := 0) rfl (by decide) (by decide) rfl (fun ls hl => ?_)
  refine lv_goto (tgt := 15) hx hb dX5_init_37 (by decide) ?_
  refine lv_iload_n hx hb dX5_init_15 rfl (lv_at hl 0 rfl) ?_
  refine lv_bipush (v := 7) hx hb dX5_init_16 (by decide) ?_
  refine lv_icmp_ge (tgt := 40) hx hb dX5_init_18 (by decide) (fun c0 => absurd c0 (by decide)) (fun _ => ?_)
  refine lv_aload_n hx hb dX5_init_21 rfl (lv_at hl 1 rfl) ?_
  refine va_get (D := (dC, dI)) (ci := 5) (v := .ref q1) (C := RX5) (T := TX5) (N := 3) hx hb hts inK_X5 hown hK hP 0 rfl rfl 0 (by decide) (hts _ kw_239) (fun _ h9 => h9) rfl dX5_init_22 ?_
  refine lv_iload_n hx hb dX5_init_25 rfl (lv_at hl 0 rfl) ?_
  refine va_new (ci := 4) (fs := [.null, .null, .int 0, .long 0]) (C := RX4) (T := TX4) (N := 4) hx hb hts inK_X4 tyX4 tyX4_ok hown (hts _ kw_219) (hts _ kw_221) (hts _ kw_58) hK hP hD hS hA rfl fs_X4 (Nat.le_of_ble_eq_true rfl) (Nat.le_of_ble_eq_true rfl) dX5_init_26 (fun q14 H hP hD hS => ?_)
  have hP : va_P (dC, dI) vwCl [(h0, .inr (5, [.ref q1, .int 0, .int 0])), (q1, .inl (kA 3, 7, .inr (.inr (.inr (.inr (va_up (va_up (va_up (va_up (va_up (va_up (fun _ => none) (0 : Int32).toNatClampNeg (some (q2))) (1 : Int32).toNatClampNeg (some (q4))) (2 : Int32).toNatClampNeg (some (q6))) (3 : Int32).toNatClampNeg (some (q8))) (4 : Int32).toNatClampNeg (some (q10))) (5 : Int32).toNatClampNeg (some (q12)))))))), (q2, .inr (4, [.ref (u3 0), .ref (u3 1), .int 0, .long 0])), (u3 0, .inl (kA 1, 36, .inr (.inl (fun _ => 0)))), (u3 1, .inl (kA 2, 12, .inl (fun _ => 0))), (q4, .inr (4, [.ref (u5 0), .ref (u5 1), .int 0, .long 0])), (u5 0, .inl (kA 1, 36, .inr (.inl (fun _ => 0)))), (u5 1, .inl (kA 2, 12, .inl (fun _ => 0))), (q6, .inr (4, [.ref (u7 0), .ref (u7 1), .int 0, .long 0])), (u7 0, .inl (kA 1, 36, .inr (.inl (fun _ => 0)))), (u7 1, .inl (kA 2, 12, .inl (fun _ => 0))), (q8, .inr (4, [.ref (u9 0), .ref (u9 1), .int 0, .long 0])), (u9 0, .inl (kA 1, 36, .inr (.inl (fun _ => 0)))), (u9 1, .inl (kA 2, 12, .inl (fun _ => 0))), (q10, .inr (4, [.ref (u11 0), .ref (u11 1), .int 0, .long 0])), (u11 0, .inl (kA 1, 36, .inr (.inl (fun _ => 0)))), (u11 1, .inl (kA 2, 12, .inl (fun _ => 0))), (q12, .inr (4, [.ref (u13 0), .ref (u13 1), .int 0, .long 0])), (u13 0, .inl (kA 1, 36, .inr (.inl (fun _ => 0)))), (u13 1, .inl (kA 2, 12, .inl (fun _ => 0))), (q14, .inr (4, [.null, .null, .int 0, .long 0]))] H := hP
  have hD : va_D A [(h0, .inr (5, [.ref q1, .int 0, .int 0])), (q1, .inl (kA 3, 7, .inr (.inr (.inr (.inr (va_up (va_up (va_up (va_up (va_up (va_up (fun _ => none) (0 : Int32).toNatClampNeg (some (q2))) (1 : Int32).toNatClampNeg (some (q4))) (2 : Int32).toNatClampNeg (some (q6))) (3 : Int32).toNatClampNeg (some (q8))) (4 : Int32).toNatClampNeg (some (q10))) (5 : Int32).toNatClampNeg (some (q12)))))))), (q2, .inr (4, [.ref (u3 0), .ref (u3 1), .int 0, .long 0])), (u3 0, .inl (kA 1, 36, .inr (.inl (fun _ => 0)))), (u3 1, .inl (kA 2, 12, .inl (fun _ => 0))), (q4, .inr (4, [.ref (u5 0), .ref (u5 1), .int 0, .long 0])), (u5 0, .inl (kA 1, 36, .inr (.inl (fun _ => 0)))), (u5 1, .inl (kA 2, 12, .inl (fun _ => 0))), (q6, .inr (4, [.ref (u7 0), .ref (u7 1), .int 0, .long 0])), (u7 0, .inl (kA 1, 36, .inr (.inl (fun _ => 0)))), (u7 1, .inl (kA 2, 12, .inl (fun _ => 0))), (q8, .inr (4, [.ref (u9 0), .ref (u9 1), .int 0, .long 0])), (u9 0, .inl (kA 1, 36, .inr (.inl (fun _ => 0)))), (u9 1, .inl (kA 2, 12, .inl (fun _ => 0))), (q10, .inr (4, [.ref (u11 0), .ref (u11 1), .int 0, .long 0])), (u11 0, .inl (kA 1, 36, .inr (.inl (fun _ => 0)))), (u11 1, .inl (kA 2, 12, .inl (fun _ => 0))), (q12, .inr (4, [.ref (u13 0), .ref (u13 1), .int 0, .long 0])), (u13 0, .inl (kA 1, 36, .inr (.inl (fun _ => 0)))), (u13 1, .inl (kA 2, 12, .inl (fun _ => 0))), (q14, .inr (4, [.null, .null, .int 0, .long 0]))] := hD
  refine W.widen (k := 20) (n := 323) (Nat.le_of_ble_eq_true rfl) (Nat.le_of_ble_eq_true rfl) ?_
  refine lv_dup hx hb dX5_init_29 rfl ?_
  refine jn_call (n := 0) (As := []) (rest := [.ref q14, .int 6, .ref q1]) (wr := [(h0, .inr (5, [.ref q1, .int 0, .int 0])), (q1, .inl (kA 3, 7, .inr (.inr (.inr (.inr (va_up (va_up (va_up (va_up (va_up (va_up (fun _ => none) (0 : Int32).toNatClampNeg (some (q2))) (1 : Int32).toNatClampNeg (some (q4))) (2 : Int32).toNatClampNeg (some (q6))) (3 : Int32).toNatClampNeg (some (q8))) (4 : Int32).toNatClampNeg (some (q10))) (5 : Int32).toNatClampNeg (some (q12)))))))), (q2, .inr (4, [.ref (u3 0), .ref (u3 1), .int 0, .long 0])), (u3 0, .inl (kA 1, 36, .inr (.inl (fun _ => 0)))), (u3 1, .inl (kA 2, 12, .inl (fun _ => 0))), (q4, .inr (4, [.ref (u5 0), .ref (u5 1), .int 0, .long 0])), (u5 0, .inl (kA 1, 36, .inr (.inl (fun _ => 0)))), (u5 1, .inl (kA 2, 12, .inl (fun _ => 0))), (q6, .inr (4, [.ref (u7 0), .ref (u7 1), .int 0, .long 0])), (u7 0, .inl (kA 1, 36, .inr (.inl (fun _ => 0)))), (u7 1, .inl (kA 2, 12, .inl (fun _ => 0))), (q8, .inr (4, [.ref (u9 0), .ref (u9 1), .int 0, .long 0])), (u9 0, .inl (kA 1, 36, .inr (.inl (fun _ => 0)))), (u9 1, .inl (kA 2, 12, .inl (fun _ => 0))), (q10, .inr (4, [.ref (u11 0), .ref (u11 1), .int 0, .long 0])), (u11 0, .inl (kA 1, 36, .inr (.inl (fun _ => 0)))), (u11 1, .inl (kA 2, 12, .inl (fun _ => 0))), (q12, .inr (4, [.ref (u13 0), .ref (u13 1), .int 0, .long 0])), (u13 0, .inl (kA 1, 36, .inr (.inl (fun _ => 0)))), (u13 1, .inl (kA 2, 12, .inl (fun _ => 0)))]) hx hb hml hown hts hK hN hAO hl.1 (n_X4 l q14 H.size) hP hD hS hA [20] [0, 1, 2, 3, 4, 5, 6, 7, 8, 9, 10, 11, 12, 13, 14, 15, 16, 17, 18, 19] rfl rfl rfl rfl rfl (by decide) kw_224 (Or.inr ⟨_, nw_222⟩) kw_223 kw_58 rfl (by decide +kernel) rfl ⟨(Nat.le_of_ble_eq_true rfl), (Nat.le_of_ble_eq_true rfl)⟩ rfl (Nat.le_of_ble_eq_true rfl) dX5_init_30 ⟨(Nat.le_of_ble_eq_true rfl), (Nat.le_of_ble_eq_true rfl)⟩ (fun u15 H locs _ hP hD hS => ?_)
  have hP : va_P (dC, dI) vwCl [(h0, .inr (5, [.ref q1, .int 0, .int 0])), (q1, .inl (kA 3, 7, .inr (.inr (.inr (.inr (va_up (va_up (va_up (va_up (va_up (va_up (fun _ => none) (0 : Int32).toNatClampNeg (some (q2))) (1 : Int32).toNatClampNeg (some (q4))) (2 : Int32).toNatClampNeg (some (q6))) (3 : Int32).toNatClampNeg (some (q8))) (4 : Int32).toNatClampNeg (some (q10))) (5 : Int32).toNatClampNeg (some (q12)))))))), (q2, .inr (4, [.ref (u3 0), .ref (u3 1), .int 0, .long 0])), (u3 0, .inl (kA 1, 36, .inr (.inl (fun _ => 0)))), (u3 1, .inl (kA 2, 12, .inl (fun _ => 0))), (q4, .inr (4, [.ref (u5 0), .ref (u5 1), .int 0, .long 0])), (u5 0, .inl (kA 1, 36, .inr (.inl (fun _ => 0)))), (u5 1, .inl (kA 2, 12, .inl (fun _ => 0))), (q6, .inr (4, [.ref (u7 0), .ref (u7 1), .int 0, .long 0])), (u7 0, .inl (kA 1, 36, .inr (.inl (fun _ => 0)))), (u7 1, .inl (kA 2, 12, .inl (fun _ => 0))), (q8, .inr (4, [.ref (u9 0), .ref (u9 1), .int 0, .long 0])), (u9 0, .inl (kA 1, 36, .inr (.inl (fun _ => 0)))), (u9 1, .inl (kA 2, 12, .inl (fun _ => 0))), (q10, .inr (4, [.ref (u11 0), .ref (u11 1), .int 0, .long 0])), (u11 0, .inl (kA 1, 36, .inr (.inl (fun _ => 0)))), (u11 1, .inl (kA 2, 12, .inl (fun _ => 0))), (q12, .inr (4, [.ref (u13 0), .ref (u13 1), .int 0, .long 0])), (u13 0, .inl (kA 1, 36, .inr (.inl (fun _ => 0)))), (u13 1, .inl (kA 2, 12, .inl (fun _ => 0))), (q14, .inr (4, [.ref (u15 0), .ref (u15 1), .int 0, .long 0])), (u15 0, .inl (kA 1, 36, .inr (.inl (fun _ => 0)))), (u15 1, .inl (kA 2, 12, .inl (fun _ => 0)))] H := hP
  have hD : va_D A [(h0, .inr (5, [.ref q1, .int 0, .int 0])), (q1, .inl (kA 3, 7, .inr (.inr (.inr (.inr (va_up (va_up (va_up (va_up (va_up (va_up (fun _ => none) (0 : Int32).toNatClampNeg (some (q2))) (1 : Int32).toNatClampNeg (some (q4))) (2 : Int32).toNatClampNeg (some (q6))) (3 : Int32).toNatClampNeg (some (q8))) (4 : Int32).toNatClampNeg (some (q10))) (5 : Int32).toNatClampNeg (some (q12)))))))), (q2, .inr (4, [.ref (u3 0), .ref (u3 1), .int 0, .long 0])), (u3 0, .inl (kA 1, 36, .inr (.inl (fun _ => 0)))), (u3 1, .inl (kA 2, 12, .inl (fun _ => 0))), (q4, .inr (4, [.ref (u5 0), .ref (u5 1), .int 0, .long 0])), (u5 0, .inl (kA 1, 36, .inr (.inl (fun _ => 0)))), (u5 1, .inl (kA 2, 12, .inl (fun _ => 0))), (q6, .inr (4, [.ref (u7 0), .ref (u7 1), .int 0, .long 0])), (u7 0, .inl (kA 1, 36, .inr (.inl (fun _ => 0)))), (u7 1, .inl (kA 2, 12, .inl (fun _ => 0))), (q8, .inr (4, [.ref (u9 0), .ref (u9 1), .int 0, .long 0])), (u9 0, .inl (kA 1, 36, .inr (.inl (fun _ => 0)))), (u9 1, .inl (kA 2, 12, .inl (fun _ => 0))), (q10, .inr (4, [.ref (u11 0), .ref (u11 1), .int 0, .long 0])), (u11 0, .inl (kA 1, 36, .inr (.inl (fun _ => 0)))), (u11 1, .inl (kA 2, 12, .inl (fun _ => 0))), (q12, .inr (4, [.ref (u13 0), .ref (u13 1), .int 0, .long 0])), (u13 0, .inl (kA 1, 36, .inr (.inl (fun _ => 0)))), (u13 1, .inl (kA 2, 12, .inl (fun _ => 0))), (q14, .inr (4, [.ref (u15 0), .ref (u15 1), .int 0, .long 0])), (u15 0, .inl (kA 1, 36, .inr (.inl (fun _ => 0)))), (u15 1, .inl (kA 2, 12, .inl (fun _ => 0)))] := hD
  refine W.widen (k := 22) (n := 371) (Nat.le_of_ble_eq_true rfl) (Nat.le_of_ble_eq_true rfl) ?_
  refine va_astq hx hb hK hP hD hS 1 3 20 4 rfl rfl rfl rfl (by unfold vp_in; decide) dX5_init_33 (fun H locs hP hD hS => ?_)
  have hP : va_P (dC, dI) vwCl [(h0, .inr (5, [.ref q1, .int 0, .int 0])), (q1, .inl (kA 3, 7, .inr (.inr (.inr (.inr (va_up (va_up (va_up (va_up (va_up (va_up (va_up (fun _ => none) (0 : Int32).toNatClampNeg (some (q2))) (1 : Int32).toNatClampNeg (some (q4))) (2 : Int32).toNatClampNeg (some (q6))) (3 : Int32).toNatClampNeg (some (q8))) (4 : Int32).toNatClampNeg (some (q10))) (5 : Int32).toNatClampNeg (some (q12))) (6 : Int32).toNatClampNeg (some (q14)))))))), (q2, .inr (4, [.ref (u3 0), .ref (u3 1), .int 0, .long 0])), (u3 0, .inl (kA 1, 36, .inr (.inl (fun _ => 0)))), (u3 1, .inl (kA 2, 12, .inl (fun _ => 0))), (q4, .inr (4, [.ref (u5 0), .ref (u5 1), .int 0, .long 0])), (u5 0, .inl (kA 1, 36, .inr (.inl (fun _ => 0)))), (u5 1, .inl (kA 2, 12, .inl (fun _ => 0))), (q6, .inr (4, [.ref (u7 0), .ref (u7 1), .int 0, .long 0])), (u7 0, .inl (kA 1, 36, .inr (.inl (fun _ => 0)))), (u7 1, .inl (kA 2, 12, .inl (fun _ => 0))), (q8, .inr (4, [.ref (u9 0), .ref (u9 1), .int 0, .long 0])), (u9 0, .inl (kA 1, 36, .inr (.inl (fun _ => 0)))), (u9 1, .inl (kA 2, 12, .inl (fun _ => 0))), (q10, .inr (4, [.ref (u11 0), .ref (u11 1), .int 0, .long 0])), (u11 0, .inl (kA 1, 36, .inr (.inl (fun _ => 0)))), (u11 1, .inl (kA 2, 12, .inl (fun _ => 0))), (q12, .inr (4, [.ref (u13 0), .ref (u13 1), .int 0, .long 0])), (u13 0, .inl (kA 1, 36, .inr (.inl (fun _ => 0)))), (u13 1, .inl (kA 2, 12, .inl (fun _ => 0))), (q14, .inr (4, [.ref (u15 0), .ref (u15 1), .int 0, .long 0])), (u15 0, .inl (kA 1, 36, .inr (.inl (fun _ => 0)))), (u15 1, .inl (kA 2, 12, .inl (fun _ => 0)))] H := hP
  have hD : va_D A [(h0, .inr (5, [.ref q1, .int 0, .int 0])), (q1, .inl (kA 3, 7, .inr (.inr (.inr (.inr (va_up (va_up (va_up (va_up (va_up (va_up (va_up (fun _ => none) (0 : Int32).toNatClampNeg (some (q2))) (1 : Int32).toNatClampNeg (some (q4))) (2 : Int32).toNatClampNeg (some (q6))) (3 : Int32).toNatClampNeg (some (q8))) (4 : Int32).toNatClampNeg (some (q10))) (5 : Int32).toNatClampNeg (some (q12))) (6 : Int32).toNatClampNeg (some (q14)))))))), (q2, .inr (4, [.ref (u3 0), .ref (u3 1), .int 0, .long 0])), (u3 0, .inl (kA 1, 36, .inr (.inl (fun _ => 0)))), (u3 1, .inl (kA 2, 12, .inl (fun _ => 0))), (q4, .inr (4, [.ref (u5 0), .ref (u5 1), .int 0, .long 0])), (u5 0, .inl (kA 1, 36, .inr (.inl (fun _ => 0)))), (u5 1, .inl (kA 2, 12, .inl (fun _ => 0))), (q6, .inr (4, [.ref (u7 0), .ref (u7 1), .int 0, .long 0])), (u7 0, .inl (kA 1, 36, .inr (.inl (fun _ => 0)))), (u7 1, .inl (kA 2, 12, .inl (fun _ => 0))), (q8, .inr (4, [.ref (u9 0), .ref (u9 1), .int 0, .long 0])), (u9 0, .inl (kA 1, 36, .inr (.inl (fun _ => 0)))), (u9 1, .inl (kA 2, 12, .inl (fun _ => 0))), (q10, .inr (4, [.ref (u11 0), .ref (u11 1), .int 0, .long 0])), (u11 0, .inl (kA 1, 36, .inr (.inl (fun _ => 0)))), (u11 1, .inl (kA 2, 12, .inl (fun _ => 0))), (q12, .inr (4, [.ref (u13 0), .ref (u13 1), .int 0, .long 0])), (u13 0, .inl (kA 1, 36, .inr (.inl (fun _ => 0)))), (u13 1, .inl (kA 2, 12, .inl (fun _ => 0))), (q14, .inr (4, [.ref (u15 0), .ref (u15 1), .int 0, .long 0])), (u15 0, .inl (kA 1, 36, .inr (.inl (fun _ => 0)))), (u15 1, .inl (kA 2, 12, .inl (fun _ => 0)))] := hD
  refine lv_iinc (v := 7) (lv' := [(1, .int 7), (0, .ref h0)]) hx hb dX5_init_34 hl (k := 0) rfl (by decide) (by decide) rfl (fun ls hl => ?_)
  refine lv_goto (tgt := 15) hx hb dX5_init_37 (by decide) ?_
  refine lv_iload_n hx hb dX5_init_15 rfl (lv_at hl 0 rfl) ?_
  refine lv_bipush (v := 7) hx hb dX5_init_16 (by decide) ?_
  refine lv_icmp_ge (tgt := 40) hx hb dX5_init_18 (by decide) (fun _ => ?_) (fun c0 => absurd (by decide) c0)
  have hP := P_ref (k := 1) (g := fun j => some ((fun k => ([q1, q2, u3 0, u3 1, q4, u5 0, u5 1, q6, u7 0, u7 1, q8, u9 0, u9 1, q10, u11 0, u11 1, q12, u13 0, u13 1, q14, u15 0, u15 1] : List Nat).getD k 0) (1 + 3 * j))) hP rfl (fun j hj => by rcases (show j = 0 ∨ j = 1 ∨ j = 2 ∨ j = 3 ∨ j = 4 ∨ j = 5 ∨ j = 6 by omega) with rfl | rfl | rfl | rfl | rfl | rfl | rfl <;> rfl)
  have hD := hD.set (p := 1) (e := .inl (kA 3, 7, .inr (.inr (.inr (.inr (fun j => some ((fun k => ([q1, q2, u3 0, u3 1, q4, u5 0, u5 1, q6, u7 0, u7 1, q8, u9 0, u9 1, q10, u11 0, u11 1, q12, u13 0, u13 1, q14, u15 0, u15 1] : List Nat).getD k 0) (1 + 3 * j)))))))) rfl
  exact W.vret hx hb hr (fun t ht _ => ⟨⟨fun k => ([q1, q2, u3 0, u3 1, q4, u5 0, u5 1, q6, u7 0, u7 1, q8, u9 0, u9 1, q10, u11 0, u11 1, q12, u13 0, u13 1, q14, u15 0, u15 1] : List Nat).getD k 0, rfl, trivial, by rw [ht]; exact hP, hD⟩, hS.F ht⟩) hS.2.2 dX5_init_40 hlocks)

def rm_nX9 : Room := { frames := 1, cells := 2, slots := 400, locals := 12 }
set_option maxHeartbeats 4000000 in
set_option maxRecDepth 100000 in
theorem n_X9 (l : Launch) {dC : Nat → ClassId} {dI : Nat → Nat → Nat} {kA : Nat → ClassId} (h0 sz : Nat) : jm_n l (dC, dI) kA yX9_init cX9_init 1 rm_nX9 [.ref h0] sz [(h0, .inr (9, [.null, .null, .int 0]))] (fun q => [(h0, .inr (9, [.ref (q 0), .ref (q 1), .int 0])), (q 0, .inl (kA 0, 200, .inl (fun _ => 0))), (q 1, .inl (kA 1, 200, .inr (.inl (fun _ => 0))))]) (fun _ => True) := jm_n_of (by decide) rfl (Nat.le_of_ble_eq_true rfl) (fun p e s m below meth c hx hb hml hown hts hr hlocks hK hN hAO hin hP A hD hA hS ls hl => by
  have hown : s.vm.findClass RX9 = some m.cls := hown
  have hl : lv_has ls 1 [(0, .ref h0)] := hl
  refine lv_aload_n hx hb dX9_init_0 rfl (lv_at hl 0 rfl) ?_
  refine W.objInit hx hb hown (hts _ kw_255) (hts _ kw_73) (hts _ kw_74) rfl (by rw [hml]; exact hl.1) rfl dX9_init_1 (Nat.le_of_ble_eq_true rfl) (Nat.le_of_ble_eq_true rfl) ?_
  refine W.eq (g2 := F0 m 4 ls []) rfl ?_
  refine lv_aload_n hx hb dX9_init_4 rfl (lv_at hl 0 rfl) ?_
  refine lv_sipush (v := 200) hx hb dX9_init_5 (by decide) ?_
  refine jn_nai hx hb hts kw_106 hK hP hD hS hA (by decide) (N' := 200) (by decide) (by decide) (Nat.le_of_ble_eq_true rfl) (Nat.le_of_ble_eq_true rfl) dX9_init_8 (fun q1 H hP hD hS => ?_)
  have hP : va_P (dC, dI) vwCl [(h0, .inr (9, [.null, .null, .int 0])), (q1, .inl (kA 0, 200, .inl (fun _ => 0)))] H := hP
  have hD : va_D A [(h0, .inr (9, [.null, .null, .int 0])), (q1, .inl (kA 0, 200, .inl (fun _ => 0)))] := hD
  refine W.widen (k := 1) (n := 200) (Nat.le_of_ble_eq_true rfl) (Nat.le_of_ble_eq_true rfl) ?_
  refine va_putF (D := (dC, dI)) (ci := 9) (v := .ref q1) (ty := tyX9 0) (C := RX9) (T := TX9) (N := 3) hx hb hts inK_X9 tyX9 tyX9_ok nmX9 hown hK hP hD hS 0 rfl rfl 0 (by decide) (hts _ kw_256) (fun _ h9 => h9) rfl hin rfl (tyX9_ok 0 (by decide)) rfl rfl (Nat.le_of_ble_eq_true rfl) dX9_init_10 (fun H locs hP hD hS => ?_)
  have hP : va_P (dC, dI) vwCl [(h0, .inr (9, [.ref q1, .null, .int 0])), (q1, .inl (kA 0, 200, .inl (fun _ => 0)))] H := hP
  have hD : va_D A [(h0, .inr (9, [.ref q1, .null, .int 0])), (q1, .inl (kA 0, 200, .inl (fun _ => 0)))] := hD
  refine lv_aload_n hx hb dX9_init_13 rfl (lv_at hl 0 rfl) ?_
  refine lv_sipush (v := 200) hx hb dX9_init_14 (by decide) ?_
  refine jn_nal hx hb hts kw_107 hK hP hD hS hA (by decide) (N' := 200) (by decide) (by decide) (Nat.le_of_ble_eq_true rfl) (Nat.le_of_ble_eq_true rfl) dX9_init_17 (fun q2 H hP hD hS => ?_)
  have hP : va_P (dC, dI) vwCl [(h0, .inr (9, [.ref q1, .null, .int 0])), (q1, .inl (kA 0, 200, .inl (fun _ => 0))), (q2, .inl (kA 1, 200, .inr (.inl (fun _ => 0))))] H := hP
  have hD : va_D A [(h0, .inr (9, [.ref q1, .null, .int 0])), (q1, .inl (kA 0, 200, .inl (fun _ => 0))), (q2, .inl (kA 1, 200, .inr (.inl (fun _ => 0))))] := hD
  refine W.widen (k := 2) (n := 400) (Nat.le_of_ble_eq_true rfl) (Nat.le_of_ble_eq_true rfl) ?_
  refine va_putF (D := (dC, dI)) (ci := 9) (v := .ref q2) (ty := tyX9 1) (C := RX9) (T := TX9) (N := 3) hx hb hts inK_X9 tyX9 tyX9_ok nmX9 hown hK hP hD hS 0 rfl rfl 1 (by decide) (hts _ kw_258) (fun _ h9 => h9) rfl hin rfl (tyX9_ok 1 (by decide)) rfl rfl (Nat.le_of_ble_eq_true rfl) dX9_init_19 (fun H locs hP hD hS => ?_)
  have hP : va_P (dC, dI) vwCl [(h0, .inr (9, [.ref q1, .ref q2, .int 0])), (q1, .inl (kA 0, 200, .inl (fun _ => 0))), (q2, .inl (kA 1, 200, .inr (.inl (fun _ => 0))))] H := hP
  have hD : va_D A [(h0, .inr (9, [.ref q1, .ref q2, .int 0])), (q1, .inl (kA 0, 200, .inl (fun _ => 0))), (q2, .inl (kA 1, 200, .inr (.inl (fun _ => 0))))] := hD
  exact W.vret hx hb hr (fun t ht _ => ⟨⟨fun k => ([q1, q2] : List Nat).getD k 0, rfl, trivial, by rw [ht]; exact hP, hD⟩, hS.F ht⟩) hS.2.2 dX9_init_22 hlocks)

def rm_nX1 : Room := { frames := 1, cells := 0, slots := 0, locals := 12 }
set_option maxHeartbeats 4000000 in
set_option maxRecDepth 100000 in
theorem n_X1 (l : Launch) {dC : Nat → ClassId} {dI : Nat → Nat → Nat} {kA : Nat → ClassId} (h0 a1 a2 sz : Nat) : jm_n l (dC, dI) kA yX1_init cX1_init 3 rm_nX1 [.ref h0, .ref a1, .ref a2] sz [(h0, .inr (1, [.null, .null, .int 0, .int 0, .long 0, .int 0, .int 0]))] (fun q => [(h0, .inr (1, [.ref a1, .ref a2, .int 0, .int 0, .long 0, .int 0, .int 0]))]) (fun _ => True) := jm_n_of (by decide) rfl (Nat.le_of_ble_eq_true rfl) (fun p e s m below meth c hx hb hml hown hts hr hlocks hK hN hAO hin hP A hD hA hS ls hl => by
  have hown : s.vm.findClass RX1 = some m.cls := hown
  have hl : lv_has ls 3 [(0, .ref h0), (1, .ref a1), (2, .ref a2)] := hl
  refine lv_aload_n hx hb dX1_init_0 rfl (lv_at hl 0 rfl) ?_
  refine W.objInit hx hb hown (hts _ kw_274) (hts _ kw_73) (hts _ kw_74) rfl (by rw [hml]; exact hl.1) rfl dX1_init_1 (Nat.le_of_ble_eq_true rfl) (Nat.le_of_ble_eq_true rfl) ?_
  refine W.eq (g2 := F0 m 4 ls []) rfl ?_
  refine lv_aload_n hx hb dX1_init_4 rfl (lv_at hl 0 rfl) ?_
  refine lv_aload_n hx hb dX1_init_5 rfl (lv_at hl 1 rfl) ?_
  refine va_putF (D := (dC, dI)) (ci := 1) (v := .ref a1) (ty := tyX1 0) (C := RX1) (T := TX1) (N := 7) hx hb hts inK_X1 tyX1 tyX1_ok nmX1 hown hK hP hD hS 0 rfl rfl 0 (by decide) (hts _ kw_275) (fun _ h9 => h9) rfl hin rfl (tyX1_ok 0 (by decide)) rfl rfl (Nat.le_of_ble_eq_true rfl) dX1_init_6 (fun H locs hP hD hS => ?_)
  have hP : va_P (dC, dI) vwCl [(h0, .inr (1, [.ref a1, .null, .int 0, .int 0, .long 0, .int 0, .int 0]))] H := hP
  have hD : va_D A [(h0, .inr (1, [.ref a1, .null, .int 0, .int 0, .long 0, .int 0, .int 0]))] := hD
  refine lv_aload_n hx hb dX1_init_9 rfl (lv_at hl 0 rfl) ?_
  refine lv_aload_n hx hb dX1_init_10 rfl (lv_at hl 2 rfl) ?_
  refine va_putF (D := (dC, dI)) (ci := 1) (v := .ref a2) (ty := tyX1 1) (C := RX1) (T := TX1) (N := 7) hx hb hts inK_X1 tyX1 tyX1_ok nmX1 hown hK hP hD hS 0 rfl rfl 1 (by decide) (hts _ kw_276) (fun _ h9 => h9) rfl hin rfl (tyX1_ok 1 (by decide)) rfl rfl (Nat.le_of_ble_eq_true rfl) dX1_init_11 (fun H locs hP hD hS => ?_)
  have hP : va_P (dC, dI) vwCl [(h0, .inr (1, [.ref a1, .ref a2, .int 0, .int 0, .long 0, .int 0, .int 0]))] H := hP
  have hD : va_D A [(h0, .inr (1, [.ref a1, .ref a2, .int 0, .int 0, .long 0, .int 0, .int 0]))] := hD
  exact W.vret hx hb hr (fun t ht _ => ⟨⟨fun k => ([] : List Nat).getD k 0, rfl, trivial, by rw [ht]; exact hP, hD⟩, hS.F ht⟩) hS.2.2 dX1_init_14 hlocks)

def rm_nX0 : Room := { frames := 1, cells := 0, slots := 0, locals := 12 }
set_option maxHeartbeats 4000000 in
set_option maxRecDepth 100000 in
theorem n_X0 (l : Launch) {dC : Nat → ClassId} {dI : Nat → Nat → Nat} {kA : Nat → ClassId} (h0 a1 a2 a3 a4 sz : Nat) : jm_n l (dC, dI) kA yX0_init cX0_init 5 rm_nX0 [.ref h0, .ref a1, .ref a2, .ref a3, .ref a4] sz [(h0, .inr (0, [.null, .null, .null, .null]))] (fun q => [(h0, .inr (0, [.ref a1, .ref a2, .ref a3, .ref a4]))]) (fun _ => True) := jm_n_of (by decide) rfl (Nat.le_of_ble_eq_true rfl) (fun p e s m below meth c hx hb hml hown hts hr hlocks hK hN hAO hin hP A hD hA hS ls hl => by
  have hown : s.vm.findClass RX0 = some m.cls := hown
  have hl : lv_has ls 5 [(0, .ref h0), (1, .ref a1), (2, .ref a2), (3, .ref a3), (4, .ref a4)] := hl
  refine lv_aload_n hx hb dX0_init_0 rfl (lv_at hl 0 rfl) ?_
  refine W.objInit hx hb hown (hts _ kw_305) (hts _ kw_73) (hts _ kw_74) rfl (by rw [hml]; exact hl.1) rfl dX0_init_1 (Nat.le_of_ble_eq_true rfl) (Nat.le_of_ble_eq_true rfl) ?_
  refine W.eq (g2 := F0 m 4 ls []) rfl ?_
  refine lv_aload_n hx hb dX0_init_4 rfl (lv_at hl 0 rfl) ?_
  refine lv_aload_n hx hb dX0_init_5 rfl (lv_at hl 1 rfl) ?_
  refine va_putF (D := (dC, dI)) (ci := 0) (v := .ref a1) (ty := tyX0 0) (C := RX0) (T := TX0) (N := 4) hx hb hts inK_X0 tyX0 tyX0_ok nmX0 hown hK hP hD hS 0 rfl rfl 0 (by decide) (hts _ kw_306) (fun _ h9 => h9) rfl hin rfl (tyX0_ok 0 (by decide)) rfl rfl (Nat.le_of_ble_eq_true rfl) dX0_init_6 (fun H locs hP hD hS => ?_)
  have hP : va_P (dC, dI) vwCl [(h0, .inr (0, [.ref a1, .null, .null, .null]))] H := hP
  have hD : va_D A [(h0, .inr (0, [.ref a1, .null, .null, .null]))] := hD
  refine lv_aload_n hx hb dX0_init_9 rfl (lv_at hl 0 rfl) ?_
  refine lv_aload_n hx hb dX0_init_10 rfl (lv_at hl 2 rfl) ?_
  refine va_putF (D := (dC, dI)) (ci := 0) (v := .ref a2) (ty := tyX0 1) (C := RX0) (T := TX0) (N := 4) hx hb hts inK_X0 tyX0 tyX0_ok nmX0 hown hK hP hD hS 0 rfl rfl 1 (by decide) (hts _ kw_309) (fun _ h9 => h9) rfl hin rfl (tyX0_ok 1 (by decide)) rfl rfl (Nat.le_of_ble_eq_true rfl) dX0_init_11 (fun H locs hP hD hS => ?_)
  have hP : va_P (dC, dI) vwCl [(h0, .inr (0, [.ref a1, .ref a2, .null, .null]))] H := hP
  have hD : va_D A [(h0, .inr (0, [.ref a1, .ref a2, .null, .null]))] := hD
  refine lv_aload_n hx hb dX0_init_14 rfl (lv_at hl 0 rfl) ?_
  refine lv_aload_n hx hb dX0_init_15 rfl (lv_at hl 3 rfl) ?_
  refine va_putF (D := (dC, dI)) (ci := 0) (v := .ref a3) (ty := tyX0 2) (C := RX0) (T := TX0) (N := 4) hx hb hts inK_X0 tyX0 tyX0_ok nmX0 hown hK hP hD hS 0 rfl rfl 2 (by decide) (hts _ kw_311) (fun _ h9 => h9) rfl hin rfl (tyX0_ok 2 (by decide)) rfl rfl (Nat.le_of_ble_eq_true rfl) dX0_init_16 (fun H locs hP hD hS => ?_)
  have hP : va_P (dC, dI) vwCl [(h0, .inr (0, [.ref a1, .ref a2, .ref a3, .null]))] H := hP
  have hD : va_D A [(h0, .inr (0, [.ref a1, .ref a2, .ref a3, .null]))] := hD
  refine lv_aload_n hx hb dX0_init_19 rfl (lv_at hl 0 rfl) ?_
  refine lv_aload hx hb dX0_init_20 (lv_at hl 4 rfl) ?_
  refine va_putF (D := (dC, dI)) (ci := 0) (v := .ref a4) (ty := tyX0 3) (C := RX0) (T := TX0) (N := 4) hx hb hts inK_X0 tyX0 tyX0_ok nmX0 hown hK hP hD hS 0 rfl rfl 3 (by decide) (hts _ kw_314) (fun _ h9 => h9) rfl hin rfl (tyX0_ok 3 (by decide)) rfl rfl (Nat.le_of_ble_eq_true rfl) dX0_init_22 (fun H locs hP hD hS => ?_)
  have hP : va_P (dC, dI) vwCl [(h0, .inr (0, [.ref a1, .ref a2, .ref a3, .ref a4]))] H := hP
  have hD : va_D A [(h0, .inr (0, [.ref a1, .ref a2, .ref a3, .ref a4]))] := hD
  exact W.vret hx hb hr (fun t ht _ => ⟨⟨fun k => ([] : List Nat).getD k 0, rfl, trivial, by rw [ht]; exact hP, hD⟩, hS.F ht⟩) hS.2.2 dX0_init_25 hlocks)

def rm_nX7 : Room := { frames := 1, cells := 6, slots := 180, locals := 12 }
set_option maxHeartbeats 4000000 in
set_option maxRecDepth 100000 in
theorem n_X7 (l : Launch) {dC : Nat → ClassId} {dI : Nat → Nat → Nat} {kA : Nat → ClassId} (h0 a1 a2 a3 b1 b2 b3 b4 sz : Nat) : jm_n l (dC, dI) kA yX7_init cX7_init 4 rm_nX7 [.ref h0, .ref a1, .ref a2, .ref a3] sz [(h0, .inr (7, [.null, .null, .null, .null, .null, .null, .null, .null, .null, .null, .null, .int 0])), (a1, .inr (0, [.ref b1, .ref b2, .ref b3, .ref b4]))] (fun q => [(h0, .inr (7, [.ref b1, .ref a1, .ref b4, .ref a2, .ref a3, .ref (q 0), .ref (q 1), .ref (q 2), .ref (q 3), .ref (q 4), .ref (q 5), .int 0])), (a1, .inr (0, [.ref b1, .ref b2, .ref b3, .ref b4])), (q 0, .inl (kA 0, 40, .inl (fun _ => 0))), (q 1, .inl (kA 2, 40, .inl (fun _ => 0))), (q 2, .inl (kA 1, 40, .inr (.inl (fun _ => 0)))), (q 3, .inl (kA 2, 12, .inl (fun _ => 0))), (q 4, .inl (kA 2, 12, .inl (fun _ => 0))), (q 5, .inl (kA 1, 36, .inr (.inl (fun _ => 0))))]) (fun _ => True) := jm_n_of (by decide) rfl (Nat.le_of_ble_eq_true rfl) (fun p e s m below meth c hx hb hml hown hts hr hlocks hK hN hAO hin hP A hD hA hS ls hl => by
  have hown : s.vm.findClass RX7 = some m.cls := hown
  have hl : lv_has ls 4 [(0, .ref h0), (1, .ref a1), (2, .ref a2), (3, .ref a3)] := hl
  refine lv_aload_n hx hb dX7_init_0 rfl (lv_at hl 0 rfl) ?_
  refine W.objInit hx hb hown (hts _ kw_331) (hts _ kw_73) (hts _ kw_74) rfl (by rw [hml]; exact hl.1) rfl dX7_init_1 (Nat.le_of_ble_eq_true rfl) (Nat.le_of_ble_eq_true rfl) ?_
  refine W.eq (g2 := F0 m 4 ls []) rfl ?_
  refine lv_aload_n hx hb dX7_init_4 rfl (lv_at hl 0 rfl) ?_
  refine lv_bipush (v := 40) hx hb dX7_init_5 (by decide) ?_
  refine jn_nai hx hb hts kw_106 hK hP hD hS hA (by decide) (N' := 40) (by decide) (by decide) (Nat.le_of_ble_eq_true rfl) (Nat.le_of_ble_eq_true rfl) dX7_init_7 (fun q1 H hP hD hS => ?_)
  have hP : va_P (dC, dI) vwCl [(h0, .inr (7, [.null, .null, .null, .null, .null, .null, .null, .null, .null, .null, .null, .int 0])), (a1, .inr (0, [.ref b1, .ref b2, .ref b3, .ref b4])), (q1, .inl (kA 0, 40, .inl (fun _ => 0)))] H := hP
  have hD : va_D A [(h0, .inr (7, [.null, .null, .null, .null, .null, .null, .null, .null, .null, .null, .null, .int 0])), (a1, .inr (0, [.ref b1, .ref b2, .ref b3, .ref b4])), (q1, .inl (kA 0, 40, .inl (fun _ => 0)))] := hD
  refine W.widen (k := 1) (n := 40) (Nat.le_of_ble_eq_true rfl) (Nat.le_of_ble_eq_true rfl) ?_
  refine va_putF (D := (dC, dI)) (ci := 7) (v := .ref q1) (ty := tyX7 5) (C := RX7) (T := TX7) (N := 12) hx hb hts inK_X7 tyX7 tyX7_ok nmX7 hown hK hP hD hS 0 rfl rfl 5 (by decide) (hts _ kw_337) (fun _ h9 => h9) rfl hin rfl (tyX7_ok 5 (by decide)) rfl rfl (Nat.le_of_ble_eq_true rfl) dX7_init_9 (fun H locs hP hD hS => ?_)
  have hP : va_P (dC, dI) vwCl [(h0, .inr (7, [.null, .null, .null, .null, .null, .ref q1, .null, .null, .null, .null, .null, .int 0])), (a1, .inr (0, [.ref b1, .ref b2, .ref b3, .ref b4])), (q1, .inl (kA 0, 40, .inl (fun _ => 0)))] H := hP
  have hD : va_D A [(h0, .inr (7, [.null, .null, .null, .null, .null, .ref q1, .null, .null, .null, .null, .null, .int 0])), (a1, .inr (0, [.ref b1, .ref b2, .ref b3, .ref b4])), (q1, .inl (kA 0, 40, .inl (fun _ => 0)))] := hD
  refine lv_aload_n hx hb dX7_init_12 rfl (lv_at hl 0 rfl) ?_
  refine lv_bipush (v := 40) hx hb dX7_init_13 (by decide) ?_
  refine jn_naz hx hb hts kw_174 hK hP hD hS hA (by decide) (N' := 40) (by decide) (by decide) (Nat.le_of_ble_eq_true rfl) (Nat.le_of_ble_eq_true rfl) dX7_init_15 (fun q2 H hP hD hS => ?_)
  have hP : va_P (dC, dI) vwCl [(h0, .inr (7, [.null, .null, .null, .null, .null, .ref q1, .null, .null, .null, .null, .null, .int 0])), (a1, .inr (0, [.ref b1, .ref b2, .ref b3, .ref b4])), (q1, .inl (kA 0, 40, .inl (fun _ => 0))), (q2, .inl (kA 2, 40, .inl (fun _ => 0)))] H := hP
  have hD : va_D A [(h0, .inr (7, [.null, .null, .null, .null, .null, .ref q1, .null, .null, .null, .null, .null, .int 0])), (a1, .inr (0, [.ref b1, .ref b2, .ref b3, .ref b4])), (q1, .inl (kA 0, 40, .inl (fun _ => 0))), (q2, .inl (kA 2, 40, .inl (fun _ => 0)))] := hD
  refine W.widen (k := 2) (n := 80) (Nat.le_of_ble_eq_true rfl) (Nat.le_of_ble_eq_true rfl) ?_
  refine va_putF (D := (dC, dI)) (ci := 7) (v := .ref q2) (ty := tyX7 6) (C := RX7) (T := TX7) (N := 12) hx hb hts inK_X7 tyX7 tyX7_ok nmX7 hown hK hP hD hS 0 rfl rfl 6 (by decide) (hts _ kw_338) (fun _ h9 => h9) rfl hin rfl (tyX7_ok 6 (by decide)) rfl rfl (Nat.le_of_ble_eq_true rfl) dX7_init_17 (fun H locs hP hD hS => ?_)
  have hP : va_P (dC, dI) vwCl [(h0, .inr (7, [.null, .null, .null, .null, .null, .ref q1, .ref q2, .null, .null, .null, .null, .int 0])), (a1, .inr (0, [.ref b1, .ref b2, .ref b3, .ref b4])), (q1, .inl (kA 0, 40, .inl (fun _ => 0))), (q2, .inl (kA 2, 40, .inl (fun _ => 0)))] H := hP
  have hD : va_D A [(h0, .inr (7, [.null, .null, .null, .null, .null, .ref q1, .ref q2, .null, .null, .null, .null, .int 0])), (a1, .inr (0, [.ref b1, .ref b2, .ref b3, .ref b4])), (q1, .inl (kA 0, 40, .inl (fun _ => 0))), (q2, .inl (kA 2, 40, .inl (fun _ => 0)))] := hD
  refine lv_aload_n hx hb dX7_init_20 rfl (lv_at hl 0 rfl) ?_
  refine lv_bipush (v := 40) hx hb dX7_init_21 (by decide) ?_
  refine jn_nal hx hb hts kw_107 hK hP hD hS hA (by decide) (N' := 40) (by decide) (by decide) (Nat.le_of_ble_eq_true rfl) (Nat.le_of_ble_eq_true rfl) dX7_init_23 (fun q3 H hP hD hS => ?_)
  have hP : va_P (dC, dI) vwCl [(h0, .inr (7, [.null, .null, .null, .null, .null, .ref q1, .ref q2, .null, .null, .null, .null, .int 0])), (a1, .inr (0, [.ref b1, .ref b2, .ref b3, .ref b4])), (q1, .inl (kA 0, 40, .inl (fun _ => 0))), (q2, .inl (kA 2, 40, .inl (fun _ => 0))), (q3, .inl (kA 1, 40, .inr (.inl (fun _ => 0))))] H := hP
  have hD : va_D A [(h0, .inr (7, [.null, .null, .null, .null, .null, .ref q1, .ref q2, .null, .null, .null, .null, .int 0])), (a1, .inr (0, [.ref b1, .ref b2, .ref b3, .ref b4])), (q1, .inl (kA 0, 40, .inl (fun _ => 0))), (q2, .inl (kA 2, 40, .inl (fun _ => 0))), (q3, .inl (kA 1, 40, .inr (.inl (fun _ => 0))))] := hD
  refine W.widen (k := 3) (n := 120) (Nat.le_of_ble_eq_true rfl) (Nat.le_of_ble_eq_true rfl) ?_
  refine va_putF (D := (dC, dI)) (ci := 7) (v := .ref q3) (ty := tyX7 7) (C := RX7) (T := TX7) (N := 12) hx hb hts inK_X7 tyX7 tyX7_ok nmX7 hown hK hP hD hS 0 rfl rfl 7 (by decide) (hts _ kw_339) (fun _ h9 => h9) rfl hin rfl (tyX7_ok 7 (by decide)) rfl rfl (Nat.le_of_ble_eq_true rfl) dX7_init_25 (fun H locs hP hD hS => ?_)
  have hP : va_P (dC, dI) vwCl [(h0, .inr (7, [.null, .null, .null, .null, .null, .ref q1, .ref q2, .ref q3, .null, .null, .null, .int 0])), (a1, .inr (0, [.ref b1, .ref b2, .ref b3, .ref b4])), (q1, .inl (kA 0, 40, .inl (fun _ => 0))), (q2, .inl (kA 2, 40, .inl (fun _ => 0))), (q3, .inl (kA 1, 40, .inr (.inl (fun _ => 0))))] H := hP
  have hD : va_D A [(h0, .inr (7, [.null, .null, .null, .null, .null, .ref q1, .ref q2, .ref q3, .null, .null, .null, .int 0])), (a1, .inr (0, [.ref b1, .ref b2, .ref b3, .ref b4])), (q1, .inl (kA 0, 40, .inl (fun _ => 0))), (q2, .inl (kA 2, 40, .inl (fun _ => 0))), (q3, .inl (kA 1, 40, .inr (.inl (fun _ => 0))))] := hD
  refine lv_aload_n hx hb dX7_init_28 rfl (lv_at hl 0 rfl) ?_
  refine lv_bipush (v := 12) hx hb dX7_init_29 (by decide) ?_
  refine jn_naz hx hb hts kw_174 hK hP hD hS hA (by decide) (N' := 12) (by decide) (by decide) (Nat.le_of_ble_eq_true rfl) (Nat.le_of_ble_eq_true rfl) dX7_init_31 (fun q4 H hP hD hS => ?_)
  have hP : va_P (dC, dI) vwCl [(h0, .inr (7, [.null, .null, .null, .null, .null, .ref q1, .ref q2, .ref q3, .null, .null, .null, .int 0])), (a1, .inr (0, [.ref b1, .ref b2, .ref b3, .ref b4])), (q1, .inl (kA 0, 40, .inl (fun _ => 0))), (q2, .inl (kA 2, 40, .inl (fun _ => 0))), (q3, .inl (kA 1, 40, .inr (.inl (fun _ => 0)))), (q4, .inl (kA 2, 12, .inl (fun _ => 0)))] H := hP
  have hD : va_D A [(h0, .inr (7, [.null, .null, .null, .null, .null, .ref q1, .ref q2, .ref q3, .null, .null, .null, .int 0])), (a1, .inr (0, [.ref b1, .ref b2, .ref b3, .ref b4])), (q1, .inl (kA 0, 40, .inl (fun _ => 0))), (q2, .inl (kA 2, 40, .inl (fun _ => 0))), (q3, .inl (kA 1, 40, .inr (.inl (fun _ => 0)))), (q4, .inl (kA 2, 12, .inl (fun _ => 0)))] := hD
  refine W.widen (k := 4) (n := 132) (Nat.le_of_ble_eq_true rfl) (Nat.le_of_ble_eq_true rfl) ?_
  refine va_putF (D := (dC, dI)) (ci := 7) (v := .ref q4) (ty := tyX7 8) (C := RX7) (T := TX7) (N := 12) hx hb hts inK_X7 tyX7 tyX7_ok nmX7 hown hK hP hD hS 0 rfl rfl 8 (by decide) (hts _ kw_340) (fun _ h9 => h9) rfl hin rfl (tyX7_ok 8 (by decide)) rfl rfl (Nat.le_of_ble_eq_true rfl) dX7_init_33 (fun H locs hP hD hS => ?_)
  have hP : va_P (dC, dI) vwCl [(h0, .inr (7, [.null, .null, .null, .null, .null, .ref q1, .ref q2, .ref q3, .ref q4, .null, .null, .int 0])), (a1, .inr (0, [.ref b1, .ref b2, .ref b3, .ref b4])), (q1, .inl (kA 0, 40, .inl (fun _ => 0))), (q2, .inl (kA 2, 40, .inl (fun _ => 0))), (q3, .inl (kA 1, 40, .inr (.inl (fun _ => 0)))), (q4, .inl (kA 2, 12, .inl (fun _ => 0)))] H := hP
  have hD : va_D A [(h0, .inr (7, [.null, .null, .null, .null, .null, .ref q1, .ref q2, .ref q3, .ref q4, .null, .null, .int 0])), (a1, .inr (0, [.ref b1, .ref b2, .ref b3, .ref b4])), (q1, .inl (kA 0, 40, .inl (fun _ => 0))), (q2, .inl (kA 2, 40, .inl (fun _ => 0))), (q3, .inl (kA 1, 40, .inr (.inl (fun _ => 0)))), (q4, .inl (kA 2, 12, .inl (fun _ => 0)))] := hD
  refine lv_aload_n hx hb dX7_init_36 rfl (lv_at hl 0 rfl) ?_
  refine lv_bipush (v := 12) hx hb dX7_init_37 (by decide) ?_
  refine jn_naz hx hb hts kw_174 hK hP hD hS hA (by decide) (N' := 12) (by decide) (by decide) (Nat.le_of_ble_eq_true rfl) (Nat.le_of_ble_eq_true rfl) dX7_init_39 (fun q5 H hP hD hS => ?_)
  have hP : va_P (dC, dI) vwCl [(h0, .inr (7, [.null, .null, .null, .null, .null, .ref q1, .ref q2, .ref q3, .ref q4, .null, .null, .int 0])), (a1, .inr (0, [.ref b1, .ref b2, .ref b3, .ref b4])), (q1, .inl (kA 0, 40, .inl (fun _ => 0))), (q2, .inl (kA 2, 40, .inl (fun _ => 0))), (q3, .inl (kA 1, 40, .inr (.inl (fun _ => 0)))), (q4, .inl (kA 2, 12, .inl (fun _ => 0))), (q5, .inl (kA 2, 12, .inl (fun _ => 0)))] H := hP
  have hD : va_D A [(h0, .inr (7, [.null, .null, .null, .null, .null, .ref q1, .ref q2, .ref q3, .ref q4, .null, .null, .int 0])), (a1, .inr (0, [.ref b1, .ref b2, .ref b3, .ref b4])), (q1, .inl (kA 0, 40, .inl (fun _ => 0))), (q2, .inl (kA 2, 40, .inl (fun _ => 0))), (q3, .inl (kA 1, 40, .inr (.inl (fun _ => 0)))), (q4, .inl (kA 2, 12, .inl (fun _ => 0))), (q5, .inl (kA 2, 12, .inl (fun _ => 0)))] := hD
  refine W.widen (k := 5) (n := 144) (Nat.le_of_ble_eq_true rfl) (Nat.le_of_ble_eq_true rfl) ?_
  refine va_putF (D := (dC, dI)) (ci := 7) (v := .ref q5) (ty := tyX7 9) (C := RX7) (T := TX7) (N := 12) hx hb hts inK_X7 tyX7 tyX7_ok nmX7 hown hK hP hD hS 0 rfl rfl 9 (by decide) (hts _ kw_341) (fun _ h9 => h9) rfl hin rfl (tyX7_ok 9 (by decide)) rfl rfl (Nat.le_of_ble_eq_true rfl) dX7_init_41 (fun H locs hP hD hS => ?_)
  have hP : va_P (dC, dI) vwCl [(h0, .inr (7, [.null, .null, .null, .null, .null, .ref q1, .ref q2, .ref q3, .ref q4, .ref q5, .null, .int 0])), (a1, .inr (0, [.ref b1, .ref b2, .ref b3, .ref b4])), (q1, .inl (kA 0, 40, .inl (fun _ => 0))), (q2, .inl (kA 2, 40, .inl (fun _ => 0))), (q3, .inl (kA 1, 40, .inr (.inl (fun _ => 0)))), (q4, .inl (kA 2, 12, .inl (fun _ => 0))), (q5, .inl (kA 2, 12, .inl (fun _ => 0)))] H := hP
  have hD : va_D A [(h0, .inr (7, [.null, .null, .null, .null, .null, .ref q1, .ref q2, .ref q3, .ref q4, .ref q5, .null, .int 0])), (a1, .inr (0, [.ref b1, .ref b2, .ref b3, .ref b4])), (q1, .inl (kA 0, 40, .inl (fun _ => 0))), (q2, .inl (kA 2, 40, .inl (fun _ => 0))), (q3, .inl (kA 1, 40, .inr (.inl (fun _ => 0)))), (q4, .inl (kA 2, 12, .inl (fun _ => 0))), (q5, .inl (kA 2, 12, .inl (fun _ => 0)))] := hD
  refine lv_aload_n hx hb dX7_init_44 rfl (lv_at hl 0 rfl) ?_
  refine lv_bipush (v := 36) hx hb dX7_init_45 (by decide) ?_
  refine jn_nal hx hb hts kw_107 hK hP hD hS hA (by decide) (N' := 36) (by decide) (by decide) (Nat.le_of_ble_eq_true rfl) (Nat.le_of_ble_eq_true rfl) dX7_init_47 (fun q6 H hP hD hS => ?_)
  have hP : va_P (dC, dI) vwCl [(h0, .inr (7, [.null, .null, .null, .null, .null, .ref q1, .ref q2, .ref q3, .ref q4, .ref q5, .null, .int 0])), (a1, .inr (0, [.ref b1, .ref b2, .ref b3, .ref b4])), (q1, .inl (kA 0, 40, .inl (fun _ => 0))), (q2, .inl (kA 2, 40, .inl (fun _ => 0))), (q3, .inl (kA 1, 40, .inr (.inl (fun _ => 0)))), (q4, .inl (kA 2, 12, .inl (fun _ => 0))), (q5, .inl (kA 2, 12, .inl (fun _ => 0))), (q6, .inl (kA 1, 36, .inr (.inl (fun _ => 0))))] H := hP
  have hD : va_D A [(h0, .inr (7, [.null, .null, .null, .null, .null, .ref q1, .ref q2, .ref q3, .ref q4, .ref q5, .null, .int 0])), (a1, .inr (0, [.ref b1, .ref b2, .ref b3, .ref b4])), (q1, .inl (kA 0, 40, .inl (fun _ => 0))), (q2, .inl (kA 2, 40, .inl (fun _ => 0))), (q3, .inl (kA 1, 40, .inr (.inl (fun _ => 0)))), (q4, .inl (kA 2, 12, .inl (fun _ => 0))), (q5, .inl (kA 2, 12, .inl (fun _ => 0))), (q6, .inl (kA 1, 36, .inr (.inl (fun _ => 0))))] := hD
  refine W.widen (k := 6) (n := 180) (Nat.le_of_ble_eq_true rfl) (Nat.le_of_ble_eq_true rfl) ?_
  refine va_putF (D := (dC, dI)) (ci := 7) (v := .ref q6) (ty := tyX7 10) (C := RX7) (T := TX7) (N := 12) hx hb hts inK_X7 tyX7 tyX7_ok nmX7 hown hK hP hD hS 0 rfl rfl 10 (by decide) (hts _ kw_342) (fun _ h9 => h9) rfl hin rfl (tyX7_ok 10 (by decide)) rfl rfl (Nat.le_of_ble_eq_true rfl) dX7_init_49 (fun H locs hP hD hS => ?_)
  have hP : va_P (dC, dI) vwCl [(h0, .inr (7, [.null, .null, .null, .null, .null, .ref q1, .ref q2, .ref q3, .ref q4, .ref q5, .ref q6, .int 0])), (a1, .inr (0, [.ref b1, .ref b2, .ref b3, .ref b4])), (q1, .inl (kA 0, 40, .inl (fun _ => 0))), (q2, .inl (kA 2, 40, .inl (fun _ => 0))), (q3, .inl (kA 1, 40, .inr (.inl (fun _ => 0)))), (q4, .inl (kA 2, 12, .inl (fun _ => 0))), (q5, .inl (kA 2, 12, .inl (fun _ => 0))), (q6, .inl (kA 1, 36, .inr (.inl (fun _ => 0))))] H := hP
  have hD : va_D A [(h0, .inr (7, [.null, .null, .null, .null, .null, .ref q1, .ref q2, .ref q3, .ref q4, .ref q5, .ref q6, .int 0])), (a1, .inr (0, [.ref b1, .ref b2, .ref b3, .ref b4])), (q1, .inl (kA 0, 40, .inl (fun _ => 0))), (q2, .inl (kA 2, 40, .inl (fun _ => 0))), (q3, .inl (kA 1, 40, .inr (.inl (fun _ => 0)))), (q4, .inl (kA 2, 12, .inl (fun _ => 0))), (q5, .inl (kA 2, 12, .inl (fun _ => 0))), (q6, .inl (kA 1, 36, .inr (.inl (fun _ => 0))))] := hD
  refine lv_aload_n hx hb dX7_init_52 rfl (lv_at hl 0 rfl) ?_
  refine lv_aload_n hx hb dX7_init_53 rfl (lv_at hl 1 rfl) ?_
  refine va_get (D := (dC, dI)) (ci := 0) (v := .ref b1) (C := RX0) (T := TX0) (N := 4) hx hb hts inK_X0 hown hK hP 1 rfl rfl 0 (by decide) (hts _ kw_308) (fun _ h9 => h9) rfl dX7_init_54 ?_
  refine va_putF (D := (dC, dI)) (ci := 7) (v := .ref b1) (ty := tyX7 0) (C := RX7) (T := TX7) (N := 12) hx hb hts inK_X7 tyX7 tyX7_ok nmX7 hown hK hP hD hS 0 rfl rfl 0 (by decide) (hts _ kw_332) (fun _ h9 => h9) rfl hin rfl (tyX7_ok 0 (by decide)) rfl rfl (Nat.le_of_ble_eq_true rfl) dX7_init_57 (fun H locs hP hD hS => ?_)
  have hP : va_P (dC, dI) vwCl [(h0, .inr (7, [.ref b1, .null, .null, .null, .null, .ref q1, .ref q2, .ref q3, .ref q4, .ref q5, .ref q6, .int 0])), (a1, .inr (0, [.ref b1, .ref b2, .ref b3, .ref b4])), (q1, .inl (kA 0, 40, .inl (fun _ => 0))), (q2, .inl (kA 2, 40, .inl (fun _ => 0))), (q3, .inl (kA 1, 40, .inr (.inl (fun _ => 0)))), (q4, .inl (kA 2, 12, .inl (fun _ => 0))), (q5, .inl (kA 2, 12, .inl (fun _ => 0))), (q6, .inl (kA 1, 36, .inr (.inl (fun _ => 0))))] H := hP
  have hD : va_D A [(h0, .inr (7, [.ref b1, .null, .null, .null, .null, .ref q1, .ref q2, .ref q3, .ref q4, .ref q5, .ref q6, .int 0])), (a1, .inr (0, [.ref b1, .ref b2, .ref b3, .ref b4])), (q1, .inl (kA 0, 40, .inl (fun _ => 0))), (q2, .inl (kA 2, 40, .inl (fun _ => 0))), (q3, .inl (kA 1, 40, .inr (.inl (fun _ => 0)))), (q4, .inl (kA 2, 12, .inl (fun _ => 0))), (q5, .inl (kA 2, 12, .inl (fun _ => 0))), (q6, .inl (kA 1, 36, .inr (.inl (fun _ => 0))))] := hD
  refine lv_aload_n hx hb dX7_init_60 rfl (lv_at hl 0 rfl) ?_
  refine lv_aload_n hx hb dX7_init_61 rfl (lv_at hl 1 rfl) ?_
  refine va_putF (D := (dC, dI)) (ci := 7) (v := .ref a1) (ty := tyX7 1) (C := RX7) (T := TX7) (N := 12) hx hb hts inK_X7 tyX7 tyX7_ok nmX7 hown hK hP hD hS 0 rfl rfl 1 (by decide) (hts _ kw_333) (fun _ h9 => h9) rfl hin rfl (tyX7_ok 1 (by decide)) rfl rfl (Nat.le_of_ble_eq_true rfl) dX7_init_62 (fun H locs hP hD hS => ?_)
  have hP : va_P (dC, dI) vwCl [(h0, .inr (7, [.ref b1, .ref a1, .null, .null, .null, .ref q1, .ref q2, .ref q3, .ref q4, .ref q5, .ref q6, .int 0])), (a1, .inr (0, [.ref b1, .ref b2, .ref b3, .ref b4])), (q1, .inl (kA 0, 40, .inl (fun _ => 0))), (q2, .inl (kA 2, 40, .inl (fun _ => 0))), (q3, .inl (kA 1, 40, .inr (.inl (fun _ => 0)))), (q4, .inl (kA 2, 12, .inl (fun _ => 0))), (q5, .inl (kA 2, 12, .inl (fun _ => 0))), (q6, .inl (kA 1, 36, .inr (.inl (fun _ => 0))))] H := hP
  have hD : va_D A [(h0, .inr (7, [.ref b1, .ref a1, .null, .null, .null, .ref q1, .ref q2, .ref q3, .ref q4, .ref q5, .ref q6, .int 0])), (a1, .inr (0, [.ref b1, .ref b2, .ref b3, .ref b4])), (q1, .inl (kA 0, 40, .inl (fun _ => 0))), (q2, .inl (kA 2, 40, .inl (fun _ => 0))), (q3, .inl (kA 1, 40, .inr (.inl (fun _ => 0)))), (q4, .inl (kA 2, 12, .inl (fun _ => 0))), (q5, .inl (kA 2, 12, .inl (fun _ => 0))), (q6, .inl (kA 1, 36, .inr (.inl (fun _ => 0))))] := hD
  refine lv_aload_n hx hb dX7_init_65 rfl (lv_at hl 0 rfl) ?_
  refine lv_aload_n hx hb dX7_init_66 rfl (lv_at hl 1 rfl) ?_
  refine va_get (D := (dC, dI)) (ci := 0) (v := .ref b4) (C := RX0) (T := TX0) (N := 4) hx hb hts inK_X0 hown hK hP 1 rfl rfl 3 (by decide) (hts _ kw_316) (fun _ h9 => h9) rfl dX7_init_67 ?_
  refine va_putF (D := (dC, dI)) (ci := 7) (v := .ref b4) (ty := tyX7 2) (C := RX7) (T := TX7) (N := 12) hx hb hts inK_X7 tyX7 tyX7_ok nmX7 hown hK hP hD hS 0 rfl rfl 2 (by decide) (hts _ kw_334) (fun _ h9 => h9) rfl hin rfl (tyX7_ok 2 (by decide)) rfl rfl (Nat.le_of_ble_eq_true rfl) dX7_init_70 (fun H locs hP hD hS => ?_)
  have hP : va_P (dC, dI) vwCl [(h0, .inr (7, [.ref b1, .ref a1, .ref b4, .null, .null, .ref q1, .ref q2, .ref q3, .ref q4, .ref q5, .ref q6, .int 0])), (a1, .inr (0, [.ref b1, .ref b2, .ref b3, .ref b4])), (q1, .inl (kA 0, 40, .inl (fun _ => 0))), (q2, .inl (kA 2, 40, .inl (fun _ => 0))), (q3, .inl (kA 1, 40, .inr (.inl (fun _ => 0)))), (q4, .inl (kA 2, 12, .inl (fun _ => 0))), (q5, .inl (kA 2, 12, .inl (fun _ => 0))), (q6, .inl (kA 1, 36, .inr (.inl (fun _ => 0))))] H := hP
  have hD : va_D A [(h0, .inr (7, [.ref b1, .ref a1, .ref b4, .null, .null, .ref q1, .ref q2, .ref q3, .ref q4, .ref q5, .ref q6, .int 0])), (a1, .inr (0, [.ref b1, .ref b2, .ref b3, .ref b4])), (q1, .inl (kA 0, 40, .inl (fun _ => 0))), (q2, .inl (kA 2, 40, .inl (fun _ => 0))), (q3, .inl (kA 1, 40, .inr (.inl (fun _ => 0)))), (q4, .inl (kA 2, 12, .inl (fun _ => 0))), (q5, .inl (kA 2, 12, .inl (fun _ => 0))), (q6, .inl (kA 1, 36, .inr (.inl (fun _ => 0))))] := hD
  refine lv_aload_n hx hb dX7_init_73 rfl (lv_at hl 0 rfl) ?_
  refine lv_aload_n hx hb dX7_init_74 rfl (lv_at hl 2 rfl) ?_
  refine va_putF (D := (dC, dI)) (ci := 7) (v := .ref a2) (ty := tyX7 3) (C := RX7) (T := TX7) (N := 12) hx hb hts inK_X7 tyX7 tyX7_ok nmX7 hown hK hP hD hS 0 rfl rfl 3 (by decide) (hts _ kw_335) (fun _ h9 => h9) rfl hin rfl (tyX7_ok 3 (by decide)) rfl rfl (Nat.le_of_ble_eq_true rfl) dX7_init_75 (fun H locs hP hD hS => ?_)
  have hP : va_P (dC, dI) vwCl [(h0, .inr (7, [.ref b1, .ref a1, .ref b4, .ref a2, .null, .ref q1, .ref q2, .ref q3, .ref q4, .ref q5, .ref q6, .int 0])), (a1, .inr (0, [.ref b1, .ref b2, .ref b3, .ref b4])), (q1, .inl (kA 0, 40, .inl (fun _ => 0))), (q2, .inl (kA 2, 40, .inl (fun _ => 0))), (q3, .inl (kA 1, 40, .inr (.inl (fun _ => 0)))), (q4, .inl (kA 2, 12, .inl (fun _ => 0))), (q5, .inl (kA 2, 12, .inl (fun _ => 0))), (q6, .inl (kA 1, 36, .inr (.inl (fun _ => 0))))] H := hP
  have hD : va_D A [(h0, .inr (7, [.ref b1, .ref a1, .ref b4, .ref a2, .null, .ref q1, .ref q2, .ref q3, .ref q4, .ref q5, .ref q6, .int 0])), (a1, .inr (0, [.ref b1, .ref b2, .ref b3, .ref b4])), (q1, .inl (kA 0, 40, .inl (fun _ => 0))), (q2, .inl (kA 2, 40, .inl (fun _ => 0))), (q3, .inl (kA 1, 40, .inr (.inl (fun _ => 0)))), (q4, .inl (kA 2, 12, .inl (fun _ => 0))), (q5, .inl (kA 2, 12, .inl (fun _ => 0))), (q6, .inl (kA 1, 36, .inr (.inl (fun _ => 0))))] := hD
  refine lv_aload_n hx hb dX7_init_78 rfl (lv_at hl 0 rfl) ?_
  refine lv_aload_n hx hb dX7_init_79 rfl (lv_at hl 3 rfl) ?_
  refine va_putF (D := (dC, dI)) (ci := 7) (v := .ref a3) (ty := tyX7 4) (C := RX7) (T := TX7) (N := 12) hx hb hts inK_X7 tyX7 tyX7_ok nmX7 hown hK hP hD hS 0 rfl rfl 4 (by decide) (hts _ kw_336) (fun _ h9 => h9) rfl hin rfl (tyX7_ok 4 (by decide)) rfl rfl (Nat.le_of_ble_eq_true rfl) dX7_init_80 (fun H locs hP hD hS => ?_)
  have hP : va_P (dC, dI) vwCl [(h0, .inr (7, [.ref b1, .ref a1, .ref b4, .ref a2, .ref a3, .ref q1, .ref q2, .ref q3, .ref q4, .ref q5, .ref q6, .int 0])), (a1, .inr (0, [.ref b1, .ref b2, .ref b3, .ref b4])), (q1, .inl (kA 0, 40, .inl (fun _ => 0))), (q2, .inl (kA 2, 40, .inl (fun _ => 0))), (q3, .inl (kA 1, 40, .inr (.inl (fun _ => 0)))), (q4, .inl (kA 2, 12, .inl (fun _ => 0))), (q5, .inl (kA 2, 12, .inl (fun _ => 0))), (q6, .inl (kA 1, 36, .inr (.inl (fun _ => 0))))] H := hP
  have hD : va_D A [(h0, .inr (7, [.ref b1, .ref a1, .ref b4, .ref a2, .ref a3, .ref q1, .ref q2, .ref q3, .ref q4, .ref q5, .ref q6, .int 0])), (a1, .inr (0, [.ref b1, .ref b2, .ref b3, .ref b4])), (q1, .inl (kA 0, 40, .inl (fun _ => 0))), (q2, .inl (kA 2, 40, .inl (fun _ => 0))), (q3, .inl (kA 1, 40, .inr (.inl (fun _ => 0)))), (q4, .inl (kA 2, 12, .inl (fun _ => 0))), (q5, .inl (kA 2, 12, .inl (fun _ => 0))), (q6, .inl (kA 1, 36, .inr (.inl (fun _ => 0))))] := hD
  exact W.vret hx hb hr (fun t ht _ => ⟨⟨fun k => ([q1, q2, q3, q4, q5, q6] : List Nat).getD k 0, rfl, trivial, by rw [ht]; exact hP, hD⟩, hS.F ht⟩) hS.2.2 dX7_init_83 hlocks)

def rm_nX3 : Room := { frames := 1, cells := 4, slots := 126, locals := 12 }
set_option maxHeartbeats 4000000 in
set_option maxRecDepth 100000 in
theorem n_X3 (l : Launch) {dC : Nat → ClassId} {dI : Nat → Nat → Nat} {kA : Nat → ClassId} (h0 a1 a2 a3 b1 b2 b3 b4 sz : Nat) : jm_n l (dC, dI) kA yX3_init cX3_init 4 rm_nX3 [.ref h0, .ref a1, .ref a2, .ref a3] sz [(h0, .inr (3, [.null, .null, .null, .null, .null, .null, .null, .null, .null, .int 0, .int 0])), (a1, .inr (0, [.ref b1, .ref b2, .ref b3, .ref b4]))] (fun q => [(h0, .inr (3, [.ref b1, .ref a1, .ref b4, .ref a2, .ref a3, .ref (q 0), .ref (q 1), .ref (q 2), .ref (q 3), .int 0, .int 0])), (a1, .inr (0, [.ref b1, .ref b2, .ref b3, .ref b4])), (q 0, .inl (kA 0, 60, .inl (fun _ => 0))), (q 1, .inl (kA 1, 60, .inr (.inl (fun _ => 0)))), (q 2, .inl (kA 1, 3, .inr (.inl (fun _ => 0)))), (q 3, .inl (kA 1, 3, .inr (.inl (fun _ => 0))))]) (fun _ => True) := jm_n_of (by decide) rfl (Nat.le_of_ble_eq_true rfl) (fun p e s m below meth c hx hb hml hown hts hr hlocks hK hN hAO hin hP A hD hA hS ls hl => by
  have hown : s.vm.findClass RX3 = some m.cls := hown
  have hl : lv_has ls 4 [(0, .ref h0), (1, .ref a1), (2, .ref a2), (3, .ref a3)] := hl
  refine lv_aload_n hx hb dX3_init_0 rfl (lv_at hl 0 rfl) ?_
  refine W.objInit hx hb hown (hts _ kw_374) (hts _ kw_73) (hts _ kw_74) rfl (by rw [hml]; exact hl.1) rfl dX3_init_1 (Nat.le_of_ble_eq_true rfl) (Nat.le_of_ble_eq_true rfl) ?_
  refine W.eq (g2 := F0 m 4 ls []) rfl ?_
  refine lv_aload_n hx hb dX3_init_4 rfl (lv_at hl 0 rfl) ?_
  refine lv_bipush (v := 60) hx hb dX3_init_5 (by decide) ?_
  refine jn_nai hx hb hts kw_106 hK hP hD hS hA (by decide) (N' := 60) (by decide) (by decide) (Nat.le_of_ble_eq_true rfl) (Nat.le_of_ble_eq_true rfl) dX3_init_7 (fun q1 H hP hD hS => ?_)
  have hP : va_P (dC, dI) vwCl [(h0, .inr (3, [.null, .null, .null, .null, .null, .null, .null, .null, .null, .int 0, .int 0])), (a1, .inr (0, [.ref b1, .ref b2, .ref b3, .ref b4])), (q1, .inl (kA 0, 60, .inl (fun _ => 0)))] H := hP
  have hD : va_D A [(h0, .inr (3, [.null, .null, .null, .null, .null, .null, .null, .null, .null, .int 0, .int 0])), (a1, .inr (0, [.ref b1, .ref b2, .ref b3, .ref b4])), (q1, .inl (kA 0, 60, .inl (fun _ => 0)))] := hD
  refine W.widen (k := 1) (n := 60) (Nat.le_of_ble_eq_true rfl) (Nat.le_of_ble_eq_true rfl) ?_
  refine va_putF (D := (dC, dI)) (ci := 3) (v := .ref q1) (ty := tyX3 5) (C := RX3) (T := TX3) (N := 11) hx hb hts inK_X3 tyX3 tyX3_ok nmX3 hown hK hP hD hS 0 rfl rfl 5 (by decide) (hts _ kw_380) (fun _ h9 => h9) rfl hin rfl (tyX3_ok 5 (by decide)) rfl rfl (Nat.le_of_ble_eq_true rfl) dX3_init_9 (fun H locs hP hD hS => ?_)
  have hP : va_P (dC, dI) vwCl [(h0, .inr (3, [.null, .null, .null, .null, .null, .ref q1, .null, .null, .null, .int 0, .int 0])), (a1, .inr (0, [.ref b1, .ref b2, .ref b3, .ref b4])), (q1, .inl (kA 0, 60, .inl (fun _ => 0)))] H := hP
  have hD : va_D A [(h0, .inr (3, [.null, .null, .null, .null, .null, .ref q1, .null, .null, .null, .int 0, .int 0])), (a1, .inr (0, [.ref b1, .ref b2, .ref b3, .ref b4])), (q1, .inl (kA 0, 60, .inl (fun _ => 0)))] := hD
  refine lv_aload_n hx hb dX3_init_12 rfl (lv_at hl 0 rfl) ?_
  refine lv_bipush (v := 60) hx hb dX3_init_13 (by decide) ?_
  refine jn_nal hx hb hts kw_107 hK hP hD hS hA (by decide) (N' := 60) (by decide) (by decide) (Nat.le_of_ble_eq_true rfl) (Nat.le_of_ble_eq_true rfl) dX3_init_15 (fun q2 H hP hD hS => ?_)
  have hP : va_P (dC, dI) vwCl [(h0, .inr (3, [.null, .null, .null, .null, .null, .ref q1, .null, .null, .null, .int 0, .int 0])), (a1, .inr (0, [.ref b1, .ref b2, .ref b3, .ref b4])), (q1, .inl (kA 0, 60, .inl (fun _ => 0))), (q2, .inl (kA 1, 60, .inr (.inl (fun _ => 0))))] H := hP
  have hD : va_D A [(h0, .inr (3, [.null, .null, .null, .null, .null, .ref q1, .null, .null, .null, .int 0, .int 0])), (a1, .inr (0, [.ref b1, .ref b2, .ref b3, .ref b4])), (q1, .inl (kA 0, 60, .inl (fun _ => 0))), (q2, .inl (kA 1, 60, .inr (.inl (fun _ => 0))))] := hD
  refine W.widen (k := 2) (n := 120) (Nat.le_of_ble_eq_true rfl) (Nat.le_of_ble_eq_true rfl) ?_
  refine va_putF (D := (dC, dI)) (ci := 3) (v := .ref q2) (ty := tyX3 6) (C := RX3) (T := TX3) (N := 11) hx hb hts inK_X3 tyX3 tyX3_ok nmX3 hown hK hP hD hS 0 rfl rfl 6 (by decide) (hts _ kw_381) (fun _ h9 => h9) rfl hin rfl (tyX3_ok 6 (by decide)) rfl rfl (Nat.le_of_ble_eq_true rfl) dX3_init_17 (fun H locs hP hD hS => ?_)
  have hP : va_P (dC, dI) vwCl [(h0, .inr (3, [.null, .null, .null, .null, .null, .ref q1, .ref q2, .null, .null, .int 0, .int 0])), (a1, .inr (0, [.ref b1, .ref b2, .ref b3, .ref b4])), (q1, .inl (kA 0, 60, .inl (fun _ => 0))), (q2, .inl (kA 1, 60, .inr (.inl (fun _ => 0))))] H := hP
  have hD : va_D A [(h0, .inr (3, [.null, .null, .null, .null, .null, .ref q1, .ref q2, .null, .null, .int 0, .int 0])), (a1, .inr (0, [.ref b1, .ref b2, .ref b3, .ref b4])), (q1, .inl (kA 0, 60, .inl (fun _ => 0))), (q2, .inl (kA 1, 60, .inr (.inl (fun _ => 0))))] := hD
  refine lv_aload_n hx hb dX3_init_20 rfl (lv_at hl 0 rfl) ?_
  refine lv_iconst (v := 3) hx hb dX3_init_21 (by decide) ?_
  refine jn_nal hx hb hts kw_107 hK hP hD hS hA (by decide) (N' := 3) (by decide) (by decide) (Nat.le_of_ble_eq_true rfl) (Nat.le_of_ble_eq_true rfl) dX3_init_22 (fun q3 H hP hD hS => ?_)
  have hP : va_P (dC, dI) vwCl [(h0, .inr (3, [.null, .null, .null, .null, .null, .ref q1, .ref q2, .null, .null, .int 0, .int 0])), (a1, .inr (0, [.ref b1, .ref b2, .ref b3, .ref b4])), (q1, .inl (kA 0, 60, .inl (fun _ => 0))), (q2, .inl (kA 1, 60, .inr (.inl (fun _ => 0)))), (q3, .inl (kA 1, 3, .inr (.inl (fun _ => 0))))] H := hP
  have hD : va_D A [(h0, .inr (3, [.null, .null, .null, .null, .null, .ref q1, .ref q2, .null, .null, .int 0, .int 0])), (a1, .inr (0, [.ref b1, .ref b2, .ref b3, .ref b4])), (q1, .inl (kA 0, 60, .inl (fun _ => 0))), (q2, .inl (kA 1, 60, .inr (.inl (fun _ => 0)))), (q3, .inl (kA 1, 3, .inr (.inl (fun _ => 0))))] := hD
  refine W.widen (k := 3) (n := 123) (Nat.le_of_ble_eq_true rfl) (Nat.le_of_ble_eq_true rfl) ?_
  refine va_putF (D := (dC, dI)) (ci := 3) (v := .ref q3) (ty := tyX3 7) (C := RX3) (T := TX3) (N := 11) hx hb hts inK_X3 tyX3 tyX3_ok nmX3 hown hK hP hD hS 0 rfl rfl 7 (by decide) (hts _ kw_382) (fun _ h9 => h9) rfl hin rfl (tyX3_ok 7 (by decide)) rfl rfl (Nat.le_of_ble_eq_true rfl) dX3_init_24 (fun H locs hP hD hS => ?_)
  have hP : va_P (dC, dI) vwCl [(h0, .inr (3, [.null, .null, .null, .null, .null, .ref q1, .ref q2, .ref q3, .null, .int 0, .int 0])), (a1, .inr (0, [.ref b1, .ref b2, .ref b3, .ref b4])), (q1, .inl (kA 0, 60, .inl (fun _ => 0))), (q2, .inl (kA 1, 60, .inr (.inl (fun _ => 0)))), (q3, .inl (kA 1, 3, .inr (.inl (fun _ => 0))))] H := hP
  have hD : va_D A [(h0, .inr (3, [.null, .null, .null, .null, .null, .ref q1, .ref q2, .ref q3, .null, .int 0, .int 0])), (a1, .inr (0, [.ref b1, .ref b2, .ref b3, .ref b4])), (q1, .inl (kA 0, 60, .inl (fun _ => 0))), (q2, .inl (kA 1, 60, .inr (.inl (fun _ => 0)))), (q3, .inl (kA 1, 3, .inr (.inl (fun _ => 0))))] := hD
  refine lv_aload_n hx hb dX3_init_27 rfl (lv_at hl 0 rfl) ?_
  refine lv_iconst (v := 3) hx hb dX3_init_28 (by decide) ?_
  refine jn_nal hx hb hts kw_107 hK hP hD hS hA (by decide) (N' := 3) (by decide) (by decide) (Nat.le_of_ble_eq_true rfl) (Nat.le_of_ble_eq_true rfl) dX3_init_29 (fun q4 H hP hD hS => ?_)
  have hP : va_P (dC, dI) vwCl [(h0, .inr (3, [.null, .null, .null, .null, .null, .ref q1, .ref q2, .ref q3, .null, .int 0, .int 0])), (a1, .inr (0, [.ref b1, .ref b2, .ref b3, .ref b4])), (q1, .inl (kA 0, 60, .inl (fun _ => 0))), (q2, .inl (kA 1, 60, .inr (.inl (fun _ => 0)))), (q3, .inl (kA 1, 3, .inr (.inl (fun _ => 0)))), (q4, .inl (kA 1, 3, .inr (.inl (fun _ => 0))))] H := hP
  have hD : va_D A [(h0, .inr (3, [.null, .null, .null, .null, .null, .ref q1, .ref q2, .ref q3, .null, .int 0, .int 0])), (a1, .inr (0, [.ref b1, .ref b2, .ref b3, .ref b4])), (q1, .inl (kA 0, 60, .inl (fun _ => 0))), (q2, .inl (kA 1, 60, .inr (.inl (fun _ => 0)))), (q3, .inl (kA 1, 3, .inr (.inl (fun _ => 0)))), (q4, .inl (kA 1, 3, .inr (.inl (fun _ => 0))))] := hD
  refine W.widen (k := 4) (n := 126) (Nat.le_of_ble_eq_true rfl) (Nat.le_of_ble_eq_true rfl) ?_
  refine va_putF (D := (dC, dI)) (ci := 3) (v := .ref q4) (ty := tyX3 8) (C := RX3) (T := TX3) (N := 11) hx hb hts inK_X3 tyX3 tyX3_ok nmX3 hown hK hP hD hS 0 rfl rfl 8 (by decide) (hts _ kw_383) (fun _ h9 => h9) rfl hin rfl (tyX3_ok 8 (by decide)) rfl rfl (Nat.le_of_ble_eq_true rfl) dX3_init_31 (fun H locs hP hD hS => ?_)
  have hP : va_P (dC, dI) vwCl [(h0, .inr (3, [.null, .null, .null, .null, .null, .ref q1, .ref q2, .ref q3, .ref q4, .int 0, .int 0])), (a1, .inr (0, [.ref b1, .ref b2, .ref b3, .ref b4])), (q1, .inl (kA 0, 60, .inl (fun _ => 0))), (q2, .inl (kA 1, 60, .inr (.inl (fun _ => 0)))), (q3, .inl (kA 1, 3, .inr (.inl (fun _ => 0)))), (q4, .inl (kA 1, 3, .inr (.inl (fun _ => 0))))] H := hP
  have hD : va_D A [(h0, .inr (3, [.null, .null, .null, .null, .null, .ref q1, .ref q2, .ref q3, .ref q4, .int 0, .int 0])), (a1, .inr (0, [.ref b1, .ref b2, .ref b3, .ref b4])), (q1, .inl (kA 0, 60, .inl (fun _ => 0))), (q2, .inl (kA 1, 60, .inr (.inl (fun _ => 0)))), (q3, .inl (kA 1, 3, .inr (.inl (fun _ => 0)))), (q4, .inl (kA 1, 3, .inr (.inl (fun _ => 0))))] := hD
  refine lv_aload_n hx hb dX3_init_34 rfl (lv_at hl 0 rfl) ?_
  refine lv_aload_n hx hb dX3_init_35 rfl (lv_at hl 1 rfl) ?_
  refine va_get (D := (dC, dI)) (ci := 0) (v := .ref b1) (C := RX0) (T := TX0) (N := 4) hx hb hts inK_X0 hown hK hP 1 rfl rfl 0 (by decide) (hts _ kw_307) (fun _ h9 => h9) rfl dX3_init_36 ?_
  refine va_putF (D := (dC, dI)) (ci := 3) (v := .ref b1) (ty := tyX3 0) (C := RX3) (T := TX3) (N := 11) hx hb hts inK_X3 tyX3 tyX3_ok nmX3 hown hK hP hD hS 0 rfl rfl 0 (by decide) (hts _ kw_375) (fun _ h9 => h9) rfl hin rfl (tyX3_ok 0 (by decide)) rfl rfl (Nat.le_of_ble_eq_true rfl) dX3_init_39 (fun H locs hP hD hS => ?_)
  have hP : va_P (dC, dI) vwCl [(h0, .inr (3, [.ref b1, .null, .null, .null, .null, .ref q1, .ref q2, .ref q3, .ref q4, .int 0, .int 0])), (a1, .inr (0, [.ref b1, .ref b2, .ref b3, .ref b4])), (q1, .inl (kA 0, 60, .inl (fun _ => 0))), (q2, .inl (kA 1, 60, .inr (.inl (fun _ => 0)))), (q3, .inl (kA 1, 3, .inr (.inl (fun _ => 0)))), (q4, .inl (kA 1, 3, .inr (.inl (fun _ => 0))))] H := hP
  have hD : va_D A [(h0, .inr (3, [.ref b1, .null, .null, .null, .null, .ref q1, .ref q2, .ref q3, .ref q4, .int 0, .int 0])), (a1, .inr (0, [.ref b1, .ref b2, .ref b3, .ref b4])), (q1, .inl (kA 0, 60, .inl (fun _ => 0))), (q2, .inl (kA 1, 60, .inr (.inl (fun _ => 0)))), (q3, .inl (kA 1, 3, .inr (.inl (fun _ => 0)))), (q4, .inl (kA 1, 3, .inr (.inl (fun _ => 0))))] := hD
  refine lv_aload_n hx hb dX3_init_42 rfl (lv_at hl 0 rfl) ?_
  refine lv_aload_n hx hb dX3_init_43 rfl (lv_at hl 1 rfl) ?_
  refine va_putF (D := (dC, dI)) (ci := 3) (v := .ref a1) (ty := tyX3 1) (C := RX3) (T := TX3) (N := 11) hx hb hts inK_X3 tyX3 tyX3_ok nmX3 hown hK hP hD hS 0 rfl rfl 1 (by decide) (hts _ kw_376) (fun _ h9 => h9) rfl hin rfl (tyX3_ok 1 (by decide)) rfl rfl (Nat.le_of_ble_eq_true rfl) dX3_init_44 (fun H locs hP hD hS => ?_)
  have hP : va_P (dC, dI) vwCl [(h0, .inr (3, [.ref b1, .ref a1, .null, .null, .null, .ref q1, .ref q2, .ref q3, .ref q4, .int 0, .int 0])), (a1, .inr (0, [.ref b1, .ref b2, .ref b3, .ref b4])), (q1, .inl (kA 0, 60, .inl (fun _ => 0))), (q2, .inl (kA 1, 60, .inr (.inl (fun _ => 0)))), (q3, .inl (kA 1, 3, .inr (.inl (fun _ => 0)))), (q4, .inl (kA 1, 3, .inr (.inl (fun _ => 0))))] H := hP
  have hD : va_D A [(h0, .inr (3, [.ref b1, .ref a1, .null, .null, .null, .ref q1, .ref q2, .ref q3, .ref q4, .int 0, .int 0])), (a1, .inr (0, [.ref b1, .ref b2, .ref b3, .ref b4])), (q1, .inl (kA 0, 60, .inl (fun _ => 0))), (q2, .inl (kA 1, 60, .inr (.inl (fun _ => 0)))), (q3, .inl (kA 1, 3, .inr (.inl (fun _ => 0)))), (q4, .inl (kA 1, 3, .inr (.inl (fun _ => 0))))] := hD
  refine lv_aload_n hx hb dX3_init_47 rfl (lv_at hl 0 rfl) ?_
  refine lv_aload_n hx hb dX3_init_48 rfl (lv_at hl 1 rfl) ?_
  refine va_get (D := (dC, dI)) (ci := 0) (v := .ref b4) (C := RX0) (T := TX0) (N := 4) hx hb hts inK_X0 hown hK hP 1 rfl rfl 3 (by decide) (hts _ kw_315) (fun _ h9 => h9) rfl dX3_init_49 ?_
  refine va_putF (D := (dC, dI)) (ci := 3) (v := .ref b4) (ty := tyX3 2) (C := RX3) (T := TX3) (N := 11) hx hb hts inK_X3 tyX3 tyX3_ok nmX3 hown hK hP hD hS 0 rfl rfl 2 (by decide) (hts _ kw_377) (fun _ h9 => h9) rfl hin rfl (tyX3_ok 2 (by decide)) rfl rfl (Nat.le_of_ble_eq_true rfl) dX3_init_52 (fun H locs hP hD hS => ?_)
  have hP : va_P (dC, dI) vwCl [(h0, .inr (3, [.ref b1, .ref a1, .ref b4, .null, .null, .ref q1, .ref q2, .ref q3, .ref q4, .int 0, .int 0])), (a1, .inr (0, [.ref b1, .ref b2, .ref b3, .ref b4])), (q1, .inl (kA 0, 60, .inl (fun _ => 0))), (q2, .inl (kA 1, 60, .inr (.inl (fun _ => 0)))), (q3, .inl (kA 1, 3, .inr (.inl (fun _ => 0)))), (q4, .inl (kA 1, 3, .inr (.inl (fun _ => 0))))] H := hP
  have hD : va_D A [(h0, .inr (3, [.ref b1, .ref a1, .ref b4, .null, .null, .ref q1, .ref q2, .ref q3, .ref q4, .int 0, .int 0])), (a1, .inr (0, [.ref b1, .ref b2, .ref b3, .ref b4])), (q1, .inl (kA 0, 60, .inl (fun _ => 0))), (q2, .inl (kA 1, 60, .inr (.inl (fun _ => 0)))), (q3, .inl (kA 1, 3, .inr (.inl (fun _ => 0)))), (q4, .inl (kA 1, 3, .inr (.inl (fun _ => 0))))] := hD
  refine lv_aload_n hx hb dX3_init_55 rfl (lv_at hl 0 rfl) ?_
  refine lv_aload_n hx hb dX3_init_56 rfl (lv_at hl 2 rfl) ?_
  refine va_putF (D := (dC, dI)) (ci := 3) (v := .ref a2) (ty := tyX3 3) (C := RX3) (T := TX3) (N := 11) hx hb hts inK_X3 tyX3 tyX3_ok nmX3 hown hK hP hD hS 0 rfl rfl 3 (by decide) (hts _ kw_378) (fun _ h9 => h9) rfl hin rfl (tyX3_ok 3 (by decide)) rfl rfl (Nat.le_of_ble_eq_true rfl) dX3_init_57 (fun H locs hP hD hS => ?_)
  have hP : va_P (dC, dI) vwCl [(h0, .inr (3, [.ref b1, .ref a1, .ref b4, .ref a2, .null, .ref q1, .ref q2, .ref q3, .ref q4, .int 0, .int 0])), (a1, .inr (0, [.ref b1, .ref b2, .ref b3, .ref b4])), (q1, .inl (kA 0, 60, .inl (fun _ => 0))), (q2, .inl (kA 1, 60, .inr (.inl (fun _ => 0)))), (q3, .inl (kA 1, 3, .inr (.inl (fun _ => 0)))), (q4, .inl (kA 1, 3, .inr (.inl (fun _ => 0))))] H := hP
  have hD : va_D A [(h0, .inr (3, [.ref b1, .ref a1, .ref b4, .ref a2, .null, .ref q1, .ref q2, .ref q3, .ref q4, .int 0, .int 0])), (a1, .inr (0, [.ref b1, .ref b2, .ref b3, .ref b4])), (q1, .inl (kA 0, 60, .inl (fun _ => 0))), (q2, .inl (kA 1, 60, .inr (.inl (fun _ => 0)))), (q3, .inl (kA 1, 3, .inr (.inl (fun _ => 0)))), (q4, .inl (kA 1, 3, .inr (.inl (fun _ => 0))))] := hD
  refine lv_aload_n hx hb dX3_init_60 rfl (lv_at hl 0 rfl) ?_
  refine lv_aload_n hx hb dX3_init_61 rfl (lv_at hl 3 rfl) ?_
  refine va_putF (D := (dC, dI)) (ci := 3) (v := .ref a3) (ty := tyX3 4) (C := RX3) (T := TX3) (N := 11) hx hb hts inK_X3 tyX3 tyX3_ok nmX3 hown hK hP hD hS 0 rfl rfl 4 (by decide) (hts _ kw_379) (fun _ h9 => h9) rfl hin rfl (tyX3_ok 4 (by decide)) rfl rfl (Nat.le_of_ble_eq_true rfl) dX3_init_62 (fun H locs hP hD hS => ?_)
  have hP : va_P (dC, dI) vwCl [(h0, .inr (3, [.ref b1, .ref a1, .ref b4, .ref a2, .ref a3, .ref q1, .ref q2, .ref q3, .ref q4, .int 0, .int 0])), (a1, .inr (0, [.ref b1, .ref b2, .ref b3, .ref b4])), (q1, .inl (kA 0, 60, .inl (fun _ => 0))), (q2, .inl (kA 1, 60, .inr (.inl (fun _ => 0)))), (q3, .inl (kA 1, 3, .inr (.inl (fun _ => 0)))), (q4, .inl (kA 1, 3, .inr (.inl (fun _ => 0))))] H := hP
  have hD : va_D A [(h0, .inr (3, [.ref b1, .ref a1, .ref b4, .ref a2, .ref a3, .ref q1, .ref q2, .ref q3, .ref q4, .int 0, .int 0])), (a1, .inr (0, [.ref b1, .ref b2, .ref b3, .ref b4])), (q1, .inl (kA 0, 60, .inl (fun _ => 0))), (q2, .inl (kA 1, 60, .inr (.inl (fun _ => 0)))), (q3, .inl (kA 1, 3, .inr (.inl (fun _ => 0)))), (q4, .inl (kA 1, 3, .inr (.inl (fun _ => 0))))] := hD
  exact W.vret hx hb hr (fun t ht _ => ⟨⟨fun k => ([q1, q2, q3, q4] : List Nat).getD k 0, rfl, trivial, by rw [ht]; exact hP, hD⟩, hS.F ht⟩) hS.2.2 dX3_init_65 hlocks)
