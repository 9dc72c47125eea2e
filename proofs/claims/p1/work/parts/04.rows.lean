theorem dX0_init_0 : decode cX0_init 0 = .ok (.aload_n 0, 1) := by decide +kernel
theorem dX0_init_1 : decode cX0_init 1 = .ok (.invokespecial 3, 3) := by decide +kernel
theorem dX0_init_4 : decode cX0_init 4 = .ok (.aload_n 0, 1) := by decide +kernel
theorem dX0_init_5 : decode cX0_init 5 = .ok (.iconst 0, 1) := by decide +kernel
theorem dX0_init_6 : decode cX0_init 6 = .ok (.putfield 9, 3) := by decide +kernel
theorem dX0_init_9 : decode cX0_init 9 = .ok (.aload_n 0, 1) := by decide +kernel
theorem dX0_init_10 : decode cX0_init 10 = .ok (.iconst 0, 1) := by decide +kernel
theorem dX0_init_11 : decode cX0_init 11 = .ok (.putfield 15, 3) := by decide +kernel
theorem dX0_init_14 : decode cX0_init 14 = .ok (.iconst 0, 1) := by decide +kernel
theorem dX0_init_15 : decode cX0_init 15 = .ok (.iload_n 1, 1) := by decide +kernel
theorem dX0_init_16 : decode cX0_init 16 = .ok (.invokestatic 18, 3) := by decide +kernel
theorem dX0_init_19 : decode cX0_init 19 = .ok (.istore_n 3, 1) := by decide +kernel
theorem dX0_init_20 : decode cX0_init 20 = .ok (.iconst 0, 1) := by decide +kernel
theorem dX0_init_21 : decode cX0_init 21 = .ok (.iload_n 2, 1) := by decide +kernel
theorem dX0_init_22 : decode cX0_init 22 = .ok (.invokestatic 18, 3) := by decide +kernel
theorem dX0_init_25 : decode cX0_init 25 = .ok (.istore 4, 2) := by decide +kernel
theorem dX0_init_27 : decode cX0_init 27 = .ok (.aload_n 0, 1) := by decide +kernel
theorem dX0_init_28 : decode cX0_init 28 = .ok (.iload_n 3, 1) := by decide +kernel
theorem dX0_init_29 : decode cX0_init 29 = .ok (.newarray .int, 2) := by decide +kernel
theorem dX0_init_31 : decode cX0_init 31 = .ok (.putfield 24, 3) := by decide +kernel
theorem dX0_init_34 : decode cX0_init 34 = .ok (.aload_n 0, 1) := by decide +kernel
theorem dX0_init_35 : decode cX0_init 35 = .ok (.iload_n 3, 1) := by decide +kernel
theorem dX0_init_36 : decode cX0_init 36 = .ok (.newarray .int, 2) := by decide +kernel
theorem dX0_init_38 : decode cX0_init 38 = .ok (.putfield 28, 3) := by decide +kernel
theorem dX0_init_41 : decode cX0_init 41 = .ok (.aload_n 0, 1) := by decide +kernel
theorem dX0_init_42 : decode cX0_init 42 = .ok (.iload_n 3, 1) := by decide +kernel
theorem dX0_init_43 : decode cX0_init 43 = .ok (.newarray .int, 2) := by decide +kernel
theorem dX0_init_45 : decode cX0_init 45 = .ok (.putfield 31, 3) := by decide +kernel
theorem dX0_init_48 : decode cX0_init 48 = .ok (.aload_n 0, 1) := by decide +kernel
theorem dX0_init_49 : decode cX0_init 49 = .ok (.iload_n 3, 1) := by decide +kernel
theorem dX0_init_50 : decode cX0_init 50 = .ok (.newarray .int, 2) := by decide +kernel
theorem dX0_init_52 : decode cX0_init 52 = .ok (.putfield 34, 3) := by decide +kernel
theorem dX0_init_55 : decode cX0_init 55 = .ok (.aload_n 0, 1) := by decide +kernel
theorem dX0_init_56 : decode cX0_init 56 = .ok (.iload_n 3, 1) := by decide +kernel
theorem dX0_init_57 : decode cX0_init 57 = .ok (.newarray .int, 2) := by decide +kernel
theorem dX0_init_59 : decode cX0_init 59 = .ok (.putfield 37, 3) := by decide +kernel
theorem dX0_init_62 : decode cX0_init 62 = .ok (.aload_n 0, 1) := by decide +kernel
theorem dX0_init_63 : decode cX0_init 63 = .ok (.iload 4, 2) := by decide +kernel
theorem dX0_init_65 : decode cX0_init 65 = .ok (.newarray .int, 2) := by decide +kernel
theorem dX0_init_67 : decode cX0_init 67 = .ok (.putfield 40, 3) := by decide +kernel
theorem dX0_init_70 : decode cX0_init 70 = .ok (.aload_n 0, 1) := by decide +kernel
theorem dX0_init_71 : decode cX0_init 71 = .ok (.iload 4, 2) := by decide +kernel
theorem dX0_init_73 : decode cX0_init 73 = .ok (.newarray .int, 2) := by decide +kernel
theorem dX0_init_75 : decode cX0_init 75 = .ok (.putfield 43, 3) := by decide +kernel
theorem dX0_init_78 : decode cX0_init 78 = .ok (.return_, 1) := by decide +kernel
theorem dX1_init_0 : decode cX1_init 0 = .ok (.aload_n 0, 1) := by decide +kernel
theorem dX1_init_1 : decode cX1_init 1 = .ok (.invokespecial 3, 3) := by decide +kernel
theorem dX1_init_4 : decode cX1_init 4 = .ok (.aload_n 0, 1) := by decide +kernel
theorem dX1_init_5 : decode cX1_init 5 = .ok (.bipush 7, 2) := by decide +kernel
theorem dX1_init_7 : decode cX1_init 7 = .ok (.newarray .int, 2) := by decide +kernel
theorem dX1_init_9 : decode cX1_init 9 = .ok (.putfield 9, 3) := by decide +kernel
theorem dX1_init_12 : decode cX1_init 12 = .ok (.aload_n 0, 1) := by decide +kernel
theorem dX1_init_13 : decode cX1_init 13 = .ok (.bipush 7, 2) := by decide +kernel
theorem dX1_init_15 : decode cX1_init 15 = .ok (.newarray .int, 2) := by decide +kernel
theorem dX1_init_17 : decode cX1_init 17 = .ok (.putfield 15, 3) := by decide +kernel
theorem dX1_init_20 : decode cX1_init 20 = .ok (.aload_n 0, 1) := by decide +kernel
theorem dX1_init_21 : decode cX1_init 21 = .ok (.iconst 0, 1) := by decide +kernel
theorem dX1_init_22 : decode cX1_init 22 = .ok (.putfield 18, 3) := by decide +kernel
theorem dX1_init_25 : decode cX1_init 25 = .ok (.aload_n 0, 1) := by decide +kernel
theorem dX1_init_26 : decode cX1_init 26 = .ok (.aload_n 1, 1) := by decide +kernel
theorem dX1_init_27 : decode cX1_init 27 = .ok (.putfield 22, 3) := by decide +kernel
theorem dX1_init_30 : decode cX1_init 30 = .ok (.aload_n 0, 1) := by decide +kernel
theorem dX1_init_31 : decode cX1_init 31 = .ok (.aload_n 2, 1) := by decide +kernel
theorem dX1_init_32 : decode cX1_init 32 = .ok (.putfield 26, 3) := by decide +kernel
theorem dX1_init_35 : decode cX1_init 35 = .ok (.return_, 1) := by decide +kernel
theorem dX2_init_0 : decode cX2_init 0 = .ok (.aload_n 0, 1) := by decide +kernel
theorem dX2_init_1 : decode cX2_init 1 = .ok (.invokespecial 3, 3) := by decide +kernel
theorem dX2_init_4 : decode cX2_init 4 = .ok (.aload_n 0, 1) := by decide +kernel
theorem dX2_init_5 : decode cX2_init 5 = .ok (.new 9, 3) := by decide +kernel
theorem dX2_init_8 : decode cX2_init 8 = .ok (.dup, 1) := by decide +kernel
theorem dX2_init_9 : decode cX2_init 9 = .ok (.invokespecial 11, 3) := by decide +kernel
theorem dX2_init_12 : decode cX2_init 12 = .ok (.putfield 12, 3) := by decide +kernel
theorem dX2_init_15 : decode cX2_init 15 = .ok (.aload_n 0, 1) := by decide +kernel
theorem dX2_init_16 : decode cX2_init 16 = .ok (.bipush 7, 2) := by decide +kernel
theorem dX2_init_18 : decode cX2_init 18 = .ok (.newarray .int, 2) := by decide +kernel
theorem dX2_init_20 : decode cX2_init 20 = .ok (.putfield 18, 3) := by decide +kernel
theorem dX2_init_23 : decode cX2_init 23 = .ok (.aload_n 0, 1) := by decide +kernel
theorem dX2_init_24 : decode cX2_init 24 = .ok (.bipush 28, 2) := by decide +kernel
theorem dX2_init_26 : decode cX2_init 26 = .ok (.newarray .int, 2) := by decide +kernel
theorem dX2_init_28 : decode cX2_init 28 = .ok (.putfield 22, 3) := by decide +kernel
theorem dX2_init_31 : decode cX2_init 31 = .ok (.aload_n 0, 1) := by decide +kernel
theorem dX2_init_32 : decode cX2_init 32 = .ok (.bipush 7, 2) := by decide +kernel
theorem dX2_init_34 : decode cX2_init 34 = .ok (.newarray .int, 2) := by decide +kernel
theorem dX2_init_36 : decode cX2_init 36 = .ok (.putfield 25, 3) := by decide +kernel
theorem dX2_init_39 : decode cX2_init 39 = .ok (.aload_n 0, 1) := by decide +kernel
theorem dX2_init_40 : decode cX2_init 40 = .ok (.bipush 6, 2) := by decide +kernel
theorem dX2_init_42 : decode cX2_init 42 = .ok (.newarray .int, 2) := by decide +kernel
theorem dX2_init_44 : decode cX2_init 44 = .ok (.putfield 28, 3) := by decide +kernel
theorem dX2_init_47 : decode cX2_init 47 = .ok (.aload_n 0, 1) := by decide +kernel
theorem dX2_init_48 : decode cX2_init 48 = .ok (.bipush 6, 2) := by decide +kernel
theorem dX2_init_50 : decode cX2_init 50 = .ok (.newarray .int, 2) := by decide +kernel
theorem dX2_init_52 : decode cX2_init 52 = .ok (.putfield 31, 3) := by decide +kernel
theorem dX2_init_55 : decode cX2_init 55 = .ok (.aload_n 0, 1) := by decide +kernel
theorem dX2_init_56 : decode cX2_init 56 = .ok (.bipush 6, 2) := by decide +kernel
theorem dX2_init_58 : decode cX2_init 58 = .ok (.anewarray 34, 3) := by decide +kernel
theorem dX2_init_61 : decode cX2_init 61 = .ok (.putfield 36, 3) := by decide +kernel
theorem dX2_init_64 : decode cX2_init 64 = .ok (.aload_n 0, 1) := by decide +kernel
theorem dX2_init_65 : decode cX2_init 65 = .ok (.iconst 0, 1) := by decide +kernel
theorem dX2_init_66 : decode cX2_init 66 = .ok (.putfield 40, 3) := by decide +kernel
theorem dX2_init_69 : decode cX2_init 69 = .ok (.aload_n 0, 1) := by decide +kernel
theorem dX2_init_70 : decode cX2_init 70 = .ok (.iconst 0, 1) := by decide +kernel
theorem dX2_init_71 : decode cX2_init 71 = .ok (.putfield 44, 3) := by decide +kernel
theorem dX2_init_74 : decode cX2_init 74 = .ok (.aload_n 0, 1) := by decide +kernel
theorem dX2_init_75 : decode cX2_init 75 = .ok (.iconst 0, 1) := by decide +kernel
theorem dX2_init_76 : decode cX2_init 76 = .ok (.putfield 47, 3) := by decide +kernel
theorem dX2_init_79 : decode cX2_init 79 = .ok (.aload_n 0, 1) := by decide +kernel
theorem dX2_init_80 : decode cX2_init 80 = .ok (.iconst (-1), 1) := by decide +kernel
theorem dX2_init_81 : decode cX2_init 81 = .ok (.putfield 50, 3) := by decide +kernel
theorem dX2_init_84 : decode cX2_init 84 = .ok (.aload_n 0, 1) := by decide +kernel
theorem dX2_init_85 : decode cX2_init 85 = .ok (.iconst 1, 1) := by decide +kernel
theorem dX2_init_86 : decode cX2_init 86 = .ok (.putfield 53, 3) := by decide +kernel
theorem dX2_init_89 : decode cX2_init 89 = .ok (.aload_n 0, 1) := by decide +kernel
theorem dX2_init_90 : decode cX2_init 90 = .ok (.iconst 0, 1) := by decide +kernel
theorem dX2_init_91 : decode cX2_init 91 = .ok (.putfield 56, 3) := by decide +kernel
theorem dX2_init_94 : decode cX2_init 94 = .ok (.return_, 1) := by decide +kernel
theorem dX3_init_0 : decode cX3_init 0 = .ok (.aload_n 0, 1) := by decide +kernel
theorem dX3_init_1 : decode cX3_init 1 = .ok (.invokespecial 5, 3) := by decide +kernel
theorem dX3_init_4 : decode cX3_init 4 = .ok (.aload_n 0, 1) := by decide +kernel
theorem dX3_init_5 : decode cX3_init 5 = .ok (.bipush 19, 2) := by decide +kernel
theorem dX3_init_7 : decode cX3_init 7 = .ok (.newarray .int, 2) := by decide +kernel
theorem dX3_init_9 : decode cX3_init 9 = .ok (.putfield 11, 3) := by decide +kernel
theorem dX3_init_12 : decode cX3_init 12 = .ok (.aload_n 0, 1) := by decide +kernel
theorem dX3_init_13 : decode cX3_init 13 = .ok (.bipush 50, 2) := by decide +kernel
theorem dX3_init_15 : decode cX3_init 15 = .ok (.newarray .long, 2) := by decide +kernel
theorem dX3_init_17 : decode cX3_init 17 = .ok (.putfield 17, 3) := by decide +kernel
theorem dX3_init_20 : decode cX3_init 20 = .ok (.return_, 1) := by decide +kernel
theorem dX4_init_0 : decode cX4_init 0 = .ok (.aload_n 0, 1) := by decide +kernel
theorem dX4_init_1 : decode cX4_init 1 = .ok (.invokespecial 3, 3) := by decide +kernel
theorem dX4_init_4 : decode cX4_init 4 = .ok (.aload_n 0, 1) := by decide +kernel
theorem dX4_init_5 : decode cX4_init 5 = .ok (.bipush 7, 2) := by decide +kernel
theorem dX4_init_7 : decode cX4_init 7 = .ok (.newarray .int, 2) := by decide +kernel
theorem dX4_init_9 : decode cX4_init 9 = .ok (.putfield 9, 3) := by decide +kernel
theorem dX4_init_12 : decode cX4_init 12 = .ok (.aload_n 0, 1) := by decide +kernel
theorem dX4_init_13 : decode cX4_init 13 = .ok (.bipush 7, 2) := by decide +kernel
theorem dX4_init_15 : decode cX4_init 15 = .ok (.newarray .int, 2) := by decide +kernel
theorem dX4_init_17 : decode cX4_init 17 = .ok (.putfield 15, 3) := by decide +kernel
theorem dX4_init_20 : decode cX4_init 20 = .ok (.aload_n 0, 1) := by decide +kernel
theorem dX4_init_21 : decode cX4_init 21 = .ok (.iconst 0, 1) := by decide +kernel
theorem dX4_init_22 : decode cX4_init 22 = .ok (.putfield 18, 3) := by decide +kernel
theorem dX4_init_25 : decode cX4_init 25 = .ok (.aload_n 0, 1) := by decide +kernel
theorem dX4_init_26 : decode cX4_init 26 = .ok (.iconst 0, 1) := by decide +kernel
theorem dX4_init_27 : decode cX4_init 27 = .ok (.putfield 22, 3) := by decide +kernel
theorem dX4_init_30 : decode cX4_init 30 = .ok (.aload_n 0, 1) := by decide +kernel
theorem dX4_init_31 : decode cX4_init 31 = .ok (.iconst 0, 1) := by decide +kernel
theorem dX4_init_32 : decode cX4_init 32 = .ok (.putfield 25, 3) := by decide +kernel
theorem dX4_init_35 : decode cX4_init 35 = .ok (.return_, 1) := by decide +kernel
theorem dX5_init_0 : decode cX5_init 0 = .ok (.aload_n 0, 1) := by decide +kernel
theorem dX5_init_1 : decode cX5_init 1 = .ok (.invokespecial 3, 3) := by decide +kernel
theorem dX5_init_4 : decode cX5_init 4 = .ok (.aload_n 0, 1) := by decide +kernel
theorem dX5_init_5 : decode cX5_init 5 = .ok (.bipush 16, 2) := by decide +kernel
theorem dX5_init_7 : decode cX5_init 7 = .ok (.newarray .int, 2) := by decide +kernel
theorem dX5_init_9 : decode cX5_init 9 = .ok (.putfield 9, 3) := by decide +kernel
theorem dX5_init_12 : decode cX5_init 12 = .ok (.aload_n 0, 1) := by decide +kernel
theorem dX5_init_13 : decode cX5_init 13 = .ok (.sipush 272, 3) := by decide +kernel
theorem dX5_init_16 : decode cX5_init 16 = .ok (.newarray .int, 2) := by decide +kernel
theorem dX5_init_18 : decode cX5_init 18 = .ok (.putfield 17, 3) := by decide +kernel
theorem dX5_init_21 : decode cX5_init 21 = .ok (.aload_n 0, 1) := by decide +kernel
theorem dX5_init_22 : decode cX5_init 22 = .ok (.iconst 0, 1) := by decide +kernel
theorem dX5_init_23 : decode cX5_init 23 = .ok (.putfield 20, 3) := by decide +kernel
theorem dX5_init_26 : decode cX5_init 26 = .ok (.aload_n 0, 1) := by decide +kernel
theorem dX5_init_27 : decode cX5_init 27 = .ok (.iconst 0, 1) := by decide +kernel
theorem dX5_init_28 : decode cX5_init 28 = .ok (.putfield 24, 3) := by decide +kernel
theorem dX5_init_31 : decode cX5_init 31 = .ok (.return_, 1) := by decide +kernel
theorem dX6_init_0 : decode cX6_init 0 = .ok (.aload_n 0, 1) := by decide +kernel
theorem dX6_init_1 : decode cX6_init 1 = .ok (.invokespecial 3, 3) := by decide +kernel
theorem dX6_init_4 : decode cX6_init 4 = .ok (.aload_n 0, 1) := by decide +kernel
theorem dX6_init_5 : decode cX6_init 5 = .ok (.sipush 400, 3) := by decide +kernel
theorem dX6_init_8 : decode cX6_init 8 = .ok (.newarray .int, 2) := by decide +kernel
theorem dX6_init_10 : decode cX6_init 10 = .ok (.putfield 11, 3) := by decide +kernel
theorem dX6_init_13 : decode cX6_init 13 = .ok (.aload_n 0, 1) := by decide +kernel
theorem dX6_init_14 : decode cX6_init 14 = .ok (.new 15, 3) := by decide +kernel
theorem dX6_init_17 : decode cX6_init 17 = .ok (.dup, 1) := by decide +kernel
theorem dX6_init_18 : decode cX6_init 18 = .ok (.bipush 12, 2) := by decide +kernel
theorem dX6_init_20 : decode cX6_init 20 = .ok (.sipush 400, 3) := by decide +kernel
theorem dX6_init_23 : decode cX6_init 23 = .ok (.invokespecial 17, 3) := by decide +kernel
theorem dX6_init_26 : decode cX6_init 26 = .ok (.putfield 20, 3) := by decide +kernel
theorem dX6_init_29 : decode cX6_init 29 = .ok (.aload_n 0, 1) := by decide +kernel
theorem dX6_init_30 : decode cX6_init 30 = .ok (.iconst 0, 1) := by decide +kernel
theorem dX6_init_31 : decode cX6_init 31 = .ok (.putfield 24, 3) := by decide +kernel
theorem dX6_init_34 : decode cX6_init 34 = .ok (.aload_n 0, 1) := by decide +kernel
theorem dX6_init_35 : decode cX6_init 35 = .ok (.iconst (-1), 1) := by decide +kernel
theorem dX6_init_36 : decode cX6_init 36 = .ok (.putfield 28, 3) := by decide +kernel
theorem dX6_init_39 : decode cX6_init 39 = .ok (.aload_n 0, 1) := by decide +kernel
theorem dX6_init_40 : decode cX6_init 40 = .ok (.iconst 0, 1) := by decide +kernel
theorem dX6_init_41 : decode cX6_init 41 = .ok (.putfield 31, 3) := by decide +kernel
theorem dX6_init_44 : decode cX6_init 44 = .ok (.aload_n 0, 1) := by decide +kernel
theorem dX6_init_45 : decode cX6_init 45 = .ok (.iconst 0, 1) := by decide +kernel
theorem dX6_init_46 : decode cX6_init 46 = .ok (.putfield 35, 3) := by decide +kernel
theorem dX6_init_49 : decode cX6_init 49 = .ok (.aload_n 0, 1) := by decide +kernel
theorem dX6_init_50 : decode cX6_init 50 = .ok (.iconst 0, 1) := by decide +kernel
theorem dX6_init_51 : decode cX6_init 51 = .ok (.putfield 38, 3) := by decide +kernel
theorem dX6_init_54 : decode cX6_init 54 = .ok (.aload_n 0, 1) := by decide +kernel
theorem dX6_init_55 : decode cX6_init 55 = .ok (.iconst 0, 1) := by decide +kernel
theorem dX6_init_56 : decode cX6_init 56 = .ok (.putfield 41, 3) := by decide +kernel
theorem dX6_init_59 : decode cX6_init 59 = .ok (.aload_n 0, 1) := by decide +kernel
theorem dX6_init_60 : decode cX6_init 60 = .ok (.iconst 0, 1) := by decide +kernel
theorem dX6_init_61 : decode cX6_init 61 = .ok (.putfield 44, 3) := by decide +kernel
theorem dX6_init_64 : decode cX6_init 64 = .ok (.aload_n 0, 1) := by decide +kernel
theorem dX6_init_65 : decode cX6_init 65 = .ok (.iconst 0, 1) := by decide +kernel
theorem dX6_init_66 : decode cX6_init 66 = .ok (.putfield 47, 3) := by decide +kernel
theorem dX6_init_69 : decode cX6_init 69 = .ok (.return_, 1) := by decide +kernel
theorem dX7_init_0 : decode cX7_init 0 = .ok (.aload_n 0, 1) := by decide +kernel
theorem dX7_init_1 : decode cX7_init 1 = .ok (.invokespecial 3, 3) := by decide +kernel
theorem dX7_init_4 : decode cX7_init 4 = .ok (.aload_n 0, 1) := by decide +kernel
theorem dX7_init_5 : decode cX7_init 5 = .ok (.bipush 7, 2) := by decide +kernel
theorem dX7_init_7 : decode cX7_init 7 = .ok (.newarray .int, 2) := by decide +kernel
theorem dX7_init_9 : decode cX7_init 9 = .ok (.putfield 9, 3) := by decide +kernel
theorem dX7_init_12 : decode cX7_init 12 = .ok (.aload_n 0, 1) := by decide +kernel
theorem dX7_init_13 : decode cX7_init 13 = .ok (.bipush 7, 2) := by decide +kernel
theorem dX7_init_15 : decode cX7_init 15 = .ok (.newarray .int, 2) := by decide +kernel
theorem dX7_init_17 : decode cX7_init 17 = .ok (.putfield 15, 3) := by decide +kernel
theorem dX7_init_20 : decode cX7_init 20 = .ok (.aload_n 0, 1) := by decide +kernel
theorem dX7_init_21 : decode cX7_init 21 = .ok (.sipush 640, 3) := by decide +kernel
theorem dX7_init_24 : decode cX7_init 24 = .ok (.newarray .int, 2) := by decide +kernel
theorem dX7_init_26 : decode cX7_init 26 = .ok (.putfield 18, 3) := by decide +kernel
theorem dX7_init_29 : decode cX7_init 29 = .ok (.aload_n 0, 1) := by decide +kernel
theorem dX7_init_30 : decode cX7_init 30 = .ok (.bipush 28, 2) := by decide +kernel
theorem dX7_init_32 : decode cX7_init 32 = .ok (.newarray .int, 2) := by decide +kernel
theorem dX7_init_34 : decode cX7_init 34 = .ok (.putfield 21, 3) := by decide +kernel
theorem dX7_init_37 : decode cX7_init 37 = .ok (.aload_n 0, 1) := by decide +kernel
theorem dX7_init_38 : decode cX7_init 38 = .ok (.bipush 10, 2) := by decide +kernel
theorem dX7_init_40 : decode cX7_init 40 = .ok (.newarray .int, 2) := by decide +kernel
theorem dX7_init_42 : decode cX7_init 42 = .ok (.putfield 24, 3) := by decide +kernel
theorem dX7_init_45 : decode cX7_init 45 = .ok (.aload_n 0, 1) := by decide +kernel
theorem dX7_init_46 : decode cX7_init 46 = .ok (.bipush 61, 2) := by decide +kernel
theorem dX7_init_48 : decode cX7_init 48 = .ok (.newarray .long, 2) := by decide +kernel
theorem dX7_init_50 : decode cX7_init 50 = .ok (.putfield 27, 3) := by decide +kernel
theorem dX7_init_53 : decode cX7_init 53 = .ok (.aload_n 0, 1) := by decide +kernel
theorem dX7_init_54 : decode cX7_init 54 = .ok (.bipush 20, 2) := by decide +kernel
theorem dX7_init_56 : decode cX7_init 56 = .ok (.newarray .long, 2) := by decide +kernel
theorem dX7_init_58 : decode cX7_init 58 = .ok (.putfield 31, 3) := by decide +kernel
theorem dX7_init_61 : decode cX7_init 61 = .ok (.aload_n 0, 1) := by decide +kernel
theorem dX7_init_62 : decode cX7_init 62 = .ok (.iconst 0, 1) := by decide +kernel
theorem dX7_init_63 : decode cX7_init 63 = .ok (.putfield 34, 3) := by decide +kernel
theorem dX7_init_66 : decode cX7_init 66 = .ok (.aload_n 0, 1) := by decide +kernel
theorem dX7_init_67 : decode cX7_init 67 = .ok (.aload_n 1, 1) := by decide +kernel
theorem dX7_init_68 : decode cX7_init 68 = .ok (.putfield 38, 3) := by decide +kernel
theorem dX7_init_71 : decode cX7_init 71 = .ok (.aload_n 0, 1) := by decide +kernel
theorem dX7_init_72 : decode cX7_init 72 = .ok (.aload_n 1, 1) := by decide +kernel
theorem dX7_init_73 : decode cX7_init 73 = .ok (.getfield 42, 3) := by decide +kernel
theorem dX7_init_76 : decode cX7_init 76 = .ok (.putfield 48, 3) := by decide +kernel
theorem dX7_init_79 : decode cX7_init 79 = .ok (.return_, 1) := by decide +kernel
theorem dX8_init_0 : decode cX8_init 0 = .ok (.aload_n 0, 1) := by decide +kernel
theorem dX8_init_1 : decode cX8_init 1 = .ok (.invokespecial 1, 3) := by decide +kernel
theorem dX8_init_4 : decode cX8_init 4 = .ok (.aload_n 0, 1) := by decide +kernel
theorem dX8_init_5 : decode cX8_init 5 = .ok (.new 7, 3) := by decide +kernel
theorem dX8_init_8 : decode cX8_init 8 = .ok (.dup, 1) := by decide +kernel
theorem dX8_init_9 : decode cX8_init 9 = .ok (.invokespecial 9, 3) := by decide +kernel
theorem dX8_init_12 : decode cX8_init 12 = .ok (.putfield 10, 3) := by decide +kernel
theorem dX8_init_15 : decode cX8_init 15 = .ok (.aload_n 0, 1) := by decide +kernel
theorem dX8_init_16 : decode cX8_init 16 = .ok (.new 16, 3) := by decide +kernel
theorem dX8_init_19 : decode cX8_init 19 = .ok (.dup, 1) := by decide +kernel
theorem dX8_init_20 : decode cX8_init 20 = .ok (.invokespecial 18, 3) := by decide +kernel
theorem dX8_init_23 : decode cX8_init 23 = .ok (.putfield 19, 3) := by decide +kernel
theorem dX8_init_26 : decode cX8_init 26 = .ok (.aload_n 0, 1) := by decide +kernel
theorem dX8_init_27 : decode cX8_init 27 = .ok (.new 23, 3) := by decide +kernel
theorem dX8_init_30 : decode cX8_init 30 = .ok (.dup, 1) := by decide +kernel
theorem dX8_init_31 : decode cX8_init 31 = .ok (.invokespecial 25, 3) := by decide +kernel
theorem dX8_init_34 : decode cX8_init 34 = .ok (.putfield 26, 3) := by decide +kernel
theorem dX8_init_37 : decode cX8_init 37 = .ok (.aload_n 0, 1) := by decide +kernel
theorem dX8_init_38 : decode cX8_init 38 = .ok (.new 30, 3) := by decide +kernel
theorem dX8_init_41 : decode cX8_init 41 = .ok (.dup, 1) := by decide +kernel
theorem dX8_init_42 : decode cX8_init 42 = .ok (.aload_n 0, 1) := by decide +kernel
theorem dX8_init_43 : decode cX8_init 43 = .ok (.getfield 26, 3) := by decide +kernel
theorem dX8_init_46 : decode cX8_init 46 = .ok (.aload_n 0, 1) := by decide +kernel
theorem dX8_init_47 : decode cX8_init 47 = .ok (.getfield 19, 3) := by decide +kernel
theorem dX8_init_50 : decode cX8_init 50 = .ok (.invokespecial 32, 3) := by decide +kernel
theorem dX8_init_53 : decode cX8_init 53 = .ok (.putfield 35, 3) := by decide +kernel
theorem dX8_init_56 : decode cX8_init 56 = .ok (.aload_n 0, 1) := by decide +kernel
theorem dX8_init_57 : decode cX8_init 57 = .ok (.new 39, 3) := by decide +kernel
theorem dX8_init_60 : decode cX8_init 60 = .ok (.dup, 1) := by decide +kernel
theorem dX8_init_61 : decode cX8_init 61 = .ok (.aload_n 0, 1) := by decide +kernel
theorem dX8_init_62 : decode cX8_init 62 = .ok (.getfield 35, 3) := by decide +kernel
theorem dX8_init_65 : decode cX8_init 65 = .ok (.invokespecial 41, 3) := by decide +kernel
theorem dX8_init_68 : decode cX8_init 68 = .ok (.putfield 44, 3) := by decide +kernel
theorem dX8_init_71 : decode cX8_init 71 = .ok (.aload_n 0, 1) := by decide +kernel
theorem dX8_init_72 : decode cX8_init 72 = .ok (.new 23, 3) := by decide +kernel
theorem dX8_init_75 : decode cX8_init 75 = .ok (.dup, 1) := by decide +kernel
theorem dX8_init_76 : decode cX8_init 76 = .ok (.invokespecial 25, 3) := by decide +kernel
theorem dX8_init_79 : decode cX8_init 79 = .ok (.putfield 48, 3) := by decide +kernel
theorem dX8_init_82 : decode cX8_init 82 = .ok (.aload_n 0, 1) := by decide +kernel
theorem dX8_init_83 : decode cX8_init 83 = .ok (.new 30, 3) := by decide +kernel
theorem dX8_init_86 : decode cX8_init 86 = .ok (.dup, 1) := by decide +kernel
theorem dX8_init_87 : decode cX8_init 87 = .ok (.aload_n 0, 1) := by decide +kernel
theorem dX8_init_88 : decode cX8_init 88 = .ok (.getfield 48, 3) := by decide +kernel
theorem dX8_init_91 : decode cX8_init 91 = .ok (.aload_n 0, 1) := by decide +kernel
theorem dX8_init_92 : decode cX8_init 92 = .ok (.getfield 19, 3) := by decide +kernel
theorem dX8_init_95 : decode cX8_init 95 = .ok (.invokespecial 32, 3) := by decide +kernel
theorem dX8_init_98 : decode cX8_init 98 = .ok (.putfield 51, 3) := by decide +kernel
theorem dX8_init_101 : decode cX8_init 101 = .ok (.aload_n 0, 1) := by decide +kernel
theorem dX8_init_102 : decode cX8_init 102 = .ok (.iconst 2, 1) := by decide +kernel
theorem dX8_init_103 : decode cX8_init 103 = .ok (.anewarray 23, 3) := by decide +kernel
theorem dX8_init_106 : decode cX8_init 106 = .ok (.putfield 54, 3) := by decide +kernel
theorem dX8_init_109 : decode cX8_init 109 = .ok (.aload_n 0, 1) := by decide +kernel
theorem dX8_init_110 : decode cX8_init 110 = .ok (.new 58, 3) := by decide +kernel
theorem dX8_init_113 : decode cX8_init 113 = .ok (.dup, 1) := by decide +kernel
theorem dX8_init_114 : decode cX8_init 114 = .ok (.invokespecial 60, 3) := by decide +kernel
theorem dX8_init_117 : decode cX8_init 117 = .ok (.putfield 61, 3) := by decide +kernel
theorem dX8_init_120 : decode cX8_init 120 = .ok (.aload_n 0, 1) := by decide +kernel
theorem dX8_init_121 : decode cX8_init 121 = .ok (.new 58, 3) := by decide +kernel
theorem dX8_init_124 : decode cX8_init 124 = .ok (.dup, 1) := by decide +kernel
theorem dX8_init_125 : decode cX8_init 125 = .ok (.invokespecial 60, 3) := by decide +kernel
theorem dX8_init_128 : decode cX8_init 128 = .ok (.putfield 65, 3) := by decide +kernel
theorem dX8_init_131 : decode cX8_init 131 = .ok (.aload_n 0, 1) := by decide +kernel
theorem dX8_init_132 : decode cX8_init 132 = .ok (.new 68, 3) := by decide +kernel
theorem dX8_init_135 : decode cX8_init 135 = .ok (.dup, 1) := by decide +kernel
theorem dX8_init_136 : decode cX8_init 136 = .ok (.invokespecial 70, 3) := by decide +kernel
theorem dX8_init_139 : decode cX8_init 139 = .ok (.putfield 71, 3) := by decide +kernel
theorem dX8_init_142 : decode cX8_init 142 = .ok (.aload_n 0, 1) := by decide +kernel
theorem dX8_init_143 : decode cX8_init 143 = .ok (.bipush 7, 2) := by decide +kernel
theorem dX8_init_145 : decode cX8_init 145 = .ok (.newarray .int, 2) := by decide +kernel
theorem dX8_init_147 : decode cX8_init 147 = .ok (.putfield 75, 3) := by decide +kernel
theorem dX8_init_150 : decode cX8_init 150 = .ok (.aload_n 0, 1) := by decide +kernel
theorem dX8_init_151 : decode cX8_init 151 = .ok (.iconst 0, 1) := by decide +kernel
theorem dX8_init_152 : decode cX8_init 152 = .ok (.putfield 79, 3) := by decide +kernel
theorem dX8_init_155 : decode cX8_init 155 = .ok (.aload_n 0, 1) := by decide +kernel
theorem dX8_init_156 : decode cX8_init 156 = .ok (.iconst 0, 1) := by decide +kernel
theorem dX8_init_157 : decode cX8_init 157 = .ok (.putfield 83, 3) := by decide +kernel
theorem dX8_init_160 : decode cX8_init 160 = .ok (.aload_n 0, 1) := by decide +kernel
theorem dX8_init_161 : decode cX8_init 161 = .ok (.iconst (-1), 1) := by decide +kernel
theorem dX8_init_162 : decode cX8_init 162 = .ok (.putfield 86, 3) := by decide +kernel
theorem dX8_init_165 : decode cX8_init 165 = .ok (.aload_n 0, 1) := by decide +kernel
theorem dX8_init_166 : decode cX8_init 166 = .ok (.iconst 0, 1) := by decide +kernel
theorem dX8_init_167 : decode cX8_init 167 = .ok (.putfield 89, 3) := by decide +kernel
theorem dX8_init_170 : decode cX8_init 170 = .ok (.aload_n 0, 1) := by decide +kernel
theorem dX8_init_171 : decode cX8_init 171 = .ok (.iconst (-1), 1) := by decide +kernel
theorem dX8_init_172 : decode cX8_init 172 = .ok (.putfield 92, 3) := by decide +kernel
theorem dX8_init_175 : decode cX8_init 175 = .ok (.return_, 1) := by decide +kernel
theorem dX9_init_0 : decode cX9_init 0 = .ok (.aload_n 0, 1) := by decide +kernel
theorem dX9_init_1 : decode cX9_init 1 = .ok (.invokespecial 1, 3) := by decide +kernel
theorem dX9_init_4 : decode cX9_init 4 = .ok (.aload_n 0, 1) := by decide +kernel
theorem dX9_init_5 : decode cX9_init 5 = .ok (.bipush 7, 2) := by decide +kernel
theorem dX9_init_7 : decode cX9_init 7 = .ok (.newarray .int, 2) := by decide +kernel
theorem dX9_init_9 : decode cX9_init 9 = .ok (.putfield 7, 3) := by decide +kernel
theorem dX9_init_12 : decode cX9_init 12 = .ok (.aload_n 0, 1) := by decide +kernel
theorem dX9_init_13 : decode cX9_init 13 = .ok (.sipush 5484, 3) := by decide +kernel
theorem dX9_init_16 : decode cX9_init 16 = .ok (.newarray .int, 2) := by decide +kernel
theorem dX9_init_18 : decode cX9_init 18 = .ok (.putfield 13, 3) := by decide +kernel
theorem dX9_init_21 : decode cX9_init 21 = .ok (.aload_n 0, 1) := by decide +kernel
theorem dX9_init_22 : decode cX9_init 22 = .ok (.sipush 10968, 3) := by decide +kernel
theorem dX9_init_25 : decode cX9_init 25 = .ok (.newarray .int, 2) := by decide +kernel
theorem dX9_init_27 : decode cX9_init 27 = .ok (.putfield 16, 3) := by decide +kernel
theorem dX9_init_30 : decode cX9_init 30 = .ok (.aload_n 0, 1) := by decide +kernel
theorem dX9_init_31 : decode cX9_init 31 = .ok (.iconst 2, 1) := by decide +kernel
theorem dX9_init_32 : decode cX9_init 32 = .ok (.newarray .boolean, 2) := by decide +kernel
theorem dX9_init_34 : decode cX9_init 34 = .ok (.putfield 19, 3) := by decide +kernel
theorem dX9_init_37 : decode cX9_init 37 = .ok (.aload_n 0, 1) := by decide +kernel
theorem dX9_init_38 : decode cX9_init 38 = .ok (.sipush 450, 3) := by decide +kernel
theorem dX9_init_41 : decode cX9_init 41 = .ok (.newarray .int, 2) := by decide +kernel
theorem dX9_init_43 : decode cX9_init 43 = .ok (.putfield 23, 3) := by decide +kernel
theorem dX9_init_46 : decode cX9_init 46 = .ok (.aload_n 0, 1) := by decide +kernel
theorem dX9_init_47 : decode cX9_init 47 = .ok (.bipush 16, 2) := by decide +kernel
theorem dX9_init_49 : decode cX9_init 49 = .ok (.newarray .int, 2) := by decide +kernel
theorem dX9_init_51 : decode cX9_init 51 = .ok (.putfield 26, 3) := by decide +kernel
theorem dX9_init_54 : decode cX9_init 54 = .ok (.aload_n 0, 1) := by decide +kernel
theorem dX9_init_55 : decode cX9_init 55 = .ok (.sipush 400, 3) := by decide +kernel
theorem dX9_init_58 : decode cX9_init 58 = .ok (.newarray .int, 2) := by decide +kernel
theorem dX9_init_60 : decode cX9_init 60 = .ok (.putfield 29, 3) := by decide +kernel
theorem dX9_init_63 : decode cX9_init 63 = .ok (.aload_n 0, 1) := by decide +kernel
theorem dX9_init_64 : decode cX9_init 64 = .ok (.bipush 16, 2) := by decide +kernel
theorem dX9_init_66 : decode cX9_init 66 = .ok (.newarray .int, 2) := by decide +kernel
theorem dX9_init_68 : decode cX9_init 68 = .ok (.putfield 32, 3) := by decide +kernel
theorem dX9_init_71 : decode cX9_init 71 = .ok (.aload_n 0, 1) := by decide +kernel
theorem dX9_init_72 : decode cX9_init 72 = .ok (.sipush 400, 3) := by decide +kernel
theorem dX9_init_75 : decode cX9_init 75 = .ok (.newarray .int, 2) := by decide +kernel
theorem dX9_init_77 : decode cX9_init 77 = .ok (.putfield 35, 3) := by decide +kernel
theorem dX9_init_80 : decode cX9_init 80 = .ok (.aload_n 0, 1) := by decide +kernel
theorem dX9_init_81 : decode cX9_init 81 = .ok (.iconst (-1), 1) := by decide +kernel
theorem dX9_init_82 : decode cX9_init 82 = .ok (.putfield 38, 3) := by decide +kernel
theorem dX9_init_85 : decode cX9_init 85 = .ok (.aload_n 0, 1) := by decide +kernel
theorem dX9_init_86 : decode cX9_init 86 = .ok (.bipush 96, 2) := by decide +kernel
theorem dX9_init_88 : decode cX9_init 88 = .ok (.newarray .int, 2) := by decide +kernel
theorem dX9_init_90 : decode cX9_init 90 = .ok (.putfield 42, 3) := by decide +kernel
theorem dX9_init_93 : decode cX9_init 93 = .ok (.aload_n 0, 1) := by decide +kernel
theorem dX9_init_94 : decode cX9_init 94 = .ok (.sipush 400, 3) := by decide +kernel
theorem dX9_init_97 : decode cX9_init 97 = .ok (.newarray .int, 2) := by decide +kernel
theorem dX9_init_99 : decode cX9_init 99 = .ok (.putfield 45, 3) := by decide +kernel
theorem dX9_init_102 : decode cX9_init 102 = .ok (.aload_n 0, 1) := by decide +kernel
theorem dX9_init_103 : decode cX9_init 103 = .ok (.sipush 400, 3) := by decide +kernel
theorem dX9_init_106 : decode cX9_init 106 = .ok (.newarray .int, 2) := by decide +kernel
theorem dX9_init_108 : decode cX9_init 108 = .ok (.putfield 48, 3) := by decide +kernel
theorem dX9_init_111 : decode cX9_init 111 = .ok (.aload_n 0, 1) := by decide +kernel
theorem dX9_init_112 : decode cX9_init 112 = .ok (.sipush 400, 3) := by decide +kernel
theorem dX9_init_115 : decode cX9_init 115 = .ok (.newarray .int, 2) := by decide +kernel
theorem dX9_init_117 : decode cX9_init 117 = .ok (.putfield 51, 3) := by decide +kernel
theorem dX9_init_120 : decode cX9_init 120 = .ok (.aload_n 0, 1) := by decide +kernel
theorem dX9_init_121 : decode cX9_init 121 = .ok (.sipush 400, 3) := by decide +kernel
theorem dX9_init_124 : decode cX9_init 124 = .ok (.newarray .int, 2) := by decide +kernel
theorem dX9_init_126 : decode cX9_init 126 = .ok (.putfield 54, 3) := by decide +kernel
theorem dX9_init_129 : decode cX9_init 129 = .ok (.aload_n 0, 1) := by decide +kernel
theorem dX9_init_130 : decode cX9_init 130 = .ok (.bipush 9, 2) := by decide +kernel
theorem dX9_init_132 : decode cX9_init 132 = .ok (.newarray .long, 2) := by decide +kernel
theorem dX9_init_134 : decode cX9_init 134 = .ok (.dup, 1) := by decide +kernel
theorem dX9_init_135 : decode cX9_init 135 = .ok (.iconst 0, 1) := by decide +kernel
theorem dX9_init_136 : decode cX9_init 136 = .ok (.ldc2_w 57, 3) := by decide +kernel
theorem dX9_init_139 : decode cX9_init 139 = .ok (.lastore, 1) := by decide +kernel
theorem dX9_init_140 : decode cX9_init 140 = .ok (.dup, 1) := by decide +kernel
theorem dX9_init_141 : decode cX9_init 141 = .ok (.iconst 1, 1) := by decide +kernel
theorem dX9_init_142 : decode cX9_init 142 = .ok (.ldc2_w 59, 3) := by decide +kernel
theorem dX9_init_145 : decode cX9_init 145 = .ok (.lastore, 1) := by decide +kernel
theorem dX9_init_146 : decode cX9_init 146 = .ok (.dup, 1) := by decide +kernel
theorem dX9_init_147 : decode cX9_init 147 = .ok (.iconst 2, 1) := by decide +kernel
theorem dX9_init_148 : decode cX9_init 148 = .ok (.ldc2_w 61, 3) := by decide +kernel
theorem dX9_init_151 : decode cX9_init 151 = .ok (.lastore, 1) := by decide +kernel
theorem dX9_init_152 : decode cX9_init 152 = .ok (.dup, 1) := by decide +kernel
theorem dX9_init_153 : decode cX9_init 153 = .ok (.iconst 3, 1) := by decide +kernel
theorem dX9_init_154 : decode cX9_init 154 = .ok (.ldc2_w 63, 3) := by decide +kernel
theorem dX9_init_157 : decode cX9_init 157 = .ok (.lastore, 1) := by decide +kernel
theorem dX9_init_158 : decode cX9_init 158 = .ok (.dup, 1) := by decide +kernel
theorem dX9_init_159 : decode cX9_init 159 = .ok (.iconst 4, 1) := by decide +kernel
theorem dX9_init_160 : decode cX9_init 160 = .ok (.ldc2_w 65, 3) := by decide +kernel
theorem dX9_init_163 : decode cX9_init 163 = .ok (.lastore, 1) := by decide +kernel
theorem dX9_init_164 : decode cX9_init 164 = .ok (.dup, 1) := by decide +kernel
theorem dX9_init_165 : decode cX9_init 165 = .ok (.iconst 5, 1) := by decide +kernel
theorem dX9_init_166 : decode cX9_init 166 = .ok (.ldc2_w 67, 3) := by decide +kernel
theorem dX9_init_169 : decode cX9_init 169 = .ok (.lastore, 1) := by decide +kernel
theorem dX9_init_170 : decode cX9_init 170 = .ok (.dup, 1) := by decide +kernel
theorem dX9_init_171 : decode cX9_init 171 = .ok (.bipush 6, 2) := by decide +kernel
theorem dX9_init_173 : decode cX9_init 173 = .ok (.ldc2_w 69, 3) := by decide +kernel
theorem dX9_init_176 : decode cX9_init 176 = .ok (.lastore, 1) := by decide +kernel
theorem dX9_init_177 : decode cX9_init 177 = .ok (.dup, 1) := by decide +kernel
theorem dX9_init_178 : decode cX9_init 178 = .ok (.bipush 7, 2) := by decide +kernel
theorem dX9_init_180 : decode cX9_init 180 = .ok (.ldc2_w 71, 3) := by decide +kernel
theorem dX9_init_183 : decode cX9_init 183 = .ok (.lastore, 1) := by decide +kernel
theorem dX9_init_184 : decode cX9_init 184 = .ok (.dup, 1) := by decide +kernel
theorem dX9_init_185 : decode cX9_init 185 = .ok (.bipush 8, 2) := by decide +kernel
theorem dX9_init_187 : decode cX9_init 187 = .ok (.ldc2_w 73, 3) := by decide +kernel
theorem dX9_init_190 : decode cX9_init 190 = .ok (.lastore, 1) := by decide +kernel
theorem dX9_init_191 : decode cX9_init 191 = .ok (.putfield 75, 3) := by decide +kernel
theorem dX9_init_194 : decode cX9_init 194 = .ok (.aload_n 0, 1) := by decide +kernel
theorem dX9_init_195 : decode cX9_init 195 = .ok (.bipush 7, 2) := by decide +kernel
theorem dX9_init_197 : decode cX9_init 197 = .ok (.newarray .long, 2) := by decide +kernel
theorem dX9_init_199 : decode cX9_init 199 = .ok (.dup, 1) := by decide +kernel
theorem dX9_init_200 : decode cX9_init 200 = .ok (.iconst 0, 1) := by decide +kernel
theorem dX9_init_201 : decode cX9_init 201 = .ok (.ldc2_w 71, 3) := by decide +kernel
theorem dX9_init_204 : decode cX9_init 204 = .ok (.lastore, 1) := by decide +kernel
theorem dX9_init_205 : decode cX9_init 205 = .ok (.dup, 1) := by decide +kernel
theorem dX9_init_206 : decode cX9_init 206 = .ok (.iconst 1, 1) := by decide +kernel
theorem dX9_init_207 : decode cX9_init 207 = .ok (.ldc2_w 79, 3) := by decide +kernel
theorem dX9_init_210 : decode cX9_init 210 = .ok (.lastore, 1) := by decide +kernel
theorem dX9_init_211 : decode cX9_init 211 = .ok (.dup, 1) := by decide +kernel
theorem dX9_init_212 : decode cX9_init 212 = .ok (.iconst 2, 1) := by decide +kernel
theorem dX9_init_213 : decode cX9_init 213 = .ok (.ldc2_w 81, 3) := by decide +kernel
theorem dX9_init_216 : decode cX9_init 216 = .ok (.lastore, 1) := by decide +kernel
theorem dX9_init_217 : decode cX9_init 217 = .ok (.dup, 1) := by decide +kernel
theorem dX9_init_218 : decode cX9_init 218 = .ok (.iconst 3, 1) := by decide +kernel
theorem dX9_init_219 : decode cX9_init 219 = .ok (.ldc2_w 69, 3) := by decide +kernel
theorem dX9_init_222 : decode cX9_init 222 = .ok (.lastore, 1) := by decide +kernel
theorem dX9_init_223 : decode cX9_init 223 = .ok (.dup, 1) := by decide +kernel
theorem dX9_init_224 : decode cX9_init 224 = .ok (.iconst 4, 1) := by decide +kernel
theorem dX9_init_225 : decode cX9_init 225 = .ok (.ldc2_w 83, 3) := by decide +kernel
theorem dX9_init_228 : decode cX9_init 228 = .ok (.lastore, 1) := by decide +kernel
theorem dX9_init_229 : decode cX9_init 229 = .ok (.dup, 1) := by decide +kernel
theorem dX9_init_230 : decode cX9_init 230 = .ok (.iconst 5, 1) := by decide +kernel
theorem dX9_init_231 : decode cX9_init 231 = .ok (.ldc2_w 65, 3) := by decide +kernel
theorem dX9_init_234 : decode cX9_init 234 = .ok (.lastore, 1) := by decide +kernel
theorem dX9_init_235 : decode cX9_init 235 = .ok (.dup, 1) := by decide +kernel
theorem dX9_init_236 : decode cX9_init 236 = .ok (.bipush 6, 2) := by decide +kernel
theorem dX9_init_238 : decode cX9_init 238 = .ok (.ldc2_w 63, 3) := by decide +kernel
theorem dX9_init_241 : decode cX9_init 241 = .ok (.lastore, 1) := by decide +kernel
theorem dX9_init_242 : decode cX9_init 242 = .ok (.putfield 85, 3) := by decide +kernel
theorem dX9_init_245 : decode cX9_init 245 = .ok (.aload_n 0, 1) := by decide +kernel
theorem dX9_init_246 : decode cX9_init 246 = .ok (.iconst 4, 1) := by decide +kernel
theorem dX9_init_247 : decode cX9_init 247 = .ok (.newarray .long, 2) := by decide +kernel
theorem dX9_init_249 : decode cX9_init 249 = .ok (.dup, 1) := by decide +kernel
theorem dX9_init_250 : decode cX9_init 250 = .ok (.iconst 0, 1) := by decide +kernel
theorem dX9_init_251 : decode cX9_init 251 = .ok (.ldc2_w 88, 3) := by decide +kernel
theorem dX9_init_254 : decode cX9_init 254 = .ok (.lastore, 1) := by decide +kernel
theorem dX9_init_255 : decode cX9_init 255 = .ok (.dup, 1) := by decide +kernel
theorem dX9_init_256 : decode cX9_init 256 = .ok (.iconst 1, 1) := by decide +kernel
theorem dX9_init_257 : decode cX9_init 257 = .ok (.ldc2_w 90, 3) := by decide +kernel
theorem dX9_init_260 : decode cX9_init 260 = .ok (.lastore, 1) := by decide +kernel
theorem dX9_init_261 : decode cX9_init 261 = .ok (.dup, 1) := by decide +kernel
theorem dX9_init_262 : decode cX9_init 262 = .ok (.iconst 2, 1) := by decide +kernel
theorem dX9_init_263 : decode cX9_init 263 = .ok (.ldc2_w 92, 3) := by decide +kernel
theorem dX9_init_266 : decode cX9_init 266 = .ok (.lastore, 1) := by decide +kernel
theorem dX9_init_267 : decode cX9_init 267 = .ok (.dup, 1) := by decide +kernel
theorem dX9_init_268 : decode cX9_init 268 = .ok (.iconst 3, 1) := by decide +kernel
theorem dX9_init_269 : decode cX9_init 269 = .ok (.ldc2_w 94, 3) := by decide +kernel
theorem dX9_init_272 : decode cX9_init 272 = .ok (.lastore, 1) := by decide +kernel
theorem dX9_init_273 : decode cX9_init 273 = .ok (.putfield 96, 3) := by decide +kernel
theorem dX9_init_276 : decode cX9_init 276 = .ok (.aload_n 0, 1) := by decide +kernel
theorem dX9_init_277 : decode cX9_init 277 = .ok (.bipush 13, 2) := by decide +kernel
theorem dX9_init_279 : decode cX9_init 279 = .ok (.newarray .long, 2) := by decide +kernel
theorem dX9_init_281 : decode cX9_init 281 = .ok (.putfield 99, 3) := by decide +kernel
theorem dX9_init_284 : decode cX9_init 284 = .ok (.aload_n 0, 1) := by decide +kernel
theorem dX9_init_285 : decode cX9_init 285 = .ok (.bipush 13, 2) := by decide +kernel
theorem dX9_init_287 : decode cX9_init 287 = .ok (.newarray .long, 2) := by decide +kernel
theorem dX9_init_289 : decode cX9_init 289 = .ok (.putfield 102, 3) := by decide +kernel
theorem dX9_init_292 : decode cX9_init 292 = .ok (.aload_n 0, 1) := by decide +kernel
theorem dX9_init_293 : decode cX9_init 293 = .ok (.sipush 400, 3) := by decide +kernel
theorem dX9_init_296 : decode cX9_init 296 = .ok (.newarray .long, 2) := by decide +kernel
theorem dX9_init_298 : decode cX9_init 298 = .ok (.putfield 105, 3) := by decide +kernel
theorem dX9_init_301 : decode cX9_init 301 = .ok (.aload_n 0, 1) := by decide +kernel
theorem dX9_init_302 : decode cX9_init 302 = .ok (.bipush 7, 2) := by decide +kernel
theorem dX9_init_304 : decode cX9_init 304 = .ok (.newarray .int, 2) := by decide +kernel
theorem dX9_init_306 : decode cX9_init 306 = .ok (.putfield 108, 3) := by decide +kernel
theorem dX9_init_309 : decode cX9_init 309 = .ok (.aload_n 0, 1) := by decide +kernel
theorem dX9_init_310 : decode cX9_init 310 = .ok (.bipush 7, 2) := by decide +kernel
theorem dX9_init_312 : decode cX9_init 312 = .ok (.newarray .int, 2) := by decide +kernel
theorem dX9_init_314 : decode cX9_init 314 = .ok (.putfield 111, 3) := by decide +kernel
theorem dX9_init_317 : decode cX9_init 317 = .ok (.aload_n 0, 1) := by decide +kernel
theorem dX9_init_318 : decode cX9_init 318 = .ok (.bipush 7, 2) := by decide +kernel
theorem dX9_init_320 : decode cX9_init 320 = .ok (.newarray .boolean, 2) := by decide +kernel
theorem dX9_init_322 : decode cX9_init 322 = .ok (.putfield 114, 3) := by decide +kernel
theorem dX9_init_325 : decode cX9_init 325 = .ok (.aload_n 0, 1) := by decide +kernel
theorem dX9_init_326 : decode cX9_init 326 = .ok (.bipush 10, 2) := by decide +kernel
theorem dX9_init_328 : decode cX9_init 328 = .ok (.newarray .int, 2) := by decide +kernel
theorem dX9_init_330 : decode cX9_init 330 = .ok (.putfield 117, 3) := by decide +kernel
theorem dX9_init_333 : decode cX9_init 333 = .ok (.aload_n 0, 1) := by decide +kernel
theorem dX9_init_334 : decode cX9_init 334 = .ok (.sipush 128, 3) := by decide +kernel
theorem dX9_init_337 : decode cX9_init 337 = .ok (.newarray .int, 2) := by decide +kernel
theorem dX9_init_339 : decode cX9_init 339 = .ok (.putfield 120, 3) := by decide +kernel
theorem dX9_init_342 : decode cX9_init 342 = .ok (.aload_n 0, 1) := by decide +kernel
theorem dX9_init_343 : decode cX9_init 343 = .ok (.bipush 28, 2) := by decide +kernel
theorem dX9_init_345 : decode cX9_init 345 = .ok (.newarray .int, 2) := by decide +kernel
theorem dX9_init_347 : decode cX9_init 347 = .ok (.putfield 123, 3) := by decide +kernel
theorem dX9_init_350 : decode cX9_init 350 = .ok (.aload_n 0, 1) := by decide +kernel
theorem dX9_init_351 : decode cX9_init 351 = .ok (.iconst 5, 1) := by decide +kernel
theorem dX9_init_352 : decode cX9_init 352 = .ok (.newarray .int, 2) := by decide +kernel
theorem dX9_init_354 : decode cX9_init 354 = .ok (.putfield 126, 3) := by decide +kernel
theorem dX9_init_357 : decode cX9_init 357 = .ok (.aload_n 0, 1) := by decide +kernel
theorem dX9_init_358 : decode cX9_init 358 = .ok (.iconst 4, 1) := by decide +kernel
theorem dX9_init_359 : decode cX9_init 359 = .ok (.newarray .int, 2) := by decide +kernel
theorem dX9_init_361 : decode cX9_init 361 = .ok (.putfield 129, 3) := by decide +kernel
theorem dX9_init_364 : decode cX9_init 364 = .ok (.aload_n 0, 1) := by decide +kernel
theorem dX9_init_365 : decode cX9_init 365 = .ok (.bipush 14, 2) := by decide +kernel
theorem dX9_init_367 : decode cX9_init 367 = .ok (.newarray .int, 2) := by decide +kernel
theorem dX9_init_369 : decode cX9_init 369 = .ok (.putfield 132, 3) := by decide +kernel
theorem dX9_init_372 : decode cX9_init 372 = .ok (.aload_n 0, 1) := by decide +kernel
theorem dX9_init_373 : decode cX9_init 373 = .ok (.bipush 7, 2) := by decide +kernel
theorem dX9_init_375 : decode cX9_init 375 = .ok (.newarray .int, 2) := by decide +kernel
theorem dX9_init_377 : decode cX9_init 377 = .ok (.putfield 135, 3) := by decide +kernel
theorem dX9_init_380 : decode cX9_init 380 = .ok (.aload_n 0, 1) := by decide +kernel
theorem dX9_init_381 : decode cX9_init 381 = .ok (.bipush 61, 2) := by decide +kernel
theorem dX9_init_383 : decode cX9_init 383 = .ok (.newarray .long, 2) := by decide +kernel
theorem dX9_init_385 : decode cX9_init 385 = .ok (.putfield 138, 3) := by decide +kernel
theorem dX9_init_388 : decode cX9_init 388 = .ok (.aload_n 0, 1) := by decide +kernel
theorem dX9_init_389 : decode cX9_init 389 = .ok (.bipush 21, 2) := by decide +kernel
theorem dX9_init_391 : decode cX9_init 391 = .ok (.newarray .long, 2) := by decide +kernel
theorem dX9_init_393 : decode cX9_init 393 = .ok (.putfield 141, 3) := by decide +kernel
theorem dX9_init_396 : decode cX9_init 396 = .ok (.aload_n 0, 1) := by decide +kernel
theorem dX9_init_397 : decode cX9_init 397 = .ok (.iconst 4, 1) := by decide +kernel
theorem dX9_init_398 : decode cX9_init 398 = .ok (.newarray .long, 2) := by decide +kernel
theorem dX9_init_400 : decode cX9_init 400 = .ok (.dup, 1) := by decide +kernel
theorem dX9_init_401 : decode cX9_init 401 = .ok (.iconst 0, 1) := by decide +kernel
theorem dX9_init_402 : decode cX9_init 402 = .ok (.ldc2_w 59, 3) := by decide +kernel
theorem dX9_init_405 : decode cX9_init 405 = .ok (.lastore, 1) := by decide +kernel
theorem dX9_init_406 : decode cX9_init 406 = .ok (.dup, 1) := by decide +kernel
theorem dX9_init_407 : decode cX9_init 407 = .ok (.iconst 1, 1) := by decide +kernel
theorem dX9_init_408 : decode cX9_init 408 = .ok (.ldc2_w 144, 3) := by decide +kernel
theorem dX9_init_411 : decode cX9_init 411 = .ok (.lastore, 1) := by decide +kernel
theorem dX9_init_412 : decode cX9_init 412 = .ok (.dup, 1) := by decide +kernel
theorem dX9_init_413 : decode cX9_init 413 = .ok (.iconst 2, 1) := by decide +kernel
theorem dX9_init_414 : decode cX9_init 414 = .ok (.ldc2_w 146, 3) := by decide +kernel
theorem dX9_init_417 : decode cX9_init 417 = .ok (.lastore, 1) := by decide +kernel
theorem dX9_init_418 : decode cX9_init 418 = .ok (.dup, 1) := by decide +kernel
theorem dX9_init_419 : decode cX9_init 419 = .ok (.iconst 3, 1) := by decide +kernel
theorem dX9_init_420 : decode cX9_init 420 = .ok (.ldc2_w 148, 3) := by decide +kernel
theorem dX9_init_423 : decode cX9_init 423 = .ok (.lastore, 1) := by decide +kernel
theorem dX9_init_424 : decode cX9_init 424 = .ok (.putfield 150, 3) := by decide +kernel
theorem dX9_init_427 : decode cX9_init 427 = .ok (.aload_n 0, 1) := by decide +kernel
theorem dX9_init_428 : decode cX9_init 428 = .ok (.bipush 96, 2) := by decide +kernel
theorem dX9_init_430 : decode cX9_init 430 = .ok (.newarray .int, 2) := by decide +kernel
theorem dX9_init_432 : decode cX9_init 432 = .ok (.putfield 153, 3) := by decide +kernel
theorem dX9_init_435 : decode cX9_init 435 = .ok (.aload_n 0, 1) := by decide +kernel
theorem dX9_init_436 : decode cX9_init 436 = .ok (.iconst (-1), 1) := by decide +kernel
theorem dX9_init_437 : decode cX9_init 437 = .ok (.putfield 156, 3) := by decide +kernel
theorem dX9_init_440 : decode cX9_init 440 = .ok (.aload_n 0, 1) := by decide +kernel
theorem dX9_init_441 : decode cX9_init 441 = .ok (.bipush 25, 2) := by decide +kernel
theorem dX9_init_443 : decode cX9_init 443 = .ok (.newarray .int, 2) := by decide +kernel
theorem dX9_init_445 : decode cX9_init 445 = .ok (.putfield 159, 3) := by decide +kernel
theorem dX9_init_448 : decode cX9_init 448 = .ok (.aload_n 0, 1) := by decide +kernel
theorem dX9_init_449 : decode cX9_init 449 = .ok (.iconst (-1), 1) := by decide +kernel
theorem dX9_init_450 : decode cX9_init 450 = .ok (.putfield 162, 3) := by decide +kernel
theorem dX9_init_453 : decode cX9_init 453 = .ok (.aload_n 0, 1) := by decide +kernel
theorem dX9_init_454 : decode cX9_init 454 = .ok (.getfield 13, 3) := by decide +kernel
theorem dX9_init_457 : decode cX9_init 457 = .ok (.iconst 3, 1) := by decide +kernel
theorem dX9_init_458 : decode cX9_init 458 = .ok (.iconst (-1), 1) := by decide +kernel
theorem dX9_init_459 : decode cX9_init 459 = .ok (.iastore, 1) := by decide +kernel
theorem dX9_init_460 : decode cX9_init 460 = .ok (.aload_n 0, 1) := by decide +kernel
theorem dX9_init_461 : decode cX9_init 461 = .ok (.getfield 13, 3) := by decide +kernel
theorem dX9_init_464 : decode cX9_init 464 = .ok (.iconst 5, 1) := by decide +kernel
theorem dX9_init_465 : decode cX9_init 465 = .ok (.iconst 1, 1) := by decide +kernel
theorem dX9_init_466 : decode cX9_init 466 = .ok (.iastore, 1) := by decide +kernel
theorem dX9_init_467 : decode cX9_init 467 = .ok (.return_, 1) := by decide +kernel
