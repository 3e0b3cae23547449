theorem dX11_init_0 : decode cX11_init 0 = .ok (.aload_n 0, 1) := by decide +kernel
theorem dX11_init_1 : decode cX11_init 1 = .ok (.invokespecial 3, 3) := by decide +kernel
theorem dX11_init_4 : decode cX11_init 4 = .ok (.aload_n 0, 1) := by decide +kernel
theorem dX11_init_5 : decode cX11_init 5 = .ok (.bipush 15, 2) := by decide +kernel
theorem dX11_init_7 : decode cX11_init 7 = .ok (.newarray .byte, 2) := by decide +kernel
theorem dX11_init_9 : decode cX11_init 9 = .ok (.putfield 11, 3) := by decide +kernel
theorem dX11_init_12 : decode cX11_init 12 = .ok (.aload_n 0, 1) := by decide +kernel
theorem dX11_init_13 : decode cX11_init 13 = .ok (.iconst 0, 1) := by decide +kernel
theorem dX11_init_14 : decode cX11_init 14 = .ok (.putfield 15, 3) := by decide +kernel
theorem dX11_init_17 : decode cX11_init 17 = .ok (.return_, 1) := by decide +kernel
theorem dX10_init_0 : decode cX10_init 0 = .ok (.aload_n 0, 1) := by decide +kernel
theorem dX10_init_1 : decode cX10_init 1 = .ok (.invokespecial 1, 3) := by decide +kernel
theorem dX10_init_4 : decode cX10_init 4 = .ok (.aload_n 0, 1) := by decide +kernel
theorem dX10_init_5 : decode cX10_init 5 = .ok (.new 7, 3) := by decide +kernel
theorem dX10_init_8 : decode cX10_init 8 = .ok (.dup, 1) := by decide +kernel
theorem dX10_init_9 : decode cX10_init 9 = .ok (.invokespecial 9, 3) := by decide +kernel
theorem dX10_init_12 : decode cX10_init 12 = .ok (.putfield 10, 3) := by decide +kernel
theorem dX10_init_15 : decode cX10_init 15 = .ok (.aload_n 0, 1) := by decide +kernel
theorem dX10_init_16 : decode cX10_init 16 = .ok (.new 7, 3) := by decide +kernel
theorem dX10_init_19 : decode cX10_init 19 = .ok (.dup, 1) := by decide +kernel
theorem dX10_init_20 : decode cX10_init 20 = .ok (.invokespecial 9, 3) := by decide +kernel
theorem dX10_init_23 : decode cX10_init 23 = .ok (.putfield 16, 3) := by decide +kernel
theorem dX10_init_26 : decode cX10_init 26 = .ok (.aload_n 0, 1) := by decide +kernel
theorem dX10_init_27 : decode cX10_init 27 = .ok (.iconst 0, 1) := by decide +kernel
theorem dX10_init_28 : decode cX10_init 28 = .ok (.putfield 19, 3) := by decide +kernel
theorem dX10_init_31 : decode cX10_init 31 = .ok (.aload_n 0, 1) := by decide +kernel
theorem dX10_init_32 : decode cX10_init 32 = .ok (.iconst 0, 1) := by decide +kernel
theorem dX10_init_33 : decode cX10_init 33 = .ok (.putfield 23, 3) := by decide +kernel
theorem dX10_init_36 : decode cX10_init 36 = .ok (.aload_n 0, 1) := by decide +kernel
theorem dX10_init_37 : decode cX10_init 37 = .ok (.iconst 0, 1) := by decide +kernel
theorem dX10_init_38 : decode cX10_init 38 = .ok (.putfield 26, 3) := by decide +kernel
theorem dX10_init_41 : decode cX10_init 41 = .ok (.aload_n 0, 1) := by decide +kernel
theorem dX10_init_42 : decode cX10_init 42 = .ok (.iconst 0, 1) := by decide +kernel
theorem dX10_init_43 : decode cX10_init 43 = .ok (.putfield 29, 3) := by decide +kernel
theorem dX10_init_46 : decode cX10_init 46 = .ok (.return_, 1) := by decide +kernel
theorem dX7_init_0 : decode cX7_init 0 = .ok (.aload_n 0, 1) := by decide +kernel
theorem dX7_init_1 : decode cX7_init 1 = .ok (.invokespecial 3, 3) := by decide +kernel
theorem dX7_init_4 : decode cX7_init 4 = .ok (.aload_n 0, 1) := by decide +kernel
theorem dX7_init_5 : decode cX7_init 5 = .ok (.bipush 8, 2) := by decide +kernel
theorem dX7_init_7 : decode cX7_init 7 = .ok (.anewarray 9, 3) := by decide +kernel
theorem dX7_init_10 : decode cX7_init 10 = .ok (.putfield 11, 3) := by decide +kernel
theorem dX7_init_13 : decode cX7_init 13 = .ok (.aload_n 0, 1) := by decide +kernel
theorem dX7_init_14 : decode cX7_init 14 = .ok (.new 17, 3) := by decide +kernel
theorem dX7_init_17 : decode cX7_init 17 = .ok (.dup, 1) := by decide +kernel
theorem dX7_init_18 : decode cX7_init 18 = .ok (.invokespecial 19, 3) := by decide +kernel
theorem dX7_init_21 : decode cX7_init 21 = .ok (.putfield 20, 3) := by decide +kernel
theorem dX7_init_24 : decode cX7_init 24 = .ok (.aload_n 0, 1) := by decide +kernel
theorem dX7_init_25 : decode cX7_init 25 = .ok (.iconst 0, 1) := by decide +kernel
theorem dX7_init_26 : decode cX7_init 26 = .ok (.putfield 24, 3) := by decide +kernel
theorem dX7_init_29 : decode cX7_init 29 = .ok (.aload_n 0, 1) := by decide +kernel
theorem dX7_init_30 : decode cX7_init 30 = .ok (.iconst 0, 1) := by decide +kernel
theorem dX7_init_31 : decode cX7_init 31 = .ok (.putfield 28, 3) := by decide +kernel
theorem dX7_init_34 : decode cX7_init 34 = .ok (.aload_n 0, 1) := by decide +kernel
theorem dX7_init_35 : decode cX7_init 35 = .ok (.iconst 0, 1) := by decide +kernel
theorem dX7_init_36 : decode cX7_init 36 = .ok (.putfield 31, 3) := by decide +kernel
theorem dX7_init_39 : decode cX7_init 39 = .ok (.aload_n 0, 1) := by decide +kernel
theorem dX7_init_40 : decode cX7_init 40 = .ok (.iconst 0, 1) := by decide +kernel
theorem dX7_init_41 : decode cX7_init 41 = .ok (.putfield 34, 3) := by decide +kernel
theorem dX7_init_44 : decode cX7_init 44 = .ok (.aload_n 0, 1) := by decide +kernel
theorem dX7_init_45 : decode cX7_init 45 = .ok (.iconst 0, 1) := by decide +kernel
theorem dX7_init_46 : decode cX7_init 46 = .ok (.putfield 37, 3) := by decide +kernel
theorem dX7_init_49 : decode cX7_init 49 = .ok (.aload_n 0, 1) := by decide +kernel
theorem dX7_init_50 : decode cX7_init 50 = .ok (.iconst 0, 1) := by decide +kernel
theorem dX7_init_51 : decode cX7_init 51 = .ok (.putfield 40, 3) := by decide +kernel
theorem dX7_init_54 : decode cX7_init 54 = .ok (.aload_n 0, 1) := by decide +kernel
theorem dX7_init_55 : decode cX7_init 55 = .ok (.iconst 0, 1) := by decide +kernel
theorem dX7_init_56 : decode cX7_init 56 = .ok (.putfield 43, 3) := by decide +kernel
theorem dX7_init_59 : decode cX7_init 59 = .ok (.iconst 0, 1) := by decide +kernel
theorem dX7_init_60 : decode cX7_init 60 = .ok (.istore_n 1, 1) := by decide +kernel
theorem dX7_init_61 : decode cX7_init 61 = .ok (.iload_n 1, 1) := by decide +kernel
theorem dX7_init_62 : decode cX7_init 62 = .ok (.bipush 8, 2) := by decide +kernel
theorem dX7_init_64 : decode cX7_init 64 = .ok (.if_icmp .ge 22, 3) := by decide +kernel
theorem dX7_init_67 : decode cX7_init 67 = .ok (.aload_n 0, 1) := by decide +kernel
theorem dX7_init_68 : decode cX7_init 68 = .ok (.getfield 11, 3) := by decide +kernel
theorem dX7_init_71 : decode cX7_init 71 = .ok (.iload_n 1, 1) := by decide +kernel
theorem dX7_init_72 : decode cX7_init 72 = .ok (.new 9, 3) := by decide +kernel
theorem dX7_init_75 : decode cX7_init 75 = .ok (.dup, 1) := by decide +kernel
theorem dX7_init_76 : decode cX7_init 76 = .ok (.invokespecial 47, 3) := by decide +kernel
theorem dX7_init_79 : decode cX7_init 79 = .ok (.aastore, 1) := by decide +kernel
theorem dX7_init_80 : decode cX7_init 80 = .ok (.iinc 1 1, 3) := by decide +kernel
theorem dX7_init_83 : decode cX7_init 83 = .ok (.goto (-22), 3) := by decide +kernel
theorem dX7_init_86 : decode cX7_init 86 = .ok (.return_, 1) := by decide +kernel
theorem dX2_init_0 : decode cX2_init 0 = .ok (.aload_n 0, 1) := by decide +kernel
theorem dX2_init_1 : decode cX2_init 1 = .ok (.invokespecial 3, 3) := by decide +kernel
theorem dX2_init_4 : decode cX2_init 4 = .ok (.aload_n 0, 1) := by decide +kernel
theorem dX2_init_5 : decode cX2_init 5 = .ok (.new 9, 3) := by decide +kernel
theorem dX2_init_8 : decode cX2_init 8 = .ok (.dup, 1) := by decide +kernel
theorem dX2_init_9 : decode cX2_init 9 = .ok (.invokespecial 11, 3) := by decide +kernel
theorem dX2_init_12 : decode cX2_init 12 = .ok (.putfield 12, 3) := by decide +kernel
theorem dX2_init_15 : decode cX2_init 15 = .ok (.aload_n 0, 1) := by decide +kernel
theorem dX2_init_16 : decode cX2_init 16 = .ok (.new 9, 3) := by decide +kernel
theorem dX2_init_19 : decode cX2_init 19 = .ok (.dup, 1) := by decide +kernel
theorem dX2_init_20 : decode cX2_init 20 = .ok (.invokespecial 11, 3) := by decide +kernel
theorem dX2_init_23 : decode cX2_init 23 = .ok (.putfield 18, 3) := by decide +kernel
theorem dX2_init_26 : decode cX2_init 26 = .ok (.aload_n 0, 1) := by decide +kernel
theorem dX2_init_27 : decode cX2_init 27 = .ok (.iconst 0, 1) := by decide +kernel
theorem dX2_init_28 : decode cX2_init 28 = .ok (.putfield 21, 3) := by decide +kernel
theorem dX2_init_31 : decode cX2_init 31 = .ok (.aload_n 0, 1) := by decide +kernel
theorem dX2_init_32 : decode cX2_init 32 = .ok (.iconst 0, 1) := by decide +kernel
theorem dX2_init_33 : decode cX2_init 33 = .ok (.putfield 25, 3) := by decide +kernel
theorem dX2_init_36 : decode cX2_init 36 = .ok (.aload_n 0, 1) := by decide +kernel
theorem dX2_init_37 : decode cX2_init 37 = .ok (.iconst 0, 1) := by decide +kernel
theorem dX2_init_38 : decode cX2_init 38 = .ok (.putfield 28, 3) := by decide +kernel
theorem dX2_init_41 : decode cX2_init 41 = .ok (.aload_n 0, 1) := by decide +kernel
theorem dX2_init_42 : decode cX2_init 42 = .ok (.iconst 0, 1) := by decide +kernel
theorem dX2_init_43 : decode cX2_init 43 = .ok (.putfield 31, 3) := by decide +kernel
theorem dX2_init_46 : decode cX2_init 46 = .ok (.aload_n 0, 1) := by decide +kernel
theorem dX2_init_47 : decode cX2_init 47 = .ok (.lconst 0, 1) := by decide +kernel
theorem dX2_init_48 : decode cX2_init 48 = .ok (.putfield 34, 3) := by decide +kernel
theorem dX2_init_51 : decode cX2_init 51 = .ok (.aload_n 0, 1) := by decide +kernel
theorem dX2_init_52 : decode cX2_init 52 = .ok (.lconst 0, 1) := by decide +kernel
theorem dX2_init_53 : decode cX2_init 53 = .ok (.putfield 38, 3) := by decide +kernel
theorem dX2_init_56 : decode cX2_init 56 = .ok (.aload_n 0, 1) := by decide +kernel
theorem dX2_init_57 : decode cX2_init 57 = .ok (.lconst 0, 1) := by decide +kernel
theorem dX2_init_58 : decode cX2_init 58 = .ok (.putfield 41, 3) := by decide +kernel
theorem dX2_init_61 : decode cX2_init 61 = .ok (.aload_n 0, 1) := by decide +kernel
theorem dX2_init_62 : decode cX2_init 62 = .ok (.iconst 0, 1) := by decide +kernel
theorem dX2_init_63 : decode cX2_init 63 = .ok (.putfield 44, 3) := by decide +kernel
theorem dX2_init_66 : decode cX2_init 66 = .ok (.return_, 1) := by decide +kernel
theorem dX1_init_0 : decode cX1_init 0 = .ok (.aload_n 0, 1) := by decide +kernel
theorem dX1_init_1 : decode cX1_init 1 = .ok (.invokespecial 3, 3) := by decide +kernel
theorem dX1_init_4 : decode cX1_init 4 = .ok (.aload_n 0, 1) := by decide +kernel
theorem dX1_init_5 : decode cX1_init 5 = .ok (.bipush 24, 2) := by decide +kernel
theorem dX1_init_7 : decode cX1_init 7 = .ok (.anewarray 11, 3) := by decide +kernel
theorem dX1_init_10 : decode cX1_init 10 = .ok (.putfield 13, 3) := by decide +kernel
theorem dX1_init_13 : decode cX1_init 13 = .ok (.aload_n 0, 1) := by decide +kernel
theorem dX1_init_14 : decode cX1_init 14 = .ok (.iconst 0, 1) := by decide +kernel
theorem dX1_init_15 : decode cX1_init 15 = .ok (.putfield 17, 3) := by decide +kernel
theorem dX1_init_18 : decode cX1_init 18 = .ok (.iconst 0, 1) := by decide +kernel
theorem dX1_init_19 : decode cX1_init 19 = .ok (.istore_n 1, 1) := by decide +kernel
theorem dX1_init_20 : decode cX1_init 20 = .ok (.iload_n 1, 1) := by decide +kernel
theorem dX1_init_21 : decode cX1_init 21 = .ok (.bipush 24, 2) := by decide +kernel
theorem dX1_init_23 : decode cX1_init 23 = .ok (.if_icmp .ge 22, 3) := by decide +kernel
theorem dX1_init_26 : decode cX1_init 26 = .ok (.aload_n 0, 1) := by decide +kernel
theorem dX1_init_27 : decode cX1_init 27 = .ok (.getfield 13, 3) := by decide +kernel
theorem dX1_init_30 : decode cX1_init 30 = .ok (.iload_n 1, 1) := by decide +kernel
theorem dX1_init_31 : decode cX1_init 31 = .ok (.new 11, 3) := by decide +kernel
theorem dX1_init_34 : decode cX1_init 34 = .ok (.dup, 1) := by decide +kernel
theorem dX1_init_35 : decode cX1_init 35 = .ok (.invokespecial 21, 3) := by decide +kernel
theorem dX1_init_38 : decode cX1_init 38 = .ok (.aastore, 1) := by decide +kernel
theorem dX1_init_39 : decode cX1_init 39 = .ok (.iinc 1 1, 3) := by decide +kernel
theorem dX1_init_42 : decode cX1_init 42 = .ok (.goto (-22), 3) := by decide +kernel
theorem dX1_init_45 : decode cX1_init 45 = .ok (.return_, 1) := by decide +kernel
theorem dX9_init_0 : decode cX9_init 0 = .ok (.aload_n 0, 1) := by decide +kernel
theorem dX9_init_1 : decode cX9_init 1 = .ok (.invokespecial 1, 3) := by decide +kernel
theorem dX9_init_4 : decode cX9_init 4 = .ok (.aload_n 0, 1) := by decide +kernel
theorem dX9_init_5 : decode cX9_init 5 = .ok (.new 7, 3) := by decide +kernel
theorem dX9_init_8 : decode cX9_init 8 = .ok (.dup, 1) := by decide +kernel
theorem dX9_init_9 : decode cX9_init 9 = .ok (.invokespecial 9, 3) := by decide +kernel
theorem dX9_init_12 : decode cX9_init 12 = .ok (.putfield 10, 3) := by decide +kernel
theorem dX9_init_15 : decode cX9_init 15 = .ok (.aload_n 0, 1) := by decide +kernel
theorem dX9_init_16 : decode cX9_init 16 = .ok (.iconst 0, 1) := by decide +kernel
theorem dX9_init_17 : decode cX9_init 17 = .ok (.putfield 16, 3) := by decide +kernel
theorem dX9_init_20 : decode cX9_init 20 = .ok (.return_, 1) := by decide +kernel
theorem dX6_init_0 : decode cX6_init 0 = .ok (.aload_n 0, 1) := by decide +kernel
theorem dX6_init_1 : decode cX6_init 1 = .ok (.invokespecial 1, 3) := by decide +kernel
theorem dX6_init_4 : decode cX6_init 4 = .ok (.aload_n 0, 1) := by decide +kernel
theorem dX6_init_5 : decode cX6_init 5 = .ok (.new 7, 3) := by decide +kernel
theorem dX6_init_8 : decode cX6_init 8 = .ok (.dup, 1) := by decide +kernel
theorem dX6_init_9 : decode cX6_init 9 = .ok (.invokespecial 9, 3) := by decide +kernel
theorem dX6_init_12 : decode cX6_init 12 = .ok (.putfield 10, 3) := by decide +kernel
theorem dX6_init_15 : decode cX6_init 15 = .ok (.aload_n 0, 1) := by decide +kernel
theorem dX6_init_16 : decode cX6_init 16 = .ok (.iconst 0, 1) := by decide +kernel
theorem dX6_init_17 : decode cX6_init 17 = .ok (.putfield 16, 3) := by decide +kernel
theorem dX6_init_20 : decode cX6_init 20 = .ok (.aload_n 0, 1) := by decide +kernel
theorem dX6_init_21 : decode cX6_init 21 = .ok (.iconst 0, 1) := by decide +kernel
theorem dX6_init_22 : decode cX6_init 22 = .ok (.putfield 20, 3) := by decide +kernel
theorem dX6_init_25 : decode cX6_init 25 = .ok (.aload_n 0, 1) := by decide +kernel
theorem dX6_init_26 : decode cX6_init 26 = .ok (.iconst 0, 1) := by decide +kernel
theorem dX6_init_27 : decode cX6_init 27 = .ok (.putfield 24, 3) := by decide +kernel
theorem dX6_init_30 : decode cX6_init 30 = .ok (.aload_n 0, 1) := by decide +kernel
theorem dX6_init_31 : decode cX6_init 31 = .ok (.lconst 0, 1) := by decide +kernel
theorem dX6_init_32 : decode cX6_init 32 = .ok (.putfield 27, 3) := by decide +kernel
theorem dX6_init_35 : decode cX6_init 35 = .ok (.return_, 1) := by decide +kernel
theorem dX8_init_0 : decode cX8_init 0 = .ok (.aload_n 0, 1) := by decide +kernel
theorem dX8_init_1 : decode cX8_init 1 = .ok (.invokespecial 1, 3) := by decide +kernel
theorem dX8_init_4 : decode cX8_init 4 = .ok (.aload_n 0, 1) := by decide +kernel
theorem dX8_init_5 : decode cX8_init 5 = .ok (.new 7, 3) := by decide +kernel
theorem dX8_init_8 : decode cX8_init 8 = .ok (.dup, 1) := by decide +kernel
theorem dX8_init_9 : decode cX8_init 9 = .ok (.invokespecial 9, 3) := by decide +kernel
theorem dX8_init_12 : decode cX8_init 12 = .ok (.putfield 10, 3) := by decide +kernel
theorem dX8_init_15 : decode cX8_init 15 = .ok (.aload_n 0, 1) := by decide +kernel
theorem dX8_init_16 : decode cX8_init 16 = .ok (.lconst 0, 1) := by decide +kernel
theorem dX8_init_17 : decode cX8_init 17 = .ok (.putfield 16, 3) := by decide +kernel
theorem dX8_init_20 : decode cX8_init 20 = .ok (.return_, 1) := by decide +kernel
theorem dX0_init_0 : decode cX0_init 0 = .ok (.aload_n 0, 1) := by decide +kernel
theorem dX0_init_1 : decode cX0_init 1 = .ok (.invokespecial 3, 3) := by decide +kernel
theorem dX0_init_4 : decode cX0_init 4 = .ok (.aload_n 0, 1) := by decide +kernel
theorem dX0_init_5 : decode cX0_init 5 = .ok (.iconst 0, 1) := by decide +kernel
theorem dX0_init_6 : decode cX0_init 6 = .ok (.putfield 9, 3) := by decide +kernel
theorem dX0_init_9 : decode cX0_init 9 = .ok (.aload_n 0, 1) := by decide +kernel
theorem dX0_init_10 : decode cX0_init 10 = .ok (.iconst 0, 1) := by decide +kernel
theorem dX0_init_11 : decode cX0_init 11 = .ok (.putfield 15, 3) := by decide +kernel
theorem dX0_init_14 : decode cX0_init 14 = .ok (.aload_n 0, 1) := by decide +kernel
theorem dX0_init_15 : decode cX0_init 15 = .ok (.iconst 0, 1) := by decide +kernel
theorem dX0_init_16 : decode cX0_init 16 = .ok (.putfield 18, 3) := by decide +kernel
theorem dX0_init_19 : decode cX0_init 19 = .ok (.aload_n 0, 1) := by decide +kernel
theorem dX0_init_20 : decode cX0_init 20 = .ok (.ldc2_w 21, 3) := by decide +kernel
theorem dX0_init_23 : decode cX0_init 23 = .ok (.putfield 23, 3) := by decide +kernel
theorem dX0_init_26 : decode cX0_init 26 = .ok (.aload_n 0, 1) := by decide +kernel
theorem dX0_init_27 : decode cX0_init 27 = .ok (.ldc2_w 27, 3) := by decide +kernel
theorem dX0_init_30 : decode cX0_init 30 = .ok (.putfield 29, 3) := by decide +kernel
theorem dX0_init_33 : decode cX0_init 33 = .ok (.return_, 1) := by decide +kernel
theorem dX4_init_0 : decode cX4_init 0 = .ok (.aload_n 0, 1) := by decide +kernel
theorem dX4_init_1 : decode cX4_init 1 = .ok (.invokespecial 3, 3) := by decide +kernel
theorem dX4_init_4 : decode cX4_init 4 = .ok (.aload_n 0, 1) := by decide +kernel
theorem dX4_init_5 : decode cX4_init 5 = .ok (.new 9, 3) := by decide +kernel
theorem dX4_init_8 : decode cX4_init 8 = .ok (.dup, 1) := by decide +kernel
theorem dX4_init_9 : decode cX4_init 9 = .ok (.invokespecial 11, 3) := by decide +kernel
theorem dX4_init_12 : decode cX4_init 12 = .ok (.putfield 12, 3) := by decide +kernel
theorem dX4_init_15 : decode cX4_init 15 = .ok (.aload_n 0, 1) := by decide +kernel
theorem dX4_init_16 : decode cX4_init 16 = .ok (.new 9, 3) := by decide +kernel
theorem dX4_init_19 : decode cX4_init 19 = .ok (.dup, 1) := by decide +kernel
theorem dX4_init_20 : decode cX4_init 20 = .ok (.invokespecial 11, 3) := by decide +kernel
theorem dX4_init_23 : decode cX4_init 23 = .ok (.putfield 18, 3) := by decide +kernel
theorem dX4_init_26 : decode cX4_init 26 = .ok (.aload_n 0, 1) := by decide +kernel
theorem dX4_init_27 : decode cX4_init 27 = .ok (.iconst 0, 1) := by decide +kernel
theorem dX4_init_28 : decode cX4_init 28 = .ok (.putfield 21, 3) := by decide +kernel
theorem dX4_init_31 : decode cX4_init 31 = .ok (.aload_n 0, 1) := by decide +kernel
theorem dX4_init_32 : decode cX4_init 32 = .ok (.iconst 1, 1) := by decide +kernel
theorem dX4_init_33 : decode cX4_init 33 = .ok (.putfield 25, 3) := by decide +kernel
theorem dX4_init_36 : decode cX4_init 36 = .ok (.aload_n 0, 1) := by decide +kernel
theorem dX4_init_37 : decode cX4_init 37 = .ok (.iconst 0, 1) := by decide +kernel
theorem dX4_init_38 : decode cX4_init 38 = .ok (.putfield 28, 3) := by decide +kernel
theorem dX4_init_41 : decode cX4_init 41 = .ok (.aload_n 0, 1) := by decide +kernel
theorem dX4_init_42 : decode cX4_init 42 = .ok (.ldc2_w 31, 3) := by decide +kernel
theorem dX4_init_45 : decode cX4_init 45 = .ok (.putfield 33, 3) := by decide +kernel
theorem dX4_init_48 : decode cX4_init 48 = .ok (.return_, 1) := by decide +kernel
theorem dX5_init_0 : decode cX5_init 0 = .ok (.aload_n 0, 1) := by decide +kernel
theorem dX5_init_1 : decode cX5_init 1 = .ok (.invokespecial 3, 3) := by decide +kernel
theorem dX5_init_4 : decode cX5_init 4 = .ok (.aload_n 0, 1) := by decide +kernel
theorem dX5_init_5 : decode cX5_init 5 = .ok (.sipush 200, 3) := by decide +kernel
theorem dX5_init_8 : decode cX5_init 8 = .ok (.newarray .byte, 2) := by decide +kernel
theorem dX5_init_10 : decode cX5_init 10 = .ok (.putfield 11, 3) := by decide +kernel
theorem dX5_init_13 : decode cX5_init 13 = .ok (.aload_n 0, 1) := by decide +kernel
theorem dX5_init_14 : decode cX5_init 14 = .ok (.bipush 17, 2) := by decide +kernel
theorem dX5_init_16 : decode cX5_init 16 = .ok (.newarray .int, 2) := by decide +kernel
theorem dX5_init_18 : decode cX5_init 18 = .ok (.putfield 15, 3) := by decide +kernel
theorem dX5_init_21 : decode cX5_init 21 = .ok (.aload_n 0, 1) := by decide +kernel
theorem dX5_init_22 : decode cX5_init 22 = .ok (.iconst 0, 1) := by decide +kernel
theorem dX5_init_23 : decode cX5_init 23 = .ok (.putfield 19, 3) := by decide +kernel
theorem dX5_init_26 : decode cX5_init 26 = .ok (.aload_n 0, 1) := by decide +kernel
theorem dX5_init_27 : decode cX5_init 27 = .ok (.iconst 0, 1) := by decide +kernel
theorem dX5_init_28 : decode cX5_init 28 = .ok (.putfield 23, 3) := by decide +kernel
theorem dX5_init_31 : decode cX5_init 31 = .ok (.aload_n 0, 1) := by decide +kernel
theorem dX5_init_32 : decode cX5_init 32 = .ok (.iconst (-1), 1) := by decide +kernel
theorem dX5_init_33 : decode cX5_init 33 = .ok (.putfield 26, 3) := by decide +kernel
theorem dX5_init_36 : decode cX5_init 36 = .ok (.aload_n 0, 1) := by decide +kernel
theorem dX5_init_37 : decode cX5_init 37 = .ok (.iconst 0, 1) := by decide +kernel
theorem dX5_init_38 : decode cX5_init 38 = .ok (.putfield 29, 3) := by decide +kernel
theorem dX5_init_41 : decode cX5_init 41 = .ok (.return_, 1) := by decide +kernel
theorem dX3_init_0 : decode cX3_init 0 = .ok (.aload_n 0, 1) := by decide +kernel
theorem dX3_init_1 : decode cX3_init 1 = .ok (.invokespecial 3, 3) := by decide +kernel
theorem dX3_init_4 : decode cX3_init 4 = .ok (.aload_n 0, 1) := by decide +kernel
theorem dX3_init_5 : decode cX3_init 5 = .ok (.new 9, 3) := by decide +kernel
theorem dX3_init_8 : decode cX3_init 8 = .ok (.dup, 1) := by decide +kernel
theorem dX3_init_9 : decode cX3_init 9 = .ok (.invokespecial 11, 3) := by decide +kernel
theorem dX3_init_12 : decode cX3_init 12 = .ok (.putfield 12, 3) := by decide +kernel
theorem dX3_init_15 : decode cX3_init 15 = .ok (.aload_n 0, 1) := by decide +kernel
theorem dX3_init_16 : decode cX3_init 16 = .ok (.new 18, 3) := by decide +kernel
theorem dX3_init_19 : decode cX3_init 19 = .ok (.dup, 1) := by decide +kernel
theorem dX3_init_20 : decode cX3_init 20 = .ok (.invokespecial 20, 3) := by decide +kernel
theorem dX3_init_23 : decode cX3_init 23 = .ok (.putfield 21, 3) := by decide +kernel
theorem dX3_init_26 : decode cX3_init 26 = .ok (.aload_n 0, 1) := by decide +kernel
theorem dX3_init_27 : decode cX3_init 27 = .ok (.iconst 4, 1) := by decide +kernel
theorem dX3_init_28 : decode cX3_init 28 = .ok (.anewarray 25, 3) := by decide +kernel
theorem dX3_init_31 : decode cX3_init 31 = .ok (.putfield 27, 3) := by decide +kernel
theorem dX3_init_34 : decode cX3_init 34 = .ok (.aload_n 0, 1) := by decide +kernel
theorem dX3_init_35 : decode cX3_init 35 = .ok (.iconst 4, 1) := by decide +kernel
theorem dX3_init_36 : decode cX3_init 36 = .ok (.anewarray 31, 3) := by decide +kernel
theorem dX3_init_39 : decode cX3_init 39 = .ok (.putfield 33, 3) := by decide +kernel
theorem dX3_init_42 : decode cX3_init 42 = .ok (.aload_n 0, 1) := by decide +kernel
theorem dX3_init_43 : decode cX3_init 43 = .ok (.iconst 4, 1) := by decide +kernel
theorem dX3_init_44 : decode cX3_init 44 = .ok (.anewarray 37, 3) := by decide +kernel
theorem dX3_init_47 : decode cX3_init 47 = .ok (.putfield 39, 3) := by decide +kernel
theorem dX3_init_50 : decode cX3_init 50 = .ok (.aload_n 0, 1) := by decide +kernel
theorem dX3_init_51 : decode cX3_init 51 = .ok (.new 43, 3) := by decide +kernel
theorem dX3_init_54 : decode cX3_init 54 = .ok (.dup, 1) := by decide +kernel
theorem dX3_init_55 : decode cX3_init 55 = .ok (.invokespecial 45, 3) := by decide +kernel
theorem dX3_init_58 : decode cX3_init 58 = .ok (.putfield 46, 3) := by decide +kernel
theorem dX3_init_61 : decode cX3_init 61 = .ok (.aload_n 0, 1) := by decide +kernel
theorem dX3_init_62 : decode cX3_init 62 = .ok (.iconst 0, 1) := by decide +kernel
theorem dX3_init_63 : decode cX3_init 63 = .ok (.putfield 50, 3) := by decide +kernel
theorem dX3_init_66 : decode cX3_init 66 = .ok (.aload_n 0, 1) := by decide +kernel
theorem dX3_init_67 : decode cX3_init 67 = .ok (.iconst 0, 1) := by decide +kernel
theorem dX3_init_68 : decode cX3_init 68 = .ok (.putfield 54, 3) := by decide +kernel
theorem dX3_init_71 : decode cX3_init 71 = .ok (.aload_n 0, 1) := by decide +kernel
theorem dX3_init_72 : decode cX3_init 72 = .ok (.iconst 0, 1) := by decide +kernel
theorem dX3_init_73 : decode cX3_init 73 = .ok (.putfield 58, 3) := by decide +kernel
theorem dX3_init_76 : decode cX3_init 76 = .ok (.aload_n 0, 1) := by decide +kernel
theorem dX3_init_77 : decode cX3_init 77 = .ok (.iconst 0, 1) := by decide +kernel
theorem dX3_init_78 : decode cX3_init 78 = .ok (.putfield 61, 3) := by decide +kernel
theorem dX3_init_81 : decode cX3_init 81 = .ok (.aload_n 0, 1) := by decide +kernel
theorem dX3_init_82 : decode cX3_init 82 = .ok (.iconst 0, 1) := by decide +kernel
theorem dX3_init_83 : decode cX3_init 83 = .ok (.putfield 64, 3) := by decide +kernel
theorem dX3_init_86 : decode cX3_init 86 = .ok (.aload_n 0, 1) := by decide +kernel
theorem dX3_init_87 : decode cX3_init 87 = .ok (.iconst 0, 1) := by decide +kernel
theorem dX3_init_88 : decode cX3_init 88 = .ok (.putfield 67, 3) := by decide +kernel
theorem dX3_init_91 : decode cX3_init 91 = .ok (.aload_n 0, 1) := by decide +kernel
theorem dX3_init_92 : decode cX3_init 92 = .ok (.iconst 0, 1) := by decide +kernel
theorem dX3_init_93 : decode cX3_init 93 = .ok (.putfield 70, 3) := by decide +kernel
theorem dX3_init_96 : decode cX3_init 96 = .ok (.aload_n 0, 1) := by decide +kernel
theorem dX3_init_97 : decode cX3_init 97 = .ok (.iconst 0, 1) := by decide +kernel
theorem dX3_init_98 : decode cX3_init 98 = .ok (.putfield 73, 3) := by decide +kernel
theorem dX3_init_101 : decode cX3_init 101 = .ok (.aload_n 0, 1) := by decide +kernel
theorem dX3_init_102 : decode cX3_init 102 = .ok (.iconst 0, 1) := by decide +kernel
theorem dX3_init_103 : decode cX3_init 103 = .ok (.putfield 76, 3) := by decide +kernel
theorem dX3_init_106 : decode cX3_init 106 = .ok (.aload_n 0, 1) := by decide +kernel
theorem dX3_init_107 : decode cX3_init 107 = .ok (.iload_n 1, 1) := by decide +kernel
theorem dX3_init_108 : decode cX3_init 108 = .ok (.putfield 79, 3) := by decide +kernel
theorem dX3_init_111 : decode cX3_init 111 = .ok (.iconst 0, 1) := by decide +kernel
theorem dX3_init_112 : decode cX3_init 112 = .ok (.istore_n 2, 1) := by decide +kernel
theorem dX3_init_113 : decode cX3_init 113 = .ok (.iload_n 2, 1) := by decide +kernel
theorem dX3_init_114 : decode cX3_init 114 = .ok (.iconst 4, 1) := by decide +kernel
theorem dX3_init_115 : decode cX3_init 115 = .ok (.if_icmp .ge 48, 3) := by decide +kernel
theorem dX3_init_118 : decode cX3_init 118 = .ok (.aload_n 0, 1) := by decide +kernel
theorem dX3_init_119 : decode cX3_init 119 = .ok (.getfield 27, 3) := by decide +kernel
theorem dX3_init_122 : decode cX3_init 122 = .ok (.iload_n 2, 1) := by decide +kernel
theorem dX3_init_123 : decode cX3_init 123 = .ok (.new 25, 3) := by decide +kernel
theorem dX3_init_126 : decode cX3_init 126 = .ok (.dup, 1) := by decide +kernel
theorem dX3_init_127 : decode cX3_init 127 = .ok (.invokespecial 82, 3) := by decide +kernel
theorem dX3_init_130 : decode cX3_init 130 = .ok (.aastore, 1) := by decide +kernel
theorem dX3_init_131 : decode cX3_init 131 = .ok (.aload_n 0, 1) := by decide +kernel
theorem dX3_init_132 : decode cX3_init 132 = .ok (.getfield 33, 3) := by decide +kernel
theorem dX3_init_135 : decode cX3_init 135 = .ok (.iload_n 2, 1) := by decide +kernel
theorem dX3_init_136 : decode cX3_init 136 = .ok (.new 31, 3) := by decide +kernel
theorem dX3_init_139 : decode cX3_init 139 = .ok (.dup, 1) := by decide +kernel
theorem dX3_init_140 : decode cX3_init 140 = .ok (.invokespecial 83, 3) := by decide +kernel
theorem dX3_init_143 : decode cX3_init 143 = .ok (.aastore, 1) := by decide +kernel
theorem dX3_init_144 : decode cX3_init 144 = .ok (.aload_n 0, 1) := by decide +kernel
theorem dX3_init_145 : decode cX3_init 145 = .ok (.getfield 39, 3) := by decide +kernel
theorem dX3_init_148 : decode cX3_init 148 = .ok (.iload_n 2, 1) := by decide +kernel
theorem dX3_init_149 : decode cX3_init 149 = .ok (.new 37, 3) := by decide +kernel
theorem dX3_init_152 : decode cX3_init 152 = .ok (.dup, 1) := by decide +kernel
theorem dX3_init_153 : decode cX3_init 153 = .ok (.invokespecial 84, 3) := by decide +kernel
theorem dX3_init_156 : decode cX3_init 156 = .ok (.aastore, 1) := by decide +kernel
theorem dX3_init_157 : decode cX3_init 157 = .ok (.iinc 2 1, 3) := by decide +kernel
theorem dX3_init_160 : decode cX3_init 160 = .ok (.goto (-47), 3) := by decide +kernel
theorem dX3_init_163 : decode cX3_init 163 = .ok (.return_, 1) := by decide +kernel
theorem dX12_init_0 : decode cX12_init 0 = .ok (.aload_n 0, 1) := by decide +kernel
theorem dX12_init_1 : decode cX12_init 1 = .ok (.invokespecial 1, 3) := by decide +kernel
theorem dX12_init_4 : decode cX12_init 4 = .ok (.aload_n 0, 1) := by decide +kernel
theorem dX12_init_5 : decode cX12_init 5 = .ok (.bipush 8, 2) := by decide +kernel
theorem dX12_init_7 : decode cX12_init 7 = .ok (.anewarray 9, 3) := by decide +kernel
theorem dX12_init_10 : decode cX12_init 10 = .ok (.putfield 11, 3) := by decide +kernel
theorem dX12_init_13 : decode cX12_init 13 = .ok (.aload_n 0, 1) := by decide +kernel
theorem dX12_init_14 : decode cX12_init 14 = .ok (.new 15, 3) := by decide +kernel
theorem dX12_init_17 : decode cX12_init 17 = .ok (.dup, 1) := by decide +kernel
theorem dX12_init_18 : decode cX12_init 18 = .ok (.invokespecial 17, 3) := by decide +kernel
theorem dX12_init_21 : decode cX12_init 21 = .ok (.putfield 18, 3) := by decide +kernel
theorem dX12_init_24 : decode cX12_init 24 = .ok (.aload_n 0, 1) := by decide +kernel
theorem dX12_init_25 : decode cX12_init 25 = .ok (.new 22, 3) := by decide +kernel
theorem dX12_init_28 : decode cX12_init 28 = .ok (.dup, 1) := by decide +kernel
theorem dX12_init_29 : decode cX12_init 29 = .ok (.invokespecial 24, 3) := by decide +kernel
theorem dX12_init_32 : decode cX12_init 32 = .ok (.putfield 25, 3) := by decide +kernel
theorem dX12_init_35 : decode cX12_init 35 = .ok (.aload_n 0, 1) := by decide +kernel
theorem dX12_init_36 : decode cX12_init 36 = .ok (.bipush 10, 2) := by decide +kernel
theorem dX12_init_38 : decode cX12_init 38 = .ok (.newarray .int, 2) := by decide +kernel
theorem dX12_init_40 : decode cX12_init 40 = .ok (.putfield 29, 3) := by decide +kernel
theorem dX12_init_43 : decode cX12_init 43 = .ok (.aload_n 0, 1) := by decide +kernel
theorem dX12_init_44 : decode cX12_init 44 = .ok (.sipush 1025, 3) := by decide +kernel
theorem dX12_init_47 : decode cX12_init 47 = .ok (.anewarray 15, 3) := by decide +kernel
theorem dX12_init_50 : decode cX12_init 50 = .ok (.putfield 33, 3) := by decide +kernel
theorem dX12_init_53 : decode cX12_init 53 = .ok (.aload_n 0, 1) := by decide +kernel
theorem dX12_init_54 : decode cX12_init 54 = .ok (.iconst 0, 1) := by decide +kernel
theorem dX12_init_55 : decode cX12_init 55 = .ok (.putfield 37, 3) := by decide +kernel
theorem dX12_init_58 : decode cX12_init 58 = .ok (.aload_n 0, 1) := by decide +kernel
theorem dX12_init_59 : decode cX12_init 59 = .ok (.iconst 0, 1) := by decide +kernel
theorem dX12_init_60 : decode cX12_init 60 = .ok (.putfield 41, 3) := by decide +kernel
theorem dX12_init_63 : decode cX12_init 63 = .ok (.aload_n 0, 1) := by decide +kernel
theorem dX12_init_64 : decode cX12_init 64 = .ok (.aconst_null, 1) := by decide +kernel
theorem dX12_init_65 : decode cX12_init 65 = .ok (.putfield 44, 3) := by decide +kernel
theorem dX12_init_68 : decode cX12_init 68 = .ok (.aload_n 0, 1) := by decide +kernel
theorem dX12_init_69 : decode cX12_init 69 = .ok (.ldc2_w 47, 3) := by decide +kernel
theorem dX12_init_72 : decode cX12_init 72 = .ok (.putfield 49, 3) := by decide +kernel
theorem dX12_init_75 : decode cX12_init 75 = .ok (.aload_n 0, 1) := by decide +kernel
theorem dX12_init_76 : decode cX12_init 76 = .ok (.lconst 0, 1) := by decide +kernel
theorem dX12_init_77 : decode cX12_init 77 = .ok (.putfield 53, 3) := by decide +kernel
theorem dX12_init_80 : decode cX12_init 80 = .ok (.iconst 0, 1) := by decide +kernel
theorem dX12_init_81 : decode cX12_init 81 = .ok (.istore_n 1, 1) := by decide +kernel
theorem dX12_init_82 : decode cX12_init 82 = .ok (.iload_n 1, 1) := by decide +kernel
theorem dX12_init_83 : decode cX12_init 83 = .ok (.bipush 8, 2) := by decide +kernel
theorem dX12_init_85 : decode cX12_init 85 = .ok (.if_icmp .ge 23, 3) := by decide +kernel
theorem dX12_init_88 : decode cX12_init 88 = .ok (.aload_n 0, 1) := by decide +kernel
theorem dX12_init_89 : decode cX12_init 89 = .ok (.getfield 11, 3) := by decide +kernel
theorem dX12_init_92 : decode cX12_init 92 = .ok (.iload_n 1, 1) := by decide +kernel
theorem dX12_init_93 : decode cX12_init 93 = .ok (.new 9, 3) := by decide +kernel
theorem dX12_init_96 : decode cX12_init 96 = .ok (.dup, 1) := by decide +kernel
theorem dX12_init_97 : decode cX12_init 97 = .ok (.iload_n 1, 1) := by decide +kernel
theorem dX12_init_98 : decode cX12_init 98 = .ok (.invokespecial 56, 3) := by decide +kernel
theorem dX12_init_101 : decode cX12_init 101 = .ok (.aastore, 1) := by decide +kernel
theorem dX12_init_102 : decode cX12_init 102 = .ok (.iinc 1 1, 3) := by decide +kernel
theorem dX12_init_105 : decode cX12_init 105 = .ok (.goto (-23), 3) := by decide +kernel
theorem dX12_init_108 : decode cX12_init 108 = .ok (.return_, 1) := by decide +kernel
theorem dX5_put_0 : decode cX5_put 0 = .ok (.aload_n 0, 1) := by decide +kernel
theorem dX5_put_1 : decode cX5_put 1 = .ok (.getfield 19, 3) := by decide +kernel
theorem dX5_put_4 : decode cX5_put 4 = .ok (.sipush 200, 3) := by decide +kernel
theorem dX5_put_7 : decode cX5_put 7 = .ok (.if_icmp .ge 24, 3) := by decide +kernel
theorem dX5_put_10 : decode cX5_put 10 = .ok (.aload_n 0, 1) := by decide +kernel
theorem dX5_put_11 : decode cX5_put 11 = .ok (.getfield 11, 3) := by decide +kernel
theorem dX5_put_14 : decode cX5_put 14 = .ok (.aload_n 0, 1) := by decide +kernel
theorem dX5_put_15 : decode cX5_put 15 = .ok (.getfield 19, 3) := by decide +kernel
theorem dX5_put_18 : decode cX5_put 18 = .ok (.iload_n 1, 1) := by decide +kernel
theorem dX5_put_19 : decode cX5_put 19 = .ok (.i2b, 1) := by decide +kernel
theorem dX5_put_20 : decode cX5_put 20 = .ok (.bastore, 1) := by decide +kernel
theorem dX5_put_21 : decode cX5_put 21 = .ok (.aload_n 0, 1) := by decide +kernel
theorem dX5_put_22 : decode cX5_put 22 = .ok (.dup, 1) := by decide +kernel
theorem dX5_put_23 : decode cX5_put 23 = .ok (.getfield 19, 3) := by decide +kernel
theorem dX5_put_26 : decode cX5_put 26 = .ok (.iconst 1, 1) := by decide +kernel
theorem dX5_put_27 : decode cX5_put 27 = .ok (.iadd, 1) := by decide +kernel
theorem dX5_put_28 : decode cX5_put 28 = .ok (.putfield 19, 3) := by decide +kernel
theorem dX5_put_31 : decode cX5_put 31 = .ok (.return_, 1) := by decide +kernel
theorem dX5_putNumber_0 : decode cX5_putNumber 0 = .ok (.iload_n 2, 1) := by decide +kernel
theorem dX5_putNumber_1 : decode cX5_putNumber 1 = .ok (.iconst 1, 1) := by decide +kernel
theorem dX5_putNumber_2 : decode cX5_putNumber 2 = .ok (.isub, 1) := by decide +kernel
theorem dX5_putNumber_3 : decode cX5_putNumber 3 = .ok (.istore_n 3, 1) := by decide +kernel
theorem dX5_putNumber_4 : decode cX5_putNumber 4 = .ok (.iload_n 3, 1) := by decide +kernel
theorem dX5_putNumber_5 : decode cX5_putNumber 5 = .ok (.ifCond .lt 19, 3) := by decide +kernel
theorem dX5_putNumber_8 : decode cX5_putNumber 8 = .ok (.aload_n 0, 1) := by decide +kernel
theorem dX5_putNumber_9 : decode cX5_putNumber 9 = .ok (.iload_n 1, 1) := by decide +kernel
theorem dX5_putNumber_10 : decode cX5_putNumber 10 = .ok (.bipush 8, 2) := by decide +kernel
theorem dX5_putNumber_12 : decode cX5_putNumber 12 = .ok (.iload_n 3, 1) := by decide +kernel
theorem dX5_putNumber_13 : decode cX5_putNumber 13 = .ok (.imul, 1) := by decide +kernel
theorem dX5_putNumber_14 : decode cX5_putNumber 14 = .ok (.ishr, 1) := by decide +kernel
theorem dX5_putNumber_15 : decode cX5_putNumber 15 = .ok (.invokevirtual 32, 3) := by decide +kernel
theorem dX5_putNumber_18 : decode cX5_putNumber 18 = .ok (.iinc 3 (-1), 3) := by decide +kernel
theorem dX5_putNumber_21 : decode cX5_putNumber 21 = .ok (.goto (-17), 3) := by decide +kernel
theorem dX5_putNumber_24 : decode cX5_putNumber 24 = .ok (.return_, 1) := by decide +kernel
theorem dX5_at_0 : decode cX5_at 0 = .ok (.iload_n 1, 1) := by decide +kernel
theorem dX5_at_1 : decode cX5_at 1 = .ok (.ifCond .lt 11, 3) := by decide +kernel
theorem dX5_at_4 : decode cX5_at 4 = .ok (.iload_n 1, 1) := by decide +kernel
theorem dX5_at_5 : decode cX5_at 5 = .ok (.aload_n 0, 1) := by decide +kernel
theorem dX5_at_6 : decode cX5_at 6 = .ok (.getfield 19, 3) := by decide +kernel
theorem dX5_at_9 : decode cX5_at 9 = .ok (.if_icmp .lt 7, 3) := by decide +kernel
theorem dX5_at_12 : decode cX5_at 12 = .ok (.iconst (-1), 1) := by decide +kernel
theorem dX5_at_13 : decode cX5_at 13 = .ok (.goto 13, 3) := by decide +kernel
theorem dX5_at_16 : decode cX5_at 16 = .ok (.aload_n 0, 1) := by decide +kernel
theorem dX5_at_17 : decode cX5_at 17 = .ok (.getfield 11, 3) := by decide +kernel
theorem dX5_at_20 : decode cX5_at 20 = .ok (.iload_n 1, 1) := by decide +kernel
theorem dX5_at_21 : decode cX5_at 21 = .ok (.baload, 1) := by decide +kernel
theorem dX5_at_22 : decode cX5_at 22 = .ok (.sipush 255, 3) := by decide +kernel
theorem dX5_at_25 : decode cX5_at 25 = .ok (.iand, 1) := by decide +kernel
theorem dX5_at_26 : decode cX5_at 26 = .ok (.ireturn, 1) := by decide +kernel
theorem dX12_feed_0 : decode cX12_feed 0 = .ok (.aload_n 0, 1) := by decide +kernel
theorem dX12_feed_1 : decode cX12_feed 1 = .ok (.getfield 18, 3) := by decide +kernel
theorem dX12_feed_4 : decode cX12_feed 4 = .ok (.getfield 59, 3) := by decide +kernel
theorem dX12_feed_7 : decode cX12_feed 7 = .ok (.bipush 20, 2) := by decide +kernel
theorem dX12_feed_9 : decode cX12_feed 9 = .ok (.iadd, 1) := by decide +kernel
theorem dX12_feed_10 : decode cX12_feed 10 = .ok (.sipush 200, 3) := by decide +kernel
theorem dX12_feed_13 : decode cX12_feed 13 = .ok (.if_icmp .le 5, 3) := by decide +kernel
theorem dX12_feed_16 : decode cX12_feed 16 = .ok (.iconst (-1), 1) := by decide +kernel
theorem dX12_feed_17 : decode cX12_feed 17 = .ok (.ireturn, 1) := by decide +kernel
theorem dX12_feed_18 : decode cX12_feed 18 = .ok (.aload_n 0, 1) := by decide +kernel
theorem dX12_feed_19 : decode cX12_feed 19 = .ok (.getfield 18, 3) := by decide +kernel
theorem dX12_feed_22 : decode cX12_feed 22 = .ok (.iload_n 1, 1) := by decide +kernel
theorem dX12_feed_23 : decode cX12_feed 23 = .ok (.iconst 4, 1) := by decide +kernel
theorem dX12_feed_24 : decode cX12_feed 24 = .ok (.invokevirtual 62, 3) := by decide +kernel
theorem dX12_feed_27 : decode cX12_feed 27 = .ok (.aload_n 0, 1) := by decide +kernel
theorem dX12_feed_28 : decode cX12_feed 28 = .ok (.getfield 18, 3) := by decide +kernel
theorem dX12_feed_31 : decode cX12_feed 31 = .ok (.iload_n 2, 1) := by decide +kernel
theorem dX12_feed_32 : decode cX12_feed 32 = .ok (.iconst 4, 1) := by decide +kernel
theorem dX12_feed_33 : decode cX12_feed 33 = .ok (.invokevirtual 62, 3) := by decide +kernel
theorem dX12_feed_36 : decode cX12_feed 36 = .ok (.aload_n 0, 1) := by decide +kernel
theorem dX12_feed_37 : decode cX12_feed 37 = .ok (.getfield 18, 3) := by decide +kernel
theorem dX12_feed_40 : decode cX12_feed 40 = .ok (.iload_n 3, 1) := by decide +kernel
theorem dX12_feed_41 : decode cX12_feed 41 = .ok (.iconst 4, 1) := by decide +kernel
theorem dX12_feed_42 : decode cX12_feed 42 = .ok (.invokevirtual 62, 3) := by decide +kernel
theorem dX12_feed_45 : decode cX12_feed 45 = .ok (.aload_n 0, 1) := by decide +kernel
theorem dX12_feed_46 : decode cX12_feed 46 = .ok (.getfield 18, 3) := by decide +kernel
theorem dX12_feed_49 : decode cX12_feed 49 = .ok (.iload 4, 2) := by decide +kernel
theorem dX12_feed_51 : decode cX12_feed 51 = .ok (.iconst 4, 1) := by decide +kernel
theorem dX12_feed_52 : decode cX12_feed 52 = .ok (.invokevirtual 62, 3) := by decide +kernel
theorem dX12_feed_55 : decode cX12_feed 55 = .ok (.aload_n 0, 1) := by decide +kernel
theorem dX12_feed_56 : decode cX12_feed 56 = .ok (.getfield 18, 3) := by decide +kernel
theorem dX12_feed_59 : decode cX12_feed 59 = .ok (.iload 5, 2) := by decide +kernel
theorem dX12_feed_61 : decode cX12_feed 61 = .ok (.iconst 4, 1) := by decide +kernel
theorem dX12_feed_62 : decode cX12_feed 62 = .ok (.invokevirtual 62, 3) := by decide +kernel
theorem dX12_feed_65 : decode cX12_feed 65 = .ok (.aload_n 0, 1) := by decide +kernel
theorem dX12_feed_66 : decode cX12_feed 66 = .ok (.getfield 18, 3) := by decide +kernel
theorem dX12_feed_69 : decode cX12_feed 69 = .ok (.getfield 59, 3) := by decide +kernel
theorem dX12_feed_72 : decode cX12_feed 72 = .ok (.ireturn, 1) := by decide +kernel
theorem dX12_end_0 : decode cX12_end 0 = .ok (.iload_n 1, 1) := by decide +kernel
theorem dX12_end_1 : decode cX12_end 1 = .ok (.ifCond .lt 14, 3) := by decide +kernel
theorem dX12_end_4 : decode cX12_end 4 = .ok (.iload_n 1, 1) := by decide +kernel
theorem dX12_end_5 : decode cX12_end 5 = .ok (.aload_n 0, 1) := by decide +kernel
theorem dX12_end_6 : decode cX12_end 6 = .ok (.getfield 18, 3) := by decide +kernel
theorem dX12_end_9 : decode cX12_end 9 = .ok (.getfield 59, 3) := by decide +kernel
theorem dX12_end_12 : decode cX12_end 12 = .ok (.if_icmp .le 5, 3) := by decide +kernel
theorem dX12_end_15 : decode cX12_end 15 = .ok (.iconst (-1), 1) := by decide +kernel
theorem dX12_end_16 : decode cX12_end 16 = .ok (.ireturn, 1) := by decide +kernel
theorem dX12_end_17 : decode cX12_end 17 = .ok (.aload_n 0, 1) := by decide +kernel
theorem dX12_end_18 : decode cX12_end 18 = .ok (.getfield 18, 3) := by decide +kernel
theorem dX12_end_21 : decode cX12_end 21 = .ok (.iload_n 1, 1) := by decide +kernel
theorem dX12_end_22 : decode cX12_end 22 = .ok (.putfield 59, 3) := by decide +kernel
theorem dX12_end_25 : decode cX12_end 25 = .ok (.iload_n 1, 1) := by decide +kernel
theorem dX12_end_26 : decode cX12_end 26 = .ok (.ireturn, 1) := by decide +kernel
theorem dX12_hostThatIsOn_0 : decode cX12_hostThatIsOn 0 = .ok (.iload_n 1, 1) := by decide +kernel
theorem dX12_hostThatIsOn_1 : decode cX12_hostThatIsOn 1 = .ok (.ifCond .lt 21, 3) := by decide +kernel
theorem dX12_hostThatIsOn_4 : decode cX12_hostThatIsOn 4 = .ok (.iload_n 1, 1) := by decide +kernel
theorem dX12_hostThatIsOn_5 : decode cX12_hostThatIsOn 5 = .ok (.bipush 8, 2) := by decide +kernel
theorem dX12_hostThatIsOn_7 : decode cX12_hostThatIsOn 7 = .ok (.if_icmp .ge 15, 3) := by decide +kernel
theorem dX12_hostThatIsOn_10 : decode cX12_hostThatIsOn 10 = .ok (.aload_n 0, 1) := by decide +kernel
theorem dX12_hostThatIsOn_11 : decode cX12_hostThatIsOn 11 = .ok (.getfield 11, 3) := by decide +kernel
theorem dX12_hostThatIsOn_14 : decode cX12_hostThatIsOn 14 = .ok (.iload_n 1, 1) := by decide +kernel
theorem dX12_hostThatIsOn_15 : decode cX12_hostThatIsOn 15 = .ok (.aaload, 1) := by decide +kernel
theorem dX12_hostThatIsOn_16 : decode cX12_hostThatIsOn 16 = .ok (.getfield 83, 3) := by decide +kernel
theorem dX12_hostThatIsOn_19 : decode cX12_hostThatIsOn 19 = .ok (.ifCond .ne 5, 3) := by decide +kernel
theorem dX12_hostThatIsOn_22 : decode cX12_hostThatIsOn 22 = .ok (.aconst_null, 1) := by decide +kernel
theorem dX12_hostThatIsOn_23 : decode cX12_hostThatIsOn 23 = .ok (.areturn, 1) := by decide +kernel
theorem dX12_hostThatIsOn_24 : decode cX12_hostThatIsOn 24 = .ok (.aload_n 0, 1) := by decide +kernel
theorem dX12_hostThatIsOn_25 : decode cX12_hostThatIsOn 25 = .ok (.getfield 11, 3) := by decide +kernel
theorem dX12_hostThatIsOn_28 : decode cX12_hostThatIsOn 28 = .ok (.iload_n 1, 1) := by decide +kernel
theorem dX12_hostThatIsOn_29 : decode cX12_hostThatIsOn 29 = .ok (.aaload, 1) := by decide +kernel
theorem dX12_hostThatIsOn_30 : decode cX12_hostThatIsOn 30 = .ok (.areturn, 1) := by decide +kernel
theorem dX12_openQuestion_0 : decode cX12_openQuestion 0 = .ok (.aload_n 0, 1) := by decide +kernel
theorem dX12_openQuestion_1 : decode cX12_openQuestion 1 = .ok (.iload_n 1, 1) := by decide +kernel
theorem dX12_openQuestion_2 : decode cX12_openQuestion 2 = .ok (.invokevirtual 94, 3) := by decide +kernel
theorem dX12_openQuestion_5 : decode cX12_openQuestion 5 = .ok (.astore_n 3, 1) := by decide +kernel
theorem dX12_openQuestion_6 : decode cX12_openQuestion 6 = .ok (.aload_n 3, 1) := by decide +kernel
theorem dX12_openQuestion_7 : decode cX12_openQuestion 7 = .ok (.ifnull 12, 3) := by decide +kernel
theorem dX12_openQuestion_10 : decode cX12_openQuestion 10 = .ok (.iload_n 2, 1) := by decide +kernel
theorem dX12_openQuestion_11 : decode cX12_openQuestion 11 = .ok (.ifCond .lt 8, 3) := by decide +kernel
theorem dX12_openQuestion_14 : decode cX12_openQuestion 14 = .ok (.iload_n 2, 1) := by decide +kernel
theorem dX12_openQuestion_15 : decode cX12_openQuestion 15 = .ok (.iconst 4, 1) := by decide +kernel
theorem dX12_openQuestion_16 : decode cX12_openQuestion 16 = .ok (.if_icmp .lt 5, 3) := by decide +kernel
theorem dX12_openQuestion_19 : decode cX12_openQuestion 19 = .ok (.aconst_null, 1) := by decide +kernel
theorem dX12_openQuestion_20 : decode cX12_openQuestion 20 = .ok (.areturn, 1) := by decide +kernel
theorem dX12_openQuestion_21 : decode cX12_openQuestion 21 = .ok (.aload_n 3, 1) := by decide +kernel
theorem dX12_openQuestion_22 : decode cX12_openQuestion 22 = .ok (.getfield 158, 3) := by decide +kernel
theorem dX12_openQuestion_25 : decode cX12_openQuestion 25 = .ok (.iload_n 2, 1) := by decide +kernel
theorem dX12_openQuestion_26 : decode cX12_openQuestion 26 = .ok (.aaload, 1) := by decide +kernel
theorem dX12_openQuestion_27 : decode cX12_openQuestion 27 = .ok (.astore 4, 2) := by decide +kernel
theorem dX12_openQuestion_29 : decode cX12_openQuestion 29 = .ok (.aload 4, 2) := by decide +kernel
theorem dX12_openQuestion_31 : decode cX12_openQuestion 31 = .ok (.getfield 162, 3) := by decide +kernel
theorem dX12_openQuestion_34 : decode cX12_openQuestion 34 = .ok (.ifCond .eq 8, 3) := by decide +kernel
theorem dX12_openQuestion_37 : decode cX12_openQuestion 37 = .ok (.aload 4, 2) := by decide +kernel
theorem dX12_openQuestion_39 : decode cX12_openQuestion 39 = .ok (.goto 4, 3) := by decide +kernel
theorem dX12_openQuestion_42 : decode cX12_openQuestion 42 = .ok (.aconst_null, 1) := by decide +kernel
theorem dX12_openQuestion_43 : decode cX12_openQuestion 43 = .ok (.areturn, 1) := by decide +kernel
theorem dX12_tapeIsWord_0 : decode cX12_tapeIsWord 0 = .ok (.aload_n 0, 1) := by decide +kernel
theorem dX12_tapeIsWord_1 : decode cX12_tapeIsWord 1 = .ok (.getfield 18, 3) := by decide +kernel
theorem dX12_tapeIsWord_4 : decode cX12_tapeIsWord 4 = .ok (.getfield 59, 3) := by decide +kernel
theorem dX12_tapeIsWord_7 : decode cX12_tapeIsWord 7 = .ok (.iconst 1, 1) := by decide +kernel
theorem dX12_tapeIsWord_8 : decode cX12_tapeIsWord 8 = .ok (.if_icmp .lt 15, 3) := by decide +kernel
theorem dX12_tapeIsWord_11 : decode cX12_tapeIsWord 11 = .ok (.aload_n 0, 1) := by decide +kernel
theorem dX12_tapeIsWord_12 : decode cX12_tapeIsWord 12 = .ok (.getfield 18, 3) := by decide +kernel
theorem dX12_tapeIsWord_15 : decode cX12_tapeIsWord 15 = .ok (.getfield 59, 3) := by decide +kernel
theorem dX12_tapeIsWord_18 : decode cX12_tapeIsWord 18 = .ok (.bipush 15, 2) := by decide +kernel
theorem dX12_tapeIsWord_20 : decode cX12_tapeIsWord 20 = .ok (.if_icmp .le 5, 3) := by decide +kernel
theorem dX12_tapeIsWord_23 : decode cX12_tapeIsWord 23 = .ok (.iconst 0, 1) := by decide +kernel
theorem dX12_tapeIsWord_24 : decode cX12_tapeIsWord 24 = .ok (.ireturn, 1) := by decide +kernel
theorem dX12_tapeIsWord_25 : decode cX12_tapeIsWord 25 = .ok (.iconst 0, 1) := by decide +kernel
theorem dX12_tapeIsWord_26 : decode cX12_tapeIsWord 26 = .ok (.istore_n 1, 1) := by decide +kernel
theorem dX12_tapeIsWord_27 : decode cX12_tapeIsWord 27 = .ok (.iload_n 1, 1) := by decide +kernel
theorem dX12_tapeIsWord_28 : decode cX12_tapeIsWord 28 = .ok (.aload_n 0, 1) := by decide +kernel
theorem dX12_tapeIsWord_29 : decode cX12_tapeIsWord 29 = .ok (.getfield 18, 3) := by decide +kernel
theorem dX12_tapeIsWord_32 : decode cX12_tapeIsWord 32 = .ok (.getfield 59, 3) := by decide +kernel
theorem dX12_tapeIsWord_35 : decode cX12_tapeIsWord 35 = .ok (.if_icmp .ge 25, 3) := by decide +kernel
theorem dX12_tapeIsWord_38 : decode cX12_tapeIsWord 38 = .ok (.aload_n 0, 1) := by decide +kernel
theorem dX12_tapeIsWord_39 : decode cX12_tapeIsWord 39 = .ok (.getfield 18, 3) := by decide +kernel
theorem dX12_tapeIsWord_42 : decode cX12_tapeIsWord 42 = .ok (.iload_n 1, 1) := by decide +kernel
theorem dX12_tapeIsWord_43 : decode cX12_tapeIsWord 43 = .ok (.invokevirtual 68, 3) := by decide +kernel
theorem dX12_tapeIsWord_46 : decode cX12_tapeIsWord 46 = .ok (.invokestatic 72, 3) := by decide +kernel
theorem dX12_tapeIsWord_49 : decode cX12_tapeIsWord 49 = .ok (.ifCond .ne 5, 3) := by decide +kernel
theorem dX12_tapeIsWord_52 : decode cX12_tapeIsWord 52 = .ok (.iconst 0, 1) := by decide +kernel
theorem dX12_tapeIsWord_53 : decode cX12_tapeIsWord 53 = .ok (.ireturn, 1) := by decide +kernel
theorem dX12_tapeIsWord_54 : decode cX12_tapeIsWord 54 = .ok (.iinc 1 1, 3) := by decide +kernel
theorem dX12_tapeIsWord_57 : decode cX12_tapeIsWord 57 = .ok (.goto (-30), 3) := by decide +kernel
theorem dX12_tapeIsWord_60 : decode cX12_tapeIsWord 60 = .ok (.iconst 1, 1) := by decide +kernel
theorem dX12_tapeIsWord_61 : decode cX12_tapeIsWord 61 = .ok (.ireturn, 1) := by decide +kernel
theorem dX12_on_0 : decode cX12_on 0 = .ok (.iload_n 1, 1) := by decide +kernel
theorem dX12_on_1 : decode cX12_on 1 = .ok (.ifCond .lt 32, 3) := by decide +kernel
theorem dX12_on_4 : decode cX12_on 4 = .ok (.iload_n 1, 1) := by decide +kernel
theorem dX12_on_5 : decode cX12_on 5 = .ok (.bipush 8, 2) := by decide +kernel
theorem dX12_on_7 : decode cX12_on 7 = .ok (.if_icmp .ge 26, 3) := by decide +kernel
theorem dX12_on_10 : decode cX12_on 10 = .ok (.iload_n 2, 1) := by decide +kernel
theorem dX12_on_11 : decode cX12_on 11 = .ok (.iconst 1, 1) := by decide +kernel
theorem dX12_on_12 : decode cX12_on 12 = .ok (.if_icmp .lt 21, 3) := by decide +kernel
theorem dX12_on_15 : decode cX12_on 15 = .ok (.iload_n 2, 1) := by decide +kernel
theorem dX12_on_16 : decode cX12_on 16 = .ok (.ldc 82, 2) := by decide +kernel
theorem dX12_on_18 : decode cX12_on 18 = .ok (.if_icmp .gt 15, 3) := by decide +kernel
theorem dX12_on_21 : decode cX12_on 21 = .ok (.aload_n 0, 1) := by decide +kernel
theorem dX12_on_22 : decode cX12_on 22 = .ok (.getfield 11, 3) := by decide +kernel
theorem dX12_on_25 : decode cX12_on 25 = .ok (.iload_n 1, 1) := by decide +kernel
theorem dX12_on_26 : decode cX12_on 26 = .ok (.aaload, 1) := by decide +kernel
theorem dX12_on_27 : decode cX12_on 27 = .ok (.getfield 83, 3) := by decide +kernel
theorem dX12_on_30 : decode cX12_on 30 = .ok (.ifCond .eq 5, 3) := by decide +kernel
theorem dX12_on_33 : decode cX12_on 33 = .ok (.iconst 0, 1) := by decide +kernel
theorem dX12_on_34 : decode cX12_on 34 = .ok (.ireturn, 1) := by decide +kernel
theorem dX12_on_35 : decode cX12_on 35 = .ok (.iconst 0, 1) := by decide +kernel
theorem dX12_on_36 : decode cX12_on 36 = .ok (.istore_n 3, 1) := by decide +kernel
theorem dX12_on_37 : decode cX12_on 37 = .ok (.iload_n 3, 1) := by decide +kernel
theorem dX12_on_38 : decode cX12_on 38 = .ok (.bipush 8, 2) := by decide +kernel
theorem dX12_on_40 : decode cX12_on 40 = .ok (.if_icmp .ge 36, 3) := by decide +kernel
theorem dX12_on_43 : decode cX12_on 43 = .ok (.aload_n 0, 1) := by decide +kernel
theorem dX12_on_44 : decode cX12_on 44 = .ok (.getfield 11, 3) := by decide +kernel
theorem dX12_on_47 : decode cX12_on 47 = .ok (.iload_n 3, 1) := by decide +kernel
theorem dX12_on_48 : decode cX12_on 48 = .ok (.aaload, 1) := by decide +kernel
theorem dX12_on_49 : decode cX12_on 49 = .ok (.getfield 83, 3) := by decide +kernel
theorem dX12_on_52 : decode cX12_on 52 = .ok (.ifCond .eq 18, 3) := by decide +kernel
theorem dX12_on_55 : decode cX12_on 55 = .ok (.aload_n 0, 1) := by decide +kernel
theorem dX12_on_56 : decode cX12_on 56 = .ok (.getfield 11, 3) := by decide +kernel
theorem dX12_on_59 : decode cX12_on 59 = .ok (.iload_n 3, 1) := by decide +kernel
theorem dX12_on_60 : decode cX12_on 60 = .ok (.aaload, 1) := by decide +kernel
theorem dX12_on_61 : decode cX12_on 61 = .ok (.getfield 87, 3) := by decide +kernel
theorem dX12_on_64 : decode cX12_on 64 = .ok (.iload_n 2, 1) := by decide +kernel
theorem dX12_on_65 : decode cX12_on 65 = .ok (.if_icmp .ne 5, 3) := by decide +kernel
theorem dX12_on_68 : decode cX12_on 68 = .ok (.iconst 0, 1) := by decide +kernel
theorem dX12_on_69 : decode cX12_on 69 = .ok (.ireturn, 1) := by decide +kernel
theorem dX12_on_70 : decode cX12_on 70 = .ok (.iinc 3 1, 3) := by decide +kernel
theorem dX12_on_73 : decode cX12_on 73 = .ok (.goto (-36), 3) := by decide +kernel
theorem dX12_on_76 : decode cX12_on 76 = .ok (.aload_n 0, 1) := by decide +kernel
theorem dX12_on_77 : decode cX12_on 77 = .ok (.getfield 11, 3) := by decide +kernel
theorem dX12_on_80 : decode cX12_on 80 = .ok (.iload_n 1, 1) := by decide +kernel
theorem dX12_on_81 : decode cX12_on 81 = .ok (.aaload, 1) := by decide +kernel
theorem dX12_on_82 : decode cX12_on 82 = .ok (.iload_n 2, 1) := by decide +kernel
theorem dX12_on_83 : decode cX12_on 83 = .ok (.aload_n 0, 1) := by decide +kernel
theorem dX12_on_84 : decode cX12_on 84 = .ok (.getfield 53, 3) := by decide +kernel
theorem dX12_on_87 : decode cX12_on 87 = .ok (.invokevirtual 90, 3) := by decide +kernel
theorem dX12_on_90 : decode cX12_on 90 = .ok (.iconst 1, 1) := by decide +kernel
theorem dX12_on_91 : decode cX12_on 91 = .ok (.ireturn, 1) := by decide +kernel
theorem dX3_start_0 : decode cX3_start 0 = .ok (.aload_n 0, 1) := by decide +kernel
theorem dX3_start_1 : decode cX3_start 1 = .ok (.iconst 1, 1) := by decide +kernel
theorem dX3_start_2 : decode cX3_start 2 = .ok (.putfield 50, 3) := by decide +kernel
theorem dX3_start_5 : decode cX3_start 5 = .ok (.aload_n 0, 1) := by decide +kernel
theorem dX3_start_6 : decode cX3_start 6 = .ok (.iload_n 1, 1) := by decide +kernel
theorem dX3_start_7 : decode cX3_start 7 = .ok (.putfield 54, 3) := by decide +kernel
theorem dX3_start_10 : decode cX3_start 10 = .ok (.aload_n 0, 1) := by decide +kernel
theorem dX3_start_11 : decode cX3_start 11 = .ok (.iconst 0, 1) := by decide +kernel
theorem dX3_start_12 : decode cX3_start 12 = .ok (.putfield 61, 3) := by decide +kernel
theorem dX3_start_15 : decode cX3_start 15 = .ok (.aload_n 0, 1) := by decide +kernel
theorem dX3_start_16 : decode cX3_start 16 = .ok (.iconst 0, 1) := by decide +kernel
theorem dX3_start_17 : decode cX3_start 17 = .ok (.putfield 64, 3) := by decide +kernel
theorem dX3_start_20 : decode cX3_start 20 = .ok (.aload_n 0, 1) := by decide +kernel
theorem dX3_start_21 : decode cX3_start 21 = .ok (.iconst 0, 1) := by decide +kernel
theorem dX3_start_22 : decode cX3_start 22 = .ok (.putfield 67, 3) := by decide +kernel
theorem dX3_start_25 : decode cX3_start 25 = .ok (.aload_n 0, 1) := by decide +kernel
theorem dX3_start_26 : decode cX3_start 26 = .ok (.iconst 0, 1) := by decide +kernel
theorem dX3_start_27 : decode cX3_start 27 = .ok (.putfield 70, 3) := by decide +kernel
theorem dX3_start_30 : decode cX3_start 30 = .ok (.aload_n 0, 1) := by decide +kernel
theorem dX3_start_31 : decode cX3_start 31 = .ok (.iconst 0, 1) := by decide +kernel
theorem dX3_start_32 : decode cX3_start 32 = .ok (.putfield 73, 3) := by decide +kernel
theorem dX3_start_35 : decode cX3_start 35 = .ok (.aload_n 0, 1) := by decide +kernel
theorem dX3_start_36 : decode cX3_start 36 = .ok (.iconst 0, 1) := by decide +kernel
theorem dX3_start_37 : decode cX3_start 37 = .ok (.putfield 76, 3) := by decide +kernel
theorem dX3_start_40 : decode cX3_start 40 = .ok (.aload_n 0, 1) := by decide +kernel
theorem dX3_start_41 : decode cX3_start 41 = .ok (.getfield 46, 3) := by decide +kernel
theorem dX3_start_44 : decode cX3_start 44 = .ok (.iconst 0, 1) := by decide +kernel
theorem dX3_start_45 : decode cX3_start 45 = .ok (.putfield 85, 3) := by decide +kernel
theorem dX3_start_48 : decode cX3_start 48 = .ok (.iconst 0, 1) := by decide +kernel
theorem dX3_start_49 : decode cX3_start 49 = .ok (.istore 4, 2) := by decide +kernel
theorem dX3_start_51 : decode cX3_start 51 = .ok (.iload 4, 2) := by decide +kernel
theorem dX3_start_53 : decode cX3_start 53 = .ok (.iconst 4, 1) := by decide +kernel
theorem dX3_start_54 : decode cX3_start 54 = .ok (.if_icmp .ge 20, 3) := by decide +kernel
theorem dX3_start_57 : decode cX3_start 57 = .ok (.aload_n 0, 1) := by decide +kernel
theorem dX3_start_58 : decode cX3_start 58 = .ok (.getfield 33, 3) := by decide +kernel
theorem dX3_start_61 : decode cX3_start 61 = .ok (.iload 4, 2) := by decide +kernel
theorem dX3_start_63 : decode cX3_start 63 = .ok (.aaload, 1) := by decide +kernel
theorem dX3_start_64 : decode cX3_start 64 = .ok (.iconst 0, 1) := by decide +kernel
theorem dX3_start_65 : decode cX3_start 65 = .ok (.putfield 88, 3) := by decide +kernel
theorem dX3_start_68 : decode cX3_start 68 = .ok (.iinc 4 1, 3) := by decide +kernel
theorem dX3_start_71 : decode cX3_start 71 = .ok (.goto (-20), 3) := by decide +kernel
theorem dX3_start_74 : decode cX3_start 74 = .ok (.aload_n 0, 1) := by decide +kernel
theorem dX3_start_75 : decode cX3_start 75 = .ok (.getfield 21, 3) := by decide +kernel
theorem dX3_start_78 : decode cX3_start 78 = .ok (.invokevirtual 91, 3) := by decide +kernel
theorem dX3_start_81 : decode cX3_start 81 = .ok (.aload_n 0, 1) := by decide +kernel
theorem dX3_start_82 : decode cX3_start 82 = .ok (.getfield 12, 3) := by decide +kernel
theorem dX3_start_85 : decode cX3_start 85 = .ok (.iload_n 1, 1) := by decide +kernel
theorem dX3_start_86 : decode cX3_start 86 = .ok (.lload_n 2, 1) := by decide +kernel
theorem dX3_start_87 : decode cX3_start 87 = .ok (.invokevirtual 94, 3) := by decide +kernel
theorem dX3_start_90 : decode cX3_start 90 = .ok (.return_, 1) := by decide +kernel
theorem dX4_forget_0 : decode cX4_forget 0 = .ok (.aload_n 0, 1) := by decide +kernel
theorem dX4_forget_1 : decode cX4_forget 1 = .ok (.iconst 0, 1) := by decide +kernel
theorem dX4_forget_2 : decode cX4_forget 2 = .ok (.putfield 21, 3) := by decide +kernel
theorem dX4_forget_5 : decode cX4_forget 5 = .ok (.aload_n 0, 1) := by decide +kernel
theorem dX4_forget_6 : decode cX4_forget 6 = .ok (.iconst 1, 1) := by decide +kernel
theorem dX4_forget_7 : decode cX4_forget 7 = .ok (.putfield 25, 3) := by decide +kernel
theorem dX4_forget_10 : decode cX4_forget 10 = .ok (.aload_n 0, 1) := by decide +kernel
theorem dX4_forget_11 : decode cX4_forget 11 = .ok (.ldc2_w 31, 3) := by decide +kernel
theorem dX4_forget_14 : decode cX4_forget 14 = .ok (.putfield 33, 3) := by decide +kernel
theorem dX4_forget_17 : decode cX4_forget 17 = .ok (.return_, 1) := by decide +kernel
theorem dX0_start_0 : decode cX0_start 0 = .ok (.aload_n 0, 1) := by decide +kernel
theorem dX0_start_1 : decode cX0_start 1 = .ok (.iconst 0, 1) := by decide +kernel
theorem dX0_start_2 : decode cX0_start 2 = .ok (.putfield 9, 3) := by decide +kernel
theorem dX0_start_5 : decode cX0_start 5 = .ok (.aload_n 0, 1) := by decide +kernel
theorem dX0_start_6 : decode cX0_start 6 = .ok (.ldc2_w 27, 3) := by decide +kernel
theorem dX0_start_9 : decode cX0_start 9 = .ok (.putfield 29, 3) := by decide +kernel
theorem dX0_start_12 : decode cX0_start 12 = .ok (.aload_n 0, 1) := by decide +kernel
theorem dX0_start_13 : decode cX0_start 13 = .ok (.iload_n 1, 1) := by decide +kernel
theorem dX0_start_14 : decode cX0_start 14 = .ok (.lload_n 2, 1) := by decide +kernel
theorem dX0_start_15 : decode cX0_start 15 = .ok (.invokevirtual 32, 3) := by decide +kernel
theorem dX0_start_18 : decode cX0_start 18 = .ok (.return_, 1) := by decide +kernel
theorem dX0_probe_0 : decode cX0_probe 0 = .ok (.aload_n 0, 1) := by decide +kernel
theorem dX0_probe_1 : decode cX0_probe 1 = .ok (.ldc2_w 36, 3) := by decide +kernel
theorem dX0_probe_4 : decode cX0_probe 4 = .ok (.iload_n 1, 1) := by decide +kernel
theorem dX0_probe_5 : decode cX0_probe 5 = .ok (.i2l, 1) := by decide +kernel
theorem dX0_probe_6 : decode cX0_probe 6 = .ok (.lmul, 1) := by decide +kernel
theorem dX0_probe_7 : decode cX0_probe 7 = .ok (.ldc2_w 38, 3) := by decide +kernel
theorem dX0_probe_10 : decode cX0_probe 10 = .ok (.aload_n 0, 1) := by decide +kernel
theorem dX0_probe_11 : decode cX0_probe 11 = .ok (.getfield 9, 3) := by decide +kernel
