theorem dX0_init_0 : decode cX0_init 0 = .ok (.aload_n 0, 1) := by decide +kernel
theorem dX0_init_1 : decode cX0_init 1 = .ok (.invokespecial 3, 3) := by decide +kernel
theorem dX0_init_4 : decode cX0_init 4 = .ok (.aload_n 0, 1) := by decide +kernel
theorem dX0_init_5 : decode cX0_init 5 = .ok (.iconst 0, 1) := by decide +kernel
theorem dX0_init_6 : decode cX0_init 6 = .ok (.putfield 9, 3) := by decide +kernel
theorem dX0_init_9 : decode cX0_init 9 = .ok (.aload_n 0, 1) := by decide +kernel
theorem dX0_init_10 : decode cX0_init 10 = .ok (.iconst 0, 1) := by decide +kernel
theorem dX0_init_11 : decode cX0_init 11 = .ok (.putfield 15, 3) := by decide +kernel
theorem dX0_init_14 : decode cX0_init 14 = .ok (.aload_n 0, 1) := by decide +kernel
theorem dX0_init_15 : decode cX0_init 15 = .ok (.iconst 0, 1) := by decide +kernel
theorem dX0_init_16 : decode cX0_init 16 = .ok (.putfield 18, 3) := by decide +kernel
theorem dX0_init_19 : decode cX0_init 19 = .ok (.aload_n 0, 1) := by decide +kernel
theorem dX0_init_20 : decode cX0_init 20 = .ok (.ldc2_w 21, 3) := by decide +kernel
theorem dX0_init_23 : decode cX0_init 23 = .ok (.putfield 23, 3) := by decide +kernel
theorem dX0_init_26 : decode cX0_init 26 = .ok (.aload_n 0, 1) := by decide +kernel
theorem dX0_init_27 : decode cX0_init 27 = .ok (.ldc2_w 27, 3) := by decide +kernel
theorem dX0_init_30 : decode cX0_init 30 = .ok (.putfield 29, 3) := by decide +kernel
theorem dX0_init_33 : decode cX0_init 33 = .ok (.return_, 1) := by decide +kernel
theorem dX0_start_0 : decode cX0_start 0 = .ok (.aload_n 0, 1) := by decide +kernel
theorem dX0_start_1 : decode cX0_start 1 = .ok (.iconst 0, 1) := by decide +kernel
theorem dX0_start_2 : decode cX0_start 2 = .ok (.putfield 9, 3) := by decide +kernel
theorem dX0_start_5 : decode cX0_start 5 = .ok (.aload_n 0, 1) := by decide +kernel
theorem dX0_start_6 : decode cX0_start 6 = .ok (.ldc2_w 27, 3) := by decide +kernel
theorem dX0_start_9 : decode cX0_start 9 = .ok (.putfield 29, 3) := by decide +kernel
theorem dX0_start_12 : decode cX0_start 12 = .ok (.aload_n 0, 1) := by decide +kernel
theorem dX0_start_13 : decode cX0_start 13 = .ok (.iload_n 1, 1) := by decide +kernel
theorem dX0_start_14 : decode cX0_start 14 = .ok (.lload_n 2, 1) := by decide +kernel
theorem dX0_start_15 : decode cX0_start 15 = .ok (.invokevirtual 32, 3) := by decide +kernel
theorem dX0_start_18 : decode cX0_start 18 = .ok (.return_, 1) := by decide +kernel
theorem dX0_probe_0 : decode cX0_probe 0 = .ok (.aload_n 0, 1) := by decide +kernel
theorem dX0_probe_1 : decode cX0_probe 1 = .ok (.ldc2_w 36, 3) := by decide +kernel
theorem dX0_probe_4 : decode cX0_probe 4 = .ok (.iload_n 1, 1) := by decide +kernel
theorem dX0_probe_5 : decode cX0_probe 5 = .ok (.i2l, 1) := by decide +kernel
theorem dX0_probe_6 : decode cX0_probe 6 = .ok (.lmul, 1) := by decide +kernel
theorem dX0_probe_7 : decode cX0_probe 7 = .ok (.ldc2_w 38, 3) := by decide +kernel
theorem dX0_probe_10 : decode cX0_probe 10 = .ok (.aload_n 0, 1) := by decide +kernel
theorem dX0_probe_11 : decode cX0_probe 11 = .ok (.getfield 9, 3) := by decide +kernel
theorem dX0_probe_14 : decode cX0_probe 14 = .ok (.i2l, 1) := by decide +kernel
theorem dX0_probe_15 : decode cX0_probe 15 = .ok (.lmul, 1) := by decide +kernel
theorem dX0_probe_16 : decode cX0_probe 16 = .ok (.ladd, 1) := by decide +kernel
theorem dX0_probe_17 : decode cX0_probe 17 = .ok (.ldc2_w 40, 3) := by decide +kernel
theorem dX0_probe_20 : decode cX0_probe 20 = .ok (.lrem, 1) := by decide +kernel
theorem dX0_probe_21 : decode cX0_probe 21 = .ok (.l2i, 1) := by decide +kernel
theorem dX0_probe_22 : decode cX0_probe 22 = .ok (.putfield 15, 3) := by decide +kernel
theorem dX0_probe_25 : decode cX0_probe 25 = .ok (.aload_n 0, 1) := by decide +kernel
theorem dX0_probe_26 : decode cX0_probe 26 = .ok (.iconst 0, 1) := by decide +kernel
theorem dX0_probe_27 : decode cX0_probe 27 = .ok (.putfield 18, 3) := by decide +kernel
theorem dX0_probe_30 : decode cX0_probe 30 = .ok (.aload_n 0, 1) := by decide +kernel
theorem dX0_probe_31 : decode cX0_probe 31 = .ok (.lload_n 2, 1) := by decide +kernel
theorem dX0_probe_32 : decode cX0_probe 32 = .ok (.ldc2_w 42, 3) := by decide +kernel
theorem dX0_probe_35 : decode cX0_probe 35 = .ok (.iload_n 1, 1) := by decide +kernel
theorem dX0_probe_36 : decode cX0_probe 36 = .ok (.i2l, 1) := by decide +kernel
theorem dX0_probe_37 : decode cX0_probe 37 = .ok (.lmul, 1) := by decide +kernel
theorem dX0_probe_38 : decode cX0_probe 38 = .ok (.ldc2_w 44, 3) := by decide +kernel
theorem dX0_probe_41 : decode cX0_probe 41 = .ok (.aload_n 0, 1) := by decide +kernel
theorem dX0_probe_42 : decode cX0_probe 42 = .ok (.getfield 9, 3) := by decide +kernel
theorem dX0_probe_45 : decode cX0_probe 45 = .ok (.i2l, 1) := by decide +kernel
theorem dX0_probe_46 : decode cX0_probe 46 = .ok (.lmul, 1) := by decide +kernel
theorem dX0_probe_47 : decode cX0_probe 47 = .ok (.ladd, 1) := by decide +kernel
theorem dX0_probe_48 : decode cX0_probe 48 = .ok (.ldc2_w 46, 3) := by decide +kernel
theorem dX0_probe_51 : decode cX0_probe 51 = .ok (.lrem, 1) := by decide +kernel
theorem dX0_probe_52 : decode cX0_probe 52 = .ok (.ladd, 1) := by decide +kernel
theorem dX0_probe_53 : decode cX0_probe 53 = .ok (.putfield 23, 3) := by decide +kernel
theorem dX0_probe_56 : decode cX0_probe 56 = .ok (.return_, 1) := by decide +kernel
theorem dX0_isHeld_0 : decode cX0_isHeld 0 = .ok (.aload_n 0, 1) := by decide +kernel
theorem dX0_isHeld_1 : decode cX0_isHeld 1 = .ok (.getfield 18, 3) := by decide +kernel
theorem dX0_isHeld_4 : decode cX0_isHeld 4 = .ok (.iconst 3, 1) := by decide +kernel
theorem dX0_isHeld_5 : decode cX0_isHeld 5 = .ok (.if_icmp .le 7, 3) := by decide +kernel
theorem dX0_isHeld_8 : decode cX0_isHeld 8 = .ok (.iconst 1, 1) := by decide +kernel
theorem dX0_isHeld_9 : decode cX0_isHeld 9 = .ok (.goto 4, 3) := by decide +kernel
theorem dX0_isHeld_12 : decode cX0_isHeld 12 = .ok (.iconst 0, 1) := by decide +kernel
theorem dX0_isHeld_13 : decode cX0_isHeld 13 = .ok (.ireturn, 1) := by decide +kernel
theorem dX0_mayDefend_0 : decode cX0_mayDefend 0 = .ok (.aload_n 0, 1) := by decide +kernel
theorem dX0_mayDefend_1 : decode cX0_mayDefend 1 = .ok (.getfield 29, 3) := by decide +kernel
theorem dX0_mayDefend_4 : decode cX0_mayDefend 4 = .ok (.ldc2_w 27, 3) := by decide +kernel
theorem dX0_mayDefend_7 : decode cX0_mayDefend 7 = .ok (.lcmp, 1) := by decide +kernel
theorem dX0_mayDefend_8 : decode cX0_mayDefend 8 = .ok (.ifCond .eq 16, 3) := by decide +kernel
theorem dX0_mayDefend_11 : decode cX0_mayDefend 11 = .ok (.lload_n 1, 1) := by decide +kernel
theorem dX0_mayDefend_12 : decode cX0_mayDefend 12 = .ok (.aload_n 0, 1) := by decide +kernel
theorem dX0_mayDefend_13 : decode cX0_mayDefend 13 = .ok (.getfield 29, 3) := by decide +kernel
theorem dX0_mayDefend_16 : decode cX0_mayDefend 16 = .ok (.lsub, 1) := by decide +kernel
theorem dX0_mayDefend_17 : decode cX0_mayDefend 17 = .ok (.ldc2_w 48, 3) := by decide +kernel
theorem dX0_mayDefend_20 : decode cX0_mayDefend 20 = .ok (.lcmp, 1) := by decide +kernel
theorem dX0_mayDefend_21 : decode cX0_mayDefend 21 = .ok (.ifCond .lt 7, 3) := by decide +kernel
theorem dX0_mayDefend_24 : decode cX0_mayDefend 24 = .ok (.iconst 1, 1) := by decide +kernel
theorem dX0_mayDefend_25 : decode cX0_mayDefend 25 = .ok (.goto 4, 3) := by decide +kernel
theorem dX0_mayDefend_28 : decode cX0_mayDefend 28 = .ok (.iconst 0, 1) := by decide +kernel
theorem dX0_mayDefend_29 : decode cX0_mayDefend 29 = .ok (.ireturn, 1) := by decide +kernel
theorem dX0_advance_0 : decode cX0_advance 0 = .ok (.aload_n 0, 1) := by decide +kernel
theorem dX0_advance_1 : decode cX0_advance 1 = .ok (.dup, 1) := by decide +kernel
theorem dX0_advance_2 : decode cX0_advance 2 = .ok (.getfield 18, 3) := by decide +kernel
theorem dX0_advance_5 : decode cX0_advance 5 = .ok (.iconst 1, 1) := by decide +kernel
theorem dX0_advance_6 : decode cX0_advance 6 = .ok (.iadd, 1) := by decide +kernel
theorem dX0_advance_7 : decode cX0_advance 7 = .ok (.putfield 18, 3) := by decide +kernel
theorem dX0_advance_10 : decode cX0_advance 10 = .ok (.aload_n 0, 1) := by decide +kernel
theorem dX0_advance_11 : decode cX0_advance 11 = .ok (.getfield 18, 3) := by decide +kernel
theorem dX0_advance_14 : decode cX0_advance 14 = .ok (.iconst 3, 1) := by decide +kernel
theorem dX0_advance_15 : decode cX0_advance 15 = .ok (.if_icmp .gt 15, 3) := by decide +kernel
theorem dX0_advance_18 : decode cX0_advance 18 = .ok (.aload_n 0, 1) := by decide +kernel
theorem dX0_advance_19 : decode cX0_advance 19 = .ok (.lload_n 1, 1) := by decide +kernel
theorem dX0_advance_20 : decode cX0_advance 20 = .ok (.ldc2_w 46, 3) := by decide +kernel
theorem dX0_advance_23 : decode cX0_advance 23 = .ok (.ladd, 1) := by decide +kernel
theorem dX0_advance_24 : decode cX0_advance 24 = .ok (.putfield 23, 3) := by decide +kernel
theorem dX0_advance_27 : decode cX0_advance 27 = .ok (.goto 26, 3) := by decide +kernel
theorem dX0_advance_30 : decode cX0_advance 30 = .ok (.aload_n 0, 1) := by decide +kernel
theorem dX0_advance_31 : decode cX0_advance 31 = .ok (.aload_n 0, 1) := by decide +kernel
theorem dX0_advance_32 : decode cX0_advance 32 = .ok (.getfield 18, 3) := by decide +kernel
theorem dX0_advance_35 : decode cX0_advance 35 = .ok (.iconst 4, 1) := by decide +kernel
theorem dX0_advance_36 : decode cX0_advance 36 = .ok (.if_icmp .ne 11, 3) := by decide +kernel
theorem dX0_advance_39 : decode cX0_advance 39 = .ok (.lload_n 1, 1) := by decide +kernel
theorem dX0_advance_40 : decode cX0_advance 40 = .ok (.ldc2_w 50, 3) := by decide +kernel
theorem dX0_advance_43 : decode cX0_advance 43 = .ok (.ladd, 1) := by decide +kernel
theorem dX0_advance_44 : decode cX0_advance 44 = .ok (.goto 6, 3) := by decide +kernel
theorem dX0_advance_47 : decode cX0_advance 47 = .ok (.ldc2_w 21, 3) := by decide +kernel
theorem dX0_advance_50 : decode cX0_advance 50 = .ok (.putfield 23, 3) := by decide +kernel
theorem dX0_advance_53 : decode cX0_advance 53 = .ok (.return_, 1) := by decide +kernel
theorem dX0_tellAgain_0 : decode cX0_tellAgain 0 = .ok (.aload_n 0, 1) := by decide +kernel
theorem dX0_tellAgain_1 : decode cX0_tellAgain 1 = .ok (.iconst 4, 1) := by decide +kernel
theorem dX0_tellAgain_2 : decode cX0_tellAgain 2 = .ok (.putfield 18, 3) := by decide +kernel
theorem dX0_tellAgain_5 : decode cX0_tellAgain 5 = .ok (.aload_n 0, 1) := by decide +kernel
theorem dX0_tellAgain_6 : decode cX0_tellAgain 6 = .ok (.lload_n 2, 1) := by decide +kernel
theorem dX0_tellAgain_7 : decode cX0_tellAgain 7 = .ok (.bipush 31, 2) := by decide +kernel
theorem dX0_tellAgain_9 : decode cX0_tellAgain 9 = .ok (.iload_n 1, 1) := by decide +kernel
theorem dX0_tellAgain_10 : decode cX0_tellAgain 10 = .ok (.imul, 1) := by decide +kernel
theorem dX0_tellAgain_11 : decode cX0_tellAgain 11 = .ok (.sipush 200, 3) := by decide +kernel
theorem dX0_tellAgain_14 : decode cX0_tellAgain 14 = .ok (.irem, 1) := by decide +kernel
theorem dX0_tellAgain_15 : decode cX0_tellAgain 15 = .ok (.i2l, 1) := by decide +kernel
theorem dX0_tellAgain_16 : decode cX0_tellAgain 16 = .ok (.ladd, 1) := by decide +kernel
theorem dX0_tellAgain_17 : decode cX0_tellAgain 17 = .ok (.putfield 23, 3) := by decide +kernel
theorem dX0_tellAgain_20 : decode cX0_tellAgain 20 = .ok (.return_, 1) := by decide +kernel
theorem dX1_init_0 : decode cX1_init 0 = .ok (.aload_n 0, 1) := by decide +kernel
theorem dX1_init_1 : decode cX1_init 1 = .ok (.invokespecial 3, 3) := by decide +kernel
theorem dX1_init_4 : decode cX1_init 4 = .ok (.aload_n 0, 1) := by decide +kernel
theorem dX1_init_5 : decode cX1_init 5 = .ok (.bipush 24, 2) := by decide +kernel
theorem dX1_init_7 : decode cX1_init 7 = .ok (.anewarray 11, 3) := by decide +kernel
theorem dX1_init_10 : decode cX1_init 10 = .ok (.putfield 13, 3) := by decide +kernel
theorem dX1_init_13 : decode cX1_init 13 = .ok (.aload_n 0, 1) := by decide +kernel
theorem dX1_init_14 : decode cX1_init 14 = .ok (.iconst 0, 1) := by decide +kernel
theorem dX1_init_15 : decode cX1_init 15 = .ok (.putfield 17, 3) := by decide +kernel
theorem dX1_init_18 : decode cX1_init 18 = .ok (.iconst 0, 1) := by decide +kernel
theorem dX1_init_19 : decode cX1_init 19 = .ok (.istore_n 1, 1) := by decide +kernel
theorem dX1_init_20 : decode cX1_init 20 = .ok (.iload_n 1, 1) := by decide +kernel
theorem dX1_init_21 : decode cX1_init 21 = .ok (.bipush 24, 2) := by decide +kernel
theorem dX1_init_23 : decode cX1_init 23 = .ok (.if_icmp .ge 22, 3) := by decide +kernel
theorem dX1_init_26 : decode cX1_init 26 = .ok (.aload_n 0, 1) := by decide +kernel
theorem dX1_init_27 : decode cX1_init 27 = .ok (.getfield 13, 3) := by decide +kernel
theorem dX1_init_30 : decode cX1_init 30 = .ok (.iload_n 1, 1) := by decide +kernel
theorem dX1_init_31 : decode cX1_init 31 = .ok (.new 11, 3) := by decide +kernel
theorem dX1_init_34 : decode cX1_init 34 = .ok (.dup, 1) := by decide +kernel
theorem dX1_init_35 : decode cX1_init 35 = .ok (.invokespecial 21, 3) := by decide +kernel
theorem dX1_init_38 : decode cX1_init 38 = .ok (.aastore, 1) := by decide +kernel
theorem dX1_init_39 : decode cX1_init 39 = .ok (.iinc 1 1, 3) := by decide +kernel
theorem dX1_init_42 : decode cX1_init 42 = .ok (.goto (-22), 3) := by decide +kernel
theorem dX1_init_45 : decode cX1_init 45 = .ok (.return_, 1) := by decide +kernel
theorem dX1_hear_0 : decode cX1_hear 0 = .ok (.aload_n 0, 1) := by decide +kernel
theorem dX1_hear_1 : decode cX1_hear 1 = .ok (.aload_n 1, 1) := by decide +kernel
theorem dX1_hear_2 : decode cX1_hear 2 = .ok (.invokevirtual 22, 3) := by decide +kernel
theorem dX1_hear_5 : decode cX1_hear 5 = .ok (.istore 4, 2) := by decide +kernel
theorem dX1_hear_7 : decode cX1_hear 7 = .ok (.aload_n 1, 1) := by decide +kernel
theorem dX1_hear_8 : decode cX1_hear 8 = .ok (.getfield 26, 3) := by decide +kernel
theorem dX1_hear_11 : decode cX1_hear 11 = .ok (.ifCond .ne 21, 3) := by decide +kernel
theorem dX1_hear_14 : decode cX1_hear 14 = .ok (.iload 4, 2) := by decide +kernel
theorem dX1_hear_16 : decode cX1_hear 16 = .ok (.iconst (-1), 1) := by decide +kernel
theorem dX1_hear_17 : decode cX1_hear 17 = .ok (.if_icmp .eq 14, 3) := by decide +kernel
theorem dX1_hear_20 : decode cX1_hear 20 = .ok (.aload_n 0, 1) := by decide +kernel
theorem dX1_hear_21 : decode cX1_hear 21 = .ok (.getfield 13, 3) := by decide +kernel
theorem dX1_hear_24 : decode cX1_hear 24 = .ok (.iload 4, 2) := by decide +kernel
theorem dX1_hear_26 : decode cX1_hear 26 = .ok (.aaload, 1) := by decide +kernel
theorem dX1_hear_27 : decode cX1_hear 27 = .ok (.lload_n 2, 1) := by decide +kernel
theorem dX1_hear_28 : decode cX1_hear 28 = .ok (.invokevirtual 31, 3) := by decide +kernel
theorem dX1_hear_31 : decode cX1_hear 31 = .ok (.return_, 1) := by decide +kernel
theorem dX1_hear_32 : decode cX1_hear 32 = .ok (.iload 4, 2) := by decide +kernel
theorem dX1_hear_34 : decode cX1_hear 34 = .ok (.iconst (-1), 1) := by decide +kernel
theorem dX1_hear_35 : decode cX1_hear 35 = .ok (.if_icmp .ne 39, 3) := by decide +kernel
theorem dX1_hear_38 : decode cX1_hear 38 = .ok (.aload_n 0, 1) := by decide +kernel
theorem dX1_hear_39 : decode cX1_hear 39 = .ok (.getfield 17, 3) := by decide +kernel
theorem dX1_hear_42 : decode cX1_hear 42 = .ok (.bipush 24, 2) := by decide +kernel
theorem dX1_hear_44 : decode cX1_hear 44 = .ok (.if_icmp .ge 30, 3) := by decide +kernel
theorem dX1_hear_47 : decode cX1_hear 47 = .ok (.aload_n 0, 1) := by decide +kernel
theorem dX1_hear_48 : decode cX1_hear 48 = .ok (.getfield 17, 3) := by decide +kernel
theorem dX1_hear_51 : decode cX1_hear 51 = .ok (.istore 4, 2) := by decide +kernel
theorem dX1_hear_53 : decode cX1_hear 53 = .ok (.aload_n 0, 1) := by decide +kernel
theorem dX1_hear_54 : decode cX1_hear 54 = .ok (.dup, 1) := by decide +kernel
theorem dX1_hear_55 : decode cX1_hear 55 = .ok (.getfield 17, 3) := by decide +kernel
theorem dX1_hear_58 : decode cX1_hear 58 = .ok (.iconst 1, 1) := by decide +kernel
theorem dX1_hear_59 : decode cX1_hear 59 = .ok (.iadd, 1) := by decide +kernel
theorem dX1_hear_60 : decode cX1_hear 60 = .ok (.putfield 17, 3) := by decide +kernel
theorem dX1_hear_63 : decode cX1_hear 63 = .ok (.aload_n 0, 1) := by decide +kernel
theorem dX1_hear_64 : decode cX1_hear 64 = .ok (.getfield 13, 3) := by decide +kernel
theorem dX1_hear_67 : decode cX1_hear 67 = .ok (.iload 4, 2) := by decide +kernel
theorem dX1_hear_69 : decode cX1_hear 69 = .ok (.aaload, 1) := by decide +kernel
theorem dX1_hear_70 : decode cX1_hear 70 = .ok (.aload_n 1, 1) := by decide +kernel
theorem dX1_hear_71 : decode cX1_hear 71 = .ok (.invokevirtual 35, 3) := by decide +kernel
theorem dX1_hear_74 : decode cX1_hear 74 = .ok (.iload 4, 2) := by decide +kernel
theorem dX1_hear_76 : decode cX1_hear 76 = .ok (.iconst (-1), 1) := by decide +kernel
theorem dX1_hear_77 : decode cX1_hear 77 = .ok (.if_icmp .eq 18, 3) := by decide +kernel
theorem dX1_hear_80 : decode cX1_hear 80 = .ok (.aload_n 0, 1) := by decide +kernel
theorem dX1_hear_81 : decode cX1_hear 81 = .ok (.getfield 13, 3) := by decide +kernel
theorem dX1_hear_84 : decode cX1_hear 84 = .ok (.iload 4, 2) := by decide +kernel
theorem dX1_hear_86 : decode cX1_hear 86 = .ok (.aaload, 1) := by decide +kernel
theorem dX1_hear_87 : decode cX1_hear 87 = .ok (.aload_n 1, 1) := by decide +kernel
theorem dX1_hear_88 : decode cX1_hear 88 = .ok (.getfield 26, 3) := by decide +kernel
theorem dX1_hear_91 : decode cX1_hear 91 = .ok (.lload_n 2, 1) := by decide +kernel
theorem dX1_hear_92 : decode cX1_hear 92 = .ok (.invokevirtual 39, 3) := by decide +kernel
theorem dX1_hear_95 : decode cX1_hear 95 = .ok (.aload_n 1, 1) := by decide +kernel
theorem dX1_hear_96 : decode cX1_hear 96 = .ok (.getfield 43, 3) := by decide +kernel
theorem dX1_hear_99 : decode cX1_hear 99 = .ok (.ifCond .eq 11, 3) := by decide +kernel
theorem dX1_hear_102 : decode cX1_hear 102 = .ok (.aload_n 0, 1) := by decide +kernel
theorem dX1_hear_103 : decode cX1_hear 103 = .ok (.aload_n 1, 1) := by decide +kernel
theorem dX1_hear_104 : decode cX1_hear 104 = .ok (.iload 4, 2) := by decide +kernel
theorem dX1_hear_106 : decode cX1_hear 106 = .ok (.lload_n 2, 1) := by decide +kernel
theorem dX1_hear_107 : decode cX1_hear 107 = .ok (.invokevirtual 47, 3) := by decide +kernel
theorem dX1_hear_110 : decode cX1_hear 110 = .ok (.return_, 1) := by decide +kernel
theorem dX1_placeOf_0 : decode cX1_placeOf 0 = .ok (.iconst 0, 1) := by decide +kernel
theorem dX1_placeOf_1 : decode cX1_placeOf 1 = .ok (.istore_n 2, 1) := by decide +kernel
theorem dX1_placeOf_2 : decode cX1_placeOf 2 = .ok (.iload_n 2, 1) := by decide +kernel
theorem dX1_placeOf_3 : decode cX1_placeOf 3 = .ok (.aload_n 0, 1) := by decide +kernel
theorem dX1_placeOf_4 : decode cX1_placeOf 4 = .ok (.getfield 17, 3) := by decide +kernel
theorem dX1_placeOf_7 : decode cX1_placeOf 7 = .ok (.if_icmp .ge 24, 3) := by decide +kernel
theorem dX1_placeOf_10 : decode cX1_placeOf 10 = .ok (.aload_n 0, 1) := by decide +kernel
theorem dX1_placeOf_11 : decode cX1_placeOf 11 = .ok (.getfield 13, 3) := by decide +kernel
theorem dX1_placeOf_14 : decode cX1_placeOf 14 = .ok (.iload_n 2, 1) := by decide +kernel
theorem dX1_placeOf_15 : decode cX1_placeOf 15 = .ok (.aaload, 1) := by decide +kernel
theorem dX1_placeOf_16 : decode cX1_placeOf 16 = .ok (.aload_n 1, 1) := by decide +kernel
theorem dX1_placeOf_17 : decode cX1_placeOf 17 = .ok (.invokevirtual 51, 3) := by decide +kernel
theorem dX1_placeOf_20 : decode cX1_placeOf 20 = .ok (.ifCond .eq 5, 3) := by decide +kernel
theorem dX1_placeOf_23 : decode cX1_placeOf 23 = .ok (.iload_n 2, 1) := by decide +kernel
theorem dX1_placeOf_24 : decode cX1_placeOf 24 = .ok (.ireturn, 1) := by decide +kernel
theorem dX1_placeOf_25 : decode cX1_placeOf 25 = .ok (.iinc 2 1, 3) := by decide +kernel
theorem dX1_placeOf_28 : decode cX1_placeOf 28 = .ok (.goto (-26), 3) := by decide +kernel
theorem dX1_placeOf_31 : decode cX1_placeOf 31 = .ok (.iconst (-1), 1) := by decide +kernel
theorem dX1_placeOf_32 : decode cX1_placeOf 32 = .ok (.ireturn, 1) := by decide +kernel
theorem dX1_outdateOthers_0 : decode cX1_outdateOthers 0 = .ok (.iconst 0, 1) := by decide +kernel
theorem dX1_outdateOthers_1 : decode cX1_outdateOthers 1 = .ok (.istore 5, 2) := by decide +kernel
theorem dX1_outdateOthers_3 : decode cX1_outdateOthers 3 = .ok (.iload 5, 2) := by decide +kernel
theorem dX1_outdateOthers_5 : decode cX1_outdateOthers 5 = .ok (.aload_n 0, 1) := by decide +kernel
theorem dX1_outdateOthers_6 : decode cX1_outdateOthers 6 = .ok (.getfield 17, 3) := by decide +kernel
theorem dX1_outdateOthers_9 : decode cX1_outdateOthers 9 = .ok (.if_icmp .ge 60, 3) := by decide +kernel
theorem dX1_outdateOthers_12 : decode cX1_outdateOthers 12 = .ok (.aload_n 0, 1) := by decide +kernel
theorem dX1_outdateOthers_13 : decode cX1_outdateOthers 13 = .ok (.getfield 13, 3) := by decide +kernel
theorem dX1_outdateOthers_16 : decode cX1_outdateOthers 16 = .ok (.iload 5, 2) := by decide +kernel
theorem dX1_outdateOthers_18 : decode cX1_outdateOthers 18 = .ok (.aaload, 1) := by decide +kernel
theorem dX1_outdateOthers_19 : decode cX1_outdateOthers 19 = .ok (.astore 6, 2) := by decide +kernel
theorem dX1_outdateOthers_21 : decode cX1_outdateOthers 21 = .ok (.iload 5, 2) := by decide +kernel
theorem dX1_outdateOthers_23 : decode cX1_outdateOthers 23 = .ok (.iload_n 2, 1) := by decide +kernel
theorem dX1_outdateOthers_24 : decode cX1_outdateOthers 24 = .ok (.if_icmp .eq 39, 3) := by decide +kernel
theorem dX1_outdateOthers_27 : decode cX1_outdateOthers 27 = .ok (.lload_n 3, 1) := by decide +kernel
theorem dX1_outdateOthers_28 : decode cX1_outdateOthers 28 = .ok (.aload 6, 2) := by decide +kernel
theorem dX1_outdateOthers_30 : decode cX1_outdateOthers 30 = .ok (.getfield 55, 3) := by decide +kernel
theorem dX1_outdateOthers_33 : decode cX1_outdateOthers 33 = .ok (.lsub, 1) := by decide +kernel
theorem dX1_outdateOthers_34 : decode cX1_outdateOthers 34 = .ok (.ldc2_w 59, 3) := by decide +kernel
theorem dX1_outdateOthers_37 : decode cX1_outdateOthers 37 = .ok (.lcmp, 1) := by decide +kernel
theorem dX1_outdateOthers_38 : decode cX1_outdateOthers 38 = .ok (.ifCond .le 25, 3) := by decide +kernel
theorem dX1_outdateOthers_41 : decode cX1_outdateOthers 41 = .ok (.aload 6, 2) := by decide +kernel
theorem dX1_outdateOthers_43 : decode cX1_outdateOthers 43 = .ok (.aload_n 1, 1) := by decide +kernel
theorem dX1_outdateOthers_44 : decode cX1_outdateOthers 44 = .ok (.getfield 61, 3) := by decide +kernel
theorem dX1_outdateOthers_47 : decode cX1_outdateOthers 47 = .ok (.aload_n 1, 1) := by decide +kernel
theorem dX1_outdateOthers_48 : decode cX1_outdateOthers 48 = .ok (.getfield 64, 3) := by decide +kernel
theorem dX1_outdateOthers_51 : decode cX1_outdateOthers 51 = .ok (.invokevirtual 68, 3) := by decide +kernel
theorem dX1_outdateOthers_54 : decode cX1_outdateOthers 54 = .ok (.ifCond .eq 9, 3) := by decide +kernel
theorem dX1_outdateOthers_57 : decode cX1_outdateOthers 57 = .ok (.aload 6, 2) := by decide +kernel
theorem dX1_outdateOthers_59 : decode cX1_outdateOthers 59 = .ok (.lload_n 3, 1) := by decide +kernel
theorem dX1_outdateOthers_60 : decode cX1_outdateOthers 60 = .ok (.invokevirtual 31, 3) := by decide +kernel
theorem dX1_outdateOthers_63 : decode cX1_outdateOthers 63 = .ok (.iinc 5 1, 3) := by decide +kernel
theorem dX1_outdateOthers_66 : decode cX1_outdateOthers 66 = .ok (.goto (-63), 3) := by decide +kernel
theorem dX1_outdateOthers_69 : decode cX1_outdateOthers 69 = .ok (.return_, 1) := by decide +kernel
theorem dX1_remove_0 : decode cX1_remove 0 = .ok (.iload_n 1, 1) := by decide +kernel
theorem dX1_remove_1 : decode cX1_remove 1 = .ok (.ifCond .lt 11, 3) := by decide +kernel
theorem dX1_remove_4 : decode cX1_remove 4 = .ok (.iload_n 1, 1) := by decide +kernel
theorem dX1_remove_5 : decode cX1_remove 5 = .ok (.aload_n 0, 1) := by decide +kernel
theorem dX1_remove_6 : decode cX1_remove 6 = .ok (.getfield 17, 3) := by decide +kernel
theorem dX1_remove_9 : decode cX1_remove 9 = .ok (.if_icmp .lt 4, 3) := by decide +kernel
theorem dX1_remove_12 : decode cX1_remove 12 = .ok (.return_, 1) := by decide +kernel
theorem dX1_remove_13 : decode cX1_remove 13 = .ok (.aload_n 0, 1) := by decide +kernel
theorem dX1_remove_14 : decode cX1_remove 14 = .ok (.getfield 13, 3) := by decide +kernel
theorem dX1_remove_17 : decode cX1_remove 17 = .ok (.iload_n 1, 1) := by decide +kernel
theorem dX1_remove_18 : decode cX1_remove 18 = .ok (.aaload, 1) := by decide +kernel
theorem dX1_remove_19 : decode cX1_remove 19 = .ok (.astore_n 2, 1) := by decide +kernel
theorem dX1_remove_20 : decode cX1_remove 20 = .ok (.iload_n 1, 1) := by decide +kernel
theorem dX1_remove_21 : decode cX1_remove 21 = .ok (.iconst 1, 1) := by decide +kernel
theorem dX1_remove_22 : decode cX1_remove 22 = .ok (.iadd, 1) := by decide +kernel
theorem dX1_remove_23 : decode cX1_remove 23 = .ok (.istore_n 3, 1) := by decide +kernel
theorem dX1_remove_24 : decode cX1_remove 24 = .ok (.iload_n 3, 1) := by decide +kernel
theorem dX1_remove_25 : decode cX1_remove 25 = .ok (.aload_n 0, 1) := by decide +kernel
theorem dX1_remove_26 : decode cX1_remove 26 = .ok (.getfield 17, 3) := by decide +kernel
theorem dX1_remove_29 : decode cX1_remove 29 = .ok (.if_icmp .ge 23, 3) := by decide +kernel
theorem dX1_remove_32 : decode cX1_remove 32 = .ok (.aload_n 0, 1) := by decide +kernel
theorem dX1_remove_33 : decode cX1_remove 33 = .ok (.getfield 13, 3) := by decide +kernel
theorem dX1_remove_36 : decode cX1_remove 36 = .ok (.iload_n 3, 1) := by decide +kernel
theorem dX1_remove_37 : decode cX1_remove 37 = .ok (.iconst 1, 1) := by decide +kernel
theorem dX1_remove_38 : decode cX1_remove 38 = .ok (.isub, 1) := by decide +kernel
theorem dX1_remove_39 : decode cX1_remove 39 = .ok (.aload_n 0, 1) := by decide +kernel
theorem dX1_remove_40 : decode cX1_remove 40 = .ok (.getfield 13, 3) := by decide +kernel
theorem dX1_remove_43 : decode cX1_remove 43 = .ok (.iload_n 3, 1) := by decide +kernel
theorem dX1_remove_44 : decode cX1_remove 44 = .ok (.aaload, 1) := by decide +kernel
theorem dX1_remove_45 : decode cX1_remove 45 = .ok (.aastore, 1) := by decide +kernel
theorem dX1_remove_46 : decode cX1_remove 46 = .ok (.iinc 3 1, 3) := by decide +kernel
theorem dX1_remove_49 : decode cX1_remove 49 = .ok (.goto (-25), 3) := by decide +kernel
theorem dX1_remove_52 : decode cX1_remove 52 = .ok (.aload_n 0, 1) := by decide +kernel
theorem dX1_remove_53 : decode cX1_remove 53 = .ok (.dup, 1) := by decide +kernel
theorem dX1_remove_54 : decode cX1_remove 54 = .ok (.getfield 17, 3) := by decide +kernel
theorem dX1_remove_57 : decode cX1_remove 57 = .ok (.iconst 1, 1) := by decide +kernel
theorem dX1_remove_58 : decode cX1_remove 58 = .ok (.isub, 1) := by decide +kernel
theorem dX1_remove_59 : decode cX1_remove 59 = .ok (.putfield 17, 3) := by decide +kernel
theorem dX1_remove_62 : decode cX1_remove 62 = .ok (.aload_n 0, 1) := by decide +kernel
theorem dX1_remove_63 : decode cX1_remove 63 = .ok (.getfield 13, 3) := by decide +kernel
theorem dX1_remove_66 : decode cX1_remove 66 = .ok (.aload_n 0, 1) := by decide +kernel
theorem dX1_remove_67 : decode cX1_remove 67 = .ok (.getfield 17, 3) := by decide +kernel
theorem dX1_remove_70 : decode cX1_remove 70 = .ok (.aload_n 2, 1) := by decide +kernel
theorem dX1_remove_71 : decode cX1_remove 71 = .ok (.aastore, 1) := by decide +kernel
theorem dX1_remove_72 : decode cX1_remove 72 = .ok (.return_, 1) := by decide +kernel
theorem dX1_knownCount_0 : decode cX1_knownCount 0 = .ok (.iconst 0, 1) := by decide +kernel
theorem dX1_knownCount_1 : decode cX1_knownCount 1 = .ok (.istore 4, 2) := by decide +kernel
theorem dX1_knownCount_3 : decode cX1_knownCount 3 = .ok (.iconst 0, 1) := by decide +kernel
theorem dX1_knownCount_4 : decode cX1_knownCount 4 = .ok (.istore 5, 2) := by decide +kernel
theorem dX1_knownCount_6 : decode cX1_knownCount 6 = .ok (.iload 5, 2) := by decide +kernel
theorem dX1_knownCount_8 : decode cX1_knownCount 8 = .ok (.aload_n 0, 1) := by decide +kernel
theorem dX1_knownCount_9 : decode cX1_knownCount 9 = .ok (.getfield 17, 3) := by decide +kernel
theorem dX1_knownCount_12 : decode cX1_knownCount 12 = .ok (.if_icmp .ge 34, 3) := by decide +kernel
theorem dX1_knownCount_15 : decode cX1_knownCount 15 = .ok (.iload 4, 2) := by decide +kernel
theorem dX1_knownCount_17 : decode cX1_knownCount 17 = .ok (.bipush 8, 2) := by decide +kernel
theorem dX1_knownCount_19 : decode cX1_knownCount 19 = .ok (.if_icmp .ge 27, 3) := by decide +kernel
theorem dX1_knownCount_22 : decode cX1_knownCount 22 = .ok (.aload_n 0, 1) := by decide +kernel
theorem dX1_knownCount_23 : decode cX1_knownCount 23 = .ok (.getfield 13, 3) := by decide +kernel
theorem dX1_knownCount_26 : decode cX1_knownCount 26 = .ok (.iload 5, 2) := by decide +kernel
theorem dX1_knownCount_28 : decode cX1_knownCount 28 = .ok (.aaload, 1) := by decide +kernel
theorem dX1_knownCount_29 : decode cX1_knownCount 29 = .ok (.aload_n 1, 1) := by decide +kernel
theorem dX1_knownCount_30 : decode cX1_knownCount 30 = .ok (.lload_n 2, 1) := by decide +kernel
theorem dX1_knownCount_31 : decode cX1_knownCount 31 = .ok (.invokevirtual 72, 3) := by decide +kernel
theorem dX1_knownCount_34 : decode cX1_knownCount 34 = .ok (.ifCond .eq 6, 3) := by decide +kernel
theorem dX1_knownCount_37 : decode cX1_knownCount 37 = .ok (.iinc 4 1, 3) := by decide +kernel
theorem dX1_knownCount_40 : decode cX1_knownCount 40 = .ok (.iinc 5 1, 3) := by decide +kernel
theorem dX1_knownCount_43 : decode cX1_knownCount 43 = .ok (.goto (-37), 3) := by decide +kernel
theorem dX1_knownCount_46 : decode cX1_knownCount 46 = .ok (.iload 4, 2) := by decide +kernel
theorem dX1_knownCount_48 : decode cX1_knownCount 48 = .ok (.ireturn, 1) := by decide +kernel
theorem dX1_countOf_0 : decode cX1_countOf 0 = .ok (.iconst 0, 1) := by decide +kernel
theorem dX1_countOf_1 : decode cX1_countOf 1 = .ok (.istore_n 2, 1) := by decide +kernel
theorem dX1_countOf_2 : decode cX1_countOf 2 = .ok (.iconst 0, 1) := by decide +kernel
theorem dX1_countOf_3 : decode cX1_countOf 3 = .ok (.istore_n 3, 1) := by decide +kernel
theorem dX1_countOf_4 : decode cX1_countOf 4 = .ok (.iload_n 3, 1) := by decide +kernel
theorem dX1_countOf_5 : decode cX1_countOf 5 = .ok (.aload_n 0, 1) := by decide +kernel
theorem dX1_countOf_6 : decode cX1_countOf 6 = .ok (.getfield 17, 3) := by decide +kernel
theorem dX1_countOf_9 : decode cX1_countOf 9 = .ok (.if_icmp .ge 32, 3) := by decide +kernel
theorem dX1_countOf_12 : decode cX1_countOf 12 = .ok (.aload_n 0, 1) := by decide +kernel
theorem dX1_countOf_13 : decode cX1_countOf 13 = .ok (.getfield 13, 3) := by decide +kernel
theorem dX1_countOf_16 : decode cX1_countOf 16 = .ok (.iload_n 3, 1) := by decide +kernel
theorem dX1_countOf_17 : decode cX1_countOf 17 = .ok (.aaload, 1) := by decide +kernel
theorem dX1_countOf_18 : decode cX1_countOf 18 = .ok (.aload_n 1, 1) := by decide +kernel
theorem dX1_countOf_19 : decode cX1_countOf 19 = .ok (.getfield 76, 3) := by decide +kernel
theorem dX1_countOf_22 : decode cX1_countOf 22 = .ok (.aload_n 1, 1) := by decide +kernel
theorem dX1_countOf_23 : decode cX1_countOf 23 = .ok (.getfield 79, 3) := by decide +kernel
theorem dX1_countOf_26 : decode cX1_countOf 26 = .ok (.invokevirtual 68, 3) := by decide +kernel
theorem dX1_countOf_29 : decode cX1_countOf 29 = .ok (.ifCond .eq 6, 3) := by decide +kernel
theorem dX1_countOf_32 : decode cX1_countOf 32 = .ok (.iinc 2 1, 3) := by decide +kernel
theorem dX1_countOf_35 : decode cX1_countOf 35 = .ok (.iinc 3 1, 3) := by decide +kernel
theorem dX1_countOf_38 : decode cX1_countOf 38 = .ok (.goto (-34), 3) := by decide +kernel
theorem dX1_countOf_41 : decode cX1_countOf 41 = .ok (.iload_n 2, 1) := by decide +kernel
theorem dX1_countOf_42 : decode cX1_countOf 42 = .ok (.ireturn, 1) := by decide +kernel
theorem dX1_entryOf_0 : decode cX1_entryOf 0 = .ok (.iconst 0, 1) := by decide +kernel
theorem dX1_entryOf_1 : decode cX1_entryOf 1 = .ok (.istore_n 3, 1) := by decide +kernel
theorem dX1_entryOf_2 : decode cX1_entryOf 2 = .ok (.iconst 0, 1) := by decide +kernel
theorem dX1_entryOf_3 : decode cX1_entryOf 3 = .ok (.istore 4, 2) := by decide +kernel
theorem dX1_entryOf_5 : decode cX1_entryOf 5 = .ok (.iload 4, 2) := by decide +kernel
theorem dX1_entryOf_7 : decode cX1_entryOf 7 = .ok (.aload_n 0, 1) := by decide +kernel
theorem dX1_entryOf_8 : decode cX1_entryOf 8 = .ok (.getfield 17, 3) := by decide +kernel
theorem dX1_entryOf_11 : decode cX1_entryOf 11 = .ok (.if_icmp .ge 46, 3) := by decide +kernel
theorem dX1_entryOf_14 : decode cX1_entryOf 14 = .ok (.aload_n 0, 1) := by decide +kernel
theorem dX1_entryOf_15 : decode cX1_entryOf 15 = .ok (.getfield 13, 3) := by decide +kernel
theorem dX1_entryOf_18 : decode cX1_entryOf 18 = .ok (.iload 4, 2) := by decide +kernel
theorem dX1_entryOf_20 : decode cX1_entryOf 20 = .ok (.aaload, 1) := by decide +kernel
theorem dX1_entryOf_21 : decode cX1_entryOf 21 = .ok (.aload_n 1, 1) := by decide +kernel
theorem dX1_entryOf_22 : decode cX1_entryOf 22 = .ok (.getfield 76, 3) := by decide +kernel
theorem dX1_entryOf_25 : decode cX1_entryOf 25 = .ok (.aload_n 1, 1) := by decide +kernel
theorem dX1_entryOf_26 : decode cX1_entryOf 26 = .ok (.getfield 79, 3) := by decide +kernel
theorem dX1_entryOf_29 : decode cX1_entryOf 29 = .ok (.invokevirtual 68, 3) := by decide +kernel
theorem dX1_entryOf_32 : decode cX1_entryOf 32 = .ok (.ifCond .eq 19, 3) := by decide +kernel
theorem dX1_entryOf_35 : decode cX1_entryOf 35 = .ok (.iload_n 3, 1) := by decide +kernel
theorem dX1_entryOf_36 : decode cX1_entryOf 36 = .ok (.iload_n 2, 1) := by decide +kernel
theorem dX1_entryOf_37 : decode cX1_entryOf 37 = .ok (.if_icmp .ne 11, 3) := by decide +kernel
theorem dX1_entryOf_40 : decode cX1_entryOf 40 = .ok (.aload_n 0, 1) := by decide +kernel
theorem dX1_entryOf_41 : decode cX1_entryOf 41 = .ok (.getfield 13, 3) := by decide +kernel
theorem dX1_entryOf_44 : decode cX1_entryOf 44 = .ok (.iload 4, 2) := by decide +kernel
theorem dX1_entryOf_46 : decode cX1_entryOf 46 = .ok (.aaload, 1) := by decide +kernel
theorem dX1_entryOf_47 : decode cX1_entryOf 47 = .ok (.areturn, 1) := by decide +kernel
theorem dX1_entryOf_48 : decode cX1_entryOf 48 = .ok (.iinc 3 1, 3) := by decide +kernel
theorem dX1_entryOf_51 : decode cX1_entryOf 51 = .ok (.iinc 4 1, 3) := by decide +kernel
theorem dX1_entryOf_54 : decode cX1_entryOf 54 = .ok (.goto (-49), 3) := by decide +kernel
theorem dX1_entryOf_57 : decode cX1_entryOf 57 = .ok (.aconst_null, 1) := by decide +kernel
theorem dX1_entryOf_58 : decode cX1_entryOf 58 = .ok (.areturn, 1) := by decide +kernel
theorem dX2_init_0 : decode cX2_init 0 = .ok (.aload_n 0, 1) := by decide +kernel
theorem dX2_init_1 : decode cX2_init 1 = .ok (.invokespecial 3, 3) := by decide +kernel
theorem dX2_init_4 : decode cX2_init 4 = .ok (.aload_n 0, 1) := by decide +kernel
theorem dX2_init_5 : decode cX2_init 5 = .ok (.new 9, 3) := by decide +kernel
theorem dX2_init_8 : decode cX2_init 8 = .ok (.dup, 1) := by decide +kernel
theorem dX2_init_9 : decode cX2_init 9 = .ok (.invokespecial 11, 3) := by decide +kernel
theorem dX2_init_12 : decode cX2_init 12 = .ok (.putfield 12, 3) := by decide +kernel
theorem dX2_init_15 : decode cX2_init 15 = .ok (.aload_n 0, 1) := by decide +kernel
theorem dX2_init_16 : decode cX2_init 16 = .ok (.new 9, 3) := by decide +kernel
theorem dX2_init_19 : decode cX2_init 19 = .ok (.dup, 1) := by decide +kernel
theorem dX2_init_20 : decode cX2_init 20 = .ok (.invokespecial 11, 3) := by decide +kernel
theorem dX2_init_23 : decode cX2_init 23 = .ok (.putfield 18, 3) := by decide +kernel
theorem dX2_init_26 : decode cX2_init 26 = .ok (.aload_n 0, 1) := by decide +kernel
theorem dX2_init_27 : decode cX2_init 27 = .ok (.iconst 0, 1) := by decide +kernel
theorem dX2_init_28 : decode cX2_init 28 = .ok (.putfield 21, 3) := by decide +kernel
theorem dX2_init_31 : decode cX2_init 31 = .ok (.aload_n 0, 1) := by decide +kernel
theorem dX2_init_32 : decode cX2_init 32 = .ok (.iconst 0, 1) := by decide +kernel
theorem dX2_init_33 : decode cX2_init 33 = .ok (.putfield 25, 3) := by decide +kernel
theorem dX2_init_36 : decode cX2_init 36 = .ok (.aload_n 0, 1) := by decide +kernel
theorem dX2_init_37 : decode cX2_init 37 = .ok (.iconst 0, 1) := by decide +kernel
theorem dX2_init_38 : decode cX2_init 38 = .ok (.putfield 28, 3) := by decide +kernel
theorem dX2_init_41 : decode cX2_init 41 = .ok (.aload_n 0, 1) := by decide +kernel
theorem dX2_init_42 : decode cX2_init 42 = .ok (.iconst 0, 1) := by decide +kernel
theorem dX2_init_43 : decode cX2_init 43 = .ok (.putfield 31, 3) := by decide +kernel
theorem dX2_init_46 : decode cX2_init 46 = .ok (.aload_n 0, 1) := by decide +kernel
theorem dX2_init_47 : decode cX2_init 47 = .ok (.lconst 0, 1) := by decide +kernel
theorem dX2_init_48 : decode cX2_init 48 = .ok (.putfield 34, 3) := by decide +kernel
theorem dX2_init_51 : decode cX2_init 51 = .ok (.aload_n 0, 1) := by decide +kernel
theorem dX2_init_52 : decode cX2_init 52 = .ok (.lconst 0, 1) := by decide +kernel
theorem dX2_init_53 : decode cX2_init 53 = .ok (.putfield 38, 3) := by decide +kernel
theorem dX2_init_56 : decode cX2_init 56 = .ok (.aload_n 0, 1) := by decide +kernel
theorem dX2_init_57 : decode cX2_init 57 = .ok (.lconst 0, 1) := by decide +kernel
theorem dX2_init_58 : decode cX2_init 58 = .ok (.putfield 41, 3) := by decide +kernel
theorem dX2_init_61 : decode cX2_init 61 = .ok (.aload_n 0, 1) := by decide +kernel
theorem dX2_init_62 : decode cX2_init 62 = .ok (.iconst 0, 1) := by decide +kernel
theorem dX2_init_63 : decode cX2_init 63 = .ok (.putfield 44, 3) := by decide +kernel
theorem dX2_init_66 : decode cX2_init 66 = .ok (.return_, 1) := by decide +kernel
theorem dX2_become_0 : decode cX2_become 0 = .ok (.aload_n 0, 1) := by decide +kernel
theorem dX2_become_1 : decode cX2_become 1 = .ok (.aload_n 1, 1) := by decide +kernel
theorem dX2_become_2 : decode cX2_become 2 = .ok (.getfield 48, 3) := by decide +kernel
theorem dX2_become_5 : decode cX2_become 5 = .ok (.putfield 21, 3) := by decide +kernel
theorem dX2_become_8 : decode cX2_become 8 = .ok (.aload_n 0, 1) := by decide +kernel
theorem dX2_become_9 : decode cX2_become 9 = .ok (.aload_n 1, 1) := by decide +kernel
theorem dX2_become_10 : decode cX2_become 10 = .ok (.getfield 51, 3) := by decide +kernel
theorem dX2_become_13 : decode cX2_become 13 = .ok (.putfield 25, 3) := by decide +kernel
theorem dX2_become_16 : decode cX2_become 16 = .ok (.aload_n 0, 1) := by decide +kernel
theorem dX2_become_17 : decode cX2_become 17 = .ok (.getfield 12, 3) := by decide +kernel
theorem dX2_become_20 : decode cX2_become 20 = .ok (.aload_n 1, 1) := by decide +kernel
theorem dX2_become_21 : decode cX2_become 21 = .ok (.getfield 52, 3) := by decide +kernel
theorem dX2_become_24 : decode cX2_become 24 = .ok (.invokevirtual 53, 3) := by decide +kernel
theorem dX2_become_27 : decode cX2_become 27 = .ok (.aload_n 0, 1) := by decide +kernel
theorem dX2_become_28 : decode cX2_become 28 = .ok (.getfield 18, 3) := by decide +kernel
theorem dX2_become_31 : decode cX2_become 31 = .ok (.aload_n 1, 1) := by decide +kernel
theorem dX2_become_32 : decode cX2_become 32 = .ok (.getfield 57, 3) := by decide +kernel
theorem dX2_become_35 : decode cX2_become 35 = .ok (.invokevirtual 53, 3) := by decide +kernel
theorem dX2_become_38 : decode cX2_become 38 = .ok (.return_, 1) := by decide +kernel
theorem dX2_begin_0 : decode cX2_begin 0 = .ok (.aload_n 0, 1) := by decide +kernel
theorem dX2_begin_1 : decode cX2_begin 1 = .ok (.iload_n 1, 1) := by decide +kernel
theorem dX2_begin_2 : decode cX2_begin 2 = .ok (.putfield 28, 3) := by decide +kernel
theorem dX2_begin_5 : decode cX2_begin 5 = .ok (.aload_n 0, 1) := by decide +kernel
theorem dX2_begin_6 : decode cX2_begin 6 = .ok (.lload_n 2, 1) := by decide +kernel
theorem dX2_begin_7 : decode cX2_begin 7 = .ok (.putfield 34, 3) := by decide +kernel
theorem dX2_begin_10 : decode cX2_begin 10 = .ok (.aload_n 0, 1) := by decide +kernel
theorem dX2_begin_11 : decode cX2_begin 11 = .ok (.lload_n 2, 1) := by decide +kernel
theorem dX2_begin_12 : decode cX2_begin 12 = .ok (.iload_n 1, 1) := by decide +kernel
theorem dX2_begin_13 : decode cX2_begin 13 = .ok (.i2l, 1) := by decide +kernel
theorem dX2_begin_14 : decode cX2_begin 14 = .ok (.ladd, 1) := by decide +kernel
theorem dX2_begin_15 : decode cX2_begin 15 = .ok (.putfield 38, 3) := by decide +kernel
theorem dX2_begin_18 : decode cX2_begin 18 = .ok (.aload_n 0, 1) := by decide +kernel
theorem dX2_begin_19 : decode cX2_begin 19 = .ok (.iconst 0, 1) := by decide +kernel
theorem dX2_begin_20 : decode cX2_begin 20 = .ok (.putfield 44, 3) := by decide +kernel
theorem dX2_begin_23 : decode cX2_begin 23 = .ok (.aload_n 0, 1) := by decide +kernel
theorem dX2_begin_24 : decode cX2_begin 24 = .ok (.iconst 0, 1) := by decide +kernel
theorem dX2_begin_25 : decode cX2_begin 25 = .ok (.putfield 31, 3) := by decide +kernel
theorem dX2_begin_28 : decode cX2_begin 28 = .ok (.aload_n 0, 1) := by decide +kernel
theorem dX2_begin_29 : decode cX2_begin 29 = .ok (.invokevirtual 58, 3) := by decide +kernel
theorem dX2_begin_32 : decode cX2_begin 32 = .ok (.return_, 1) := by decide +kernel
theorem dX2_die_0 : decode cX2_die 0 = .ok (.aload_n 0, 1) := by decide +kernel
theorem dX2_die_1 : decode cX2_die 1 = .ok (.iconst 1, 1) := by decide +kernel
theorem dX2_die_2 : decode cX2_die 2 = .ok (.putfield 44, 3) := by decide +kernel
theorem dX2_die_5 : decode cX2_die 5 = .ok (.aload_n 0, 1) := by decide +kernel
theorem dX2_die_6 : decode cX2_die 6 = .ok (.aload_n 0, 1) := by decide +kernel
theorem dX2_die_7 : decode cX2_die 7 = .ok (.getfield 38, 3) := by decide +kernel
theorem dX2_die_10 : decode cX2_die 10 = .ok (.lload_n 1, 1) := by decide +kernel
theorem dX2_die_11 : decode cX2_die 11 = .ok (.ldc2_w 61, 3) := by decide +kernel
theorem dX2_die_14 : decode cX2_die 14 = .ok (.ladd, 1) := by decide +kernel
theorem dX2_die_15 : decode cX2_die 15 = .ok (.invokestatic 63, 3) := by decide +kernel
theorem dX2_die_18 : decode cX2_die 18 = .ok (.putfield 38, 3) := by decide +kernel
theorem dX2_die_21 : decode cX2_die 21 = .ok (.aload_n 0, 1) := by decide +kernel
theorem dX2_die_22 : decode cX2_die 22 = .ok (.invokevirtual 58, 3) := by decide +kernel
theorem dX2_die_25 : decode cX2_die 25 = .ok (.return_, 1) := by decide +kernel
theorem dX2_countRefresh_0 : decode cX2_countRefresh 0 = .ok (.aload_n 0, 1) := by decide +kernel
theorem dX2_countRefresh_1 : decode cX2_countRefresh 1 = .ok (.dup, 1) := by decide +kernel
theorem dX2_countRefresh_2 : decode cX2_countRefresh 2 = .ok (.getfield 31, 3) := by decide +kernel
theorem dX2_countRefresh_5 : decode cX2_countRefresh 5 = .ok (.iconst 1, 1) := by decide +kernel
theorem dX2_countRefresh_6 : decode cX2_countRefresh 6 = .ok (.iadd, 1) := by decide +kernel
theorem dX2_countRefresh_7 : decode cX2_countRefresh 7 = .ok (.putfield 31, 3) := by decide +kernel
theorem dX2_countRefresh_10 : decode cX2_countRefresh 10 = .ok (.aload_n 0, 1) := by decide +kernel
theorem dX2_countRefresh_11 : decode cX2_countRefresh 11 = .ok (.invokevirtual 58, 3) := by decide +kernel
theorem dX2_countRefresh_14 : decode cX2_countRefresh 14 = .ok (.return_, 1) := by decide +kernel
theorem dX2_plan_0 : decode cX2_plan 0 = .ok (.aload_n 0, 1) := by decide +kernel
theorem dX2_plan_1 : decode cX2_plan 1 = .ok (.getfield 44, 3) := by decide +kernel
theorem dX2_plan_4 : decode cX2_plan 4 = .ok (.ifCond .ne 11, 3) := by decide +kernel
theorem dX2_plan_7 : decode cX2_plan 7 = .ok (.aload_n 0, 1) := by decide +kernel
theorem dX2_plan_8 : decode cX2_plan 8 = .ok (.getfield 31, 3) := by decide +kernel
theorem dX2_plan_11 : decode cX2_plan 11 = .ok (.iconst 4, 1) := by decide +kernel
theorem dX2_plan_12 : decode cX2_plan 12 = .ok (.if_icmp .lt 14, 3) := by decide +kernel
theorem dX2_plan_15 : decode cX2_plan 15 = .ok (.aload_n 0, 1) := by decide +kernel
theorem dX2_plan_16 : decode cX2_plan 16 = .ok (.aload_n 0, 1) := by decide +kernel
theorem dX2_plan_17 : decode cX2_plan 17 = .ok (.getfield 38, 3) := by decide +kernel
theorem dX2_plan_20 : decode cX2_plan 20 = .ok (.putfield 41, 3) := by decide +kernel
theorem dX2_plan_23 : decode cX2_plan 23 = .ok (.goto 34, 3) := by decide +kernel
theorem dX2_plan_26 : decode cX2_plan 26 = .ok (.bipush 80, 2) := by decide +kernel
theorem dX2_plan_28 : decode cX2_plan 28 = .ok (.iconst 5, 1) := by decide +kernel
theorem dX2_plan_29 : decode cX2_plan 29 = .ok (.aload_n 0, 1) := by decide +kernel
theorem dX2_plan_30 : decode cX2_plan 30 = .ok (.getfield 31, 3) := by decide +kernel
theorem dX2_plan_33 : decode cX2_plan 33 = .ok (.imul, 1) := by decide +kernel
theorem dX2_plan_34 : decode cX2_plan 34 = .ok (.iadd, 1) := by decide +kernel
theorem dX2_plan_35 : decode cX2_plan 35 = .ok (.i2l, 1) := by decide +kernel
theorem dX2_plan_36 : decode cX2_plan 36 = .ok (.lstore_n 1, 1) := by decide +kernel
theorem dX2_plan_37 : decode cX2_plan 37 = .ok (.aload_n 0, 1) := by decide +kernel
theorem dX2_plan_38 : decode cX2_plan 38 = .ok (.aload_n 0, 1) := by decide +kernel
theorem dX2_plan_39 : decode cX2_plan 39 = .ok (.getfield 34, 3) := by decide +kernel
theorem dX2_plan_42 : decode cX2_plan 42 = .ok (.aload_n 0, 1) := by decide +kernel
theorem dX2_plan_43 : decode cX2_plan 43 = .ok (.getfield 28, 3) := by decide +kernel
theorem dX2_plan_46 : decode cX2_plan 46 = .ok (.i2l, 1) := by decide +kernel
theorem dX2_plan_47 : decode cX2_plan 47 = .ok (.lload_n 1, 1) := by decide +kernel
theorem dX2_plan_48 : decode cX2_plan 48 = .ok (.lmul, 1) := by decide +kernel
theorem dX2_plan_49 : decode cX2_plan 49 = .ok (.ldc2_w 69, 3) := by decide +kernel
theorem dX2_plan_52 : decode cX2_plan 52 = .ok (.ldiv, 1) := by decide +kernel
theorem dX2_plan_53 : decode cX2_plan 53 = .ok (.ladd, 1) := by decide +kernel
theorem dX2_plan_54 : decode cX2_plan 54 = .ok (.putfield 41, 3) := by decide +kernel
theorem dX2_plan_57 : decode cX2_plan 57 = .ok (.return_, 1) := by decide +kernel
theorem dX2_isOf_0 : decode cX2_isOf 0 = .ok (.aload_n 0, 1) := by decide +kernel
theorem dX2_isOf_1 : decode cX2_isOf 1 = .ok (.getfield 21, 3) := by decide +kernel
theorem dX2_isOf_4 : decode cX2_isOf 4 = .ok (.iload_n 1, 1) := by decide +kernel
theorem dX2_isOf_5 : decode cX2_isOf 5 = .ok (.if_icmp .ne 18, 3) := by decide +kernel
theorem dX2_isOf_8 : decode cX2_isOf 8 = .ok (.aload_n 0, 1) := by decide +kernel
theorem dX2_isOf_9 : decode cX2_isOf 9 = .ok (.getfield 12, 3) := by decide +kernel
theorem dX2_isOf_12 : decode cX2_isOf 12 = .ok (.aload_n 2, 1) := by decide +kernel
theorem dX2_isOf_13 : decode cX2_isOf 13 = .ok (.invokevirtual 71, 3) := by decide +kernel
theorem dX2_isOf_16 : decode cX2_isOf 16 = .ok (.ifCond .eq 7, 3) := by decide +kernel
theorem dX2_isOf_19 : decode cX2_isOf 19 = .ok (.iconst 1, 1) := by decide +kernel
theorem dX2_isOf_20 : decode cX2_isOf 20 = .ok (.goto 4, 3) := by decide +kernel
theorem dX2_isOf_23 : decode cX2_isOf 23 = .ok (.iconst 0, 1) := by decide +kernel
theorem dX2_isOf_24 : decode cX2_isOf 24 = .ok (.ireturn, 1) := by decide +kernel
theorem dX2_isTheOne_0 : decode cX2_isTheOne 0 = .ok (.aload_n 0, 1) := by decide +kernel
theorem dX2_isTheOne_1 : decode cX2_isTheOne 1 = .ok (.getfield 21, 3) := by decide +kernel
theorem dX2_isTheOne_4 : decode cX2_isTheOne 4 = .ok (.aload_n 1, 1) := by decide +kernel
theorem dX2_isTheOne_5 : decode cX2_isTheOne 5 = .ok (.getfield 48, 3) := by decide +kernel
theorem dX2_isTheOne_8 : decode cX2_isTheOne 8 = .ok (.if_icmp .ne 46, 3) := by decide +kernel
theorem dX2_isTheOne_11 : decode cX2_isTheOne 11 = .ok (.aload_n 0, 1) := by decide +kernel
theorem dX2_isTheOne_12 : decode cX2_isTheOne 12 = .ok (.getfield 25, 3) := by decide +kernel
theorem dX2_isTheOne_15 : decode cX2_isTheOne 15 = .ok (.aload_n 1, 1) := by decide +kernel
theorem dX2_isTheOne_16 : decode cX2_isTheOne 16 = .ok (.getfield 51, 3) := by decide +kernel
theorem dX2_isTheOne_19 : decode cX2_isTheOne 19 = .ok (.if_icmp .ne 35, 3) := by decide +kernel
theorem dX2_isTheOne_22 : decode cX2_isTheOne 22 = .ok (.aload_n 0, 1) := by decide +kernel
theorem dX2_isTheOne_23 : decode cX2_isTheOne 23 = .ok (.getfield 12, 3) := by decide +kernel
theorem dX2_isTheOne_26 : decode cX2_isTheOne 26 = .ok (.aload_n 1, 1) := by decide +kernel
theorem dX2_isTheOne_27 : decode cX2_isTheOne 27 = .ok (.getfield 52, 3) := by decide +kernel
theorem dX2_isTheOne_30 : decode cX2_isTheOne 30 = .ok (.invokevirtual 71, 3) := by decide +kernel
theorem dX2_isTheOne_33 : decode cX2_isTheOne 33 = .ok (.ifCond .eq 21, 3) := by decide +kernel
theorem dX2_isTheOne_36 : decode cX2_isTheOne 36 = .ok (.aload_n 0, 1) := by decide +kernel
theorem dX2_isTheOne_37 : decode cX2_isTheOne 37 = .ok (.getfield 18, 3) := by decide +kernel
theorem dX2_isTheOne_40 : decode cX2_isTheOne 40 = .ok (.aload_n 1, 1) := by decide +kernel
theorem dX2_isTheOne_41 : decode cX2_isTheOne 41 = .ok (.getfield 57, 3) := by decide +kernel
theorem dX2_isTheOne_44 : decode cX2_isTheOne 44 = .ok (.invokevirtual 71, 3) := by decide +kernel
theorem dX2_isTheOne_47 : decode cX2_isTheOne 47 = .ok (.ifCond .eq 7, 3) := by decide +kernel
theorem dX2_isTheOne_50 : decode cX2_isTheOne 50 = .ok (.iconst 1, 1) := by decide +kernel
theorem dX2_isTheOne_51 : decode cX2_isTheOne 51 = .ok (.goto 4, 3) := by decide +kernel
theorem dX2_isTheOne_54 : decode cX2_isTheOne 54 = .ok (.iconst 0, 1) := by decide +kernel
theorem dX2_isTheOne_55 : decode cX2_isTheOne 55 = .ok (.ireturn, 1) := by decide +kernel
theorem dX2_isKnownTo_0 : decode cX2_isKnownTo 0 = .ok (.aload_n 0, 1) := by decide +kernel
theorem dX2_isKnownTo_1 : decode cX2_isKnownTo 1 = .ok (.getfield 21, 3) := by decide +kernel
theorem dX2_isKnownTo_4 : decode cX2_isKnownTo 4 = .ok (.aload_n 1, 1) := by decide +kernel
theorem dX2_isKnownTo_5 : decode cX2_isKnownTo 5 = .ok (.getfield 75, 3) := by decide +kernel
theorem dX2_isKnownTo_8 : decode cX2_isKnownTo 8 = .ok (.if_icmp .ne 40, 3) := by decide +kernel
theorem dX2_isKnownTo_11 : decode cX2_isKnownTo 11 = .ok (.ldc2_w 78, 3) := by decide +kernel
theorem dX2_isKnownTo_14 : decode cX2_isKnownTo 14 = .ok (.aload_n 0, 1) := by decide +kernel
theorem dX2_isKnownTo_15 : decode cX2_isKnownTo 15 = .ok (.getfield 38, 3) := by decide +kernel
theorem dX2_isKnownTo_18 : decode cX2_isKnownTo 18 = .ok (.lload_n 2, 1) := by decide +kernel
theorem dX2_isKnownTo_19 : decode cX2_isKnownTo 19 = .ok (.lsub, 1) := by decide +kernel
theorem dX2_isKnownTo_20 : decode cX2_isKnownTo 20 = .ok (.lmul, 1) := by decide +kernel
theorem dX2_isKnownTo_21 : decode cX2_isKnownTo 21 = .ok (.aload_n 0, 1) := by decide +kernel
theorem dX2_isKnownTo_22 : decode cX2_isKnownTo 22 = .ok (.getfield 28, 3) := by decide +kernel
theorem dX2_isKnownTo_25 : decode cX2_isKnownTo 25 = .ok (.i2l, 1) := by decide +kernel
theorem dX2_isKnownTo_26 : decode cX2_isKnownTo 26 = .ok (.lcmp, 1) := by decide +kernel
theorem dX2_isKnownTo_27 : decode cX2_isKnownTo 27 = .ok (.ifCond .le 21, 3) := by decide +kernel
theorem dX2_isKnownTo_30 : decode cX2_isKnownTo 30 = .ok (.aload_n 0, 1) := by decide +kernel
theorem dX2_isKnownTo_31 : decode cX2_isKnownTo 31 = .ok (.getfield 12, 3) := by decide +kernel
theorem dX2_isKnownTo_34 : decode cX2_isKnownTo 34 = .ok (.aload_n 1, 1) := by decide +kernel
theorem dX2_isKnownTo_35 : decode cX2_isKnownTo 35 = .ok (.getfield 80, 3) := by decide +kernel
theorem dX2_isKnownTo_38 : decode cX2_isKnownTo 38 = .ok (.invokevirtual 71, 3) := by decide +kernel
theorem dX2_isKnownTo_41 : decode cX2_isKnownTo 41 = .ok (.ifCond .eq 7, 3) := by decide +kernel
theorem dX2_isKnownTo_44 : decode cX2_isKnownTo 44 = .ok (.iconst 1, 1) := by decide +kernel
theorem dX2_isKnownTo_45 : decode cX2_isKnownTo 45 = .ok (.goto 4, 3) := by decide +kernel
theorem dX2_isKnownTo_48 : decode cX2_isKnownTo 48 = .ok (.iconst 0, 1) := by decide +kernel
theorem dX2_isKnownTo_49 : decode cX2_isKnownTo 49 = .ok (.ireturn, 1) := by decide +kernel
theorem dX2_view_0 : decode cX2_view 0 = .ok (.iload_n 1, 1) := by decide +kernel
theorem dX2_view_1 : decode cX2_view 1 = .ok (.tableswitch 93 0 6 #[43, 48, 53, 58, 64, 72, 85], 43) := by decide +kernel
theorem dX2_view_44 : decode cX2_view 44 = .ok (.aload_n 0, 1) := by decide +kernel
theorem dX2_view_45 : decode cX2_view 45 = .ok (.getfield 21, 3) := by decide +kernel
theorem dX2_view_48 : decode cX2_view 48 = .ok (.ireturn, 1) := by decide +kernel
theorem dX2_view_49 : decode cX2_view 49 = .ok (.aload_n 0, 1) := by decide +kernel
theorem dX2_view_50 : decode cX2_view 50 = .ok (.getfield 25, 3) := by decide +kernel
theorem dX2_view_53 : decode cX2_view 53 = .ok (.ireturn, 1) := by decide +kernel
theorem dX2_view_54 : decode cX2_view 54 = .ok (.aload_n 0, 1) := by decide +kernel
theorem dX2_view_55 : decode cX2_view 55 = .ok (.getfield 28, 3) := by decide +kernel
theorem dX2_view_58 : decode cX2_view 58 = .ok (.ireturn, 1) := by decide +kernel
theorem dX2_view_59 : decode cX2_view 59 = .ok (.aload_n 0, 1) := by decide +kernel
theorem dX2_view_60 : decode cX2_view 60 = .ok (.getfield 34, 3) := by decide +kernel
theorem dX2_view_63 : decode cX2_view 63 = .ok (.l2i, 1) := by decide +kernel
theorem dX2_view_64 : decode cX2_view 64 = .ok (.ireturn, 1) := by decide +kernel
theorem dX2_view_65 : decode cX2_view 65 = .ok (.aload_n 0, 1) := by decide +kernel
theorem dX2_view_66 : decode cX2_view 66 = .ok (.getfield 12, 3) := by decide +kernel
theorem dX2_view_69 : decode cX2_view 69 = .ok (.getfield 81, 3) := by decide +kernel
theorem dX2_view_72 : decode cX2_view 72 = .ok (.ireturn, 1) := by decide +kernel
theorem dX2_view_73 : decode cX2_view 73 = .ok (.aload_n 0, 1) := by decide +kernel
theorem dX2_view_74 : decode cX2_view 74 = .ok (.getfield 44, 3) := by decide +kernel
theorem dX2_view_77 : decode cX2_view 77 = .ok (.ifCond .eq 7, 3) := by decide +kernel
theorem dX2_view_80 : decode cX2_view 80 = .ok (.iconst 1, 1) := by decide +kernel
theorem dX2_view_81 : decode cX2_view 81 = .ok (.goto 4, 3) := by decide +kernel
theorem dX2_view_84 : decode cX2_view 84 = .ok (.iconst 0, 1) := by decide +kernel
theorem dX2_view_85 : decode cX2_view 85 = .ok (.ireturn, 1) := by decide +kernel
theorem dX2_view_86 : decode cX2_view 86 = .ok (.aload_n 0, 1) := by decide +kernel
theorem dX2_view_87 : decode cX2_view 87 = .ok (.getfield 38, 3) := by decide +kernel
theorem dX2_view_90 : decode cX2_view 90 = .ok (.lload_n 2, 1) := by decide +kernel
theorem dX2_view_91 : decode cX2_view 91 = .ok (.lsub, 1) := by decide +kernel
theorem dX2_view_92 : decode cX2_view 92 = .ok (.l2i, 1) := by decide +kernel
theorem dX2_view_93 : decode cX2_view 93 = .ok (.ireturn, 1) := by decide +kernel
theorem dX2_view_94 : decode cX2_view 94 = .ok (.iconst (-1), 1) := by decide +kernel
theorem dX2_view_95 : decode cX2_view 95 = .ok (.ireturn, 1) := by decide +kernel
theorem dX3_init_0 : decode cX3_init 0 = .ok (.aload_n 0, 1) := by decide +kernel
theorem dX3_init_1 : decode cX3_init 1 = .ok (.invokespecial 3, 3) := by decide +kernel
theorem dX3_init_4 : decode cX3_init 4 = .ok (.aload_n 0, 1) := by decide +kernel
theorem dX3_init_5 : decode cX3_init 5 = .ok (.new 9, 3) := by decide +kernel
theorem dX3_init_8 : decode cX3_init 8 = .ok (.dup, 1) := by decide +kernel
theorem dX3_init_9 : decode cX3_init 9 = .ok (.invokespecial 11, 3) := by decide +kernel
theorem dX3_init_12 : decode cX3_init 12 = .ok (.putfield 12, 3) := by decide +kernel
theorem dX3_init_15 : decode cX3_init 15 = .ok (.aload_n 0, 1) := by decide +kernel
theorem dX3_init_16 : decode cX3_init 16 = .ok (.new 18, 3) := by decide +kernel
theorem dX3_init_19 : decode cX3_init 19 = .ok (.dup, 1) := by decide +kernel
theorem dX3_init_20 : decode cX3_init 20 = .ok (.invokespecial 20, 3) := by decide +kernel
theorem dX3_init_23 : decode cX3_init 23 = .ok (.putfield 21, 3) := by decide +kernel
theorem dX3_init_26 : decode cX3_init 26 = .ok (.aload_n 0, 1) := by decide +kernel
theorem dX3_init_27 : decode cX3_init 27 = .ok (.iconst 4, 1) := by decide +kernel
theorem dX3_init_28 : decode cX3_init 28 = .ok (.anewarray 25, 3) := by decide +kernel
theorem dX3_init_31 : decode cX3_init 31 = .ok (.putfield 27, 3) := by decide +kernel
theorem dX3_init_34 : decode cX3_init 34 = .ok (.aload_n 0, 1) := by decide +kernel
theorem dX3_init_35 : decode cX3_init 35 = .ok (.iconst 4, 1) := by decide +kernel
theorem dX3_init_36 : decode cX3_init 36 = .ok (.anewarray 31, 3) := by decide +kernel
theorem dX3_init_39 : decode cX3_init 39 = .ok (.putfield 33, 3) := by decide +kernel
theorem dX3_init_42 : decode cX3_init 42 = .ok (.aload_n 0, 1) := by decide +kernel
theorem dX3_init_43 : decode cX3_init 43 = .ok (.iconst 4, 1) := by decide +kernel
theorem dX3_init_44 : decode cX3_init 44 = .ok (.anewarray 37, 3) := by decide +kernel
theorem dX3_init_47 : decode cX3_init 47 = .ok (.putfield 39, 3) := by decide +kernel
theorem dX3_init_50 : decode cX3_init 50 = .ok (.aload_n 0, 1) := by decide +kernel
theorem dX3_init_51 : decode cX3_init 51 = .ok (.new 43, 3) := by decide +kernel
theorem dX3_init_54 : decode cX3_init 54 = .ok (.dup, 1) := by decide +kernel
theorem dX3_init_55 : decode cX3_init 55 = .ok (.invokespecial 45, 3) := by decide +kernel
theorem dX3_init_58 : decode cX3_init 58 = .ok (.putfield 46, 3) := by decide +kernel
theorem dX3_init_61 : decode cX3_init 61 = .ok (.aload_n 0, 1) := by decide +kernel
theorem dX3_init_62 : decode cX3_init 62 = .ok (.iconst 0, 1) := by decide +kernel
theorem dX3_init_63 : decode cX3_init 63 = .ok (.putfield 50, 3) := by decide +kernel
theorem dX3_init_66 : decode cX3_init 66 = .ok (.aload_n 0, 1) := by decide +kernel
theorem dX3_init_67 : decode cX3_init 67 = .ok (.iconst 0, 1) := by decide +kernel
theorem dX3_init_68 : decode cX3_init 68 = .ok (.putfield 54, 3) := by decide +kernel
theorem dX3_init_71 : decode cX3_init 71 = .ok (.aload_n 0, 1) := by decide +kernel
theorem dX3_init_72 : decode cX3_init 72 = .ok (.iconst 0, 1) := by decide +kernel
theorem dX3_init_73 : decode cX3_init 73 = .ok (.putfield 58, 3) := by decide +kernel
theorem dX3_init_76 : decode cX3_init 76 = .ok (.aload_n 0, 1) := by decide +kernel
theorem dX3_init_77 : decode cX3_init 77 = .ok (.iconst 0, 1) := by decide +kernel
theorem dX3_init_78 : decode cX3_init 78 = .ok (.putfield 61, 3) := by decide +kernel
theorem dX3_init_81 : decode cX3_init 81 = .ok (.aload_n 0, 1) := by decide +kernel
theorem dX3_init_82 : decode cX3_init 82 = .ok (.iconst 0, 1) := by decide +kernel
theorem dX3_init_83 : decode cX3_init 83 = .ok (.putfield 64, 3) := by decide +kernel
theorem dX3_init_86 : decode cX3_init 86 = .ok (.aload_n 0, 1) := by decide +kernel
theorem dX3_init_87 : decode cX3_init 87 = .ok (.iconst 0, 1) := by decide +kernel
theorem dX3_init_88 : decode cX3_init 88 = .ok (.putfield 67, 3) := by decide +kernel
theorem dX3_init_91 : decode cX3_init 91 = .ok (.aload_n 0, 1) := by decide +kernel
theorem dX3_init_92 : decode cX3_init 92 = .ok (.iconst 0, 1) := by decide +kernel
theorem dX3_init_93 : decode cX3_init 93 = .ok (.putfield 70, 3) := by decide +kernel
theorem dX3_init_96 : decode cX3_init 96 = .ok (.aload_n 0, 1) := by decide +kernel
theorem dX3_init_97 : decode cX3_init 97 = .ok (.iconst 0, 1) := by decide +kernel
theorem dX3_init_98 : decode cX3_init 98 = .ok (.putfield 73, 3) := by decide +kernel
theorem dX3_init_101 : decode cX3_init 101 = .ok (.aload_n 0, 1) := by decide +kernel
theorem dX3_init_102 : decode cX3_init 102 = .ok (.iconst 0, 1) := by decide +kernel
theorem dX3_init_103 : decode cX3_init 103 = .ok (.putfield 76, 3) := by decide +kernel
theorem dX3_init_106 : decode cX3_init 106 = .ok (.aload_n 0, 1) := by decide +kernel
theorem dX3_init_107 : decode cX3_init 107 = .ok (.iload_n 1, 1) := by decide +kernel
theorem dX3_init_108 : decode cX3_init 108 = .ok (.putfield 79, 3) := by decide +kernel
theorem dX3_init_111 : decode cX3_init 111 = .ok (.iconst 0, 1) := by decide +kernel
theorem dX3_init_112 : decode cX3_init 112 = .ok (.istore_n 2, 1) := by decide +kernel
theorem dX3_init_113 : decode cX3_init 113 = .ok (.iload_n 2, 1) := by decide +kernel
theorem dX3_init_114 : decode cX3_init 114 = .ok (.iconst 4, 1) := by decide +kernel
theorem dX3_init_115 : decode cX3_init 115 = .ok (.if_icmp .ge 48, 3) := by decide +kernel
theorem dX3_init_118 : decode cX3_init 118 = .ok (.aload_n 0, 1) := by decide +kernel
theorem dX3_init_119 : decode cX3_init 119 = .ok (.getfield 27, 3) := by decide +kernel
theorem dX3_init_122 : decode cX3_init 122 = .ok (.iload_n 2, 1) := by decide +kernel
theorem dX3_init_123 : decode cX3_init 123 = .ok (.new 25, 3) := by decide +kernel
theorem dX3_init_126 : decode cX3_init 126 = .ok (.dup, 1) := by decide +kernel
theorem dX3_init_127 : decode cX3_init 127 = .ok (.invokespecial 82, 3) := by decide +kernel
theorem dX3_init_130 : decode cX3_init 130 = .ok (.aastore, 1) := by decide +kernel
theorem dX3_init_131 : decode cX3_init 131 = .ok (.aload_n 0, 1) := by decide +kernel
theorem dX3_init_132 : decode cX3_init 132 = .ok (.getfield 33, 3) := by decide +kernel
theorem dX3_init_135 : decode cX3_init 135 = .ok (.iload_n 2, 1) := by decide +kernel
theorem dX3_init_136 : decode cX3_init 136 = .ok (.new 31, 3) := by decide +kernel
theorem dX3_init_139 : decode cX3_init 139 = .ok (.dup, 1) := by decide +kernel
theorem dX3_init_140 : decode cX3_init 140 = .ok (.invokespecial 83, 3) := by decide +kernel
theorem dX3_init_143 : decode cX3_init 143 = .ok (.aastore, 1) := by decide +kernel
theorem dX3_init_144 : decode cX3_init 144 = .ok (.aload_n 0, 1) := by decide +kernel
