theorem dX5_putServiceRecord_30 : decode cX5_putServiceRecord 30 = .ok (.aload_n 1, 1) := by decide +kernel
theorem dX5_putServiceRecord_31 : decode cX5_putServiceRecord 31 = .ok (.getfield 81, 3) := by decide +kernel
theorem dX5_putServiceRecord_34 : decode cX5_putServiceRecord 34 = .ok (.iconst 2, 1) := by decide +kernel
theorem dX5_putServiceRecord_35 : decode cX5_putServiceRecord 35 = .ok (.invokevirtual 49, 3) := by decide +kernel
theorem dX5_putServiceRecord_38 : decode cX5_putServiceRecord 38 = .ok (.return_, 1) := by decide +kernel
theorem dX5_addWordPlace_0 : decode cX5_addWordPlace 0 = .ok (.iload_n 1, 1) := by decide +kernel
theorem dX5_addWordPlace_1 : decode cX5_addWordPlace 1 = .ok (.sipush 128, 3) := by decide +kernel
theorem dX5_addWordPlace_4 : decode cX5_addWordPlace 4 = .ok (.if_icmp .ge 32, 3) := by decide +kernel
theorem dX5_addWordPlace_7 : decode cX5_addWordPlace 7 = .ok (.aload_n 0, 1) := by decide +kernel
theorem dX5_addWordPlace_8 : decode cX5_addWordPlace 8 = .ok (.getfield 23, 3) := by decide +kernel
theorem dX5_addWordPlace_11 : decode cX5_addWordPlace 11 = .ok (.bipush 17, 2) := by decide +kernel
theorem dX5_addWordPlace_13 : decode cX5_addWordPlace 13 = .ok (.if_icmp .ge 23, 3) := by decide +kernel
theorem dX5_addWordPlace_16 : decode cX5_addWordPlace 16 = .ok (.aload_n 0, 1) := by decide +kernel
theorem dX5_addWordPlace_17 : decode cX5_addWordPlace 17 = .ok (.getfield 15, 3) := by decide +kernel
theorem dX5_addWordPlace_20 : decode cX5_addWordPlace 20 = .ok (.aload_n 0, 1) := by decide +kernel
theorem dX5_addWordPlace_21 : decode cX5_addWordPlace 21 = .ok (.getfield 23, 3) := by decide +kernel
theorem dX5_addWordPlace_24 : decode cX5_addWordPlace 24 = .ok (.iload_n 1, 1) := by decide +kernel
theorem dX5_addWordPlace_25 : decode cX5_addWordPlace 25 = .ok (.iastore, 1) := by decide +kernel
theorem dX5_addWordPlace_26 : decode cX5_addWordPlace 26 = .ok (.aload_n 0, 1) := by decide +kernel
theorem dX5_addWordPlace_27 : decode cX5_addWordPlace 27 = .ok (.dup, 1) := by decide +kernel
theorem dX5_addWordPlace_28 : decode cX5_addWordPlace 28 = .ok (.getfield 23, 3) := by decide +kernel
theorem dX5_addWordPlace_31 : decode cX5_addWordPlace 31 = .ok (.iconst 1, 1) := by decide +kernel
theorem dX5_addWordPlace_32 : decode cX5_addWordPlace 32 = .ok (.iadd, 1) := by decide +kernel
theorem dX5_addWordPlace_33 : decode cX5_addWordPlace 33 = .ok (.putfield 23, 3) := by decide +kernel
theorem dX5_addWordPlace_36 : decode cX5_addWordPlace 36 = .ok (.return_, 1) := by decide +kernel
theorem dX5_isWordPlace_0 : decode cX5_isWordPlace 0 = .ok (.iconst 0, 1) := by decide +kernel
theorem dX5_isWordPlace_1 : decode cX5_isWordPlace 1 = .ok (.istore_n 2, 1) := by decide +kernel
theorem dX5_isWordPlace_2 : decode cX5_isWordPlace 2 = .ok (.iload_n 2, 1) := by decide +kernel
theorem dX5_isWordPlace_3 : decode cX5_isWordPlace 3 = .ok (.aload_n 0, 1) := by decide +kernel
theorem dX5_isWordPlace_4 : decode cX5_isWordPlace 4 = .ok (.getfield 23, 3) := by decide +kernel
theorem dX5_isWordPlace_7 : decode cX5_isWordPlace 7 = .ok (.if_icmp .ge 21, 3) := by decide +kernel
theorem dX5_isWordPlace_10 : decode cX5_isWordPlace 10 = .ok (.aload_n 0, 1) := by decide +kernel
theorem dX5_isWordPlace_11 : decode cX5_isWordPlace 11 = .ok (.getfield 15, 3) := by decide +kernel
theorem dX5_isWordPlace_14 : decode cX5_isWordPlace 14 = .ok (.iload_n 2, 1) := by decide +kernel
theorem dX5_isWordPlace_15 : decode cX5_isWordPlace 15 = .ok (.iaload, 1) := by decide +kernel
theorem dX5_isWordPlace_16 : decode cX5_isWordPlace 16 = .ok (.iload_n 1, 1) := by decide +kernel
theorem dX5_isWordPlace_17 : decode cX5_isWordPlace 17 = .ok (.if_icmp .ne 5, 3) := by decide +kernel
theorem dX5_isWordPlace_20 : decode cX5_isWordPlace 20 = .ok (.iconst 1, 1) := by decide +kernel
theorem dX5_isWordPlace_21 : decode cX5_isWordPlace 21 = .ok (.ireturn, 1) := by decide +kernel
theorem dX5_isWordPlace_22 : decode cX5_isWordPlace 22 = .ok (.iinc 2 1, 3) := by decide +kernel
theorem dX5_isWordPlace_25 : decode cX5_isWordPlace 25 = .ok (.goto (-23), 3) := by decide +kernel
theorem dX5_isWordPlace_28 : decode cX5_isWordPlace 28 = .ok (.iconst 0, 1) := by decide +kernel
theorem dX5_isWordPlace_29 : decode cX5_isWordPlace 29 = .ok (.ireturn, 1) := by decide +kernel
theorem dX5_spells_0 : decode cX5_spells 0 = .ok (.iload_n 1, 1) := by decide +kernel
theorem dX5_spells_1 : decode cX5_spells 1 = .ok (.ifCond .lt 29, 3) := by decide +kernel
theorem dX5_spells_4 : decode cX5_spells 4 = .ok (.iload_n 1, 1) := by decide +kernel
theorem dX5_spells_5 : decode cX5_spells 5 = .ok (.aload_n 2, 1) := by decide +kernel
theorem dX5_spells_6 : decode cX5_spells 6 = .ok (.getfield 43, 3) := by decide +kernel
theorem dX5_spells_9 : decode cX5_spells 9 = .ok (.iadd, 1) := by decide +kernel
theorem dX5_spells_10 : decode cX5_spells 10 = .ok (.aload_n 0, 1) := by decide +kernel
theorem dX5_spells_11 : decode cX5_spells 11 = .ok (.getfield 19, 3) := by decide +kernel
theorem dX5_spells_14 : decode cX5_spells 14 = .ok (.if_icmp .ge 16, 3) := by decide +kernel
theorem dX5_spells_17 : decode cX5_spells 17 = .ok (.aload_n 0, 1) := by decide +kernel
theorem dX5_spells_18 : decode cX5_spells 18 = .ok (.getfield 11, 3) := by decide +kernel
theorem dX5_spells_21 : decode cX5_spells 21 = .ok (.iload_n 1, 1) := by decide +kernel
theorem dX5_spells_22 : decode cX5_spells 22 = .ok (.baload, 1) := by decide +kernel
theorem dX5_spells_23 : decode cX5_spells 23 = .ok (.aload_n 2, 1) := by decide +kernel
theorem dX5_spells_24 : decode cX5_spells 24 = .ok (.getfield 43, 3) := by decide +kernel
theorem dX5_spells_27 : decode cX5_spells 27 = .ok (.if_icmp .eq 5, 3) := by decide +kernel
theorem dX5_spells_30 : decode cX5_spells 30 = .ok (.iconst 0, 1) := by decide +kernel
theorem dX5_spells_31 : decode cX5_spells 31 = .ok (.ireturn, 1) := by decide +kernel
theorem dX5_spells_32 : decode cX5_spells 32 = .ok (.iconst 0, 1) := by decide +kernel
theorem dX5_spells_33 : decode cX5_spells 33 = .ok (.istore_n 3, 1) := by decide +kernel
theorem dX5_spells_34 : decode cX5_spells 34 = .ok (.iload_n 3, 1) := by decide +kernel
theorem dX5_spells_35 : decode cX5_spells 35 = .ok (.aload_n 2, 1) := by decide +kernel
theorem dX5_spells_36 : decode cX5_spells 36 = .ok (.getfield 43, 3) := by decide +kernel
theorem dX5_spells_39 : decode cX5_spells 39 = .ok (.if_icmp .ge 30, 3) := by decide +kernel
theorem dX5_spells_42 : decode cX5_spells 42 = .ok (.aload_n 0, 1) := by decide +kernel
theorem dX5_spells_43 : decode cX5_spells 43 = .ok (.getfield 11, 3) := by decide +kernel
theorem dX5_spells_46 : decode cX5_spells 46 = .ok (.iload_n 1, 1) := by decide +kernel
theorem dX5_spells_47 : decode cX5_spells 47 = .ok (.iconst 1, 1) := by decide +kernel
theorem dX5_spells_48 : decode cX5_spells 48 = .ok (.iadd, 1) := by decide +kernel
theorem dX5_spells_49 : decode cX5_spells 49 = .ok (.iload_n 3, 1) := by decide +kernel
theorem dX5_spells_50 : decode cX5_spells 50 = .ok (.iadd, 1) := by decide +kernel
theorem dX5_spells_51 : decode cX5_spells 51 = .ok (.baload, 1) := by decide +kernel
theorem dX5_spells_52 : decode cX5_spells 52 = .ok (.aload_n 2, 1) := by decide +kernel
theorem dX5_spells_53 : decode cX5_spells 53 = .ok (.getfield 46, 3) := by decide +kernel
theorem dX5_spells_56 : decode cX5_spells 56 = .ok (.iload_n 3, 1) := by decide +kernel
theorem dX5_spells_57 : decode cX5_spells 57 = .ok (.baload, 1) := by decide +kernel
theorem dX5_spells_58 : decode cX5_spells 58 = .ok (.if_icmp .eq 5, 3) := by decide +kernel
theorem dX5_spells_61 : decode cX5_spells 61 = .ok (.iconst 0, 1) := by decide +kernel
theorem dX5_spells_62 : decode cX5_spells 62 = .ok (.ireturn, 1) := by decide +kernel
theorem dX5_spells_63 : decode cX5_spells 63 = .ok (.iinc 3 1, 3) := by decide +kernel
theorem dX5_spells_66 : decode cX5_spells 66 = .ok (.goto (-32), 3) := by decide +kernel
theorem dX5_spells_69 : decode cX5_spells 69 = .ok (.iconst 1, 1) := by decide +kernel
theorem dX5_spells_70 : decode cX5_spells 70 = .ok (.ireturn, 1) := by decide +kernel
theorem dX6_init_0 : decode cX6_init 0 = .ok (.aload_n 0, 1) := by decide +kernel
theorem dX6_init_1 : decode cX6_init 1 = .ok (.invokespecial 1, 3) := by decide +kernel
theorem dX6_init_4 : decode cX6_init 4 = .ok (.aload_n 0, 1) := by decide +kernel
theorem dX6_init_5 : decode cX6_init 5 = .ok (.new 7, 3) := by decide +kernel
theorem dX6_init_8 : decode cX6_init 8 = .ok (.dup, 1) := by decide +kernel
theorem dX6_init_9 : decode cX6_init 9 = .ok (.invokespecial 9, 3) := by decide +kernel
theorem dX6_init_12 : decode cX6_init 12 = .ok (.putfield 10, 3) := by decide +kernel
theorem dX6_init_15 : decode cX6_init 15 = .ok (.aload_n 0, 1) := by decide +kernel
theorem dX6_init_16 : decode cX6_init 16 = .ok (.iconst 0, 1) := by decide +kernel
theorem dX6_init_17 : decode cX6_init 17 = .ok (.putfield 16, 3) := by decide +kernel
theorem dX6_init_20 : decode cX6_init 20 = .ok (.aload_n 0, 1) := by decide +kernel
theorem dX6_init_21 : decode cX6_init 21 = .ok (.iconst 0, 1) := by decide +kernel
theorem dX6_init_22 : decode cX6_init 22 = .ok (.putfield 20, 3) := by decide +kernel
theorem dX6_init_25 : decode cX6_init 25 = .ok (.aload_n 0, 1) := by decide +kernel
theorem dX6_init_26 : decode cX6_init 26 = .ok (.iconst 0, 1) := by decide +kernel
theorem dX6_init_27 : decode cX6_init 27 = .ok (.putfield 24, 3) := by decide +kernel
theorem dX6_init_30 : decode cX6_init 30 = .ok (.aload_n 0, 1) := by decide +kernel
theorem dX6_init_31 : decode cX6_init 31 = .ok (.lconst 0, 1) := by decide +kernel
theorem dX6_init_32 : decode cX6_init 32 = .ok (.putfield 27, 3) := by decide +kernel
theorem dX6_init_35 : decode cX6_init 35 = .ok (.return_, 1) := by decide +kernel
theorem dX6_start_0 : decode cX6_start 0 = .ok (.aload_n 0, 1) := by decide +kernel
theorem dX6_start_1 : decode cX6_start 1 = .ok (.iconst 1, 1) := by decide +kernel
theorem dX6_start_2 : decode cX6_start 2 = .ok (.putfield 16, 3) := by decide +kernel
theorem dX6_start_5 : decode cX6_start 5 = .ok (.aload_n 0, 1) := by decide +kernel
theorem dX6_start_6 : decode cX6_start 6 = .ok (.iload_n 1, 1) := by decide +kernel
theorem dX6_start_7 : decode cX6_start 7 = .ok (.putfield 20, 3) := by decide +kernel
theorem dX6_start_10 : decode cX6_start 10 = .ok (.aload_n 0, 1) := by decide +kernel
theorem dX6_start_11 : decode cX6_start 11 = .ok (.sipush 1000, 3) := by decide +kernel
theorem dX6_start_14 : decode cX6_start 14 = .ok (.putfield 24, 3) := by decide +kernel
theorem dX6_start_17 : decode cX6_start 17 = .ok (.aload_n 0, 1) := by decide +kernel
theorem dX6_start_18 : decode cX6_start 18 = .ok (.lload_n 3, 1) := by decide +kernel
theorem dX6_start_19 : decode cX6_start 19 = .ok (.ldc2_w 31, 3) := by decide +kernel
theorem dX6_start_22 : decode cX6_start 22 = .ok (.ladd, 1) := by decide +kernel
theorem dX6_start_23 : decode cX6_start 23 = .ok (.bipush 11, 2) := by decide +kernel
theorem dX6_start_25 : decode cX6_start 25 = .ok (.iload_n 2, 1) := by decide +kernel
theorem dX6_start_26 : decode cX6_start 26 = .ok (.imul, 1) := by decide +kernel
theorem dX6_start_27 : decode cX6_start 27 = .ok (.bipush 100, 2) := by decide +kernel
theorem dX6_start_29 : decode cX6_start 29 = .ok (.irem, 1) := by decide +kernel
theorem dX6_start_30 : decode cX6_start 30 = .ok (.i2l, 1) := by decide +kernel
theorem dX6_start_31 : decode cX6_start 31 = .ok (.ladd, 1) := by decide +kernel
theorem dX6_start_32 : decode cX6_start 32 = .ok (.putfield 27, 3) := by decide +kernel
theorem dX6_start_35 : decode cX6_start 35 = .ok (.return_, 1) := by decide +kernel
theorem dX6_isOf_0 : decode cX6_isOf 0 = .ok (.aload_n 0, 1) := by decide +kernel
theorem dX6_isOf_1 : decode cX6_isOf 1 = .ok (.getfield 16, 3) := by decide +kernel
theorem dX6_isOf_4 : decode cX6_isOf 4 = .ok (.ifCond .eq 26, 3) := by decide +kernel
theorem dX6_isOf_7 : decode cX6_isOf 7 = .ok (.aload_n 0, 1) := by decide +kernel
theorem dX6_isOf_8 : decode cX6_isOf 8 = .ok (.getfield 20, 3) := by decide +kernel
theorem dX6_isOf_11 : decode cX6_isOf 11 = .ok (.iload_n 1, 1) := by decide +kernel
theorem dX6_isOf_12 : decode cX6_isOf 12 = .ok (.if_icmp .ne 18, 3) := by decide +kernel
theorem dX6_isOf_15 : decode cX6_isOf 15 = .ok (.aload_n 0, 1) := by decide +kernel
theorem dX6_isOf_16 : decode cX6_isOf 16 = .ok (.getfield 10, 3) := by decide +kernel
theorem dX6_isOf_19 : decode cX6_isOf 19 = .ok (.aload_n 2, 1) := by decide +kernel
theorem dX6_isOf_20 : decode cX6_isOf 20 = .ok (.invokevirtual 33, 3) := by decide +kernel
theorem dX6_isOf_23 : decode cX6_isOf 23 = .ok (.ifCond .eq 7, 3) := by decide +kernel
theorem dX6_isOf_26 : decode cX6_isOf 26 = .ok (.iconst 1, 1) := by decide +kernel
theorem dX6_isOf_27 : decode cX6_isOf 27 = .ok (.goto 4, 3) := by decide +kernel
theorem dX6_isOf_30 : decode cX6_isOf 30 = .ok (.iconst 0, 1) := by decide +kernel
theorem dX6_isOf_31 : decode cX6_isOf 31 = .ok (.ireturn, 1) := by decide +kernel
theorem dX6_isNear_0 : decode cX6_isNear 0 = .ok (.aload_n 0, 1) := by decide +kernel
theorem dX6_isNear_1 : decode cX6_isNear 1 = .ok (.getfield 27, 3) := by decide +kernel
theorem dX6_isNear_4 : decode cX6_isNear 4 = .ok (.lload_n 1, 1) := by decide +kernel
theorem dX6_isNear_5 : decode cX6_isNear 5 = .ok (.lsub, 1) := by decide +kernel
theorem dX6_isNear_6 : decode cX6_isNear 6 = .ok (.ldc2_w 37, 3) := by decide +kernel
theorem dX6_isNear_9 : decode cX6_isNear 9 = .ok (.lcmp, 1) := by decide +kernel
theorem dX6_isNear_10 : decode cX6_isNear 10 = .ok (.ifCond .gt 7, 3) := by decide +kernel
theorem dX6_isNear_13 : decode cX6_isNear 13 = .ok (.iconst 1, 1) := by decide +kernel
theorem dX6_isNear_14 : decode cX6_isNear 14 = .ok (.goto 4, 3) := by decide +kernel
theorem dX6_isNear_17 : decode cX6_isNear 17 = .ok (.iconst 0, 1) := by decide +kernel
theorem dX6_isNear_18 : decode cX6_isNear 18 = .ok (.ireturn, 1) := by decide +kernel
theorem dX6_putOff_0 : decode cX6_putOff 0 = .ok (.aload_n 0, 1) := by decide +kernel
theorem dX6_putOff_1 : decode cX6_putOff 1 = .ok (.lload_n 1, 1) := by decide +kernel
theorem dX6_putOff_2 : decode cX6_putOff 2 = .ok (.aload_n 0, 1) := by decide +kernel
theorem dX6_putOff_3 : decode cX6_putOff 3 = .ok (.getfield 24, 3) := by decide +kernel
theorem dX6_putOff_6 : decode cX6_putOff 6 = .ok (.i2l, 1) := by decide +kernel
theorem dX6_putOff_7 : decode cX6_putOff 7 = .ok (.ladd, 1) := by decide +kernel
theorem dX6_putOff_8 : decode cX6_putOff 8 = .ok (.putfield 27, 3) := by decide +kernel
theorem dX6_putOff_11 : decode cX6_putOff 11 = .ok (.aload_n 0, 1) := by decide +kernel
theorem dX6_putOff_12 : decode cX6_putOff 12 = .ok (.iconst 2, 1) := by decide +kernel
theorem dX6_putOff_13 : decode cX6_putOff 13 = .ok (.aload_n 0, 1) := by decide +kernel
theorem dX6_putOff_14 : decode cX6_putOff 14 = .ok (.getfield 24, 3) := by decide +kernel
theorem dX6_putOff_17 : decode cX6_putOff 17 = .ok (.imul, 1) := by decide +kernel
theorem dX6_putOff_18 : decode cX6_putOff 18 = .ok (.ldc 39, 2) := by decide +kernel
theorem dX6_putOff_20 : decode cX6_putOff 20 = .ok (.invokestatic 40, 3) := by decide +kernel
theorem dX6_putOff_23 : decode cX6_putOff 23 = .ok (.putfield 24, 3) := by decide +kernel
theorem dX6_putOff_26 : decode cX6_putOff 26 = .ok (.return_, 1) := by decide +kernel
theorem dX7_init_0 : decode cX7_init 0 = .ok (.aload_n 0, 1) := by decide +kernel
theorem dX7_init_1 : decode cX7_init 1 = .ok (.invokespecial 3, 3) := by decide +kernel
theorem dX7_init_4 : decode cX7_init 4 = .ok (.aload_n 0, 1) := by decide +kernel
theorem dX7_init_5 : decode cX7_init 5 = .ok (.bipush 8, 2) := by decide +kernel
theorem dX7_init_7 : decode cX7_init 7 = .ok (.anewarray 9, 3) := by decide +kernel
theorem dX7_init_10 : decode cX7_init 10 = .ok (.putfield 11, 3) := by decide +kernel
theorem dX7_init_13 : decode cX7_init 13 = .ok (.aload_n 0, 1) := by decide +kernel
theorem dX7_init_14 : decode cX7_init 14 = .ok (.new 17, 3) := by decide +kernel
theorem dX7_init_17 : decode cX7_init 17 = .ok (.dup, 1) := by decide +kernel
theorem dX7_init_18 : decode cX7_init 18 = .ok (.invokespecial 19, 3) := by decide +kernel
theorem dX7_init_21 : decode cX7_init 21 = .ok (.putfield 20, 3) := by decide +kernel
theorem dX7_init_24 : decode cX7_init 24 = .ok (.aload_n 0, 1) := by decide +kernel
theorem dX7_init_25 : decode cX7_init 25 = .ok (.iconst 0, 1) := by decide +kernel
theorem dX7_init_26 : decode cX7_init 26 = .ok (.putfield 24, 3) := by decide +kernel
theorem dX7_init_29 : decode cX7_init 29 = .ok (.aload_n 0, 1) := by decide +kernel
theorem dX7_init_30 : decode cX7_init 30 = .ok (.iconst 0, 1) := by decide +kernel
theorem dX7_init_31 : decode cX7_init 31 = .ok (.putfield 28, 3) := by decide +kernel
theorem dX7_init_34 : decode cX7_init 34 = .ok (.aload_n 0, 1) := by decide +kernel
theorem dX7_init_35 : decode cX7_init 35 = .ok (.iconst 0, 1) := by decide +kernel
theorem dX7_init_36 : decode cX7_init 36 = .ok (.putfield 31, 3) := by decide +kernel
theorem dX7_init_39 : decode cX7_init 39 = .ok (.aload_n 0, 1) := by decide +kernel
theorem dX7_init_40 : decode cX7_init 40 = .ok (.iconst 0, 1) := by decide +kernel
theorem dX7_init_41 : decode cX7_init 41 = .ok (.putfield 34, 3) := by decide +kernel
theorem dX7_init_44 : decode cX7_init 44 = .ok (.aload_n 0, 1) := by decide +kernel
theorem dX7_init_45 : decode cX7_init 45 = .ok (.iconst 0, 1) := by decide +kernel
theorem dX7_init_46 : decode cX7_init 46 = .ok (.putfield 37, 3) := by decide +kernel
theorem dX7_init_49 : decode cX7_init 49 = .ok (.aload_n 0, 1) := by decide +kernel
theorem dX7_init_50 : decode cX7_init 50 = .ok (.iconst 0, 1) := by decide +kernel
theorem dX7_init_51 : decode cX7_init 51 = .ok (.putfield 40, 3) := by decide +kernel
theorem dX7_init_54 : decode cX7_init 54 = .ok (.aload_n 0, 1) := by decide +kernel
theorem dX7_init_55 : decode cX7_init 55 = .ok (.iconst 0, 1) := by decide +kernel
theorem dX7_init_56 : decode cX7_init 56 = .ok (.putfield 43, 3) := by decide +kernel
theorem dX7_init_59 : decode cX7_init 59 = .ok (.iconst 0, 1) := by decide +kernel
theorem dX7_init_60 : decode cX7_init 60 = .ok (.istore_n 1, 1) := by decide +kernel
theorem dX7_init_61 : decode cX7_init 61 = .ok (.iload_n 1, 1) := by decide +kernel
theorem dX7_init_62 : decode cX7_init 62 = .ok (.bipush 8, 2) := by decide +kernel
theorem dX7_init_64 : decode cX7_init 64 = .ok (.if_icmp .ge 22, 3) := by decide +kernel
theorem dX7_init_67 : decode cX7_init 67 = .ok (.aload_n 0, 1) := by decide +kernel
theorem dX7_init_68 : decode cX7_init 68 = .ok (.getfield 11, 3) := by decide +kernel
theorem dX7_init_71 : decode cX7_init 71 = .ok (.iload_n 1, 1) := by decide +kernel
theorem dX7_init_72 : decode cX7_init 72 = .ok (.new 9, 3) := by decide +kernel
theorem dX7_init_75 : decode cX7_init 75 = .ok (.dup, 1) := by decide +kernel
theorem dX7_init_76 : decode cX7_init 76 = .ok (.invokespecial 47, 3) := by decide +kernel
theorem dX7_init_79 : decode cX7_init 79 = .ok (.aastore, 1) := by decide +kernel
theorem dX7_init_80 : decode cX7_init 80 = .ok (.iinc 1 1, 3) := by decide +kernel
theorem dX7_init_83 : decode cX7_init 83 = .ok (.goto (-22), 3) := by decide +kernel
theorem dX7_init_86 : decode cX7_init 86 = .ok (.return_, 1) := by decide +kernel
theorem dX7_reads_0 : decode cX7_reads 0 = .ok (.aload_n 0, 1) := by decide +kernel
theorem dX7_reads_1 : decode cX7_reads 1 = .ok (.iconst 0, 1) := by decide +kernel
theorem dX7_reads_2 : decode cX7_reads 2 = .ok (.putfield 40, 3) := by decide +kernel
theorem dX7_reads_5 : decode cX7_reads 5 = .ok (.aload_n 0, 1) := by decide +kernel
theorem dX7_reads_6 : decode cX7_reads 6 = .ok (.iconst 0, 1) := by decide +kernel
theorem dX7_reads_7 : decode cX7_reads 7 = .ok (.putfield 43, 3) := by decide +kernel
theorem dX7_reads_10 : decode cX7_reads 10 = .ok (.aload_n 0, 1) := by decide +kernel
theorem dX7_reads_11 : decode cX7_reads 11 = .ok (.iconst 0, 1) := by decide +kernel
theorem dX7_reads_12 : decode cX7_reads 12 = .ok (.putfield 24, 3) := by decide +kernel
theorem dX7_reads_15 : decode cX7_reads 15 = .ok (.aload_n 1, 1) := by decide +kernel
theorem dX7_reads_16 : decode cX7_reads 16 = .ok (.iconst 0, 1) := by decide +kernel
theorem dX7_reads_17 : decode cX7_reads 17 = .ok (.putfield 48, 3) := by decide +kernel
theorem dX7_reads_20 : decode cX7_reads 20 = .ok (.aload_n 0, 1) := by decide +kernel
theorem dX7_reads_21 : decode cX7_reads 21 = .ok (.aload_n 0, 1) := by decide +kernel
theorem dX7_reads_22 : decode cX7_reads 22 = .ok (.aload_n 1, 1) := by decide +kernel
theorem dX7_reads_23 : decode cX7_reads 23 = .ok (.invokevirtual 53, 3) := by decide +kernel
theorem dX7_reads_26 : decode cX7_reads 26 = .ok (.putfield 28, 3) := by decide +kernel
theorem dX7_reads_29 : decode cX7_reads 29 = .ok (.aload_n 0, 1) := by decide +kernel
theorem dX7_reads_30 : decode cX7_reads 30 = .ok (.getfield 28, 3) := by decide +kernel
theorem dX7_reads_33 : decode cX7_reads 33 = .ok (.tableswitch 76 1 5 #[35, 35, 43, 60, 68], 35) := by decide +kernel
theorem dX7_reads_68 : decode cX7_reads 68 = .ok (.aload_n 0, 1) := by decide +kernel
theorem dX7_reads_69 : decode cX7_reads 69 = .ok (.aload_n 1, 1) := by decide +kernel
theorem dX7_reads_70 : decode cX7_reads 70 = .ok (.invokevirtual 57, 3) := by decide +kernel
theorem dX7_reads_73 : decode cX7_reads 73 = .ok (.goto 41, 3) := by decide +kernel
theorem dX7_reads_76 : decode cX7_reads 76 = .ok (.aload_n 0, 1) := by decide +kernel
theorem dX7_reads_77 : decode cX7_reads 77 = .ok (.aload_n 1, 1) := by decide +kernel
theorem dX7_reads_78 : decode cX7_reads 78 = .ok (.aload_n 0, 1) := by decide +kernel
theorem dX7_reads_79 : decode cX7_reads 79 = .ok (.getfield 20, 3) := by decide +kernel
theorem dX7_reads_82 : decode cX7_reads 82 = .ok (.invokevirtual 61, 3) := by decide +kernel
theorem dX7_reads_85 : decode cX7_reads 85 = .ok (.aload_n 0, 1) := by decide +kernel
theorem dX7_reads_86 : decode cX7_reads 86 = .ok (.aload_n 1, 1) := by decide +kernel
theorem dX7_reads_87 : decode cX7_reads 87 = .ok (.invokevirtual 57, 3) := by decide +kernel
theorem dX7_reads_90 : decode cX7_reads 90 = .ok (.goto 24, 3) := by decide +kernel
theorem dX7_reads_93 : decode cX7_reads 93 = .ok (.aload_n 0, 1) := by decide +kernel
theorem dX7_reads_94 : decode cX7_reads 94 = .ok (.aload_n 1, 1) := by decide +kernel
theorem dX7_reads_95 : decode cX7_reads 95 = .ok (.invokevirtual 65, 3) := by decide +kernel
theorem dX7_reads_98 : decode cX7_reads 98 = .ok (.goto 16, 3) := by decide +kernel
theorem dX7_reads_101 : decode cX7_reads 101 = .ok (.aload_n 0, 1) := by decide +kernel
theorem dX7_reads_102 : decode cX7_reads 102 = .ok (.aload_n 1, 1) := by decide +kernel
theorem dX7_reads_103 : decode cX7_reads 103 = .ok (.invokevirtual 68, 3) := by decide +kernel
theorem dX7_reads_106 : decode cX7_reads 106 = .ok (.goto 8, 3) := by decide +kernel
theorem dX7_reads_109 : decode cX7_reads 109 = .ok (.aload_n 0, 1) := by decide +kernel
theorem dX7_reads_110 : decode cX7_reads 110 = .ok (.iconst 1, 1) := by decide +kernel
theorem dX7_reads_111 : decode cX7_reads 111 = .ok (.putfield 43, 3) := by decide +kernel
theorem dX7_reads_114 : decode cX7_reads 114 = .ok (.aload_n 0, 1) := by decide +kernel
theorem dX7_reads_115 : decode cX7_reads 115 = .ok (.getfield 43, 3) := by decide +kernel
theorem dX7_reads_118 : decode cX7_reads 118 = .ok (.ifCond .ne 18, 3) := by decide +kernel
theorem dX7_reads_121 : decode cX7_reads 121 = .ok (.aload_n 0, 1) := by decide +kernel
theorem dX7_reads_122 : decode cX7_reads 122 = .ok (.getfield 40, 3) := by decide +kernel
theorem dX7_reads_125 : decode cX7_reads 125 = .ok (.aload_n 1, 1) := by decide +kernel
theorem dX7_reads_126 : decode cX7_reads 126 = .ok (.getfield 71, 3) := by decide +kernel
theorem dX7_reads_129 : decode cX7_reads 129 = .ok (.if_icmp .ne 7, 3) := by decide +kernel
theorem dX7_reads_132 : decode cX7_reads 132 = .ok (.iconst 1, 1) := by decide +kernel
theorem dX7_reads_133 : decode cX7_reads 133 = .ok (.goto 4, 3) := by decide +kernel
theorem dX7_reads_136 : decode cX7_reads 136 = .ok (.iconst 0, 1) := by decide +kernel
theorem dX7_reads_137 : decode cX7_reads 137 = .ok (.ireturn, 1) := by decide +kernel
theorem dX7_readClaim_0 : decode cX7_readClaim 0 = .ok (.aload_n 0, 1) := by decide +kernel
theorem dX7_readClaim_1 : decode cX7_readClaim 1 = .ok (.aload_n 0, 1) := by decide +kernel
theorem dX7_readClaim_2 : decode cX7_readClaim 2 = .ok (.aload_n 1, 1) := by decide +kernel
theorem dX7_readClaim_3 : decode cX7_readClaim 3 = .ok (.invokevirtual 74, 3) := by decide +kernel
theorem dX7_readClaim_6 : decode cX7_readClaim 6 = .ok (.putfield 31, 3) := by decide +kernel
theorem dX7_readClaim_9 : decode cX7_readClaim 9 = .ok (.aload_n 0, 1) := by decide +kernel
theorem dX7_readClaim_10 : decode cX7_readClaim 10 = .ok (.aload_n 0, 1) := by decide +kernel
theorem dX7_readClaim_11 : decode cX7_readClaim 11 = .ok (.aload_n 1, 1) := by decide +kernel
theorem dX7_readClaim_12 : decode cX7_readClaim 12 = .ok (.invokevirtual 77, 3) := by decide +kernel
theorem dX7_readClaim_15 : decode cX7_readClaim 15 = .ok (.putfield 34, 3) := by decide +kernel
theorem dX7_readClaim_18 : decode cX7_readClaim 18 = .ok (.return_, 1) := by decide +kernel
theorem dX7_readAsk_0 : decode cX7_readAsk 0 = .ok (.aload_n 0, 1) := by decide +kernel
theorem dX7_readAsk_1 : decode cX7_readAsk 1 = .ok (.aload_n 0, 1) := by decide +kernel
theorem dX7_readAsk_2 : decode cX7_readAsk 2 = .ok (.aload_n 1, 1) := by decide +kernel
theorem dX7_readAsk_3 : decode cX7_readAsk 3 = .ok (.invokevirtual 80, 3) := by decide +kernel
theorem dX7_readAsk_6 : decode cX7_readAsk 6 = .ok (.putfield 37, 3) := by decide +kernel
theorem dX7_readAsk_9 : decode cX7_readAsk 9 = .ok (.aload_n 0, 1) := by decide +kernel
theorem dX7_readAsk_10 : decode cX7_readAsk 10 = .ok (.aload_n 1, 1) := by decide +kernel
theorem dX7_readAsk_11 : decode cX7_readAsk 11 = .ok (.aload_n 0, 1) := by decide +kernel
theorem dX7_readAsk_12 : decode cX7_readAsk 12 = .ok (.getfield 20, 3) := by decide +kernel
theorem dX7_readAsk_15 : decode cX7_readAsk 15 = .ok (.invokevirtual 61, 3) := by decide +kernel
theorem dX7_readAsk_18 : decode cX7_readAsk 18 = .ok (.aload_n 0, 1) := by decide +kernel
theorem dX7_readAsk_19 : decode cX7_readAsk 19 = .ok (.aload_n 0, 1) := by decide +kernel
theorem dX7_readAsk_20 : decode cX7_readAsk 20 = .ok (.aload_n 1, 1) := by decide +kernel
theorem dX7_readAsk_21 : decode cX7_readAsk 21 = .ok (.bipush 8, 2) := by decide +kernel
theorem dX7_readAsk_23 : decode cX7_readAsk 23 = .ok (.invokevirtual 83, 3) := by decide +kernel
theorem dX7_readAsk_26 : decode cX7_readAsk 26 = .ok (.putfield 24, 3) := by decide +kernel
theorem dX7_readAsk_29 : decode cX7_readAsk 29 = .ok (.iconst 0, 1) := by decide +kernel
theorem dX7_readAsk_30 : decode cX7_readAsk 30 = .ok (.istore_n 2, 1) := by decide +kernel
theorem dX7_readAsk_31 : decode cX7_readAsk 31 = .ok (.iload_n 2, 1) := by decide +kernel
theorem dX7_readAsk_32 : decode cX7_readAsk 32 = .ok (.aload_n 0, 1) := by decide +kernel
theorem dX7_readAsk_33 : decode cX7_readAsk 33 = .ok (.getfield 24, 3) := by decide +kernel
theorem dX7_readAsk_36 : decode cX7_readAsk 36 = .ok (.if_icmp .ge 31, 3) := by decide +kernel
theorem dX7_readAsk_39 : decode cX7_readAsk 39 = .ok (.aload_n 0, 1) := by decide +kernel
theorem dX7_readAsk_40 : decode cX7_readAsk 40 = .ok (.getfield 43, 3) := by decide +kernel
theorem dX7_readAsk_43 : decode cX7_readAsk 43 = .ok (.ifCond .ne 24, 3) := by decide +kernel
theorem dX7_readAsk_46 : decode cX7_readAsk 46 = .ok (.aload_n 0, 1) := by decide +kernel
theorem dX7_readAsk_47 : decode cX7_readAsk 47 = .ok (.aload_n 1, 1) := by decide +kernel
theorem dX7_readAsk_48 : decode cX7_readAsk 48 = .ok (.aload_n 0, 1) := by decide +kernel
theorem dX7_readAsk_49 : decode cX7_readAsk 49 = .ok (.getfield 11, 3) := by decide +kernel
theorem dX7_readAsk_52 : decode cX7_readAsk 52 = .ok (.iload_n 2, 1) := by decide +kernel
theorem dX7_readAsk_53 : decode cX7_readAsk 53 = .ok (.aaload, 1) := by decide +kernel
theorem dX7_readAsk_54 : decode cX7_readAsk 54 = .ok (.aload_n 0, 1) := by decide +kernel
theorem dX7_readAsk_55 : decode cX7_readAsk 55 = .ok (.getfield 37, 3) := by decide +kernel
theorem dX7_readAsk_58 : decode cX7_readAsk 58 = .ok (.invokevirtual 87, 3) := by decide +kernel
theorem dX7_readAsk_61 : decode cX7_readAsk 61 = .ok (.iinc 2 1, 3) := by decide +kernel
theorem dX7_readAsk_64 : decode cX7_readAsk 64 = .ok (.goto (-33), 3) := by decide +kernel
theorem dX7_readAsk_67 : decode cX7_readAsk 67 = .ok (.return_, 1) := by decide +kernel
theorem dX7_readAnswer_0 : decode cX7_readAnswer 0 = .ok (.aload_n 0, 1) := by decide +kernel
theorem dX7_readAnswer_1 : decode cX7_readAnswer 1 = .ok (.aload_n 0, 1) := by decide +kernel
theorem dX7_readAnswer_2 : decode cX7_readAnswer 2 = .ok (.aload_n 1, 1) := by decide +kernel
theorem dX7_readAnswer_3 : decode cX7_readAnswer 3 = .ok (.bipush 8, 2) := by decide +kernel
theorem dX7_readAnswer_5 : decode cX7_readAnswer 5 = .ok (.invokevirtual 83, 3) := by decide +kernel
theorem dX7_readAnswer_8 : decode cX7_readAnswer 8 = .ok (.putfield 24, 3) := by decide +kernel
theorem dX7_readAnswer_11 : decode cX7_readAnswer 11 = .ok (.aload_n 0, 1) := by decide +kernel
theorem dX7_readAnswer_12 : decode cX7_readAnswer 12 = .ok (.getfield 24, 3) := by decide +kernel
theorem dX7_readAnswer_15 : decode cX7_readAnswer 15 = .ok (.ifCond .ne 8, 3) := by decide +kernel
theorem dX7_readAnswer_18 : decode cX7_readAnswer 18 = .ok (.aload_n 0, 1) := by decide +kernel
theorem dX7_readAnswer_19 : decode cX7_readAnswer 19 = .ok (.iconst 1, 1) := by decide +kernel
theorem dX7_readAnswer_20 : decode cX7_readAnswer 20 = .ok (.putfield 43, 3) := by decide +kernel
theorem dX7_readAnswer_23 : decode cX7_readAnswer 23 = .ok (.iconst 0, 1) := by decide +kernel
theorem dX7_readAnswer_24 : decode cX7_readAnswer 24 = .ok (.istore_n 2, 1) := by decide +kernel
theorem dX7_readAnswer_25 : decode cX7_readAnswer 25 = .ok (.iload_n 2, 1) := by decide +kernel
theorem dX7_readAnswer_26 : decode cX7_readAnswer 26 = .ok (.aload_n 0, 1) := by decide +kernel
theorem dX7_readAnswer_27 : decode cX7_readAnswer 27 = .ok (.getfield 24, 3) := by decide +kernel
theorem dX7_readAnswer_30 : decode cX7_readAnswer 30 = .ok (.if_icmp .ge 79, 3) := by decide +kernel
theorem dX7_readAnswer_33 : decode cX7_readAnswer 33 = .ok (.aload_n 0, 1) := by decide +kernel
theorem dX7_readAnswer_34 : decode cX7_readAnswer 34 = .ok (.getfield 43, 3) := by decide +kernel
theorem dX7_readAnswer_37 : decode cX7_readAnswer 37 = .ok (.ifCond .ne 72, 3) := by decide +kernel
theorem dX7_readAnswer_40 : decode cX7_readAnswer 40 = .ok (.aload_n 0, 1) := by decide +kernel
theorem dX7_readAnswer_41 : decode cX7_readAnswer 41 = .ok (.getfield 11, 3) := by decide +kernel
theorem dX7_readAnswer_44 : decode cX7_readAnswer 44 = .ok (.iload_n 2, 1) := by decide +kernel
theorem dX7_readAnswer_45 : decode cX7_readAnswer 45 = .ok (.aaload, 1) := by decide +kernel
theorem dX7_readAnswer_46 : decode cX7_readAnswer 46 = .ok (.astore_n 3, 1) := by decide +kernel
theorem dX7_readAnswer_47 : decode cX7_readAnswer 47 = .ok (.aload_n 3, 1) := by decide +kernel
theorem dX7_readAnswer_48 : decode cX7_readAnswer 48 = .ok (.aload_n 0, 1) := by decide +kernel
theorem dX7_readAnswer_49 : decode cX7_readAnswer 49 = .ok (.aload_n 1, 1) := by decide +kernel
theorem dX7_readAnswer_50 : decode cX7_readAnswer 50 = .ok (.invokevirtual 80, 3) := by decide +kernel
theorem dX7_readAnswer_53 : decode cX7_readAnswer 53 = .ok (.putfield 91, 3) := by decide +kernel
theorem dX7_readAnswer_56 : decode cX7_readAnswer 56 = .ok (.aload_n 3, 1) := by decide +kernel
theorem dX7_readAnswer_57 : decode cX7_readAnswer 57 = .ok (.aload_n 0, 1) := by decide +kernel
theorem dX7_readAnswer_58 : decode cX7_readAnswer 58 = .ok (.aload_n 1, 1) := by decide +kernel
theorem dX7_readAnswer_59 : decode cX7_readAnswer 59 = .ok (.iconst 1, 1) := by decide +kernel
theorem dX7_readAnswer_60 : decode cX7_readAnswer 60 = .ok (.invokevirtual 83, 3) := by decide +kernel
theorem dX7_readAnswer_63 : decode cX7_readAnswer 63 = .ok (.iconst 1, 1) := by decide +kernel
theorem dX7_readAnswer_64 : decode cX7_readAnswer 64 = .ok (.if_icmp .ne 7, 3) := by decide +kernel
theorem dX7_readAnswer_67 : decode cX7_readAnswer 67 = .ok (.iconst 1, 1) := by decide +kernel
theorem dX7_readAnswer_68 : decode cX7_readAnswer 68 = .ok (.goto 4, 3) := by decide +kernel
theorem dX7_readAnswer_71 : decode cX7_readAnswer 71 = .ok (.iconst 0, 1) := by decide +kernel
theorem dX7_readAnswer_72 : decode cX7_readAnswer 72 = .ok (.putfield 92, 3) := by decide +kernel
theorem dX7_readAnswer_75 : decode cX7_readAnswer 75 = .ok (.aload_n 3, 1) := by decide +kernel
theorem dX7_readAnswer_76 : decode cX7_readAnswer 76 = .ok (.aload_n 0, 1) := by decide +kernel
theorem dX7_readAnswer_77 : decode cX7_readAnswer 77 = .ok (.aload_n 1, 1) := by decide +kernel
theorem dX7_readAnswer_78 : decode cX7_readAnswer 78 = .ok (.invokevirtual 95, 3) := by decide +kernel
theorem dX7_readAnswer_81 : decode cX7_readAnswer 81 = .ok (.putfield 98, 3) := by decide +kernel
theorem dX7_readAnswer_84 : decode cX7_readAnswer 84 = .ok (.aload_n 0, 1) := by decide +kernel
theorem dX7_readAnswer_85 : decode cX7_readAnswer 85 = .ok (.aload_n 1, 1) := by decide +kernel
theorem dX7_readAnswer_86 : decode cX7_readAnswer 86 = .ok (.aload_n 3, 1) := by decide +kernel
theorem dX7_readAnswer_87 : decode cX7_readAnswer 87 = .ok (.getfield 101, 3) := by decide +kernel
theorem dX7_readAnswer_90 : decode cX7_readAnswer 90 = .ok (.invokevirtual 61, 3) := by decide +kernel
theorem dX7_readAnswer_93 : decode cX7_readAnswer 93 = .ok (.aload_n 0, 1) := by decide +kernel
theorem dX7_readAnswer_94 : decode cX7_readAnswer 94 = .ok (.aload_n 1, 1) := by decide +kernel
theorem dX7_readAnswer_95 : decode cX7_readAnswer 95 = .ok (.aload_n 3, 1) := by decide +kernel
theorem dX7_readAnswer_96 : decode cX7_readAnswer 96 = .ok (.aload_n 3, 1) := by decide +kernel
theorem dX7_readAnswer_97 : decode cX7_readAnswer 97 = .ok (.getfield 91, 3) := by decide +kernel
theorem dX7_readAnswer_100 : decode cX7_readAnswer 100 = .ok (.invokevirtual 87, 3) := by decide +kernel
theorem dX7_readAnswer_103 : decode cX7_readAnswer 103 = .ok (.iinc 2 1, 3) := by decide +kernel
theorem dX7_readAnswer_106 : decode cX7_readAnswer 106 = .ok (.goto (-81), 3) := by decide +kernel
theorem dX7_readAnswer_109 : decode cX7_readAnswer 109 = .ok (.return_, 1) := by decide +kernel
theorem dX7_readTelling_0 : decode cX7_readTelling 0 = .ok (.iload_n 3, 1) := by decide +kernel
theorem dX7_readTelling_1 : decode cX7_readTelling 1 = .ok (.iconst 2, 1) := by decide +kernel
theorem dX7_readTelling_2 : decode cX7_readTelling 2 = .ok (.if_icmp .ne 24, 3) := by decide +kernel
theorem dX7_readTelling_5 : decode cX7_readTelling 5 = .ok (.aload_n 0, 1) := by decide +kernel
theorem dX7_readTelling_6 : decode cX7_readTelling 6 = .ok (.aload_n 1, 1) := by decide +kernel
theorem dX7_readTelling_7 : decode cX7_readTelling 7 = .ok (.aload_n 2, 1) := by decide +kernel
theorem dX7_readTelling_8 : decode cX7_readTelling 8 = .ok (.getfield 102, 3) := by decide +kernel
theorem dX7_readTelling_11 : decode cX7_readTelling 11 = .ok (.invokevirtual 61, 3) := by decide +kernel
theorem dX7_readTelling_14 : decode cX7_readTelling 14 = .ok (.aload_n 2, 1) := by decide +kernel
theorem dX7_readTelling_15 : decode cX7_readTelling 15 = .ok (.aload_n 0, 1) := by decide +kernel
theorem dX7_readTelling_16 : decode cX7_readTelling 16 = .ok (.aload_n 1, 1) := by decide +kernel
theorem dX7_readTelling_17 : decode cX7_readTelling 17 = .ok (.invokevirtual 77, 3) := by decide +kernel
theorem dX7_readTelling_20 : decode cX7_readTelling 20 = .ok (.putfield 105, 3) := by decide +kernel
theorem dX7_readTelling_23 : decode cX7_readTelling 23 = .ok (.goto 19, 3) := by decide +kernel
theorem dX7_readTelling_26 : decode cX7_readTelling 26 = .ok (.aload_n 2, 1) := by decide +kernel
theorem dX7_readTelling_27 : decode cX7_readTelling 27 = .ok (.getfield 102, 3) := by decide +kernel
theorem dX7_readTelling_30 : decode cX7_readTelling 30 = .ok (.invokevirtual 108, 3) := by decide +kernel
theorem dX7_readTelling_33 : decode cX7_readTelling 33 = .ok (.aload_n 2, 1) := by decide +kernel
theorem dX7_readTelling_34 : decode cX7_readTelling 34 = .ok (.aload_n 0, 1) := by decide +kernel
theorem dX7_readTelling_35 : decode cX7_readTelling 35 = .ok (.aload_n 1, 1) := by decide +kernel
theorem dX7_readTelling_36 : decode cX7_readTelling 36 = .ok (.invokevirtual 74, 3) := by decide +kernel
theorem dX7_readTelling_39 : decode cX7_readTelling 39 = .ok (.putfield 105, 3) := by decide +kernel
theorem dX7_readTelling_42 : decode cX7_readTelling 42 = .ok (.return_, 1) := by decide +kernel
theorem dX7_readByte_0 : decode cX7_readByte 0 = .ok (.aload_n 0, 1) := by decide +kernel
theorem dX7_readByte_1 : decode cX7_readByte 1 = .ok (.getfield 40, 3) := by decide +kernel
theorem dX7_readByte_4 : decode cX7_readByte 4 = .ok (.aload_n 1, 1) := by decide +kernel
theorem dX7_readByte_5 : decode cX7_readByte 5 = .ok (.getfield 71, 3) := by decide +kernel
theorem dX7_readByte_8 : decode cX7_readByte 8 = .ok (.if_icmp .lt 10, 3) := by decide +kernel
theorem dX7_readByte_11 : decode cX7_readByte 11 = .ok (.aload_n 0, 1) := by decide +kernel
theorem dX7_readByte_12 : decode cX7_readByte 12 = .ok (.iconst 1, 1) := by decide +kernel
theorem dX7_readByte_13 : decode cX7_readByte 13 = .ok (.putfield 43, 3) := by decide +kernel
theorem dX7_readByte_16 : decode cX7_readByte 16 = .ok (.iconst 0, 1) := by decide +kernel
theorem dX7_readByte_17 : decode cX7_readByte 17 = .ok (.ireturn, 1) := by decide +kernel
theorem dX7_readByte_18 : decode cX7_readByte 18 = .ok (.aload_n 1, 1) := by decide +kernel
theorem dX7_readByte_19 : decode cX7_readByte 19 = .ok (.getfield 111, 3) := by decide +kernel
theorem dX7_readByte_22 : decode cX7_readByte 22 = .ok (.aload_n 0, 1) := by decide +kernel
theorem dX7_readByte_23 : decode cX7_readByte 23 = .ok (.getfield 40, 3) := by decide +kernel
theorem dX7_readByte_26 : decode cX7_readByte 26 = .ok (.baload, 1) := by decide +kernel
theorem dX7_readByte_27 : decode cX7_readByte 27 = .ok (.sipush 255, 3) := by decide +kernel
theorem dX7_readByte_30 : decode cX7_readByte 30 = .ok (.iand, 1) := by decide +kernel
theorem dX7_readByte_31 : decode cX7_readByte 31 = .ok (.istore_n 2, 1) := by decide +kernel
theorem dX7_readByte_32 : decode cX7_readByte 32 = .ok (.aload_n 0, 1) := by decide +kernel
theorem dX7_readByte_33 : decode cX7_readByte 33 = .ok (.dup, 1) := by decide +kernel
theorem dX7_readByte_34 : decode cX7_readByte 34 = .ok (.getfield 40, 3) := by decide +kernel
theorem dX7_readByte_37 : decode cX7_readByte 37 = .ok (.iconst 1, 1) := by decide +kernel
theorem dX7_readByte_38 : decode cX7_readByte 38 = .ok (.iadd, 1) := by decide +kernel
theorem dX7_readByte_39 : decode cX7_readByte 39 = .ok (.putfield 40, 3) := by decide +kernel
theorem dX7_readByte_42 : decode cX7_readByte 42 = .ok (.iload_n 2, 1) := by decide +kernel
theorem dX7_readByte_43 : decode cX7_readByte 43 = .ok (.ireturn, 1) := by decide +kernel
theorem dX7_readPair_0 : decode cX7_readPair 0 = .ok (.aload_n 0, 1) := by decide +kernel
theorem dX7_readPair_1 : decode cX7_readPair 1 = .ok (.aload_n 1, 1) := by decide +kernel
theorem dX7_readPair_2 : decode cX7_readPair 2 = .ok (.invokevirtual 53, 3) := by decide +kernel
theorem dX7_readPair_5 : decode cX7_readPair 5 = .ok (.istore_n 2, 1) := by decide +kernel
theorem dX7_readPair_6 : decode cX7_readPair 6 = .ok (.iload_n 2, 1) := by decide +kernel
theorem dX7_readPair_7 : decode cX7_readPair 7 = .ok (.sipush 256, 3) := by decide +kernel
theorem dX7_readPair_10 : decode cX7_readPair 10 = .ok (.imul, 1) := by decide +kernel
theorem dX7_readPair_11 : decode cX7_readPair 11 = .ok (.aload_n 0, 1) := by decide +kernel
theorem dX7_readPair_12 : decode cX7_readPair 12 = .ok (.aload_n 1, 1) := by decide +kernel
theorem dX7_readPair_13 : decode cX7_readPair 13 = .ok (.invokevirtual 53, 3) := by decide +kernel
theorem dX7_readPair_16 : decode cX7_readPair 16 = .ok (.iadd, 1) := by decide +kernel
theorem dX7_readPair_17 : decode cX7_readPair 17 = .ok (.ireturn, 1) := by decide +kernel
theorem dX7_readUpTo_0 : decode cX7_readUpTo 0 = .ok (.aload_n 0, 1) := by decide +kernel
theorem dX7_readUpTo_1 : decode cX7_readUpTo 1 = .ok (.aload_n 1, 1) := by decide +kernel
theorem dX7_readUpTo_2 : decode cX7_readUpTo 2 = .ok (.invokevirtual 53, 3) := by decide +kernel
theorem dX7_readUpTo_5 : decode cX7_readUpTo 5 = .ok (.istore_n 3, 1) := by decide +kernel
theorem dX7_readUpTo_6 : decode cX7_readUpTo 6 = .ok (.iload_n 3, 1) := by decide +kernel
theorem dX7_readUpTo_7 : decode cX7_readUpTo 7 = .ok (.iload_n 2, 1) := by decide +kernel
theorem dX7_readUpTo_8 : decode cX7_readUpTo 8 = .ok (.if_icmp .le 10, 3) := by decide +kernel
theorem dX7_readUpTo_11 : decode cX7_readUpTo 11 = .ok (.aload_n 0, 1) := by decide +kernel
theorem dX7_readUpTo_12 : decode cX7_readUpTo 12 = .ok (.iconst 1, 1) := by decide +kernel
theorem dX7_readUpTo_13 : decode cX7_readUpTo 13 = .ok (.putfield 43, 3) := by decide +kernel
theorem dX7_readUpTo_16 : decode cX7_readUpTo 16 = .ok (.iconst 0, 1) := by decide +kernel
theorem dX7_readUpTo_17 : decode cX7_readUpTo 17 = .ok (.ireturn, 1) := by decide +kernel
theorem dX7_readUpTo_18 : decode cX7_readUpTo 18 = .ok (.iload_n 3, 1) := by decide +kernel
theorem dX7_readUpTo_19 : decode cX7_readUpTo 19 = .ok (.ireturn, 1) := by decide +kernel
theorem dX7_readSort_0 : decode cX7_readSort 0 = .ok (.aload_n 0, 1) := by decide +kernel
theorem dX7_readSort_1 : decode cX7_readSort 1 = .ok (.aload_n 1, 1) := by decide +kernel
theorem dX7_readSort_2 : decode cX7_readSort 2 = .ok (.invokevirtual 53, 3) := by decide +kernel
theorem dX7_readSort_5 : decode cX7_readSort 5 = .ok (.istore_n 2, 1) := by decide +kernel
theorem dX7_readSort_6 : decode cX7_readSort 6 = .ok (.iload_n 2, 1) := by decide +kernel
theorem dX7_readSort_7 : decode cX7_readSort 7 = .ok (.iconst 1, 1) := by decide +kernel
theorem dX7_readSort_8 : decode cX7_readSort 8 = .ok (.if_icmp .eq 13, 3) := by decide +kernel
theorem dX7_readSort_11 : decode cX7_readSort 11 = .ok (.iload_n 2, 1) := by decide +kernel
theorem dX7_readSort_12 : decode cX7_readSort 12 = .ok (.iconst 2, 1) := by decide +kernel
theorem dX7_readSort_13 : decode cX7_readSort 13 = .ok (.if_icmp .eq 8, 3) := by decide +kernel
theorem dX7_readSort_16 : decode cX7_readSort 16 = .ok (.aload_n 0, 1) := by decide +kernel
theorem dX7_readSort_17 : decode cX7_readSort 17 = .ok (.iconst 1, 1) := by decide +kernel
theorem dX7_readSort_18 : decode cX7_readSort 18 = .ok (.putfield 43, 3) := by decide +kernel
theorem dX7_readSort_21 : decode cX7_readSort 21 = .ok (.iload_n 2, 1) := by decide +kernel
theorem dX7_readSort_22 : decode cX7_readSort 22 = .ok (.ireturn, 1) := by decide +kernel
theorem dX7_readAddress_0 : decode cX7_readAddress 0 = .ok (.aload_n 0, 1) := by decide +kernel
theorem dX7_readAddress_1 : decode cX7_readAddress 1 = .ok (.aload_n 1, 1) := by decide +kernel
theorem dX7_readAddress_2 : decode cX7_readAddress 2 = .ok (.invokevirtual 77, 3) := by decide +kernel
theorem dX7_readAddress_5 : decode cX7_readAddress 5 = .ok (.istore_n 2, 1) := by decide +kernel
theorem dX7_readAddress_6 : decode cX7_readAddress 6 = .ok (.iload_n 2, 1) := by decide +kernel
theorem dX7_readAddress_7 : decode cX7_readAddress 7 = .ok (.ldc 115, 2) := by decide +kernel
theorem dX7_readAddress_9 : decode cX7_readAddress 9 = .ok (.if_icmp .lt 8, 3) := by decide +kernel
theorem dX7_readAddress_12 : decode cX7_readAddress 12 = .ok (.aload_n 0, 1) := by decide +kernel
theorem dX7_readAddress_13 : decode cX7_readAddress 13 = .ok (.iconst 1, 1) := by decide +kernel
theorem dX7_readAddress_14 : decode cX7_readAddress 14 = .ok (.putfield 43, 3) := by decide +kernel
theorem dX7_readAddress_17 : decode cX7_readAddress 17 = .ok (.iload_n 2, 1) := by decide +kernel
theorem dX7_readAddress_18 : decode cX7_readAddress 18 = .ok (.ireturn, 1) := by decide +kernel
theorem dX7_readLife_0 : decode cX7_readLife 0 = .ok (.aload_n 0, 1) := by decide +kernel
theorem dX7_readLife_1 : decode cX7_readLife 1 = .ok (.aload_n 1, 1) := by decide +kernel
theorem dX7_readLife_2 : decode cX7_readLife 2 = .ok (.invokevirtual 77, 3) := by decide +kernel
theorem dX7_readLife_5 : decode cX7_readLife 5 = .ok (.istore_n 2, 1) := by decide +kernel
theorem dX7_readLife_6 : decode cX7_readLife 6 = .ok (.iload_n 2, 1) := by decide +kernel
theorem dX7_readLife_7 : decode cX7_readLife 7 = .ok (.bipush 16, 2) := by decide +kernel
theorem dX7_readLife_9 : decode cX7_readLife 9 = .ok (.ishl, 1) := by decide +kernel
theorem dX7_readLife_10 : decode cX7_readLife 10 = .ok (.aload_n 0, 1) := by decide +kernel
theorem dX7_readLife_11 : decode cX7_readLife 11 = .ok (.aload_n 1, 1) := by decide +kernel
theorem dX7_readLife_12 : decode cX7_readLife 12 = .ok (.invokevirtual 77, 3) := by decide +kernel
theorem dX7_readLife_15 : decode cX7_readLife 15 = .ok (.ior, 1) := by decide +kernel
theorem dX7_readLife_16 : decode cX7_readLife 16 = .ok (.istore_n 3, 1) := by decide +kernel
theorem dX7_readLife_17 : decode cX7_readLife 17 = .ok (.iload_n 3, 1) := by decide +kernel
theorem dX7_readLife_18 : decode cX7_readLife 18 = .ok (.ifCond .ge 8, 3) := by decide +kernel
theorem dX7_readLife_21 : decode cX7_readLife 21 = .ok (.aload_n 0, 1) := by decide +kernel
theorem dX7_readLife_22 : decode cX7_readLife 22 = .ok (.iconst 1, 1) := by decide +kernel
theorem dX7_readLife_23 : decode cX7_readLife 23 = .ok (.putfield 43, 3) := by decide +kernel
theorem dX7_readLife_26 : decode cX7_readLife 26 = .ok (.iload_n 3, 1) := by decide +kernel
theorem dX7_readLife_27 : decode cX7_readLife 27 = .ok (.ireturn, 1) := by decide +kernel
theorem dX7_readWord_0 : decode cX7_readWord 0 = .ok (.aload_n 0, 1) := by decide +kernel
theorem dX7_readWord_1 : decode cX7_readWord 1 = .ok (.getfield 40, 3) := by decide +kernel
theorem dX7_readWord_4 : decode cX7_readWord 4 = .ok (.istore_n 3, 1) := by decide +kernel
theorem dX7_readWord_5 : decode cX7_readWord 5 = .ok (.aload_n 0, 1) := by decide +kernel
theorem dX7_readWord_6 : decode cX7_readWord 6 = .ok (.aload_n 1, 1) := by decide +kernel
theorem dX7_readWord_7 : decode cX7_readWord 7 = .ok (.invokevirtual 53, 3) := by decide +kernel
theorem dX7_readWord_10 : decode cX7_readWord 10 = .ok (.istore 4, 2) := by decide +kernel
theorem dX7_readWord_12 : decode cX7_readWord 12 = .ok (.aload_n 2, 1) := by decide +kernel
theorem dX7_readWord_13 : decode cX7_readWord 13 = .ok (.invokevirtual 108, 3) := by decide +kernel
theorem dX7_readWord_16 : decode cX7_readWord 16 = .ok (.iload 4, 2) := by decide +kernel
theorem dX7_readWord_18 : decode cX7_readWord 18 = .ok (.sipush 128, 3) := by decide +kernel
theorem dX7_readWord_21 : decode cX7_readWord 21 = .ok (.if_icmp .lt 16, 3) := by decide +kernel
theorem dX7_readWord_24 : decode cX7_readWord 24 = .ok (.aload_n 0, 1) := by decide +kernel
theorem dX7_readWord_25 : decode cX7_readWord 25 = .ok (.aload_n 1, 1) := by decide +kernel
theorem dX7_readWord_26 : decode cX7_readWord 26 = .ok (.aload_n 2, 1) := by decide +kernel
theorem dX7_readWord_27 : decode cX7_readWord 27 = .ok (.iload 4, 2) := by decide +kernel
theorem dX7_readWord_29 : decode cX7_readWord 29 = .ok (.sipush 128, 3) := by decide +kernel
theorem dX7_readWord_32 : decode cX7_readWord 32 = .ok (.isub, 1) := by decide +kernel
theorem dX7_readWord_33 : decode cX7_readWord 33 = .ok (.invokevirtual 116, 3) := by decide +kernel
theorem dX7_readWord_36 : decode cX7_readWord 36 = .ok (.return_, 1) := by decide +kernel
theorem dX7_readWord_37 : decode cX7_readWord 37 = .ok (.iload 4, 2) := by decide +kernel
theorem dX7_readWord_39 : decode cX7_readWord 39 = .ok (.iconst 1, 1) := by decide +kernel
theorem dX7_readWord_40 : decode cX7_readWord 40 = .ok (.if_icmp .lt 10, 3) := by decide +kernel
theorem dX7_readWord_43 : decode cX7_readWord 43 = .ok (.iload 4, 2) := by decide +kernel
theorem dX7_readWord_45 : decode cX7_readWord 45 = .ok (.bipush 15, 2) := by decide +kernel
theorem dX7_readWord_47 : decode cX7_readWord 47 = .ok (.if_icmp .le 9, 3) := by decide +kernel
theorem dX7_readWord_50 : decode cX7_readWord 50 = .ok (.aload_n 0, 1) := by decide +kernel
theorem dX7_readWord_51 : decode cX7_readWord 51 = .ok (.iconst 1, 1) := by decide +kernel
theorem dX7_readWord_52 : decode cX7_readWord 52 = .ok (.putfield 43, 3) := by decide +kernel
theorem dX7_readWord_55 : decode cX7_readWord 55 = .ok (.return_, 1) := by decide +kernel
theorem dX7_readWord_56 : decode cX7_readWord 56 = .ok (.iconst 0, 1) := by decide +kernel
theorem dX7_readWord_57 : decode cX7_readWord 57 = .ok (.istore 5, 2) := by decide +kernel
theorem dX7_readWord_59 : decode cX7_readWord 59 = .ok (.iload 5, 2) := by decide +kernel
theorem dX7_readWord_61 : decode cX7_readWord 61 = .ok (.iload 4, 2) := by decide +kernel
theorem dX7_readWord_63 : decode cX7_readWord 63 = .ok (.if_icmp .ge 35, 3) := by decide +kernel
theorem dX7_readWord_66 : decode cX7_readWord 66 = .ok (.aload_n 0, 1) := by decide +kernel
theorem dX7_readWord_67 : decode cX7_readWord 67 = .ok (.aload_n 1, 1) := by decide +kernel
theorem dX7_readWord_68 : decode cX7_readWord 68 = .ok (.invokevirtual 53, 3) := by decide +kernel
theorem dX7_readWord_71 : decode cX7_readWord 71 = .ok (.istore 6, 2) := by decide +kernel
theorem dX7_readWord_73 : decode cX7_readWord 73 = .ok (.iload 6, 2) := by decide +kernel
theorem dX7_readWord_75 : decode cX7_readWord 75 = .ok (.invokestatic 120, 3) := by decide +kernel
theorem dX7_readWord_78 : decode cX7_readWord 78 = .ok (.ifCond .ne 8, 3) := by decide +kernel
theorem dX7_readWord_81 : decode cX7_readWord 81 = .ok (.aload_n 0, 1) := by decide +kernel
theorem dX7_readWord_82 : decode cX7_readWord 82 = .ok (.iconst 1, 1) := by decide +kernel
theorem dX7_readWord_83 : decode cX7_readWord 83 = .ok (.putfield 43, 3) := by decide +kernel
theorem dX7_readWord_86 : decode cX7_readWord 86 = .ok (.aload_n 2, 1) := by decide +kernel
theorem dX7_readWord_87 : decode cX7_readWord 87 = .ok (.iload 6, 2) := by decide +kernel
theorem dX7_readWord_89 : decode cX7_readWord 89 = .ok (.invokevirtual 124, 3) := by decide +kernel
theorem dX7_readWord_92 : decode cX7_readWord 92 = .ok (.iinc 5 1, 3) := by decide +kernel
theorem dX7_readWord_95 : decode cX7_readWord 95 = .ok (.goto (-36), 3) := by decide +kernel
theorem dX7_readWord_98 : decode cX7_readWord 98 = .ok (.aload_n 1, 1) := by decide +kernel
theorem dX7_readWord_99 : decode cX7_readWord 99 = .ok (.iload_n 3, 1) := by decide +kernel
theorem dX7_readWord_100 : decode cX7_readWord 100 = .ok (.invokevirtual 128, 3) := by decide +kernel
theorem dX7_readWord_103 : decode cX7_readWord 103 = .ok (.return_, 1) := by decide +kernel
theorem dX7_readWordAgain_0 : decode cX7_readWordAgain 0 = .ok (.aload_n 1, 1) := by decide +kernel
theorem dX7_readWordAgain_1 : decode cX7_readWordAgain 1 = .ok (.iload_n 3, 1) := by decide +kernel
theorem dX7_readWordAgain_2 : decode cX7_readWordAgain 2 = .ok (.invokevirtual 131, 3) := by decide +kernel
theorem dX7_readWordAgain_5 : decode cX7_readWordAgain 5 = .ok (.ifCond .ne 9, 3) := by decide +kernel
theorem dX7_readWordAgain_8 : decode cX7_readWordAgain 8 = .ok (.aload_n 0, 1) := by decide +kernel
theorem dX7_readWordAgain_9 : decode cX7_readWordAgain 9 = .ok (.iconst 1, 1) := by decide +kernel
theorem dX7_readWordAgain_10 : decode cX7_readWordAgain 10 = .ok (.putfield 43, 3) := by decide +kernel
theorem dX7_readWordAgain_13 : decode cX7_readWordAgain 13 = .ok (.return_, 1) := by decide +kernel
theorem dX7_readWordAgain_14 : decode cX7_readWordAgain 14 = .ok (.aload_n 1, 1) := by decide +kernel
theorem dX7_readWordAgain_15 : decode cX7_readWordAgain 15 = .ok (.iload_n 3, 1) := by decide +kernel
theorem dX7_readWordAgain_16 : decode cX7_readWordAgain 16 = .ok (.invokevirtual 134, 3) := by decide +kernel
theorem dX7_readWordAgain_19 : decode cX7_readWordAgain 19 = .ok (.istore 4, 2) := by decide +kernel
theorem dX7_readWordAgain_21 : decode cX7_readWordAgain 21 = .ok (.iconst 1, 1) := by decide +kernel
theorem dX7_readWordAgain_22 : decode cX7_readWordAgain 22 = .ok (.istore 5, 2) := by decide +kernel
theorem dX7_readWordAgain_24 : decode cX7_readWordAgain 24 = .ok (.iload 5, 2) := by decide +kernel
theorem dX7_readWordAgain_26 : decode cX7_readWordAgain 26 = .ok (.iload 4, 2) := by decide +kernel
theorem dX7_readWordAgain_28 : decode cX7_readWordAgain 28 = .ok (.if_icmp .gt 28, 3) := by decide +kernel
theorem dX7_readWordAgain_31 : decode cX7_readWordAgain 31 = .ok (.iload 5, 2) := by decide +kernel
theorem dX7_readWordAgain_33 : decode cX7_readWordAgain 33 = .ok (.bipush 15, 2) := by decide +kernel
theorem dX7_readWordAgain_35 : decode cX7_readWordAgain 35 = .ok (.if_icmp .gt 21, 3) := by decide +kernel
theorem dX7_readWordAgain_38 : decode cX7_readWordAgain 38 = .ok (.aload_n 2, 1) := by decide +kernel
theorem dX7_readWordAgain_39 : decode cX7_readWordAgain 39 = .ok (.aload_n 1, 1) := by decide +kernel
theorem dX7_readWordAgain_40 : decode cX7_readWordAgain 40 = .ok (.iload_n 3, 1) := by decide +kernel
theorem dX7_readWordAgain_41 : decode cX7_readWordAgain 41 = .ok (.iload 5, 2) := by decide +kernel
theorem dX7_readWordAgain_43 : decode cX7_readWordAgain 43 = .ok (.iadd, 1) := by decide +kernel
theorem dX7_readWordAgain_44 : decode cX7_readWordAgain 44 = .ok (.invokevirtual 134, 3) := by decide +kernel
theorem dX7_readWordAgain_47 : decode cX7_readWordAgain 47 = .ok (.invokevirtual 124, 3) := by decide +kernel
theorem dX7_readWordAgain_50 : decode cX7_readWordAgain 50 = .ok (.iinc 5 1, 3) := by decide +kernel
theorem dX7_readWordAgain_53 : decode cX7_readWordAgain 53 = .ok (.goto (-29), 3) := by decide +kernel
theorem dX7_readWordAgain_56 : decode cX7_readWordAgain 56 = .ok (.return_, 1) := by decide +kernel
theorem dX7_tellsAddress_0 : decode cX7_tellsAddress 0 = .ok (.iconst 0, 1) := by decide +kernel
theorem dX7_tellsAddress_1 : decode cX7_tellsAddress 1 = .ok (.istore_n 2, 1) := by decide +kernel
theorem dX7_tellsAddress_2 : decode cX7_tellsAddress 2 = .ok (.iload_n 2, 1) := by decide +kernel
theorem dX7_tellsAddress_3 : decode cX7_tellsAddress 3 = .ok (.aload_n 0, 1) := by decide +kernel
theorem dX7_tellsAddress_4 : decode cX7_tellsAddress 4 = .ok (.getfield 24, 3) := by decide +kernel
theorem dX7_tellsAddress_7 : decode cX7_tellsAddress 7 = .ok (.if_icmp .ge 24, 3) := by decide +kernel
theorem dX7_tellsAddress_10 : decode cX7_tellsAddress 10 = .ok (.aload_n 0, 1) := by decide +kernel
theorem dX7_tellsAddress_11 : decode cX7_tellsAddress 11 = .ok (.getfield 11, 3) := by decide +kernel
theorem dX7_tellsAddress_14 : decode cX7_tellsAddress 14 = .ok (.iload_n 2, 1) := by decide +kernel
theorem dX7_tellsAddress_15 : decode cX7_tellsAddress 15 = .ok (.aaload, 1) := by decide +kernel
theorem dX7_tellsAddress_16 : decode cX7_tellsAddress 16 = .ok (.getfield 105, 3) := by decide +kernel
theorem dX7_tellsAddress_19 : decode cX7_tellsAddress 19 = .ok (.iload_n 1, 1) := by decide +kernel
theorem dX7_tellsAddress_20 : decode cX7_tellsAddress 20 = .ok (.if_icmp .ne 5, 3) := by decide +kernel
theorem dX7_tellsAddress_23 : decode cX7_tellsAddress 23 = .ok (.iconst 1, 1) := by decide +kernel
theorem dX7_tellsAddress_24 : decode cX7_tellsAddress 24 = .ok (.ireturn, 1) := by decide +kernel
theorem dX7_tellsAddress_25 : decode cX7_tellsAddress 25 = .ok (.iinc 2 1, 3) := by decide +kernel
theorem dX7_tellsAddress_28 : decode cX7_tellsAddress 28 = .ok (.goto (-26), 3) := by decide +kernel
theorem dX7_tellsAddress_31 : decode cX7_tellsAddress 31 = .ok (.iconst 0, 1) := by decide +kernel
theorem dX7_tellsAddress_32 : decode cX7_tellsAddress 32 = .ok (.ireturn, 1) := by decide +kernel
theorem dX7_tellsService_0 : decode cX7_tellsService 0 = .ok (.iconst 0, 1) := by decide +kernel
theorem dX7_tellsService_1 : decode cX7_tellsService 1 = .ok (.istore_n 3, 1) := by decide +kernel
theorem dX7_tellsService_2 : decode cX7_tellsService 2 = .ok (.iload_n 3, 1) := by decide +kernel
theorem dX7_tellsService_3 : decode cX7_tellsService 3 = .ok (.aload_n 0, 1) := by decide +kernel
theorem dX7_tellsService_4 : decode cX7_tellsService 4 = .ok (.getfield 24, 3) := by decide +kernel
theorem dX7_tellsService_7 : decode cX7_tellsService 7 = .ok (.if_icmp .ge 40, 3) := by decide +kernel
theorem dX7_tellsService_10 : decode cX7_tellsService 10 = .ok (.aload_n 0, 1) := by decide +kernel
theorem dX7_tellsService_11 : decode cX7_tellsService 11 = .ok (.getfield 11, 3) := by decide +kernel
theorem dX7_tellsService_14 : decode cX7_tellsService 14 = .ok (.iload_n 3, 1) := by decide +kernel
theorem dX7_tellsService_15 : decode cX7_tellsService 15 = .ok (.aaload, 1) := by decide +kernel
theorem dX7_tellsService_16 : decode cX7_tellsService 16 = .ok (.getfield 105, 3) := by decide +kernel
theorem dX7_tellsService_19 : decode cX7_tellsService 19 = .ok (.iload_n 2, 1) := by decide +kernel
theorem dX7_tellsService_20 : decode cX7_tellsService 20 = .ok (.if_icmp .ne 21, 3) := by decide +kernel
theorem dX7_tellsService_23 : decode cX7_tellsService 23 = .ok (.aload_n 0, 1) := by decide +kernel
theorem dX7_tellsService_24 : decode cX7_tellsService 24 = .ok (.getfield 11, 3) := by decide +kernel
theorem dX7_tellsService_27 : decode cX7_tellsService 27 = .ok (.iload_n 3, 1) := by decide +kernel
theorem dX7_tellsService_28 : decode cX7_tellsService 28 = .ok (.aaload, 1) := by decide +kernel
theorem dX7_tellsService_29 : decode cX7_tellsService 29 = .ok (.getfield 102, 3) := by decide +kernel
theorem dX7_tellsService_32 : decode cX7_tellsService 32 = .ok (.aload_n 1, 1) := by decide +kernel
theorem dX7_tellsService_33 : decode cX7_tellsService 33 = .ok (.invokevirtual 138, 3) := by decide +kernel
theorem dX7_tellsService_36 : decode cX7_tellsService 36 = .ok (.ifCond .eq 5, 3) := by decide +kernel
theorem dX7_tellsService_39 : decode cX7_tellsService 39 = .ok (.iconst 1, 1) := by decide +kernel
theorem dX7_tellsService_40 : decode cX7_tellsService 40 = .ok (.ireturn, 1) := by decide +kernel
theorem dX7_tellsService_41 : decode cX7_tellsService 41 = .ok (.iinc 3 1, 3) := by decide +kernel
theorem dX7_tellsService_44 : decode cX7_tellsService 44 = .ok (.goto (-42), 3) := by decide +kernel
theorem dX7_tellsService_47 : decode cX7_tellsService 47 = .ok (.iconst 0, 1) := by decide +kernel
theorem dX7_tellsService_48 : decode cX7_tellsService 48 = .ok (.ireturn, 1) := by decide +kernel
theorem dX8_init_0 : decode cX8_init 0 = .ok (.aload_n 0, 1) := by decide +kernel
theorem dX8_init_1 : decode cX8_init 1 = .ok (.invokespecial 1, 3) := by decide +kernel
theorem dX8_init_4 : decode cX8_init 4 = .ok (.aload_n 0, 1) := by decide +kernel
theorem dX8_init_5 : decode cX8_init 5 = .ok (.new 7, 3) := by decide +kernel
theorem dX8_init_8 : decode cX8_init 8 = .ok (.dup, 1) := by decide +kernel
theorem dX8_init_9 : decode cX8_init 9 = .ok (.invokespecial 9, 3) := by decide +kernel
theorem dX8_init_12 : decode cX8_init 12 = .ok (.putfield 10, 3) := by decide +kernel
theorem dX8_init_15 : decode cX8_init 15 = .ok (.aload_n 0, 1) := by decide +kernel
theorem dX8_init_16 : decode cX8_init 16 = .ok (.lconst 0, 1) := by decide +kernel
theorem dX8_init_17 : decode cX8_init 17 = .ok (.putfield 16, 3) := by decide +kernel
theorem dX8_init_20 : decode cX8_init 20 = .ok (.return_, 1) := by decide +kernel
theorem dX9_init_0 : decode cX9_init 0 = .ok (.aload_n 0, 1) := by decide +kernel
theorem dX9_init_1 : decode cX9_init 1 = .ok (.invokespecial 1, 3) := by decide +kernel
theorem dX9_init_4 : decode cX9_init 4 = .ok (.aload_n 0, 1) := by decide +kernel
theorem dX9_init_5 : decode cX9_init 5 = .ok (.new 7, 3) := by decide +kernel
theorem dX9_init_8 : decode cX9_init 8 = .ok (.dup, 1) := by decide +kernel
theorem dX9_init_9 : decode cX9_init 9 = .ok (.invokespecial 9, 3) := by decide +kernel
theorem dX9_init_12 : decode cX9_init 12 = .ok (.putfield 10, 3) := by decide +kernel
theorem dX9_init_15 : decode cX9_init 15 = .ok (.aload_n 0, 1) := by decide +kernel
theorem dX9_init_16 : decode cX9_init 16 = .ok (.iconst 0, 1) := by decide +kernel
theorem dX9_init_17 : decode cX9_init 17 = .ok (.putfield 16, 3) := by decide +kernel
theorem dX9_init_20 : decode cX9_init 20 = .ok (.return_, 1) := by decide +kernel
theorem dX10_init_0 : decode cX10_init 0 = .ok (.aload_n 0, 1) := by decide +kernel
theorem dX10_init_1 : decode cX10_init 1 = .ok (.invokespecial 1, 3) := by decide +kernel
theorem dX10_init_4 : decode cX10_init 4 = .ok (.aload_n 0, 1) := by decide +kernel
theorem dX10_init_5 : decode cX10_init 5 = .ok (.new 7, 3) := by decide +kernel
theorem dX10_init_8 : decode cX10_init 8 = .ok (.dup, 1) := by decide +kernel
theorem dX10_init_9 : decode cX10_init 9 = .ok (.invokespecial 9, 3) := by decide +kernel
theorem dX10_init_12 : decode cX10_init 12 = .ok (.putfield 10, 3) := by decide +kernel
theorem dX10_init_15 : decode cX10_init 15 = .ok (.aload_n 0, 1) := by decide +kernel
theorem dX10_init_16 : decode cX10_init 16 = .ok (.new 7, 3) := by decide +kernel
theorem dX10_init_19 : decode cX10_init 19 = .ok (.dup, 1) := by decide +kernel
theorem dX10_init_20 : decode cX10_init 20 = .ok (.invokespecial 9, 3) := by decide +kernel
theorem dX10_init_23 : decode cX10_init 23 = .ok (.putfield 16, 3) := by decide +kernel
theorem dX10_init_26 : decode cX10_init 26 = .ok (.aload_n 0, 1) := by decide +kernel
theorem dX10_init_27 : decode cX10_init 27 = .ok (.iconst 0, 1) := by decide +kernel
theorem dX10_init_28 : decode cX10_init 28 = .ok (.putfield 19, 3) := by decide +kernel
theorem dX10_init_31 : decode cX10_init 31 = .ok (.aload_n 0, 1) := by decide +kernel
theorem dX10_init_32 : decode cX10_init 32 = .ok (.iconst 0, 1) := by decide +kernel
theorem dX10_init_33 : decode cX10_init 33 = .ok (.putfield 23, 3) := by decide +kernel
theorem dX10_init_36 : decode cX10_init 36 = .ok (.aload_n 0, 1) := by decide +kernel
theorem dX10_init_37 : decode cX10_init 37 = .ok (.iconst 0, 1) := by decide +kernel
theorem dX10_init_38 : decode cX10_init 38 = .ok (.putfield 26, 3) := by decide +kernel
theorem dX10_init_41 : decode cX10_init 41 = .ok (.aload_n 0, 1) := by decide +kernel
theorem dX10_init_42 : decode cX10_init 42 = .ok (.iconst 0, 1) := by decide +kernel
theorem dX10_init_43 : decode cX10_init 43 = .ok (.putfield 29, 3) := by decide +kernel
theorem dX10_init_46 : decode cX10_init 46 = .ok (.return_, 1) := by decide +kernel
theorem dX11_init_0 : decode cX11_init 0 = .ok (.aload_n 0, 1) := by decide +kernel
theorem dX11_init_1 : decode cX11_init 1 = .ok (.invokespecial 3, 3) := by decide +kernel
theorem dX11_init_4 : decode cX11_init 4 = .ok (.aload_n 0, 1) := by decide +kernel
theorem dX11_init_5 : decode cX11_init 5 = .ok (.bipush 15, 2) := by decide +kernel
theorem dX11_init_7 : decode cX11_init 7 = .ok (.newarray .byte, 2) := by decide +kernel
theorem dX11_init_9 : decode cX11_init 9 = .ok (.putfield 11, 3) := by decide +kernel
theorem dX11_init_12 : decode cX11_init 12 = .ok (.aload_n 0, 1) := by decide +kernel
theorem dX11_init_13 : decode cX11_init 13 = .ok (.iconst 0, 1) := by decide +kernel
theorem dX11_init_14 : decode cX11_init 14 = .ok (.putfield 15, 3) := by decide +kernel
theorem dX11_init_17 : decode cX11_init 17 = .ok (.return_, 1) := by decide +kernel
theorem dX11_isSign_0 : decode cX11_isSign 0 = .ok (.iload_n 0, 1) := by decide +kernel
theorem dX11_isSign_1 : decode cX11_isSign 1 = .ok (.bipush 65, 2) := by decide +kernel
theorem dX11_isSign_3 : decode cX11_isSign 3 = .ok (.if_icmp .lt 9, 3) := by decide +kernel
theorem dX11_isSign_6 : decode cX11_isSign 6 = .ok (.iload_n 0, 1) := by decide +kernel
theorem dX11_isSign_7 : decode cX11_isSign 7 = .ok (.bipush 90, 2) := by decide +kernel
theorem dX11_isSign_9 : decode cX11_isSign 9 = .ok (.if_icmp .le 33, 3) := by decide +kernel
theorem dX11_isSign_12 : decode cX11_isSign 12 = .ok (.iload_n 0, 1) := by decide +kernel
theorem dX11_isSign_13 : decode cX11_isSign 13 = .ok (.bipush 97, 2) := by decide +kernel
theorem dX11_isSign_15 : decode cX11_isSign 15 = .ok (.if_icmp .lt 9, 3) := by decide +kernel
