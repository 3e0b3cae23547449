theorem dX11_isSign_18 : decode cX11_isSign 18 = .ok (.iload_n 0, 1) := by decide +kernel
theorem dX11_isSign_19 : decode cX11_isSign 19 = .ok (.bipush 122, 2) := by decide +kernel
theorem dX11_isSign_21 : decode cX11_isSign 21 = .ok (.if_icmp .le 21, 3) := by decide +kernel
theorem dX11_isSign_24 : decode cX11_isSign 24 = .ok (.iload_n 0, 1) := by decide +kernel
theorem dX11_isSign_25 : decode cX11_isSign 25 = .ok (.bipush 48, 2) := by decide +kernel
theorem dX11_isSign_27 : decode cX11_isSign 27 = .ok (.if_icmp .lt 9, 3) := by decide +kernel
theorem dX11_isSign_30 : decode cX11_isSign 30 = .ok (.iload_n 0, 1) := by decide +kernel
theorem dX11_isSign_31 : decode cX11_isSign 31 = .ok (.bipush 57, 2) := by decide +kernel
theorem dX11_isSign_33 : decode cX11_isSign 33 = .ok (.if_icmp .le 9, 3) := by decide +kernel
theorem dX11_isSign_36 : decode cX11_isSign 36 = .ok (.iload_n 0, 1) := by decide +kernel
theorem dX11_isSign_37 : decode cX11_isSign 37 = .ok (.bipush 45, 2) := by decide +kernel
theorem dX11_isSign_39 : decode cX11_isSign 39 = .ok (.if_icmp .ne 7, 3) := by decide +kernel
theorem dX11_isSign_42 : decode cX11_isSign 42 = .ok (.iconst 1, 1) := by decide +kernel
theorem dX11_isSign_43 : decode cX11_isSign 43 = .ok (.goto 4, 3) := by decide +kernel
theorem dX11_isSign_46 : decode cX11_isSign 46 = .ok (.iconst 0, 1) := by decide +kernel
theorem dX11_isSign_47 : decode cX11_isSign 47 = .ok (.ireturn, 1) := by decide +kernel
theorem dX11_clear_0 : decode cX11_clear 0 = .ok (.aload_n 0, 1) := by decide +kernel
theorem dX11_clear_1 : decode cX11_clear 1 = .ok (.iconst 0, 1) := by decide +kernel
theorem dX11_clear_2 : decode cX11_clear 2 = .ok (.putfield 15, 3) := by decide +kernel
theorem dX11_clear_5 : decode cX11_clear 5 = .ok (.return_, 1) := by decide +kernel
theorem dX11_add_0 : decode cX11_add 0 = .ok (.aload_n 0, 1) := by decide +kernel
theorem dX11_add_1 : decode cX11_add 1 = .ok (.getfield 15, 3) := by decide +kernel
theorem dX11_add_4 : decode cX11_add 4 = .ok (.bipush 15, 2) := by decide +kernel
theorem dX11_add_6 : decode cX11_add 6 = .ok (.if_icmp .ge 24, 3) := by decide +kernel
theorem dX11_add_9 : decode cX11_add 9 = .ok (.aload_n 0, 1) := by decide +kernel
theorem dX11_add_10 : decode cX11_add 10 = .ok (.getfield 11, 3) := by decide +kernel
theorem dX11_add_13 : decode cX11_add 13 = .ok (.aload_n 0, 1) := by decide +kernel
theorem dX11_add_14 : decode cX11_add 14 = .ok (.getfield 15, 3) := by decide +kernel
theorem dX11_add_17 : decode cX11_add 17 = .ok (.iload_n 1, 1) := by decide +kernel
theorem dX11_add_18 : decode cX11_add 18 = .ok (.i2b, 1) := by decide +kernel
theorem dX11_add_19 : decode cX11_add 19 = .ok (.bastore, 1) := by decide +kernel
theorem dX11_add_20 : decode cX11_add 20 = .ok (.aload_n 0, 1) := by decide +kernel
theorem dX11_add_21 : decode cX11_add 21 = .ok (.dup, 1) := by decide +kernel
theorem dX11_add_22 : decode cX11_add 22 = .ok (.getfield 15, 3) := by decide +kernel
theorem dX11_add_25 : decode cX11_add 25 = .ok (.iconst 1, 1) := by decide +kernel
theorem dX11_add_26 : decode cX11_add 26 = .ok (.iadd, 1) := by decide +kernel
theorem dX11_add_27 : decode cX11_add 27 = .ok (.putfield 15, 3) := by decide +kernel
theorem dX11_add_30 : decode cX11_add 30 = .ok (.return_, 1) := by decide +kernel
theorem dX11_copy_0 : decode cX11_copy 0 = .ok (.iconst 0, 1) := by decide +kernel
theorem dX11_copy_1 : decode cX11_copy 1 = .ok (.istore_n 2, 1) := by decide +kernel
theorem dX11_copy_2 : decode cX11_copy 2 = .ok (.iload_n 2, 1) := by decide +kernel
theorem dX11_copy_3 : decode cX11_copy 3 = .ok (.aload_n 1, 1) := by decide +kernel
theorem dX11_copy_4 : decode cX11_copy 4 = .ok (.getfield 15, 3) := by decide +kernel
theorem dX11_copy_7 : decode cX11_copy 7 = .ok (.if_icmp .ge 21, 3) := by decide +kernel
theorem dX11_copy_10 : decode cX11_copy 10 = .ok (.aload_n 0, 1) := by decide +kernel
theorem dX11_copy_11 : decode cX11_copy 11 = .ok (.getfield 11, 3) := by decide +kernel
theorem dX11_copy_14 : decode cX11_copy 14 = .ok (.iload_n 2, 1) := by decide +kernel
theorem dX11_copy_15 : decode cX11_copy 15 = .ok (.aload_n 1, 1) := by decide +kernel
theorem dX11_copy_16 : decode cX11_copy 16 = .ok (.getfield 11, 3) := by decide +kernel
theorem dX11_copy_19 : decode cX11_copy 19 = .ok (.iload_n 2, 1) := by decide +kernel
theorem dX11_copy_20 : decode cX11_copy 20 = .ok (.baload, 1) := by decide +kernel
theorem dX11_copy_21 : decode cX11_copy 21 = .ok (.bastore, 1) := by decide +kernel
theorem dX11_copy_22 : decode cX11_copy 22 = .ok (.iinc 2 1, 3) := by decide +kernel
theorem dX11_copy_25 : decode cX11_copy 25 = .ok (.goto (-23), 3) := by decide +kernel
theorem dX11_copy_28 : decode cX11_copy 28 = .ok (.aload_n 0, 1) := by decide +kernel
theorem dX11_copy_29 : decode cX11_copy 29 = .ok (.aload_n 1, 1) := by decide +kernel
theorem dX11_copy_30 : decode cX11_copy 30 = .ok (.getfield 15, 3) := by decide +kernel
theorem dX11_copy_33 : decode cX11_copy 33 = .ok (.putfield 15, 3) := by decide +kernel
theorem dX11_copy_36 : decode cX11_copy 36 = .ok (.return_, 1) := by decide +kernel
theorem dX11_at_0 : decode cX11_at 0 = .ok (.iload_n 1, 1) := by decide +kernel
theorem dX11_at_1 : decode cX11_at 1 = .ok (.ifCond .lt 11, 3) := by decide +kernel
theorem dX11_at_4 : decode cX11_at 4 = .ok (.iload_n 1, 1) := by decide +kernel
theorem dX11_at_5 : decode cX11_at 5 = .ok (.aload_n 0, 1) := by decide +kernel
theorem dX11_at_6 : decode cX11_at 6 = .ok (.getfield 15, 3) := by decide +kernel
theorem dX11_at_9 : decode cX11_at 9 = .ok (.if_icmp .lt 7, 3) := by decide +kernel
theorem dX11_at_12 : decode cX11_at 12 = .ok (.iconst (-1), 1) := by decide +kernel
theorem dX11_at_13 : decode cX11_at 13 = .ok (.goto 9, 3) := by decide +kernel
theorem dX11_at_16 : decode cX11_at 16 = .ok (.aload_n 0, 1) := by decide +kernel
theorem dX11_at_17 : decode cX11_at 17 = .ok (.getfield 11, 3) := by decide +kernel
theorem dX11_at_20 : decode cX11_at 20 = .ok (.iload_n 1, 1) := by decide +kernel
theorem dX11_at_21 : decode cX11_at 21 = .ok (.baload, 1) := by decide +kernel
theorem dX11_at_22 : decode cX11_at 22 = .ok (.ireturn, 1) := by decide +kernel
theorem dX11_like_0 : decode cX11_like 0 = .ok (.aload_n 0, 1) := by decide +kernel
theorem dX11_like_1 : decode cX11_like 1 = .ok (.getfield 15, 3) := by decide +kernel
theorem dX11_like_4 : decode cX11_like 4 = .ok (.aload_n 1, 1) := by decide +kernel
theorem dX11_like_5 : decode cX11_like 5 = .ok (.getfield 15, 3) := by decide +kernel
theorem dX11_like_8 : decode cX11_like 8 = .ok (.if_icmp .eq 5, 3) := by decide +kernel
theorem dX11_like_11 : decode cX11_like 11 = .ok (.iconst 0, 1) := by decide +kernel
theorem dX11_like_12 : decode cX11_like 12 = .ok (.ireturn, 1) := by decide +kernel
theorem dX11_like_13 : decode cX11_like 13 = .ok (.iconst 0, 1) := by decide +kernel
theorem dX11_like_14 : decode cX11_like 14 = .ok (.istore_n 2, 1) := by decide +kernel
theorem dX11_like_15 : decode cX11_like 15 = .ok (.iload_n 2, 1) := by decide +kernel
theorem dX11_like_16 : decode cX11_like 16 = .ok (.aload_n 0, 1) := by decide +kernel
theorem dX11_like_17 : decode cX11_like 17 = .ok (.getfield 15, 3) := by decide +kernel
theorem dX11_like_20 : decode cX11_like 20 = .ok (.if_icmp .ge 60, 3) := by decide +kernel
theorem dX11_like_23 : decode cX11_like 23 = .ok (.aload_n 0, 1) := by decide +kernel
theorem dX11_like_24 : decode cX11_like 24 = .ok (.getfield 11, 3) := by decide +kernel
theorem dX11_like_27 : decode cX11_like 27 = .ok (.iload_n 2, 1) := by decide +kernel
theorem dX11_like_28 : decode cX11_like 28 = .ok (.baload, 1) := by decide +kernel
theorem dX11_like_29 : decode cX11_like 29 = .ok (.aload_n 1, 1) := by decide +kernel
theorem dX11_like_30 : decode cX11_like 30 = .ok (.getfield 11, 3) := by decide +kernel
theorem dX11_like_33 : decode cX11_like 33 = .ok (.iload_n 2, 1) := by decide +kernel
theorem dX11_like_34 : decode cX11_like 34 = .ok (.baload, 1) := by decide +kernel
theorem dX11_like_35 : decode cX11_like 35 = .ok (.ixor, 1) := by decide +kernel
theorem dX11_like_36 : decode cX11_like 36 = .ok (.istore_n 3, 1) := by decide +kernel
theorem dX11_like_37 : decode cX11_like 37 = .ok (.aload_n 0, 1) := by decide +kernel
theorem dX11_like_38 : decode cX11_like 38 = .ok (.getfield 11, 3) := by decide +kernel
theorem dX11_like_41 : decode cX11_like 41 = .ok (.iload_n 2, 1) := by decide +kernel
theorem dX11_like_42 : decode cX11_like 42 = .ok (.baload, 1) := by decide +kernel
theorem dX11_like_43 : decode cX11_like 43 = .ok (.bipush 32, 2) := by decide +kernel
theorem dX11_like_45 : decode cX11_like 45 = .ok (.ior, 1) := by decide +kernel
theorem dX11_like_46 : decode cX11_like 46 = .ok (.istore 4, 2) := by decide +kernel
theorem dX11_like_48 : decode cX11_like 48 = .ok (.iload_n 3, 1) := by decide +kernel
theorem dX11_like_49 : decode cX11_like 49 = .ok (.ifCond .eq 25, 3) := by decide +kernel
theorem dX11_like_52 : decode cX11_like 52 = .ok (.iload_n 3, 1) := by decide +kernel
theorem dX11_like_53 : decode cX11_like 53 = .ok (.bipush 32, 2) := by decide +kernel
theorem dX11_like_55 : decode cX11_like 55 = .ok (.if_icmp .ne 17, 3) := by decide +kernel
theorem dX11_like_58 : decode cX11_like 58 = .ok (.iload 4, 2) := by decide +kernel
theorem dX11_like_60 : decode cX11_like 60 = .ok (.bipush 97, 2) := by decide +kernel
theorem dX11_like_62 : decode cX11_like 62 = .ok (.if_icmp .lt 10, 3) := by decide +kernel
theorem dX11_like_65 : decode cX11_like 65 = .ok (.iload 4, 2) := by decide +kernel
theorem dX11_like_67 : decode cX11_like 67 = .ok (.bipush 122, 2) := by decide +kernel
theorem dX11_like_69 : decode cX11_like 69 = .ok (.if_icmp .le 5, 3) := by decide +kernel
theorem dX11_like_72 : decode cX11_like 72 = .ok (.iconst 0, 1) := by decide +kernel
theorem dX11_like_73 : decode cX11_like 73 = .ok (.ireturn, 1) := by decide +kernel
theorem dX11_like_74 : decode cX11_like 74 = .ok (.iinc 2 1, 3) := by decide +kernel
theorem dX11_like_77 : decode cX11_like 77 = .ok (.goto (-62), 3) := by decide +kernel
theorem dX11_like_80 : decode cX11_like 80 = .ok (.iconst 1, 1) := by decide +kernel
theorem dX11_like_81 : decode cX11_like 81 = .ok (.ireturn, 1) := by decide +kernel
theorem dX12_init_0 : decode cX12_init 0 = .ok (.aload_n 0, 1) := by decide +kernel
theorem dX12_init_1 : decode cX12_init 1 = .ok (.invokespecial 1, 3) := by decide +kernel
theorem dX12_init_4 : decode cX12_init 4 = .ok (.aload_n 0, 1) := by decide +kernel
theorem dX12_init_5 : decode cX12_init 5 = .ok (.bipush 8, 2) := by decide +kernel
theorem dX12_init_7 : decode cX12_init 7 = .ok (.anewarray 9, 3) := by decide +kernel
theorem dX12_init_10 : decode cX12_init 10 = .ok (.putfield 11, 3) := by decide +kernel
theorem dX12_init_13 : decode cX12_init 13 = .ok (.aload_n 0, 1) := by decide +kernel
theorem dX12_init_14 : decode cX12_init 14 = .ok (.new 15, 3) := by decide +kernel
theorem dX12_init_17 : decode cX12_init 17 = .ok (.dup, 1) := by decide +kernel
theorem dX12_init_18 : decode cX12_init 18 = .ok (.invokespecial 17, 3) := by decide +kernel
theorem dX12_init_21 : decode cX12_init 21 = .ok (.putfield 18, 3) := by decide +kernel
theorem dX12_init_24 : decode cX12_init 24 = .ok (.aload_n 0, 1) := by decide +kernel
theorem dX12_init_25 : decode cX12_init 25 = .ok (.new 22, 3) := by decide +kernel
theorem dX12_init_28 : decode cX12_init 28 = .ok (.dup, 1) := by decide +kernel
theorem dX12_init_29 : decode cX12_init 29 = .ok (.invokespecial 24, 3) := by decide +kernel
theorem dX12_init_32 : decode cX12_init 32 = .ok (.putfield 25, 3) := by decide +kernel
theorem dX12_init_35 : decode cX12_init 35 = .ok (.aload_n 0, 1) := by decide +kernel
theorem dX12_init_36 : decode cX12_init 36 = .ok (.bipush 10, 2) := by decide +kernel
theorem dX12_init_38 : decode cX12_init 38 = .ok (.newarray .int, 2) := by decide +kernel
theorem dX12_init_40 : decode cX12_init 40 = .ok (.putfield 29, 3) := by decide +kernel
theorem dX12_init_43 : decode cX12_init 43 = .ok (.aload_n 0, 1) := by decide +kernel
theorem dX12_init_44 : decode cX12_init 44 = .ok (.sipush 1025, 3) := by decide +kernel
theorem dX12_init_47 : decode cX12_init 47 = .ok (.anewarray 15, 3) := by decide +kernel
theorem dX12_init_50 : decode cX12_init 50 = .ok (.putfield 33, 3) := by decide +kernel
theorem dX12_init_53 : decode cX12_init 53 = .ok (.aload_n 0, 1) := by decide +kernel
theorem dX12_init_54 : decode cX12_init 54 = .ok (.iconst 0, 1) := by decide +kernel
theorem dX12_init_55 : decode cX12_init 55 = .ok (.putfield 37, 3) := by decide +kernel
theorem dX12_init_58 : decode cX12_init 58 = .ok (.aload_n 0, 1) := by decide +kernel
theorem dX12_init_59 : decode cX12_init 59 = .ok (.iconst 0, 1) := by decide +kernel
theorem dX12_init_60 : decode cX12_init 60 = .ok (.putfield 41, 3) := by decide +kernel
theorem dX12_init_63 : decode cX12_init 63 = .ok (.aload_n 0, 1) := by decide +kernel
theorem dX12_init_64 : decode cX12_init 64 = .ok (.aconst_null, 1) := by decide +kernel
theorem dX12_init_65 : decode cX12_init 65 = .ok (.putfield 44, 3) := by decide +kernel
theorem dX12_init_68 : decode cX12_init 68 = .ok (.aload_n 0, 1) := by decide +kernel
theorem dX12_init_69 : decode cX12_init 69 = .ok (.ldc2_w 47, 3) := by decide +kernel
theorem dX12_init_72 : decode cX12_init 72 = .ok (.putfield 49, 3) := by decide +kernel
theorem dX12_init_75 : decode cX12_init 75 = .ok (.aload_n 0, 1) := by decide +kernel
theorem dX12_init_76 : decode cX12_init 76 = .ok (.lconst 0, 1) := by decide +kernel
theorem dX12_init_77 : decode cX12_init 77 = .ok (.putfield 53, 3) := by decide +kernel
theorem dX12_init_80 : decode cX12_init 80 = .ok (.iconst 0, 1) := by decide +kernel
theorem dX12_init_81 : decode cX12_init 81 = .ok (.istore_n 1, 1) := by decide +kernel
theorem dX12_init_82 : decode cX12_init 82 = .ok (.iload_n 1, 1) := by decide +kernel
theorem dX12_init_83 : decode cX12_init 83 = .ok (.bipush 8, 2) := by decide +kernel
theorem dX12_init_85 : decode cX12_init 85 = .ok (.if_icmp .ge 23, 3) := by decide +kernel
theorem dX12_init_88 : decode cX12_init 88 = .ok (.aload_n 0, 1) := by decide +kernel
theorem dX12_init_89 : decode cX12_init 89 = .ok (.getfield 11, 3) := by decide +kernel
theorem dX12_init_92 : decode cX12_init 92 = .ok (.iload_n 1, 1) := by decide +kernel
theorem dX12_init_93 : decode cX12_init 93 = .ok (.new 9, 3) := by decide +kernel
theorem dX12_init_96 : decode cX12_init 96 = .ok (.dup, 1) := by decide +kernel
theorem dX12_init_97 : decode cX12_init 97 = .ok (.iload_n 1, 1) := by decide +kernel
theorem dX12_init_98 : decode cX12_init 98 = .ok (.invokespecial 56, 3) := by decide +kernel
theorem dX12_init_101 : decode cX12_init 101 = .ok (.aastore, 1) := by decide +kernel
theorem dX12_init_102 : decode cX12_init 102 = .ok (.iinc 1 1, 3) := by decide +kernel
theorem dX12_init_105 : decode cX12_init 105 = .ok (.goto (-23), 3) := by decide +kernel
theorem dX12_init_108 : decode cX12_init 108 = .ok (.return_, 1) := by decide +kernel
theorem dX12_feed_0 : decode cX12_feed 0 = .ok (.aload_n 0, 1) := by decide +kernel
theorem dX12_feed_1 : decode cX12_feed 1 = .ok (.getfield 18, 3) := by decide +kernel
theorem dX12_feed_4 : decode cX12_feed 4 = .ok (.getfield 59, 3) := by decide +kernel
theorem dX12_feed_7 : decode cX12_feed 7 = .ok (.bipush 20, 2) := by decide +kernel
theorem dX12_feed_9 : decode cX12_feed 9 = .ok (.iadd, 1) := by decide +kernel
theorem dX12_feed_10 : decode cX12_feed 10 = .ok (.sipush 200, 3) := by decide +kernel
theorem dX12_feed_13 : decode cX12_feed 13 = .ok (.if_icmp .le 5, 3) := by decide +kernel
theorem dX12_feed_16 : decode cX12_feed 16 = .ok (.iconst (-1), 1) := by decide +kernel
theorem dX12_feed_17 : decode cX12_feed 17 = .ok (.ireturn, 1) := by decide +kernel
theorem dX12_feed_18 : decode cX12_feed 18 = .ok (.aload_n 0, 1) := by decide +kernel
theorem dX12_feed_19 : decode cX12_feed 19 = .ok (.getfield 18, 3) := by decide +kernel
theorem dX12_feed_22 : decode cX12_feed 22 = .ok (.iload_n 1, 1) := by decide +kernel
theorem dX12_feed_23 : decode cX12_feed 23 = .ok (.iconst 4, 1) := by decide +kernel
theorem dX12_feed_24 : decode cX12_feed 24 = .ok (.invokevirtual 62, 3) := by decide +kernel
theorem dX12_feed_27 : decode cX12_feed 27 = .ok (.aload_n 0, 1) := by decide +kernel
theorem dX12_feed_28 : decode cX12_feed 28 = .ok (.getfield 18, 3) := by decide +kernel
theorem dX12_feed_31 : decode cX12_feed 31 = .ok (.iload_n 2, 1) := by decide +kernel
theorem dX12_feed_32 : decode cX12_feed 32 = .ok (.iconst 4, 1) := by decide +kernel
theorem dX12_feed_33 : decode cX12_feed 33 = .ok (.invokevirtual 62, 3) := by decide +kernel
theorem dX12_feed_36 : decode cX12_feed 36 = .ok (.aload_n 0, 1) := by decide +kernel
theorem dX12_feed_37 : decode cX12_feed 37 = .ok (.getfield 18, 3) := by decide +kernel
theorem dX12_feed_40 : decode cX12_feed 40 = .ok (.iload_n 3, 1) := by decide +kernel
theorem dX12_feed_41 : decode cX12_feed 41 = .ok (.iconst 4, 1) := by decide +kernel
theorem dX12_feed_42 : decode cX12_feed 42 = .ok (.invokevirtual 62, 3) := by decide +kernel
theorem dX12_feed_45 : decode cX12_feed 45 = .ok (.aload_n 0, 1) := by decide +kernel
theorem dX12_feed_46 : decode cX12_feed 46 = .ok (.getfield 18, 3) := by decide +kernel
theorem dX12_feed_49 : decode cX12_feed 49 = .ok (.iload 4, 2) := by decide +kernel
theorem dX12_feed_51 : decode cX12_feed 51 = .ok (.iconst 4, 1) := by decide +kernel
theorem dX12_feed_52 : decode cX12_feed 52 = .ok (.invokevirtual 62, 3) := by decide +kernel
theorem dX12_feed_55 : decode cX12_feed 55 = .ok (.aload_n 0, 1) := by decide +kernel
theorem dX12_feed_56 : decode cX12_feed 56 = .ok (.getfield 18, 3) := by decide +kernel
theorem dX12_feed_59 : decode cX12_feed 59 = .ok (.iload 5, 2) := by decide +kernel
theorem dX12_feed_61 : decode cX12_feed 61 = .ok (.iconst 4, 1) := by decide +kernel
theorem dX12_feed_62 : decode cX12_feed 62 = .ok (.invokevirtual 62, 3) := by decide +kernel
theorem dX12_feed_65 : decode cX12_feed 65 = .ok (.aload_n 0, 1) := by decide +kernel
theorem dX12_feed_66 : decode cX12_feed 66 = .ok (.getfield 18, 3) := by decide +kernel
theorem dX12_feed_69 : decode cX12_feed 69 = .ok (.getfield 59, 3) := by decide +kernel
theorem dX12_feed_72 : decode cX12_feed 72 = .ok (.ireturn, 1) := by decide +kernel
theorem dX12_end_0 : decode cX12_end 0 = .ok (.iload_n 1, 1) := by decide +kernel
theorem dX12_end_1 : decode cX12_end 1 = .ok (.ifCond .lt 14, 3) := by decide +kernel
theorem dX12_end_4 : decode cX12_end 4 = .ok (.iload_n 1, 1) := by decide +kernel
theorem dX12_end_5 : decode cX12_end 5 = .ok (.aload_n 0, 1) := by decide +kernel
theorem dX12_end_6 : decode cX12_end 6 = .ok (.getfield 18, 3) := by decide +kernel
theorem dX12_end_9 : decode cX12_end 9 = .ok (.getfield 59, 3) := by decide +kernel
theorem dX12_end_12 : decode cX12_end 12 = .ok (.if_icmp .le 5, 3) := by decide +kernel
theorem dX12_end_15 : decode cX12_end 15 = .ok (.iconst (-1), 1) := by decide +kernel
theorem dX12_end_16 : decode cX12_end 16 = .ok (.ireturn, 1) := by decide +kernel
theorem dX12_end_17 : decode cX12_end 17 = .ok (.aload_n 0, 1) := by decide +kernel
theorem dX12_end_18 : decode cX12_end 18 = .ok (.getfield 18, 3) := by decide +kernel
theorem dX12_end_21 : decode cX12_end 21 = .ok (.iload_n 1, 1) := by decide +kernel
theorem dX12_end_22 : decode cX12_end 22 = .ok (.putfield 59, 3) := by decide +kernel
theorem dX12_end_25 : decode cX12_end 25 = .ok (.iload_n 1, 1) := by decide +kernel
theorem dX12_end_26 : decode cX12_end 26 = .ok (.ireturn, 1) := by decide +kernel
theorem dX12_tapeIsWord_0 : decode cX12_tapeIsWord 0 = .ok (.aload_n 0, 1) := by decide +kernel
theorem dX12_tapeIsWord_1 : decode cX12_tapeIsWord 1 = .ok (.getfield 18, 3) := by decide +kernel
theorem dX12_tapeIsWord_4 : decode cX12_tapeIsWord 4 = .ok (.getfield 59, 3) := by decide +kernel
theorem dX12_tapeIsWord_7 : decode cX12_tapeIsWord 7 = .ok (.iconst 1, 1) := by decide +kernel
theorem dX12_tapeIsWord_8 : decode cX12_tapeIsWord 8 = .ok (.if_icmp .lt 15, 3) := by decide +kernel
theorem dX12_tapeIsWord_11 : decode cX12_tapeIsWord 11 = .ok (.aload_n 0, 1) := by decide +kernel
theorem dX12_tapeIsWord_12 : decode cX12_tapeIsWord 12 = .ok (.getfield 18, 3) := by decide +kernel
theorem dX12_tapeIsWord_15 : decode cX12_tapeIsWord 15 = .ok (.getfield 59, 3) := by decide +kernel
theorem dX12_tapeIsWord_18 : decode cX12_tapeIsWord 18 = .ok (.bipush 15, 2) := by decide +kernel
theorem dX12_tapeIsWord_20 : decode cX12_tapeIsWord 20 = .ok (.if_icmp .le 5, 3) := by decide +kernel
theorem dX12_tapeIsWord_23 : decode cX12_tapeIsWord 23 = .ok (.iconst 0, 1) := by decide +kernel
theorem dX12_tapeIsWord_24 : decode cX12_tapeIsWord 24 = .ok (.ireturn, 1) := by decide +kernel
theorem dX12_tapeIsWord_25 : decode cX12_tapeIsWord 25 = .ok (.iconst 0, 1) := by decide +kernel
theorem dX12_tapeIsWord_26 : decode cX12_tapeIsWord 26 = .ok (.istore_n 1, 1) := by decide +kernel
theorem dX12_tapeIsWord_27 : decode cX12_tapeIsWord 27 = .ok (.iload_n 1, 1) := by decide +kernel
theorem dX12_tapeIsWord_28 : decode cX12_tapeIsWord 28 = .ok (.aload_n 0, 1) := by decide +kernel
theorem dX12_tapeIsWord_29 : decode cX12_tapeIsWord 29 = .ok (.getfield 18, 3) := by decide +kernel
theorem dX12_tapeIsWord_32 : decode cX12_tapeIsWord 32 = .ok (.getfield 59, 3) := by decide +kernel
theorem dX12_tapeIsWord_35 : decode cX12_tapeIsWord 35 = .ok (.if_icmp .ge 25, 3) := by decide +kernel
theorem dX12_tapeIsWord_38 : decode cX12_tapeIsWord 38 = .ok (.aload_n 0, 1) := by decide +kernel
theorem dX12_tapeIsWord_39 : decode cX12_tapeIsWord 39 = .ok (.getfield 18, 3) := by decide +kernel
theorem dX12_tapeIsWord_42 : decode cX12_tapeIsWord 42 = .ok (.iload_n 1, 1) := by decide +kernel
theorem dX12_tapeIsWord_43 : decode cX12_tapeIsWord 43 = .ok (.invokevirtual 68, 3) := by decide +kernel
theorem dX12_tapeIsWord_46 : decode cX12_tapeIsWord 46 = .ok (.invokestatic 72, 3) := by decide +kernel
theorem dX12_tapeIsWord_49 : decode cX12_tapeIsWord 49 = .ok (.ifCond .ne 5, 3) := by decide +kernel
theorem dX12_tapeIsWord_52 : decode cX12_tapeIsWord 52 = .ok (.iconst 0, 1) := by decide +kernel
theorem dX12_tapeIsWord_53 : decode cX12_tapeIsWord 53 = .ok (.ireturn, 1) := by decide +kernel
theorem dX12_tapeIsWord_54 : decode cX12_tapeIsWord 54 = .ok (.iinc 1 1, 3) := by decide +kernel
theorem dX12_tapeIsWord_57 : decode cX12_tapeIsWord 57 = .ok (.goto (-30), 3) := by decide +kernel
theorem dX12_tapeIsWord_60 : decode cX12_tapeIsWord 60 = .ok (.iconst 1, 1) := by decide +kernel
theorem dX12_tapeIsWord_61 : decode cX12_tapeIsWord 61 = .ok (.ireturn, 1) := by decide +kernel
theorem dX12_moveTapeTo_0 : decode cX12_moveTapeTo 0 = .ok (.aload_n 1, 1) := by decide +kernel
theorem dX12_moveTapeTo_1 : decode cX12_moveTapeTo 1 = .ok (.invokevirtual 76, 3) := by decide +kernel
theorem dX12_moveTapeTo_4 : decode cX12_moveTapeTo 4 = .ok (.iconst 0, 1) := by decide +kernel
theorem dX12_moveTapeTo_5 : decode cX12_moveTapeTo 5 = .ok (.istore_n 2, 1) := by decide +kernel
theorem dX12_moveTapeTo_6 : decode cX12_moveTapeTo 6 = .ok (.iload_n 2, 1) := by decide +kernel
theorem dX12_moveTapeTo_7 : decode cX12_moveTapeTo 7 = .ok (.aload_n 0, 1) := by decide +kernel
theorem dX12_moveTapeTo_8 : decode cX12_moveTapeTo 8 = .ok (.getfield 18, 3) := by decide +kernel
theorem dX12_moveTapeTo_11 : decode cX12_moveTapeTo 11 = .ok (.getfield 59, 3) := by decide +kernel
theorem dX12_moveTapeTo_14 : decode cX12_moveTapeTo 14 = .ok (.if_icmp .ge 21, 3) := by decide +kernel
theorem dX12_moveTapeTo_17 : decode cX12_moveTapeTo 17 = .ok (.aload_n 1, 1) := by decide +kernel
theorem dX12_moveTapeTo_18 : decode cX12_moveTapeTo 18 = .ok (.aload_n 0, 1) := by decide +kernel
theorem dX12_moveTapeTo_19 : decode cX12_moveTapeTo 19 = .ok (.getfield 18, 3) := by decide +kernel
theorem dX12_moveTapeTo_22 : decode cX12_moveTapeTo 22 = .ok (.iload_n 2, 1) := by decide +kernel
theorem dX12_moveTapeTo_23 : decode cX12_moveTapeTo 23 = .ok (.invokevirtual 68, 3) := by decide +kernel
theorem dX12_moveTapeTo_26 : decode cX12_moveTapeTo 26 = .ok (.invokevirtual 79, 3) := by decide +kernel
theorem dX12_moveTapeTo_29 : decode cX12_moveTapeTo 29 = .ok (.iinc 2 1, 3) := by decide +kernel
theorem dX12_moveTapeTo_32 : decode cX12_moveTapeTo 32 = .ok (.goto (-26), 3) := by decide +kernel
theorem dX12_moveTapeTo_35 : decode cX12_moveTapeTo 35 = .ok (.aload_n 0, 1) := by decide +kernel
theorem dX12_moveTapeTo_36 : decode cX12_moveTapeTo 36 = .ok (.getfield 18, 3) := by decide +kernel
theorem dX12_moveTapeTo_39 : decode cX12_moveTapeTo 39 = .ok (.iconst 0, 1) := by decide +kernel
theorem dX12_moveTapeTo_40 : decode cX12_moveTapeTo 40 = .ok (.putfield 59, 3) := by decide +kernel
theorem dX12_moveTapeTo_43 : decode cX12_moveTapeTo 43 = .ok (.return_, 1) := by decide +kernel
theorem dX12_on_0 : decode cX12_on 0 = .ok (.iload_n 1, 1) := by decide +kernel
theorem dX12_on_1 : decode cX12_on 1 = .ok (.ifCond .lt 32, 3) := by decide +kernel
theorem dX12_on_4 : decode cX12_on 4 = .ok (.iload_n 1, 1) := by decide +kernel
theorem dX12_on_5 : decode cX12_on 5 = .ok (.bipush 8, 2) := by decide +kernel
theorem dX12_on_7 : decode cX12_on 7 = .ok (.if_icmp .ge 26, 3) := by decide +kernel
theorem dX12_on_10 : decode cX12_on 10 = .ok (.iload_n 2, 1) := by decide +kernel
theorem dX12_on_11 : decode cX12_on 11 = .ok (.iconst 1, 1) := by decide +kernel
theorem dX12_on_12 : decode cX12_on 12 = .ok (.if_icmp .lt 21, 3) := by decide +kernel
theorem dX12_on_15 : decode cX12_on 15 = .ok (.iload_n 2, 1) := by decide +kernel
theorem dX12_on_16 : decode cX12_on 16 = .ok (.ldc 82, 2) := by decide +kernel
theorem dX12_on_18 : decode cX12_on 18 = .ok (.if_icmp .gt 15, 3) := by decide +kernel
theorem dX12_on_21 : decode cX12_on 21 = .ok (.aload_n 0, 1) := by decide +kernel
theorem dX12_on_22 : decode cX12_on 22 = .ok (.getfield 11, 3) := by decide +kernel
theorem dX12_on_25 : decode cX12_on 25 = .ok (.iload_n 1, 1) := by decide +kernel
theorem dX12_on_26 : decode cX12_on 26 = .ok (.aaload, 1) := by decide +kernel
theorem dX12_on_27 : decode cX12_on 27 = .ok (.getfield 83, 3) := by decide +kernel
theorem dX12_on_30 : decode cX12_on 30 = .ok (.ifCond .eq 5, 3) := by decide +kernel
theorem dX12_on_33 : decode cX12_on 33 = .ok (.iconst 0, 1) := by decide +kernel
theorem dX12_on_34 : decode cX12_on 34 = .ok (.ireturn, 1) := by decide +kernel
theorem dX12_on_35 : decode cX12_on 35 = .ok (.iconst 0, 1) := by decide +kernel
theorem dX12_on_36 : decode cX12_on 36 = .ok (.istore_n 3, 1) := by decide +kernel
theorem dX12_on_37 : decode cX12_on 37 = .ok (.iload_n 3, 1) := by decide +kernel
theorem dX12_on_38 : decode cX12_on 38 = .ok (.bipush 8, 2) := by decide +kernel
theorem dX12_on_40 : decode cX12_on 40 = .ok (.if_icmp .ge 36, 3) := by decide +kernel
theorem dX12_on_43 : decode cX12_on 43 = .ok (.aload_n 0, 1) := by decide +kernel
theorem dX12_on_44 : decode cX12_on 44 = .ok (.getfield 11, 3) := by decide +kernel
theorem dX12_on_47 : decode cX12_on 47 = .ok (.iload_n 3, 1) := by decide +kernel
theorem dX12_on_48 : decode cX12_on 48 = .ok (.aaload, 1) := by decide +kernel
theorem dX12_on_49 : decode cX12_on 49 = .ok (.getfield 83, 3) := by decide +kernel
theorem dX12_on_52 : decode cX12_on 52 = .ok (.ifCond .eq 18, 3) := by decide +kernel
theorem dX12_on_55 : decode cX12_on 55 = .ok (.aload_n 0, 1) := by decide +kernel
theorem dX12_on_56 : decode cX12_on 56 = .ok (.getfield 11, 3) := by decide +kernel
theorem dX12_on_59 : decode cX12_on 59 = .ok (.iload_n 3, 1) := by decide +kernel
theorem dX12_on_60 : decode cX12_on 60 = .ok (.aaload, 1) := by decide +kernel
theorem dX12_on_61 : decode cX12_on 61 = .ok (.getfield 87, 3) := by decide +kernel
theorem dX12_on_64 : decode cX12_on 64 = .ok (.iload_n 2, 1) := by decide +kernel
theorem dX12_on_65 : decode cX12_on 65 = .ok (.if_icmp .ne 5, 3) := by decide +kernel
theorem dX12_on_68 : decode cX12_on 68 = .ok (.iconst 0, 1) := by decide +kernel
theorem dX12_on_69 : decode cX12_on 69 = .ok (.ireturn, 1) := by decide +kernel
theorem dX12_on_70 : decode cX12_on 70 = .ok (.iinc 3 1, 3) := by decide +kernel
theorem dX12_on_73 : decode cX12_on 73 = .ok (.goto (-36), 3) := by decide +kernel
theorem dX12_on_76 : decode cX12_on 76 = .ok (.aload_n 0, 1) := by decide +kernel
theorem dX12_on_77 : decode cX12_on 77 = .ok (.getfield 11, 3) := by decide +kernel
theorem dX12_on_80 : decode cX12_on 80 = .ok (.iload_n 1, 1) := by decide +kernel
theorem dX12_on_81 : decode cX12_on 81 = .ok (.aaload, 1) := by decide +kernel
theorem dX12_on_82 : decode cX12_on 82 = .ok (.iload_n 2, 1) := by decide +kernel
theorem dX12_on_83 : decode cX12_on 83 = .ok (.aload_n 0, 1) := by decide +kernel
theorem dX12_on_84 : decode cX12_on 84 = .ok (.getfield 53, 3) := by decide +kernel
theorem dX12_on_87 : decode cX12_on 87 = .ok (.invokevirtual 90, 3) := by decide +kernel
theorem dX12_on_90 : decode cX12_on 90 = .ok (.iconst 1, 1) := by decide +kernel
theorem dX12_on_91 : decode cX12_on 91 = .ok (.ireturn, 1) := by decide +kernel
theorem dX12_off_0 : decode cX12_off 0 = .ok (.aload_n 0, 1) := by decide +kernel
theorem dX12_off_1 : decode cX12_off 1 = .ok (.iload_n 1, 1) := by decide +kernel
theorem dX12_off_2 : decode cX12_off 2 = .ok (.invokevirtual 94, 3) := by decide +kernel
theorem dX12_off_5 : decode cX12_off 5 = .ok (.astore_n 3, 1) := by decide +kernel
theorem dX12_off_6 : decode cX12_off 6 = .ok (.aload_n 3, 1) := by decide +kernel
theorem dX12_off_7 : decode cX12_off 7 = .ok (.ifnonnull 5, 3) := by decide +kernel
theorem dX12_off_10 : decode cX12_off 10 = .ok (.iconst 0, 1) := by decide +kernel
theorem dX12_off_11 : decode cX12_off 11 = .ok (.ireturn, 1) := by decide +kernel
theorem dX12_off_12 : decode cX12_off 12 = .ok (.iload_n 2, 1) := by decide +kernel
theorem dX12_off_13 : decode cX12_off 13 = .ok (.ifCond .eq 20, 3) := by decide +kernel
theorem dX12_off_16 : decode cX12_off 16 = .ok (.aload_n 3, 1) := by decide +kernel
theorem dX12_off_17 : decode cX12_off 17 = .ok (.getfield 98, 3) := by decide +kernel
theorem dX12_off_20 : decode cX12_off 20 = .ok (.getfield 102, 3) := by decide +kernel
theorem dX12_off_23 : decode cX12_off 23 = .ok (.iconst 3, 1) := by decide +kernel
theorem dX12_off_24 : decode cX12_off 24 = .ok (.if_icmp .ne 9, 3) := by decide +kernel
theorem dX12_off_27 : decode cX12_off 27 = .ok (.aload_n 0, 1) := by decide +kernel
theorem dX12_off_28 : decode cX12_off 28 = .ok (.aload_n 3, 1) := by decide +kernel
theorem dX12_off_29 : decode cX12_off 29 = .ok (.iconst 0, 1) := by decide +kernel
theorem dX12_off_30 : decode cX12_off 30 = .ok (.invokevirtual 107, 3) := by decide +kernel
theorem dX12_off_33 : decode cX12_off 33 = .ok (.aload_n 3, 1) := by decide +kernel
theorem dX12_off_34 : decode cX12_off 34 = .ok (.iconst 0, 1) := by decide +kernel
theorem dX12_off_35 : decode cX12_off 35 = .ok (.putfield 83, 3) := by decide +kernel
theorem dX12_off_38 : decode cX12_off 38 = .ok (.iconst 1, 1) := by decide +kernel
theorem dX12_off_39 : decode cX12_off 39 = .ok (.ireturn, 1) := by decide +kernel
theorem dX12_claim_0 : decode cX12_claim 0 = .ok (.aload_n 0, 1) := by decide +kernel
theorem dX12_claim_1 : decode cX12_claim 1 = .ok (.iload_n 1, 1) := by decide +kernel
theorem dX12_claim_2 : decode cX12_claim 2 = .ok (.invokevirtual 94, 3) := by decide +kernel
theorem dX12_claim_5 : decode cX12_claim 5 = .ok (.astore_n 2, 1) := by decide +kernel
theorem dX12_claim_6 : decode cX12_claim 6 = .ok (.aload_n 2, 1) := by decide +kernel
theorem dX12_claim_7 : decode cX12_claim 7 = .ok (.ifnull 20, 3) := by decide +kernel
theorem dX12_claim_10 : decode cX12_claim 10 = .ok (.aload_n 2, 1) := by decide +kernel
theorem dX12_claim_11 : decode cX12_claim 11 = .ok (.getfield 98, 3) := by decide +kernel
theorem dX12_claim_14 : decode cX12_claim 14 = .ok (.getfield 102, 3) := by decide +kernel
theorem dX12_claim_17 : decode cX12_claim 17 = .ok (.ifCond .ne 10, 3) := by decide +kernel
theorem dX12_claim_20 : decode cX12_claim 20 = .ok (.aload_n 0, 1) := by decide +kernel
theorem dX12_claim_21 : decode cX12_claim 21 = .ok (.invokevirtual 111, 3) := by decide +kernel
theorem dX12_claim_24 : decode cX12_claim 24 = .ok (.ifCond .ne 5, 3) := by decide +kernel
theorem dX12_claim_27 : decode cX12_claim 27 = .ok (.iconst 0, 1) := by decide +kernel
theorem dX12_claim_28 : decode cX12_claim 28 = .ok (.ireturn, 1) := by decide +kernel
theorem dX12_claim_29 : decode cX12_claim 29 = .ok (.aload_n 2, 1) := by decide +kernel
theorem dX12_claim_30 : decode cX12_claim 30 = .ok (.getfield 98, 3) := by decide +kernel
theorem dX12_claim_33 : decode cX12_claim 33 = .ok (.astore_n 3, 1) := by decide +kernel
theorem dX12_claim_34 : decode cX12_claim 34 = .ok (.aload_n 0, 1) := by decide +kernel
theorem dX12_claim_35 : decode cX12_claim 35 = .ok (.aload_n 3, 1) := by decide +kernel
theorem dX12_claim_36 : decode cX12_claim 36 = .ok (.getfield 115, 3) := by decide +kernel
theorem dX12_claim_39 : decode cX12_claim 39 = .ok (.invokevirtual 119, 3) := by decide +kernel
theorem dX12_claim_42 : decode cX12_claim 42 = .ok (.aload_n 3, 1) := by decide +kernel
theorem dX12_claim_43 : decode cX12_claim 43 = .ok (.getfield 123, 3) := by decide +kernel
theorem dX12_claim_46 : decode cX12_claim 46 = .ok (.aload_n 3, 1) := by decide +kernel
theorem dX12_claim_47 : decode cX12_claim 47 = .ok (.getfield 115, 3) := by decide +kernel
theorem dX12_claim_50 : decode cX12_claim 50 = .ok (.invokevirtual 125, 3) := by decide +kernel
theorem dX12_claim_53 : decode cX12_claim 53 = .ok (.aload_n 3, 1) := by decide +kernel
theorem dX12_claim_54 : decode cX12_claim 54 = .ok (.invokevirtual 128, 3) := by decide +kernel
theorem dX12_claim_57 : decode cX12_claim 57 = .ok (.aload_n 2, 1) := by decide +kernel
theorem dX12_claim_58 : decode cX12_claim 58 = .ok (.getfield 131, 3) := by decide +kernel
theorem dX12_claim_61 : decode cX12_claim 61 = .ok (.invokevirtual 135, 3) := by decide +kernel
theorem dX12_claim_64 : decode cX12_claim 64 = .ok (.ifCond .eq 15, 3) := by decide +kernel
theorem dX12_claim_67 : decode cX12_claim 67 = .ok (.aload_n 3, 1) := by decide +kernel
theorem dX12_claim_68 : decode cX12_claim 68 = .ok (.aload_n 2, 1) := by decide +kernel
theorem dX12_claim_69 : decode cX12_claim 69 = .ok (.getfield 87, 3) := by decide +kernel
theorem dX12_claim_72 : decode cX12_claim 72 = .ok (.aload_n 0, 1) := by decide +kernel
theorem dX12_claim_73 : decode cX12_claim 73 = .ok (.getfield 53, 3) := by decide +kernel
theorem dX12_claim_76 : decode cX12_claim 76 = .ok (.invokevirtual 140, 3) := by decide +kernel
theorem dX12_claim_79 : decode cX12_claim 79 = .ok (.iconst 1, 1) := by decide +kernel
theorem dX12_claim_80 : decode cX12_claim 80 = .ok (.ireturn, 1) := by decide +kernel
theorem dX12_service_0 : decode cX12_service 0 = .ok (.aload_n 0, 1) := by decide +kernel
theorem dX12_service_1 : decode cX12_service 1 = .ok (.iload_n 1, 1) := by decide +kernel
theorem dX12_service_2 : decode cX12_service 2 = .ok (.invokevirtual 94, 3) := by decide +kernel
theorem dX12_service_5 : decode cX12_service 5 = .ok (.astore_n 3, 1) := by decide +kernel
theorem dX12_service_6 : decode cX12_service 6 = .ok (.aload_n 3, 1) := by decide +kernel
theorem dX12_service_7 : decode cX12_service 7 = .ok (.ifnull 20, 3) := by decide +kernel
theorem dX12_service_10 : decode cX12_service 10 = .ok (.iload_n 2, 1) := by decide +kernel
theorem dX12_service_11 : decode cX12_service 11 = .ok (.ifCond .lt 16, 3) := by decide +kernel
theorem dX12_service_14 : decode cX12_service 14 = .ok (.iload_n 2, 1) := by decide +kernel
theorem dX12_service_15 : decode cX12_service 15 = .ok (.ldc 82, 2) := by decide +kernel
theorem dX12_service_17 : decode cX12_service 17 = .ok (.if_icmp .gt 10, 3) := by decide +kernel
theorem dX12_service_20 : decode cX12_service 20 = .ok (.aload_n 0, 1) := by decide +kernel
theorem dX12_service_21 : decode cX12_service 21 = .ok (.invokevirtual 111, 3) := by decide +kernel
theorem dX12_service_24 : decode cX12_service 24 = .ok (.ifCond .ne 5, 3) := by decide +kernel
theorem dX12_service_27 : decode cX12_service 27 = .ok (.iconst (-1), 1) := by decide +kernel
theorem dX12_service_28 : decode cX12_service 28 = .ok (.ireturn, 1) := by decide +kernel
theorem dX12_service_29 : decode cX12_service 29 = .ok (.aload_n 3, 1) := by decide +kernel
theorem dX12_service_30 : decode cX12_service 30 = .ok (.getfield 143, 3) := by decide +kernel
theorem dX12_service_33 : decode cX12_service 33 = .ok (.iconst 4, 1) := by decide +kernel
theorem dX12_service_34 : decode cX12_service 34 = .ok (.if_icmp .lt 5, 3) := by decide +kernel
theorem dX12_service_37 : decode cX12_service 37 = .ok (.iconst (-1), 1) := by decide +kernel
theorem dX12_service_38 : decode cX12_service 38 = .ok (.ireturn, 1) := by decide +kernel
theorem dX12_service_39 : decode cX12_service 39 = .ok (.aload_n 3, 1) := by decide +kernel
theorem dX12_service_40 : decode cX12_service 40 = .ok (.getfield 146, 3) := by decide +kernel
theorem dX12_service_43 : decode cX12_service 43 = .ok (.aload_n 3, 1) := by decide +kernel
theorem dX12_service_44 : decode cX12_service 44 = .ok (.getfield 143, 3) := by decide +kernel
theorem dX12_service_47 : decode cX12_service 47 = .ok (.aaload, 1) := by decide +kernel
theorem dX12_service_48 : decode cX12_service 48 = .ok (.astore 4, 2) := by decide +kernel
theorem dX12_service_50 : decode cX12_service 50 = .ok (.aload_n 3, 1) := by decide +kernel
theorem dX12_service_51 : decode cX12_service 51 = .ok (.dup, 1) := by decide +kernel
theorem dX12_service_52 : decode cX12_service 52 = .ok (.getfield 143, 3) := by decide +kernel
theorem dX12_service_55 : decode cX12_service 55 = .ok (.iconst 1, 1) := by decide +kernel
theorem dX12_service_56 : decode cX12_service 56 = .ok (.iadd, 1) := by decide +kernel
theorem dX12_service_57 : decode cX12_service 57 = .ok (.putfield 143, 3) := by decide +kernel
theorem dX12_service_60 : decode cX12_service 60 = .ok (.aload_n 0, 1) := by decide +kernel
theorem dX12_service_61 : decode cX12_service 61 = .ok (.aload 4, 2) := by decide +kernel
theorem dX12_service_63 : decode cX12_service 63 = .ok (.getfield 150, 3) := by decide +kernel
theorem dX12_service_66 : decode cX12_service 66 = .ok (.invokevirtual 119, 3) := by decide +kernel
theorem dX12_service_69 : decode cX12_service 69 = .ok (.aload 4, 2) := by decide +kernel
theorem dX12_service_71 : decode cX12_service 71 = .ok (.iload_n 2, 1) := by decide +kernel
theorem dX12_service_72 : decode cX12_service 72 = .ok (.putfield 155, 3) := by decide +kernel
theorem dX12_service_75 : decode cX12_service 75 = .ok (.aload_n 3, 1) := by decide +kernel
theorem dX12_service_76 : decode cX12_service 76 = .ok (.getfield 143, 3) := by decide +kernel
theorem dX12_service_79 : decode cX12_service 79 = .ok (.ireturn, 1) := by decide +kernel
theorem dX12_ask_0 : decode cX12_ask 0 = .ok (.aload_n 0, 1) := by decide +kernel
theorem dX12_ask_1 : decode cX12_ask 1 = .ok (.iload_n 1, 1) := by decide +kernel
theorem dX12_ask_2 : decode cX12_ask 2 = .ok (.invokevirtual 94, 3) := by decide +kernel
theorem dX12_ask_5 : decode cX12_ask 5 = .ok (.astore_n 3, 1) := by decide +kernel
theorem dX12_ask_6 : decode cX12_ask 6 = .ok (.aload_n 3, 1) := by decide +kernel
theorem dX12_ask_7 : decode cX12_ask 7 = .ok (.ifnull 20, 3) := by decide +kernel
theorem dX12_ask_10 : decode cX12_ask 10 = .ok (.iload_n 2, 1) := by decide +kernel
theorem dX12_ask_11 : decode cX12_ask 11 = .ok (.iconst 1, 1) := by decide +kernel
theorem dX12_ask_12 : decode cX12_ask 12 = .ok (.if_icmp .eq 8, 3) := by decide +kernel
theorem dX12_ask_15 : decode cX12_ask 15 = .ok (.iload_n 2, 1) := by decide +kernel
theorem dX12_ask_16 : decode cX12_ask 16 = .ok (.iconst 2, 1) := by decide +kernel
theorem dX12_ask_17 : decode cX12_ask 17 = .ok (.if_icmp .ne 10, 3) := by decide +kernel
theorem dX12_ask_20 : decode cX12_ask 20 = .ok (.aload_n 0, 1) := by decide +kernel
theorem dX12_ask_21 : decode cX12_ask 21 = .ok (.invokevirtual 111, 3) := by decide +kernel
theorem dX12_ask_24 : decode cX12_ask 24 = .ok (.ifCond .ne 5, 3) := by decide +kernel
theorem dX12_ask_27 : decode cX12_ask 27 = .ok (.iconst (-1), 1) := by decide +kernel
theorem dX12_ask_28 : decode cX12_ask 28 = .ok (.ireturn, 1) := by decide +kernel
theorem dX12_ask_29 : decode cX12_ask 29 = .ok (.iconst 0, 1) := by decide +kernel
theorem dX12_ask_30 : decode cX12_ask 30 = .ok (.istore 4, 2) := by decide +kernel
theorem dX12_ask_32 : decode cX12_ask 32 = .ok (.iload 4, 2) := by decide +kernel
theorem dX12_ask_34 : decode cX12_ask 34 = .ok (.iconst 4, 1) := by decide +kernel
theorem dX12_ask_35 : decode cX12_ask 35 = .ok (.if_icmp .ge 52, 3) := by decide +kernel
theorem dX12_ask_38 : decode cX12_ask 38 = .ok (.aload_n 3, 1) := by decide +kernel
theorem dX12_ask_39 : decode cX12_ask 39 = .ok (.getfield 158, 3) := by decide +kernel
theorem dX12_ask_42 : decode cX12_ask 42 = .ok (.iload 4, 2) := by decide +kernel
theorem dX12_ask_44 : decode cX12_ask 44 = .ok (.aaload, 1) := by decide +kernel
theorem dX12_ask_45 : decode cX12_ask 45 = .ok (.astore 5, 2) := by decide +kernel
theorem dX12_ask_47 : decode cX12_ask 47 = .ok (.aload 5, 2) := by decide +kernel
theorem dX12_ask_49 : decode cX12_ask 49 = .ok (.getfield 162, 3) := by decide +kernel
theorem dX12_ask_52 : decode cX12_ask 52 = .ok (.ifCond .ne 29, 3) := by decide +kernel
theorem dX12_ask_55 : decode cX12_ask 55 = .ok (.aload_n 0, 1) := by decide +kernel
theorem dX12_ask_56 : decode cX12_ask 56 = .ok (.aload 5, 2) := by decide +kernel
theorem dX12_ask_58 : decode cX12_ask 58 = .ok (.getfield 167, 3) := by decide +kernel
theorem dX12_ask_61 : decode cX12_ask 61 = .ok (.invokevirtual 119, 3) := by decide +kernel
theorem dX12_ask_64 : decode cX12_ask 64 = .ok (.aload 5, 2) := by decide +kernel
theorem dX12_ask_66 : decode cX12_ask 66 = .ok (.iload_n 2, 1) := by decide +kernel
theorem dX12_ask_67 : decode cX12_ask 67 = .ok (.aload_n 3, 1) := by decide +kernel
theorem dX12_ask_68 : decode cX12_ask 68 = .ok (.getfield 87, 3) := by decide +kernel
theorem dX12_ask_71 : decode cX12_ask 71 = .ok (.aload_n 0, 1) := by decide +kernel
theorem dX12_ask_72 : decode cX12_ask 72 = .ok (.getfield 53, 3) := by decide +kernel
theorem dX12_ask_75 : decode cX12_ask 75 = .ok (.invokevirtual 170, 3) := by decide +kernel
theorem dX12_ask_78 : decode cX12_ask 78 = .ok (.iload 4, 2) := by decide +kernel
theorem dX12_ask_80 : decode cX12_ask 80 = .ok (.ireturn, 1) := by decide +kernel
theorem dX12_ask_81 : decode cX12_ask 81 = .ok (.iinc 4 1, 3) := by decide +kernel
theorem dX12_ask_84 : decode cX12_ask 84 = .ok (.goto (-52), 3) := by decide +kernel
theorem dX12_ask_87 : decode cX12_ask 87 = .ok (.iconst (-1), 1) := by decide +kernel
theorem dX12_ask_88 : decode cX12_ask 88 = .ok (.ireturn, 1) := by decide +kernel
theorem dX12_close_0 : decode cX12_close 0 = .ok (.aload_n 0, 1) := by decide +kernel
theorem dX12_close_1 : decode cX12_close 1 = .ok (.iload_n 1, 1) := by decide +kernel
theorem dX12_close_2 : decode cX12_close 2 = .ok (.iload_n 2, 1) := by decide +kernel
theorem dX12_close_3 : decode cX12_close 3 = .ok (.invokevirtual 173, 3) := by decide +kernel
theorem dX12_close_6 : decode cX12_close 6 = .ok (.astore_n 3, 1) := by decide +kernel
theorem dX12_close_7 : decode cX12_close 7 = .ok (.aload_n 3, 1) := by decide +kernel
theorem dX12_close_8 : decode cX12_close 8 = .ok (.ifnonnull 5, 3) := by decide +kernel
theorem dX12_close_11 : decode cX12_close 11 = .ok (.iconst 0, 1) := by decide +kernel
theorem dX12_close_12 : decode cX12_close 12 = .ok (.ireturn, 1) := by decide +kernel
theorem dX12_close_13 : decode cX12_close 13 = .ok (.aload_n 3, 1) := by decide +kernel
theorem dX12_close_14 : decode cX12_close 14 = .ok (.iconst 0, 1) := by decide +kernel
theorem dX12_close_15 : decode cX12_close 15 = .ok (.putfield 162, 3) := by decide +kernel
theorem dX12_close_18 : decode cX12_close 18 = .ok (.iconst 1, 1) := by decide +kernel
theorem dX12_close_19 : decode cX12_close 19 = .ok (.ireturn, 1) := by decide +kernel
theorem dX12_lose_0 : decode cX12_lose 0 = .ok (.aload_n 0, 1) := by decide +kernel
theorem dX12_lose_1 : decode cX12_lose 1 = .ok (.iload_n 1, 1) := by decide +kernel
theorem dX12_lose_2 : decode cX12_lose 2 = .ok (.invokevirtual 94, 3) := by decide +kernel
theorem dX12_lose_5 : decode cX12_lose 5 = .ok (.astore_n 3, 1) := by decide +kernel
theorem dX12_lose_6 : decode cX12_lose 6 = .ok (.aload_n 3, 1) := by decide +kernel
theorem dX12_lose_7 : decode cX12_lose 7 = .ok (.ifnull 14, 3) := by decide +kernel
theorem dX12_lose_10 : decode cX12_lose 10 = .ok (.iload_n 2, 1) := by decide +kernel
theorem dX12_lose_11 : decode cX12_lose 11 = .ok (.ifCond .lt 10, 3) := by decide +kernel
theorem dX12_lose_14 : decode cX12_lose 14 = .ok (.iload_n 2, 1) := by decide +kernel
theorem dX12_lose_15 : decode cX12_lose 15 = .ok (.sipush 1000, 3) := by decide +kernel
theorem dX12_lose_18 : decode cX12_lose 18 = .ok (.if_icmp .le 5, 3) := by decide +kernel
theorem dX12_lose_21 : decode cX12_lose 21 = .ok (.iconst 0, 1) := by decide +kernel
theorem dX12_lose_22 : decode cX12_lose 22 = .ok (.ireturn, 1) := by decide +kernel
theorem dX12_lose_23 : decode cX12_lose 23 = .ok (.aload_n 3, 1) := by decide +kernel
theorem dX12_lose_24 : decode cX12_lose 24 = .ok (.iload_n 2, 1) := by decide +kernel
theorem dX12_lose_25 : decode cX12_lose 25 = .ok (.putfield 177, 3) := by decide +kernel
theorem dX12_lose_28 : decode cX12_lose 28 = .ok (.iconst 1, 1) := by decide +kernel
theorem dX12_lose_29 : decode cX12_lose 29 = .ok (.ireturn, 1) := by decide +kernel
theorem dX12_give_0 : decode cX12_give 0 = .ok (.aload_n 0, 1) := by decide +kernel
theorem dX12_give_1 : decode cX12_give 1 = .ok (.iload_n 1, 1) := by decide +kernel
theorem dX12_give_2 : decode cX12_give 2 = .ok (.invokevirtual 94, 3) := by decide +kernel
theorem dX12_give_5 : decode cX12_give 5 = .ok (.astore_n 2, 1) := by decide +kernel
theorem dX12_give_6 : decode cX12_give 6 = .ok (.aload_n 2, 1) := by decide +kernel
theorem dX12_give_7 : decode cX12_give 7 = .ok (.ifnonnull 5, 3) := by decide +kernel
theorem dX12_give_10 : decode cX12_give 10 = .ok (.iconst (-1), 1) := by decide +kernel
theorem dX12_give_11 : decode cX12_give 11 = .ok (.ireturn, 1) := by decide +kernel
theorem dX12_give_12 : decode cX12_give 12 = .ok (.aload_n 0, 1) := by decide +kernel
theorem dX12_give_13 : decode cX12_give 13 = .ok (.getfield 25, 3) := by decide +kernel
theorem dX12_give_16 : decode cX12_give 16 = .ok (.aload_n 0, 1) := by decide +kernel
theorem dX12_give_17 : decode cX12_give 17 = .ok (.getfield 18, 3) := by decide +kernel
theorem dX12_give_20 : decode cX12_give 20 = .ok (.invokevirtual 180, 3) := by decide +kernel
theorem dX12_give_23 : decode cX12_give 23 = .ok (.istore_n 3, 1) := by decide +kernel
theorem dX12_give_24 : decode cX12_give 24 = .ok (.aload_n 0, 1) := by decide +kernel
theorem dX12_give_25 : decode cX12_give 25 = .ok (.getfield 18, 3) := by decide +kernel
theorem dX12_give_28 : decode cX12_give 28 = .ok (.iconst 0, 1) := by decide +kernel
theorem dX12_give_29 : decode cX12_give 29 = .ok (.putfield 59, 3) := by decide +kernel
theorem dX12_give_32 : decode cX12_give 32 = .ok (.aload_n 0, 1) := by decide +kernel
theorem dX12_give_33 : decode cX12_give 33 = .ok (.aload_n 2, 1) := by decide +kernel
theorem dX12_give_34 : decode cX12_give 34 = .ok (.iload_n 3, 1) := by decide +kernel
theorem dX12_give_35 : decode cX12_give 35 = .ok (.invokevirtual 184, 3) := by decide +kernel
theorem dX12_give_38 : decode cX12_give 38 = .ok (.iload_n 3, 1) := by decide +kernel
theorem dX12_give_39 : decode cX12_give 39 = .ok (.ifCond .eq 7, 3) := by decide +kernel
theorem dX12_give_42 : decode cX12_give 42 = .ok (.iconst 0, 1) := by decide +kernel
theorem dX12_give_43 : decode cX12_give 43 = .ok (.goto 4, 3) := by decide +kernel
theorem dX12_give_46 : decode cX12_give 46 = .ok (.iconst 1, 1) := by decide +kernel
theorem dX12_give_47 : decode cX12_give 47 = .ok (.ireturn, 1) := by decide +kernel
theorem dX12_hostThatIsOn_0 : decode cX12_hostThatIsOn 0 = .ok (.iload_n 1, 1) := by decide +kernel
theorem dX12_hostThatIsOn_1 : decode cX12_hostThatIsOn 1 = .ok (.ifCond .lt 21, 3) := by decide +kernel
theorem dX12_hostThatIsOn_4 : decode cX12_hostThatIsOn 4 = .ok (.iload_n 1, 1) := by decide +kernel
theorem dX12_hostThatIsOn_5 : decode cX12_hostThatIsOn 5 = .ok (.bipush 8, 2) := by decide +kernel
theorem dX12_hostThatIsOn_7 : decode cX12_hostThatIsOn 7 = .ok (.if_icmp .ge 15, 3) := by decide +kernel
theorem dX12_hostThatIsOn_10 : decode cX12_hostThatIsOn 10 = .ok (.aload_n 0, 1) := by decide +kernel
theorem dX12_hostThatIsOn_11 : decode cX12_hostThatIsOn 11 = .ok (.getfield 11, 3) := by decide +kernel
theorem dX12_hostThatIsOn_14 : decode cX12_hostThatIsOn 14 = .ok (.iload_n 1, 1) := by decide +kernel
theorem dX12_hostThatIsOn_15 : decode cX12_hostThatIsOn 15 = .ok (.aaload, 1) := by decide +kernel
theorem dX12_hostThatIsOn_16 : decode cX12_hostThatIsOn 16 = .ok (.getfield 83, 3) := by decide +kernel
theorem dX12_hostThatIsOn_19 : decode cX12_hostThatIsOn 19 = .ok (.ifCond .ne 5, 3) := by decide +kernel
theorem dX12_hostThatIsOn_22 : decode cX12_hostThatIsOn 22 = .ok (.aconst_null, 1) := by decide +kernel
theorem dX12_hostThatIsOn_23 : decode cX12_hostThatIsOn 23 = .ok (.areturn, 1) := by decide +kernel
theorem dX12_hostThatIsOn_24 : decode cX12_hostThatIsOn 24 = .ok (.aload_n 0, 1) := by decide +kernel
theorem dX12_hostThatIsOn_25 : decode cX12_hostThatIsOn 25 = .ok (.getfield 11, 3) := by decide +kernel
theorem dX12_hostThatIsOn_28 : decode cX12_hostThatIsOn 28 = .ok (.iload_n 1, 1) := by decide +kernel
theorem dX12_hostThatIsOn_29 : decode cX12_hostThatIsOn 29 = .ok (.aaload, 1) := by decide +kernel
theorem dX12_hostThatIsOn_30 : decode cX12_hostThatIsOn 30 = .ok (.areturn, 1) := by decide +kernel
theorem dX12_openQuestion_0 : decode cX12_openQuestion 0 = .ok (.aload_n 0, 1) := by decide +kernel
theorem dX12_openQuestion_1 : decode cX12_openQuestion 1 = .ok (.iload_n 1, 1) := by decide +kernel
theorem dX12_openQuestion_2 : decode cX12_openQuestion 2 = .ok (.invokevirtual 94, 3) := by decide +kernel
theorem dX12_openQuestion_5 : decode cX12_openQuestion 5 = .ok (.astore_n 3, 1) := by decide +kernel
theorem dX12_openQuestion_6 : decode cX12_openQuestion 6 = .ok (.aload_n 3, 1) := by decide +kernel
theorem dX12_openQuestion_7 : decode cX12_openQuestion 7 = .ok (.ifnull 12, 3) := by decide +kernel
theorem dX12_openQuestion_10 : decode cX12_openQuestion 10 = .ok (.iload_n 2, 1) := by decide +kernel
theorem dX12_openQuestion_11 : decode cX12_openQuestion 11 = .ok (.ifCond .lt 8, 3) := by decide +kernel
theorem dX12_openQuestion_14 : decode cX12_openQuestion 14 = .ok (.iload_n 2, 1) := by decide +kernel
theorem dX12_openQuestion_15 : decode cX12_openQuestion 15 = .ok (.iconst 4, 1) := by decide +kernel
theorem dX12_openQuestion_16 : decode cX12_openQuestion 16 = .ok (.if_icmp .lt 5, 3) := by decide +kernel
theorem dX12_openQuestion_19 : decode cX12_openQuestion 19 = .ok (.aconst_null, 1) := by decide +kernel
theorem dX12_openQuestion_20 : decode cX12_openQuestion 20 = .ok (.areturn, 1) := by decide +kernel
theorem dX12_openQuestion_21 : decode cX12_openQuestion 21 = .ok (.aload_n 3, 1) := by decide +kernel
theorem dX12_openQuestion_22 : decode cX12_openQuestion 22 = .ok (.getfield 158, 3) := by decide +kernel
theorem dX12_openQuestion_25 : decode cX12_openQuestion 25 = .ok (.iload_n 2, 1) := by decide +kernel
theorem dX12_openQuestion_26 : decode cX12_openQuestion 26 = .ok (.aaload, 1) := by decide +kernel
theorem dX12_openQuestion_27 : decode cX12_openQuestion 27 = .ok (.astore 4, 2) := by decide +kernel
theorem dX12_openQuestion_29 : decode cX12_openQuestion 29 = .ok (.aload 4, 2) := by decide +kernel
theorem dX12_openQuestion_31 : decode cX12_openQuestion 31 = .ok (.getfield 162, 3) := by decide +kernel
theorem dX12_openQuestion_34 : decode cX12_openQuestion 34 = .ok (.ifCond .eq 8, 3) := by decide +kernel
theorem dX12_openQuestion_37 : decode cX12_openQuestion 37 = .ok (.aload 4, 2) := by decide +kernel
theorem dX12_openQuestion_39 : decode cX12_openQuestion 39 = .ok (.goto 4, 3) := by decide +kernel
theorem dX12_openQuestion_42 : decode cX12_openQuestion 42 = .ok (.aconst_null, 1) := by decide +kernel
theorem dX12_openQuestion_43 : decode cX12_openQuestion 43 = .ok (.areturn, 1) := by decide +kernel
theorem dX12_go_0 : decode cX12_go 0 = .ok (.iload_n 1, 1) := by decide +kernel
theorem dX12_go_1 : decode cX12_go 1 = .ok (.ifCond .lt 10, 3) := by decide +kernel
theorem dX12_go_4 : decode cX12_go 4 = .ok (.iload_n 1, 1) := by decide +kernel
theorem dX12_go_5 : decode cX12_go 5 = .ok (.sipush 20000, 3) := by decide +kernel
theorem dX12_go_8 : decode cX12_go 8 = .ok (.if_icmp .le 5, 3) := by decide +kernel
theorem dX12_go_11 : decode cX12_go 11 = .ok (.iconst (-1), 1) := by decide +kernel
theorem dX12_go_12 : decode cX12_go 12 = .ok (.ireturn, 1) := by decide +kernel
theorem dX12_go_13 : decode cX12_go 13 = .ok (.aload_n 0, 1) := by decide +kernel
theorem dX12_go_14 : decode cX12_go 14 = .ok (.getfield 53, 3) := by decide +kernel
theorem dX12_go_17 : decode cX12_go 17 = .ok (.iload_n 1, 1) := by decide +kernel
theorem dX12_go_18 : decode cX12_go 18 = .ok (.i2l, 1) := by decide +kernel
theorem dX12_go_19 : decode cX12_go 19 = .ok (.ladd, 1) := by decide +kernel
theorem dX12_go_20 : decode cX12_go 20 = .ok (.lstore_n 2, 1) := by decide +kernel
theorem dX12_go_21 : decode cX12_go 21 = .ok (.iconst 0, 1) := by decide +kernel
theorem dX12_go_22 : decode cX12_go 22 = .ok (.istore 4, 2) := by decide +kernel
theorem dX12_go_24 : decode cX12_go 24 = .ok (.iload 4, 2) := by decide +kernel
theorem dX12_go_26 : decode cX12_go 26 = .ok (.ldc 188, 2) := by decide +kernel
theorem dX12_go_28 : decode cX12_go 28 = .ok (.if_icmp .ge 56, 3) := by decide +kernel
theorem dX12_go_31 : decode cX12_go 31 = .ok (.aload_n 0, 1) := by decide +kernel
theorem dX12_go_32 : decode cX12_go 32 = .ok (.getfield 37, 3) := by decide +kernel
theorem dX12_go_35 : decode cX12_go 35 = .ok (.aload_n 0, 1) := by decide +kernel
theorem dX12_go_36 : decode cX12_go 36 = .ok (.getfield 41, 3) := by decide +kernel
theorem dX12_go_39 : decode cX12_go 39 = .ok (.if_icmp .ge 10, 3) := by decide +kernel
theorem dX12_go_42 : decode cX12_go 42 = .ok (.aload_n 0, 1) := by decide +kernel
theorem dX12_go_43 : decode cX12_go 43 = .ok (.invokevirtual 189, 3) := by decide +kernel
theorem dX12_go_46 : decode cX12_go 46 = .ok (.goto 32, 3) := by decide +kernel
theorem dX12_go_49 : decode cX12_go 49 = .ok (.aload_n 0, 1) := by decide +kernel
theorem dX12_go_50 : decode cX12_go 50 = .ok (.invokevirtual 192, 3) := by decide +kernel
theorem dX12_go_53 : decode cX12_go 53 = .ok (.ifCond .ne 25, 3) := by decide +kernel
theorem dX12_go_56 : decode cX12_go 56 = .ok (.aload_n 0, 1) := by decide +kernel
theorem dX12_go_57 : decode cX12_go 57 = .ok (.invokevirtual 195, 3) := by decide +kernel
theorem dX12_go_60 : decode cX12_go 60 = .ok (.lstore 5, 2) := by decide +kernel
theorem dX12_go_62 : decode cX12_go 62 = .ok (.lload 5, 2) := by decide +kernel
theorem dX12_go_64 : decode cX12_go 64 = .ok (.lload_n 2, 1) := by decide +kernel
theorem dX12_go_65 : decode cX12_go 65 = .ok (.lcmp, 1) := by decide +kernel
theorem dX12_go_66 : decode cX12_go 66 = .ok (.ifCond .le 6, 3) := by decide +kernel
theorem dX12_go_69 : decode cX12_go 69 = .ok (.goto 15, 3) := by decide +kernel
theorem dX12_go_72 : decode cX12_go 72 = .ok (.aload_n 0, 1) := by decide +kernel
theorem dX12_go_73 : decode cX12_go 73 = .ok (.lload 5, 2) := by decide +kernel
theorem dX12_go_75 : decode cX12_go 75 = .ok (.putfield 53, 3) := by decide +kernel
theorem dX12_go_78 : decode cX12_go 78 = .ok (.iinc 4 1, 3) := by decide +kernel
theorem dX12_go_81 : decode cX12_go 81 = .ok (.goto (-57), 3) := by decide +kernel
theorem dX12_go_84 : decode cX12_go 84 = .ok (.aload_n 0, 1) := by decide +kernel
theorem dX12_go_85 : decode cX12_go 85 = .ok (.lload_n 2, 1) := by decide +kernel
theorem dX12_go_86 : decode cX12_go 86 = .ok (.putfield 53, 3) := by decide +kernel
theorem dX12_go_89 : decode cX12_go 89 = .ok (.aload_n 0, 1) := by decide +kernel
theorem dX12_go_90 : decode cX12_go 90 = .ok (.getfield 53, 3) := by decide +kernel
theorem dX12_go_93 : decode cX12_go 93 = .ok (.l2i, 1) := by decide +kernel
theorem dX12_go_94 : decode cX12_go 94 = .ok (.ireturn, 1) := by decide +kernel
theorem dX12_split_0 : decode cX12_split 0 = .ok (.iconst 0, 1) := by decide +kernel
theorem dX12_split_1 : decode cX12_split 1 = .ok (.istore_n 2, 1) := by decide +kernel
theorem dX12_split_2 : decode cX12_split 2 = .ok (.iload_n 2, 1) := by decide +kernel
theorem dX12_split_3 : decode cX12_split 3 = .ok (.bipush 8, 2) := by decide +kernel
theorem dX12_split_5 : decode cX12_split 5 = .ok (.if_icmp .ge 23, 3) := by decide +kernel
theorem dX12_split_8 : decode cX12_split 8 = .ok (.aload_n 0, 1) := by decide +kernel
theorem dX12_split_9 : decode cX12_split 9 = .ok (.getfield 11, 3) := by decide +kernel
theorem dX12_split_12 : decode cX12_split 12 = .ok (.iload_n 2, 1) := by decide +kernel
theorem dX12_split_13 : decode cX12_split 13 = .ok (.aaload, 1) := by decide +kernel
theorem dX12_split_14 : decode cX12_split 14 = .ok (.iload_n 1, 1) := by decide +kernel
theorem dX12_split_15 : decode cX12_split 15 = .ok (.iload_n 2, 1) := by decide +kernel
theorem dX12_split_16 : decode cX12_split 16 = .ok (.ishr, 1) := by decide +kernel
theorem dX12_split_17 : decode cX12_split 17 = .ok (.iconst 1, 1) := by decide +kernel
theorem dX12_split_18 : decode cX12_split 18 = .ok (.iand, 1) := by decide +kernel
theorem dX12_split_19 : decode cX12_split 19 = .ok (.putfield 199, 3) := by decide +kernel
theorem dX12_split_22 : decode cX12_split 22 = .ok (.iinc 2 1, 3) := by decide +kernel
theorem dX12_split_25 : decode cX12_split 25 = .ok (.goto (-23), 3) := by decide +kernel
theorem dX12_split_28 : decode cX12_split 28 = .ok (.return_, 1) := by decide +kernel
theorem dX12_join_0 : decode cX12_join 0 = .ok (.iconst 0, 1) := by decide +kernel
theorem dX12_join_1 : decode cX12_join 1 = .ok (.istore_n 1, 1) := by decide +kernel
theorem dX12_join_2 : decode cX12_join 2 = .ok (.iload_n 1, 1) := by decide +kernel
theorem dX12_join_3 : decode cX12_join 3 = .ok (.bipush 8, 2) := by decide +kernel
theorem dX12_join_5 : decode cX12_join 5 = .ok (.if_icmp .ge 86, 3) := by decide +kernel
theorem dX12_join_8 : decode cX12_join 8 = .ok (.aload_n 0, 1) := by decide +kernel
theorem dX12_join_9 : decode cX12_join 9 = .ok (.getfield 11, 3) := by decide +kernel
theorem dX12_join_12 : decode cX12_join 12 = .ok (.iload_n 1, 1) := by decide +kernel
theorem dX12_join_13 : decode cX12_join 13 = .ok (.aaload, 1) := by decide +kernel
theorem dX12_join_14 : decode cX12_join 14 = .ok (.astore_n 2, 1) := by decide +kernel
theorem dX12_join_15 : decode cX12_join 15 = .ok (.aload_n 2, 1) := by decide +kernel
theorem dX12_join_16 : decode cX12_join 16 = .ok (.iconst 0, 1) := by decide +kernel
theorem dX12_join_17 : decode cX12_join 17 = .ok (.putfield 199, 3) := by decide +kernel
theorem dX12_join_20 : decode cX12_join 20 = .ok (.aload_n 2, 1) := by decide +kernel
theorem dX12_join_21 : decode cX12_join 21 = .ok (.getfield 83, 3) := by decide +kernel
theorem dX12_join_24 : decode cX12_join 24 = .ok (.ifCond .eq 28, 3) := by decide +kernel
theorem dX12_join_27 : decode cX12_join 27 = .ok (.aload_n 2, 1) := by decide +kernel
theorem dX12_join_28 : decode cX12_join 28 = .ok (.getfield 131, 3) := by decide +kernel
theorem dX12_join_31 : decode cX12_join 31 = .ok (.invokevirtual 135, 3) := by decide +kernel
theorem dX12_join_34 : decode cX12_join 34 = .ok (.ifCond .eq 18, 3) := by decide +kernel
theorem dX12_join_37 : decode cX12_join 37 = .ok (.aload_n 2, 1) := by decide +kernel
theorem dX12_join_38 : decode cX12_join 38 = .ok (.getfield 131, 3) := by decide +kernel
theorem dX12_join_41 : decode cX12_join 41 = .ok (.aload_n 2, 1) := by decide +kernel
theorem dX12_join_42 : decode cX12_join 42 = .ok (.getfield 87, 3) := by decide +kernel
theorem dX12_join_45 : decode cX12_join 45 = .ok (.aload_n 0, 1) := by decide +kernel
theorem dX12_join_46 : decode cX12_join 46 = .ok (.getfield 53, 3) := by decide +kernel
theorem dX12_join_49 : decode cX12_join 49 = .ok (.invokevirtual 202, 3) := by decide +kernel
theorem dX12_join_52 : decode cX12_join 52 = .ok (.aload_n 2, 1) := by decide +kernel
theorem dX12_join_53 : decode cX12_join 53 = .ok (.getfield 83, 3) := by decide +kernel
theorem dX12_join_56 : decode cX12_join 56 = .ok (.ifCond .eq 29, 3) := by decide +kernel
theorem dX12_join_59 : decode cX12_join 59 = .ok (.aload_n 2, 1) := by decide +kernel
theorem dX12_join_60 : decode cX12_join 60 = .ok (.getfield 98, 3) := by decide +kernel
theorem dX12_join_63 : decode cX12_join 63 = .ok (.getfield 102, 3) := by decide +kernel
theorem dX12_join_66 : decode cX12_join 66 = .ok (.iconst 3, 1) := by decide +kernel
theorem dX12_join_67 : decode cX12_join 67 = .ok (.if_icmp .ne 18, 3) := by decide +kernel
theorem dX12_join_70 : decode cX12_join 70 = .ok (.aload_n 2, 1) := by decide +kernel
theorem dX12_join_71 : decode cX12_join 71 = .ok (.getfield 98, 3) := by decide +kernel
theorem dX12_join_74 : decode cX12_join 74 = .ok (.aload_n 2, 1) := by decide +kernel
theorem dX12_join_75 : decode cX12_join 75 = .ok (.getfield 87, 3) := by decide +kernel
theorem dX12_join_78 : decode cX12_join 78 = .ok (.aload_n 0, 1) := by decide +kernel
theorem dX12_join_79 : decode cX12_join 79 = .ok (.getfield 53, 3) := by decide +kernel
theorem dX12_join_82 : decode cX12_join 82 = .ok (.invokevirtual 205, 3) := by decide +kernel
theorem dX12_join_85 : decode cX12_join 85 = .ok (.iinc 1 1, 3) := by decide +kernel
