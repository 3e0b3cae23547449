theorem dX0_probe_14 : decode cX0_probe 14 = .ok (.i2l, 1) := by decide +kernel
theorem dX0_probe_15 : decode cX0_probe 15 = .ok (.lmul, 1) := by decide +kernel
theorem dX0_probe_16 : decode cX0_probe 16 = .ok (.ladd, 1) := by decide +kernel
theorem dX0_probe_17 : decode cX0_probe 17 = .ok (.ldc2_w 40, 3) := by decide +kernel
theorem dX0_probe_20 : decode cX0_probe 20 = .ok (.lrem, 1) := by decide +kernel
theorem dX0_probe_21 : decode cX0_probe 21 = .ok (.l2i, 1) := by decide +kernel
theorem dX0_probe_22 : decode cX0_probe 22 = .ok (.putfield 15, 3) := by decide +kernel
theorem dX0_probe_25 : decode cX0_probe 25 = .ok (.aload_n 0, 1) := by decide +kernel
theorem dX0_probe_26 : decode cX0_probe 26 = .ok (.iconst 0, 1) := by decide +kernel
theorem dX0_probe_27 : decode cX0_probe 27 = .ok (.putfield 18, 3) := by decide +kernel
theorem dX0_probe_30 : decode cX0_probe 30 = .ok (.aload_n 0, 1) := by decide +kernel
theorem dX0_probe_31 : decode cX0_probe 31 = .ok (.lload_n 2, 1) := by decide +kernel
theorem dX0_probe_32 : decode cX0_probe 32 = .ok (.ldc2_w 42, 3) := by decide +kernel
theorem dX0_probe_35 : decode cX0_probe 35 = .ok (.iload_n 1, 1) := by decide +kernel
theorem dX0_probe_36 : decode cX0_probe 36 = .ok (.i2l, 1) := by decide +kernel
theorem dX0_probe_37 : decode cX0_probe 37 = .ok (.lmul, 1) := by decide +kernel
theorem dX0_probe_38 : decode cX0_probe 38 = .ok (.ldc2_w 44, 3) := by decide +kernel
theorem dX0_probe_41 : decode cX0_probe 41 = .ok (.aload_n 0, 1) := by decide +kernel
theorem dX0_probe_42 : decode cX0_probe 42 = .ok (.getfield 9, 3) := by decide +kernel
theorem dX0_probe_45 : decode cX0_probe 45 = .ok (.i2l, 1) := by decide +kernel
theorem dX0_probe_46 : decode cX0_probe 46 = .ok (.lmul, 1) := by decide +kernel
theorem dX0_probe_47 : decode cX0_probe 47 = .ok (.ladd, 1) := by decide +kernel
theorem dX0_probe_48 : decode cX0_probe 48 = .ok (.ldc2_w 46, 3) := by decide +kernel
theorem dX0_probe_51 : decode cX0_probe 51 = .ok (.lrem, 1) := by decide +kernel
theorem dX0_probe_52 : decode cX0_probe 52 = .ok (.ladd, 1) := by decide +kernel
theorem dX0_probe_53 : decode cX0_probe 53 = .ok (.putfield 23, 3) := by decide +kernel
theorem dX0_probe_56 : decode cX0_probe 56 = .ok (.return_, 1) := by decide +kernel
theorem dX12_off_0 : decode cX12_off 0 = .ok (.aload_n 0, 1) := by decide +kernel
theorem dX12_off_1 : decode cX12_off 1 = .ok (.iload_n 1, 1) := by decide +kernel
theorem dX12_off_2 : decode cX12_off 2 = .ok (.invokevirtual 94, 3) := by decide +kernel
theorem dX12_off_5 : decode cX12_off 5 = .ok (.astore_n 3, 1) := by decide +kernel
theorem dX12_off_6 : decode cX12_off 6 = .ok (.aload_n 3, 1) := by decide +kernel
theorem dX12_off_7 : decode cX12_off 7 = .ok (.ifnonnull 5, 3) := by decide +kernel
theorem dX12_off_10 : decode cX12_off 10 = .ok (.iconst 0, 1) := by decide +kernel
theorem dX12_off_11 : decode cX12_off 11 = .ok (.ireturn, 1) := by decide +kernel
theorem dX12_off_12 : decode cX12_off 12 = .ok (.iload_n 2, 1) := by decide +kernel
theorem dX12_off_13 : decode cX12_off 13 = .ok (.ifCond .eq 20, 3) := by decide +kernel
theorem dX12_off_16 : decode cX12_off 16 = .ok (.aload_n 3, 1) := by decide +kernel
theorem dX12_off_17 : decode cX12_off 17 = .ok (.getfield 98, 3) := by decide +kernel
theorem dX12_off_20 : decode cX12_off 20 = .ok (.getfield 102, 3) := by decide +kernel
theorem dX12_off_23 : decode cX12_off 23 = .ok (.iconst 3, 1) := by decide +kernel
theorem dX12_off_24 : decode cX12_off 24 = .ok (.if_icmp .ne 9, 3) := by decide +kernel
theorem dX12_off_27 : decode cX12_off 27 = .ok (.aload_n 0, 1) := by decide +kernel
theorem dX12_off_28 : decode cX12_off 28 = .ok (.aload_n 3, 1) := by decide +kernel
theorem dX12_off_29 : decode cX12_off 29 = .ok (.iconst 0, 1) := by decide +kernel
theorem dX12_off_30 : decode cX12_off 30 = .ok (.invokevirtual 107, 3) := by decide +kernel
theorem dX12_off_33 : decode cX12_off 33 = .ok (.aload_n 3, 1) := by decide +kernel
theorem dX12_off_34 : decode cX12_off 34 = .ok (.iconst 0, 1) := by decide +kernel
theorem dX12_off_35 : decode cX12_off 35 = .ok (.putfield 83, 3) := by decide +kernel
theorem dX12_off_38 : decode cX12_off 38 = .ok (.iconst 1, 1) := by decide +kernel
theorem dX12_off_39 : decode cX12_off 39 = .ok (.ireturn, 1) := by decide +kernel
theorem dX12_claim_0 : decode cX12_claim 0 = .ok (.aload_n 0, 1) := by decide +kernel
theorem dX12_claim_1 : decode cX12_claim 1 = .ok (.iload_n 1, 1) := by decide +kernel
theorem dX12_claim_2 : decode cX12_claim 2 = .ok (.invokevirtual 94, 3) := by decide +kernel
theorem dX12_claim_5 : decode cX12_claim 5 = .ok (.astore_n 2, 1) := by decide +kernel
theorem dX12_claim_6 : decode cX12_claim 6 = .ok (.aload_n 2, 1) := by decide +kernel
theorem dX12_claim_7 : decode cX12_claim 7 = .ok (.ifnull 20, 3) := by decide +kernel
theorem dX12_claim_10 : decode cX12_claim 10 = .ok (.aload_n 2, 1) := by decide +kernel
theorem dX12_claim_11 : decode cX12_claim 11 = .ok (.getfield 98, 3) := by decide +kernel
theorem dX12_claim_14 : decode cX12_claim 14 = .ok (.getfield 102, 3) := by decide +kernel
theorem dX12_claim_17 : decode cX12_claim 17 = .ok (.ifCond .ne 10, 3) := by decide +kernel
theorem dX12_claim_20 : decode cX12_claim 20 = .ok (.aload_n 0, 1) := by decide +kernel
theorem dX12_claim_21 : decode cX12_claim 21 = .ok (.invokevirtual 111, 3) := by decide +kernel
theorem dX12_claim_24 : decode cX12_claim 24 = .ok (.ifCond .ne 5, 3) := by decide +kernel
theorem dX12_claim_27 : decode cX12_claim 27 = .ok (.iconst 0, 1) := by decide +kernel
theorem dX12_claim_28 : decode cX12_claim 28 = .ok (.ireturn, 1) := by decide +kernel
theorem dX12_claim_29 : decode cX12_claim 29 = .ok (.aload_n 2, 1) := by decide +kernel
theorem dX12_claim_30 : decode cX12_claim 30 = .ok (.getfield 98, 3) := by decide +kernel
theorem dX12_claim_33 : decode cX12_claim 33 = .ok (.astore_n 3, 1) := by decide +kernel
theorem dX12_claim_34 : decode cX12_claim 34 = .ok (.aload_n 0, 1) := by decide +kernel
theorem dX12_claim_35 : decode cX12_claim 35 = .ok (.aload_n 3, 1) := by decide +kernel
theorem dX12_claim_36 : decode cX12_claim 36 = .ok (.getfield 115, 3) := by decide +kernel
theorem dX12_claim_39 : decode cX12_claim 39 = .ok (.invokevirtual 119, 3) := by decide +kernel
theorem dX12_claim_42 : decode cX12_claim 42 = .ok (.aload_n 3, 1) := by decide +kernel
theorem dX12_claim_43 : decode cX12_claim 43 = .ok (.getfield 123, 3) := by decide +kernel
theorem dX12_claim_46 : decode cX12_claim 46 = .ok (.aload_n 3, 1) := by decide +kernel
theorem dX12_claim_47 : decode cX12_claim 47 = .ok (.getfield 115, 3) := by decide +kernel
theorem dX12_claim_50 : decode cX12_claim 50 = .ok (.invokevirtual 125, 3) := by decide +kernel
theorem dX12_claim_53 : decode cX12_claim 53 = .ok (.aload_n 3, 1) := by decide +kernel
theorem dX12_claim_54 : decode cX12_claim 54 = .ok (.invokevirtual 128, 3) := by decide +kernel
theorem dX12_claim_57 : decode cX12_claim 57 = .ok (.aload_n 2, 1) := by decide +kernel
theorem dX12_claim_58 : decode cX12_claim 58 = .ok (.getfield 131, 3) := by decide +kernel
theorem dX12_claim_61 : decode cX12_claim 61 = .ok (.invokevirtual 135, 3) := by decide +kernel
theorem dX12_claim_64 : decode cX12_claim 64 = .ok (.ifCond .eq 15, 3) := by decide +kernel
theorem dX12_claim_67 : decode cX12_claim 67 = .ok (.aload_n 3, 1) := by decide +kernel
theorem dX12_claim_68 : decode cX12_claim 68 = .ok (.aload_n 2, 1) := by decide +kernel
theorem dX12_claim_69 : decode cX12_claim 69 = .ok (.getfield 87, 3) := by decide +kernel
theorem dX12_claim_72 : decode cX12_claim 72 = .ok (.aload_n 0, 1) := by decide +kernel
theorem dX12_claim_73 : decode cX12_claim 73 = .ok (.getfield 53, 3) := by decide +kernel
theorem dX12_claim_76 : decode cX12_claim 76 = .ok (.invokevirtual 140, 3) := by decide +kernel
theorem dX12_claim_79 : decode cX12_claim 79 = .ok (.iconst 1, 1) := by decide +kernel
theorem dX12_claim_80 : decode cX12_claim 80 = .ok (.ireturn, 1) := by decide +kernel
theorem dX12_service_0 : decode cX12_service 0 = .ok (.aload_n 0, 1) := by decide +kernel
theorem dX12_service_1 : decode cX12_service 1 = .ok (.iload_n 1, 1) := by decide +kernel
theorem dX12_service_2 : decode cX12_service 2 = .ok (.invokevirtual 94, 3) := by decide +kernel
theorem dX12_service_5 : decode cX12_service 5 = .ok (.astore_n 3, 1) := by decide +kernel
theorem dX12_service_6 : decode cX12_service 6 = .ok (.aload_n 3, 1) := by decide +kernel
theorem dX12_service_7 : decode cX12_service 7 = .ok (.ifnull 20, 3) := by decide +kernel
theorem dX12_service_10 : decode cX12_service 10 = .ok (.iload_n 2, 1) := by decide +kernel
theorem dX12_service_11 : decode cX12_service 11 = .ok (.ifCond .lt 16, 3) := by decide +kernel
theorem dX12_service_14 : decode cX12_service 14 = .ok (.iload_n 2, 1) := by decide +kernel
theorem dX12_service_15 : decode cX12_service 15 = .ok (.ldc 82, 2) := by decide +kernel
theorem dX12_service_17 : decode cX12_service 17 = .ok (.if_icmp .gt 10, 3) := by decide +kernel
theorem dX12_service_20 : decode cX12_service 20 = .ok (.aload_n 0, 1) := by decide +kernel
theorem dX12_service_21 : decode cX12_service 21 = .ok (.invokevirtual 111, 3) := by decide +kernel
theorem dX12_service_24 : decode cX12_service 24 = .ok (.ifCond .ne 5, 3) := by decide +kernel
theorem dX12_service_27 : decode cX12_service 27 = .ok (.iconst (-1), 1) := by decide +kernel
theorem dX12_service_28 : decode cX12_service 28 = .ok (.ireturn, 1) := by decide +kernel
theorem dX12_service_29 : decode cX12_service 29 = .ok (.aload_n 3, 1) := by decide +kernel
theorem dX12_service_30 : decode cX12_service 30 = .ok (.getfield 143, 3) := by decide +kernel
theorem dX12_service_33 : decode cX12_service 33 = .ok (.iconst 4, 1) := by decide +kernel
theorem dX12_service_34 : decode cX12_service 34 = .ok (.if_icmp .lt 5, 3) := by decide +kernel
theorem dX12_service_37 : decode cX12_service 37 = .ok (.iconst (-1), 1) := by decide +kernel
theorem dX12_service_38 : decode cX12_service 38 = .ok (.ireturn, 1) := by decide +kernel
theorem dX12_service_39 : decode cX12_service 39 = .ok (.aload_n 3, 1) := by decide +kernel
theorem dX12_service_40 : decode cX12_service 40 = .ok (.getfield 146, 3) := by decide +kernel
theorem dX12_service_43 : decode cX12_service 43 = .ok (.aload_n 3, 1) := by decide +kernel
theorem dX12_service_44 : decode cX12_service 44 = .ok (.getfield 143, 3) := by decide +kernel
theorem dX12_service_47 : decode cX12_service 47 = .ok (.aaload, 1) := by decide +kernel
theorem dX12_service_48 : decode cX12_service 48 = .ok (.astore 4, 2) := by decide +kernel
theorem dX12_service_50 : decode cX12_service 50 = .ok (.aload_n 3, 1) := by decide +kernel
theorem dX12_service_51 : decode cX12_service 51 = .ok (.dup, 1) := by decide +kernel
theorem dX12_service_52 : decode cX12_service 52 = .ok (.getfield 143, 3) := by decide +kernel
theorem dX12_service_55 : decode cX12_service 55 = .ok (.iconst 1, 1) := by decide +kernel
theorem dX12_service_56 : decode cX12_service 56 = .ok (.iadd, 1) := by decide +kernel
theorem dX12_service_57 : decode cX12_service 57 = .ok (.putfield 143, 3) := by decide +kernel
theorem dX12_service_60 : decode cX12_service 60 = .ok (.aload_n 0, 1) := by decide +kernel
theorem dX12_service_61 : decode cX12_service 61 = .ok (.aload 4, 2) := by decide +kernel
theorem dX12_service_63 : decode cX12_service 63 = .ok (.getfield 150, 3) := by decide +kernel
theorem dX12_service_66 : decode cX12_service 66 = .ok (.invokevirtual 119, 3) := by decide +kernel
theorem dX12_service_69 : decode cX12_service 69 = .ok (.aload 4, 2) := by decide +kernel
theorem dX12_service_71 : decode cX12_service 71 = .ok (.iload_n 2, 1) := by decide +kernel
theorem dX12_service_72 : decode cX12_service 72 = .ok (.putfield 155, 3) := by decide +kernel
theorem dX12_service_75 : decode cX12_service 75 = .ok (.aload_n 3, 1) := by decide +kernel
theorem dX12_service_76 : decode cX12_service 76 = .ok (.getfield 143, 3) := by decide +kernel
theorem dX12_service_79 : decode cX12_service 79 = .ok (.ireturn, 1) := by decide +kernel
theorem dX12_ask_0 : decode cX12_ask 0 = .ok (.aload_n 0, 1) := by decide +kernel
theorem dX12_ask_1 : decode cX12_ask 1 = .ok (.iload_n 1, 1) := by decide +kernel
theorem dX12_ask_2 : decode cX12_ask 2 = .ok (.invokevirtual 94, 3) := by decide +kernel
theorem dX12_ask_5 : decode cX12_ask 5 = .ok (.astore_n 3, 1) := by decide +kernel
theorem dX12_ask_6 : decode cX12_ask 6 = .ok (.aload_n 3, 1) := by decide +kernel
theorem dX12_ask_7 : decode cX12_ask 7 = .ok (.ifnull 20, 3) := by decide +kernel
theorem dX12_ask_10 : decode cX12_ask 10 = .ok (.iload_n 2, 1) := by decide +kernel
theorem dX12_ask_11 : decode cX12_ask 11 = .ok (.iconst 1, 1) := by decide +kernel
theorem dX12_ask_12 : decode cX12_ask 12 = .ok (.if_icmp .eq 8, 3) := by decide +kernel
theorem dX12_ask_15 : decode cX12_ask 15 = .ok (.iload_n 2, 1) := by decide +kernel
theorem dX12_ask_16 : decode cX12_ask 16 = .ok (.iconst 2, 1) := by decide +kernel
theorem dX12_ask_17 : decode cX12_ask 17 = .ok (.if_icmp .ne 10, 3) := by decide +kernel
theorem dX12_ask_20 : decode cX12_ask 20 = .ok (.aload_n 0, 1) := by decide +kernel
theorem dX12_ask_21 : decode cX12_ask 21 = .ok (.invokevirtual 111, 3) := by decide +kernel
theorem dX12_ask_24 : decode cX12_ask 24 = .ok (.ifCond .ne 5, 3) := by decide +kernel
theorem dX12_ask_27 : decode cX12_ask 27 = .ok (.iconst (-1), 1) := by decide +kernel
theorem dX12_ask_28 : decode cX12_ask 28 = .ok (.ireturn, 1) := by decide +kernel
theorem dX12_ask_29 : decode cX12_ask 29 = .ok (.iconst 0, 1) := by decide +kernel
theorem dX12_ask_30 : decode cX12_ask 30 = .ok (.istore 4, 2) := by decide +kernel
theorem dX12_ask_32 : decode cX12_ask 32 = .ok (.iload 4, 2) := by decide +kernel
theorem dX12_ask_34 : decode cX12_ask 34 = .ok (.iconst 4, 1) := by decide +kernel
theorem dX12_ask_35 : decode cX12_ask 35 = .ok (.if_icmp .ge 52, 3) := by decide +kernel
theorem dX12_ask_38 : decode cX12_ask 38 = .ok (.aload_n 3, 1) := by decide +kernel
theorem dX12_ask_39 : decode cX12_ask 39 = .ok (.getfield 158, 3) := by decide +kernel
theorem dX12_ask_42 : decode cX12_ask 42 = .ok (.iload 4, 2) := by decide +kernel
theorem dX12_ask_44 : decode cX12_ask 44 = .ok (.aaload, 1) := by decide +kernel
theorem dX12_ask_45 : decode cX12_ask 45 = .ok (.astore 5, 2) := by decide +kernel
theorem dX12_ask_47 : decode cX12_ask 47 = .ok (.aload 5, 2) := by decide +kernel
theorem dX12_ask_49 : decode cX12_ask 49 = .ok (.getfield 162, 3) := by decide +kernel
theorem dX12_ask_52 : decode cX12_ask 52 = .ok (.ifCond .ne 29, 3) := by decide +kernel
theorem dX12_ask_55 : decode cX12_ask 55 = .ok (.aload_n 0, 1) := by decide +kernel
theorem dX12_ask_56 : decode cX12_ask 56 = .ok (.aload 5, 2) := by decide +kernel
theorem dX12_ask_58 : decode cX12_ask 58 = .ok (.getfield 167, 3) := by decide +kernel
theorem dX12_ask_61 : decode cX12_ask 61 = .ok (.invokevirtual 119, 3) := by decide +kernel
theorem dX12_ask_64 : decode cX12_ask 64 = .ok (.aload 5, 2) := by decide +kernel
theorem dX12_ask_66 : decode cX12_ask 66 = .ok (.iload_n 2, 1) := by decide +kernel
theorem dX12_ask_67 : decode cX12_ask 67 = .ok (.aload_n 3, 1) := by decide +kernel
theorem dX12_ask_68 : decode cX12_ask 68 = .ok (.getfield 87, 3) := by decide +kernel
theorem dX12_ask_71 : decode cX12_ask 71 = .ok (.aload_n 0, 1) := by decide +kernel
theorem dX12_ask_72 : decode cX12_ask 72 = .ok (.getfield 53, 3) := by decide +kernel
theorem dX12_ask_75 : decode cX12_ask 75 = .ok (.invokevirtual 170, 3) := by decide +kernel
theorem dX12_ask_78 : decode cX12_ask 78 = .ok (.iload 4, 2) := by decide +kernel
theorem dX12_ask_80 : decode cX12_ask 80 = .ok (.ireturn, 1) := by decide +kernel
theorem dX12_ask_81 : decode cX12_ask 81 = .ok (.iinc 4 1, 3) := by decide +kernel
theorem dX12_ask_84 : decode cX12_ask 84 = .ok (.goto (-52), 3) := by decide +kernel
theorem dX12_ask_87 : decode cX12_ask 87 = .ok (.iconst (-1), 1) := by decide +kernel
theorem dX12_ask_88 : decode cX12_ask 88 = .ok (.ireturn, 1) := by decide +kernel
theorem dX12_close_0 : decode cX12_close 0 = .ok (.aload_n 0, 1) := by decide +kernel
theorem dX12_close_1 : decode cX12_close 1 = .ok (.iload_n 1, 1) := by decide +kernel
theorem dX12_close_2 : decode cX12_close 2 = .ok (.iload_n 2, 1) := by decide +kernel
theorem dX12_close_3 : decode cX12_close 3 = .ok (.invokevirtual 173, 3) := by decide +kernel
theorem dX12_close_6 : decode cX12_close 6 = .ok (.astore_n 3, 1) := by decide +kernel
theorem dX12_close_7 : decode cX12_close 7 = .ok (.aload_n 3, 1) := by decide +kernel
theorem dX12_close_8 : decode cX12_close 8 = .ok (.ifnonnull 5, 3) := by decide +kernel
theorem dX12_close_11 : decode cX12_close 11 = .ok (.iconst 0, 1) := by decide +kernel
theorem dX12_close_12 : decode cX12_close 12 = .ok (.ireturn, 1) := by decide +kernel
theorem dX12_close_13 : decode cX12_close 13 = .ok (.aload_n 3, 1) := by decide +kernel
theorem dX12_close_14 : decode cX12_close 14 = .ok (.iconst 0, 1) := by decide +kernel
theorem dX12_close_15 : decode cX12_close 15 = .ok (.putfield 162, 3) := by decide +kernel
theorem dX12_close_18 : decode cX12_close 18 = .ok (.iconst 1, 1) := by decide +kernel
theorem dX12_close_19 : decode cX12_close 19 = .ok (.ireturn, 1) := by decide +kernel
theorem dX12_lose_0 : decode cX12_lose 0 = .ok (.aload_n 0, 1) := by decide +kernel
theorem dX12_lose_1 : decode cX12_lose 1 = .ok (.iload_n 1, 1) := by decide +kernel
theorem dX12_lose_2 : decode cX12_lose 2 = .ok (.invokevirtual 94, 3) := by decide +kernel
theorem dX12_lose_5 : decode cX12_lose 5 = .ok (.astore_n 3, 1) := by decide +kernel
theorem dX12_lose_6 : decode cX12_lose 6 = .ok (.aload_n 3, 1) := by decide +kernel
theorem dX12_lose_7 : decode cX12_lose 7 = .ok (.ifnull 14, 3) := by decide +kernel
theorem dX12_lose_10 : decode cX12_lose 10 = .ok (.iload_n 2, 1) := by decide +kernel
theorem dX12_lose_11 : decode cX12_lose 11 = .ok (.ifCond .lt 10, 3) := by decide +kernel
theorem dX12_lose_14 : decode cX12_lose 14 = .ok (.iload_n 2, 1) := by decide +kernel
theorem dX12_lose_15 : decode cX12_lose 15 = .ok (.sipush 1000, 3) := by decide +kernel
theorem dX12_lose_18 : decode cX12_lose 18 = .ok (.if_icmp .le 5, 3) := by decide +kernel
theorem dX12_lose_21 : decode cX12_lose 21 = .ok (.iconst 0, 1) := by decide +kernel
theorem dX12_lose_22 : decode cX12_lose 22 = .ok (.ireturn, 1) := by decide +kernel
theorem dX12_lose_23 : decode cX12_lose 23 = .ok (.aload_n 3, 1) := by decide +kernel
theorem dX12_lose_24 : decode cX12_lose 24 = .ok (.iload_n 2, 1) := by decide +kernel
theorem dX12_lose_25 : decode cX12_lose 25 = .ok (.putfield 177, 3) := by decide +kernel
theorem dX12_lose_28 : decode cX12_lose 28 = .ok (.iconst 1, 1) := by decide +kernel
theorem dX12_lose_29 : decode cX12_lose 29 = .ok (.ireturn, 1) := by decide +kernel
theorem dX12_give_0 : decode cX12_give 0 = .ok (.aload_n 0, 1) := by decide +kernel
theorem dX12_give_1 : decode cX12_give 1 = .ok (.iload_n 1, 1) := by decide +kernel
theorem dX12_give_2 : decode cX12_give 2 = .ok (.invokevirtual 94, 3) := by decide +kernel
theorem dX12_give_5 : decode cX12_give 5 = .ok (.astore_n 2, 1) := by decide +kernel
theorem dX12_give_6 : decode cX12_give 6 = .ok (.aload_n 2, 1) := by decide +kernel
theorem dX12_give_7 : decode cX12_give 7 = .ok (.ifnonnull 5, 3) := by decide +kernel
theorem dX12_give_10 : decode cX12_give 10 = .ok (.iconst (-1), 1) := by decide +kernel
theorem dX12_give_11 : decode cX12_give 11 = .ok (.ireturn, 1) := by decide +kernel
theorem dX12_give_12 : decode cX12_give 12 = .ok (.aload_n 0, 1) := by decide +kernel
theorem dX12_give_13 : decode cX12_give 13 = .ok (.getfield 25, 3) := by decide +kernel
theorem dX12_give_16 : decode cX12_give 16 = .ok (.aload_n 0, 1) := by decide +kernel
theorem dX12_give_17 : decode cX12_give 17 = .ok (.getfield 18, 3) := by decide +kernel
theorem dX12_give_20 : decode cX12_give 20 = .ok (.invokevirtual 180, 3) := by decide +kernel
theorem dX12_give_23 : decode cX12_give 23 = .ok (.istore_n 3, 1) := by decide +kernel
theorem dX12_give_24 : decode cX12_give 24 = .ok (.aload_n 0, 1) := by decide +kernel
theorem dX12_give_25 : decode cX12_give 25 = .ok (.getfield 18, 3) := by decide +kernel
theorem dX12_give_28 : decode cX12_give 28 = .ok (.iconst 0, 1) := by decide +kernel
theorem dX12_give_29 : decode cX12_give 29 = .ok (.putfield 59, 3) := by decide +kernel
theorem dX12_give_32 : decode cX12_give 32 = .ok (.aload_n 0, 1) := by decide +kernel
theorem dX12_give_33 : decode cX12_give 33 = .ok (.aload_n 2, 1) := by decide +kernel
theorem dX12_give_34 : decode cX12_give 34 = .ok (.iload_n 3, 1) := by decide +kernel
theorem dX12_give_35 : decode cX12_give 35 = .ok (.invokevirtual 184, 3) := by decide +kernel
theorem dX12_give_38 : decode cX12_give 38 = .ok (.iload_n 3, 1) := by decide +kernel
theorem dX12_give_39 : decode cX12_give 39 = .ok (.ifCond .eq 7, 3) := by decide +kernel
theorem dX12_give_42 : decode cX12_give 42 = .ok (.iconst 0, 1) := by decide +kernel
theorem dX12_give_43 : decode cX12_give 43 = .ok (.goto 4, 3) := by decide +kernel
theorem dX12_give_46 : decode cX12_give 46 = .ok (.iconst 1, 1) := by decide +kernel
theorem dX12_give_47 : decode cX12_give 47 = .ok (.ireturn, 1) := by decide +kernel
theorem dX12_go_0 : decode cX12_go 0 = .ok (.iload_n 1, 1) := by decide +kernel
theorem dX12_go_1 : decode cX12_go 1 = .ok (.ifCond .lt 10, 3) := by decide +kernel
theorem dX12_go_4 : decode cX12_go 4 = .ok (.iload_n 1, 1) := by decide +kernel
theorem dX12_go_5 : decode cX12_go 5 = .ok (.sipush 20000, 3) := by decide +kernel
theorem dX12_go_8 : decode cX12_go 8 = .ok (.if_icmp .le 5, 3) := by decide +kernel
theorem dX12_go_11 : decode cX12_go 11 = .ok (.iconst (-1), 1) := by decide +kernel
theorem dX12_go_12 : decode cX12_go 12 = .ok (.ireturn, 1) := by decide +kernel
theorem dX12_go_13 : decode cX12_go 13 = .ok (.aload_n 0, 1) := by decide +kernel
theorem dX12_go_14 : decode cX12_go 14 = .ok (.getfield 53, 3) := by decide +kernel
theorem dX12_go_17 : decode cX12_go 17 = .ok (.iload_n 1, 1) := by decide +kernel
theorem dX12_go_18 : decode cX12_go 18 = .ok (.i2l, 1) := by decide +kernel
theorem dX12_go_19 : decode cX12_go 19 = .ok (.ladd, 1) := by decide +kernel
theorem dX12_go_20 : decode cX12_go 20 = .ok (.lstore_n 2, 1) := by decide +kernel
theorem dX12_go_21 : decode cX12_go 21 = .ok (.iconst 0, 1) := by decide +kernel
theorem dX12_go_22 : decode cX12_go 22 = .ok (.istore 4, 2) := by decide +kernel
theorem dX12_go_24 : decode cX12_go 24 = .ok (.iload 4, 2) := by decide +kernel
theorem dX12_go_26 : decode cX12_go 26 = .ok (.ldc 188, 2) := by decide +kernel
theorem dX12_go_28 : decode cX12_go 28 = .ok (.if_icmp .ge 56, 3) := by decide +kernel
theorem dX12_go_31 : decode cX12_go 31 = .ok (.aload_n 0, 1) := by decide +kernel
theorem dX12_go_32 : decode cX12_go 32 = .ok (.getfield 37, 3) := by decide +kernel
theorem dX12_go_35 : decode cX12_go 35 = .ok (.aload_n 0, 1) := by decide +kernel
theorem dX12_go_36 : decode cX12_go 36 = .ok (.getfield 41, 3) := by decide +kernel
theorem dX12_go_39 : decode cX12_go 39 = .ok (.if_icmp .ge 10, 3) := by decide +kernel
theorem dX12_go_42 : decode cX12_go 42 = .ok (.aload_n 0, 1) := by decide +kernel
theorem dX12_go_43 : decode cX12_go 43 = .ok (.invokevirtual 189, 3) := by decide +kernel
theorem dX12_go_46 : decode cX12_go 46 = .ok (.goto 32, 3) := by decide +kernel
theorem dX12_go_49 : decode cX12_go 49 = .ok (.aload_n 0, 1) := by decide +kernel
theorem dX12_go_50 : decode cX12_go 50 = .ok (.invokevirtual 192, 3) := by decide +kernel
theorem dX12_go_53 : decode cX12_go 53 = .ok (.ifCond .ne 25, 3) := by decide +kernel
theorem dX12_go_56 : decode cX12_go 56 = .ok (.aload_n 0, 1) := by decide +kernel
theorem dX12_go_57 : decode cX12_go 57 = .ok (.invokevirtual 195, 3) := by decide +kernel
theorem dX12_go_60 : decode cX12_go 60 = .ok (.lstore 5, 2) := by decide +kernel
theorem dX12_go_62 : decode cX12_go 62 = .ok (.lload 5, 2) := by decide +kernel
theorem dX12_go_64 : decode cX12_go 64 = .ok (.lload_n 2, 1) := by decide +kernel
theorem dX12_go_65 : decode cX12_go 65 = .ok (.lcmp, 1) := by decide +kernel
theorem dX12_go_66 : decode cX12_go 66 = .ok (.ifCond .le 6, 3) := by decide +kernel
theorem dX12_go_69 : decode cX12_go 69 = .ok (.goto 15, 3) := by decide +kernel
theorem dX12_go_72 : decode cX12_go 72 = .ok (.aload_n 0, 1) := by decide +kernel
theorem dX12_go_73 : decode cX12_go 73 = .ok (.lload 5, 2) := by decide +kernel
theorem dX12_go_75 : decode cX12_go 75 = .ok (.putfield 53, 3) := by decide +kernel
theorem dX12_go_78 : decode cX12_go 78 = .ok (.iinc 4 1, 3) := by decide +kernel
theorem dX12_go_81 : decode cX12_go 81 = .ok (.goto (-57), 3) := by decide +kernel
theorem dX12_go_84 : decode cX12_go 84 = .ok (.aload_n 0, 1) := by decide +kernel
theorem dX12_go_85 : decode cX12_go 85 = .ok (.lload_n 2, 1) := by decide +kernel
theorem dX12_go_86 : decode cX12_go 86 = .ok (.putfield 53, 3) := by decide +kernel
theorem dX12_go_89 : decode cX12_go 89 = .ok (.aload_n 0, 1) := by decide +kernel
theorem dX12_go_90 : decode cX12_go 90 = .ok (.getfield 53, 3) := by decide +kernel
theorem dX12_go_93 : decode cX12_go 93 = .ok (.l2i, 1) := by decide +kernel
theorem dX12_go_94 : decode cX12_go 94 = .ok (.ireturn, 1) := by decide +kernel
theorem dX12_actFirst_0 : decode cX12_actFirst 0 = .ok (.iconst 0, 1) := by decide +kernel
theorem dX12_actFirst_1 : decode cX12_actFirst 1 = .ok (.istore_n 1, 1) := by decide +kernel
theorem dX12_actFirst_2 : decode cX12_actFirst 2 = .ok (.iload_n 1, 1) := by decide +kernel
theorem dX12_actFirst_3 : decode cX12_actFirst 3 = .ok (.bipush 8, 2) := by decide +kernel
theorem dX12_actFirst_5 : decode cX12_actFirst 5 = .ok (.if_icmp .ge 36, 3) := by decide +kernel
theorem dX12_actFirst_8 : decode cX12_actFirst 8 = .ok (.aload_n 0, 1) := by decide +kernel
theorem dX12_actFirst_9 : decode cX12_actFirst 9 = .ok (.getfield 11, 3) := by decide +kernel
theorem dX12_actFirst_12 : decode cX12_actFirst 12 = .ok (.iload_n 1, 1) := by decide +kernel
theorem dX12_actFirst_13 : decode cX12_actFirst 13 = .ok (.aaload, 1) := by decide +kernel
theorem dX12_actFirst_14 : decode cX12_actFirst 14 = .ok (.getfield 83, 3) := by decide +kernel
theorem dX12_actFirst_17 : decode cX12_actFirst 17 = .ok (.ifCond .eq 18, 3) := by decide +kernel
theorem dX12_actFirst_20 : decode cX12_actFirst 20 = .ok (.aload_n 0, 1) := by decide +kernel
theorem dX12_actFirst_21 : decode cX12_actFirst 21 = .ok (.aload_n 0, 1) := by decide +kernel
theorem dX12_actFirst_22 : decode cX12_actFirst 22 = .ok (.getfield 11, 3) := by decide +kernel
theorem dX12_actFirst_25 : decode cX12_actFirst 25 = .ok (.iload_n 1, 1) := by decide +kernel
theorem dX12_actFirst_26 : decode cX12_actFirst 26 = .ok (.aaload, 1) := by decide +kernel
theorem dX12_actFirst_27 : decode cX12_actFirst 27 = .ok (.invokevirtual 219, 3) := by decide +kernel
theorem dX12_actFirst_30 : decode cX12_actFirst 30 = .ok (.ifCond .eq 5, 3) := by decide +kernel
theorem dX12_actFirst_33 : decode cX12_actFirst 33 = .ok (.iconst 1, 1) := by decide +kernel
theorem dX12_actFirst_34 : decode cX12_actFirst 34 = .ok (.ireturn, 1) := by decide +kernel
theorem dX12_actFirst_35 : decode cX12_actFirst 35 = .ok (.iinc 1 1, 3) := by decide +kernel
theorem dX12_actFirst_38 : decode cX12_actFirst 38 = .ok (.goto (-36), 3) := by decide +kernel
theorem dX12_actFirst_41 : decode cX12_actFirst 41 = .ok (.iconst 0, 1) := by decide +kernel
theorem dX12_actFirst_42 : decode cX12_actFirst 42 = .ok (.ireturn, 1) := by decide +kernel
theorem dX12_nextDue_0 : decode cX12_nextDue 0 = .ok (.ldc2_w 210, 3) := by decide +kernel
theorem dX12_nextDue_3 : decode cX12_nextDue 3 = .ok (.lstore_n 1, 1) := by decide +kernel
theorem dX12_nextDue_4 : decode cX12_nextDue 4 = .ok (.iconst 0, 1) := by decide +kernel
theorem dX12_nextDue_5 : decode cX12_nextDue 5 = .ok (.istore_n 3, 1) := by decide +kernel
theorem dX12_nextDue_6 : decode cX12_nextDue 6 = .ok (.iload_n 3, 1) := by decide +kernel
theorem dX12_nextDue_7 : decode cX12_nextDue 7 = .ok (.bipush 8, 2) := by decide +kernel
theorem dX12_nextDue_9 : decode cX12_nextDue 9 = .ok (.if_icmp .ge 35, 3) := by decide +kernel
theorem dX12_nextDue_12 : decode cX12_nextDue 12 = .ok (.aload_n 0, 1) := by decide +kernel
theorem dX12_nextDue_13 : decode cX12_nextDue 13 = .ok (.getfield 11, 3) := by decide +kernel
theorem dX12_nextDue_16 : decode cX12_nextDue 16 = .ok (.iload_n 3, 1) := by decide +kernel
theorem dX12_nextDue_17 : decode cX12_nextDue 17 = .ok (.aaload, 1) := by decide +kernel
theorem dX12_nextDue_18 : decode cX12_nextDue 18 = .ok (.getfield 83, 3) := by decide +kernel
theorem dX12_nextDue_21 : decode cX12_nextDue 21 = .ok (.ifCond .eq 17, 3) := by decide +kernel
theorem dX12_nextDue_24 : decode cX12_nextDue 24 = .ok (.lload_n 1, 1) := by decide +kernel
theorem dX12_nextDue_25 : decode cX12_nextDue 25 = .ok (.aload_n 0, 1) := by decide +kernel
theorem dX12_nextDue_26 : decode cX12_nextDue 26 = .ok (.getfield 11, 3) := by decide +kernel
theorem dX12_nextDue_29 : decode cX12_nextDue 29 = .ok (.iload_n 3, 1) := by decide +kernel
theorem dX12_nextDue_30 : decode cX12_nextDue 30 = .ok (.aaload, 1) := by decide +kernel
theorem dX12_nextDue_31 : decode cX12_nextDue 31 = .ok (.invokevirtual 212, 3) := by decide +kernel
theorem dX12_nextDue_34 : decode cX12_nextDue 34 = .ok (.invokestatic 213, 3) := by decide +kernel
theorem dX12_nextDue_37 : decode cX12_nextDue 37 = .ok (.lstore_n 1, 1) := by decide +kernel
theorem dX12_nextDue_38 : decode cX12_nextDue 38 = .ok (.iinc 3 1, 3) := by decide +kernel
theorem dX12_nextDue_41 : decode cX12_nextDue 41 = .ok (.goto (-35), 3) := by decide +kernel
theorem dX12_nextDue_44 : decode cX12_nextDue 44 = .ok (.lload_n 1, 1) := by decide +kernel
theorem dX12_nextDue_45 : decode cX12_nextDue 45 = .ok (.lreturn, 1) := by decide +kernel
theorem dX12_split_0 : decode cX12_split 0 = .ok (.iconst 0, 1) := by decide +kernel
theorem dX12_split_1 : decode cX12_split 1 = .ok (.istore_n 2, 1) := by decide +kernel
theorem dX12_split_2 : decode cX12_split 2 = .ok (.iload_n 2, 1) := by decide +kernel
theorem dX12_split_3 : decode cX12_split 3 = .ok (.bipush 8, 2) := by decide +kernel
theorem dX12_split_5 : decode cX12_split 5 = .ok (.if_icmp .ge 23, 3) := by decide +kernel
theorem dX12_split_8 : decode cX12_split 8 = .ok (.aload_n 0, 1) := by decide +kernel
theorem dX12_split_9 : decode cX12_split 9 = .ok (.getfield 11, 3) := by decide +kernel
theorem dX12_split_12 : decode cX12_split 12 = .ok (.iload_n 2, 1) := by decide +kernel
theorem dX12_split_13 : decode cX12_split 13 = .ok (.aaload, 1) := by decide +kernel
theorem dX12_split_14 : decode cX12_split 14 = .ok (.iload_n 1, 1) := by decide +kernel
theorem dX12_split_15 : decode cX12_split 15 = .ok (.iload_n 2, 1) := by decide +kernel
theorem dX12_split_16 : decode cX12_split 16 = .ok (.ishr, 1) := by decide +kernel
theorem dX12_split_17 : decode cX12_split 17 = .ok (.iconst 1, 1) := by decide +kernel
theorem dX12_split_18 : decode cX12_split 18 = .ok (.iand, 1) := by decide +kernel
theorem dX12_split_19 : decode cX12_split 19 = .ok (.putfield 199, 3) := by decide +kernel
theorem dX12_split_22 : decode cX12_split 22 = .ok (.iinc 2 1, 3) := by decide +kernel
theorem dX12_split_25 : decode cX12_split 25 = .ok (.goto (-23), 3) := by decide +kernel
theorem dX12_split_28 : decode cX12_split 28 = .ok (.return_, 1) := by decide +kernel
theorem dX12_join_0 : decode cX12_join 0 = .ok (.iconst 0, 1) := by decide +kernel
theorem dX12_join_1 : decode cX12_join 1 = .ok (.istore_n 1, 1) := by decide +kernel
theorem dX12_join_2 : decode cX12_join 2 = .ok (.iload_n 1, 1) := by decide +kernel
theorem dX12_join_3 : decode cX12_join 3 = .ok (.bipush 8, 2) := by decide +kernel
theorem dX12_join_5 : decode cX12_join 5 = .ok (.if_icmp .ge 86, 3) := by decide +kernel
theorem dX12_join_8 : decode cX12_join 8 = .ok (.aload_n 0, 1) := by decide +kernel
theorem dX12_join_9 : decode cX12_join 9 = .ok (.getfield 11, 3) := by decide +kernel
theorem dX12_join_12 : decode cX12_join 12 = .ok (.iload_n 1, 1) := by decide +kernel
theorem dX12_join_13 : decode cX12_join 13 = .ok (.aaload, 1) := by decide +kernel
theorem dX12_join_14 : decode cX12_join 14 = .ok (.astore_n 2, 1) := by decide +kernel
theorem dX12_join_15 : decode cX12_join 15 = .ok (.aload_n 2, 1) := by decide +kernel
theorem dX12_join_16 : decode cX12_join 16 = .ok (.iconst 0, 1) := by decide +kernel
theorem dX12_join_17 : decode cX12_join 17 = .ok (.putfield 199, 3) := by decide +kernel
theorem dX12_join_20 : decode cX12_join 20 = .ok (.aload_n 2, 1) := by decide +kernel
theorem dX12_join_21 : decode cX12_join 21 = .ok (.getfield 83, 3) := by decide +kernel
theorem dX12_join_24 : decode cX12_join 24 = .ok (.ifCond .eq 28, 3) := by decide +kernel
theorem dX12_join_27 : decode cX12_join 27 = .ok (.aload_n 2, 1) := by decide +kernel
theorem dX12_join_28 : decode cX12_join 28 = .ok (.getfield 131, 3) := by decide +kernel
theorem dX12_join_31 : decode cX12_join 31 = .ok (.invokevirtual 135, 3) := by decide +kernel
theorem dX12_join_34 : decode cX12_join 34 = .ok (.ifCond .eq 18, 3) := by decide +kernel
theorem dX12_join_37 : decode cX12_join 37 = .ok (.aload_n 2, 1) := by decide +kernel
theorem dX12_join_38 : decode cX12_join 38 = .ok (.getfield 131, 3) := by decide +kernel
theorem dX12_join_41 : decode cX12_join 41 = .ok (.aload_n 2, 1) := by decide +kernel
theorem dX12_join_42 : decode cX12_join 42 = .ok (.getfield 87, 3) := by decide +kernel
theorem dX12_join_45 : decode cX12_join 45 = .ok (.aload_n 0, 1) := by decide +kernel
theorem dX12_join_46 : decode cX12_join 46 = .ok (.getfield 53, 3) := by decide +kernel
theorem dX12_join_49 : decode cX12_join 49 = .ok (.invokevirtual 202, 3) := by decide +kernel
theorem dX12_join_52 : decode cX12_join 52 = .ok (.aload_n 2, 1) := by decide +kernel
theorem dX12_join_53 : decode cX12_join 53 = .ok (.getfield 83, 3) := by decide +kernel
theorem dX12_join_56 : decode cX12_join 56 = .ok (.ifCond .eq 29, 3) := by decide +kernel
theorem dX12_join_59 : decode cX12_join 59 = .ok (.aload_n 2, 1) := by decide +kernel
theorem dX12_join_60 : decode cX12_join 60 = .ok (.getfield 98, 3) := by decide +kernel
theorem dX12_join_63 : decode cX12_join 63 = .ok (.getfield 102, 3) := by decide +kernel
theorem dX12_join_66 : decode cX12_join 66 = .ok (.iconst 3, 1) := by decide +kernel
theorem dX12_join_67 : decode cX12_join 67 = .ok (.if_icmp .ne 18, 3) := by decide +kernel
theorem dX12_join_70 : decode cX12_join 70 = .ok (.aload_n 2, 1) := by decide +kernel
theorem dX12_join_71 : decode cX12_join 71 = .ok (.getfield 98, 3) := by decide +kernel
theorem dX12_join_74 : decode cX12_join 74 = .ok (.aload_n 2, 1) := by decide +kernel
theorem dX12_join_75 : decode cX12_join 75 = .ok (.getfield 87, 3) := by decide +kernel
theorem dX12_join_78 : decode cX12_join 78 = .ok (.aload_n 0, 1) := by decide +kernel
theorem dX12_join_79 : decode cX12_join 79 = .ok (.getfield 53, 3) := by decide +kernel
theorem dX12_join_82 : decode cX12_join 82 = .ok (.invokevirtual 205, 3) := by decide +kernel
theorem dX12_join_85 : decode cX12_join 85 = .ok (.iinc 1 1, 3) := by decide +kernel
theorem dX12_join_88 : decode cX12_join 88 = .ok (.goto (-86), 3) := by decide +kernel
theorem dX12_join_91 : decode cX12_join 91 = .ok (.return_, 1) := by decide +kernel
theorem dX12_look_0 : decode cX12_look 0 = .ok (.iload_n 1, 1) := by decide +kernel
theorem dX12_look_1 : decode cX12_look 1 = .ok (.ifCond .lt 9, 3) := by decide +kernel
theorem dX12_look_4 : decode cX12_look 4 = .ok (.iload_n 1, 1) := by decide +kernel
theorem dX12_look_5 : decode cX12_look 5 = .ok (.bipush 8, 2) := by decide +kernel
theorem dX12_look_7 : decode cX12_look 7 = .ok (.if_icmp .lt 14, 3) := by decide +kernel
theorem dX12_look_10 : decode cX12_look 10 = .ok (.new 457, 3) := by decide +kernel
theorem dX12_look_13 : decode cX12_look 13 = .ok (.dup, 1) := by decide +kernel
theorem dX12_look_14 : decode cX12_look 14 = .ok (.ldc_w 459, 3) := by decide +kernel
theorem dX12_look_17 : decode cX12_look 17 = .ok (.invokespecial 461, 3) := by decide +kernel
theorem dX12_look_20 : decode cX12_look 20 = .ok (.athrow, 1) := by decide +kernel
theorem dX12_look_21 : decode cX12_look 21 = .ok (.iload_n 2, 1) := by decide +kernel
theorem dX12_look_22 : decode cX12_look 22 = .ok (.ifCond .lt 9, 3) := by decide +kernel
theorem dX12_look_25 : decode cX12_look 25 = .ok (.iload_n 2, 1) := by decide +kernel
theorem dX12_look_26 : decode cX12_look 26 = .ok (.bipush 11, 2) := by decide +kernel
theorem dX12_look_28 : decode cX12_look 28 = .ok (.if_icmp .le 14, 3) := by decide +kernel
theorem dX12_look_31 : decode cX12_look 31 = .ok (.new 464, 3) := by decide +kernel
theorem dX12_look_34 : decode cX12_look 34 = .ok (.dup, 1) := by decide +kernel
theorem dX12_look_35 : decode cX12_look 35 = .ok (.ldc_w 466, 3) := by decide +kernel
theorem dX12_look_38 : decode cX12_look 38 = .ok (.invokespecial 468, 3) := by decide +kernel
theorem dX12_look_41 : decode cX12_look 41 = .ok (.athrow, 1) := by decide +kernel
theorem dX12_look_42 : decode cX12_look 42 = .ok (.aload_n 0, 1) := by decide +kernel
theorem dX12_look_43 : decode cX12_look 43 = .ok (.getfield 11, 3) := by decide +kernel
theorem dX12_look_46 : decode cX12_look 46 = .ok (.iload_n 1, 1) := by decide +kernel
theorem dX12_look_47 : decode cX12_look 47 = .ok (.aaload, 1) := by decide +kernel
theorem dX12_look_48 : decode cX12_look 48 = .ok (.astore_n 3, 1) := by decide +kernel
theorem dX12_look_49 : decode cX12_look 49 = .ok (.iload_n 2, 1) := by decide +kernel
theorem dX12_look_50 : decode cX12_look 50 = .ok (.bipush 9, 2) := by decide +kernel
theorem dX12_look_52 : decode cX12_look 52 = .ok (.if_icmp .ne 8, 3) := by decide +kernel
theorem dX12_look_55 : decode cX12_look 55 = .ok (.aload_n 3, 1) := by decide +kernel
theorem dX12_look_56 : decode cX12_look 56 = .ok (.getfield 199, 3) := by decide +kernel
theorem dX12_look_59 : decode cX12_look 59 = .ok (.ireturn, 1) := by decide +kernel
theorem dX12_look_60 : decode cX12_look 60 = .ok (.aload_n 3, 1) := by decide +kernel
theorem dX12_look_61 : decode cX12_look 61 = .ok (.getfield 83, 3) := by decide +kernel
theorem dX12_look_64 : decode cX12_look 64 = .ok (.ifCond .ne 14, 3) := by decide +kernel
theorem dX12_look_67 : decode cX12_look 67 = .ok (.iload_n 2, 1) := by decide +kernel
theorem dX12_look_68 : decode cX12_look 68 = .ok (.iconst 2, 1) := by decide +kernel
theorem dX12_look_69 : decode cX12_look 69 = .ok (.if_icmp .ne 7, 3) := by decide +kernel
theorem dX12_look_72 : decode cX12_look 72 = .ok (.iconst (-1), 1) := by decide +kernel
theorem dX12_look_73 : decode cX12_look 73 = .ok (.goto 4, 3) := by decide +kernel
theorem dX12_look_76 : decode cX12_look 76 = .ok (.iconst 0, 1) := by decide +kernel
theorem dX12_look_77 : decode cX12_look 77 = .ok (.ireturn, 1) := by decide +kernel
theorem dX12_look_78 : decode cX12_look 78 = .ok (.aload_n 3, 1) := by decide +kernel
theorem dX12_look_79 : decode cX12_look 79 = .ok (.iload_n 2, 1) := by decide +kernel
theorem dX12_look_80 : decode cX12_look 80 = .ok (.invokevirtual 469, 3) := by decide +kernel
theorem dX12_look_83 : decode cX12_look 83 = .ok (.ireturn, 1) := by decide +kernel
theorem dX12_sign_0 : decode cX12_sign 0 = .ok (.aload_n 0, 1) := by decide +kernel
theorem dX12_sign_1 : decode cX12_sign 1 = .ok (.iload_n 1, 1) := by decide +kernel
theorem dX12_sign_2 : decode cX12_sign 2 = .ok (.invokevirtual 94, 3) := by decide +kernel
theorem dX12_sign_5 : decode cX12_sign 5 = .ok (.astore_n 3, 1) := by decide +kernel
theorem dX12_sign_6 : decode cX12_sign 6 = .ok (.aload_n 3, 1) := by decide +kernel
theorem dX12_sign_7 : decode cX12_sign 7 = .ok (.ifnull 14, 3) := by decide +kernel
theorem dX12_sign_10 : decode cX12_sign 10 = .ok (.aload_n 3, 1) := by decide +kernel
theorem dX12_sign_11 : decode cX12_sign 11 = .ok (.getfield 98, 3) := by decide +kernel
theorem dX12_sign_14 : decode cX12_sign 14 = .ok (.getfield 102, 3) := by decide +kernel
theorem dX12_sign_17 : decode cX12_sign 17 = .ok (.iconst 2, 1) := by decide +kernel
theorem dX12_sign_18 : decode cX12_sign 18 = .ok (.if_icmp .ge 5, 3) := by decide +kernel
theorem dX12_sign_21 : decode cX12_sign 21 = .ok (.iconst (-1), 1) := by decide +kernel
theorem dX12_sign_22 : decode cX12_sign 22 = .ok (.ireturn, 1) := by decide +kernel
theorem dX12_sign_23 : decode cX12_sign 23 = .ok (.aload_n 3, 1) := by decide +kernel
theorem dX12_sign_24 : decode cX12_sign 24 = .ok (.getfield 98, 3) := by decide +kernel
theorem dX12_sign_27 : decode cX12_sign 27 = .ok (.getfield 123, 3) := by decide +kernel
theorem dX12_sign_30 : decode cX12_sign 30 = .ok (.iload_n 2, 1) := by decide +kernel
theorem dX12_sign_31 : decode cX12_sign 31 = .ok (.invokevirtual 472, 3) := by decide +kernel
theorem dX12_sign_34 : decode cX12_sign 34 = .ok (.ireturn, 1) := by decide +kernel
theorem dX12_answers_0 : decode cX12_answers 0 = .ok (.aload_n 0, 1) := by decide +kernel
theorem dX12_answers_1 : decode cX12_answers 1 = .ok (.iload_n 1, 1) := by decide +kernel
theorem dX12_answers_2 : decode cX12_answers 2 = .ok (.iload_n 2, 1) := by decide +kernel
theorem dX12_answers_3 : decode cX12_answers 3 = .ok (.invokevirtual 173, 3) := by decide +kernel
theorem dX12_answers_6 : decode cX12_answers 6 = .ok (.astore_n 3, 1) := by decide +kernel
theorem dX12_answers_7 : decode cX12_answers 7 = .ok (.aload_n 3, 1) := by decide +kernel
theorem dX12_answers_8 : decode cX12_answers 8 = .ok (.ifnonnull 5, 3) := by decide +kernel
theorem dX12_answers_11 : decode cX12_answers 11 = .ok (.iconst (-1), 1) := by decide +kernel
theorem dX12_answers_12 : decode cX12_answers 12 = .ok (.ireturn, 1) := by decide +kernel
theorem dX12_answers_13 : decode cX12_answers 13 = .ok (.aload_n 0, 1) := by decide +kernel
theorem dX12_answers_14 : decode cX12_answers 14 = .ok (.getfield 11, 3) := by decide +kernel
theorem dX12_answers_17 : decode cX12_answers 17 = .ok (.iload_n 1, 1) := by decide +kernel
theorem dX12_answers_18 : decode cX12_answers 18 = .ok (.aaload, 1) := by decide +kernel
theorem dX12_answers_19 : decode cX12_answers 19 = .ok (.getfield 261, 3) := by decide +kernel
theorem dX12_answers_22 : decode cX12_answers 22 = .ok (.aload_n 3, 1) := by decide +kernel
theorem dX12_answers_23 : decode cX12_answers 23 = .ok (.invokevirtual 473, 3) := by decide +kernel
theorem dX12_answers_26 : decode cX12_answers 26 = .ok (.ireturn, 1) := by decide +kernel
theorem dX12_found_0 : decode cX12_found 0 = .ok (.aload_n 0, 1) := by decide +kernel
theorem dX12_found_1 : decode cX12_found 1 = .ok (.iload_n 1, 1) := by decide +kernel
theorem dX12_found_2 : decode cX12_found 2 = .ok (.iload_n 2, 1) := by decide +kernel
theorem dX12_found_3 : decode cX12_found 3 = .ok (.invokevirtual 173, 3) := by decide +kernel
theorem dX12_found_6 : decode cX12_found 6 = .ok (.astore 5, 2) := by decide +kernel
theorem dX12_found_8 : decode cX12_found 8 = .ok (.aload 5, 2) := by decide +kernel
theorem dX12_found_10 : decode cX12_found 10 = .ok (.ifnonnull 5, 3) := by decide +kernel
theorem dX12_found_13 : decode cX12_found 13 = .ok (.iconst (-1), 1) := by decide +kernel
theorem dX12_found_14 : decode cX12_found 14 = .ok (.ireturn, 1) := by decide +kernel
theorem dX12_found_15 : decode cX12_found 15 = .ok (.aload_n 0, 1) := by decide +kernel
theorem dX12_found_16 : decode cX12_found 16 = .ok (.getfield 11, 3) := by decide +kernel
theorem dX12_found_19 : decode cX12_found 19 = .ok (.iload_n 1, 1) := by decide +kernel
theorem dX12_found_20 : decode cX12_found 20 = .ok (.aaload, 1) := by decide +kernel
theorem dX12_found_21 : decode cX12_found 21 = .ok (.getfield 261, 3) := by decide +kernel
theorem dX12_found_24 : decode cX12_found 24 = .ok (.aload 5, 2) := by decide +kernel
theorem dX12_found_26 : decode cX12_found 26 = .ok (.iload_n 3, 1) := by decide +kernel
theorem dX12_found_27 : decode cX12_found 27 = .ok (.invokevirtual 477, 3) := by decide +kernel
theorem dX12_found_30 : decode cX12_found 30 = .ok (.astore 6, 2) := by decide +kernel
theorem dX12_found_32 : decode cX12_found 32 = .ok (.aload 6, 2) := by decide +kernel
theorem dX12_found_34 : decode cX12_found 34 = .ok (.ifnonnull 5, 3) := by decide +kernel
theorem dX12_found_37 : decode cX12_found 37 = .ok (.iconst (-1), 1) := by decide +kernel
theorem dX12_found_38 : decode cX12_found 38 = .ok (.ireturn, 1) := by decide +kernel
theorem dX12_found_39 : decode cX12_found 39 = .ok (.iload 4, 2) := by decide +kernel
theorem dX12_found_41 : decode cX12_found 41 = .ok (.tableswitch 67 0 2 #[27, 33, 45], 27) := by decide +kernel
theorem dX12_found_68 : decode cX12_found 68 = .ok (.aload 6, 2) := by decide +kernel
theorem dX12_found_70 : decode cX12_found 70 = .ok (.getfield 445, 3) := by decide +kernel
theorem dX12_found_73 : decode cX12_found 73 = .ok (.ireturn, 1) := by decide +kernel
theorem dX12_found_74 : decode cX12_found 74 = .ok (.aload 6, 2) := by decide +kernel
theorem dX12_found_76 : decode cX12_found 76 = .ok (.getfield 293, 3) := by decide +kernel
theorem dX12_found_79 : decode cX12_found 79 = .ok (.aload_n 0, 1) := by decide +kernel
theorem dX12_found_80 : decode cX12_found 80 = .ok (.getfield 53, 3) := by decide +kernel
theorem dX12_found_83 : decode cX12_found 83 = .ok (.lsub, 1) := by decide +kernel
theorem dX12_found_84 : decode cX12_found 84 = .ok (.l2i, 1) := by decide +kernel
theorem dX12_found_85 : decode cX12_found 85 = .ok (.ireturn, 1) := by decide +kernel
theorem dX12_found_86 : decode cX12_found 86 = .ok (.aload 6, 2) := by decide +kernel
theorem dX12_found_88 : decode cX12_found 88 = .ok (.getfield 302, 3) := by decide +kernel
theorem dX12_found_91 : decode cX12_found 91 = .ok (.iconst 2, 1) := by decide +kernel
theorem dX12_found_92 : decode cX12_found 92 = .ok (.if_icmp .ne 14, 3) := by decide +kernel
theorem dX12_found_95 : decode cX12_found 95 = .ok (.aload 6, 2) := by decide +kernel
theorem dX12_found_97 : decode cX12_found 97 = .ok (.getfield 444, 3) := by decide +kernel
theorem dX12_found_100 : decode cX12_found 100 = .ok (.getfield 481, 3) := by decide +kernel
theorem dX12_found_103 : decode cX12_found 103 = .ok (.goto 4, 3) := by decide +kernel
theorem dX12_found_106 : decode cX12_found 106 = .ok (.iconst 0, 1) := by decide +kernel
theorem dX12_found_107 : decode cX12_found 107 = .ok (.ireturn, 1) := by decide +kernel
theorem dX12_found_108 : decode cX12_found 108 = .ok (.iconst (-1), 1) := by decide +kernel
theorem dX12_found_109 : decode cX12_found 109 = .ok (.ireturn, 1) := by decide +kernel
theorem dX12_entry_0 : decode cX12_entry 0 = .ok (.aload_n 0, 1) := by decide +kernel
theorem dX12_entry_1 : decode cX12_entry 1 = .ok (.iload_n 1, 1) := by decide +kernel
theorem dX12_entry_2 : decode cX12_entry 2 = .ok (.invokevirtual 94, 3) := by decide +kernel
theorem dX12_entry_5 : decode cX12_entry 5 = .ok (.astore 4, 2) := by decide +kernel
theorem dX12_entry_7 : decode cX12_entry 7 = .ok (.aload 4, 2) := by decide +kernel
theorem dX12_entry_9 : decode cX12_entry 9 = .ok (.ifnull 19, 3) := by decide +kernel
theorem dX12_entry_12 : decode cX12_entry 12 = .ok (.iload_n 2, 1) := by decide +kernel
theorem dX12_entry_13 : decode cX12_entry 13 = .ok (.ifCond .lt 15, 3) := by decide +kernel
theorem dX12_entry_16 : decode cX12_entry 16 = .ok (.iload_n 2, 1) := by decide +kernel
theorem dX12_entry_17 : decode cX12_entry 17 = .ok (.aload 4, 2) := by decide +kernel
theorem dX12_entry_19 : decode cX12_entry 19 = .ok (.getfield 261, 3) := by decide +kernel
theorem dX12_entry_22 : decode cX12_entry 22 = .ok (.getfield 265, 3) := by decide +kernel
theorem dX12_entry_25 : decode cX12_entry 25 = .ok (.if_icmp .lt 5, 3) := by decide +kernel
theorem dX12_entry_28 : decode cX12_entry 28 = .ok (.iconst (-1), 1) := by decide +kernel
theorem dX12_entry_29 : decode cX12_entry 29 = .ok (.ireturn, 1) := by decide +kernel
theorem dX12_entry_30 : decode cX12_entry 30 = .ok (.aload 4, 2) := by decide +kernel
theorem dX12_entry_32 : decode cX12_entry 32 = .ok (.getfield 261, 3) := by decide +kernel
theorem dX12_entry_35 : decode cX12_entry 35 = .ok (.getfield 268, 3) := by decide +kernel
theorem dX12_entry_38 : decode cX12_entry 38 = .ok (.iload_n 2, 1) := by decide +kernel
theorem dX12_entry_39 : decode cX12_entry 39 = .ok (.aaload, 1) := by decide +kernel
theorem dX12_entry_40 : decode cX12_entry 40 = .ok (.iload_n 3, 1) := by decide +kernel
theorem dX12_entry_41 : decode cX12_entry 41 = .ok (.aload_n 0, 1) := by decide +kernel
theorem dX12_entry_42 : decode cX12_entry 42 = .ok (.getfield 53, 3) := by decide +kernel
theorem dX12_entry_45 : decode cX12_entry 45 = .ok (.invokevirtual 482, 3) := by decide +kernel
theorem dX12_entry_48 : decode cX12_entry 48 = .ok (.ireturn, 1) := by decide +kernel
theorem dX12_count_0 : decode cX12_count 0 = .ok (.iload_n 1, 1) := by decide +kernel
theorem dX12_count_1 : decode cX12_count 1 = .ok (.ifCond .ne 9, 3) := by decide +kernel
theorem dX12_count_4 : decode cX12_count 4 = .ok (.aload_n 0, 1) := by decide +kernel
theorem dX12_count_5 : decode cX12_count 5 = .ok (.getfield 53, 3) := by decide +kernel
theorem dX12_count_8 : decode cX12_count 8 = .ok (.l2i, 1) := by decide +kernel
theorem dX12_count_9 : decode cX12_count 9 = .ok (.ireturn, 1) := by decide +kernel
theorem dX12_count_10 : decode cX12_count 10 = .ok (.iload_n 1, 1) := by decide +kernel
theorem dX12_count_11 : decode cX12_count 11 = .ok (.bipush 10, 2) := by decide +kernel
theorem dX12_count_13 : decode cX12_count 13 = .ok (.if_icmp .ne 9, 3) := by decide +kernel
theorem dX12_count_16 : decode cX12_count 16 = .ok (.aload_n 0, 1) := by decide +kernel
theorem dX12_count_17 : decode cX12_count 17 = .ok (.getfield 49, 3) := by decide +kernel
theorem dX12_count_20 : decode cX12_count 20 = .ok (.l2i, 1) := by decide +kernel
theorem dX12_count_21 : decode cX12_count 21 = .ok (.ireturn, 1) := by decide +kernel
theorem dX12_count_22 : decode cX12_count 22 = .ok (.iload_n 1, 1) := by decide +kernel
theorem dX12_count_23 : decode cX12_count 23 = .ok (.ifCond .lt 9, 3) := by decide +kernel
theorem dX12_count_26 : decode cX12_count 26 = .ok (.iload_n 1, 1) := by decide +kernel
theorem dX12_count_27 : decode cX12_count 27 = .ok (.bipush 10, 2) := by decide +kernel
theorem dX12_count_29 : decode cX12_count 29 = .ok (.if_icmp .lt 7, 3) := by decide +kernel
theorem dX12_count_32 : decode cX12_count 32 = .ok (.iconst (-1), 1) := by decide +kernel
theorem dX12_count_33 : decode cX12_count 33 = .ok (.goto 9, 3) := by decide +kernel
theorem dX12_count_36 : decode cX12_count 36 = .ok (.aload_n 0, 1) := by decide +kernel
theorem dX12_count_37 : decode cX12_count 37 = .ok (.getfield 29, 3) := by decide +kernel
theorem dX12_count_40 : decode cX12_count 40 = .ok (.iload_n 1, 1) := by decide +kernel
theorem dX12_count_41 : decode cX12_count 41 = .ok (.iaload, 1) := by decide +kernel
theorem dX12_count_42 : decode cX12_count 42 = .ok (.ireturn, 1) := by decide +kernel
theorem dX12_holders_0 : decode cX12_holders 0 = .ok (.iconst 0, 1) := by decide +kernel
theorem dX12_holders_1 : decode cX12_holders 1 = .ok (.istore_n 2, 1) := by decide +kernel
theorem dX12_holders_2 : decode cX12_holders 2 = .ok (.iconst 0, 1) := by decide +kernel
theorem dX12_holders_3 : decode cX12_holders 3 = .ok (.istore_n 3, 1) := by decide +kernel
theorem dX12_holders_4 : decode cX12_holders 4 = .ok (.iload_n 3, 1) := by decide +kernel
theorem dX12_holders_5 : decode cX12_holders 5 = .ok (.bipush 8, 2) := by decide +kernel
theorem dX12_holders_7 : decode cX12_holders 7 = .ok (.if_icmp .ge 51, 3) := by decide +kernel
theorem dX12_holders_10 : decode cX12_holders 10 = .ok (.aload_n 0, 1) := by decide +kernel
theorem dX12_holders_11 : decode cX12_holders 11 = .ok (.getfield 11, 3) := by decide +kernel
theorem dX12_holders_14 : decode cX12_holders 14 = .ok (.iload_n 3, 1) := by decide +kernel
theorem dX12_holders_15 : decode cX12_holders 15 = .ok (.aaload, 1) := by decide +kernel
theorem dX12_holders_16 : decode cX12_holders 16 = .ok (.astore 4, 2) := by decide +kernel
theorem dX12_holders_18 : decode cX12_holders 18 = .ok (.aload 4, 2) := by decide +kernel
theorem dX12_holders_20 : decode cX12_holders 20 = .ok (.getfield 83, 3) := by decide +kernel
theorem dX12_holders_23 : decode cX12_holders 23 = .ok (.ifCond .eq 29, 3) := by decide +kernel
theorem dX12_holders_26 : decode cX12_holders 26 = .ok (.aload 4, 2) := by decide +kernel
theorem dX12_holders_28 : decode cX12_holders 28 = .ok (.getfield 131, 3) := by decide +kernel
theorem dX12_holders_31 : decode cX12_holders 31 = .ok (.invokevirtual 135, 3) := by decide +kernel
theorem dX12_holders_34 : decode cX12_holders 34 = .ok (.ifCond .eq 18, 3) := by decide +kernel
theorem dX12_holders_37 : decode cX12_holders 37 = .ok (.aload 4, 2) := by decide +kernel
theorem dX12_holders_39 : decode cX12_holders 39 = .ok (.getfield 131, 3) := by decide +kernel
theorem dX12_holders_42 : decode cX12_holders 42 = .ok (.getfield 334, 3) := by decide +kernel
theorem dX12_holders_45 : decode cX12_holders 45 = .ok (.iload_n 1, 1) := by decide +kernel
theorem dX12_holders_46 : decode cX12_holders 46 = .ok (.if_icmp .ne 6, 3) := by decide +kernel
theorem dX12_holders_49 : decode cX12_holders 49 = .ok (.iinc 2 1, 3) := by decide +kernel
theorem dX12_holders_52 : decode cX12_holders 52 = .ok (.iinc 3 1, 3) := by decide +kernel
theorem dX12_holders_55 : decode cX12_holders 55 = .ok (.goto (-51), 3) := by decide +kernel
theorem dX12_holders_58 : decode cX12_holders 58 = .ok (.iload_n 2, 1) := by decide +kernel
theorem dX12_holders_59 : decode cX12_holders 59 = .ok (.ireturn, 1) := by decide +kernel
theorem dX12_sent_0 : decode cX12_sent 0 = .ok (.aload_n 0, 1) := by decide +kernel
theorem dX12_sent_1 : decode cX12_sent 1 = .ok (.getfield 44, 3) := by decide +kernel
theorem dX12_sent_4 : decode cX12_sent 4 = .ok (.ifnonnull 7, 3) := by decide +kernel
theorem dX12_sent_7 : decode cX12_sent 7 = .ok (.iconst (-1), 1) := by decide +kernel
theorem dX12_sent_8 : decode cX12_sent 8 = .ok (.goto 11, 3) := by decide +kernel
theorem dX12_sent_11 : decode cX12_sent 11 = .ok (.aload_n 0, 1) := by decide +kernel
theorem dX12_sent_12 : decode cX12_sent 12 = .ok (.getfield 44, 3) := by decide +kernel
theorem dX12_sent_15 : decode cX12_sent 15 = .ok (.iload_n 1, 1) := by decide +kernel
theorem dX12_sent_16 : decode cX12_sent 16 = .ok (.invokevirtual 68, 3) := by decide +kernel
theorem dX12_sent_19 : decode cX12_sent 19 = .ok (.ireturn, 1) := by decide +kernel
theorem dX13_init_0 : decode cX13_init 0 = .ok (.aload_n 0, 1) := by decide +kernel
theorem dX13_init_1 : decode cX13_init 1 = .ok (.invokespecial 1, 3) := by decide +kernel
theorem dX13_init_4 : decode cX13_init 4 = .ok (.aload_n 0, 1) := by decide +kernel
theorem dX13_init_5 : decode cX13_init 5 = .ok (.sipush 200, 3) := by decide +kernel
theorem dX13_init_8 : decode cX13_init 8 = .ok (.newarray .int, 2) := by decide +kernel
theorem dX13_init_10 : decode cX13_init 10 = .ok (.putfield 7, 3) := by decide +kernel
theorem dX13_init_13 : decode cX13_init 13 = .ok (.aload_n 0, 1) := by decide +kernel
theorem dX13_init_14 : decode cX13_init 14 = .ok (.bipush 8, 2) := by decide +kernel
theorem dX13_init_16 : decode cX13_init 16 = .ok (.newarray .boolean, 2) := by decide +kernel
theorem dX13_init_18 : decode cX13_init 18 = .ok (.putfield 13, 3) := by decide +kernel
theorem dX13_init_21 : decode cX13_init 21 = .ok (.aload_n 0, 1) := by decide +kernel
theorem dX13_init_22 : decode cX13_init 22 = .ok (.bipush 8, 2) := by decide +kernel
theorem dX13_init_24 : decode cX13_init 24 = .ok (.newarray .int, 2) := by decide +kernel
theorem dX13_init_26 : decode cX13_init 26 = .ok (.putfield 17, 3) := by decide +kernel
theorem dX13_init_29 : decode cX13_init 29 = .ok (.aload_n 0, 1) := by decide +kernel
theorem dX13_init_30 : decode cX13_init 30 = .ok (.bipush 8, 2) := by decide +kernel
theorem dX13_init_32 : decode cX13_init 32 = .ok (.newarray .int, 2) := by decide +kernel
theorem dX13_init_34 : decode cX13_init 34 = .ok (.putfield 20, 3) := by decide +kernel
theorem dX13_init_37 : decode cX13_init 37 = .ok (.aload_n 0, 1) := by decide +kernel
theorem dX13_init_38 : decode cX13_init 38 = .ok (.bipush 8, 2) := by decide +kernel
theorem dX13_init_40 : decode cX13_init 40 = .ok (.newarray .int, 2) := by decide +kernel
theorem dX13_init_42 : decode cX13_init 42 = .ok (.putfield 23, 3) := by decide +kernel
theorem dX13_init_45 : decode cX13_init 45 = .ok (.aload_n 0, 1) := by decide +kernel
theorem dX13_init_46 : decode cX13_init 46 = .ok (.bipush 8, 2) := by decide +kernel
theorem dX13_init_48 : decode cX13_init 48 = .ok (.newarray .int, 2) := by decide +kernel
theorem dX13_init_50 : decode cX13_init 50 = .ok (.putfield 26, 3) := by decide +kernel
theorem dX13_init_53 : decode cX13_init 53 = .ok (.aload_n 0, 1) := by decide +kernel
theorem dX13_init_54 : decode cX13_init 54 = .ok (.bipush 8, 2) := by decide +kernel
theorem dX13_init_56 : decode cX13_init 56 = .ok (.newarray .int, 2) := by decide +kernel
theorem dX13_init_58 : decode cX13_init 58 = .ok (.putfield 29, 3) := by decide +kernel
theorem dX13_init_61 : decode cX13_init 61 = .ok (.aload_n 0, 1) := by decide +kernel
theorem dX13_init_62 : decode cX13_init 62 = .ok (.bipush 8, 2) := by decide +kernel
theorem dX13_init_64 : decode cX13_init 64 = .ok (.newarray .int, 2) := by decide +kernel
theorem dX13_init_66 : decode cX13_init 66 = .ok (.putfield 32, 3) := by decide +kernel
theorem dX13_init_69 : decode cX13_init 69 = .ok (.aload_n 0, 1) := by decide +kernel
theorem dX13_init_70 : decode cX13_init 70 = .ok (.bipush 8, 2) := by decide +kernel
theorem dX13_init_72 : decode cX13_init 72 = .ok (.newarray .int, 2) := by decide +kernel
theorem dX13_init_74 : decode cX13_init 74 = .ok (.putfield 35, 3) := by decide +kernel
theorem dX13_init_77 : decode cX13_init 77 = .ok (.aload_n 0, 1) := by decide +kernel
theorem dX13_init_78 : decode cX13_init 78 = .ok (.bipush 8, 2) := by decide +kernel
theorem dX13_init_80 : decode cX13_init 80 = .ok (.newarray .int, 2) := by decide +kernel
theorem dX13_init_82 : decode cX13_init 82 = .ok (.putfield 38, 3) := by decide +kernel
theorem dX13_init_85 : decode cX13_init 85 = .ok (.aload_n 0, 1) := by decide +kernel
theorem dX13_init_86 : decode cX13_init 86 = .ok (.bipush 8, 2) := by decide +kernel
theorem dX13_init_88 : decode cX13_init 88 = .ok (.newarray .boolean, 2) := by decide +kernel
theorem dX13_init_90 : decode cX13_init 90 = .ok (.putfield 41, 3) := by decide +kernel
theorem dX13_init_93 : decode cX13_init 93 = .ok (.aload_n 0, 1) := by decide +kernel
theorem dX13_init_94 : decode cX13_init 94 = .ok (.bipush 8, 2) := by decide +kernel
theorem dX13_init_96 : decode cX13_init 96 = .ok (.newarray .long, 2) := by decide +kernel
theorem dX13_init_98 : decode cX13_init 98 = .ok (.putfield 44, 3) := by decide +kernel
theorem dX13_init_101 : decode cX13_init 101 = .ok (.aload_n 0, 1) := by decide +kernel
theorem dX13_init_102 : decode cX13_init 102 = .ok (.bipush 8, 2) := by decide +kernel
theorem dX13_init_104 : decode cX13_init 104 = .ok (.newarray .long, 2) := by decide +kernel
theorem dX13_init_106 : decode cX13_init 106 = .ok (.putfield 48, 3) := by decide +kernel
theorem dX13_init_109 : decode cX13_init 109 = .ok (.aload_n 0, 1) := by decide +kernel
theorem dX13_init_110 : decode cX13_init 110 = .ok (.bipush 8, 2) := by decide +kernel
theorem dX13_init_112 : decode cX13_init 112 = .ok (.newarray .int, 2) := by decide +kernel
theorem dX13_init_114 : decode cX13_init 114 = .ok (.putfield 51, 3) := by decide +kernel
theorem dX13_init_117 : decode cX13_init 117 = .ok (.aload_n 0, 1) := by decide +kernel
theorem dX13_init_118 : decode cX13_init 118 = .ok (.bipush 8, 2) := by decide +kernel
theorem dX13_init_120 : decode cX13_init 120 = .ok (.newarray .int, 2) := by decide +kernel
theorem dX13_init_122 : decode cX13_init 122 = .ok (.putfield 54, 3) := by decide +kernel
theorem dX13_init_125 : decode cX13_init 125 = .ok (.aload_n 0, 1) := by decide +kernel
theorem dX13_init_126 : decode cX13_init 126 = .ok (.bipush 8, 2) := by decide +kernel
theorem dX13_init_128 : decode cX13_init 128 = .ok (.newarray .long, 2) := by decide +kernel
theorem dX13_init_130 : decode cX13_init 130 = .ok (.putfield 57, 3) := by decide +kernel
theorem dX13_init_133 : decode cX13_init 133 = .ok (.aload_n 0, 1) := by decide +kernel
theorem dX13_init_134 : decode cX13_init 134 = .ok (.bipush 8, 2) := by decide +kernel
theorem dX13_init_136 : decode cX13_init 136 = .ok (.newarray .int, 2) := by decide +kernel
theorem dX13_init_138 : decode cX13_init 138 = .ok (.putfield 60, 3) := by decide +kernel
theorem dX13_init_141 : decode cX13_init 141 = .ok (.aload_n 0, 1) := by decide +kernel
theorem dX13_init_142 : decode cX13_init 142 = .ok (.sipush 128, 3) := by decide +kernel
theorem dX13_init_145 : decode cX13_init 145 = .ok (.newarray .int, 2) := by decide +kernel
theorem dX13_init_147 : decode cX13_init 147 = .ok (.putfield 63, 3) := by decide +kernel
theorem dX13_init_150 : decode cX13_init 150 = .ok (.aload_n 0, 1) := by decide +kernel
theorem dX13_init_151 : decode cX13_init 151 = .ok (.sipush 128, 3) := by decide +kernel
theorem dX13_init_154 : decode cX13_init 154 = .ok (.newarray .int, 2) := by decide +kernel
theorem dX13_init_156 : decode cX13_init 156 = .ok (.putfield 66, 3) := by decide +kernel
theorem dX13_init_159 : decode cX13_init 159 = .ok (.aload_n 0, 1) := by decide +kernel
theorem dX13_init_160 : decode cX13_init 160 = .ok (.sipush 512, 3) := by decide +kernel
