theorem dX12_newPacket_30 : decode cX12_newPacket 30 = .ok (.astore_n 3, 1) := by decide +kernel
theorem dX12_newPacket_31 : decode cX12_newPacket 31 = .ok (.aload_n 3, 1) := by decide +kernel
theorem dX12_newPacket_32 : decode cX12_newPacket 32 = .ok (.ifnonnull 21, 3) := by decide +kernel
theorem dX12_newPacket_35 : decode cX12_newPacket 35 = .ok (.new 15, 3) := by decide +kernel
theorem dX12_newPacket_38 : decode cX12_newPacket 38 = .ok (.dup, 1) := by decide +kernel
theorem dX12_newPacket_39 : decode cX12_newPacket 39 = .ok (.invokespecial 17, 3) := by decide +kernel
theorem dX12_newPacket_42 : decode cX12_newPacket 42 = .ok (.astore_n 3, 1) := by decide +kernel
theorem dX12_newPacket_43 : decode cX12_newPacket 43 = .ok (.aload_n 0, 1) := by decide +kernel
theorem dX12_newPacket_44 : decode cX12_newPacket 44 = .ok (.getfield 33, 3) := by decide +kernel
theorem dX12_newPacket_47 : decode cX12_newPacket 47 = .ok (.aload_n 0, 1) := by decide +kernel
theorem dX12_newPacket_48 : decode cX12_newPacket 48 = .ok (.getfield 41, 3) := by decide +kernel
theorem dX12_newPacket_51 : decode cX12_newPacket 51 = .ok (.aload_n 3, 1) := by decide +kernel
theorem dX12_newPacket_52 : decode cX12_newPacket 52 = .ok (.aastore, 1) := by decide +kernel
theorem dX12_newPacket_53 : decode cX12_newPacket 53 = .ok (.aload_n 3, 1) := by decide +kernel
theorem dX12_newPacket_54 : decode cX12_newPacket 54 = .ok (.aload_n 1, 1) := by decide +kernel
theorem dX12_newPacket_55 : decode cX12_newPacket 55 = .ok (.getfield 416, 3) := by decide +kernel
theorem dX12_newPacket_58 : decode cX12_newPacket 58 = .ok (.aload_n 1, 1) := by decide +kernel
theorem dX12_newPacket_59 : decode cX12_newPacket 59 = .ok (.getfield 199, 3) := by decide +kernel
theorem dX12_newPacket_62 : decode cX12_newPacket 62 = .ok (.invokevirtual 419, 3) := by decide +kernel
theorem dX12_newPacket_65 : decode cX12_newPacket 65 = .ok (.aload_n 3, 1) := by decide +kernel
theorem dX12_newPacket_66 : decode cX12_newPacket 66 = .ok (.iload_n 2, 1) := by decide +kernel
theorem dX12_newPacket_67 : decode cX12_newPacket 67 = .ok (.invokevirtual 421, 3) := by decide +kernel
theorem dX12_newPacket_70 : decode cX12_newPacket 70 = .ok (.aload_n 0, 1) := by decide +kernel
theorem dX12_newPacket_71 : decode cX12_newPacket 71 = .ok (.getfield 29, 3) := by decide +kernel
theorem dX12_newPacket_74 : decode cX12_newPacket 74 = .ok (.iconst 4, 1) := by decide +kernel
theorem dX12_newPacket_75 : decode cX12_newPacket 75 = .ok (.iload_n 2, 1) := by decide +kernel
theorem dX12_newPacket_76 : decode cX12_newPacket 76 = .ok (.iadd, 1) := by decide +kernel
theorem dX12_newPacket_77 : decode cX12_newPacket 77 = .ok (.dup2, 1) := by decide +kernel
theorem dX12_newPacket_78 : decode cX12_newPacket 78 = .ok (.iaload, 1) := by decide +kernel
theorem dX12_newPacket_79 : decode cX12_newPacket 79 = .ok (.iconst 1, 1) := by decide +kernel
theorem dX12_newPacket_80 : decode cX12_newPacket 80 = .ok (.iadd, 1) := by decide +kernel
theorem dX12_newPacket_81 : decode cX12_newPacket 81 = .ok (.iastore, 1) := by decide +kernel
theorem dX12_newPacket_82 : decode cX12_newPacket 82 = .ok (.aload_n 3, 1) := by decide +kernel
theorem dX12_newPacket_83 : decode cX12_newPacket 83 = .ok (.areturn, 1) := by decide +kernel
theorem dX12_send_0 : decode cX12_send 0 = .ok (.aload_n 0, 1) := by decide +kernel
theorem dX12_send_1 : decode cX12_send 1 = .ok (.getfield 29, 3) := by decide +kernel
theorem dX12_send_4 : decode cX12_send 4 = .ok (.iconst 1, 1) := by decide +kernel
theorem dX12_send_5 : decode cX12_send 5 = .ok (.dup2, 1) := by decide +kernel
theorem dX12_send_6 : decode cX12_send 6 = .ok (.iaload, 1) := by decide +kernel
theorem dX12_send_7 : decode cX12_send 7 = .ok (.iconst 1, 1) := by decide +kernel
theorem dX12_send_8 : decode cX12_send 8 = .ok (.iadd, 1) := by decide +kernel
theorem dX12_send_9 : decode cX12_send 9 = .ok (.iastore, 1) := by decide +kernel
theorem dX12_send_10 : decode cX12_send 10 = .ok (.aload_n 0, 1) := by decide +kernel
theorem dX12_send_11 : decode cX12_send 11 = .ok (.getfield 29, 3) := by decide +kernel
theorem dX12_send_14 : decode cX12_send 14 = .ok (.iconst 2, 1) := by decide +kernel
theorem dX12_send_15 : decode cX12_send 15 = .ok (.dup2, 1) := by decide +kernel
theorem dX12_send_16 : decode cX12_send 16 = .ok (.iaload, 1) := by decide +kernel
theorem dX12_send_17 : decode cX12_send 17 = .ok (.aload_n 1, 1) := by decide +kernel
theorem dX12_send_18 : decode cX12_send 18 = .ok (.getfield 59, 3) := by decide +kernel
theorem dX12_send_21 : decode cX12_send 21 = .ok (.iadd, 1) := by decide +kernel
theorem dX12_send_22 : decode cX12_send 22 = .ok (.iastore, 1) := by decide +kernel
theorem dX12_send_23 : decode cX12_send 23 = .ok (.aload_n 0, 1) := by decide +kernel
theorem dX12_send_24 : decode cX12_send 24 = .ok (.aload_n 1, 1) := by decide +kernel
theorem dX12_send_25 : decode cX12_send 25 = .ok (.putfield 44, 3) := by decide +kernel
theorem dX12_send_28 : decode cX12_send 28 = .ok (.aload_n 0, 1) := by decide +kernel
theorem dX12_send_29 : decode cX12_send 29 = .ok (.aload_n 0, 1) := by decide +kernel
theorem dX12_send_30 : decode cX12_send 30 = .ok (.getfield 53, 3) := by decide +kernel
theorem dX12_send_33 : decode cX12_send 33 = .ok (.putfield 49, 3) := by decide +kernel
theorem dX12_send_36 : decode cX12_send 36 = .ok (.aload_n 0, 1) := by decide +kernel
theorem dX12_send_37 : decode cX12_send 37 = .ok (.getfield 41, 3) := by decide +kernel
theorem dX12_send_40 : decode cX12_send 40 = .ok (.sipush 1024, 3) := by decide +kernel
theorem dX12_send_43 : decode cX12_send 43 = .ok (.if_icmp .ge 13, 3) := by decide +kernel
theorem dX12_send_46 : decode cX12_send 46 = .ok (.aload_n 0, 1) := by decide +kernel
theorem dX12_send_47 : decode cX12_send 47 = .ok (.dup, 1) := by decide +kernel
theorem dX12_send_48 : decode cX12_send 48 = .ok (.getfield 41, 3) := by decide +kernel
theorem dX12_send_51 : decode cX12_send 51 = .ok (.iconst 1, 1) := by decide +kernel
theorem dX12_send_52 : decode cX12_send 52 = .ok (.iadd, 1) := by decide +kernel
theorem dX12_send_53 : decode cX12_send 53 = .ok (.putfield 41, 3) := by decide +kernel
theorem dX12_send_56 : decode cX12_send 56 = .ok (.return_, 1) := by decide +kernel
theorem dX12_sendAddress_0 : decode cX12_sendAddress 0 = .ok (.aload_n 0, 1) := by decide +kernel
theorem dX12_sendAddress_1 : decode cX12_sendAddress 1 = .ok (.aload_n 1, 1) := by decide +kernel
theorem dX12_sendAddress_2 : decode cX12_sendAddress 2 = .ok (.iload_n 2, 1) := by decide +kernel
theorem dX12_sendAddress_3 : decode cX12_sendAddress 3 = .ok (.invokevirtual 424, 3) := by decide +kernel
theorem dX12_sendAddress_6 : decode cX12_sendAddress 6 = .ok (.astore_n 3, 1) := by decide +kernel
theorem dX12_sendAddress_7 : decode cX12_sendAddress 7 = .ok (.aload_n 3, 1) := by decide +kernel
theorem dX12_sendAddress_8 : decode cX12_sendAddress 8 = .ok (.aload_n 1, 1) := by decide +kernel
theorem dX12_sendAddress_9 : decode cX12_sendAddress 9 = .ok (.getfield 131, 3) := by decide +kernel
theorem dX12_sendAddress_12 : decode cX12_sendAddress 12 = .ok (.getfield 334, 3) := by decide +kernel
theorem dX12_sendAddress_15 : decode cX12_sendAddress 15 = .ok (.iconst 2, 1) := by decide +kernel
theorem dX12_sendAddress_16 : decode cX12_sendAddress 16 = .ok (.invokevirtual 62, 3) := by decide +kernel
theorem dX12_sendAddress_19 : decode cX12_sendAddress 19 = .ok (.aload_n 3, 1) := by decide +kernel
theorem dX12_sendAddress_20 : decode cX12_sendAddress 20 = .ok (.aload_n 1, 1) := by decide +kernel
theorem dX12_sendAddress_21 : decode cX12_sendAddress 21 = .ok (.getfield 87, 3) := by decide +kernel
theorem dX12_sendAddress_24 : decode cX12_sendAddress 24 = .ok (.iconst 2, 1) := by decide +kernel
theorem dX12_sendAddress_25 : decode cX12_sendAddress 25 = .ok (.invokevirtual 62, 3) := by decide +kernel
theorem dX12_sendAddress_28 : decode cX12_sendAddress 28 = .ok (.aload_n 0, 1) := by decide +kernel
theorem dX12_sendAddress_29 : decode cX12_sendAddress 29 = .ok (.aload_n 3, 1) := by decide +kernel
theorem dX12_sendAddress_30 : decode cX12_sendAddress 30 = .ok (.invokevirtual 428, 3) := by decide +kernel
theorem dX12_sendAddress_33 : decode cX12_sendAddress 33 = .ok (.return_, 1) := by decide +kernel
theorem dX12_sendNameProbe_0 : decode cX12_sendNameProbe 0 = .ok (.aload_n 0, 1) := by decide +kernel
theorem dX12_sendNameProbe_1 : decode cX12_sendNameProbe 1 = .ok (.aload_n 1, 1) := by decide +kernel
theorem dX12_sendNameProbe_2 : decode cX12_sendNameProbe 2 = .ok (.iconst 3, 1) := by decide +kernel
theorem dX12_sendNameProbe_3 : decode cX12_sendNameProbe 3 = .ok (.invokevirtual 424, 3) := by decide +kernel
theorem dX12_sendNameProbe_6 : decode cX12_sendNameProbe 6 = .ok (.astore_n 2, 1) := by decide +kernel
theorem dX12_sendNameProbe_7 : decode cX12_sendNameProbe 7 = .ok (.aload_n 2, 1) := by decide +kernel
theorem dX12_sendNameProbe_8 : decode cX12_sendNameProbe 8 = .ok (.aload_n 1, 1) := by decide +kernel
theorem dX12_sendNameProbe_9 : decode cX12_sendNameProbe 9 = .ok (.getfield 98, 3) := by decide +kernel
theorem dX12_sendNameProbe_12 : decode cX12_sendNameProbe 12 = .ok (.getfield 123, 3) := by decide +kernel
theorem dX12_sendNameProbe_15 : decode cX12_sendNameProbe 15 = .ok (.invokevirtual 432, 3) := by decide +kernel
theorem dX12_sendNameProbe_18 : decode cX12_sendNameProbe 18 = .ok (.aload_n 2, 1) := by decide +kernel
theorem dX12_sendNameProbe_19 : decode cX12_sendNameProbe 19 = .ok (.aload_n 1, 1) := by decide +kernel
theorem dX12_sendNameProbe_20 : decode cX12_sendNameProbe 20 = .ok (.getfield 131, 3) := by decide +kernel
theorem dX12_sendNameProbe_23 : decode cX12_sendNameProbe 23 = .ok (.getfield 334, 3) := by decide +kernel
theorem dX12_sendNameProbe_26 : decode cX12_sendNameProbe 26 = .ok (.iconst 2, 1) := by decide +kernel
theorem dX12_sendNameProbe_27 : decode cX12_sendNameProbe 27 = .ok (.invokevirtual 62, 3) := by decide +kernel
theorem dX12_sendNameProbe_30 : decode cX12_sendNameProbe 30 = .ok (.aload_n 2, 1) := by decide +kernel
theorem dX12_sendNameProbe_31 : decode cX12_sendNameProbe 31 = .ok (.aload_n 1, 1) := by decide +kernel
theorem dX12_sendNameProbe_32 : decode cX12_sendNameProbe 32 = .ok (.getfield 87, 3) := by decide +kernel
theorem dX12_sendNameProbe_35 : decode cX12_sendNameProbe 35 = .ok (.iconst 2, 1) := by decide +kernel
theorem dX12_sendNameProbe_36 : decode cX12_sendNameProbe 36 = .ok (.invokevirtual 62, 3) := by decide +kernel
theorem dX12_sendNameProbe_39 : decode cX12_sendNameProbe 39 = .ok (.aload_n 0, 1) := by decide +kernel
theorem dX12_sendNameProbe_40 : decode cX12_sendNameProbe 40 = .ok (.aload_n 2, 1) := by decide +kernel
theorem dX12_sendNameProbe_41 : decode cX12_sendNameProbe 41 = .ok (.invokevirtual 428, 3) := by decide +kernel
theorem dX12_sendNameProbe_44 : decode cX12_sendNameProbe 44 = .ok (.return_, 1) := by decide +kernel
theorem dX12_sendAsk_0 : decode cX12_sendAsk 0 = .ok (.aload_n 1, 1) := by decide +kernel
theorem dX12_sendAsk_1 : decode cX12_sendAsk 1 = .ok (.getfield 261, 3) := by decide +kernel
theorem dX12_sendAsk_4 : decode cX12_sendAsk 4 = .ok (.astore 4, 2) := by decide +kernel
theorem dX12_sendAsk_6 : decode cX12_sendAsk 6 = .ok (.iload_n 3, 1) := by decide +kernel
theorem dX12_sendAsk_7 : decode cX12_sendAsk 7 = .ok (.ifCond .eq 16, 3) := by decide +kernel
theorem dX12_sendAsk_10 : decode cX12_sendAsk 10 = .ok (.aload 4, 2) := by decide +kernel
theorem dX12_sendAsk_12 : decode cX12_sendAsk 12 = .ok (.aload_n 2, 1) := by decide +kernel
theorem dX12_sendAsk_13 : decode cX12_sendAsk 13 = .ok (.aload_n 0, 1) := by decide +kernel
theorem dX12_sendAsk_14 : decode cX12_sendAsk 14 = .ok (.getfield 53, 3) := by decide +kernel
theorem dX12_sendAsk_17 : decode cX12_sendAsk 17 = .ok (.invokevirtual 435, 3) := by decide +kernel
theorem dX12_sendAsk_20 : decode cX12_sendAsk 20 = .ok (.goto 4, 3) := by decide +kernel
theorem dX12_sendAsk_23 : decode cX12_sendAsk 23 = .ok (.iconst 0, 1) := by decide +kernel
theorem dX12_sendAsk_24 : decode cX12_sendAsk 24 = .ok (.istore 5, 2) := by decide +kernel
theorem dX12_sendAsk_26 : decode cX12_sendAsk 26 = .ok (.aload_n 0, 1) := by decide +kernel
theorem dX12_sendAsk_27 : decode cX12_sendAsk 27 = .ok (.aload_n 1, 1) := by decide +kernel
theorem dX12_sendAsk_28 : decode cX12_sendAsk 28 = .ok (.iconst 4, 1) := by decide +kernel
theorem dX12_sendAsk_29 : decode cX12_sendAsk 29 = .ok (.invokevirtual 424, 3) := by decide +kernel
theorem dX12_sendAsk_32 : decode cX12_sendAsk 32 = .ok (.astore 6, 2) := by decide +kernel
theorem dX12_sendAsk_34 : decode cX12_sendAsk 34 = .ok (.aload 6, 2) := by decide +kernel
theorem dX12_sendAsk_36 : decode cX12_sendAsk 36 = .ok (.aload_n 2, 1) := by decide +kernel
theorem dX12_sendAsk_37 : decode cX12_sendAsk 37 = .ok (.getfield 439, 3) := by decide +kernel
theorem dX12_sendAsk_40 : decode cX12_sendAsk 40 = .ok (.invokevirtual 421, 3) := by decide +kernel
theorem dX12_sendAsk_43 : decode cX12_sendAsk 43 = .ok (.aload 6, 2) := by decide +kernel
theorem dX12_sendAsk_45 : decode cX12_sendAsk 45 = .ok (.aload_n 2, 1) := by decide +kernel
theorem dX12_sendAsk_46 : decode cX12_sendAsk 46 = .ok (.getfield 167, 3) := by decide +kernel
theorem dX12_sendAsk_49 : decode cX12_sendAsk 49 = .ok (.invokevirtual 432, 3) := by decide +kernel
theorem dX12_sendAsk_52 : decode cX12_sendAsk 52 = .ok (.aload 6, 2) := by decide +kernel
theorem dX12_sendAsk_54 : decode cX12_sendAsk 54 = .ok (.iload 5, 2) := by decide +kernel
theorem dX12_sendAsk_56 : decode cX12_sendAsk 56 = .ok (.invokevirtual 421, 3) := by decide +kernel
theorem dX12_sendAsk_59 : decode cX12_sendAsk 59 = .ok (.iconst 0, 1) := by decide +kernel
theorem dX12_sendAsk_60 : decode cX12_sendAsk 60 = .ok (.istore 7, 2) := by decide +kernel
theorem dX12_sendAsk_62 : decode cX12_sendAsk 62 = .ok (.iload 7, 2) := by decide +kernel
theorem dX12_sendAsk_64 : decode cX12_sendAsk 64 = .ok (.aload 4, 2) := by decide +kernel
theorem dX12_sendAsk_66 : decode cX12_sendAsk 66 = .ok (.getfield 265, 3) := by decide +kernel
theorem dX12_sendAsk_69 : decode cX12_sendAsk 69 = .ok (.if_icmp .ge 73, 3) := by decide +kernel
theorem dX12_sendAsk_72 : decode cX12_sendAsk 72 = .ok (.iload 5, 2) := by decide +kernel
theorem dX12_sendAsk_74 : decode cX12_sendAsk 74 = .ok (.ifCond .le 68, 3) := by decide +kernel
theorem dX12_sendAsk_77 : decode cX12_sendAsk 77 = .ok (.aload 4, 2) := by decide +kernel
theorem dX12_sendAsk_79 : decode cX12_sendAsk 79 = .ok (.getfield 268, 3) := by decide +kernel
theorem dX12_sendAsk_82 : decode cX12_sendAsk 82 = .ok (.iload 7, 2) := by decide +kernel
theorem dX12_sendAsk_84 : decode cX12_sendAsk 84 = .ok (.aaload, 1) := by decide +kernel
theorem dX12_sendAsk_85 : decode cX12_sendAsk 85 = .ok (.astore 8, 2) := by decide +kernel
theorem dX12_sendAsk_87 : decode cX12_sendAsk 87 = .ok (.aload 8, 2) := by decide +kernel
theorem dX12_sendAsk_89 : decode cX12_sendAsk 89 = .ok (.aload_n 2, 1) := by decide +kernel
theorem dX12_sendAsk_90 : decode cX12_sendAsk 90 = .ok (.aload_n 0, 1) := by decide +kernel
theorem dX12_sendAsk_91 : decode cX12_sendAsk 91 = .ok (.getfield 53, 3) := by decide +kernel
theorem dX12_sendAsk_94 : decode cX12_sendAsk 94 = .ok (.invokevirtual 440, 3) := by decide +kernel
theorem dX12_sendAsk_97 : decode cX12_sendAsk 97 = .ok (.ifCond .ne 6, 3) := by decide +kernel
theorem dX12_sendAsk_100 : decode cX12_sendAsk 100 = .ok (.goto 36, 3) := by decide +kernel
theorem dX12_sendAsk_103 : decode cX12_sendAsk 103 = .ok (.aload 8, 2) := by decide +kernel
theorem dX12_sendAsk_105 : decode cX12_sendAsk 105 = .ok (.getfield 302, 3) := by decide +kernel
theorem dX12_sendAsk_108 : decode cX12_sendAsk 108 = .ok (.iconst 2, 1) := by decide +kernel
theorem dX12_sendAsk_109 : decode cX12_sendAsk 109 = .ok (.if_icmp .ne 13, 3) := by decide +kernel
theorem dX12_sendAsk_112 : decode cX12_sendAsk 112 = .ok (.aload 6, 2) := by decide +kernel
theorem dX12_sendAsk_114 : decode cX12_sendAsk 114 = .ok (.aload 8, 2) := by decide +kernel
theorem dX12_sendAsk_116 : decode cX12_sendAsk 116 = .ok (.getfield 444, 3) := by decide +kernel
theorem dX12_sendAsk_119 : decode cX12_sendAsk 119 = .ok (.invokevirtual 432, 3) := by decide +kernel
theorem dX12_sendAsk_122 : decode cX12_sendAsk 122 = .ok (.aload 6, 2) := by decide +kernel
theorem dX12_sendAsk_124 : decode cX12_sendAsk 124 = .ok (.aload 8, 2) := by decide +kernel
theorem dX12_sendAsk_126 : decode cX12_sendAsk 126 = .ok (.getfield 445, 3) := by decide +kernel
theorem dX12_sendAsk_129 : decode cX12_sendAsk 129 = .ok (.iconst 2, 1) := by decide +kernel
theorem dX12_sendAsk_130 : decode cX12_sendAsk 130 = .ok (.invokevirtual 62, 3) := by decide +kernel
theorem dX12_sendAsk_133 : decode cX12_sendAsk 133 = .ok (.iinc 5 (-1), 3) := by decide +kernel
theorem dX12_sendAsk_136 : decode cX12_sendAsk 136 = .ok (.iinc 7 1, 3) := by decide +kernel
theorem dX12_sendAsk_139 : decode cX12_sendAsk 139 = .ok (.goto (-77), 3) := by decide +kernel
theorem dX12_sendAsk_142 : decode cX12_sendAsk 142 = .ok (.aload_n 0, 1) := by decide +kernel
theorem dX12_sendAsk_143 : decode cX12_sendAsk 143 = .ok (.aload 6, 2) := by decide +kernel
theorem dX12_sendAsk_145 : decode cX12_sendAsk 145 = .ok (.invokevirtual 428, 3) := by decide +kernel
theorem dX12_sendAsk_148 : decode cX12_sendAsk 148 = .ok (.return_, 1) := by decide +kernel
theorem dX12_tellAddress_0 : decode cX12_tellAddress 0 = .ok (.aload_n 0, 1) := by decide +kernel
theorem dX12_tellAddress_1 : decode cX12_tellAddress 1 = .ok (.aload_n 1, 1) := by decide +kernel
theorem dX12_tellAddress_2 : decode cX12_tellAddress 2 = .ok (.iconst 5, 1) := by decide +kernel
theorem dX12_tellAddress_3 : decode cX12_tellAddress 3 = .ok (.invokevirtual 424, 3) := by decide +kernel
theorem dX12_tellAddress_6 : decode cX12_tellAddress 6 = .ok (.astore_n 2, 1) := by decide +kernel
theorem dX12_tellAddress_7 : decode cX12_tellAddress 7 = .ok (.aload_n 2, 1) := by decide +kernel
theorem dX12_tellAddress_8 : decode cX12_tellAddress 8 = .ok (.iconst 1, 1) := by decide +kernel
theorem dX12_tellAddress_9 : decode cX12_tellAddress 9 = .ok (.invokevirtual 421, 3) := by decide +kernel
theorem dX12_tellAddress_12 : decode cX12_tellAddress 12 = .ok (.aload_n 2, 1) := by decide +kernel
theorem dX12_tellAddress_13 : decode cX12_tellAddress 13 = .ok (.aload_n 1, 1) := by decide +kernel
theorem dX12_tellAddress_14 : decode cX12_tellAddress 14 = .ok (.ldc_w 291, 3) := by decide +kernel
theorem dX12_tellAddress_17 : decode cX12_tellAddress 17 = .ok (.invokevirtual 446, 3) := by decide +kernel
theorem dX12_tellAddress_20 : decode cX12_tellAddress 20 = .ok (.aload_n 0, 1) := by decide +kernel
theorem dX12_tellAddress_21 : decode cX12_tellAddress 21 = .ok (.aload_n 2, 1) := by decide +kernel
theorem dX12_tellAddress_22 : decode cX12_tellAddress 22 = .ok (.invokevirtual 428, 3) := by decide +kernel
theorem dX12_tellAddress_25 : decode cX12_tellAddress 25 = .ok (.return_, 1) := by decide +kernel
theorem dX12_tellAll_0 : decode cX12_tellAll 0 = .ok (.aload_n 0, 1) := by decide +kernel
theorem dX12_tellAll_1 : decode cX12_tellAll 1 = .ok (.aload_n 1, 1) := by decide +kernel
theorem dX12_tellAll_2 : decode cX12_tellAll 2 = .ok (.iconst 5, 1) := by decide +kernel
theorem dX12_tellAll_3 : decode cX12_tellAll 3 = .ok (.invokevirtual 424, 3) := by decide +kernel
theorem dX12_tellAll_6 : decode cX12_tellAll 6 = .ok (.astore_n 3, 1) := by decide +kernel
theorem dX12_tellAll_7 : decode cX12_tellAll 7 = .ok (.aload_n 3, 1) := by decide +kernel
theorem dX12_tellAll_8 : decode cX12_tellAll 8 = .ok (.iconst 1, 1) := by decide +kernel
theorem dX12_tellAll_9 : decode cX12_tellAll 9 = .ok (.aload_n 1, 1) := by decide +kernel
theorem dX12_tellAll_10 : decode cX12_tellAll 10 = .ok (.getfield 143, 3) := by decide +kernel
theorem dX12_tellAll_13 : decode cX12_tellAll 13 = .ok (.iadd, 1) := by decide +kernel
theorem dX12_tellAll_14 : decode cX12_tellAll 14 = .ok (.invokevirtual 421, 3) := by decide +kernel
theorem dX12_tellAll_17 : decode cX12_tellAll 17 = .ok (.aload_n 3, 1) := by decide +kernel
theorem dX12_tellAll_18 : decode cX12_tellAll 18 = .ok (.aload_n 1, 1) := by decide +kernel
theorem dX12_tellAll_19 : decode cX12_tellAll 19 = .ok (.iload_n 2, 1) := by decide +kernel
theorem dX12_tellAll_20 : decode cX12_tellAll 20 = .ok (.invokevirtual 446, 3) := by decide +kernel
theorem dX12_tellAll_23 : decode cX12_tellAll 23 = .ok (.iconst 0, 1) := by decide +kernel
theorem dX12_tellAll_24 : decode cX12_tellAll 24 = .ok (.istore 4, 2) := by decide +kernel
theorem dX12_tellAll_26 : decode cX12_tellAll 26 = .ok (.iload 4, 2) := by decide +kernel
theorem dX12_tellAll_28 : decode cX12_tellAll 28 = .ok (.aload_n 1, 1) := by decide +kernel
theorem dX12_tellAll_29 : decode cX12_tellAll 29 = .ok (.getfield 143, 3) := by decide +kernel
theorem dX12_tellAll_32 : decode cX12_tellAll 32 = .ok (.if_icmp .ge 28, 3) := by decide +kernel
theorem dX12_tellAll_35 : decode cX12_tellAll 35 = .ok (.aload_n 3, 1) := by decide +kernel
theorem dX12_tellAll_36 : decode cX12_tellAll 36 = .ok (.aload_n 1, 1) := by decide +kernel
theorem dX12_tellAll_37 : decode cX12_tellAll 37 = .ok (.getfield 146, 3) := by decide +kernel
theorem dX12_tellAll_40 : decode cX12_tellAll 40 = .ok (.iload 4, 2) := by decide +kernel
theorem dX12_tellAll_42 : decode cX12_tellAll 42 = .ok (.aaload, 1) := by decide +kernel
theorem dX12_tellAll_43 : decode cX12_tellAll 43 = .ok (.aload_n 1, 1) := by decide +kernel
theorem dX12_tellAll_44 : decode cX12_tellAll 44 = .ok (.getfield 98, 3) := by decide +kernel
theorem dX12_tellAll_47 : decode cX12_tellAll 47 = .ok (.getfield 123, 3) := by decide +kernel
theorem dX12_tellAll_50 : decode cX12_tellAll 50 = .ok (.iload_n 2, 1) := by decide +kernel
theorem dX12_tellAll_51 : decode cX12_tellAll 51 = .ok (.invokevirtual 449, 3) := by decide +kernel
theorem dX12_tellAll_54 : decode cX12_tellAll 54 = .ok (.iinc 4 1, 3) := by decide +kernel
theorem dX12_tellAll_57 : decode cX12_tellAll 57 = .ok (.goto (-31), 3) := by decide +kernel
theorem dX12_tellAll_60 : decode cX12_tellAll 60 = .ok (.aload_n 0, 1) := by decide +kernel
theorem dX12_tellAll_61 : decode cX12_tellAll 61 = .ok (.aload_n 3, 1) := by decide +kernel
theorem dX12_tellAll_62 : decode cX12_tellAll 62 = .ok (.invokevirtual 428, 3) := by decide +kernel
theorem dX12_tellAll_65 : decode cX12_tellAll 65 = .ok (.return_, 1) := by decide +kernel
theorem dX12_tellType_0 : decode cX12_tellType 0 = .ok (.aload_n 1, 1) := by decide +kernel
theorem dX12_tellType_1 : decode cX12_tellType 1 = .ok (.getfield 98, 3) := by decide +kernel
theorem dX12_tellType_4 : decode cX12_tellType 4 = .ok (.getfield 102, 3) := by decide +kernel
theorem dX12_tellType_7 : decode cX12_tellType 7 = .ok (.iconst 3, 1) := by decide +kernel
theorem dX12_tellType_8 : decode cX12_tellType 8 = .ok (.if_icmp .ne 11, 3) := by decide +kernel
theorem dX12_tellType_11 : decode cX12_tellType 11 = .ok (.aload_n 1, 1) := by decide +kernel
theorem dX12_tellType_12 : decode cX12_tellType 12 = .ok (.aload_n 2, 1) := by decide +kernel
theorem dX12_tellType_13 : decode cX12_tellType 13 = .ok (.invokevirtual 453, 3) := by decide +kernel
theorem dX12_tellType_16 : decode cX12_tellType 16 = .ok (.goto 4, 3) := by decide +kernel
theorem dX12_tellType_19 : decode cX12_tellType 19 = .ok (.iconst 0, 1) := by decide +kernel
theorem dX12_tellType_20 : decode cX12_tellType 20 = .ok (.istore_n 3, 1) := by decide +kernel
theorem dX12_tellType_21 : decode cX12_tellType 21 = .ok (.iload_n 3, 1) := by decide +kernel
theorem dX12_tellType_22 : decode cX12_tellType 22 = .ok (.ifCond .ne 4, 3) := by decide +kernel
theorem dX12_tellType_25 : decode cX12_tellType 25 = .ok (.return_, 1) := by decide +kernel
theorem dX12_tellType_26 : decode cX12_tellType 26 = .ok (.aload_n 0, 1) := by decide +kernel
theorem dX12_tellType_27 : decode cX12_tellType 27 = .ok (.aload_n 1, 1) := by decide +kernel
theorem dX12_tellType_28 : decode cX12_tellType 28 = .ok (.iconst 5, 1) := by decide +kernel
theorem dX12_tellType_29 : decode cX12_tellType 29 = .ok (.invokevirtual 424, 3) := by decide +kernel
theorem dX12_tellType_32 : decode cX12_tellType 32 = .ok (.astore 4, 2) := by decide +kernel
theorem dX12_tellType_34 : decode cX12_tellType 34 = .ok (.aload 4, 2) := by decide +kernel
theorem dX12_tellType_36 : decode cX12_tellType 36 = .ok (.iload_n 3, 1) := by decide +kernel
theorem dX12_tellType_37 : decode cX12_tellType 37 = .ok (.invokevirtual 421, 3) := by decide +kernel
theorem dX12_tellType_40 : decode cX12_tellType 40 = .ok (.iconst 0, 1) := by decide +kernel
theorem dX12_tellType_41 : decode cX12_tellType 41 = .ok (.istore 5, 2) := by decide +kernel
theorem dX12_tellType_43 : decode cX12_tellType 43 = .ok (.iload 5, 2) := by decide +kernel
theorem dX12_tellType_45 : decode cX12_tellType 45 = .ok (.aload_n 1, 1) := by decide +kernel
theorem dX12_tellType_46 : decode cX12_tellType 46 = .ok (.getfield 143, 3) := by decide +kernel
theorem dX12_tellType_49 : decode cX12_tellType 49 = .ok (.if_icmp .ge 48, 3) := by decide +kernel
theorem dX12_tellType_52 : decode cX12_tellType 52 = .ok (.aload_n 1, 1) := by decide +kernel
theorem dX12_tellType_53 : decode cX12_tellType 53 = .ok (.getfield 146, 3) := by decide +kernel
theorem dX12_tellType_56 : decode cX12_tellType 56 = .ok (.iload 5, 2) := by decide +kernel
theorem dX12_tellType_58 : decode cX12_tellType 58 = .ok (.aaload, 1) := by decide +kernel
theorem dX12_tellType_59 : decode cX12_tellType 59 = .ok (.getfield 150, 3) := by decide +kernel
theorem dX12_tellType_62 : decode cX12_tellType 62 = .ok (.aload_n 2, 1) := by decide +kernel
theorem dX12_tellType_63 : decode cX12_tellType 63 = .ok (.invokevirtual 409, 3) := by decide +kernel
theorem dX12_tellType_66 : decode cX12_tellType 66 = .ok (.ifCond .eq 25, 3) := by decide +kernel
theorem dX12_tellType_69 : decode cX12_tellType 69 = .ok (.aload 4, 2) := by decide +kernel
theorem dX12_tellType_71 : decode cX12_tellType 71 = .ok (.aload_n 1, 1) := by decide +kernel
theorem dX12_tellType_72 : decode cX12_tellType 72 = .ok (.getfield 146, 3) := by decide +kernel
theorem dX12_tellType_75 : decode cX12_tellType 75 = .ok (.iload 5, 2) := by decide +kernel
theorem dX12_tellType_77 : decode cX12_tellType 77 = .ok (.aaload, 1) := by decide +kernel
theorem dX12_tellType_78 : decode cX12_tellType 78 = .ok (.aload_n 1, 1) := by decide +kernel
theorem dX12_tellType_79 : decode cX12_tellType 79 = .ok (.getfield 98, 3) := by decide +kernel
theorem dX12_tellType_82 : decode cX12_tellType 82 = .ok (.getfield 123, 3) := by decide +kernel
theorem dX12_tellType_85 : decode cX12_tellType 85 = .ok (.ldc_w 291, 3) := by decide +kernel
theorem dX12_tellType_88 : decode cX12_tellType 88 = .ok (.invokevirtual 449, 3) := by decide +kernel
theorem dX12_tellType_91 : decode cX12_tellType 91 = .ok (.iinc 5 1, 3) := by decide +kernel
theorem dX12_tellType_94 : decode cX12_tellType 94 = .ok (.goto (-51), 3) := by decide +kernel
theorem dX12_tellType_97 : decode cX12_tellType 97 = .ok (.aload_n 0, 1) := by decide +kernel
theorem dX12_tellType_98 : decode cX12_tellType 98 = .ok (.aload 4, 2) := by decide +kernel
theorem dX12_tellType_100 : decode cX12_tellType 100 = .ok (.invokevirtual 428, 3) := by decide +kernel
theorem dX12_tellType_103 : decode cX12_tellType 103 = .ok (.return_, 1) := by decide +kernel
theorem dX12_look_0 : decode cX12_look 0 = .ok (.iload_n 1, 1) := by decide +kernel
theorem dX12_look_1 : decode cX12_look 1 = .ok (.ifCond .lt 9, 3) := by decide +kernel
theorem dX12_look_4 : decode cX12_look 4 = .ok (.iload_n 1, 1) := by decide +kernel
theorem dX12_look_5 : decode cX12_look 5 = .ok (.bipush 8, 2) := by decide +kernel
theorem dX12_look_7 : decode cX12_look 7 = .ok (.if_icmp .lt 14, 3) := by decide +kernel
theorem dX12_look_10 : decode cX12_look 10 = .ok (.new 457, 3) := by decide +kernel
theorem dX12_look_13 : decode cX12_look 13 = .ok (.dup, 1) := by decide +kernel
theorem dX12_look_14 : decode cX12_look 14 = .ok (.ldc_w 459, 3) := by decide +kernel
theorem dX12_look_17 : decode cX12_look 17 = .ok (.invokespecial 461, 3) := by decide +kernel
theorem dX12_look_20 : decode cX12_look 20 = .ok (.athrow, 1) := by decide +kernel
theorem dX12_look_21 : decode cX12_look 21 = .ok (.iload_n 2, 1) := by decide +kernel
theorem dX12_look_22 : decode cX12_look 22 = .ok (.ifCond .lt 9, 3) := by decide +kernel
theorem dX12_look_25 : decode cX12_look 25 = .ok (.iload_n 2, 1) := by decide +kernel
theorem dX12_look_26 : decode cX12_look 26 = .ok (.bipush 11, 2) := by decide +kernel
theorem dX12_look_28 : decode cX12_look 28 = .ok (.if_icmp .le 14, 3) := by decide +kernel
theorem dX12_look_31 : decode cX12_look 31 = .ok (.new 464, 3) := by decide +kernel
theorem dX12_look_34 : decode cX12_look 34 = .ok (.dup, 1) := by decide +kernel
theorem dX12_look_35 : decode cX12_look 35 = .ok (.ldc_w 466, 3) := by decide +kernel
theorem dX12_look_38 : decode cX12_look 38 = .ok (.invokespecial 468, 3) := by decide +kernel
theorem dX12_look_41 : decode cX12_look 41 = .ok (.athrow, 1) := by decide +kernel
theorem dX12_look_42 : decode cX12_look 42 = .ok (.aload_n 0, 1) := by decide +kernel
theorem dX12_look_43 : decode cX12_look 43 = .ok (.getfield 11, 3) := by decide +kernel
theorem dX12_look_46 : decode cX12_look 46 = .ok (.iload_n 1, 1) := by decide +kernel
theorem dX12_look_47 : decode cX12_look 47 = .ok (.aaload, 1) := by decide +kernel
theorem dX12_look_48 : decode cX12_look 48 = .ok (.astore_n 3, 1) := by decide +kernel
theorem dX12_look_49 : decode cX12_look 49 = .ok (.iload_n 2, 1) := by decide +kernel
theorem dX12_look_50 : decode cX12_look 50 = .ok (.bipush 9, 2) := by decide +kernel
theorem dX12_look_52 : decode cX12_look 52 = .ok (.if_icmp .ne 8, 3) := by decide +kernel
theorem dX12_look_55 : decode cX12_look 55 = .ok (.aload_n 3, 1) := by decide +kernel
theorem dX12_look_56 : decode cX12_look 56 = .ok (.getfield 199, 3) := by decide +kernel
theorem dX12_look_59 : decode cX12_look 59 = .ok (.ireturn, 1) := by decide +kernel
theorem dX12_look_60 : decode cX12_look 60 = .ok (.aload_n 3, 1) := by decide +kernel
theorem dX12_look_61 : decode cX12_look 61 = .ok (.getfield 83, 3) := by decide +kernel
theorem dX12_look_64 : decode cX12_look 64 = .ok (.ifCond .ne 14, 3) := by decide +kernel
theorem dX12_look_67 : decode cX12_look 67 = .ok (.iload_n 2, 1) := by decide +kernel
theorem dX12_look_68 : decode cX12_look 68 = .ok (.iconst 2, 1) := by decide +kernel
theorem dX12_look_69 : decode cX12_look 69 = .ok (.if_icmp .ne 7, 3) := by decide +kernel
theorem dX12_look_72 : decode cX12_look 72 = .ok (.iconst (-1), 1) := by decide +kernel
theorem dX12_look_73 : decode cX12_look 73 = .ok (.goto 4, 3) := by decide +kernel
theorem dX12_look_76 : decode cX12_look 76 = .ok (.iconst 0, 1) := by decide +kernel
theorem dX12_look_77 : decode cX12_look 77 = .ok (.ireturn, 1) := by decide +kernel
theorem dX12_look_78 : decode cX12_look 78 = .ok (.aload_n 3, 1) := by decide +kernel
theorem dX12_look_79 : decode cX12_look 79 = .ok (.iload_n 2, 1) := by decide +kernel
theorem dX12_look_80 : decode cX12_look 80 = .ok (.invokevirtual 469, 3) := by decide +kernel
theorem dX12_look_83 : decode cX12_look 83 = .ok (.ireturn, 1) := by decide +kernel
theorem dX12_sign_0 : decode cX12_sign 0 = .ok (.aload_n 0, 1) := by decide +kernel
theorem dX12_sign_1 : decode cX12_sign 1 = .ok (.iload_n 1, 1) := by decide +kernel
theorem dX12_sign_2 : decode cX12_sign 2 = .ok (.invokevirtual 94, 3) := by decide +kernel
theorem dX12_sign_5 : decode cX12_sign 5 = .ok (.astore_n 3, 1) := by decide +kernel
theorem dX12_sign_6 : decode cX12_sign 6 = .ok (.aload_n 3, 1) := by decide +kernel
theorem dX12_sign_7 : decode cX12_sign 7 = .ok (.ifnull 14, 3) := by decide +kernel
theorem dX12_sign_10 : decode cX12_sign 10 = .ok (.aload_n 3, 1) := by decide +kernel
theorem dX12_sign_11 : decode cX12_sign 11 = .ok (.getfield 98, 3) := by decide +kernel
theorem dX12_sign_14 : decode cX12_sign 14 = .ok (.getfield 102, 3) := by decide +kernel
theorem dX12_sign_17 : decode cX12_sign 17 = .ok (.iconst 2, 1) := by decide +kernel
theorem dX12_sign_18 : decode cX12_sign 18 = .ok (.if_icmp .ge 5, 3) := by decide +kernel
theorem dX12_sign_21 : decode cX12_sign 21 = .ok (.iconst (-1), 1) := by decide +kernel
theorem dX12_sign_22 : decode cX12_sign 22 = .ok (.ireturn, 1) := by decide +kernel
theorem dX12_sign_23 : decode cX12_sign 23 = .ok (.aload_n 3, 1) := by decide +kernel
theorem dX12_sign_24 : decode cX12_sign 24 = .ok (.getfield 98, 3) := by decide +kernel
theorem dX12_sign_27 : decode cX12_sign 27 = .ok (.getfield 123, 3) := by decide +kernel
theorem dX12_sign_30 : decode cX12_sign 30 = .ok (.iload_n 2, 1) := by decide +kernel
theorem dX12_sign_31 : decode cX12_sign 31 = .ok (.invokevirtual 472, 3) := by decide +kernel
theorem dX12_sign_34 : decode cX12_sign 34 = .ok (.ireturn, 1) := by decide +kernel
theorem dX12_answers_0 : decode cX12_answers 0 = .ok (.aload_n 0, 1) := by decide +kernel
theorem dX12_answers_1 : decode cX12_answers 1 = .ok (.iload_n 1, 1) := by decide +kernel
theorem dX12_answers_2 : decode cX12_answers 2 = .ok (.iload_n 2, 1) := by decide +kernel
theorem dX12_answers_3 : decode cX12_answers 3 = .ok (.invokevirtual 173, 3) := by decide +kernel
theorem dX12_answers_6 : decode cX12_answers 6 = .ok (.astore_n 3, 1) := by decide +kernel
theorem dX12_answers_7 : decode cX12_answers 7 = .ok (.aload_n 3, 1) := by decide +kernel
theorem dX12_answers_8 : decode cX12_answers 8 = .ok (.ifnonnull 5, 3) := by decide +kernel
theorem dX12_answers_11 : decode cX12_answers 11 = .ok (.iconst (-1), 1) := by decide +kernel
theorem dX12_answers_12 : decode cX12_answers 12 = .ok (.ireturn, 1) := by decide +kernel
theorem dX12_answers_13 : decode cX12_answers 13 = .ok (.aload_n 0, 1) := by decide +kernel
theorem dX12_answers_14 : decode cX12_answers 14 = .ok (.getfield 11, 3) := by decide +kernel
theorem dX12_answers_17 : decode cX12_answers 17 = .ok (.iload_n 1, 1) := by decide +kernel
theorem dX12_answers_18 : decode cX12_answers 18 = .ok (.aaload, 1) := by decide +kernel
theorem dX12_answers_19 : decode cX12_answers 19 = .ok (.getfield 261, 3) := by decide +kernel
theorem dX12_answers_22 : decode cX12_answers 22 = .ok (.aload_n 3, 1) := by decide +kernel
theorem dX12_answers_23 : decode cX12_answers 23 = .ok (.invokevirtual 473, 3) := by decide +kernel
theorem dX12_answers_26 : decode cX12_answers 26 = .ok (.ireturn, 1) := by decide +kernel
theorem dX12_found_0 : decode cX12_found 0 = .ok (.aload_n 0, 1) := by decide +kernel
theorem dX12_found_1 : decode cX12_found 1 = .ok (.iload_n 1, 1) := by decide +kernel
theorem dX12_found_2 : decode cX12_found 2 = .ok (.iload_n 2, 1) := by decide +kernel
theorem dX12_found_3 : decode cX12_found 3 = .ok (.invokevirtual 173, 3) := by decide +kernel
theorem dX12_found_6 : decode cX12_found 6 = .ok (.astore 5, 2) := by decide +kernel
theorem dX12_found_8 : decode cX12_found 8 = .ok (.aload 5, 2) := by decide +kernel
theorem dX12_found_10 : decode cX12_found 10 = .ok (.ifnonnull 5, 3) := by decide +kernel
theorem dX12_found_13 : decode cX12_found 13 = .ok (.iconst (-1), 1) := by decide +kernel
theorem dX12_found_14 : decode cX12_found 14 = .ok (.ireturn, 1) := by decide +kernel
theorem dX12_found_15 : decode cX12_found 15 = .ok (.aload_n 0, 1) := by decide +kernel
theorem dX12_found_16 : decode cX12_found 16 = .ok (.getfield 11, 3) := by decide +kernel
theorem dX12_found_19 : decode cX12_found 19 = .ok (.iload_n 1, 1) := by decide +kernel
theorem dX12_found_20 : decode cX12_found 20 = .ok (.aaload, 1) := by decide +kernel
theorem dX12_found_21 : decode cX12_found 21 = .ok (.getfield 261, 3) := by decide +kernel
theorem dX12_found_24 : decode cX12_found 24 = .ok (.aload 5, 2) := by decide +kernel
theorem dX12_found_26 : decode cX12_found 26 = .ok (.iload_n 3, 1) := by decide +kernel
theorem dX12_found_27 : decode cX12_found 27 = .ok (.invokevirtual 477, 3) := by decide +kernel
theorem dX12_found_30 : decode cX12_found 30 = .ok (.astore 6, 2) := by decide +kernel
theorem dX12_found_32 : decode cX12_found 32 = .ok (.aload 6, 2) := by decide +kernel
theorem dX12_found_34 : decode cX12_found 34 = .ok (.ifnonnull 5, 3) := by decide +kernel
theorem dX12_found_37 : decode cX12_found 37 = .ok (.iconst (-1), 1) := by decide +kernel
theorem dX12_found_38 : decode cX12_found 38 = .ok (.ireturn, 1) := by decide +kernel
theorem dX12_found_39 : decode cX12_found 39 = .ok (.iload 4, 2) := by decide +kernel
theorem dX12_found_41 : decode cX12_found 41 = .ok (.tableswitch 67 0 2 #[27, 33, 45], 27) := by decide +kernel
theorem dX12_found_68 : decode cX12_found 68 = .ok (.aload 6, 2) := by decide +kernel
theorem dX12_found_70 : decode cX12_found 70 = .ok (.getfield 445, 3) := by decide +kernel
theorem dX12_found_73 : decode cX12_found 73 = .ok (.ireturn, 1) := by decide +kernel
theorem dX12_found_74 : decode cX12_found 74 = .ok (.aload 6, 2) := by decide +kernel
theorem dX12_found_76 : decode cX12_found 76 = .ok (.getfield 293, 3) := by decide +kernel
theorem dX12_found_79 : decode cX12_found 79 = .ok (.aload_n 0, 1) := by decide +kernel
theorem dX12_found_80 : decode cX12_found 80 = .ok (.getfield 53, 3) := by decide +kernel
theorem dX12_found_83 : decode cX12_found 83 = .ok (.lsub, 1) := by decide +kernel
theorem dX12_found_84 : decode cX12_found 84 = .ok (.l2i, 1) := by decide +kernel
theorem dX12_found_85 : decode cX12_found 85 = .ok (.ireturn, 1) := by decide +kernel
theorem dX12_found_86 : decode cX12_found 86 = .ok (.aload 6, 2) := by decide +kernel
theorem dX12_found_88 : decode cX12_found 88 = .ok (.getfield 302, 3) := by decide +kernel
theorem dX12_found_91 : decode cX12_found 91 = .ok (.iconst 2, 1) := by decide +kernel
theorem dX12_found_92 : decode cX12_found 92 = .ok (.if_icmp .ne 14, 3) := by decide +kernel
theorem dX12_found_95 : decode cX12_found 95 = .ok (.aload 6, 2) := by decide +kernel
theorem dX12_found_97 : decode cX12_found 97 = .ok (.getfield 444, 3) := by decide +kernel
theorem dX12_found_100 : decode cX12_found 100 = .ok (.getfield 481, 3) := by decide +kernel
theorem dX12_found_103 : decode cX12_found 103 = .ok (.goto 4, 3) := by decide +kernel
theorem dX12_found_106 : decode cX12_found 106 = .ok (.iconst 0, 1) := by decide +kernel
theorem dX12_found_107 : decode cX12_found 107 = .ok (.ireturn, 1) := by decide +kernel
theorem dX12_found_108 : decode cX12_found 108 = .ok (.iconst (-1), 1) := by decide +kernel
theorem dX12_found_109 : decode cX12_found 109 = .ok (.ireturn, 1) := by decide +kernel
theorem dX12_entry_0 : decode cX12_entry 0 = .ok (.aload_n 0, 1) := by decide +kernel
theorem dX12_entry_1 : decode cX12_entry 1 = .ok (.iload_n 1, 1) := by decide +kernel
theorem dX12_entry_2 : decode cX12_entry 2 = .ok (.invokevirtual 94, 3) := by decide +kernel
theorem dX12_entry_5 : decode cX12_entry 5 = .ok (.astore 4, 2) := by decide +kernel
theorem dX12_entry_7 : decode cX12_entry 7 = .ok (.aload 4, 2) := by decide +kernel
theorem dX12_entry_9 : decode cX12_entry 9 = .ok (.ifnull 19, 3) := by decide +kernel
theorem dX12_entry_12 : decode cX12_entry 12 = .ok (.iload_n 2, 1) := by decide +kernel
theorem dX12_entry_13 : decode cX12_entry 13 = .ok (.ifCond .lt 15, 3) := by decide +kernel
theorem dX12_entry_16 : decode cX12_entry 16 = .ok (.iload_n 2, 1) := by decide +kernel
theorem dX12_entry_17 : decode cX12_entry 17 = .ok (.aload 4, 2) := by decide +kernel
theorem dX12_entry_19 : decode cX12_entry 19 = .ok (.getfield 261, 3) := by decide +kernel
theorem dX12_entry_22 : decode cX12_entry 22 = .ok (.getfield 265, 3) := by decide +kernel
theorem dX12_entry_25 : decode cX12_entry 25 = .ok (.if_icmp .lt 5, 3) := by decide +kernel
theorem dX12_entry_28 : decode cX12_entry 28 = .ok (.iconst (-1), 1) := by decide +kernel
theorem dX12_entry_29 : decode cX12_entry 29 = .ok (.ireturn, 1) := by decide +kernel
theorem dX12_entry_30 : decode cX12_entry 30 = .ok (.aload 4, 2) := by decide +kernel
theorem dX12_entry_32 : decode cX12_entry 32 = .ok (.getfield 261, 3) := by decide +kernel
theorem dX12_entry_35 : decode cX12_entry 35 = .ok (.getfield 268, 3) := by decide +kernel
theorem dX12_entry_38 : decode cX12_entry 38 = .ok (.iload_n 2, 1) := by decide +kernel
theorem dX12_entry_39 : decode cX12_entry 39 = .ok (.aaload, 1) := by decide +kernel
theorem dX12_entry_40 : decode cX12_entry 40 = .ok (.iload_n 3, 1) := by decide +kernel
theorem dX12_entry_41 : decode cX12_entry 41 = .ok (.aload_n 0, 1) := by decide +kernel
theorem dX12_entry_42 : decode cX12_entry 42 = .ok (.getfield 53, 3) := by decide +kernel
theorem dX12_entry_45 : decode cX12_entry 45 = .ok (.invokevirtual 482, 3) := by decide +kernel
theorem dX12_entry_48 : decode cX12_entry 48 = .ok (.ireturn, 1) := by decide +kernel
theorem dX12_count_0 : decode cX12_count 0 = .ok (.iload_n 1, 1) := by decide +kernel
theorem dX12_count_1 : decode cX12_count 1 = .ok (.ifCond .ne 9, 3) := by decide +kernel
theorem dX12_count_4 : decode cX12_count 4 = .ok (.aload_n 0, 1) := by decide +kernel
theorem dX12_count_5 : decode cX12_count 5 = .ok (.getfield 53, 3) := by decide +kernel
theorem dX12_count_8 : decode cX12_count 8 = .ok (.l2i, 1) := by decide +kernel
theorem dX12_count_9 : decode cX12_count 9 = .ok (.ireturn, 1) := by decide +kernel
theorem dX12_count_10 : decode cX12_count 10 = .ok (.iload_n 1, 1) := by decide +kernel
theorem dX12_count_11 : decode cX12_count 11 = .ok (.bipush 10, 2) := by decide +kernel
theorem dX12_count_13 : decode cX12_count 13 = .ok (.if_icmp .ne 9, 3) := by decide +kernel
theorem dX12_count_16 : decode cX12_count 16 = .ok (.aload_n 0, 1) := by decide +kernel
theorem dX12_count_17 : decode cX12_count 17 = .ok (.getfield 49, 3) := by decide +kernel
theorem dX12_count_20 : decode cX12_count 20 = .ok (.l2i, 1) := by decide +kernel
theorem dX12_count_21 : decode cX12_count 21 = .ok (.ireturn, 1) := by decide +kernel
theorem dX12_count_22 : decode cX12_count 22 = .ok (.iload_n 1, 1) := by decide +kernel
theorem dX12_count_23 : decode cX12_count 23 = .ok (.ifCond .lt 9, 3) := by decide +kernel
theorem dX12_count_26 : decode cX12_count 26 = .ok (.iload_n 1, 1) := by decide +kernel
theorem dX12_count_27 : decode cX12_count 27 = .ok (.bipush 10, 2) := by decide +kernel
theorem dX12_count_29 : decode cX12_count 29 = .ok (.if_icmp .lt 7, 3) := by decide +kernel
theorem dX12_count_32 : decode cX12_count 32 = .ok (.iconst (-1), 1) := by decide +kernel
theorem dX12_count_33 : decode cX12_count 33 = .ok (.goto 9, 3) := by decide +kernel
theorem dX12_count_36 : decode cX12_count 36 = .ok (.aload_n 0, 1) := by decide +kernel
theorem dX12_count_37 : decode cX12_count 37 = .ok (.getfield 29, 3) := by decide +kernel
theorem dX12_count_40 : decode cX12_count 40 = .ok (.iload_n 1, 1) := by decide +kernel
theorem dX12_count_41 : decode cX12_count 41 = .ok (.iaload, 1) := by decide +kernel
theorem dX12_count_42 : decode cX12_count 42 = .ok (.ireturn, 1) := by decide +kernel
theorem dX12_holders_0 : decode cX12_holders 0 = .ok (.iconst 0, 1) := by decide +kernel
theorem dX12_holders_1 : decode cX12_holders 1 = .ok (.istore_n 2, 1) := by decide +kernel
theorem dX12_holders_2 : decode cX12_holders 2 = .ok (.iconst 0, 1) := by decide +kernel
theorem dX12_holders_3 : decode cX12_holders 3 = .ok (.istore_n 3, 1) := by decide +kernel
theorem dX12_holders_4 : decode cX12_holders 4 = .ok (.iload_n 3, 1) := by decide +kernel
theorem dX12_holders_5 : decode cX12_holders 5 = .ok (.bipush 8, 2) := by decide +kernel
theorem dX12_holders_7 : decode cX12_holders 7 = .ok (.if_icmp .ge 51, 3) := by decide +kernel
theorem dX12_holders_10 : decode cX12_holders 10 = .ok (.aload_n 0, 1) := by decide +kernel
theorem dX12_holders_11 : decode cX12_holders 11 = .ok (.getfield 11, 3) := by decide +kernel
theorem dX12_holders_14 : decode cX12_holders 14 = .ok (.iload_n 3, 1) := by decide +kernel
theorem dX12_holders_15 : decode cX12_holders 15 = .ok (.aaload, 1) := by decide +kernel
theorem dX12_holders_16 : decode cX12_holders 16 = .ok (.astore 4, 2) := by decide +kernel
theorem dX12_holders_18 : decode cX12_holders 18 = .ok (.aload 4, 2) := by decide +kernel
theorem dX12_holders_20 : decode cX12_holders 20 = .ok (.getfield 83, 3) := by decide +kernel
theorem dX12_holders_23 : decode cX12_holders 23 = .ok (.ifCond .eq 29, 3) := by decide +kernel
theorem dX12_holders_26 : decode cX12_holders 26 = .ok (.aload 4, 2) := by decide +kernel
theorem dX12_holders_28 : decode cX12_holders 28 = .ok (.getfield 131, 3) := by decide +kernel
theorem dX12_holders_31 : decode cX12_holders 31 = .ok (.invokevirtual 135, 3) := by decide +kernel
theorem dX12_holders_34 : decode cX12_holders 34 = .ok (.ifCond .eq 18, 3) := by decide +kernel
theorem dX12_holders_37 : decode cX12_holders 37 = .ok (.aload 4, 2) := by decide +kernel
theorem dX12_holders_39 : decode cX12_holders 39 = .ok (.getfield 131, 3) := by decide +kernel
theorem dX12_holders_42 : decode cX12_holders 42 = .ok (.getfield 334, 3) := by decide +kernel
theorem dX12_holders_45 : decode cX12_holders 45 = .ok (.iload_n 1, 1) := by decide +kernel
theorem dX12_holders_46 : decode cX12_holders 46 = .ok (.if_icmp .ne 6, 3) := by decide +kernel
theorem dX12_holders_49 : decode cX12_holders 49 = .ok (.iinc 2 1, 3) := by decide +kernel
theorem dX12_holders_52 : decode cX12_holders 52 = .ok (.iinc 3 1, 3) := by decide +kernel
theorem dX12_holders_55 : decode cX12_holders 55 = .ok (.goto (-51), 3) := by decide +kernel
theorem dX12_holders_58 : decode cX12_holders 58 = .ok (.iload_n 2, 1) := by decide +kernel
theorem dX12_holders_59 : decode cX12_holders 59 = .ok (.ireturn, 1) := by decide +kernel
theorem dX12_sent_0 : decode cX12_sent 0 = .ok (.aload_n 0, 1) := by decide +kernel
theorem dX12_sent_1 : decode cX12_sent 1 = .ok (.getfield 44, 3) := by decide +kernel
theorem dX12_sent_4 : decode cX12_sent 4 = .ok (.ifnonnull 7, 3) := by decide +kernel
theorem dX12_sent_7 : decode cX12_sent 7 = .ok (.iconst (-1), 1) := by decide +kernel
theorem dX12_sent_8 : decode cX12_sent 8 = .ok (.goto 11, 3) := by decide +kernel
theorem dX12_sent_11 : decode cX12_sent 11 = .ok (.aload_n 0, 1) := by decide +kernel
theorem dX12_sent_12 : decode cX12_sent 12 = .ok (.getfield 44, 3) := by decide +kernel
theorem dX12_sent_15 : decode cX12_sent 15 = .ok (.iload_n 1, 1) := by decide +kernel
theorem dX12_sent_16 : decode cX12_sent 16 = .ok (.invokevirtual 68, 3) := by decide +kernel
theorem dX12_sent_19 : decode cX12_sent 19 = .ok (.ireturn, 1) := by decide +kernel
theorem dX13_init_0 : decode cX13_init 0 = .ok (.aload_n 0, 1) := by decide +kernel
theorem dX13_init_1 : decode cX13_init 1 = .ok (.invokespecial 1, 3) := by decide +kernel
theorem dX13_init_4 : decode cX13_init 4 = .ok (.aload_n 0, 1) := by decide +kernel
theorem dX13_init_5 : decode cX13_init 5 = .ok (.sipush 200, 3) := by decide +kernel
theorem dX13_init_8 : decode cX13_init 8 = .ok (.newarray .int, 2) := by decide +kernel
theorem dX13_init_10 : decode cX13_init 10 = .ok (.putfield 7, 3) := by decide +kernel
theorem dX13_init_13 : decode cX13_init 13 = .ok (.aload_n 0, 1) := by decide +kernel
theorem dX13_init_14 : decode cX13_init 14 = .ok (.bipush 8, 2) := by decide +kernel
theorem dX13_init_16 : decode cX13_init 16 = .ok (.newarray .boolean, 2) := by decide +kernel
theorem dX13_init_18 : decode cX13_init 18 = .ok (.putfield 13, 3) := by decide +kernel
theorem dX13_init_21 : decode cX13_init 21 = .ok (.aload_n 0, 1) := by decide +kernel
theorem dX13_init_22 : decode cX13_init 22 = .ok (.bipush 8, 2) := by decide +kernel
theorem dX13_init_24 : decode cX13_init 24 = .ok (.newarray .int, 2) := by decide +kernel
theorem dX13_init_26 : decode cX13_init 26 = .ok (.putfield 17, 3) := by decide +kernel
theorem dX13_init_29 : decode cX13_init 29 = .ok (.aload_n 0, 1) := by decide +kernel
theorem dX13_init_30 : decode cX13_init 30 = .ok (.bipush 8, 2) := by decide +kernel
theorem dX13_init_32 : decode cX13_init 32 = .ok (.newarray .int, 2) := by decide +kernel
theorem dX13_init_34 : decode cX13_init 34 = .ok (.putfield 20, 3) := by decide +kernel
theorem dX13_init_37 : decode cX13_init 37 = .ok (.aload_n 0, 1) := by decide +kernel
theorem dX13_init_38 : decode cX13_init 38 = .ok (.bipush 8, 2) := by decide +kernel
theorem dX13_init_40 : decode cX13_init 40 = .ok (.newarray .int, 2) := by decide +kernel
theorem dX13_init_42 : decode cX13_init 42 = .ok (.putfield 23, 3) := by decide +kernel
theorem dX13_init_45 : decode cX13_init 45 = .ok (.aload_n 0, 1) := by decide +kernel
theorem dX13_init_46 : decode cX13_init 46 = .ok (.bipush 8, 2) := by decide +kernel
theorem dX13_init_48 : decode cX13_init 48 = .ok (.newarray .int, 2) := by decide +kernel
theorem dX13_init_50 : decode cX13_init 50 = .ok (.putfield 26, 3) := by decide +kernel
theorem dX13_init_53 : decode cX13_init 53 = .ok (.aload_n 0, 1) := by decide +kernel
theorem dX13_init_54 : decode cX13_init 54 = .ok (.bipush 8, 2) := by decide +kernel
theorem dX13_init_56 : decode cX13_init 56 = .ok (.newarray .int, 2) := by decide +kernel
theorem dX13_init_58 : decode cX13_init 58 = .ok (.putfield 29, 3) := by decide +kernel
theorem dX13_init_61 : decode cX13_init 61 = .ok (.aload_n 0, 1) := by decide +kernel
theorem dX13_init_62 : decode cX13_init 62 = .ok (.bipush 8, 2) := by decide +kernel
theorem dX13_init_64 : decode cX13_init 64 = .ok (.newarray .int, 2) := by decide +kernel
theorem dX13_init_66 : decode cX13_init 66 = .ok (.putfield 32, 3) := by decide +kernel
theorem dX13_init_69 : decode cX13_init 69 = .ok (.aload_n 0, 1) := by decide +kernel
theorem dX13_init_70 : decode cX13_init 70 = .ok (.bipush 8, 2) := by decide +kernel
theorem dX13_init_72 : decode cX13_init 72 = .ok (.newarray .int, 2) := by decide +kernel
theorem dX13_init_74 : decode cX13_init 74 = .ok (.putfield 35, 3) := by decide +kernel
theorem dX13_init_77 : decode cX13_init 77 = .ok (.aload_n 0, 1) := by decide +kernel
theorem dX13_init_78 : decode cX13_init 78 = .ok (.bipush 8, 2) := by decide +kernel
theorem dX13_init_80 : decode cX13_init 80 = .ok (.newarray .int, 2) := by decide +kernel
theorem dX13_init_82 : decode cX13_init 82 = .ok (.putfield 38, 3) := by decide +kernel
theorem dX13_init_85 : decode cX13_init 85 = .ok (.aload_n 0, 1) := by decide +kernel
theorem dX13_init_86 : decode cX13_init 86 = .ok (.bipush 8, 2) := by decide +kernel
theorem dX13_init_88 : decode cX13_init 88 = .ok (.newarray .boolean, 2) := by decide +kernel
theorem dX13_init_90 : decode cX13_init 90 = .ok (.putfield 41, 3) := by decide +kernel
theorem dX13_init_93 : decode cX13_init 93 = .ok (.aload_n 0, 1) := by decide +kernel
theorem dX13_init_94 : decode cX13_init 94 = .ok (.bipush 8, 2) := by decide +kernel
theorem dX13_init_96 : decode cX13_init 96 = .ok (.newarray .long, 2) := by decide +kernel
theorem dX13_init_98 : decode cX13_init 98 = .ok (.putfield 44, 3) := by decide +kernel
theorem dX13_init_101 : decode cX13_init 101 = .ok (.aload_n 0, 1) := by decide +kernel
theorem dX13_init_102 : decode cX13_init 102 = .ok (.bipush 8, 2) := by decide +kernel
theorem dX13_init_104 : decode cX13_init 104 = .ok (.newarray .long, 2) := by decide +kernel
theorem dX13_init_106 : decode cX13_init 106 = .ok (.putfield 48, 3) := by decide +kernel
theorem dX13_init_109 : decode cX13_init 109 = .ok (.aload_n 0, 1) := by decide +kernel
theorem dX13_init_110 : decode cX13_init 110 = .ok (.bipush 8, 2) := by decide +kernel
theorem dX13_init_112 : decode cX13_init 112 = .ok (.newarray .int, 2) := by decide +kernel
theorem dX13_init_114 : decode cX13_init 114 = .ok (.putfield 51, 3) := by decide +kernel
theorem dX13_init_117 : decode cX13_init 117 = .ok (.aload_n 0, 1) := by decide +kernel
theorem dX13_init_118 : decode cX13_init 118 = .ok (.bipush 8, 2) := by decide +kernel
theorem dX13_init_120 : decode cX13_init 120 = .ok (.newarray .int, 2) := by decide +kernel
theorem dX13_init_122 : decode cX13_init 122 = .ok (.putfield 54, 3) := by decide +kernel
theorem dX13_init_125 : decode cX13_init 125 = .ok (.aload_n 0, 1) := by decide +kernel
theorem dX13_init_126 : decode cX13_init 126 = .ok (.bipush 8, 2) := by decide +kernel
theorem dX13_init_128 : decode cX13_init 128 = .ok (.newarray .long, 2) := by decide +kernel
theorem dX13_init_130 : decode cX13_init 130 = .ok (.putfield 57, 3) := by decide +kernel
theorem dX13_init_133 : decode cX13_init 133 = .ok (.aload_n 0, 1) := by decide +kernel
theorem dX13_init_134 : decode cX13_init 134 = .ok (.bipush 8, 2) := by decide +kernel
theorem dX13_init_136 : decode cX13_init 136 = .ok (.newarray .int, 2) := by decide +kernel
theorem dX13_init_138 : decode cX13_init 138 = .ok (.putfield 60, 3) := by decide +kernel
theorem dX13_init_141 : decode cX13_init 141 = .ok (.aload_n 0, 1) := by decide +kernel
theorem dX13_init_142 : decode cX13_init 142 = .ok (.sipush 128, 3) := by decide +kernel
theorem dX13_init_145 : decode cX13_init 145 = .ok (.newarray .int, 2) := by decide +kernel
theorem dX13_init_147 : decode cX13_init 147 = .ok (.putfield 63, 3) := by decide +kernel
theorem dX13_init_150 : decode cX13_init 150 = .ok (.aload_n 0, 1) := by decide +kernel
theorem dX13_init_151 : decode cX13_init 151 = .ok (.sipush 128, 3) := by decide +kernel
theorem dX13_init_154 : decode cX13_init 154 = .ok (.newarray .int, 2) := by decide +kernel
theorem dX13_init_156 : decode cX13_init 156 = .ok (.putfield 66, 3) := by decide +kernel
theorem dX13_init_159 : decode cX13_init 159 = .ok (.aload_n 0, 1) := by decide +kernel
theorem dX13_init_160 : decode cX13_init 160 = .ok (.sipush 512, 3) := by decide +kernel
theorem dX13_init_163 : decode cX13_init 163 = .ok (.newarray .int, 2) := by decide +kernel
theorem dX13_init_165 : decode cX13_init 165 = .ok (.putfield 69, 3) := by decide +kernel
theorem dX13_init_168 : decode cX13_init 168 = .ok (.aload_n 0, 1) := by decide +kernel
theorem dX13_init_169 : decode cX13_init 169 = .ok (.bipush 32, 2) := by decide +kernel
theorem dX13_init_171 : decode cX13_init 171 = .ok (.newarray .int, 2) := by decide +kernel
theorem dX13_init_173 : decode cX13_init 173 = .ok (.putfield 72, 3) := by decide +kernel
theorem dX13_init_176 : decode cX13_init 176 = .ok (.aload_n 0, 1) := by decide +kernel
theorem dX13_init_177 : decode cX13_init 177 = .ok (.bipush 8, 2) := by decide +kernel
theorem dX13_init_179 : decode cX13_init 179 = .ok (.newarray .int, 2) := by decide +kernel
theorem dX13_init_181 : decode cX13_init 181 = .ok (.putfield 75, 3) := by decide +kernel
theorem dX13_init_184 : decode cX13_init 184 = .ok (.aload_n 0, 1) := by decide +kernel
theorem dX13_init_185 : decode cX13_init 185 = .ok (.sipush 512, 3) := by decide +kernel
theorem dX13_init_188 : decode cX13_init 188 = .ok (.newarray .int, 2) := by decide +kernel
theorem dX13_init_190 : decode cX13_init 190 = .ok (.putfield 78, 3) := by decide +kernel
theorem dX13_init_193 : decode cX13_init 193 = .ok (.aload_n 0, 1) := by decide +kernel
theorem dX13_init_194 : decode cX13_init 194 = .ok (.bipush 32, 2) := by decide +kernel
theorem dX13_init_196 : decode cX13_init 196 = .ok (.newarray .int, 2) := by decide +kernel
theorem dX13_init_198 : decode cX13_init 198 = .ok (.putfield 81, 3) := by decide +kernel
theorem dX13_init_201 : decode cX13_init 201 = .ok (.aload_n 0, 1) := by decide +kernel
theorem dX13_init_202 : decode cX13_init 202 = .ok (.bipush 32, 2) := by decide +kernel
theorem dX13_init_204 : decode cX13_init 204 = .ok (.newarray .long, 2) := by decide +kernel
theorem dX13_init_206 : decode cX13_init 206 = .ok (.putfield 84, 3) := by decide +kernel
theorem dX13_init_209 : decode cX13_init 209 = .ok (.aload_n 0, 1) := by decide +kernel
theorem dX13_init_210 : decode cX13_init 210 = .ok (.bipush 32, 2) := by decide +kernel
theorem dX13_init_212 : decode cX13_init 212 = .ok (.newarray .int, 2) := by decide +kernel
theorem dX13_init_214 : decode cX13_init 214 = .ok (.putfield 87, 3) := by decide +kernel
theorem dX13_init_217 : decode cX13_init 217 = .ok (.aload_n 0, 1) := by decide +kernel
theorem dX13_init_218 : decode cX13_init 218 = .ok (.sipush 512, 3) := by decide +kernel
theorem dX13_init_221 : decode cX13_init 221 = .ok (.newarray .int, 2) := by decide +kernel
theorem dX13_init_223 : decode cX13_init 223 = .ok (.putfield 90, 3) := by decide +kernel
theorem dX13_init_226 : decode cX13_init 226 = .ok (.aload_n 0, 1) := by decide +kernel
theorem dX13_init_227 : decode cX13_init 227 = .ok (.bipush 32, 2) := by decide +kernel
theorem dX13_init_229 : decode cX13_init 229 = .ok (.newarray .long, 2) := by decide +kernel
theorem dX13_init_231 : decode cX13_init 231 = .ok (.putfield 93, 3) := by decide +kernel
theorem dX13_init_234 : decode cX13_init 234 = .ok (.aload_n 0, 1) := by decide +kernel
theorem dX13_init_235 : decode cX13_init 235 = .ok (.bipush 8, 2) := by decide +kernel
theorem dX13_init_237 : decode cX13_init 237 = .ok (.newarray .int, 2) := by decide +kernel
theorem dX13_init_239 : decode cX13_init 239 = .ok (.putfield 96, 3) := by decide +kernel
theorem dX13_init_242 : decode cX13_init 242 = .ok (.aload_n 0, 1) := by decide +kernel
theorem dX13_init_243 : decode cX13_init 243 = .ok (.bipush 8, 2) := by decide +kernel
theorem dX13_init_245 : decode cX13_init 245 = .ok (.newarray .int, 2) := by decide +kernel
theorem dX13_init_247 : decode cX13_init 247 = .ok (.putfield 99, 3) := by decide +kernel
theorem dX13_init_250 : decode cX13_init 250 = .ok (.aload_n 0, 1) := by decide +kernel
theorem dX13_init_251 : decode cX13_init 251 = .ok (.sipush 192, 3) := by decide +kernel
theorem dX13_init_254 : decode cX13_init 254 = .ok (.newarray .int, 2) := by decide +kernel
theorem dX13_init_256 : decode cX13_init 256 = .ok (.putfield 102, 3) := by decide +kernel
theorem dX13_init_259 : decode cX13_init 259 = .ok (.aload_n 0, 1) := by decide +kernel
theorem dX13_init_260 : decode cX13_init 260 = .ok (.sipush 192, 3) := by decide +kernel
theorem dX13_init_263 : decode cX13_init 263 = .ok (.newarray .int, 2) := by decide +kernel
theorem dX13_init_265 : decode cX13_init 265 = .ok (.putfield 105, 3) := by decide +kernel
theorem dX13_init_268 : decode cX13_init 268 = .ok (.aload_n 0, 1) := by decide +kernel
theorem dX13_init_269 : decode cX13_init 269 = .ok (.sipush 192, 3) := by decide +kernel
theorem dX13_init_272 : decode cX13_init 272 = .ok (.newarray .int, 2) := by decide +kernel
theorem dX13_init_274 : decode cX13_init 274 = .ok (.putfield 108, 3) := by decide +kernel
theorem dX13_init_277 : decode cX13_init 277 = .ok (.aload_n 0, 1) := by decide +kernel
theorem dX13_init_278 : decode cX13_init 278 = .ok (.sipush 192, 3) := by decide +kernel
theorem dX13_init_281 : decode cX13_init 281 = .ok (.newarray .long, 2) := by decide +kernel
theorem dX13_init_283 : decode cX13_init 283 = .ok (.putfield 111, 3) := by decide +kernel
theorem dX13_init_286 : decode cX13_init 286 = .ok (.aload_n 0, 1) := by decide +kernel
theorem dX13_init_287 : decode cX13_init 287 = .ok (.sipush 192, 3) := by decide +kernel
theorem dX13_init_290 : decode cX13_init 290 = .ok (.newarray .long, 2) := by decide +kernel
theorem dX13_init_292 : decode cX13_init 292 = .ok (.putfield 114, 3) := by decide +kernel
theorem dX13_init_295 : decode cX13_init 295 = .ok (.aload_n 0, 1) := by decide +kernel
theorem dX13_init_296 : decode cX13_init 296 = .ok (.sipush 192, 3) := by decide +kernel
theorem dX13_init_299 : decode cX13_init 299 = .ok (.newarray .boolean, 2) := by decide +kernel
theorem dX13_init_301 : decode cX13_init 301 = .ok (.putfield 117, 3) := by decide +kernel
theorem dX13_init_304 : decode cX13_init 304 = .ok (.aload_n 0, 1) := by decide +kernel
theorem dX13_init_305 : decode cX13_init 305 = .ok (.sipush 192, 3) := by decide +kernel
theorem dX13_init_308 : decode cX13_init 308 = .ok (.newarray .int, 2) := by decide +kernel
theorem dX13_init_310 : decode cX13_init 310 = .ok (.putfield 120, 3) := by decide +kernel
theorem dX13_init_313 : decode cX13_init 313 = .ok (.aload_n 0, 1) := by decide +kernel
theorem dX13_init_314 : decode cX13_init 314 = .ok (.sipush 3072, 3) := by decide +kernel
theorem dX13_init_317 : decode cX13_init 317 = .ok (.newarray .int, 2) := by decide +kernel
theorem dX13_init_319 : decode cX13_init 319 = .ok (.putfield 123, 3) := by decide +kernel
theorem dX13_init_322 : decode cX13_init 322 = .ok (.aload_n 0, 1) := by decide +kernel
theorem dX13_init_323 : decode cX13_init 323 = .ok (.sipush 3072, 3) := by decide +kernel
theorem dX13_init_326 : decode cX13_init 326 = .ok (.newarray .int, 2) := by decide +kernel
theorem dX13_init_328 : decode cX13_init 328 = .ok (.putfield 126, 3) := by decide +kernel
theorem dX13_init_331 : decode cX13_init 331 = .ok (.aload_n 0, 1) := by decide +kernel
theorem dX13_init_332 : decode cX13_init 332 = .ok (.ldc 129, 2) := by decide +kernel
theorem dX13_init_334 : decode cX13_init 334 = .ok (.newarray .int, 2) := by decide +kernel
theorem dX13_init_336 : decode cX13_init 336 = .ok (.putfield 130, 3) := by decide +kernel
theorem dX13_init_339 : decode cX13_init 339 = .ok (.aload_n 0, 1) := by decide +kernel
theorem dX13_init_340 : decode cX13_init 340 = .ok (.sipush 800, 3) := by decide +kernel
theorem dX13_init_343 : decode cX13_init 343 = .ok (.newarray .int, 2) := by decide +kernel
theorem dX13_init_345 : decode cX13_init 345 = .ok (.putfield 133, 3) := by decide +kernel
theorem dX13_init_348 : decode cX13_init 348 = .ok (.aload_n 0, 1) := by decide +kernel
theorem dX13_init_349 : decode cX13_init 349 = .ok (.sipush 800, 3) := by decide +kernel
theorem dX13_init_352 : decode cX13_init 352 = .ok (.newarray .int, 2) := by decide +kernel
theorem dX13_init_354 : decode cX13_init 354 = .ok (.putfield 136, 3) := by decide +kernel
theorem dX13_init_357 : decode cX13_init 357 = .ok (.aload_n 0, 1) := by decide +kernel
theorem dX13_init_358 : decode cX13_init 358 = .ok (.sipush 800, 3) := by decide +kernel
theorem dX13_init_361 : decode cX13_init 361 = .ok (.newarray .int, 2) := by decide +kernel
theorem dX13_init_363 : decode cX13_init 363 = .ok (.putfield 139, 3) := by decide +kernel
theorem dX13_init_366 : decode cX13_init 366 = .ok (.aload_n 0, 1) := by decide +kernel
theorem dX13_init_367 : decode cX13_init 367 = .ok (.bipush 11, 2) := by decide +kernel
theorem dX13_init_369 : decode cX13_init 369 = .ok (.newarray .int, 2) := by decide +kernel
theorem dX13_init_371 : decode cX13_init 371 = .ok (.putfield 142, 3) := by decide +kernel
theorem dX13_init_374 : decode cX13_init 374 = .ok (.aload_n 0, 1) := by decide +kernel
theorem dX13_init_375 : decode cX13_init 375 = .ok (.sipush 200, 3) := by decide +kernel
theorem dX13_init_378 : decode cX13_init 378 = .ok (.newarray .int, 2) := by decide +kernel
theorem dX13_init_380 : decode cX13_init 380 = .ok (.putfield 145, 3) := by decide +kernel
theorem dX13_init_383 : decode cX13_init 383 = .ok (.aload_n 0, 1) := by decide +kernel
theorem dX13_init_384 : decode cX13_init 384 = .ok (.bipush 16, 2) := by decide +kernel
theorem dX13_init_386 : decode cX13_init 386 = .ok (.newarray .int, 2) := by decide +kernel
theorem dX13_init_388 : decode cX13_init 388 = .ok (.putfield 148, 3) := by decide +kernel
theorem dX13_init_391 : decode cX13_init 391 = .ok (.aload_n 0, 1) := by decide +kernel
theorem dX13_init_392 : decode cX13_init 392 = .ok (.sipush 260, 3) := by decide +kernel
theorem dX13_init_395 : decode cX13_init 395 = .ok (.newarray .int, 2) := by decide +kernel
theorem dX13_init_397 : decode cX13_init 397 = .ok (.putfield 151, 3) := by decide +kernel
theorem dX13_init_400 : decode cX13_init 400 = .ok (.aload_n 0, 1) := by decide +kernel
theorem dX13_init_401 : decode cX13_init 401 = .ok (.bipush 24, 2) := by decide +kernel
theorem dX13_init_403 : decode cX13_init 403 = .ok (.newarray .int, 2) := by decide +kernel
theorem dX13_init_405 : decode cX13_init 405 = .ok (.putfield 154, 3) := by decide +kernel
theorem dX13_init_408 : decode cX13_init 408 = .ok (.aload_n 0, 1) := by decide +kernel
theorem dX13_init_409 : decode cX13_init 409 = .ok (.sipush 384, 3) := by decide +kernel
