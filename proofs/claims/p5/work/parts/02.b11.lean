theorem dX13_service_18 : decode cX13_service 18 = .ok (.aload_n 0, 1) := by decide +kernel
theorem dX13_service_19 : decode cX13_service 19 = .ok (.getfield 13, 3) := by decide +kernel
theorem dX13_service_22 : decode cX13_service 22 = .ok (.iload_n 1, 1) := by decide +kernel
theorem dX13_service_23 : decode cX13_service 23 = .ok (.baload, 1) := by decide +kernel
theorem dX13_service_24 : decode cX13_service 24 = .ok (.ifCond .eq 28, 3) := by decide +kernel
theorem dX13_service_27 : decode cX13_service 27 = .ok (.iload_n 2, 1) := by decide +kernel
theorem dX13_service_28 : decode cX13_service 28 = .ok (.ifCond .lt 24, 3) := by decide +kernel
theorem dX13_service_31 : decode cX13_service 31 = .ok (.iload_n 2, 1) := by decide +kernel
theorem dX13_service_32 : decode cX13_service 32 = .ok (.ldc_w 389, 3) := by decide +kernel
theorem dX13_service_35 : decode cX13_service 35 = .ok (.if_icmp .gt 17, 3) := by decide +kernel
theorem dX13_service_38 : decode cX13_service 38 = .ok (.iload_n 3, 1) := by decide +kernel
theorem dX13_service_39 : decode cX13_service 39 = .ok (.ifCond .eq 13, 3) := by decide +kernel
theorem dX13_service_42 : decode cX13_service 42 = .ok (.aload_n 0, 1) := by decide +kernel
theorem dX13_service_43 : decode cX13_service 43 = .ok (.getfield 75, 3) := by decide +kernel
theorem dX13_service_46 : decode cX13_service 46 = .ok (.iload_n 1, 1) := by decide +kernel
theorem dX13_service_47 : decode cX13_service 47 = .ok (.iaload, 1) := by decide +kernel
theorem dX13_service_48 : decode cX13_service 48 = .ok (.iconst 4, 1) := by decide +kernel
theorem dX13_service_49 : decode cX13_service 49 = .ok (.if_icmp .ne 5, 3) := by decide +kernel
theorem dX13_service_52 : decode cX13_service 52 = .ok (.iconst (-1), 1) := by decide +kernel
theorem dX13_service_53 : decode cX13_service 53 = .ok (.ireturn, 1) := by decide +kernel
theorem dX13_service_54 : decode cX13_service 54 = .ok (.aload_n 0, 1) := by decide +kernel
theorem dX13_service_55 : decode cX13_service 55 = .ok (.getfield 148, 3) := by decide +kernel
theorem dX13_service_58 : decode cX13_service 58 = .ok (.iconst 0, 1) := by decide +kernel
theorem dX13_service_59 : decode cX13_service 59 = .ok (.aload_n 0, 1) := by decide +kernel
theorem dX13_service_60 : decode cX13_service 60 = .ok (.getfield 69, 3) := by decide +kernel
theorem dX13_service_63 : decode cX13_service 63 = .ok (.bipush 64, 2) := by decide +kernel
theorem dX13_service_65 : decode cX13_service 65 = .ok (.iload_n 1, 1) := by decide +kernel
theorem dX13_service_66 : decode cX13_service 66 = .ok (.imul, 1) := by decide +kernel
theorem dX13_service_67 : decode cX13_service 67 = .ok (.bipush 16, 2) := by decide +kernel
theorem dX13_service_69 : decode cX13_service 69 = .ok (.aload_n 0, 1) := by decide +kernel
theorem dX13_service_70 : decode cX13_service 70 = .ok (.getfield 75, 3) := by decide +kernel
theorem dX13_service_73 : decode cX13_service 73 = .ok (.iload_n 1, 1) := by decide +kernel
theorem dX13_service_74 : decode cX13_service 74 = .ok (.iaload, 1) := by decide +kernel
theorem dX13_service_75 : decode cX13_service 75 = .ok (.imul, 1) := by decide +kernel
theorem dX13_service_76 : decode cX13_service 76 = .ok (.iadd, 1) := by decide +kernel
theorem dX13_service_77 : decode cX13_service 77 = .ok (.invokestatic 213, 3) := by decide +kernel
theorem dX13_service_80 : decode cX13_service 80 = .ok (.aload_n 0, 1) := by decide +kernel
theorem dX13_service_81 : decode cX13_service 81 = .ok (.getfield 72, 3) := by decide +kernel
theorem dX13_service_84 : decode cX13_service 84 = .ok (.iconst 4, 1) := by decide +kernel
theorem dX13_service_85 : decode cX13_service 85 = .ok (.iload_n 1, 1) := by decide +kernel
theorem dX13_service_86 : decode cX13_service 86 = .ok (.imul, 1) := by decide +kernel
theorem dX13_service_87 : decode cX13_service 87 = .ok (.aload_n 0, 1) := by decide +kernel
theorem dX13_service_88 : decode cX13_service 88 = .ok (.getfield 75, 3) := by decide +kernel
theorem dX13_service_91 : decode cX13_service 91 = .ok (.iload_n 1, 1) := by decide +kernel
theorem dX13_service_92 : decode cX13_service 92 = .ok (.iaload, 1) := by decide +kernel
theorem dX13_service_93 : decode cX13_service 93 = .ok (.iadd, 1) := by decide +kernel
theorem dX13_service_94 : decode cX13_service 94 = .ok (.iload_n 2, 1) := by decide +kernel
theorem dX13_service_95 : decode cX13_service 95 = .ok (.iastore, 1) := by decide +kernel
theorem dX13_service_96 : decode cX13_service 96 = .ok (.aload_n 0, 1) := by decide +kernel
theorem dX13_service_97 : decode cX13_service 97 = .ok (.getfield 75, 3) := by decide +kernel
theorem dX13_service_100 : decode cX13_service 100 = .ok (.iload_n 1, 1) := by decide +kernel
theorem dX13_service_101 : decode cX13_service 101 = .ok (.dup2, 1) := by decide +kernel
theorem dX13_service_102 : decode cX13_service 102 = .ok (.iaload, 1) := by decide +kernel
theorem dX13_service_103 : decode cX13_service 103 = .ok (.iconst 1, 1) := by decide +kernel
theorem dX13_service_104 : decode cX13_service 104 = .ok (.iadd, 1) := by decide +kernel
theorem dX13_service_105 : decode cX13_service 105 = .ok (.iastore, 1) := by decide +kernel
theorem dX13_service_106 : decode cX13_service 106 = .ok (.aload_n 0, 1) := by decide +kernel
theorem dX13_service_107 : decode cX13_service 107 = .ok (.getfield 75, 3) := by decide +kernel
theorem dX13_service_110 : decode cX13_service 110 = .ok (.iload_n 1, 1) := by decide +kernel
theorem dX13_service_111 : decode cX13_service 111 = .ok (.iaload, 1) := by decide +kernel
theorem dX13_service_112 : decode cX13_service 112 = .ok (.ireturn, 1) := by decide +kernel
theorem dX13_ask_0 : decode cX13_ask 0 = .ok (.aload_n 0, 1) := by decide +kernel
theorem dX13_ask_1 : decode cX13_ask 1 = .ok (.iconst 0, 1) := by decide +kernel
theorem dX13_ask_2 : decode cX13_ask 2 = .ok (.putfield 184, 3) := by decide +kernel
theorem dX13_ask_5 : decode cX13_ask 5 = .ok (.aload_n 0, 1) := by decide +kernel
theorem dX13_ask_6 : decode cX13_ask 6 = .ok (.invokevirtual 393, 3) := by decide +kernel
theorem dX13_ask_9 : decode cX13_ask 9 = .ok (.istore_n 3, 1) := by decide +kernel
theorem dX13_ask_10 : decode cX13_ask 10 = .ok (.aload_n 0, 1) := by decide +kernel
theorem dX13_ask_11 : decode cX13_ask 11 = .ok (.iload_n 1, 1) := by decide +kernel
theorem dX13_ask_12 : decode cX13_ask 12 = .ok (.invokevirtual 386, 3) := by decide +kernel
theorem dX13_ask_15 : decode cX13_ask 15 = .ok (.ifCond .eq 26, 3) := by decide +kernel
theorem dX13_ask_18 : decode cX13_ask 18 = .ok (.aload_n 0, 1) := by decide +kernel
theorem dX13_ask_19 : decode cX13_ask 19 = .ok (.getfield 13, 3) := by decide +kernel
theorem dX13_ask_22 : decode cX13_ask 22 = .ok (.iload_n 1, 1) := by decide +kernel
theorem dX13_ask_23 : decode cX13_ask 23 = .ok (.baload, 1) := by decide +kernel
theorem dX13_ask_24 : decode cX13_ask 24 = .ok (.ifCond .eq 17, 3) := by decide +kernel
theorem dX13_ask_27 : decode cX13_ask 27 = .ok (.iload_n 2, 1) := by decide +kernel
theorem dX13_ask_28 : decode cX13_ask 28 = .ok (.iconst 1, 1) := by decide +kernel
theorem dX13_ask_29 : decode cX13_ask 29 = .ok (.if_icmp .lt 12, 3) := by decide +kernel
theorem dX13_ask_32 : decode cX13_ask 32 = .ok (.iload_n 2, 1) := by decide +kernel
theorem dX13_ask_33 : decode cX13_ask 33 = .ok (.iconst 2, 1) := by decide +kernel
theorem dX13_ask_34 : decode cX13_ask 34 = .ok (.if_icmp .gt 7, 3) := by decide +kernel
theorem dX13_ask_37 : decode cX13_ask 37 = .ok (.iload_n 3, 1) := by decide +kernel
theorem dX13_ask_38 : decode cX13_ask 38 = .ok (.ifCond .ne 5, 3) := by decide +kernel
theorem dX13_ask_41 : decode cX13_ask 41 = .ok (.iconst (-1), 1) := by decide +kernel
theorem dX13_ask_42 : decode cX13_ask 42 = .ok (.ireturn, 1) := by decide +kernel
theorem dX13_ask_43 : decode cX13_ask 43 = .ok (.iconst 0, 1) := by decide +kernel
theorem dX13_ask_44 : decode cX13_ask 44 = .ok (.istore 4, 2) := by decide +kernel
theorem dX13_ask_46 : decode cX13_ask 46 = .ok (.iload 4, 2) := by decide +kernel
theorem dX13_ask_48 : decode cX13_ask 48 = .ok (.iconst 4, 1) := by decide +kernel
theorem dX13_ask_49 : decode cX13_ask 49 = .ok (.if_icmp .ge 23, 3) := by decide +kernel
theorem dX13_ask_52 : decode cX13_ask 52 = .ok (.aload_n 0, 1) := by decide +kernel
theorem dX13_ask_53 : decode cX13_ask 53 = .ok (.getfield 81, 3) := by decide +kernel
theorem dX13_ask_56 : decode cX13_ask 56 = .ok (.iconst 4, 1) := by decide +kernel
theorem dX13_ask_57 : decode cX13_ask 57 = .ok (.iload_n 1, 1) := by decide +kernel
theorem dX13_ask_58 : decode cX13_ask 58 = .ok (.imul, 1) := by decide +kernel
theorem dX13_ask_59 : decode cX13_ask 59 = .ok (.iload 4, 2) := by decide +kernel
theorem dX13_ask_61 : decode cX13_ask 61 = .ok (.iadd, 1) := by decide +kernel
theorem dX13_ask_62 : decode cX13_ask 62 = .ok (.iaload, 1) := by decide +kernel
theorem dX13_ask_63 : decode cX13_ask 63 = .ok (.ifCond .le 9, 3) := by decide +kernel
theorem dX13_ask_66 : decode cX13_ask 66 = .ok (.iinc 4 1, 3) := by decide +kernel
theorem dX13_ask_69 : decode cX13_ask 69 = .ok (.goto (-23), 3) := by decide +kernel
theorem dX13_ask_72 : decode cX13_ask 72 = .ok (.iload 4, 2) := by decide +kernel
theorem dX13_ask_74 : decode cX13_ask 74 = .ok (.iconst 4, 1) := by decide +kernel
theorem dX13_ask_75 : decode cX13_ask 75 = .ok (.if_icmp .ne 5, 3) := by decide +kernel
theorem dX13_ask_78 : decode cX13_ask 78 = .ok (.iconst (-1), 1) := by decide +kernel
theorem dX13_ask_79 : decode cX13_ask 79 = .ok (.ireturn, 1) := by decide +kernel
theorem dX13_ask_80 : decode cX13_ask 80 = .ok (.iconst 4, 1) := by decide +kernel
theorem dX13_ask_81 : decode cX13_ask 81 = .ok (.iload_n 1, 1) := by decide +kernel
theorem dX13_ask_82 : decode cX13_ask 82 = .ok (.imul, 1) := by decide +kernel
theorem dX13_ask_83 : decode cX13_ask 83 = .ok (.iload 4, 2) := by decide +kernel
theorem dX13_ask_85 : decode cX13_ask 85 = .ok (.iadd, 1) := by decide +kernel
theorem dX13_ask_86 : decode cX13_ask 86 = .ok (.istore 5, 2) := by decide +kernel
theorem dX13_ask_88 : decode cX13_ask 88 = .ok (.aload_n 0, 1) := by decide +kernel
theorem dX13_ask_89 : decode cX13_ask 89 = .ok (.getfield 81, 3) := by decide +kernel
theorem dX13_ask_92 : decode cX13_ask 92 = .ok (.iload 5, 2) := by decide +kernel
theorem dX13_ask_94 : decode cX13_ask 94 = .ok (.iload_n 2, 1) := by decide +kernel
theorem dX13_ask_95 : decode cX13_ask 95 = .ok (.iastore, 1) := by decide +kernel
theorem dX13_ask_96 : decode cX13_ask 96 = .ok (.aload_n 0, 1) := by decide +kernel
theorem dX13_ask_97 : decode cX13_ask 97 = .ok (.getfield 148, 3) := by decide +kernel
theorem dX13_ask_100 : decode cX13_ask 100 = .ok (.iconst 0, 1) := by decide +kernel
theorem dX13_ask_101 : decode cX13_ask 101 = .ok (.aload_n 0, 1) := by decide +kernel
theorem dX13_ask_102 : decode cX13_ask 102 = .ok (.getfield 78, 3) := by decide +kernel
theorem dX13_ask_105 : decode cX13_ask 105 = .ok (.bipush 16, 2) := by decide +kernel
theorem dX13_ask_107 : decode cX13_ask 107 = .ok (.iload 5, 2) := by decide +kernel
theorem dX13_ask_109 : decode cX13_ask 109 = .ok (.imul, 1) := by decide +kernel
theorem dX13_ask_110 : decode cX13_ask 110 = .ok (.invokestatic 213, 3) := by decide +kernel
theorem dX13_ask_113 : decode cX13_ask 113 = .ok (.aload_n 0, 1) := by decide +kernel
theorem dX13_ask_114 : decode cX13_ask 114 = .ok (.getfield 84, 3) := by decide +kernel
theorem dX13_ask_117 : decode cX13_ask 117 = .ok (.iload 5, 2) := by decide +kernel
theorem dX13_ask_119 : decode cX13_ask 119 = .ok (.aload_n 0, 1) := by decide +kernel
theorem dX13_ask_120 : decode cX13_ask 120 = .ok (.getfield 226, 3) := by decide +kernel
theorem dX13_ask_123 : decode cX13_ask 123 = .ok (.ldc2_w 376, 3) := by decide +kernel
theorem dX13_ask_126 : decode cX13_ask 126 = .ok (.ladd, 1) := by decide +kernel
theorem dX13_ask_127 : decode cX13_ask 127 = .ok (.ldc2_w 396, 3) := by decide +kernel
theorem dX13_ask_130 : decode cX13_ask 130 = .ok (.aload_n 0, 1) := by decide +kernel
theorem dX13_ask_131 : decode cX13_ask 131 = .ok (.getfield 17, 3) := by decide +kernel
theorem dX13_ask_134 : decode cX13_ask 134 = .ok (.iload_n 1, 1) := by decide +kernel
theorem dX13_ask_135 : decode cX13_ask 135 = .ok (.iaload, 1) := by decide +kernel
theorem dX13_ask_136 : decode cX13_ask 136 = .ok (.i2l, 1) := by decide +kernel
theorem dX13_ask_137 : decode cX13_ask 137 = .ok (.lmul, 1) := by decide +kernel
theorem dX13_ask_138 : decode cX13_ask 138 = .ok (.ldc2_w 297, 3) := by decide +kernel
theorem dX13_ask_141 : decode cX13_ask 141 = .ok (.lrem, 1) := by decide +kernel
theorem dX13_ask_142 : decode cX13_ask 142 = .ok (.ladd, 1) := by decide +kernel
theorem dX13_ask_143 : decode cX13_ask 143 = .ok (.lastore, 1) := by decide +kernel
theorem dX13_ask_144 : decode cX13_ask 144 = .ok (.aload_n 0, 1) := by decide +kernel
theorem dX13_ask_145 : decode cX13_ask 145 = .ok (.getfield 87, 3) := by decide +kernel
theorem dX13_ask_148 : decode cX13_ask 148 = .ok (.iload 5, 2) := by decide +kernel
theorem dX13_ask_150 : decode cX13_ask 150 = .ok (.sipush 1000, 3) := by decide +kernel
theorem dX13_ask_153 : decode cX13_ask 153 = .ok (.iastore, 1) := by decide +kernel
theorem dX13_ask_154 : decode cX13_ask 154 = .ok (.iload 4, 2) := by decide +kernel
theorem dX13_ask_156 : decode cX13_ask 156 = .ok (.ireturn, 1) := by decide +kernel
theorem dX13_isOpen_0 : decode cX13_isOpen 0 = .ok (.aload_n 0, 1) := by decide +kernel
theorem dX13_isOpen_1 : decode cX13_isOpen 1 = .ok (.iload_n 1, 1) := by decide +kernel
theorem dX13_isOpen_2 : decode cX13_isOpen 2 = .ok (.invokevirtual 386, 3) := by decide +kernel
theorem dX13_isOpen_5 : decode cX13_isOpen 5 = .ok (.ifCond .eq 38, 3) := by decide +kernel
theorem dX13_isOpen_8 : decode cX13_isOpen 8 = .ok (.aload_n 0, 1) := by decide +kernel
theorem dX13_isOpen_9 : decode cX13_isOpen 9 = .ok (.getfield 13, 3) := by decide +kernel
theorem dX13_isOpen_12 : decode cX13_isOpen 12 = .ok (.iload_n 1, 1) := by decide +kernel
theorem dX13_isOpen_13 : decode cX13_isOpen 13 = .ok (.baload, 1) := by decide +kernel
theorem dX13_isOpen_14 : decode cX13_isOpen 14 = .ok (.ifCond .eq 29, 3) := by decide +kernel
theorem dX13_isOpen_17 : decode cX13_isOpen 17 = .ok (.iload_n 2, 1) := by decide +kernel
theorem dX13_isOpen_18 : decode cX13_isOpen 18 = .ok (.ifCond .lt 25, 3) := by decide +kernel
theorem dX13_isOpen_21 : decode cX13_isOpen 21 = .ok (.iload_n 2, 1) := by decide +kernel
theorem dX13_isOpen_22 : decode cX13_isOpen 22 = .ok (.iconst 4, 1) := by decide +kernel
theorem dX13_isOpen_23 : decode cX13_isOpen 23 = .ok (.if_icmp .ge 20, 3) := by decide +kernel
theorem dX13_isOpen_26 : decode cX13_isOpen 26 = .ok (.aload_n 0, 1) := by decide +kernel
theorem dX13_isOpen_27 : decode cX13_isOpen 27 = .ok (.getfield 81, 3) := by decide +kernel
theorem dX13_isOpen_30 : decode cX13_isOpen 30 = .ok (.iconst 4, 1) := by decide +kernel
theorem dX13_isOpen_31 : decode cX13_isOpen 31 = .ok (.iload_n 1, 1) := by decide +kernel
theorem dX13_isOpen_32 : decode cX13_isOpen 32 = .ok (.imul, 1) := by decide +kernel
theorem dX13_isOpen_33 : decode cX13_isOpen 33 = .ok (.iload_n 2, 1) := by decide +kernel
theorem dX13_isOpen_34 : decode cX13_isOpen 34 = .ok (.iadd, 1) := by decide +kernel
theorem dX13_isOpen_35 : decode cX13_isOpen 35 = .ok (.iaload, 1) := by decide +kernel
theorem dX13_isOpen_36 : decode cX13_isOpen 36 = .ok (.ifCond .le 7, 3) := by decide +kernel
theorem dX13_isOpen_39 : decode cX13_isOpen 39 = .ok (.iconst 1, 1) := by decide +kernel
theorem dX13_isOpen_40 : decode cX13_isOpen 40 = .ok (.goto 4, 3) := by decide +kernel
theorem dX13_isOpen_43 : decode cX13_isOpen 43 = .ok (.iconst 0, 1) := by decide +kernel
theorem dX13_isOpen_44 : decode cX13_isOpen 44 = .ok (.ireturn, 1) := by decide +kernel
theorem dX13_close_0 : decode cX13_close 0 = .ok (.aload_n 0, 1) := by decide +kernel
theorem dX13_close_1 : decode cX13_close 1 = .ok (.iconst 0, 1) := by decide +kernel
theorem dX13_close_2 : decode cX13_close 2 = .ok (.putfield 184, 3) := by decide +kernel
theorem dX13_close_5 : decode cX13_close 5 = .ok (.aload_n 0, 1) := by decide +kernel
theorem dX13_close_6 : decode cX13_close 6 = .ok (.iload_n 1, 1) := by decide +kernel
theorem dX13_close_7 : decode cX13_close 7 = .ok (.iload_n 2, 1) := by decide +kernel
theorem dX13_close_8 : decode cX13_close 8 = .ok (.invokevirtual 398, 3) := by decide +kernel
theorem dX13_close_11 : decode cX13_close 11 = .ok (.ifCond .ne 5, 3) := by decide +kernel
theorem dX13_close_14 : decode cX13_close 14 = .ok (.iconst 0, 1) := by decide +kernel
theorem dX13_close_15 : decode cX13_close 15 = .ok (.ireturn, 1) := by decide +kernel
theorem dX13_close_16 : decode cX13_close 16 = .ok (.aload_n 0, 1) := by decide +kernel
theorem dX13_close_17 : decode cX13_close 17 = .ok (.getfield 81, 3) := by decide +kernel
theorem dX13_close_20 : decode cX13_close 20 = .ok (.iconst 4, 1) := by decide +kernel
theorem dX13_close_21 : decode cX13_close 21 = .ok (.iload_n 1, 1) := by decide +kernel
theorem dX13_close_22 : decode cX13_close 22 = .ok (.imul, 1) := by decide +kernel
theorem dX13_close_23 : decode cX13_close 23 = .ok (.iload_n 2, 1) := by decide +kernel
theorem dX13_close_24 : decode cX13_close 24 = .ok (.iadd, 1) := by decide +kernel
theorem dX13_close_25 : decode cX13_close 25 = .ok (.iconst 0, 1) := by decide +kernel
theorem dX13_close_26 : decode cX13_close 26 = .ok (.iastore, 1) := by decide +kernel
theorem dX13_close_27 : decode cX13_close 27 = .ok (.iconst 1, 1) := by decide +kernel
theorem dX13_close_28 : decode cX13_close 28 = .ok (.ireturn, 1) := by decide +kernel
theorem dX13_split_0 : decode cX13_split 0 = .ok (.aload_n 0, 1) := by decide +kernel
theorem dX13_split_1 : decode cX13_split 1 = .ok (.iconst 0, 1) := by decide +kernel
theorem dX13_split_2 : decode cX13_split 2 = .ok (.putfield 184, 3) := by decide +kernel
theorem dX13_split_5 : decode cX13_split 5 = .ok (.iconst 0, 1) := by decide +kernel
theorem dX13_split_6 : decode cX13_split 6 = .ok (.istore_n 2, 1) := by decide +kernel
theorem dX13_split_7 : decode cX13_split 7 = .ok (.iload_n 2, 1) := by decide +kernel
theorem dX13_split_8 : decode cX13_split 8 = .ok (.bipush 8, 2) := by decide +kernel
theorem dX13_split_10 : decode cX13_split 10 = .ok (.if_icmp .ge 20, 3) := by decide +kernel
theorem dX13_split_13 : decode cX13_split 13 = .ok (.aload_n 0, 1) := by decide +kernel
theorem dX13_split_14 : decode cX13_split 14 = .ok (.getfield 20, 3) := by decide +kernel
theorem dX13_split_17 : decode cX13_split 17 = .ok (.iload_n 2, 1) := by decide +kernel
theorem dX13_split_18 : decode cX13_split 18 = .ok (.iload_n 1, 1) := by decide +kernel
theorem dX13_split_19 : decode cX13_split 19 = .ok (.iload_n 2, 1) := by decide +kernel
theorem dX13_split_20 : decode cX13_split 20 = .ok (.ishr, 1) := by decide +kernel
theorem dX13_split_21 : decode cX13_split 21 = .ok (.iconst 1, 1) := by decide +kernel
theorem dX13_split_22 : decode cX13_split 22 = .ok (.iand, 1) := by decide +kernel
theorem dX13_split_23 : decode cX13_split 23 = .ok (.iastore, 1) := by decide +kernel
theorem dX13_split_24 : decode cX13_split 24 = .ok (.iinc 2 1, 3) := by decide +kernel
theorem dX13_split_27 : decode cX13_split 27 = .ok (.goto (-20), 3) := by decide +kernel
theorem dX13_split_30 : decode cX13_split 30 = .ok (.return_, 1) := by decide +kernel
theorem dX13_join_0 : decode cX13_join 0 = .ok (.aload_n 0, 1) := by decide +kernel
theorem dX13_join_1 : decode cX13_join 1 = .ok (.iconst 0, 1) := by decide +kernel
theorem dX13_join_2 : decode cX13_join 2 = .ok (.putfield 184, 3) := by decide +kernel
theorem dX13_join_5 : decode cX13_join 5 = .ok (.iconst 0, 1) := by decide +kernel
theorem dX13_join_6 : decode cX13_join 6 = .ok (.istore_n 1, 1) := by decide +kernel
theorem dX13_join_7 : decode cX13_join 7 = .ok (.iload_n 1, 1) := by decide +kernel
theorem dX13_join_8 : decode cX13_join 8 = .ok (.bipush 8, 2) := by decide +kernel
theorem dX13_join_10 : decode cX13_join 10 = .ok (.if_icmp .ge 113, 3) := by decide +kernel
theorem dX13_join_13 : decode cX13_join 13 = .ok (.aload_n 0, 1) := by decide +kernel
theorem dX13_join_14 : decode cX13_join 14 = .ok (.getfield 20, 3) := by decide +kernel
theorem dX13_join_17 : decode cX13_join 17 = .ok (.iload_n 1, 1) := by decide +kernel
theorem dX13_join_18 : decode cX13_join 18 = .ok (.iconst 0, 1) := by decide +kernel
theorem dX13_join_19 : decode cX13_join 19 = .ok (.iastore, 1) := by decide +kernel
theorem dX13_join_20 : decode cX13_join 20 = .ok (.aload_n 0, 1) := by decide +kernel
theorem dX13_join_21 : decode cX13_join 21 = .ok (.getfield 13, 3) := by decide +kernel
theorem dX13_join_24 : decode cX13_join 24 = .ok (.iload_n 1, 1) := by decide +kernel
theorem dX13_join_25 : decode cX13_join 25 = .ok (.baload, 1) := by decide +kernel
theorem dX13_join_26 : decode cX13_join 26 = .ok (.ifCond .ne 6, 3) := by decide +kernel
theorem dX13_join_29 : decode cX13_join 29 = .ok (.goto 88, 3) := by decide +kernel
theorem dX13_join_32 : decode cX13_join 32 = .ok (.aload_n 0, 1) := by decide +kernel
theorem dX13_join_33 : decode cX13_join 33 = .ok (.getfield 41, 3) := by decide +kernel
theorem dX13_join_36 : decode cX13_join 36 = .ok (.iload_n 1, 1) := by decide +kernel
theorem dX13_join_37 : decode cX13_join 37 = .ok (.baload, 1) := by decide +kernel
theorem dX13_join_38 : decode cX13_join 38 = .ok (.ifCond .eq 36, 3) := by decide +kernel
theorem dX13_join_41 : decode cX13_join 41 = .ok (.aload_n 0, 1) := by decide +kernel
theorem dX13_join_42 : decode cX13_join 42 = .ok (.getfield 38, 3) := by decide +kernel
theorem dX13_join_45 : decode cX13_join 45 = .ok (.iload_n 1, 1) := by decide +kernel
theorem dX13_join_46 : decode cX13_join 46 = .ok (.iconst 4, 1) := by decide +kernel
theorem dX13_join_47 : decode cX13_join 47 = .ok (.iastore, 1) := by decide +kernel
theorem dX13_join_48 : decode cX13_join 48 = .ok (.aload_n 0, 1) := by decide +kernel
theorem dX13_join_49 : decode cX13_join 49 = .ok (.getfield 44, 3) := by decide +kernel
theorem dX13_join_52 : decode cX13_join 52 = .ok (.iload_n 1, 1) := by decide +kernel
theorem dX13_join_53 : decode cX13_join 53 = .ok (.aload_n 0, 1) := by decide +kernel
theorem dX13_join_54 : decode cX13_join 54 = .ok (.getfield 226, 3) := by decide +kernel
theorem dX13_join_57 : decode cX13_join 57 = .ok (.ldc2_w 262, 3) := by decide +kernel
theorem dX13_join_60 : decode cX13_join 60 = .ok (.aload_n 0, 1) := by decide +kernel
theorem dX13_join_61 : decode cX13_join 61 = .ok (.getfield 17, 3) := by decide +kernel
theorem dX13_join_64 : decode cX13_join 64 = .ok (.iload_n 1, 1) := by decide +kernel
theorem dX13_join_65 : decode cX13_join 65 = .ok (.iaload, 1) := by decide +kernel
theorem dX13_join_66 : decode cX13_join 66 = .ok (.i2l, 1) := by decide +kernel
theorem dX13_join_67 : decode cX13_join 67 = .ok (.lmul, 1) := by decide +kernel
theorem dX13_join_68 : decode cX13_join 68 = .ok (.ldc2_w 266, 3) := by decide +kernel
theorem dX13_join_71 : decode cX13_join 71 = .ok (.lrem, 1) := by decide +kernel
theorem dX13_join_72 : decode cX13_join 72 = .ok (.ladd, 1) := by decide +kernel
theorem dX13_join_73 : decode cX13_join 73 = .ok (.lastore, 1) := by decide +kernel
theorem dX13_join_74 : decode cX13_join 74 = .ok (.aload_n 0, 1) := by decide +kernel
theorem dX13_join_75 : decode cX13_join 75 = .ok (.getfield 51, 3) := by decide +kernel
theorem dX13_join_78 : decode cX13_join 78 = .ok (.iload_n 1, 1) := by decide +kernel
theorem dX13_join_79 : decode cX13_join 79 = .ok (.iaload, 1) := by decide +kernel
theorem dX13_join_80 : decode cX13_join 80 = .ok (.iconst 3, 1) := by decide +kernel
theorem dX13_join_81 : decode cX13_join 81 = .ok (.if_icmp .ne 36, 3) := by decide +kernel
theorem dX13_join_84 : decode cX13_join 84 = .ok (.aload_n 0, 1) := by decide +kernel
theorem dX13_join_85 : decode cX13_join 85 = .ok (.getfield 54, 3) := by decide +kernel
theorem dX13_join_88 : decode cX13_join 88 = .ok (.iload_n 1, 1) := by decide +kernel
theorem dX13_join_89 : decode cX13_join 89 = .ok (.iconst 4, 1) := by decide +kernel
theorem dX13_join_90 : decode cX13_join 90 = .ok (.iastore, 1) := by decide +kernel
theorem dX13_join_91 : decode cX13_join 91 = .ok (.aload_n 0, 1) := by decide +kernel
theorem dX13_join_92 : decode cX13_join 92 = .ok (.getfield 57, 3) := by decide +kernel
theorem dX13_join_95 : decode cX13_join 95 = .ok (.iload_n 1, 1) := by decide +kernel
theorem dX13_join_96 : decode cX13_join 96 = .ok (.aload_n 0, 1) := by decide +kernel
theorem dX13_join_97 : decode cX13_join 97 = .ok (.getfield 226, 3) := by decide +kernel
theorem dX13_join_100 : decode cX13_join 100 = .ok (.ldc2_w 273, 3) := by decide +kernel
theorem dX13_join_103 : decode cX13_join 103 = .ok (.aload_n 0, 1) := by decide +kernel
theorem dX13_join_104 : decode cX13_join 104 = .ok (.getfield 17, 3) := by decide +kernel
theorem dX13_join_107 : decode cX13_join 107 = .ok (.iload_n 1, 1) := by decide +kernel
theorem dX13_join_108 : decode cX13_join 108 = .ok (.iaload, 1) := by decide +kernel
theorem dX13_join_109 : decode cX13_join 109 = .ok (.i2l, 1) := by decide +kernel
theorem dX13_join_110 : decode cX13_join 110 = .ok (.lmul, 1) := by decide +kernel
theorem dX13_join_111 : decode cX13_join 111 = .ok (.ldc2_w 275, 3) := by decide +kernel
theorem dX13_join_114 : decode cX13_join 114 = .ok (.lrem, 1) := by decide +kernel
theorem dX13_join_115 : decode cX13_join 115 = .ok (.ladd, 1) := by decide +kernel
theorem dX13_join_116 : decode cX13_join 116 = .ok (.lastore, 1) := by decide +kernel
theorem dX13_join_117 : decode cX13_join 117 = .ok (.iinc 1 1, 3) := by decide +kernel
theorem dX13_join_120 : decode cX13_join 120 = .ok (.goto (-113), 3) := by decide +kernel
theorem dX13_join_123 : decode cX13_join 123 = .ok (.return_, 1) := by decide +kernel
theorem dX13_lose_0 : decode cX13_lose 0 = .ok (.aload_n 0, 1) := by decide +kernel
theorem dX13_lose_1 : decode cX13_lose 1 = .ok (.iconst 0, 1) := by decide +kernel
theorem dX13_lose_2 : decode cX13_lose 2 = .ok (.putfield 184, 3) := by decide +kernel
theorem dX13_lose_5 : decode cX13_lose 5 = .ok (.aload_n 0, 1) := by decide +kernel
theorem dX13_lose_6 : decode cX13_lose 6 = .ok (.iload_n 1, 1) := by decide +kernel
theorem dX13_lose_7 : decode cX13_lose 7 = .ok (.invokevirtual 386, 3) := by decide +kernel
theorem dX13_lose_10 : decode cX13_lose 10 = .ok (.ifCond .eq 23, 3) := by decide +kernel
theorem dX13_lose_13 : decode cX13_lose 13 = .ok (.aload_n 0, 1) := by decide +kernel
theorem dX13_lose_14 : decode cX13_lose 14 = .ok (.getfield 13, 3) := by decide +kernel
theorem dX13_lose_17 : decode cX13_lose 17 = .ok (.iload_n 1, 1) := by decide +kernel
theorem dX13_lose_18 : decode cX13_lose 18 = .ok (.baload, 1) := by decide +kernel
theorem dX13_lose_19 : decode cX13_lose 19 = .ok (.ifCond .eq 14, 3) := by decide +kernel
theorem dX13_lose_22 : decode cX13_lose 22 = .ok (.iload_n 2, 1) := by decide +kernel
theorem dX13_lose_23 : decode cX13_lose 23 = .ok (.ifCond .lt 10, 3) := by decide +kernel
theorem dX13_lose_26 : decode cX13_lose 26 = .ok (.iload_n 2, 1) := by decide +kernel
theorem dX13_lose_27 : decode cX13_lose 27 = .ok (.sipush 1000, 3) := by decide +kernel
theorem dX13_lose_30 : decode cX13_lose 30 = .ok (.if_icmp .le 5, 3) := by decide +kernel
theorem dX13_lose_33 : decode cX13_lose 33 = .ok (.iconst 0, 1) := by decide +kernel
theorem dX13_lose_34 : decode cX13_lose 34 = .ok (.ireturn, 1) := by decide +kernel
theorem dX13_lose_35 : decode cX13_lose 35 = .ok (.aload_n 0, 1) := by decide +kernel
theorem dX13_lose_36 : decode cX13_lose 36 = .ok (.getfield 29, 3) := by decide +kernel
theorem dX13_lose_39 : decode cX13_lose 39 = .ok (.iload_n 1, 1) := by decide +kernel
theorem dX13_lose_40 : decode cX13_lose 40 = .ok (.iload_n 2, 1) := by decide +kernel
theorem dX13_lose_41 : decode cX13_lose 41 = .ok (.iastore, 1) := by decide +kernel
theorem dX13_lose_42 : decode cX13_lose 42 = .ok (.iconst 1, 1) := by decide +kernel
theorem dX13_lose_43 : decode cX13_lose 43 = .ok (.ireturn, 1) := by decide +kernel
theorem dX13_give_0 : decode cX13_give 0 = .ok (.aload_n 0, 1) := by decide +kernel
theorem dX13_give_1 : decode cX13_give 1 = .ok (.iconst 0, 1) := by decide +kernel
theorem dX13_give_2 : decode cX13_give 2 = .ok (.putfield 184, 3) := by decide +kernel
theorem dX13_give_5 : decode cX13_give 5 = .ok (.aload_n 0, 1) := by decide +kernel
theorem dX13_give_6 : decode cX13_give 6 = .ok (.aload_n 0, 1) := by decide +kernel
theorem dX13_give_7 : decode cX13_give 7 = .ok (.getfield 188, 3) := by decide +kernel
theorem dX13_give_10 : decode cX13_give 10 = .ok (.putfield 318, 3) := by decide +kernel
theorem dX13_give_13 : decode cX13_give 13 = .ok (.aload_n 0, 1) := by decide +kernel
theorem dX13_give_14 : decode cX13_give 14 = .ok (.iconst 0, 1) := by decide +kernel
theorem dX13_give_15 : decode cX13_give 15 = .ok (.putfield 188, 3) := by decide +kernel
theorem dX13_give_18 : decode cX13_give 18 = .ok (.iconst 0, 1) := by decide +kernel
theorem dX13_give_19 : decode cX13_give 19 = .ok (.istore_n 2, 1) := by decide +kernel
theorem dX13_give_20 : decode cX13_give 20 = .ok (.iload_n 2, 1) := by decide +kernel
theorem dX13_give_21 : decode cX13_give 21 = .ok (.aload_n 0, 1) := by decide +kernel
theorem dX13_give_22 : decode cX13_give 22 = .ok (.getfield 318, 3) := by decide +kernel
theorem dX13_give_25 : decode cX13_give 25 = .ok (.if_icmp .ge 21, 3) := by decide +kernel
theorem dX13_give_28 : decode cX13_give 28 = .ok (.aload_n 0, 1) := by decide +kernel
theorem dX13_give_29 : decode cX13_give 29 = .ok (.getfield 160, 3) := by decide +kernel
theorem dX13_give_32 : decode cX13_give 32 = .ok (.iload_n 2, 1) := by decide +kernel
theorem dX13_give_33 : decode cX13_give 33 = .ok (.aload_n 0, 1) := by decide +kernel
theorem dX13_give_34 : decode cX13_give 34 = .ok (.getfield 7, 3) := by decide +kernel
theorem dX13_give_37 : decode cX13_give 37 = .ok (.iload_n 2, 1) := by decide +kernel
theorem dX13_give_38 : decode cX13_give 38 = .ok (.iaload, 1) := by decide +kernel
theorem dX13_give_39 : decode cX13_give 39 = .ok (.iastore, 1) := by decide +kernel
theorem dX13_give_40 : decode cX13_give 40 = .ok (.iinc 2 1, 3) := by decide +kernel
theorem dX13_give_43 : decode cX13_give 43 = .ok (.goto (-23), 3) := by decide +kernel
theorem dX13_give_46 : decode cX13_give 46 = .ok (.aload_n 0, 1) := by decide +kernel
theorem dX13_give_47 : decode cX13_give 47 = .ok (.iload_n 1, 1) := by decide +kernel
theorem dX13_give_48 : decode cX13_give 48 = .ok (.invokevirtual 386, 3) := by decide +kernel
theorem dX13_give_51 : decode cX13_give 51 = .ok (.ifCond .eq 12, 3) := by decide +kernel
theorem dX13_give_54 : decode cX13_give 54 = .ok (.aload_n 0, 1) := by decide +kernel
theorem dX13_give_55 : decode cX13_give 55 = .ok (.getfield 13, 3) := by decide +kernel
theorem dX13_give_58 : decode cX13_give 58 = .ok (.iload_n 1, 1) := by decide +kernel
theorem dX13_give_59 : decode cX13_give 59 = .ok (.baload, 1) := by decide +kernel
theorem dX13_give_60 : decode cX13_give 60 = .ok (.ifCond .ne 5, 3) := by decide +kernel
theorem dX13_give_63 : decode cX13_give 63 = .ok (.iconst (-1), 1) := by decide +kernel
theorem dX13_give_64 : decode cX13_give 64 = .ok (.ireturn, 1) := by decide +kernel
theorem dX13_give_65 : decode cX13_give 65 = .ok (.aload_n 0, 1) := by decide +kernel
theorem dX13_give_66 : decode cX13_give 66 = .ok (.iload_n 1, 1) := by decide +kernel
theorem dX13_give_67 : decode cX13_give 67 = .ok (.invokevirtual 321, 3) := by decide +kernel
theorem dX13_give_70 : decode cX13_give 70 = .ok (.ifCond .eq 7, 3) := by decide +kernel
theorem dX13_give_73 : decode cX13_give 73 = .ok (.iconst 0, 1) := by decide +kernel
theorem dX13_give_74 : decode cX13_give 74 = .ok (.goto 4, 3) := by decide +kernel
theorem dX13_give_77 : decode cX13_give 77 = .ok (.iconst 1, 1) := by decide +kernel
theorem dX13_give_78 : decode cX13_give 78 = .ok (.ireturn, 1) := by decide +kernel
theorem dX13_fails_0 : decode cX13_fails 0 = .ok (.aload_n 0, 1) := by decide +kernel
theorem dX13_fails_1 : decode cX13_fails 1 = .ok (.iload_n 1, 1) := by decide +kernel
theorem dX13_fails_2 : decode cX13_fails 2 = .ok (.putfield 184, 3) := by decide +kernel
theorem dX13_fails_5 : decode cX13_fails 5 = .ok (.iconst 0, 1) := by decide +kernel
theorem dX13_fails_6 : decode cX13_fails 6 = .ok (.ireturn, 1) := by decide +kernel
theorem dX13_look_0 : decode cX13_look 0 = .ok (.aload_n 0, 1) := by decide +kernel
theorem dX13_look_1 : decode cX13_look 1 = .ok (.iconst 0, 1) := by decide +kernel
theorem dX13_look_2 : decode cX13_look 2 = .ok (.putfield 184, 3) := by decide +kernel
theorem dX13_look_5 : decode cX13_look 5 = .ok (.aload_n 0, 1) := by decide +kernel
theorem dX13_look_6 : decode cX13_look 6 = .ok (.iload_n 1, 1) := by decide +kernel
theorem dX13_look_7 : decode cX13_look 7 = .ok (.invokevirtual 386, 3) := by decide +kernel
theorem dX13_look_10 : decode cX13_look 10 = .ok (.ifCond .ne 9, 3) := by decide +kernel
theorem dX13_look_13 : decode cX13_look 13 = .ok (.aload_n 0, 1) := by decide +kernel
theorem dX13_look_14 : decode cX13_look 14 = .ok (.iconst 1, 1) := by decide +kernel
theorem dX13_look_15 : decode cX13_look 15 = .ok (.invokevirtual 402, 3) := by decide +kernel
theorem dX13_look_18 : decode cX13_look 18 = .ok (.ireturn, 1) := by decide +kernel
theorem dX13_look_19 : decode cX13_look 19 = .ok (.iload_n 2, 1) := by decide +kernel
theorem dX13_look_20 : decode cX13_look 20 = .ok (.ifCond .lt 9, 3) := by decide +kernel
theorem dX13_look_23 : decode cX13_look 23 = .ok (.iload_n 2, 1) := by decide +kernel
theorem dX13_look_24 : decode cX13_look 24 = .ok (.bipush 11, 2) := by decide +kernel
theorem dX13_look_26 : decode cX13_look 26 = .ok (.if_icmp .le 9, 3) := by decide +kernel
theorem dX13_look_29 : decode cX13_look 29 = .ok (.aload_n 0, 1) := by decide +kernel
theorem dX13_look_30 : decode cX13_look 30 = .ok (.iconst 2, 1) := by decide +kernel
theorem dX13_look_31 : decode cX13_look 31 = .ok (.invokevirtual 402, 3) := by decide +kernel
theorem dX13_look_34 : decode cX13_look 34 = .ok (.ireturn, 1) := by decide +kernel
theorem dX13_look_35 : decode cX13_look 35 = .ok (.iload_n 2, 1) := by decide +kernel
theorem dX13_look_36 : decode cX13_look 36 = .ok (.bipush 9, 2) := by decide +kernel
theorem dX13_look_38 : decode cX13_look 38 = .ok (.if_icmp .ne 10, 3) := by decide +kernel
theorem dX13_look_41 : decode cX13_look 41 = .ok (.aload_n 0, 1) := by decide +kernel
theorem dX13_look_42 : decode cX13_look 42 = .ok (.getfield 20, 3) := by decide +kernel
theorem dX13_look_45 : decode cX13_look 45 = .ok (.iload_n 1, 1) := by decide +kernel
theorem dX13_look_46 : decode cX13_look 46 = .ok (.iaload, 1) := by decide +kernel
theorem dX13_look_47 : decode cX13_look 47 = .ok (.ireturn, 1) := by decide +kernel
theorem dX13_look_48 : decode cX13_look 48 = .ok (.aload_n 0, 1) := by decide +kernel
theorem dX13_look_49 : decode cX13_look 49 = .ok (.getfield 13, 3) := by decide +kernel
theorem dX13_look_52 : decode cX13_look 52 = .ok (.iload_n 1, 1) := by decide +kernel
theorem dX13_look_53 : decode cX13_look 53 = .ok (.baload, 1) := by decide +kernel
theorem dX13_look_54 : decode cX13_look 54 = .ok (.ifCond .ne 14, 3) := by decide +kernel
theorem dX13_look_57 : decode cX13_look 57 = .ok (.iload_n 2, 1) := by decide +kernel
theorem dX13_look_58 : decode cX13_look 58 = .ok (.iconst 2, 1) := by decide +kernel
theorem dX13_look_59 : decode cX13_look 59 = .ok (.if_icmp .ne 7, 3) := by decide +kernel
theorem dX13_look_62 : decode cX13_look 62 = .ok (.iconst (-1), 1) := by decide +kernel
theorem dX13_look_63 : decode cX13_look 63 = .ok (.goto 4, 3) := by decide +kernel
theorem dX13_look_66 : decode cX13_look 66 = .ok (.iconst 0, 1) := by decide +kernel
theorem dX13_look_67 : decode cX13_look 67 = .ok (.ireturn, 1) := by decide +kernel
theorem dX13_look_68 : decode cX13_look 68 = .ok (.iload_n 2, 1) := by decide +kernel
theorem dX13_look_69 : decode cX13_look 69 = .ok (.tableswitch 172 0 10 #[59, 61, 68, 87, 94, 101, 108, 115, 158, 172, 165], 59) := by decide +kernel
theorem dX13_look_128 : decode cX13_look 128 = .ok (.iconst 1, 1) := by decide +kernel
theorem dX13_look_129 : decode cX13_look 129 = .ok (.ireturn, 1) := by decide +kernel
theorem dX13_look_130 : decode cX13_look 130 = .ok (.aload_n 0, 1) := by decide +kernel
theorem dX13_look_131 : decode cX13_look 131 = .ok (.getfield 17, 3) := by decide +kernel
theorem dX13_look_134 : decode cX13_look 134 = .ok (.iload_n 1, 1) := by decide +kernel
theorem dX13_look_135 : decode cX13_look 135 = .ok (.iaload, 1) := by decide +kernel
theorem dX13_look_136 : decode cX13_look 136 = .ok (.ireturn, 1) := by decide +kernel
theorem dX13_look_137 : decode cX13_look 137 = .ok (.aload_n 0, 1) := by decide +kernel
theorem dX13_look_138 : decode cX13_look 138 = .ok (.getfield 41, 3) := by decide +kernel
theorem dX13_look_141 : decode cX13_look 141 = .ok (.iload_n 1, 1) := by decide +kernel
theorem dX13_look_142 : decode cX13_look 142 = .ok (.baload, 1) := by decide +kernel
theorem dX13_look_143 : decode cX13_look 143 = .ok (.ifCond .eq 11, 3) := by decide +kernel
theorem dX13_look_146 : decode cX13_look 146 = .ok (.aload_n 0, 1) := by decide +kernel
theorem dX13_look_147 : decode cX13_look 147 = .ok (.iload_n 1, 1) := by decide +kernel
theorem dX13_look_148 : decode cX13_look 148 = .ok (.invokevirtual 240, 3) := by decide +kernel
theorem dX13_look_151 : decode cX13_look 151 = .ok (.goto 4, 3) := by decide +kernel
theorem dX13_look_154 : decode cX13_look 154 = .ok (.iconst (-1), 1) := by decide +kernel
theorem dX13_look_155 : decode cX13_look 155 = .ok (.ireturn, 1) := by decide +kernel
theorem dX13_look_156 : decode cX13_look 156 = .ok (.aload_n 0, 1) := by decide +kernel
theorem dX13_look_157 : decode cX13_look 157 = .ok (.getfield 23, 3) := by decide +kernel
theorem dX13_look_160 : decode cX13_look 160 = .ok (.iload_n 1, 1) := by decide +kernel
theorem dX13_look_161 : decode cX13_look 161 = .ok (.iaload, 1) := by decide +kernel
theorem dX13_look_162 : decode cX13_look 162 = .ok (.ireturn, 1) := by decide +kernel
theorem dX13_look_163 : decode cX13_look 163 = .ok (.aload_n 0, 1) := by decide +kernel
theorem dX13_look_164 : decode cX13_look 164 = .ok (.getfield 51, 3) := by decide +kernel
theorem dX13_look_167 : decode cX13_look 167 = .ok (.iload_n 1, 1) := by decide +kernel
theorem dX13_look_168 : decode cX13_look 168 = .ok (.iaload, 1) := by decide +kernel
theorem dX13_look_169 : decode cX13_look 169 = .ok (.ireturn, 1) := by decide +kernel
theorem dX13_look_170 : decode cX13_look 170 = .ok (.aload_n 0, 1) := by decide +kernel
theorem dX13_look_171 : decode cX13_look 171 = .ok (.getfield 26, 3) := by decide +kernel
theorem dX13_look_174 : decode cX13_look 174 = .ok (.iload_n 1, 1) := by decide +kernel
theorem dX13_look_175 : decode cX13_look 175 = .ok (.iaload, 1) := by decide +kernel
theorem dX13_look_176 : decode cX13_look 176 = .ok (.ireturn, 1) := by decide +kernel
theorem dX13_look_177 : decode cX13_look 177 = .ok (.aload_n 0, 1) := by decide +kernel
theorem dX13_look_178 : decode cX13_look 178 = .ok (.getfield 75, 3) := by decide +kernel
theorem dX13_look_181 : decode cX13_look 181 = .ok (.iload_n 1, 1) := by decide +kernel
theorem dX13_look_182 : decode cX13_look 182 = .ok (.iaload, 1) := by decide +kernel
theorem dX13_look_183 : decode cX13_look 183 = .ok (.ireturn, 1) := by decide +kernel
theorem dX13_look_184 : decode cX13_look 184 = .ok (.iconst 0, 1) := by decide +kernel
theorem dX13_look_185 : decode cX13_look 185 = .ok (.istore_n 3, 1) := by decide +kernel
theorem dX13_look_186 : decode cX13_look 186 = .ok (.iconst 4, 1) := by decide +kernel
theorem dX13_look_187 : decode cX13_look 187 = .ok (.iload_n 1, 1) := by decide +kernel
theorem dX13_look_188 : decode cX13_look 188 = .ok (.imul, 1) := by decide +kernel
theorem dX13_look_189 : decode cX13_look 189 = .ok (.istore 4, 2) := by decide +kernel
theorem dX13_look_191 : decode cX13_look 191 = .ok (.iload 4, 2) := by decide +kernel
theorem dX13_look_193 : decode cX13_look 193 = .ok (.iconst 4, 1) := by decide +kernel
theorem dX13_look_194 : decode cX13_look 194 = .ok (.iload_n 1, 1) := by decide +kernel
theorem dX13_look_195 : decode cX13_look 195 = .ok (.imul, 1) := by decide +kernel
theorem dX13_look_196 : decode cX13_look 196 = .ok (.iconst 4, 1) := by decide +kernel
theorem dX13_look_197 : decode cX13_look 197 = .ok (.iadd, 1) := by decide +kernel
theorem dX13_look_198 : decode cX13_look 198 = .ok (.if_icmp .ge 27, 3) := by decide +kernel
theorem dX13_look_201 : decode cX13_look 201 = .ok (.iload_n 3, 1) := by decide +kernel
theorem dX13_look_202 : decode cX13_look 202 = .ok (.aload_n 0, 1) := by decide +kernel
theorem dX13_look_203 : decode cX13_look 203 = .ok (.getfield 81, 3) := by decide +kernel
theorem dX13_look_206 : decode cX13_look 206 = .ok (.iload 4, 2) := by decide +kernel
theorem dX13_look_208 : decode cX13_look 208 = .ok (.iaload, 1) := by decide +kernel
theorem dX13_look_209 : decode cX13_look 209 = .ok (.ifCond .le 7, 3) := by decide +kernel
theorem dX13_look_212 : decode cX13_look 212 = .ok (.iconst 1, 1) := by decide +kernel
theorem dX13_look_213 : decode cX13_look 213 = .ok (.goto 4, 3) := by decide +kernel
theorem dX13_look_216 : decode cX13_look 216 = .ok (.iconst 0, 1) := by decide +kernel
theorem dX13_look_217 : decode cX13_look 217 = .ok (.iadd, 1) := by decide +kernel
theorem dX13_look_218 : decode cX13_look 218 = .ok (.istore_n 3, 1) := by decide +kernel
theorem dX13_look_219 : decode cX13_look 219 = .ok (.iinc 4 1, 3) := by decide +kernel
theorem dX13_look_222 : decode cX13_look 222 = .ok (.goto (-31), 3) := by decide +kernel
theorem dX13_look_225 : decode cX13_look 225 = .ok (.iload_n 3, 1) := by decide +kernel
theorem dX13_look_226 : decode cX13_look 226 = .ok (.ireturn, 1) := by decide +kernel
theorem dX13_look_227 : decode cX13_look 227 = .ok (.aload_n 0, 1) := by decide +kernel
theorem dX13_look_228 : decode cX13_look 228 = .ok (.getfield 99, 3) := by decide +kernel
theorem dX13_look_231 : decode cX13_look 231 = .ok (.iload_n 1, 1) := by decide +kernel
theorem dX13_look_232 : decode cX13_look 232 = .ok (.iaload, 1) := by decide +kernel
theorem dX13_look_233 : decode cX13_look 233 = .ok (.ireturn, 1) := by decide +kernel
theorem dX13_look_234 : decode cX13_look 234 = .ok (.aload_n 0, 1) := by decide +kernel
theorem dX13_look_235 : decode cX13_look 235 = .ok (.getfield 32, 3) := by decide +kernel
theorem dX13_look_238 : decode cX13_look 238 = .ok (.iload_n 1, 1) := by decide +kernel
theorem dX13_look_239 : decode cX13_look 239 = .ok (.iaload, 1) := by decide +kernel
theorem dX13_look_240 : decode cX13_look 240 = .ok (.ireturn, 1) := by decide +kernel
theorem dX13_look_241 : decode cX13_look 241 = .ok (.aload_n 0, 1) := by decide +kernel
theorem dX13_look_242 : decode cX13_look 242 = .ok (.getfield 35, 3) := by decide +kernel
theorem dX13_look_245 : decode cX13_look 245 = .ok (.iload_n 1, 1) := by decide +kernel
theorem dX13_look_246 : decode cX13_look 246 = .ok (.iaload, 1) := by decide +kernel
theorem dX13_look_247 : decode cX13_look 247 = .ok (.ireturn, 1) := by decide +kernel
theorem dX13_sign_0 : decode cX13_sign 0 = .ok (.aload_n 0, 1) := by decide +kernel
theorem dX13_sign_1 : decode cX13_sign 1 = .ok (.iconst 0, 1) := by decide +kernel
theorem dX13_sign_2 : decode cX13_sign 2 = .ok (.putfield 184, 3) := by decide +kernel
theorem dX13_sign_5 : decode cX13_sign 5 = .ok (.aload_n 0, 1) := by decide +kernel
theorem dX13_sign_6 : decode cX13_sign 6 = .ok (.iload_n 1, 1) := by decide +kernel
theorem dX13_sign_7 : decode cX13_sign 7 = .ok (.invokevirtual 386, 3) := by decide +kernel
theorem dX13_sign_10 : decode cX13_sign 10 = .ok (.ifCond .eq 55, 3) := by decide +kernel
theorem dX13_sign_13 : decode cX13_sign 13 = .ok (.aload_n 0, 1) := by decide +kernel
theorem dX13_sign_14 : decode cX13_sign 14 = .ok (.getfield 13, 3) := by decide +kernel
theorem dX13_sign_17 : decode cX13_sign 17 = .ok (.iload_n 1, 1) := by decide +kernel
theorem dX13_sign_18 : decode cX13_sign 18 = .ok (.baload, 1) := by decide +kernel
theorem dX13_sign_19 : decode cX13_sign 19 = .ok (.ifCond .eq 46, 3) := by decide +kernel
theorem dX13_sign_22 : decode cX13_sign 22 = .ok (.aload_n 0, 1) := by decide +kernel
theorem dX13_sign_23 : decode cX13_sign 23 = .ok (.getfield 51, 3) := by decide +kernel
theorem dX13_sign_26 : decode cX13_sign 26 = .ok (.iload_n 1, 1) := by decide +kernel
theorem dX13_sign_27 : decode cX13_sign 27 = .ok (.iaload, 1) := by decide +kernel
theorem dX13_sign_28 : decode cX13_sign 28 = .ok (.iconst 1, 1) := by decide +kernel
theorem dX13_sign_29 : decode cX13_sign 29 = .ok (.if_icmp .le 36, 3) := by decide +kernel
theorem dX13_sign_32 : decode cX13_sign 32 = .ok (.iload_n 2, 1) := by decide +kernel
theorem dX13_sign_33 : decode cX13_sign 33 = .ok (.ifCond .lt 32, 3) := by decide +kernel
theorem dX13_sign_36 : decode cX13_sign 36 = .ok (.iload_n 2, 1) := by decide +kernel
theorem dX13_sign_37 : decode cX13_sign 37 = .ok (.aload_n 0, 1) := by decide +kernel
theorem dX13_sign_38 : decode cX13_sign 38 = .ok (.getfield 66, 3) := by decide +kernel
theorem dX13_sign_41 : decode cX13_sign 41 = .ok (.bipush 16, 2) := by decide +kernel
theorem dX13_sign_43 : decode cX13_sign 43 = .ok (.iload_n 1, 1) := by decide +kernel
theorem dX13_sign_44 : decode cX13_sign 44 = .ok (.imul, 1) := by decide +kernel
theorem dX13_sign_45 : decode cX13_sign 45 = .ok (.iaload, 1) := by decide +kernel
theorem dX13_sign_46 : decode cX13_sign 46 = .ok (.if_icmp .ge 19, 3) := by decide +kernel
theorem dX13_sign_49 : decode cX13_sign 49 = .ok (.aload_n 0, 1) := by decide +kernel
theorem dX13_sign_50 : decode cX13_sign 50 = .ok (.getfield 66, 3) := by decide +kernel
theorem dX13_sign_53 : decode cX13_sign 53 = .ok (.bipush 16, 2) := by decide +kernel
theorem dX13_sign_55 : decode cX13_sign 55 = .ok (.iload_n 1, 1) := by decide +kernel
theorem dX13_sign_56 : decode cX13_sign 56 = .ok (.imul, 1) := by decide +kernel
theorem dX13_sign_57 : decode cX13_sign 57 = .ok (.iconst 1, 1) := by decide +kernel
theorem dX13_sign_58 : decode cX13_sign 58 = .ok (.iadd, 1) := by decide +kernel
theorem dX13_sign_59 : decode cX13_sign 59 = .ok (.iload_n 2, 1) := by decide +kernel
theorem dX13_sign_60 : decode cX13_sign 60 = .ok (.iadd, 1) := by decide +kernel
theorem dX13_sign_61 : decode cX13_sign 61 = .ok (.iaload, 1) := by decide +kernel
theorem dX13_sign_62 : decode cX13_sign 62 = .ok (.goto 4, 3) := by decide +kernel
theorem dX13_sign_65 : decode cX13_sign 65 = .ok (.iconst (-1), 1) := by decide +kernel
theorem dX13_sign_66 : decode cX13_sign 66 = .ok (.ireturn, 1) := by decide +kernel
theorem dX13_foundAt_0 : decode cX13_foundAt 0 = .ok (.iconst 0, 1) := by decide +kernel
theorem dX13_foundAt_1 : decode cX13_foundAt 1 = .ok (.istore 4, 2) := by decide +kernel
theorem dX13_foundAt_3 : decode cX13_foundAt 3 = .ok (.bipush 24, 2) := by decide +kernel
theorem dX13_foundAt_5 : decode cX13_foundAt 5 = .ok (.iload_n 1, 1) := by decide +kernel
theorem dX13_foundAt_6 : decode cX13_foundAt 6 = .ok (.imul, 1) := by decide +kernel
theorem dX13_foundAt_7 : decode cX13_foundAt 7 = .ok (.istore 5, 2) := by decide +kernel
theorem dX13_foundAt_9 : decode cX13_foundAt 9 = .ok (.iload 5, 2) := by decide +kernel
theorem dX13_foundAt_11 : decode cX13_foundAt 11 = .ok (.bipush 24, 2) := by decide +kernel
theorem dX13_foundAt_13 : decode cX13_foundAt 13 = .ok (.iload_n 1, 1) := by decide +kernel
theorem dX13_foundAt_14 : decode cX13_foundAt 14 = .ok (.imul, 1) := by decide +kernel
theorem dX13_foundAt_15 : decode cX13_foundAt 15 = .ok (.aload_n 0, 1) := by decide +kernel
theorem dX13_foundAt_16 : decode cX13_foundAt 16 = .ok (.getfield 99, 3) := by decide +kernel
theorem dX13_foundAt_19 : decode cX13_foundAt 19 = .ok (.iload_n 1, 1) := by decide +kernel
theorem dX13_foundAt_20 : decode cX13_foundAt 20 = .ok (.iaload, 1) := by decide +kernel
theorem dX13_foundAt_21 : decode cX13_foundAt 21 = .ok (.iadd, 1) := by decide +kernel
theorem dX13_foundAt_22 : decode cX13_foundAt 22 = .ok (.if_icmp .ge 72, 3) := by decide +kernel
theorem dX13_foundAt_25 : decode cX13_foundAt 25 = .ok (.aload_n 0, 1) := by decide +kernel
theorem dX13_foundAt_26 : decode cX13_foundAt 26 = .ok (.getfield 102, 3) := by decide +kernel
theorem dX13_foundAt_29 : decode cX13_foundAt 29 = .ok (.iload 5, 2) := by decide +kernel
theorem dX13_foundAt_31 : decode cX13_foundAt 31 = .ok (.iaload, 1) := by decide +kernel
theorem dX13_foundAt_32 : decode cX13_foundAt 32 = .ok (.aload_n 0, 1) := by decide +kernel
theorem dX13_foundAt_33 : decode cX13_foundAt 33 = .ok (.getfield 81, 3) := by decide +kernel
theorem dX13_foundAt_36 : decode cX13_foundAt 36 = .ok (.iconst 4, 1) := by decide +kernel
theorem dX13_foundAt_37 : decode cX13_foundAt 37 = .ok (.iload_n 1, 1) := by decide +kernel
theorem dX13_foundAt_38 : decode cX13_foundAt 38 = .ok (.imul, 1) := by decide +kernel
theorem dX13_foundAt_39 : decode cX13_foundAt 39 = .ok (.iload_n 2, 1) := by decide +kernel
theorem dX13_foundAt_40 : decode cX13_foundAt 40 = .ok (.iadd, 1) := by decide +kernel
theorem dX13_foundAt_41 : decode cX13_foundAt 41 = .ok (.iaload, 1) := by decide +kernel
theorem dX13_foundAt_42 : decode cX13_foundAt 42 = .ok (.if_icmp .ne 46, 3) := by decide +kernel
theorem dX13_foundAt_45 : decode cX13_foundAt 45 = .ok (.aload_n 0, 1) := by decide +kernel
theorem dX13_foundAt_46 : decode cX13_foundAt 46 = .ok (.getfield 123, 3) := by decide +kernel
theorem dX13_foundAt_49 : decode cX13_foundAt 49 = .ok (.bipush 16, 2) := by decide +kernel
theorem dX13_foundAt_51 : decode cX13_foundAt 51 = .ok (.iload 5, 2) := by decide +kernel
theorem dX13_foundAt_53 : decode cX13_foundAt 53 = .ok (.imul, 1) := by decide +kernel
theorem dX13_foundAt_54 : decode cX13_foundAt 54 = .ok (.aload_n 0, 1) := by decide +kernel
theorem dX13_foundAt_55 : decode cX13_foundAt 55 = .ok (.getfield 78, 3) := by decide +kernel
theorem dX13_foundAt_58 : decode cX13_foundAt 58 = .ok (.bipush 64, 2) := by decide +kernel
theorem dX13_foundAt_60 : decode cX13_foundAt 60 = .ok (.iload_n 1, 1) := by decide +kernel
theorem dX13_foundAt_61 : decode cX13_foundAt 61 = .ok (.imul, 1) := by decide +kernel
theorem dX13_foundAt_62 : decode cX13_foundAt 62 = .ok (.bipush 16, 2) := by decide +kernel
theorem dX13_foundAt_64 : decode cX13_foundAt 64 = .ok (.iload_n 2, 1) := by decide +kernel
theorem dX13_foundAt_65 : decode cX13_foundAt 65 = .ok (.imul, 1) := by decide +kernel
theorem dX13_foundAt_66 : decode cX13_foundAt 66 = .ok (.iadd, 1) := by decide +kernel
theorem dX13_foundAt_67 : decode cX13_foundAt 67 = .ok (.invokestatic 257, 3) := by decide +kernel
theorem dX13_foundAt_70 : decode cX13_foundAt 70 = .ok (.ifCond .ne 6, 3) := by decide +kernel
theorem dX13_foundAt_73 : decode cX13_foundAt 73 = .ok (.goto 15, 3) := by decide +kernel
theorem dX13_foundAt_76 : decode cX13_foundAt 76 = .ok (.iload 4, 2) := by decide +kernel
theorem dX13_foundAt_78 : decode cX13_foundAt 78 = .ok (.iload_n 3, 1) := by decide +kernel
theorem dX13_foundAt_79 : decode cX13_foundAt 79 = .ok (.if_icmp .ne 6, 3) := by decide +kernel
theorem dX13_foundAt_82 : decode cX13_foundAt 82 = .ok (.iload 5, 2) := by decide +kernel
theorem dX13_foundAt_84 : decode cX13_foundAt 84 = .ok (.ireturn, 1) := by decide +kernel
theorem dX13_foundAt_85 : decode cX13_foundAt 85 = .ok (.iinc 4 1, 3) := by decide +kernel
theorem dX13_foundAt_88 : decode cX13_foundAt 88 = .ok (.iinc 5 1, 3) := by decide +kernel
theorem dX13_foundAt_91 : decode cX13_foundAt 91 = .ok (.goto (-82), 3) := by decide +kernel
theorem dX13_foundAt_94 : decode cX13_foundAt 94 = .ok (.iconst (-1), 1) := by decide +kernel
theorem dX13_foundAt_95 : decode cX13_foundAt 95 = .ok (.ireturn, 1) := by decide +kernel
theorem dX13_answers_0 : decode cX13_answers 0 = .ok (.aload_n 0, 1) := by decide +kernel
theorem dX13_answers_1 : decode cX13_answers 1 = .ok (.iconst 0, 1) := by decide +kernel
theorem dX13_answers_2 : decode cX13_answers 2 = .ok (.putfield 184, 3) := by decide +kernel
theorem dX13_answers_5 : decode cX13_answers 5 = .ok (.aload_n 0, 1) := by decide +kernel
theorem dX13_answers_6 : decode cX13_answers 6 = .ok (.iload_n 1, 1) := by decide +kernel
theorem dX13_answers_7 : decode cX13_answers 7 = .ok (.iload_n 2, 1) := by decide +kernel
theorem dX13_answers_8 : decode cX13_answers 8 = .ok (.invokevirtual 398, 3) := by decide +kernel
theorem dX13_answers_11 : decode cX13_answers 11 = .ok (.ifCond .ne 5, 3) := by decide +kernel
theorem dX13_answers_14 : decode cX13_answers 14 = .ok (.iconst (-1), 1) := by decide +kernel
theorem dX13_answers_15 : decode cX13_answers 15 = .ok (.ireturn, 1) := by decide +kernel
theorem dX13_answers_16 : decode cX13_answers 16 = .ok (.iconst 0, 1) := by decide +kernel
theorem dX13_answers_17 : decode cX13_answers 17 = .ok (.istore_n 3, 1) := by decide +kernel
theorem dX13_answers_18 : decode cX13_answers 18 = .ok (.aload_n 0, 1) := by decide +kernel
theorem dX13_answers_19 : decode cX13_answers 19 = .ok (.iload_n 1, 1) := by decide +kernel
theorem dX13_answers_20 : decode cX13_answers 20 = .ok (.iload_n 2, 1) := by decide +kernel
theorem dX13_answers_21 : decode cX13_answers 21 = .ok (.iload_n 3, 1) := by decide +kernel
theorem dX13_answers_22 : decode cX13_answers 22 = .ok (.invokevirtual 405, 3) := by decide +kernel
theorem dX13_answers_25 : decode cX13_answers 25 = .ok (.ifCond .lt 9, 3) := by decide +kernel
theorem dX13_answers_28 : decode cX13_answers 28 = .ok (.iinc 3 1, 3) := by decide +kernel
theorem dX13_answers_31 : decode cX13_answers 31 = .ok (.goto (-13), 3) := by decide +kernel
theorem dX13_answers_34 : decode cX13_answers 34 = .ok (.iload_n 3, 1) := by decide +kernel
theorem dX13_answers_35 : decode cX13_answers 35 = .ok (.ireturn, 1) := by decide +kernel
theorem dX13_found_0 : decode cX13_found 0 = .ok (.aload_n 0, 1) := by decide +kernel
theorem dX13_found_1 : decode cX13_found 1 = .ok (.iconst 0, 1) := by decide +kernel
theorem dX13_found_2 : decode cX13_found 2 = .ok (.putfield 184, 3) := by decide +kernel
theorem dX13_found_5 : decode cX13_found 5 = .ok (.aload_n 0, 1) := by decide +kernel
theorem dX13_found_6 : decode cX13_found 6 = .ok (.iload_n 1, 1) := by decide +kernel
theorem dX13_found_7 : decode cX13_found 7 = .ok (.iload_n 2, 1) := by decide +kernel
theorem dX13_found_8 : decode cX13_found 8 = .ok (.invokevirtual 398, 3) := by decide +kernel
theorem dX13_found_11 : decode cX13_found 11 = .ok (.ifCond .eq 7, 3) := by decide +kernel
theorem dX13_found_14 : decode cX13_found 14 = .ok (.iload_n 3, 1) := by decide +kernel
theorem dX13_found_15 : decode cX13_found 15 = .ok (.ifCond .ge 5, 3) := by decide +kernel
theorem dX13_found_18 : decode cX13_found 18 = .ok (.iconst (-1), 1) := by decide +kernel
theorem dX13_found_19 : decode cX13_found 19 = .ok (.ireturn, 1) := by decide +kernel
theorem dX13_found_20 : decode cX13_found 20 = .ok (.aload_n 0, 1) := by decide +kernel
theorem dX13_found_21 : decode cX13_found 21 = .ok (.iload_n 1, 1) := by decide +kernel
theorem dX13_found_22 : decode cX13_found 22 = .ok (.iload_n 2, 1) := by decide +kernel
theorem dX13_found_23 : decode cX13_found 23 = .ok (.iload_n 3, 1) := by decide +kernel
theorem dX13_found_24 : decode cX13_found 24 = .ok (.invokevirtual 405, 3) := by decide +kernel
theorem dX13_found_27 : decode cX13_found 27 = .ok (.istore 5, 2) := by decide +kernel
theorem dX13_found_29 : decode cX13_found 29 = .ok (.iload 5, 2) := by decide +kernel
theorem dX13_found_31 : decode cX13_found 31 = .ok (.ifCond .ge 5, 3) := by decide +kernel
theorem dX13_found_34 : decode cX13_found 34 = .ok (.iconst (-1), 1) := by decide +kernel
theorem dX13_found_35 : decode cX13_found 35 = .ok (.ireturn, 1) := by decide +kernel
theorem dX13_found_36 : decode cX13_found 36 = .ok (.iload 4, 2) := by decide +kernel
theorem dX13_found_38 : decode cX13_found 38 = .ok (.tableswitch 59 0 2 #[26, 34, 48], 26) := by decide +kernel
theorem dX13_found_64 : decode cX13_found 64 = .ok (.aload_n 0, 1) := by decide +kernel
theorem dX13_found_65 : decode cX13_found 65 = .ok (.getfield 105, 3) := by decide +kernel
theorem dX13_found_68 : decode cX13_found 68 = .ok (.iload 5, 2) := by decide +kernel
theorem dX13_found_70 : decode cX13_found 70 = .ok (.iaload, 1) := by decide +kernel
theorem dX13_found_71 : decode cX13_found 71 = .ok (.ireturn, 1) := by decide +kernel
theorem dX13_found_72 : decode cX13_found 72 = .ok (.aload_n 0, 1) := by decide +kernel
theorem dX13_found_73 : decode cX13_found 73 = .ok (.getfield 114, 3) := by decide +kernel
theorem dX13_found_76 : decode cX13_found 76 = .ok (.iload 5, 2) := by decide +kernel
theorem dX13_found_78 : decode cX13_found 78 = .ok (.laload, 1) := by decide +kernel
theorem dX13_found_79 : decode cX13_found 79 = .ok (.aload_n 0, 1) := by decide +kernel
theorem dX13_found_80 : decode cX13_found 80 = .ok (.getfield 226, 3) := by decide +kernel
theorem dX13_found_83 : decode cX13_found 83 = .ok (.lsub, 1) := by decide +kernel
theorem dX13_found_84 : decode cX13_found 84 = .ok (.l2i, 1) := by decide +kernel
theorem dX13_found_85 : decode cX13_found 85 = .ok (.ireturn, 1) := by decide +kernel
theorem dX13_found_86 : decode cX13_found 86 = .ok (.aload_n 0, 1) := by decide +kernel
theorem dX13_found_87 : decode cX13_found 87 = .ok (.getfield 126, 3) := by decide +kernel
theorem dX13_found_90 : decode cX13_found 90 = .ok (.bipush 16, 2) := by decide +kernel
theorem dX13_found_92 : decode cX13_found 92 = .ok (.iload 5, 2) := by decide +kernel
theorem dX13_found_94 : decode cX13_found 94 = .ok (.imul, 1) := by decide +kernel
theorem dX13_found_95 : decode cX13_found 95 = .ok (.iaload, 1) := by decide +kernel
theorem dX13_found_96 : decode cX13_found 96 = .ok (.ireturn, 1) := by decide +kernel
theorem dX13_found_97 : decode cX13_found 97 = .ok (.iconst (-1), 1) := by decide +kernel
theorem dX13_found_98 : decode cX13_found 98 = .ok (.ireturn, 1) := by decide +kernel
theorem dX13_entry_0 : decode cX13_entry 0 = .ok (.aload_n 0, 1) := by decide +kernel
theorem dX13_entry_1 : decode cX13_entry 1 = .ok (.iconst 0, 1) := by decide +kernel
theorem dX13_entry_2 : decode cX13_entry 2 = .ok (.putfield 184, 3) := by decide +kernel
theorem dX13_entry_5 : decode cX13_entry 5 = .ok (.aload_n 0, 1) := by decide +kernel
theorem dX13_entry_6 : decode cX13_entry 6 = .ok (.iload_n 1, 1) := by decide +kernel
theorem dX13_entry_7 : decode cX13_entry 7 = .ok (.invokevirtual 386, 3) := by decide +kernel
theorem dX13_entry_10 : decode cX13_entry 10 = .ok (.ifCond .eq 26, 3) := by decide +kernel
theorem dX13_entry_13 : decode cX13_entry 13 = .ok (.aload_n 0, 1) := by decide +kernel
theorem dX13_entry_14 : decode cX13_entry 14 = .ok (.getfield 13, 3) := by decide +kernel
theorem dX13_entry_17 : decode cX13_entry 17 = .ok (.iload_n 1, 1) := by decide +kernel
theorem dX13_entry_18 : decode cX13_entry 18 = .ok (.baload, 1) := by decide +kernel
theorem dX13_entry_19 : decode cX13_entry 19 = .ok (.ifCond .eq 17, 3) := by decide +kernel
theorem dX13_entry_22 : decode cX13_entry 22 = .ok (.iload_n 2, 1) := by decide +kernel
theorem dX13_entry_23 : decode cX13_entry 23 = .ok (.ifCond .lt 13, 3) := by decide +kernel
theorem dX13_entry_26 : decode cX13_entry 26 = .ok (.iload_n 2, 1) := by decide +kernel
theorem dX13_entry_27 : decode cX13_entry 27 = .ok (.aload_n 0, 1) := by decide +kernel
theorem dX13_entry_28 : decode cX13_entry 28 = .ok (.getfield 99, 3) := by decide +kernel
theorem dX13_entry_31 : decode cX13_entry 31 = .ok (.iload_n 1, 1) := by decide +kernel
theorem dX13_entry_32 : decode cX13_entry 32 = .ok (.iaload, 1) := by decide +kernel
theorem dX13_entry_33 : decode cX13_entry 33 = .ok (.if_icmp .lt 5, 3) := by decide +kernel
theorem dX13_entry_36 : decode cX13_entry 36 = .ok (.iconst (-1), 1) := by decide +kernel
theorem dX13_entry_37 : decode cX13_entry 37 = .ok (.ireturn, 1) := by decide +kernel
theorem dX13_entry_38 : decode cX13_entry 38 = .ok (.bipush 24, 2) := by decide +kernel
theorem dX13_entry_40 : decode cX13_entry 40 = .ok (.iload_n 1, 1) := by decide +kernel
theorem dX13_entry_41 : decode cX13_entry 41 = .ok (.imul, 1) := by decide +kernel
theorem dX13_entry_42 : decode cX13_entry 42 = .ok (.iload_n 2, 1) := by decide +kernel
theorem dX13_entry_43 : decode cX13_entry 43 = .ok (.iadd, 1) := by decide +kernel
theorem dX13_entry_44 : decode cX13_entry 44 = .ok (.istore 4, 2) := by decide +kernel
theorem dX13_entry_46 : decode cX13_entry 46 = .ok (.iload_n 3, 1) := by decide +kernel
theorem dX13_entry_47 : decode cX13_entry 47 = .ok (.tableswitch 115 0 6 #[41, 49, 57, 65, 74, 85, 101], 41) := by decide +kernel
theorem dX13_entry_88 : decode cX13_entry 88 = .ok (.aload_n 0, 1) := by decide +kernel
theorem dX13_entry_89 : decode cX13_entry 89 = .ok (.getfield 102, 3) := by decide +kernel
theorem dX13_entry_92 : decode cX13_entry 92 = .ok (.iload 4, 2) := by decide +kernel
theorem dX13_entry_94 : decode cX13_entry 94 = .ok (.iaload, 1) := by decide +kernel
theorem dX13_entry_95 : decode cX13_entry 95 = .ok (.ireturn, 1) := by decide +kernel
theorem dX13_entry_96 : decode cX13_entry 96 = .ok (.aload_n 0, 1) := by decide +kernel
theorem dX13_entry_97 : decode cX13_entry 97 = .ok (.getfield 105, 3) := by decide +kernel
theorem dX13_entry_100 : decode cX13_entry 100 = .ok (.iload 4, 2) := by decide +kernel
theorem dX13_entry_102 : decode cX13_entry 102 = .ok (.iaload, 1) := by decide +kernel
theorem dX13_entry_103 : decode cX13_entry 103 = .ok (.ireturn, 1) := by decide +kernel
