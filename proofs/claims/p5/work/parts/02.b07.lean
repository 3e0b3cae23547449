theorem dX13_sendAsk_47 : decode cX13_sendAsk 47 = .ok (.iaload, 1) := by decide +kernel
theorem dX13_sendAsk_48 : decode cX13_sendAsk 48 = .ok (.iadd, 1) := by decide +kernel
theorem dX13_sendAsk_49 : decode cX13_sendAsk 49 = .ok (.if_icmp .ge 127, 3) := by decide +kernel
theorem dX13_sendAsk_52 : decode cX13_sendAsk 52 = .ok (.iload 5, 2) := by decide +kernel
theorem dX13_sendAsk_54 : decode cX13_sendAsk 54 = .ok (.ifCond .eq 122, 3) := by decide +kernel
theorem dX13_sendAsk_57 : decode cX13_sendAsk 57 = .ok (.aload_n 0, 1) := by decide +kernel
theorem dX13_sendAsk_58 : decode cX13_sendAsk 58 = .ok (.getfield 151, 3) := by decide +kernel
theorem dX13_sendAsk_61 : decode cX13_sendAsk 61 = .ok (.iload 6, 2) := by decide +kernel
theorem dX13_sendAsk_63 : decode cX13_sendAsk 63 = .ok (.iaload, 1) := by decide +kernel
theorem dX13_sendAsk_64 : decode cX13_sendAsk 64 = .ok (.bipush 8, 2) := by decide +kernel
theorem dX13_sendAsk_66 : decode cX13_sendAsk 66 = .ok (.if_icmp .ge 110, 3) := by decide +kernel
theorem dX13_sendAsk_69 : decode cX13_sendAsk 69 = .ok (.aload_n 0, 1) := by decide +kernel
theorem dX13_sendAsk_70 : decode cX13_sendAsk 70 = .ok (.getfield 102, 3) := by decide +kernel
theorem dX13_sendAsk_73 : decode cX13_sendAsk 73 = .ok (.iload 7, 2) := by decide +kernel
theorem dX13_sendAsk_75 : decode cX13_sendAsk 75 = .ok (.iaload, 1) := by decide +kernel
theorem dX13_sendAsk_76 : decode cX13_sendAsk 76 = .ok (.iload_n 2, 1) := by decide +kernel
theorem dX13_sendAsk_77 : decode cX13_sendAsk 77 = .ok (.if_icmp .ne 93, 3) := by decide +kernel
theorem dX13_sendAsk_80 : decode cX13_sendAsk 80 = .ok (.aload_n 0, 1) := by decide +kernel
theorem dX13_sendAsk_81 : decode cX13_sendAsk 81 = .ok (.getfield 123, 3) := by decide +kernel
theorem dX13_sendAsk_84 : decode cX13_sendAsk 84 = .ok (.bipush 16, 2) := by decide +kernel
theorem dX13_sendAsk_86 : decode cX13_sendAsk 86 = .ok (.iload 7, 2) := by decide +kernel
theorem dX13_sendAsk_88 : decode cX13_sendAsk 88 = .ok (.imul, 1) := by decide +kernel
theorem dX13_sendAsk_89 : decode cX13_sendAsk 89 = .ok (.aload_n 3, 1) := by decide +kernel
theorem dX13_sendAsk_90 : decode cX13_sendAsk 90 = .ok (.iload 4, 2) := by decide +kernel
theorem dX13_sendAsk_92 : decode cX13_sendAsk 92 = .ok (.invokestatic 257, 3) := by decide +kernel
theorem dX13_sendAsk_95 : decode cX13_sendAsk 95 = .ok (.ifCond .eq 75, 3) := by decide +kernel
theorem dX13_sendAsk_98 : decode cX13_sendAsk 98 = .ok (.ldc2_w 260, 3) := by decide +kernel
theorem dX13_sendAsk_101 : decode cX13_sendAsk 101 = .ok (.aload_n 0, 1) := by decide +kernel
theorem dX13_sendAsk_102 : decode cX13_sendAsk 102 = .ok (.getfield 114, 3) := by decide +kernel
theorem dX13_sendAsk_105 : decode cX13_sendAsk 105 = .ok (.iload 7, 2) := by decide +kernel
theorem dX13_sendAsk_107 : decode cX13_sendAsk 107 = .ok (.laload, 1) := by decide +kernel
theorem dX13_sendAsk_108 : decode cX13_sendAsk 108 = .ok (.aload_n 0, 1) := by decide +kernel
theorem dX13_sendAsk_109 : decode cX13_sendAsk 109 = .ok (.getfield 226, 3) := by decide +kernel
theorem dX13_sendAsk_112 : decode cX13_sendAsk 112 = .ok (.lsub, 1) := by decide +kernel
theorem dX13_sendAsk_113 : decode cX13_sendAsk 113 = .ok (.lmul, 1) := by decide +kernel
theorem dX13_sendAsk_114 : decode cX13_sendAsk 114 = .ok (.aload_n 0, 1) := by decide +kernel
theorem dX13_sendAsk_115 : decode cX13_sendAsk 115 = .ok (.getfield 108, 3) := by decide +kernel
theorem dX13_sendAsk_118 : decode cX13_sendAsk 118 = .ok (.iload 7, 2) := by decide +kernel
theorem dX13_sendAsk_120 : decode cX13_sendAsk 120 = .ok (.iaload, 1) := by decide +kernel
theorem dX13_sendAsk_121 : decode cX13_sendAsk 121 = .ok (.i2l, 1) := by decide +kernel
theorem dX13_sendAsk_122 : decode cX13_sendAsk 122 = .ok (.lcmp, 1) := by decide +kernel
theorem dX13_sendAsk_123 : decode cX13_sendAsk 123 = .ok (.ifCond .gt 6, 3) := by decide +kernel
theorem dX13_sendAsk_126 : decode cX13_sendAsk 126 = .ok (.goto 44, 3) := by decide +kernel
theorem dX13_sendAsk_129 : decode cX13_sendAsk 129 = .ok (.aload_n 0, 1) := by decide +kernel
theorem dX13_sendAsk_130 : decode cX13_sendAsk 130 = .ok (.getfield 151, 3) := by decide +kernel
theorem dX13_sendAsk_133 : decode cX13_sendAsk 133 = .ok (.iload 6, 2) := by decide +kernel
theorem dX13_sendAsk_135 : decode cX13_sendAsk 135 = .ok (.dup2, 1) := by decide +kernel
theorem dX13_sendAsk_136 : decode cX13_sendAsk 136 = .ok (.iaload, 1) := by decide +kernel
theorem dX13_sendAsk_137 : decode cX13_sendAsk 137 = .ok (.iconst 1, 1) := by decide +kernel
theorem dX13_sendAsk_138 : decode cX13_sendAsk 138 = .ok (.iadd, 1) := by decide +kernel
theorem dX13_sendAsk_139 : decode cX13_sendAsk 139 = .ok (.iastore, 1) := by decide +kernel
theorem dX13_sendAsk_140 : decode cX13_sendAsk 140 = .ok (.iload_n 2, 1) := by decide +kernel
theorem dX13_sendAsk_141 : decode cX13_sendAsk 141 = .ok (.iconst 2, 1) := by decide +kernel
theorem dX13_sendAsk_142 : decode cX13_sendAsk 142 = .ok (.if_icmp .ne 16, 3) := by decide +kernel
theorem dX13_sendAsk_145 : decode cX13_sendAsk 145 = .ok (.aload_n 0, 1) := by decide +kernel
theorem dX13_sendAsk_146 : decode cX13_sendAsk 146 = .ok (.aload_n 0, 1) := by decide +kernel
theorem dX13_sendAsk_147 : decode cX13_sendAsk 147 = .ok (.getfield 126, 3) := by decide +kernel
theorem dX13_sendAsk_150 : decode cX13_sendAsk 150 = .ok (.bipush 16, 2) := by decide +kernel
theorem dX13_sendAsk_152 : decode cX13_sendAsk 152 = .ok (.iload 7, 2) := by decide +kernel
theorem dX13_sendAsk_154 : decode cX13_sendAsk 154 = .ok (.imul, 1) := by decide +kernel
theorem dX13_sendAsk_155 : decode cX13_sendAsk 155 = .ok (.invokevirtual 246, 3) := by decide +kernel
theorem dX13_sendAsk_158 : decode cX13_sendAsk 158 = .ok (.aload_n 0, 1) := by decide +kernel
theorem dX13_sendAsk_159 : decode cX13_sendAsk 159 = .ok (.aload_n 0, 1) := by decide +kernel
theorem dX13_sendAsk_160 : decode cX13_sendAsk 160 = .ok (.getfield 105, 3) := by decide +kernel
theorem dX13_sendAsk_163 : decode cX13_sendAsk 163 = .ok (.iload 7, 2) := by decide +kernel
theorem dX13_sendAsk_165 : decode cX13_sendAsk 165 = .ok (.iaload, 1) := by decide +kernel
theorem dX13_sendAsk_166 : decode cX13_sendAsk 166 = .ok (.iconst 2, 1) := by decide +kernel
theorem dX13_sendAsk_167 : decode cX13_sendAsk 167 = .ok (.invokevirtual 209, 3) := by decide +kernel
theorem dX13_sendAsk_170 : decode cX13_sendAsk 170 = .ok (.iinc 7 1, 3) := by decide +kernel
theorem dX13_sendAsk_173 : decode cX13_sendAsk 173 = .ok (.goto (-137), 3) := by decide +kernel
theorem dX13_sendAsk_176 : decode cX13_sendAsk 176 = .ok (.aload_n 0, 1) := by decide +kernel
theorem dX13_sendAsk_177 : decode cX13_sendAsk 177 = .ok (.iload_n 1, 1) := by decide +kernel
theorem dX13_sendAsk_178 : decode cX13_sendAsk 178 = .ok (.invokevirtual 243, 3) := by decide +kernel
theorem dX13_sendAsk_181 : decode cX13_sendAsk 181 = .ok (.return_, 1) := by decide +kernel
theorem dX13_probes_0 : decode cX13_probes 0 = .ok (.aload_n 0, 1) := by decide +kernel
theorem dX13_probes_1 : decode cX13_probes 1 = .ok (.getfield 41, 3) := by decide +kernel
theorem dX13_probes_4 : decode cX13_probes 4 = .ok (.iload_n 1, 1) := by decide +kernel
theorem dX13_probes_5 : decode cX13_probes 5 = .ok (.iconst 0, 1) := by decide +kernel
theorem dX13_probes_6 : decode cX13_probes 6 = .ok (.bastore, 1) := by decide +kernel
theorem dX13_probes_7 : decode cX13_probes 7 = .ok (.aload_n 0, 1) := by decide +kernel
theorem dX13_probes_8 : decode cX13_probes 8 = .ok (.getfield 38, 3) := by decide +kernel
theorem dX13_probes_11 : decode cX13_probes 11 = .ok (.iload_n 1, 1) := by decide +kernel
theorem dX13_probes_12 : decode cX13_probes 12 = .ok (.iconst 0, 1) := by decide +kernel
theorem dX13_probes_13 : decode cX13_probes 13 = .ok (.iastore, 1) := by decide +kernel
theorem dX13_probes_14 : decode cX13_probes 14 = .ok (.aload_n 0, 1) := by decide +kernel
theorem dX13_probes_15 : decode cX13_probes 15 = .ok (.getfield 44, 3) := by decide +kernel
theorem dX13_probes_18 : decode cX13_probes 18 = .ok (.iload_n 1, 1) := by decide +kernel
theorem dX13_probes_19 : decode cX13_probes 19 = .ok (.aload_n 0, 1) := by decide +kernel
theorem dX13_probes_20 : decode cX13_probes 20 = .ok (.getfield 226, 3) := by decide +kernel
theorem dX13_probes_23 : decode cX13_probes 23 = .ok (.ldc2_w 262, 3) := by decide +kernel
theorem dX13_probes_26 : decode cX13_probes 26 = .ok (.aload_n 0, 1) := by decide +kernel
theorem dX13_probes_27 : decode cX13_probes 27 = .ok (.getfield 17, 3) := by decide +kernel
theorem dX13_probes_30 : decode cX13_probes 30 = .ok (.iload_n 1, 1) := by decide +kernel
theorem dX13_probes_31 : decode cX13_probes 31 = .ok (.iaload, 1) := by decide +kernel
theorem dX13_probes_32 : decode cX13_probes 32 = .ok (.i2l, 1) := by decide +kernel
theorem dX13_probes_33 : decode cX13_probes 33 = .ok (.lmul, 1) := by decide +kernel
theorem dX13_probes_34 : decode cX13_probes 34 = .ok (.ldc2_w 264, 3) := by decide +kernel
theorem dX13_probes_37 : decode cX13_probes 37 = .ok (.aload_n 0, 1) := by decide +kernel
theorem dX13_probes_38 : decode cX13_probes 38 = .ok (.getfield 23, 3) := by decide +kernel
theorem dX13_probes_41 : decode cX13_probes 41 = .ok (.iload_n 1, 1) := by decide +kernel
theorem dX13_probes_42 : decode cX13_probes 42 = .ok (.iaload, 1) := by decide +kernel
theorem dX13_probes_43 : decode cX13_probes 43 = .ok (.i2l, 1) := by decide +kernel
theorem dX13_probes_44 : decode cX13_probes 44 = .ok (.lmul, 1) := by decide +kernel
theorem dX13_probes_45 : decode cX13_probes 45 = .ok (.ladd, 1) := by decide +kernel
theorem dX13_probes_46 : decode cX13_probes 46 = .ok (.ldc2_w 266, 3) := by decide +kernel
theorem dX13_probes_49 : decode cX13_probes 49 = .ok (.lrem, 1) := by decide +kernel
theorem dX13_probes_50 : decode cX13_probes 50 = .ok (.ladd, 1) := by decide +kernel
theorem dX13_probes_51 : decode cX13_probes 51 = .ok (.lastore, 1) := by decide +kernel
theorem dX13_probes_52 : decode cX13_probes 52 = .ok (.return_, 1) := by decide +kernel
theorem dX13_movesOn_0 : decode cX13_movesOn 0 = .ok (.aload_n 0, 1) := by decide +kernel
theorem dX13_movesOn_1 : decode cX13_movesOn 1 = .ok (.getfield 23, 3) := by decide +kernel
theorem dX13_movesOn_4 : decode cX13_movesOn 4 = .ok (.iload_n 1, 1) := by decide +kernel
theorem dX13_movesOn_5 : decode cX13_movesOn 5 = .ok (.dup2, 1) := by decide +kernel
theorem dX13_movesOn_6 : decode cX13_movesOn 6 = .ok (.iaload, 1) := by decide +kernel
theorem dX13_movesOn_7 : decode cX13_movesOn 7 = .ok (.iconst 1, 1) := by decide +kernel
theorem dX13_movesOn_8 : decode cX13_movesOn 8 = .ok (.iadd, 1) := by decide +kernel
theorem dX13_movesOn_9 : decode cX13_movesOn 9 = .ok (.iastore, 1) := by decide +kernel
theorem dX13_movesOn_10 : decode cX13_movesOn 10 = .ok (.aload_n 0, 1) := by decide +kernel
theorem dX13_movesOn_11 : decode cX13_movesOn 11 = .ok (.getfield 26, 3) := by decide +kernel
theorem dX13_movesOn_14 : decode cX13_movesOn 14 = .ok (.iload_n 1, 1) := by decide +kernel
theorem dX13_movesOn_15 : decode cX13_movesOn 15 = .ok (.dup2, 1) := by decide +kernel
theorem dX13_movesOn_16 : decode cX13_movesOn 16 = .ok (.iaload, 1) := by decide +kernel
theorem dX13_movesOn_17 : decode cX13_movesOn 17 = .ok (.iconst 1, 1) := by decide +kernel
theorem dX13_movesOn_18 : decode cX13_movesOn 18 = .ok (.iadd, 1) := by decide +kernel
theorem dX13_movesOn_19 : decode cX13_movesOn 19 = .ok (.iastore, 1) := by decide +kernel
theorem dX13_movesOn_20 : decode cX13_movesOn 20 = .ok (.aload_n 0, 1) := by decide +kernel
theorem dX13_movesOn_21 : decode cX13_movesOn 21 = .ok (.iload_n 1, 1) := by decide +kernel
theorem dX13_movesOn_22 : decode cX13_movesOn 22 = .ok (.invokevirtual 268, 3) := by decide +kernel
theorem dX13_movesOn_25 : decode cX13_movesOn 25 = .ok (.aload_n 0, 1) := by decide +kernel
theorem dX13_movesOn_26 : decode cX13_movesOn 26 = .ok (.getfield 51, 3) := by decide +kernel
theorem dX13_movesOn_29 : decode cX13_movesOn 29 = .ok (.iload_n 1, 1) := by decide +kernel
theorem dX13_movesOn_30 : decode cX13_movesOn 30 = .ok (.iaload, 1) := by decide +kernel
theorem dX13_movesOn_31 : decode cX13_movesOn 31 = .ok (.ifCond .le 19, 3) := by decide +kernel
theorem dX13_movesOn_34 : decode cX13_movesOn 34 = .ok (.aload_n 0, 1) := by decide +kernel
theorem dX13_movesOn_35 : decode cX13_movesOn 35 = .ok (.getfield 51, 3) := by decide +kernel
theorem dX13_movesOn_38 : decode cX13_movesOn 38 = .ok (.iload_n 1, 1) := by decide +kernel
theorem dX13_movesOn_39 : decode cX13_movesOn 39 = .ok (.iconst 1, 1) := by decide +kernel
theorem dX13_movesOn_40 : decode cX13_movesOn 40 = .ok (.iastore, 1) := by decide +kernel
theorem dX13_movesOn_41 : decode cX13_movesOn 41 = .ok (.aload_n 0, 1) := by decide +kernel
theorem dX13_movesOn_42 : decode cX13_movesOn 42 = .ok (.getfield 57, 3) := by decide +kernel
theorem dX13_movesOn_45 : decode cX13_movesOn 45 = .ok (.iload_n 1, 1) := by decide +kernel
theorem dX13_movesOn_46 : decode cX13_movesOn 46 = .ok (.ldc2_w 271, 3) := by decide +kernel
theorem dX13_movesOn_49 : decode cX13_movesOn 49 = .ok (.lastore, 1) := by decide +kernel
theorem dX13_movesOn_50 : decode cX13_movesOn 50 = .ok (.return_, 1) := by decide +kernel
theorem dX13_probesName_0 : decode cX13_probesName 0 = .ok (.aload_n 0, 1) := by decide +kernel
theorem dX13_probesName_1 : decode cX13_probesName 1 = .ok (.getfield 51, 3) := by decide +kernel
theorem dX13_probesName_4 : decode cX13_probesName 4 = .ok (.iload_n 1, 1) := by decide +kernel
theorem dX13_probesName_5 : decode cX13_probesName 5 = .ok (.iconst 2, 1) := by decide +kernel
theorem dX13_probesName_6 : decode cX13_probesName 6 = .ok (.iastore, 1) := by decide +kernel
theorem dX13_probesName_7 : decode cX13_probesName 7 = .ok (.aload_n 0, 1) := by decide +kernel
theorem dX13_probesName_8 : decode cX13_probesName 8 = .ok (.getfield 54, 3) := by decide +kernel
theorem dX13_probesName_11 : decode cX13_probesName 11 = .ok (.iload_n 1, 1) := by decide +kernel
theorem dX13_probesName_12 : decode cX13_probesName 12 = .ok (.iconst 0, 1) := by decide +kernel
theorem dX13_probesName_13 : decode cX13_probesName 13 = .ok (.iastore, 1) := by decide +kernel
theorem dX13_probesName_14 : decode cX13_probesName 14 = .ok (.aload_n 0, 1) := by decide +kernel
theorem dX13_probesName_15 : decode cX13_probesName 15 = .ok (.getfield 57, 3) := by decide +kernel
theorem dX13_probesName_18 : decode cX13_probesName 18 = .ok (.iload_n 1, 1) := by decide +kernel
theorem dX13_probesName_19 : decode cX13_probesName 19 = .ok (.aload_n 0, 1) := by decide +kernel
theorem dX13_probesName_20 : decode cX13_probesName 20 = .ok (.getfield 226, 3) := by decide +kernel
theorem dX13_probesName_23 : decode cX13_probesName 23 = .ok (.ldc2_w 273, 3) := by decide +kernel
theorem dX13_probesName_26 : decode cX13_probesName 26 = .ok (.aload_n 0, 1) := by decide +kernel
theorem dX13_probesName_27 : decode cX13_probesName 27 = .ok (.getfield 17, 3) := by decide +kernel
theorem dX13_probesName_30 : decode cX13_probesName 30 = .ok (.iload_n 1, 1) := by decide +kernel
theorem dX13_probesName_31 : decode cX13_probesName 31 = .ok (.iaload, 1) := by decide +kernel
theorem dX13_probesName_32 : decode cX13_probesName 32 = .ok (.i2l, 1) := by decide +kernel
theorem dX13_probesName_33 : decode cX13_probesName 33 = .ok (.lmul, 1) := by decide +kernel
theorem dX13_probesName_34 : decode cX13_probesName 34 = .ok (.ldc2_w 275, 3) := by decide +kernel
theorem dX13_probesName_37 : decode cX13_probesName 37 = .ok (.lrem, 1) := by decide +kernel
theorem dX13_probesName_38 : decode cX13_probesName 38 = .ok (.ladd, 1) := by decide +kernel
theorem dX13_probesName_39 : decode cX13_probesName 39 = .ok (.lastore, 1) := by decide +kernel
theorem dX13_probesName_40 : decode cX13_probesName 40 = .ok (.return_, 1) := by decide +kernel
theorem dX13_renames_0 : decode cX13_renames 0 = .ok (.aload_n 0, 1) := by decide +kernel
theorem dX13_renames_1 : decode cX13_renames 1 = .ok (.getfield 26, 3) := by decide +kernel
theorem dX13_renames_4 : decode cX13_renames 4 = .ok (.iload_n 1, 1) := by decide +kernel
theorem dX13_renames_5 : decode cX13_renames 5 = .ok (.dup2, 1) := by decide +kernel
theorem dX13_renames_6 : decode cX13_renames 6 = .ok (.iaload, 1) := by decide +kernel
theorem dX13_renames_7 : decode cX13_renames 7 = .ok (.iconst 1, 1) := by decide +kernel
theorem dX13_renames_8 : decode cX13_renames 8 = .ok (.iadd, 1) := by decide +kernel
theorem dX13_renames_9 : decode cX13_renames 9 = .ok (.iastore, 1) := by decide +kernel
theorem dX13_renames_10 : decode cX13_renames 10 = .ok (.aload_n 0, 1) := by decide +kernel
theorem dX13_renames_11 : decode cX13_renames 11 = .ok (.getfield 60, 3) := by decide +kernel
theorem dX13_renames_14 : decode cX13_renames 14 = .ok (.iload_n 1, 1) := by decide +kernel
theorem dX13_renames_15 : decode cX13_renames 15 = .ok (.dup2, 1) := by decide +kernel
theorem dX13_renames_16 : decode cX13_renames 16 = .ok (.iaload, 1) := by decide +kernel
theorem dX13_renames_17 : decode cX13_renames 17 = .ok (.iconst 1, 1) := by decide +kernel
theorem dX13_renames_18 : decode cX13_renames 18 = .ok (.iadd, 1) := by decide +kernel
theorem dX13_renames_19 : decode cX13_renames 19 = .ok (.iastore, 1) := by decide +kernel
theorem dX13_renames_20 : decode cX13_renames 20 = .ok (.iconst 1, 1) := by decide +kernel
theorem dX13_renames_21 : decode cX13_renames 21 = .ok (.istore_n 2, 1) := by decide +kernel
theorem dX13_renames_22 : decode cX13_renames 22 = .ok (.aload_n 0, 1) := by decide +kernel
theorem dX13_renames_23 : decode cX13_renames 23 = .ok (.getfield 60, 3) := by decide +kernel
theorem dX13_renames_26 : decode cX13_renames 26 = .ok (.iload_n 1, 1) := by decide +kernel
theorem dX13_renames_27 : decode cX13_renames 27 = .ok (.iaload, 1) := by decide +kernel
theorem dX13_renames_28 : decode cX13_renames 28 = .ok (.istore_n 3, 1) := by decide +kernel
theorem dX13_renames_29 : decode cX13_renames 29 = .ok (.iload_n 3, 1) := by decide +kernel
theorem dX13_renames_30 : decode cX13_renames 30 = .ok (.bipush 9, 2) := by decide +kernel
theorem dX13_renames_32 : decode cX13_renames 32 = .ok (.if_icmp .le 14, 3) := by decide +kernel
theorem dX13_renames_35 : decode cX13_renames 35 = .ok (.iinc 2 1, 3) := by decide +kernel
theorem dX13_renames_38 : decode cX13_renames 38 = .ok (.iload_n 3, 1) := by decide +kernel
theorem dX13_renames_39 : decode cX13_renames 39 = .ok (.bipush 10, 2) := by decide +kernel
theorem dX13_renames_41 : decode cX13_renames 41 = .ok (.idiv, 1) := by decide +kernel
theorem dX13_renames_42 : decode cX13_renames 42 = .ok (.istore_n 3, 1) := by decide +kernel
theorem dX13_renames_43 : decode cX13_renames 43 = .ok (.goto (-14), 3) := by decide +kernel
theorem dX13_renames_46 : decode cX13_renames 46 = .ok (.aload_n 0, 1) := by decide +kernel
theorem dX13_renames_47 : decode cX13_renames 47 = .ok (.getfield 63, 3) := by decide +kernel
theorem dX13_renames_50 : decode cX13_renames 50 = .ok (.bipush 16, 2) := by decide +kernel
theorem dX13_renames_52 : decode cX13_renames 52 = .ok (.iload_n 1, 1) := by decide +kernel
theorem dX13_renames_53 : decode cX13_renames 53 = .ok (.imul, 1) := by decide +kernel
theorem dX13_renames_54 : decode cX13_renames 54 = .ok (.iaload, 1) := by decide +kernel
theorem dX13_renames_55 : decode cX13_renames 55 = .ok (.bipush 14, 2) := by decide +kernel
theorem dX13_renames_57 : decode cX13_renames 57 = .ok (.iload_n 2, 1) := by decide +kernel
theorem dX13_renames_58 : decode cX13_renames 58 = .ok (.isub, 1) := by decide +kernel
theorem dX13_renames_59 : decode cX13_renames 59 = .ok (.if_icmp .ge 15, 3) := by decide +kernel
theorem dX13_renames_62 : decode cX13_renames 62 = .ok (.aload_n 0, 1) := by decide +kernel
theorem dX13_renames_63 : decode cX13_renames 63 = .ok (.getfield 63, 3) := by decide +kernel
theorem dX13_renames_66 : decode cX13_renames 66 = .ok (.bipush 16, 2) := by decide +kernel
theorem dX13_renames_68 : decode cX13_renames 68 = .ok (.iload_n 1, 1) := by decide +kernel
theorem dX13_renames_69 : decode cX13_renames 69 = .ok (.imul, 1) := by decide +kernel
theorem dX13_renames_70 : decode cX13_renames 70 = .ok (.iaload, 1) := by decide +kernel
theorem dX13_renames_71 : decode cX13_renames 71 = .ok (.goto 7, 3) := by decide +kernel
theorem dX13_renames_74 : decode cX13_renames 74 = .ok (.bipush 14, 2) := by decide +kernel
theorem dX13_renames_76 : decode cX13_renames 76 = .ok (.iload_n 2, 1) := by decide +kernel
theorem dX13_renames_77 : decode cX13_renames 77 = .ok (.isub, 1) := by decide +kernel
theorem dX13_renames_78 : decode cX13_renames 78 = .ok (.istore_n 3, 1) := by decide +kernel
theorem dX13_renames_79 : decode cX13_renames 79 = .ok (.iconst 1, 1) := by decide +kernel
theorem dX13_renames_80 : decode cX13_renames 80 = .ok (.istore 4, 2) := by decide +kernel
theorem dX13_renames_82 : decode cX13_renames 82 = .ok (.iload 4, 2) := by decide +kernel
theorem dX13_renames_84 : decode cX13_renames 84 = .ok (.iload_n 3, 1) := by decide +kernel
theorem dX13_renames_85 : decode cX13_renames 85 = .ok (.if_icmp .gt 33, 3) := by decide +kernel
theorem dX13_renames_88 : decode cX13_renames 88 = .ok (.aload_n 0, 1) := by decide +kernel
theorem dX13_renames_89 : decode cX13_renames 89 = .ok (.getfield 66, 3) := by decide +kernel
theorem dX13_renames_92 : decode cX13_renames 92 = .ok (.bipush 16, 2) := by decide +kernel
theorem dX13_renames_94 : decode cX13_renames 94 = .ok (.iload_n 1, 1) := by decide +kernel
theorem dX13_renames_95 : decode cX13_renames 95 = .ok (.imul, 1) := by decide +kernel
theorem dX13_renames_96 : decode cX13_renames 96 = .ok (.iload 4, 2) := by decide +kernel
theorem dX13_renames_98 : decode cX13_renames 98 = .ok (.iadd, 1) := by decide +kernel
theorem dX13_renames_99 : decode cX13_renames 99 = .ok (.aload_n 0, 1) := by decide +kernel
theorem dX13_renames_100 : decode cX13_renames 100 = .ok (.getfield 63, 3) := by decide +kernel
theorem dX13_renames_103 : decode cX13_renames 103 = .ok (.bipush 16, 2) := by decide +kernel
theorem dX13_renames_105 : decode cX13_renames 105 = .ok (.iload_n 1, 1) := by decide +kernel
theorem dX13_renames_106 : decode cX13_renames 106 = .ok (.imul, 1) := by decide +kernel
theorem dX13_renames_107 : decode cX13_renames 107 = .ok (.iload 4, 2) := by decide +kernel
theorem dX13_renames_109 : decode cX13_renames 109 = .ok (.iadd, 1) := by decide +kernel
theorem dX13_renames_110 : decode cX13_renames 110 = .ok (.iaload, 1) := by decide +kernel
theorem dX13_renames_111 : decode cX13_renames 111 = .ok (.iastore, 1) := by decide +kernel
theorem dX13_renames_112 : decode cX13_renames 112 = .ok (.iinc 4 1, 3) := by decide +kernel
theorem dX13_renames_115 : decode cX13_renames 115 = .ok (.goto (-33), 3) := by decide +kernel
theorem dX13_renames_118 : decode cX13_renames 118 = .ok (.aload_n 0, 1) := by decide +kernel
theorem dX13_renames_119 : decode cX13_renames 119 = .ok (.getfield 66, 3) := by decide +kernel
theorem dX13_renames_122 : decode cX13_renames 122 = .ok (.bipush 16, 2) := by decide +kernel
theorem dX13_renames_124 : decode cX13_renames 124 = .ok (.iload_n 1, 1) := by decide +kernel
theorem dX13_renames_125 : decode cX13_renames 125 = .ok (.imul, 1) := by decide +kernel
theorem dX13_renames_126 : decode cX13_renames 126 = .ok (.iload_n 3, 1) := by decide +kernel
theorem dX13_renames_127 : decode cX13_renames 127 = .ok (.iadd, 1) := by decide +kernel
theorem dX13_renames_128 : decode cX13_renames 128 = .ok (.iconst 1, 1) := by decide +kernel
theorem dX13_renames_129 : decode cX13_renames 129 = .ok (.iadd, 1) := by decide +kernel
theorem dX13_renames_130 : decode cX13_renames 130 = .ok (.bipush 45, 2) := by decide +kernel
theorem dX13_renames_132 : decode cX13_renames 132 = .ok (.iastore, 1) := by decide +kernel
theorem dX13_renames_133 : decode cX13_renames 133 = .ok (.aload_n 0, 1) := by decide +kernel
theorem dX13_renames_134 : decode cX13_renames 134 = .ok (.getfield 60, 3) := by decide +kernel
theorem dX13_renames_137 : decode cX13_renames 137 = .ok (.iload_n 1, 1) := by decide +kernel
theorem dX13_renames_138 : decode cX13_renames 138 = .ok (.iaload, 1) := by decide +kernel
theorem dX13_renames_139 : decode cX13_renames 139 = .ok (.istore 4, 2) := by decide +kernel
theorem dX13_renames_141 : decode cX13_renames 141 = .ok (.iload_n 2, 1) := by decide +kernel
theorem dX13_renames_142 : decode cX13_renames 142 = .ok (.istore 5, 2) := by decide +kernel
theorem dX13_renames_144 : decode cX13_renames 144 = .ok (.iload 5, 2) := by decide +kernel
theorem dX13_renames_146 : decode cX13_renames 146 = .ok (.ifCond .le 40, 3) := by decide +kernel
theorem dX13_renames_149 : decode cX13_renames 149 = .ok (.aload_n 0, 1) := by decide +kernel
theorem dX13_renames_150 : decode cX13_renames 150 = .ok (.getfield 66, 3) := by decide +kernel
theorem dX13_renames_153 : decode cX13_renames 153 = .ok (.bipush 16, 2) := by decide +kernel
theorem dX13_renames_155 : decode cX13_renames 155 = .ok (.iload_n 1, 1) := by decide +kernel
theorem dX13_renames_156 : decode cX13_renames 156 = .ok (.imul, 1) := by decide +kernel
theorem dX13_renames_157 : decode cX13_renames 157 = .ok (.iload_n 3, 1) := by decide +kernel
theorem dX13_renames_158 : decode cX13_renames 158 = .ok (.iadd, 1) := by decide +kernel
theorem dX13_renames_159 : decode cX13_renames 159 = .ok (.iconst 1, 1) := by decide +kernel
theorem dX13_renames_160 : decode cX13_renames 160 = .ok (.iadd, 1) := by decide +kernel
theorem dX13_renames_161 : decode cX13_renames 161 = .ok (.iload 5, 2) := by decide +kernel
theorem dX13_renames_163 : decode cX13_renames 163 = .ok (.iadd, 1) := by decide +kernel
theorem dX13_renames_164 : decode cX13_renames 164 = .ok (.bipush 48, 2) := by decide +kernel
theorem dX13_renames_166 : decode cX13_renames 166 = .ok (.iload 4, 2) := by decide +kernel
theorem dX13_renames_168 : decode cX13_renames 168 = .ok (.bipush 10, 2) := by decide +kernel
theorem dX13_renames_170 : decode cX13_renames 170 = .ok (.irem, 1) := by decide +kernel
theorem dX13_renames_171 : decode cX13_renames 171 = .ok (.iadd, 1) := by decide +kernel
theorem dX13_renames_172 : decode cX13_renames 172 = .ok (.iastore, 1) := by decide +kernel
theorem dX13_renames_173 : decode cX13_renames 173 = .ok (.iload 4, 2) := by decide +kernel
theorem dX13_renames_175 : decode cX13_renames 175 = .ok (.bipush 10, 2) := by decide +kernel
theorem dX13_renames_177 : decode cX13_renames 177 = .ok (.idiv, 1) := by decide +kernel
theorem dX13_renames_178 : decode cX13_renames 178 = .ok (.istore 4, 2) := by decide +kernel
theorem dX13_renames_180 : decode cX13_renames 180 = .ok (.iinc 5 (-1), 3) := by decide +kernel
theorem dX13_renames_183 : decode cX13_renames 183 = .ok (.goto (-39), 3) := by decide +kernel
theorem dX13_renames_186 : decode cX13_renames 186 = .ok (.aload_n 0, 1) := by decide +kernel
theorem dX13_renames_187 : decode cX13_renames 187 = .ok (.getfield 66, 3) := by decide +kernel
theorem dX13_renames_190 : decode cX13_renames 190 = .ok (.bipush 16, 2) := by decide +kernel
theorem dX13_renames_192 : decode cX13_renames 192 = .ok (.iload_n 1, 1) := by decide +kernel
theorem dX13_renames_193 : decode cX13_renames 193 = .ok (.imul, 1) := by decide +kernel
theorem dX13_renames_194 : decode cX13_renames 194 = .ok (.iload_n 3, 1) := by decide +kernel
theorem dX13_renames_195 : decode cX13_renames 195 = .ok (.iconst 1, 1) := by decide +kernel
theorem dX13_renames_196 : decode cX13_renames 196 = .ok (.iadd, 1) := by decide +kernel
theorem dX13_renames_197 : decode cX13_renames 197 = .ok (.iload_n 2, 1) := by decide +kernel
theorem dX13_renames_198 : decode cX13_renames 198 = .ok (.iadd, 1) := by decide +kernel
theorem dX13_renames_199 : decode cX13_renames 199 = .ok (.iastore, 1) := by decide +kernel
theorem dX13_renames_200 : decode cX13_renames 200 = .ok (.aload_n 0, 1) := by decide +kernel
theorem dX13_renames_201 : decode cX13_renames 201 = .ok (.iload_n 1, 1) := by decide +kernel
theorem dX13_renames_202 : decode cX13_renames 202 = .ok (.invokevirtual 277, 3) := by decide +kernel
theorem dX13_renames_205 : decode cX13_renames 205 = .ok (.return_, 1) := by decide +kernel
theorem dX13_address1_0 : decode cX13_address1 0 = .ok (.aload_n 0, 1) := by decide +kernel
theorem dX13_address1_1 : decode cX13_address1 1 = .ok (.getfield 38, 3) := by decide +kernel
theorem dX13_address1_4 : decode cX13_address1 4 = .ok (.iload_n 1, 1) := by decide +kernel
theorem dX13_address1_5 : decode cX13_address1 5 = .ok (.iaload, 1) := by decide +kernel
theorem dX13_address1_6 : decode cX13_address1 6 = .ok (.iconst 3, 1) := by decide +kernel
theorem dX13_address1_7 : decode cX13_address1 7 = .ok (.if_icmp .ge 34, 3) := by decide +kernel
theorem dX13_address1_10 : decode cX13_address1 10 = .ok (.aload_n 0, 1) := by decide +kernel
theorem dX13_address1_11 : decode cX13_address1 11 = .ok (.iload_n 1, 1) := by decide +kernel
theorem dX13_address1_12 : decode cX13_address1 12 = .ok (.iconst 1, 1) := by decide +kernel
theorem dX13_address1_13 : decode cX13_address1 13 = .ok (.invokevirtual 280, 3) := by decide +kernel
theorem dX13_address1_16 : decode cX13_address1 16 = .ok (.aload_n 0, 1) := by decide +kernel
theorem dX13_address1_17 : decode cX13_address1 17 = .ok (.getfield 38, 3) := by decide +kernel
theorem dX13_address1_20 : decode cX13_address1 20 = .ok (.iload_n 1, 1) := by decide +kernel
theorem dX13_address1_21 : decode cX13_address1 21 = .ok (.dup2, 1) := by decide +kernel
theorem dX13_address1_22 : decode cX13_address1 22 = .ok (.iaload, 1) := by decide +kernel
theorem dX13_address1_23 : decode cX13_address1 23 = .ok (.iconst 1, 1) := by decide +kernel
theorem dX13_address1_24 : decode cX13_address1 24 = .ok (.iadd, 1) := by decide +kernel
theorem dX13_address1_25 : decode cX13_address1 25 = .ok (.iastore, 1) := by decide +kernel
theorem dX13_address1_26 : decode cX13_address1 26 = .ok (.aload_n 0, 1) := by decide +kernel
theorem dX13_address1_27 : decode cX13_address1 27 = .ok (.getfield 44, 3) := by decide +kernel
theorem dX13_address1_30 : decode cX13_address1 30 = .ok (.iload_n 1, 1) := by decide +kernel
theorem dX13_address1_31 : decode cX13_address1 31 = .ok (.aload_n 0, 1) := by decide +kernel
theorem dX13_address1_32 : decode cX13_address1 32 = .ok (.getfield 226, 3) := by decide +kernel
theorem dX13_address1_35 : decode cX13_address1 35 = .ok (.ldc2_w 266, 3) := by decide +kernel
theorem dX13_address1_38 : decode cX13_address1 38 = .ok (.ladd, 1) := by decide +kernel
theorem dX13_address1_39 : decode cX13_address1 39 = .ok (.lastore, 1) := by decide +kernel
theorem dX13_address1_40 : decode cX13_address1 40 = .ok (.return_, 1) := by decide +kernel
theorem dX13_address1_41 : decode cX13_address1 41 = .ok (.aload_n 0, 1) := by decide +kernel
theorem dX13_address1_42 : decode cX13_address1 42 = .ok (.getfield 38, 3) := by decide +kernel
theorem dX13_address1_45 : decode cX13_address1 45 = .ok (.iload_n 1, 1) := by decide +kernel
theorem dX13_address1_46 : decode cX13_address1 46 = .ok (.iaload, 1) := by decide +kernel
theorem dX13_address1_47 : decode cX13_address1 47 = .ok (.iconst 3, 1) := by decide +kernel
theorem dX13_address1_48 : decode cX13_address1 48 = .ok (.if_icmp .ne 7, 3) := by decide +kernel
theorem dX13_address1_51 : decode cX13_address1 51 = .ok (.iconst 1, 1) := by decide +kernel
theorem dX13_address1_52 : decode cX13_address1 52 = .ok (.goto 4, 3) := by decide +kernel
theorem dX13_address1_55 : decode cX13_address1 55 = .ok (.iconst 0, 1) := by decide +kernel
theorem dX13_address1_56 : decode cX13_address1 56 = .ok (.istore_n 2, 1) := by decide +kernel
theorem dX13_address1_57 : decode cX13_address1 57 = .ok (.aload_n 0, 1) := by decide +kernel
theorem dX13_address1_58 : decode cX13_address1 58 = .ok (.getfield 41, 3) := by decide +kernel
theorem dX13_address1_61 : decode cX13_address1 61 = .ok (.iload_n 1, 1) := by decide +kernel
theorem dX13_address1_62 : decode cX13_address1 62 = .ok (.iconst 1, 1) := by decide +kernel
theorem dX13_address1_63 : decode cX13_address1 63 = .ok (.bastore, 1) := by decide +kernel
theorem dX13_address1_64 : decode cX13_address1 64 = .ok (.aload_n 0, 1) := by decide +kernel
theorem dX13_address1_65 : decode cX13_address1 65 = .ok (.getfield 38, 3) := by decide +kernel
theorem dX13_address1_68 : decode cX13_address1 68 = .ok (.iload_n 1, 1) := by decide +kernel
theorem dX13_address1_69 : decode cX13_address1 69 = .ok (.iconst 4, 1) := by decide +kernel
theorem dX13_address1_70 : decode cX13_address1 70 = .ok (.iastore, 1) := by decide +kernel
theorem dX13_address1_71 : decode cX13_address1 71 = .ok (.aload_n 0, 1) := by decide +kernel
theorem dX13_address1_72 : decode cX13_address1 72 = .ok (.getfield 44, 3) := by decide +kernel
theorem dX13_address1_75 : decode cX13_address1 75 = .ok (.iload_n 1, 1) := by decide +kernel
theorem dX13_address1_76 : decode cX13_address1 76 = .ok (.iload_n 2, 1) := by decide +kernel
theorem dX13_address1_77 : decode cX13_address1 77 = .ok (.ifCond .eq 14, 3) := by decide +kernel
theorem dX13_address1_80 : decode cX13_address1 80 = .ok (.aload_n 0, 1) := by decide +kernel
theorem dX13_address1_81 : decode cX13_address1 81 = .ok (.getfield 226, 3) := by decide +kernel
theorem dX13_address1_84 : decode cX13_address1 84 = .ok (.ldc2_w 283, 3) := by decide +kernel
theorem dX13_address1_87 : decode cX13_address1 87 = .ok (.ladd, 1) := by decide +kernel
theorem dX13_address1_88 : decode cX13_address1 88 = .ok (.goto 6, 3) := by decide +kernel
theorem dX13_address1_91 : decode cX13_address1 91 = .ok (.ldc2_w 271, 3) := by decide +kernel
theorem dX13_address1_94 : decode cX13_address1 94 = .ok (.lastore, 1) := by decide +kernel
theorem dX13_address1_95 : decode cX13_address1 95 = .ok (.aload_n 0, 1) := by decide +kernel
theorem dX13_address1_96 : decode cX13_address1 96 = .ok (.iload_n 1, 1) := by decide +kernel
theorem dX13_address1_97 : decode cX13_address1 97 = .ok (.iconst 2, 1) := by decide +kernel
theorem dX13_address1_98 : decode cX13_address1 98 = .ok (.invokevirtual 280, 3) := by decide +kernel
theorem dX13_address1_101 : decode cX13_address1 101 = .ok (.iload_n 2, 1) := by decide +kernel
theorem dX13_address1_102 : decode cX13_address1 102 = .ok (.ifCond .eq 18, 3) := by decide +kernel
theorem dX13_address1_105 : decode cX13_address1 105 = .ok (.aload_n 0, 1) := by decide +kernel
theorem dX13_address1_106 : decode cX13_address1 106 = .ok (.getfield 51, 3) := by decide +kernel
theorem dX13_address1_109 : decode cX13_address1 109 = .ok (.iload_n 1, 1) := by decide +kernel
theorem dX13_address1_110 : decode cX13_address1 110 = .ok (.iaload, 1) := by decide +kernel
theorem dX13_address1_111 : decode cX13_address1 111 = .ok (.iconst 1, 1) := by decide +kernel
theorem dX13_address1_112 : decode cX13_address1 112 = .ok (.if_icmp .ne 8, 3) := by decide +kernel
theorem dX13_address1_115 : decode cX13_address1 115 = .ok (.aload_n 0, 1) := by decide +kernel
theorem dX13_address1_116 : decode cX13_address1 116 = .ok (.iload_n 1, 1) := by decide +kernel
theorem dX13_address1_117 : decode cX13_address1 117 = .ok (.invokevirtual 277, 3) := by decide +kernel
theorem dX13_address1_120 : decode cX13_address1 120 = .ok (.return_, 1) := by decide +kernel
theorem dX13_name1_0 : decode cX13_name1 0 = .ok (.aload_n 0, 1) := by decide +kernel
theorem dX13_name1_1 : decode cX13_name1 1 = .ok (.getfield 54, 3) := by decide +kernel
theorem dX13_name1_4 : decode cX13_name1 4 = .ok (.iload_n 1, 1) := by decide +kernel
theorem dX13_name1_5 : decode cX13_name1 5 = .ok (.iaload, 1) := by decide +kernel
theorem dX13_name1_6 : decode cX13_name1 6 = .ok (.iconst 3, 1) := by decide +kernel
theorem dX13_name1_7 : decode cX13_name1 7 = .ok (.if_icmp .ge 71, 3) := by decide +kernel
theorem dX13_name1_10 : decode cX13_name1 10 = .ok (.aload_n 0, 1) := by decide +kernel
theorem dX13_name1_11 : decode cX13_name1 11 = .ok (.iconst 3, 1) := by decide +kernel
theorem dX13_name1_12 : decode cX13_name1 12 = .ok (.invokevirtual 236, 3) := by decide +kernel
theorem dX13_name1_15 : decode cX13_name1 15 = .ok (.aload_n 0, 1) := by decide +kernel
theorem dX13_name1_16 : decode cX13_name1 16 = .ok (.aload_n 0, 1) := by decide +kernel
theorem dX13_name1_17 : decode cX13_name1 17 = .ok (.getfield 66, 3) := by decide +kernel
theorem dX13_name1_20 : decode cX13_name1 20 = .ok (.bipush 16, 2) := by decide +kernel
theorem dX13_name1_22 : decode cX13_name1 22 = .ok (.iload_n 1, 1) := by decide +kernel
theorem dX13_name1_23 : decode cX13_name1 23 = .ok (.imul, 1) := by decide +kernel
theorem dX13_name1_24 : decode cX13_name1 24 = .ok (.invokevirtual 246, 3) := by decide +kernel
theorem dX13_name1_27 : decode cX13_name1 27 = .ok (.aload_n 0, 1) := by decide +kernel
theorem dX13_name1_28 : decode cX13_name1 28 = .ok (.aload_n 0, 1) := by decide +kernel
theorem dX13_name1_29 : decode cX13_name1 29 = .ok (.iload_n 1, 1) := by decide +kernel
theorem dX13_name1_30 : decode cX13_name1 30 = .ok (.invokevirtual 240, 3) := by decide +kernel
theorem dX13_name1_33 : decode cX13_name1 33 = .ok (.iconst 2, 1) := by decide +kernel
theorem dX13_name1_34 : decode cX13_name1 34 = .ok (.invokevirtual 209, 3) := by decide +kernel
theorem dX13_name1_37 : decode cX13_name1 37 = .ok (.aload_n 0, 1) := by decide +kernel
theorem dX13_name1_38 : decode cX13_name1 38 = .ok (.aload_n 0, 1) := by decide +kernel
theorem dX13_name1_39 : decode cX13_name1 39 = .ok (.getfield 17, 3) := by decide +kernel
theorem dX13_name1_42 : decode cX13_name1 42 = .ok (.iload_n 1, 1) := by decide +kernel
theorem dX13_name1_43 : decode cX13_name1 43 = .ok (.iaload, 1) := by decide +kernel
theorem dX13_name1_44 : decode cX13_name1 44 = .ok (.iconst 2, 1) := by decide +kernel
theorem dX13_name1_45 : decode cX13_name1 45 = .ok (.invokevirtual 209, 3) := by decide +kernel
theorem dX13_name1_48 : decode cX13_name1 48 = .ok (.aload_n 0, 1) := by decide +kernel
theorem dX13_name1_49 : decode cX13_name1 49 = .ok (.iload_n 1, 1) := by decide +kernel
theorem dX13_name1_50 : decode cX13_name1 50 = .ok (.invokevirtual 243, 3) := by decide +kernel
theorem dX13_name1_53 : decode cX13_name1 53 = .ok (.aload_n 0, 1) := by decide +kernel
theorem dX13_name1_54 : decode cX13_name1 54 = .ok (.getfield 54, 3) := by decide +kernel
theorem dX13_name1_57 : decode cX13_name1 57 = .ok (.iload_n 1, 1) := by decide +kernel
theorem dX13_name1_58 : decode cX13_name1 58 = .ok (.dup2, 1) := by decide +kernel
theorem dX13_name1_59 : decode cX13_name1 59 = .ok (.iaload, 1) := by decide +kernel
theorem dX13_name1_60 : decode cX13_name1 60 = .ok (.iconst 1, 1) := by decide +kernel
theorem dX13_name1_61 : decode cX13_name1 61 = .ok (.iadd, 1) := by decide +kernel
theorem dX13_name1_62 : decode cX13_name1 62 = .ok (.iastore, 1) := by decide +kernel
theorem dX13_name1_63 : decode cX13_name1 63 = .ok (.aload_n 0, 1) := by decide +kernel
theorem dX13_name1_64 : decode cX13_name1 64 = .ok (.getfield 57, 3) := by decide +kernel
theorem dX13_name1_67 : decode cX13_name1 67 = .ok (.iload_n 1, 1) := by decide +kernel
theorem dX13_name1_68 : decode cX13_name1 68 = .ok (.aload_n 0, 1) := by decide +kernel
theorem dX13_name1_69 : decode cX13_name1 69 = .ok (.getfield 226, 3) := by decide +kernel
theorem dX13_name1_72 : decode cX13_name1 72 = .ok (.ldc2_w 275, 3) := by decide +kernel
theorem dX13_name1_75 : decode cX13_name1 75 = .ok (.ladd, 1) := by decide +kernel
theorem dX13_name1_76 : decode cX13_name1 76 = .ok (.lastore, 1) := by decide +kernel
theorem dX13_name1_77 : decode cX13_name1 77 = .ok (.return_, 1) := by decide +kernel
theorem dX13_name1_78 : decode cX13_name1 78 = .ok (.aload_n 0, 1) := by decide +kernel
theorem dX13_name1_79 : decode cX13_name1 79 = .ok (.getfield 54, 3) := by decide +kernel
theorem dX13_name1_82 : decode cX13_name1 82 = .ok (.iload_n 1, 1) := by decide +kernel
theorem dX13_name1_83 : decode cX13_name1 83 = .ok (.iaload, 1) := by decide +kernel
theorem dX13_name1_84 : decode cX13_name1 84 = .ok (.iconst 3, 1) := by decide +kernel
theorem dX13_name1_85 : decode cX13_name1 85 = .ok (.if_icmp .ne 7, 3) := by decide +kernel
theorem dX13_name1_88 : decode cX13_name1 88 = .ok (.iconst 1, 1) := by decide +kernel
theorem dX13_name1_89 : decode cX13_name1 89 = .ok (.goto 4, 3) := by decide +kernel
theorem dX13_name1_92 : decode cX13_name1 92 = .ok (.iconst 0, 1) := by decide +kernel
theorem dX13_name1_93 : decode cX13_name1 93 = .ok (.istore_n 2, 1) := by decide +kernel
theorem dX13_name1_94 : decode cX13_name1 94 = .ok (.aload_n 0, 1) := by decide +kernel
theorem dX13_name1_95 : decode cX13_name1 95 = .ok (.getfield 51, 3) := by decide +kernel
theorem dX13_name1_98 : decode cX13_name1 98 = .ok (.iload_n 1, 1) := by decide +kernel
theorem dX13_name1_99 : decode cX13_name1 99 = .ok (.iconst 3, 1) := by decide +kernel
theorem dX13_name1_100 : decode cX13_name1 100 = .ok (.iastore, 1) := by decide +kernel
theorem dX13_name1_101 : decode cX13_name1 101 = .ok (.aload_n 0, 1) := by decide +kernel
theorem dX13_name1_102 : decode cX13_name1 102 = .ok (.getfield 54, 3) := by decide +kernel
theorem dX13_name1_105 : decode cX13_name1 105 = .ok (.iload_n 1, 1) := by decide +kernel
theorem dX13_name1_106 : decode cX13_name1 106 = .ok (.iconst 4, 1) := by decide +kernel
theorem dX13_name1_107 : decode cX13_name1 107 = .ok (.iastore, 1) := by decide +kernel
theorem dX13_name1_108 : decode cX13_name1 108 = .ok (.aload_n 0, 1) := by decide +kernel
theorem dX13_name1_109 : decode cX13_name1 109 = .ok (.getfield 57, 3) := by decide +kernel
theorem dX13_name1_112 : decode cX13_name1 112 = .ok (.iload_n 1, 1) := by decide +kernel
theorem dX13_name1_113 : decode cX13_name1 113 = .ok (.iload_n 2, 1) := by decide +kernel
theorem dX13_name1_114 : decode cX13_name1 114 = .ok (.ifCond .eq 14, 3) := by decide +kernel
theorem dX13_name1_117 : decode cX13_name1 117 = .ok (.aload_n 0, 1) := by decide +kernel
theorem dX13_name1_118 : decode cX13_name1 118 = .ok (.getfield 226, 3) := by decide +kernel
theorem dX13_name1_121 : decode cX13_name1 121 = .ok (.ldc2_w 285, 3) := by decide +kernel
theorem dX13_name1_124 : decode cX13_name1 124 = .ok (.ladd, 1) := by decide +kernel
theorem dX13_name1_125 : decode cX13_name1 125 = .ok (.goto 6, 3) := by decide +kernel
theorem dX13_name1_128 : decode cX13_name1 128 = .ok (.ldc2_w 271, 3) := by decide +kernel
theorem dX13_name1_131 : decode cX13_name1 131 = .ok (.lastore, 1) := by decide +kernel
theorem dX13_name1_132 : decode cX13_name1 132 = .ok (.aload_n 0, 1) := by decide +kernel
theorem dX13_name1_133 : decode cX13_name1 133 = .ok (.iload_n 1, 1) := by decide +kernel
theorem dX13_name1_134 : decode cX13_name1 134 = .ok (.ldc_w 287, 3) := by decide +kernel
theorem dX13_name1_137 : decode cX13_name1 137 = .ok (.iconst 1, 1) := by decide +kernel
theorem dX13_name1_138 : decode cX13_name1 138 = .ok (.invokevirtual 288, 3) := by decide +kernel
theorem dX13_name1_141 : decode cX13_name1 141 = .ok (.return_, 1) := by decide +kernel
theorem dX13_asks_0 : decode cX13_asks 0 = .ok (.aload_n 0, 1) := by decide +kernel
theorem dX13_asks_1 : decode cX13_asks 1 = .ok (.getfield 84, 3) := by decide +kernel
theorem dX13_asks_4 : decode cX13_asks 4 = .ok (.iload_n 1, 1) := by decide +kernel
theorem dX13_asks_5 : decode cX13_asks 5 = .ok (.aload_n 0, 1) := by decide +kernel
theorem dX13_asks_6 : decode cX13_asks 6 = .ok (.getfield 226, 3) := by decide +kernel
theorem dX13_asks_9 : decode cX13_asks 9 = .ok (.aload_n 0, 1) := by decide +kernel
theorem dX13_asks_10 : decode cX13_asks 10 = .ok (.getfield 87, 3) := by decide +kernel
theorem dX13_asks_13 : decode cX13_asks 13 = .ok (.iload_n 1, 1) := by decide +kernel
theorem dX13_asks_14 : decode cX13_asks 14 = .ok (.iaload, 1) := by decide +kernel
theorem dX13_asks_15 : decode cX13_asks 15 = .ok (.i2l, 1) := by decide +kernel
theorem dX13_asks_16 : decode cX13_asks 16 = .ok (.ladd, 1) := by decide +kernel
theorem dX13_asks_17 : decode cX13_asks 17 = .ok (.lastore, 1) := by decide +kernel
theorem dX13_asks_18 : decode cX13_asks 18 = .ok (.aload_n 0, 1) := by decide +kernel
theorem dX13_asks_19 : decode cX13_asks 19 = .ok (.getfield 87, 3) := by decide +kernel
theorem dX13_asks_22 : decode cX13_asks 22 = .ok (.iload_n 1, 1) := by decide +kernel
theorem dX13_asks_23 : decode cX13_asks 23 = .ok (.aload_n 0, 1) := by decide +kernel
theorem dX13_asks_24 : decode cX13_asks 24 = .ok (.getfield 87, 3) := by decide +kernel
theorem dX13_asks_27 : decode cX13_asks 27 = .ok (.iload_n 1, 1) := by decide +kernel
theorem dX13_asks_28 : decode cX13_asks 28 = .ok (.iaload, 1) := by decide +kernel
theorem dX13_asks_29 : decode cX13_asks 29 = .ok (.ldc_w 292, 3) := by decide +kernel
theorem dX13_asks_32 : decode cX13_asks 32 = .ok (.if_icmp .ge 14, 3) := by decide +kernel
theorem dX13_asks_35 : decode cX13_asks 35 = .ok (.iconst 2, 1) := by decide +kernel
theorem dX13_asks_36 : decode cX13_asks 36 = .ok (.aload_n 0, 1) := by decide +kernel
theorem dX13_asks_37 : decode cX13_asks 37 = .ok (.getfield 87, 3) := by decide +kernel
theorem dX13_asks_40 : decode cX13_asks 40 = .ok (.iload_n 1, 1) := by decide +kernel
theorem dX13_asks_41 : decode cX13_asks 41 = .ok (.iaload, 1) := by decide +kernel
theorem dX13_asks_42 : decode cX13_asks 42 = .ok (.imul, 1) := by decide +kernel
theorem dX13_asks_43 : decode cX13_asks 43 = .ok (.goto 6, 3) := by decide +kernel
theorem dX13_asks_46 : decode cX13_asks 46 = .ok (.ldc_w 292, 3) := by decide +kernel
theorem dX13_asks_49 : decode cX13_asks 49 = .ok (.iastore, 1) := by decide +kernel
theorem dX13_asks_50 : decode cX13_asks 50 = .ok (.aload_n 0, 1) := by decide +kernel
theorem dX13_asks_51 : decode cX13_asks 51 = .ok (.iload_n 1, 1) := by decide +kernel
theorem dX13_asks_52 : decode cX13_asks 52 = .ok (.iconst 4, 1) := by decide +kernel
theorem dX13_asks_53 : decode cX13_asks 53 = .ok (.idiv, 1) := by decide +kernel
theorem dX13_asks_54 : decode cX13_asks 54 = .ok (.aload_n 0, 1) := by decide +kernel
theorem dX13_asks_55 : decode cX13_asks 55 = .ok (.getfield 81, 3) := by decide +kernel
theorem dX13_asks_58 : decode cX13_asks 58 = .ok (.iload_n 1, 1) := by decide +kernel
theorem dX13_asks_59 : decode cX13_asks 59 = .ok (.iaload, 1) := by decide +kernel
theorem dX13_asks_60 : decode cX13_asks 60 = .ok (.aload_n 0, 1) := by decide +kernel
theorem dX13_asks_61 : decode cX13_asks 61 = .ok (.getfield 78, 3) := by decide +kernel
theorem dX13_asks_64 : decode cX13_asks 64 = .ok (.bipush 16, 2) := by decide +kernel
theorem dX13_asks_66 : decode cX13_asks 66 = .ok (.iload_n 1, 1) := by decide +kernel
theorem dX13_asks_67 : decode cX13_asks 67 = .ok (.imul, 1) := by decide +kernel
theorem dX13_asks_68 : decode cX13_asks 68 = .ok (.iconst 1, 1) := by decide +kernel
theorem dX13_asks_69 : decode cX13_asks 69 = .ok (.invokevirtual 293, 3) := by decide +kernel
theorem dX13_asks_72 : decode cX13_asks 72 = .ok (.return_, 1) := by decide +kernel
theorem dX13_replies1_0 : decode cX13_replies1 0 = .ok (.iconst 4, 1) := by decide +kernel
theorem dX13_replies1_1 : decode cX13_replies1 1 = .ok (.iload_n 1, 1) := by decide +kernel
theorem dX13_replies1_2 : decode cX13_replies1 2 = .ok (.imul, 1) := by decide +kernel
theorem dX13_replies1_3 : decode cX13_replies1 3 = .ok (.iload_n 2, 1) := by decide +kernel
theorem dX13_replies1_4 : decode cX13_replies1 4 = .ok (.iadd, 1) := by decide +kernel
theorem dX13_replies1_5 : decode cX13_replies1 5 = .ok (.istore_n 3, 1) := by decide +kernel
theorem dX13_replies1_6 : decode cX13_replies1 6 = .ok (.iconst 0, 1) := by decide +kernel
theorem dX13_replies1_7 : decode cX13_replies1 7 = .ok (.istore 4, 2) := by decide +kernel
theorem dX13_replies1_9 : decode cX13_replies1 9 = .ok (.iconst 0, 1) := by decide +kernel
theorem dX13_replies1_10 : decode cX13_replies1 10 = .ok (.istore 5, 2) := by decide +kernel
theorem dX13_replies1_12 : decode cX13_replies1 12 = .ok (.iload 5, 2) := by decide +kernel
theorem dX13_replies1_14 : decode cX13_replies1 14 = .ok (.aload_n 0, 1) := by decide +kernel
theorem dX13_replies1_15 : decode cX13_replies1 15 = .ok (.getfield 75, 3) := by decide +kernel
theorem dX13_replies1_18 : decode cX13_replies1 18 = .ok (.iload_n 1, 1) := by decide +kernel
theorem dX13_replies1_19 : decode cX13_replies1 19 = .ok (.iaload, 1) := by decide +kernel
theorem dX13_replies1_20 : decode cX13_replies1 20 = .ok (.if_icmp .ge 47, 3) := by decide +kernel
theorem dX13_replies1_23 : decode cX13_replies1 23 = .ok (.iload 4, 2) := by decide +kernel
theorem dX13_replies1_25 : decode cX13_replies1 25 = .ok (.aload_n 0, 1) := by decide +kernel
theorem dX13_replies1_26 : decode cX13_replies1 26 = .ok (.getfield 69, 3) := by decide +kernel
theorem dX13_replies1_29 : decode cX13_replies1 29 = .ok (.bipush 64, 2) := by decide +kernel
theorem dX13_replies1_31 : decode cX13_replies1 31 = .ok (.iload_n 1, 1) := by decide +kernel
theorem dX13_replies1_32 : decode cX13_replies1 32 = .ok (.imul, 1) := by decide +kernel
theorem dX13_replies1_33 : decode cX13_replies1 33 = .ok (.bipush 16, 2) := by decide +kernel
theorem dX13_replies1_35 : decode cX13_replies1 35 = .ok (.iload 5, 2) := by decide +kernel
theorem dX13_replies1_37 : decode cX13_replies1 37 = .ok (.imul, 1) := by decide +kernel
theorem dX13_replies1_38 : decode cX13_replies1 38 = .ok (.iadd, 1) := by decide +kernel
theorem dX13_replies1_39 : decode cX13_replies1 39 = .ok (.aload_n 0, 1) := by decide +kernel
theorem dX13_replies1_40 : decode cX13_replies1 40 = .ok (.getfield 90, 3) := by decide +kernel
theorem dX13_replies1_43 : decode cX13_replies1 43 = .ok (.bipush 16, 2) := by decide +kernel
theorem dX13_replies1_45 : decode cX13_replies1 45 = .ok (.iload_n 3, 1) := by decide +kernel
theorem dX13_replies1_46 : decode cX13_replies1 46 = .ok (.imul, 1) := by decide +kernel
theorem dX13_replies1_47 : decode cX13_replies1 47 = .ok (.invokestatic 257, 3) := by decide +kernel
theorem dX13_replies1_50 : decode cX13_replies1 50 = .ok (.ifCond .eq 7, 3) := by decide +kernel
theorem dX13_replies1_53 : decode cX13_replies1 53 = .ok (.iconst 1, 1) := by decide +kernel
theorem dX13_replies1_54 : decode cX13_replies1 54 = .ok (.goto 4, 3) := by decide +kernel
theorem dX13_replies1_57 : decode cX13_replies1 57 = .ok (.iconst 0, 1) := by decide +kernel
theorem dX13_replies1_58 : decode cX13_replies1 58 = .ok (.iadd, 1) := by decide +kernel
theorem dX13_replies1_59 : decode cX13_replies1 59 = .ok (.istore 4, 2) := by decide +kernel
theorem dX13_replies1_61 : decode cX13_replies1 61 = .ok (.iinc 5 1, 3) := by decide +kernel
theorem dX13_replies1_64 : decode cX13_replies1 64 = .ok (.goto (-52), 3) := by decide +kernel
theorem dX13_replies1_67 : decode cX13_replies1 67 = .ok (.aload_n 0, 1) := by decide +kernel
theorem dX13_replies1_68 : decode cX13_replies1 68 = .ok (.getfield 51, 3) := by decide +kernel
theorem dX13_replies1_71 : decode cX13_replies1 71 = .ok (.iload_n 1, 1) := by decide +kernel
theorem dX13_replies1_72 : decode cX13_replies1 72 = .ok (.iaload, 1) := by decide +kernel
theorem dX13_replies1_73 : decode cX13_replies1 73 = .ok (.iconst 3, 1) := by decide +kernel
theorem dX13_replies1_74 : decode cX13_replies1 74 = .ok (.if_icmp .ne 83, 3) := by decide +kernel
theorem dX13_replies1_77 : decode cX13_replies1 77 = .ok (.iload 4, 2) := by decide +kernel
theorem dX13_replies1_79 : decode cX13_replies1 79 = .ok (.ifCond .le 78, 3) := by decide +kernel
theorem dX13_replies1_82 : decode cX13_replies1 82 = .ok (.aload_n 0, 1) := by decide +kernel
theorem dX13_replies1_83 : decode cX13_replies1 83 = .ok (.iconst 5, 1) := by decide +kernel
theorem dX13_replies1_84 : decode cX13_replies1 84 = .ok (.invokevirtual 236, 3) := by decide +kernel
theorem dX13_replies1_87 : decode cX13_replies1 87 = .ok (.aload_n 0, 1) := by decide +kernel
theorem dX13_replies1_88 : decode cX13_replies1 88 = .ok (.iload 4, 2) := by decide +kernel
theorem dX13_replies1_90 : decode cX13_replies1 90 = .ok (.iconst 1, 1) := by decide +kernel
theorem dX13_replies1_91 : decode cX13_replies1 91 = .ok (.invokevirtual 209, 3) := by decide +kernel
theorem dX13_replies1_94 : decode cX13_replies1 94 = .ok (.iconst 0, 1) := by decide +kernel
theorem dX13_replies1_95 : decode cX13_replies1 95 = .ok (.istore 5, 2) := by decide +kernel
theorem dX13_replies1_97 : decode cX13_replies1 97 = .ok (.iload 5, 2) := by decide +kernel
theorem dX13_replies1_99 : decode cX13_replies1 99 = .ok (.aload_n 0, 1) := by decide +kernel
theorem dX13_replies1_100 : decode cX13_replies1 100 = .ok (.getfield 75, 3) := by decide +kernel
theorem dX13_replies1_103 : decode cX13_replies1 103 = .ok (.iload_n 1, 1) := by decide +kernel
theorem dX13_replies1_104 : decode cX13_replies1 104 = .ok (.iaload, 1) := by decide +kernel
theorem dX13_replies1_105 : decode cX13_replies1 105 = .ok (.if_icmp .ge 47, 3) := by decide +kernel
theorem dX13_replies1_108 : decode cX13_replies1 108 = .ok (.aload_n 0, 1) := by decide +kernel
theorem dX13_replies1_109 : decode cX13_replies1 109 = .ok (.getfield 69, 3) := by decide +kernel
theorem dX13_replies1_112 : decode cX13_replies1 112 = .ok (.bipush 64, 2) := by decide +kernel
theorem dX13_replies1_114 : decode cX13_replies1 114 = .ok (.iload_n 1, 1) := by decide +kernel
theorem dX13_replies1_115 : decode cX13_replies1 115 = .ok (.imul, 1) := by decide +kernel
theorem dX13_replies1_116 : decode cX13_replies1 116 = .ok (.bipush 16, 2) := by decide +kernel
theorem dX13_replies1_118 : decode cX13_replies1 118 = .ok (.iload 5, 2) := by decide +kernel
theorem dX13_replies1_120 : decode cX13_replies1 120 = .ok (.imul, 1) := by decide +kernel
theorem dX13_replies1_121 : decode cX13_replies1 121 = .ok (.iadd, 1) := by decide +kernel
theorem dX13_replies1_122 : decode cX13_replies1 122 = .ok (.aload_n 0, 1) := by decide +kernel
theorem dX13_replies1_123 : decode cX13_replies1 123 = .ok (.getfield 90, 3) := by decide +kernel
theorem dX13_replies1_126 : decode cX13_replies1 126 = .ok (.bipush 16, 2) := by decide +kernel
theorem dX13_replies1_128 : decode cX13_replies1 128 = .ok (.iload_n 3, 1) := by decide +kernel
theorem dX13_replies1_129 : decode cX13_replies1 129 = .ok (.imul, 1) := by decide +kernel
theorem dX13_replies1_130 : decode cX13_replies1 130 = .ok (.invokestatic 257, 3) := by decide +kernel
theorem dX13_replies1_133 : decode cX13_replies1 133 = .ok (.ifCond .eq 13, 3) := by decide +kernel
theorem dX13_replies1_136 : decode cX13_replies1 136 = .ok (.aload_n 0, 1) := by decide +kernel
theorem dX13_replies1_137 : decode cX13_replies1 137 = .ok (.iload_n 1, 1) := by decide +kernel
theorem dX13_replies1_138 : decode cX13_replies1 138 = .ok (.iload 5, 2) := by decide +kernel
theorem dX13_replies1_140 : decode cX13_replies1 140 = .ok (.ldc_w 287, 3) := by decide +kernel
theorem dX13_replies1_143 : decode cX13_replies1 143 = .ok (.invokevirtual 253, 3) := by decide +kernel
theorem dX13_replies1_146 : decode cX13_replies1 146 = .ok (.iinc 5 1, 3) := by decide +kernel
theorem dX13_replies1_149 : decode cX13_replies1 149 = .ok (.goto (-52), 3) := by decide +kernel
theorem dX13_replies1_152 : decode cX13_replies1 152 = .ok (.aload_n 0, 1) := by decide +kernel
theorem dX13_replies1_153 : decode cX13_replies1 153 = .ok (.iload_n 1, 1) := by decide +kernel
theorem dX13_replies1_154 : decode cX13_replies1 154 = .ok (.invokevirtual 243, 3) := by decide +kernel
theorem dX13_replies1_157 : decode cX13_replies1 157 = .ok (.aload_n 0, 1) := by decide +kernel
theorem dX13_replies1_158 : decode cX13_replies1 158 = .ok (.getfield 96, 3) := by decide +kernel
theorem dX13_replies1_161 : decode cX13_replies1 161 = .ok (.iload_n 1, 1) := by decide +kernel
theorem dX13_replies1_162 : decode cX13_replies1 162 = .ok (.dup2, 1) := by decide +kernel
theorem dX13_replies1_163 : decode cX13_replies1 163 = .ok (.iaload, 1) := by decide +kernel
theorem dX13_replies1_164 : decode cX13_replies1 164 = .ok (.iconst 1, 1) := by decide +kernel
theorem dX13_replies1_165 : decode cX13_replies1 165 = .ok (.isub, 1) := by decide +kernel
theorem dX13_replies1_166 : decode cX13_replies1 166 = .ok (.iastore, 1) := by decide +kernel
theorem dX13_replies1_167 : decode cX13_replies1 167 = .ok (.iload_n 3, 1) := by decide +kernel
theorem dX13_replies1_168 : decode cX13_replies1 168 = .ok (.istore 5, 2) := by decide +kernel
theorem dX13_replies1_170 : decode cX13_replies1 170 = .ok (.iload 5, 2) := by decide +kernel
theorem dX13_replies1_172 : decode cX13_replies1 172 = .ok (.iconst 4, 1) := by decide +kernel
theorem dX13_replies1_173 : decode cX13_replies1 173 = .ok (.iload_n 1, 1) := by decide +kernel
theorem dX13_replies1_174 : decode cX13_replies1 174 = .ok (.imul, 1) := by decide +kernel
theorem dX13_replies1_175 : decode cX13_replies1 175 = .ok (.aload_n 0, 1) := by decide +kernel
theorem dX13_replies1_176 : decode cX13_replies1 176 = .ok (.getfield 96, 3) := by decide +kernel
theorem dX13_replies1_179 : decode cX13_replies1 179 = .ok (.iload_n 1, 1) := by decide +kernel
theorem dX13_replies1_180 : decode cX13_replies1 180 = .ok (.iaload, 1) := by decide +kernel
theorem dX13_replies1_181 : decode cX13_replies1 181 = .ok (.iadd, 1) := by decide +kernel
theorem dX13_replies1_182 : decode cX13_replies1 182 = .ok (.if_icmp .ge 49, 3) := by decide +kernel
theorem dX13_replies1_185 : decode cX13_replies1 185 = .ok (.aload_n 0, 1) := by decide +kernel
theorem dX13_replies1_186 : decode cX13_replies1 186 = .ok (.getfield 93, 3) := by decide +kernel
theorem dX13_replies1_189 : decode cX13_replies1 189 = .ok (.iload 5, 2) := by decide +kernel
theorem dX13_replies1_191 : decode cX13_replies1 191 = .ok (.aload_n 0, 1) := by decide +kernel
theorem dX13_replies1_192 : decode cX13_replies1 192 = .ok (.getfield 93, 3) := by decide +kernel
theorem dX13_replies1_195 : decode cX13_replies1 195 = .ok (.iload 5, 2) := by decide +kernel
theorem dX13_replies1_197 : decode cX13_replies1 197 = .ok (.iconst 1, 1) := by decide +kernel
theorem dX13_replies1_198 : decode cX13_replies1 198 = .ok (.iadd, 1) := by decide +kernel
theorem dX13_replies1_199 : decode cX13_replies1 199 = .ok (.laload, 1) := by decide +kernel
theorem dX13_replies1_200 : decode cX13_replies1 200 = .ok (.lastore, 1) := by decide +kernel
theorem dX13_replies1_201 : decode cX13_replies1 201 = .ok (.aload_n 0, 1) := by decide +kernel
theorem dX13_replies1_202 : decode cX13_replies1 202 = .ok (.getfield 90, 3) := by decide +kernel
theorem dX13_replies1_205 : decode cX13_replies1 205 = .ok (.bipush 16, 2) := by decide +kernel
theorem dX13_replies1_207 : decode cX13_replies1 207 = .ok (.iload 5, 2) := by decide +kernel
theorem dX13_replies1_209 : decode cX13_replies1 209 = .ok (.imul, 1) := by decide +kernel
theorem dX13_replies1_210 : decode cX13_replies1 210 = .ok (.bipush 16, 2) := by decide +kernel
theorem dX13_replies1_212 : decode cX13_replies1 212 = .ok (.iadd, 1) := by decide +kernel
theorem dX13_replies1_213 : decode cX13_replies1 213 = .ok (.aload_n 0, 1) := by decide +kernel
theorem dX13_replies1_214 : decode cX13_replies1 214 = .ok (.getfield 90, 3) := by decide +kernel
theorem dX13_replies1_217 : decode cX13_replies1 217 = .ok (.bipush 16, 2) := by decide +kernel
theorem dX13_replies1_219 : decode cX13_replies1 219 = .ok (.iload 5, 2) := by decide +kernel
theorem dX13_replies1_221 : decode cX13_replies1 221 = .ok (.imul, 1) := by decide +kernel
theorem dX13_replies1_222 : decode cX13_replies1 222 = .ok (.invokestatic 213, 3) := by decide +kernel
theorem dX13_replies1_225 : decode cX13_replies1 225 = .ok (.iinc 5 1, 3) := by decide +kernel
theorem dX13_replies1_228 : decode cX13_replies1 228 = .ok (.goto (-58), 3) := by decide +kernel
theorem dX13_replies1_231 : decode cX13_replies1 231 = .ok (.return_, 1) := by decide +kernel
theorem dX13_entryDue_0 : decode cX13_entryDue 0 = .ok (.aload_n 0, 1) := by decide +kernel
theorem dX13_entryDue_1 : decode cX13_entryDue 1 = .ok (.getfield 117, 3) := by decide +kernel
theorem dX13_entryDue_4 : decode cX13_entryDue 4 = .ok (.iload_n 1, 1) := by decide +kernel
theorem dX13_entryDue_5 : decode cX13_entryDue 5 = .ok (.baload, 1) := by decide +kernel
theorem dX13_entryDue_6 : decode cX13_entryDue 6 = .ok (.ifCond .ne 13, 3) := by decide +kernel
theorem dX13_entryDue_9 : decode cX13_entryDue 9 = .ok (.aload_n 0, 1) := by decide +kernel
theorem dX13_entryDue_10 : decode cX13_entryDue 10 = .ok (.getfield 120, 3) := by decide +kernel
theorem dX13_entryDue_13 : decode cX13_entryDue 13 = .ok (.iload_n 1, 1) := by decide +kernel
theorem dX13_entryDue_14 : decode cX13_entryDue 14 = .ok (.iaload, 1) := by decide +kernel
theorem dX13_entryDue_15 : decode cX13_entryDue 15 = .ok (.iconst 4, 1) := by decide +kernel
theorem dX13_entryDue_16 : decode cX13_entryDue 16 = .ok (.if_icmp .ne 10, 3) := by decide +kernel
theorem dX13_entryDue_19 : decode cX13_entryDue 19 = .ok (.aload_n 0, 1) := by decide +kernel
theorem dX13_entryDue_20 : decode cX13_entryDue 20 = .ok (.getfield 114, 3) := by decide +kernel
theorem dX13_entryDue_23 : decode cX13_entryDue 23 = .ok (.iload_n 1, 1) := by decide +kernel
theorem dX13_entryDue_24 : decode cX13_entryDue 24 = .ok (.laload, 1) := by decide +kernel
theorem dX13_entryDue_25 : decode cX13_entryDue 25 = .ok (.lreturn, 1) := by decide +kernel
theorem dX13_entryDue_26 : decode cX13_entryDue 26 = .ok (.aload_n 0, 1) := by decide +kernel
theorem dX13_entryDue_27 : decode cX13_entryDue 27 = .ok (.getfield 111, 3) := by decide +kernel
theorem dX13_entryDue_30 : decode cX13_entryDue 30 = .ok (.iload_n 1, 1) := by decide +kernel
theorem dX13_entryDue_31 : decode cX13_entryDue 31 = .ok (.laload, 1) := by decide +kernel
theorem dX13_entryDue_32 : decode cX13_entryDue 32 = .ok (.aload_n 0, 1) := by decide +kernel
theorem dX13_entryDue_33 : decode cX13_entryDue 33 = .ok (.getfield 108, 3) := by decide +kernel
theorem dX13_entryDue_36 : decode cX13_entryDue 36 = .ok (.iload_n 1, 1) := by decide +kernel
theorem dX13_entryDue_37 : decode cX13_entryDue 37 = .ok (.iaload, 1) := by decide +kernel
theorem dX13_entryDue_38 : decode cX13_entryDue 38 = .ok (.i2l, 1) := by decide +kernel
theorem dX13_entryDue_39 : decode cX13_entryDue 39 = .ok (.bipush 80, 2) := by decide +kernel
theorem dX13_entryDue_41 : decode cX13_entryDue 41 = .ok (.iconst 5, 1) := by decide +kernel
theorem dX13_entryDue_42 : decode cX13_entryDue 42 = .ok (.aload_n 0, 1) := by decide +kernel
theorem dX13_entryDue_43 : decode cX13_entryDue 43 = .ok (.getfield 120, 3) := by decide +kernel
theorem dX13_entryDue_46 : decode cX13_entryDue 46 = .ok (.iload_n 1, 1) := by decide +kernel
theorem dX13_entryDue_47 : decode cX13_entryDue 47 = .ok (.iaload, 1) := by decide +kernel
theorem dX13_entryDue_48 : decode cX13_entryDue 48 = .ok (.imul, 1) := by decide +kernel
theorem dX13_entryDue_49 : decode cX13_entryDue 49 = .ok (.iadd, 1) := by decide +kernel
theorem dX13_entryDue_50 : decode cX13_entryDue 50 = .ok (.i2l, 1) := by decide +kernel
theorem dX13_entryDue_51 : decode cX13_entryDue 51 = .ok (.lmul, 1) := by decide +kernel
theorem dX13_entryDue_52 : decode cX13_entryDue 52 = .ok (.ldc2_w 297, 3) := by decide +kernel
theorem dX13_entryDue_55 : decode cX13_entryDue 55 = .ok (.ldiv, 1) := by decide +kernel
theorem dX13_entryDue_56 : decode cX13_entryDue 56 = .ok (.ladd, 1) := by decide +kernel
theorem dX13_entryDue_57 : decode cX13_entryDue 57 = .ok (.lstore_n 2, 1) := by decide +kernel
theorem dX13_entryDue_58 : decode cX13_entryDue 58 = .ok (.lload_n 2, 1) := by decide +kernel
theorem dX13_entryDue_59 : decode cX13_entryDue 59 = .ok (.aload_n 0, 1) := by decide +kernel
theorem dX13_entryDue_60 : decode cX13_entryDue 60 = .ok (.getfield 114, 3) := by decide +kernel
theorem dX13_entryDue_63 : decode cX13_entryDue 63 = .ok (.iload_n 1, 1) := by decide +kernel
theorem dX13_entryDue_64 : decode cX13_entryDue 64 = .ok (.laload, 1) := by decide +kernel
theorem dX13_entryDue_65 : decode cX13_entryDue 65 = .ok (.lcmp, 1) := by decide +kernel
theorem dX13_entryDue_66 : decode cX13_entryDue 66 = .ok (.ifCond .ge 7, 3) := by decide +kernel
theorem dX13_entryDue_69 : decode cX13_entryDue 69 = .ok (.lload_n 2, 1) := by decide +kernel
theorem dX13_entryDue_70 : decode cX13_entryDue 70 = .ok (.goto 9, 3) := by decide +kernel
theorem dX13_entryDue_73 : decode cX13_entryDue 73 = .ok (.aload_n 0, 1) := by decide +kernel
theorem dX13_entryDue_74 : decode cX13_entryDue 74 = .ok (.getfield 114, 3) := by decide +kernel
theorem dX13_entryDue_77 : decode cX13_entryDue 77 = .ok (.iload_n 1, 1) := by decide +kernel
theorem dX13_entryDue_78 : decode cX13_entryDue 78 = .ok (.laload, 1) := by decide +kernel
