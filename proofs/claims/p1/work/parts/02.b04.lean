theorem dX13_millisecond_0 : decode cX13_millisecond 0 = .ok (.iconst 1, 1) := by decide +kernel
theorem dX13_millisecond_1 : decode cX13_millisecond 1 = .ok (.istore_n 1, 1) := by decide +kernel
theorem dX13_millisecond_2 : decode cX13_millisecond 2 = .ok (.iload_n 1, 1) := by decide +kernel
theorem dX13_millisecond_3 : decode cX13_millisecond 3 = .ok (.ifCond .eq 208, 3) := by decide +kernel
theorem dX13_millisecond_6 : decode cX13_millisecond 6 = .ok (.aload_n 0, 1) := by decide +kernel
theorem dX13_millisecond_7 : decode cX13_millisecond 7 = .ok (.getfield 220, 3) := by decide +kernel
theorem dX13_millisecond_10 : decode cX13_millisecond 10 = .ok (.ifCond .le 193, 3) := by decide +kernel
theorem dX13_millisecond_13 : decode cX13_millisecond 13 = .ok (.aload_n 0, 1) := by decide +kernel
theorem dX13_millisecond_14 : decode cX13_millisecond 14 = .ok (.getfield 217, 3) := by decide +kernel
theorem dX13_millisecond_17 : decode cX13_millisecond 17 = .ok (.istore_n 2, 1) := by decide +kernel
theorem dX13_millisecond_18 : decode cX13_millisecond 18 = .ok (.aload_n 0, 1) := by decide +kernel
theorem dX13_millisecond_19 : decode cX13_millisecond 19 = .ok (.aload_n 0, 1) := by decide +kernel
theorem dX13_millisecond_20 : decode cX13_millisecond 20 = .ok (.getfield 217, 3) := by decide +kernel
theorem dX13_millisecond_23 : decode cX13_millisecond 23 = .ok (.iconst 1, 1) := by decide +kernel
theorem dX13_millisecond_24 : decode cX13_millisecond 24 = .ok (.iadd, 1) := by decide +kernel
theorem dX13_millisecond_25 : decode cX13_millisecond 25 = .ok (.sipush 800, 3) := by decide +kernel
theorem dX13_millisecond_28 : decode cX13_millisecond 28 = .ok (.irem, 1) := by decide +kernel
theorem dX13_millisecond_29 : decode cX13_millisecond 29 = .ok (.putfield 217, 3) := by decide +kernel
theorem dX13_millisecond_32 : decode cX13_millisecond 32 = .ok (.aload_n 0, 1) := by decide +kernel
theorem dX13_millisecond_33 : decode cX13_millisecond 33 = .ok (.dup, 1) := by decide +kernel
theorem dX13_millisecond_34 : decode cX13_millisecond 34 = .ok (.getfield 220, 3) := by decide +kernel
theorem dX13_millisecond_37 : decode cX13_millisecond 37 = .ok (.iconst 1, 1) := by decide +kernel
theorem dX13_millisecond_38 : decode cX13_millisecond 38 = .ok (.isub, 1) := by decide +kernel
theorem dX13_millisecond_39 : decode cX13_millisecond 39 = .ok (.putfield 220, 3) := by decide +kernel
theorem dX13_millisecond_42 : decode cX13_millisecond 42 = .ok (.aload_n 0, 1) := by decide +kernel
theorem dX13_millisecond_43 : decode cX13_millisecond 43 = .ok (.aload_n 0, 1) := by decide +kernel
theorem dX13_millisecond_44 : decode cX13_millisecond 44 = .ok (.getfield 133, 3) := by decide +kernel
theorem dX13_millisecond_47 : decode cX13_millisecond 47 = .ok (.iload_n 2, 1) := by decide +kernel
theorem dX13_millisecond_48 : decode cX13_millisecond 48 = .ok (.iaload, 1) := by decide +kernel
theorem dX13_millisecond_49 : decode cX13_millisecond 49 = .ok (.putfield 318, 3) := by decide +kernel
theorem dX13_millisecond_52 : decode cX13_millisecond 52 = .ok (.iconst 0, 1) := by decide +kernel
theorem dX13_millisecond_53 : decode cX13_millisecond 53 = .ok (.istore_n 3, 1) := by decide +kernel
theorem dX13_millisecond_54 : decode cX13_millisecond 54 = .ok (.iload_n 3, 1) := by decide +kernel
theorem dX13_millisecond_55 : decode cX13_millisecond 55 = .ok (.aload_n 0, 1) := by decide +kernel
theorem dX13_millisecond_56 : decode cX13_millisecond 56 = .ok (.getfield 318, 3) := by decide +kernel
theorem dX13_millisecond_59 : decode cX13_millisecond 59 = .ok (.if_icmp .ge 27, 3) := by decide +kernel
theorem dX13_millisecond_62 : decode cX13_millisecond 62 = .ok (.aload_n 0, 1) := by decide +kernel
theorem dX13_millisecond_63 : decode cX13_millisecond 63 = .ok (.getfield 160, 3) := by decide +kernel
theorem dX13_millisecond_66 : decode cX13_millisecond 66 = .ok (.iload_n 3, 1) := by decide +kernel
theorem dX13_millisecond_67 : decode cX13_millisecond 67 = .ok (.aload_n 0, 1) := by decide +kernel
theorem dX13_millisecond_68 : decode cX13_millisecond 68 = .ok (.getfield 130, 3) := by decide +kernel
theorem dX13_millisecond_71 : decode cX13_millisecond 71 = .ok (.sipush 200, 3) := by decide +kernel
theorem dX13_millisecond_74 : decode cX13_millisecond 74 = .ok (.iload_n 2, 1) := by decide +kernel
theorem dX13_millisecond_75 : decode cX13_millisecond 75 = .ok (.imul, 1) := by decide +kernel
theorem dX13_millisecond_76 : decode cX13_millisecond 76 = .ok (.iload_n 3, 1) := by decide +kernel
theorem dX13_millisecond_77 : decode cX13_millisecond 77 = .ok (.iadd, 1) := by decide +kernel
theorem dX13_millisecond_78 : decode cX13_millisecond 78 = .ok (.iaload, 1) := by decide +kernel
theorem dX13_millisecond_79 : decode cX13_millisecond 79 = .ok (.iastore, 1) := by decide +kernel
theorem dX13_millisecond_80 : decode cX13_millisecond 80 = .ok (.iinc 3 1, 3) := by decide +kernel
theorem dX13_millisecond_83 : decode cX13_millisecond 83 = .ok (.goto (-29), 3) := by decide +kernel
theorem dX13_millisecond_86 : decode cX13_millisecond 86 = .ok (.aload_n 0, 1) := by decide +kernel
theorem dX13_millisecond_87 : decode cX13_millisecond 87 = .ok (.getfield 136, 3) := by decide +kernel
theorem dX13_millisecond_90 : decode cX13_millisecond 90 = .ok (.iload_n 2, 1) := by decide +kernel
theorem dX13_millisecond_91 : decode cX13_millisecond 91 = .ok (.iaload, 1) := by decide +kernel
theorem dX13_millisecond_92 : decode cX13_millisecond 92 = .ok (.istore_n 3, 1) := by decide +kernel
theorem dX13_millisecond_93 : decode cX13_millisecond 93 = .ok (.aload_n 0, 1) := by decide +kernel
theorem dX13_millisecond_94 : decode cX13_millisecond 94 = .ok (.getfield 139, 3) := by decide +kernel
theorem dX13_millisecond_97 : decode cX13_millisecond 97 = .ok (.iload_n 2, 1) := by decide +kernel
theorem dX13_millisecond_98 : decode cX13_millisecond 98 = .ok (.iaload, 1) := by decide +kernel
theorem dX13_millisecond_99 : decode cX13_millisecond 99 = .ok (.istore 4, 2) := by decide +kernel
theorem dX13_millisecond_101 : decode cX13_millisecond 101 = .ok (.iconst 0, 1) := by decide +kernel
theorem dX13_millisecond_102 : decode cX13_millisecond 102 = .ok (.istore 5, 2) := by decide +kernel
theorem dX13_millisecond_104 : decode cX13_millisecond 104 = .ok (.iload 5, 2) := by decide +kernel
theorem dX13_millisecond_106 : decode cX13_millisecond 106 = .ok (.bipush 8, 2) := by decide +kernel
theorem dX13_millisecond_108 : decode cX13_millisecond 108 = .ok (.if_icmp .ge 92, 3) := by decide +kernel
theorem dX13_millisecond_111 : decode cX13_millisecond 111 = .ok (.iload 5, 2) := by decide +kernel
theorem dX13_millisecond_113 : decode cX13_millisecond 113 = .ok (.iload_n 3, 1) := by decide +kernel
theorem dX13_millisecond_114 : decode cX13_millisecond 114 = .ok (.if_icmp .eq 80, 3) := by decide +kernel
theorem dX13_millisecond_117 : decode cX13_millisecond 117 = .ok (.aload_n 0, 1) := by decide +kernel
theorem dX13_millisecond_118 : decode cX13_millisecond 118 = .ok (.getfield 13, 3) := by decide +kernel
theorem dX13_millisecond_121 : decode cX13_millisecond 121 = .ok (.iload 5, 2) := by decide +kernel
theorem dX13_millisecond_123 : decode cX13_millisecond 123 = .ok (.baload, 1) := by decide +kernel
theorem dX13_millisecond_124 : decode cX13_millisecond 124 = .ok (.ifCond .eq 70, 3) := by decide +kernel
theorem dX13_millisecond_127 : decode cX13_millisecond 127 = .ok (.aload_n 0, 1) := by decide +kernel
theorem dX13_millisecond_128 : decode cX13_millisecond 128 = .ok (.getfield 20, 3) := by decide +kernel
theorem dX13_millisecond_131 : decode cX13_millisecond 131 = .ok (.iload 5, 2) := by decide +kernel
theorem dX13_millisecond_133 : decode cX13_millisecond 133 = .ok (.iaload, 1) := by decide +kernel
theorem dX13_millisecond_134 : decode cX13_millisecond 134 = .ok (.iload 4, 2) := by decide +kernel
theorem dX13_millisecond_136 : decode cX13_millisecond 136 = .ok (.if_icmp .eq 6, 3) := by decide +kernel
theorem dX13_millisecond_139 : decode cX13_millisecond 139 = .ok (.goto 55, 3) := by decide +kernel
theorem dX13_millisecond_142 : decode cX13_millisecond 142 = .ok (.aload_n 0, 1) := by decide +kernel
theorem dX13_millisecond_143 : decode cX13_millisecond 143 = .ok (.getfield 29, 3) := by decide +kernel
theorem dX13_millisecond_146 : decode cX13_millisecond 146 = .ok (.iload 5, 2) := by decide +kernel
theorem dX13_millisecond_148 : decode cX13_millisecond 148 = .ok (.iaload, 1) := by decide +kernel
theorem dX13_millisecond_149 : decode cX13_millisecond 149 = .ok (.ifCond .le 27, 3) := by decide +kernel
theorem dX13_millisecond_152 : decode cX13_millisecond 152 = .ok (.aload_n 0, 1) := by decide +kernel
theorem dX13_millisecond_153 : decode cX13_millisecond 153 = .ok (.getfield 29, 3) := by decide +kernel
theorem dX13_millisecond_156 : decode cX13_millisecond 156 = .ok (.iload 5, 2) := by decide +kernel
theorem dX13_millisecond_158 : decode cX13_millisecond 158 = .ok (.dup2, 1) := by decide +kernel
theorem dX13_millisecond_159 : decode cX13_millisecond 159 = .ok (.iaload, 1) := by decide +kernel
theorem dX13_millisecond_160 : decode cX13_millisecond 160 = .ok (.iconst 1, 1) := by decide +kernel
theorem dX13_millisecond_161 : decode cX13_millisecond 161 = .ok (.isub, 1) := by decide +kernel
theorem dX13_millisecond_162 : decode cX13_millisecond 162 = .ok (.iastore, 1) := by decide +kernel
theorem dX13_millisecond_163 : decode cX13_millisecond 163 = .ok (.aload_n 0, 1) := by decide +kernel
theorem dX13_millisecond_164 : decode cX13_millisecond 164 = .ok (.getfield 142, 3) := by decide +kernel
theorem dX13_millisecond_167 : decode cX13_millisecond 167 = .ok (.iconst 4, 1) := by decide +kernel
theorem dX13_millisecond_168 : decode cX13_millisecond 168 = .ok (.dup2, 1) := by decide +kernel
theorem dX13_millisecond_169 : decode cX13_millisecond 169 = .ok (.iaload, 1) := by decide +kernel
theorem dX13_millisecond_170 : decode cX13_millisecond 170 = .ok (.iconst 1, 1) := by decide +kernel
theorem dX13_millisecond_171 : decode cX13_millisecond 171 = .ok (.iadd, 1) := by decide +kernel
theorem dX13_millisecond_172 : decode cX13_millisecond 172 = .ok (.iastore, 1) := by decide +kernel
theorem dX13_millisecond_173 : decode cX13_millisecond 173 = .ok (.goto 21, 3) := by decide +kernel
theorem dX13_millisecond_176 : decode cX13_millisecond 176 = .ok (.aload_n 0, 1) := by decide +kernel
theorem dX13_millisecond_177 : decode cX13_millisecond 177 = .ok (.getfield 142, 3) := by decide +kernel
theorem dX13_millisecond_180 : decode cX13_millisecond 180 = .ok (.iconst 3, 1) := by decide +kernel
theorem dX13_millisecond_181 : decode cX13_millisecond 181 = .ok (.dup2, 1) := by decide +kernel
theorem dX13_millisecond_182 : decode cX13_millisecond 182 = .ok (.iaload, 1) := by decide +kernel
theorem dX13_millisecond_183 : decode cX13_millisecond 183 = .ok (.iconst 1, 1) := by decide +kernel
theorem dX13_millisecond_184 : decode cX13_millisecond 184 = .ok (.iadd, 1) := by decide +kernel
theorem dX13_millisecond_185 : decode cX13_millisecond 185 = .ok (.iastore, 1) := by decide +kernel
theorem dX13_millisecond_186 : decode cX13_millisecond 186 = .ok (.aload_n 0, 1) := by decide +kernel
theorem dX13_millisecond_187 : decode cX13_millisecond 187 = .ok (.iload 5, 2) := by decide +kernel
theorem dX13_millisecond_189 : decode cX13_millisecond 189 = .ok (.invokevirtual 321, 3) := by decide +kernel
theorem dX13_millisecond_192 : decode cX13_millisecond 192 = .ok (.istore 6, 2) := by decide +kernel
theorem dX13_millisecond_194 : decode cX13_millisecond 194 = .ok (.iinc 5 1, 3) := by decide +kernel
theorem dX13_millisecond_197 : decode cX13_millisecond 197 = .ok (.goto (-93), 3) := by decide +kernel
theorem dX13_millisecond_200 : decode cX13_millisecond 200 = .ok (.goto (-194), 3) := by decide +kernel
theorem dX13_millisecond_203 : decode cX13_millisecond 203 = .ok (.aload_n 0, 1) := by decide +kernel
theorem dX13_millisecond_204 : decode cX13_millisecond 204 = .ok (.invokevirtual 324, 3) := by decide +kernel
theorem dX13_millisecond_207 : decode cX13_millisecond 207 = .ok (.istore_n 1, 1) := by decide +kernel
theorem dX13_millisecond_208 : decode cX13_millisecond 208 = .ok (.goto (-206), 3) := by decide +kernel
theorem dX13_millisecond_211 : decode cX13_millisecond 211 = .ok (.return_, 1) := by decide +kernel
theorem dX13_acts_0 : decode cX13_acts 0 = .ok (.iconst 0, 1) := by decide +kernel
theorem dX13_acts_1 : decode cX13_acts 1 = .ok (.istore_n 1, 1) := by decide +kernel
theorem dX13_acts_2 : decode cX13_acts 2 = .ok (.iload_n 1, 1) := by decide +kernel
theorem dX13_acts_3 : decode cX13_acts 3 = .ok (.bipush 8, 2) := by decide +kernel
theorem dX13_acts_5 : decode cX13_acts 5 = .ok (.if_icmp .ge 203, 3) := by decide +kernel
theorem dX13_acts_8 : decode cX13_acts 8 = .ok (.aload_n 0, 1) := by decide +kernel
theorem dX13_acts_9 : decode cX13_acts 9 = .ok (.getfield 13, 3) := by decide +kernel
theorem dX13_acts_12 : decode cX13_acts 12 = .ok (.iload_n 1, 1) := by decide +kernel
theorem dX13_acts_13 : decode cX13_acts 13 = .ok (.baload, 1) := by decide +kernel
theorem dX13_acts_14 : decode cX13_acts 14 = .ok (.ifCond .ne 6, 3) := by decide +kernel
theorem dX13_acts_17 : decode cX13_acts 17 = .ok (.goto 185, 3) := by decide +kernel
theorem dX13_acts_20 : decode cX13_acts 20 = .ok (.aload_n 0, 1) := by decide +kernel
theorem dX13_acts_21 : decode cX13_acts 21 = .ok (.getfield 44, 3) := by decide +kernel
theorem dX13_acts_24 : decode cX13_acts 24 = .ok (.iload_n 1, 1) := by decide +kernel
theorem dX13_acts_25 : decode cX13_acts 25 = .ok (.laload, 1) := by decide +kernel
theorem dX13_acts_26 : decode cX13_acts 26 = .ok (.aload_n 0, 1) := by decide +kernel
theorem dX13_acts_27 : decode cX13_acts 27 = .ok (.getfield 226, 3) := by decide +kernel
theorem dX13_acts_30 : decode cX13_acts 30 = .ok (.lcmp, 1) := by decide +kernel
theorem dX13_acts_31 : decode cX13_acts 31 = .ok (.ifCond .gt 10, 3) := by decide +kernel
theorem dX13_acts_34 : decode cX13_acts 34 = .ok (.aload_n 0, 1) := by decide +kernel
theorem dX13_acts_35 : decode cX13_acts 35 = .ok (.iload_n 1, 1) := by decide +kernel
theorem dX13_acts_36 : decode cX13_acts 36 = .ok (.invokevirtual 299, 3) := by decide +kernel
theorem dX13_acts_39 : decode cX13_acts 39 = .ok (.iconst 1, 1) := by decide +kernel
theorem dX13_acts_40 : decode cX13_acts 40 = .ok (.ireturn, 1) := by decide +kernel
theorem dX13_acts_41 : decode cX13_acts 41 = .ok (.aload_n 0, 1) := by decide +kernel
theorem dX13_acts_42 : decode cX13_acts 42 = .ok (.getfield 57, 3) := by decide +kernel
theorem dX13_acts_45 : decode cX13_acts 45 = .ok (.iload_n 1, 1) := by decide +kernel
theorem dX13_acts_46 : decode cX13_acts 46 = .ok (.laload, 1) := by decide +kernel
theorem dX13_acts_47 : decode cX13_acts 47 = .ok (.aload_n 0, 1) := by decide +kernel
theorem dX13_acts_48 : decode cX13_acts 48 = .ok (.getfield 226, 3) := by decide +kernel
theorem dX13_acts_51 : decode cX13_acts 51 = .ok (.lcmp, 1) := by decide +kernel
theorem dX13_acts_52 : decode cX13_acts 52 = .ok (.ifCond .gt 10, 3) := by decide +kernel
theorem dX13_acts_55 : decode cX13_acts 55 = .ok (.aload_n 0, 1) := by decide +kernel
theorem dX13_acts_56 : decode cX13_acts 56 = .ok (.iload_n 1, 1) := by decide +kernel
theorem dX13_acts_57 : decode cX13_acts 57 = .ok (.invokevirtual 302, 3) := by decide +kernel
theorem dX13_acts_60 : decode cX13_acts 60 = .ok (.iconst 1, 1) := by decide +kernel
theorem dX13_acts_61 : decode cX13_acts 61 = .ok (.ireturn, 1) := by decide +kernel
theorem dX13_acts_62 : decode cX13_acts 62 = .ok (.iconst 4, 1) := by decide +kernel
theorem dX13_acts_63 : decode cX13_acts 63 = .ok (.iload_n 1, 1) := by decide +kernel
theorem dX13_acts_64 : decode cX13_acts 64 = .ok (.imul, 1) := by decide +kernel
theorem dX13_acts_65 : decode cX13_acts 65 = .ok (.istore_n 2, 1) := by decide +kernel
theorem dX13_acts_66 : decode cX13_acts 66 = .ok (.iload_n 2, 1) := by decide +kernel
theorem dX13_acts_67 : decode cX13_acts 67 = .ok (.iconst 4, 1) := by decide +kernel
theorem dX13_acts_68 : decode cX13_acts 68 = .ok (.iload_n 1, 1) := by decide +kernel
theorem dX13_acts_69 : decode cX13_acts 69 = .ok (.imul, 1) := by decide +kernel
theorem dX13_acts_70 : decode cX13_acts 70 = .ok (.iconst 4, 1) := by decide +kernel
theorem dX13_acts_71 : decode cX13_acts 71 = .ok (.iadd, 1) := by decide +kernel
theorem dX13_acts_72 : decode cX13_acts 72 = .ok (.if_icmp .ge 39, 3) := by decide +kernel
theorem dX13_acts_75 : decode cX13_acts 75 = .ok (.aload_n 0, 1) := by decide +kernel
theorem dX13_acts_76 : decode cX13_acts 76 = .ok (.getfield 81, 3) := by decide +kernel
theorem dX13_acts_79 : decode cX13_acts 79 = .ok (.iload_n 2, 1) := by decide +kernel
theorem dX13_acts_80 : decode cX13_acts 80 = .ok (.iaload, 1) := by decide +kernel
theorem dX13_acts_81 : decode cX13_acts 81 = .ok (.ifCond .le 24, 3) := by decide +kernel
theorem dX13_acts_84 : decode cX13_acts 84 = .ok (.aload_n 0, 1) := by decide +kernel
theorem dX13_acts_85 : decode cX13_acts 85 = .ok (.getfield 84, 3) := by decide +kernel
theorem dX13_acts_88 : decode cX13_acts 88 = .ok (.iload_n 2, 1) := by decide +kernel
theorem dX13_acts_89 : decode cX13_acts 89 = .ok (.laload, 1) := by decide +kernel
theorem dX13_acts_90 : decode cX13_acts 90 = .ok (.aload_n 0, 1) := by decide +kernel
theorem dX13_acts_91 : decode cX13_acts 91 = .ok (.getfield 226, 3) := by decide +kernel
theorem dX13_acts_94 : decode cX13_acts 94 = .ok (.lcmp, 1) := by decide +kernel
theorem dX13_acts_95 : decode cX13_acts 95 = .ok (.ifCond .gt 10, 3) := by decide +kernel
theorem dX13_acts_98 : decode cX13_acts 98 = .ok (.aload_n 0, 1) := by decide +kernel
theorem dX13_acts_99 : decode cX13_acts 99 = .ok (.iload_n 2, 1) := by decide +kernel
theorem dX13_acts_100 : decode cX13_acts 100 = .ok (.invokevirtual 305, 3) := by decide +kernel
theorem dX13_acts_103 : decode cX13_acts 103 = .ok (.iconst 1, 1) := by decide +kernel
theorem dX13_acts_104 : decode cX13_acts 104 = .ok (.ireturn, 1) := by decide +kernel
theorem dX13_acts_105 : decode cX13_acts 105 = .ok (.iinc 2 1, 3) := by decide +kernel
theorem dX13_acts_108 : decode cX13_acts 108 = .ok (.goto (-42), 3) := by decide +kernel
theorem dX13_acts_111 : decode cX13_acts 111 = .ok (.iconst 0, 1) := by decide +kernel
theorem dX13_acts_112 : decode cX13_acts 112 = .ok (.istore_n 2, 1) := by decide +kernel
theorem dX13_acts_113 : decode cX13_acts 113 = .ok (.iload_n 2, 1) := by decide +kernel
theorem dX13_acts_114 : decode cX13_acts 114 = .ok (.aload_n 0, 1) := by decide +kernel
theorem dX13_acts_115 : decode cX13_acts 115 = .ok (.getfield 96, 3) := by decide +kernel
theorem dX13_acts_118 : decode cX13_acts 118 = .ok (.iload_n 1, 1) := by decide +kernel
theorem dX13_acts_119 : decode cX13_acts 119 = .ok (.iaload, 1) := by decide +kernel
theorem dX13_acts_120 : decode cX13_acts 120 = .ok (.if_icmp .ge 35, 3) := by decide +kernel
theorem dX13_acts_123 : decode cX13_acts 123 = .ok (.aload_n 0, 1) := by decide +kernel
theorem dX13_acts_124 : decode cX13_acts 124 = .ok (.getfield 93, 3) := by decide +kernel
theorem dX13_acts_127 : decode cX13_acts 127 = .ok (.iconst 4, 1) := by decide +kernel
theorem dX13_acts_128 : decode cX13_acts 128 = .ok (.iload_n 1, 1) := by decide +kernel
theorem dX13_acts_129 : decode cX13_acts 129 = .ok (.imul, 1) := by decide +kernel
theorem dX13_acts_130 : decode cX13_acts 130 = .ok (.iload_n 2, 1) := by decide +kernel
theorem dX13_acts_131 : decode cX13_acts 131 = .ok (.iadd, 1) := by decide +kernel
theorem dX13_acts_132 : decode cX13_acts 132 = .ok (.laload, 1) := by decide +kernel
theorem dX13_acts_133 : decode cX13_acts 133 = .ok (.aload_n 0, 1) := by decide +kernel
theorem dX13_acts_134 : decode cX13_acts 134 = .ok (.getfield 226, 3) := by decide +kernel
theorem dX13_acts_137 : decode cX13_acts 137 = .ok (.lcmp, 1) := by decide +kernel
theorem dX13_acts_138 : decode cX13_acts 138 = .ok (.ifCond .gt 11, 3) := by decide +kernel
theorem dX13_acts_141 : decode cX13_acts 141 = .ok (.aload_n 0, 1) := by decide +kernel
theorem dX13_acts_142 : decode cX13_acts 142 = .ok (.iload_n 1, 1) := by decide +kernel
theorem dX13_acts_143 : decode cX13_acts 143 = .ok (.iload_n 2, 1) := by decide +kernel
theorem dX13_acts_144 : decode cX13_acts 144 = .ok (.invokevirtual 308, 3) := by decide +kernel
theorem dX13_acts_147 : decode cX13_acts 147 = .ok (.iconst 1, 1) := by decide +kernel
theorem dX13_acts_148 : decode cX13_acts 148 = .ok (.ireturn, 1) := by decide +kernel
theorem dX13_acts_149 : decode cX13_acts 149 = .ok (.iinc 2 1, 3) := by decide +kernel
theorem dX13_acts_152 : decode cX13_acts 152 = .ok (.goto (-39), 3) := by decide +kernel
theorem dX13_acts_155 : decode cX13_acts 155 = .ok (.bipush 24, 2) := by decide +kernel
theorem dX13_acts_157 : decode cX13_acts 157 = .ok (.iload_n 1, 1) := by decide +kernel
theorem dX13_acts_158 : decode cX13_acts 158 = .ok (.imul, 1) := by decide +kernel
theorem dX13_acts_159 : decode cX13_acts 159 = .ok (.istore_n 2, 1) := by decide +kernel
theorem dX13_acts_160 : decode cX13_acts 160 = .ok (.iload_n 2, 1) := by decide +kernel
theorem dX13_acts_161 : decode cX13_acts 161 = .ok (.bipush 24, 2) := by decide +kernel
theorem dX13_acts_163 : decode cX13_acts 163 = .ok (.iload_n 1, 1) := by decide +kernel
theorem dX13_acts_164 : decode cX13_acts 164 = .ok (.imul, 1) := by decide +kernel
theorem dX13_acts_165 : decode cX13_acts 165 = .ok (.aload_n 0, 1) := by decide +kernel
theorem dX13_acts_166 : decode cX13_acts 166 = .ok (.getfield 99, 3) := by decide +kernel
theorem dX13_acts_169 : decode cX13_acts 169 = .ok (.iload_n 1, 1) := by decide +kernel
theorem dX13_acts_170 : decode cX13_acts 170 = .ok (.iaload, 1) := by decide +kernel
theorem dX13_acts_171 : decode cX13_acts 171 = .ok (.iadd, 1) := by decide +kernel
theorem dX13_acts_172 : decode cX13_acts 172 = .ok (.if_icmp .ge 30, 3) := by decide +kernel
theorem dX13_acts_175 : decode cX13_acts 175 = .ok (.aload_n 0, 1) := by decide +kernel
theorem dX13_acts_176 : decode cX13_acts 176 = .ok (.iload_n 2, 1) := by decide +kernel
theorem dX13_acts_177 : decode cX13_acts 177 = .ok (.invokevirtual 311, 3) := by decide +kernel
theorem dX13_acts_180 : decode cX13_acts 180 = .ok (.aload_n 0, 1) := by decide +kernel
theorem dX13_acts_181 : decode cX13_acts 181 = .ok (.getfield 226, 3) := by decide +kernel
theorem dX13_acts_184 : decode cX13_acts 184 = .ok (.lcmp, 1) := by decide +kernel
theorem dX13_acts_185 : decode cX13_acts 185 = .ok (.ifCond .gt 11, 3) := by decide +kernel
theorem dX13_acts_188 : decode cX13_acts 188 = .ok (.aload_n 0, 1) := by decide +kernel
theorem dX13_acts_189 : decode cX13_acts 189 = .ok (.iload_n 1, 1) := by decide +kernel
theorem dX13_acts_190 : decode cX13_acts 190 = .ok (.iload_n 2, 1) := by decide +kernel
theorem dX13_acts_191 : decode cX13_acts 191 = .ok (.invokevirtual 315, 3) := by decide +kernel
theorem dX13_acts_194 : decode cX13_acts 194 = .ok (.iconst 1, 1) := by decide +kernel
theorem dX13_acts_195 : decode cX13_acts 195 = .ok (.ireturn, 1) := by decide +kernel
theorem dX13_acts_196 : decode cX13_acts 196 = .ok (.iinc 2 1, 3) := by decide +kernel
theorem dX13_acts_199 : decode cX13_acts 199 = .ok (.goto (-39), 3) := by decide +kernel
theorem dX13_acts_202 : decode cX13_acts 202 = .ok (.iinc 1 1, 3) := by decide +kernel
theorem dX13_acts_205 : decode cX13_acts 205 = .ok (.goto (-203), 3) := by decide +kernel
theorem dX13_acts_208 : decode cX13_acts 208 = .ok (.iconst 0, 1) := by decide +kernel
theorem dX13_acts_209 : decode cX13_acts 209 = .ok (.ireturn, 1) := by decide +kernel
theorem dX13_nextDue_0 : decode cX13_nextDue 0 = .ok (.ldc2_w 271, 3) := by decide +kernel
theorem dX13_nextDue_3 : decode cX13_nextDue 3 = .ok (.lstore_n 1, 1) := by decide +kernel
theorem dX13_nextDue_4 : decode cX13_nextDue 4 = .ok (.iconst 0, 1) := by decide +kernel
theorem dX13_nextDue_5 : decode cX13_nextDue 5 = .ok (.istore_n 3, 1) := by decide +kernel
theorem dX13_nextDue_6 : decode cX13_nextDue 6 = .ok (.iload_n 3, 1) := by decide +kernel
theorem dX13_nextDue_7 : decode cX13_nextDue 7 = .ok (.bipush 8, 2) := by decide +kernel
theorem dX13_nextDue_9 : decode cX13_nextDue 9 = .ok (.if_icmp .ge 220, 3) := by decide +kernel
theorem dX13_nextDue_12 : decode cX13_nextDue 12 = .ok (.aload_n 0, 1) := by decide +kernel
theorem dX13_nextDue_13 : decode cX13_nextDue 13 = .ok (.getfield 13, 3) := by decide +kernel
theorem dX13_nextDue_16 : decode cX13_nextDue 16 = .ok (.iload_n 3, 1) := by decide +kernel
theorem dX13_nextDue_17 : decode cX13_nextDue 17 = .ok (.baload, 1) := by decide +kernel
theorem dX13_nextDue_18 : decode cX13_nextDue 18 = .ok (.ifCond .ne 6, 3) := by decide +kernel
theorem dX13_nextDue_21 : decode cX13_nextDue 21 = .ok (.goto 202, 3) := by decide +kernel
theorem dX13_nextDue_24 : decode cX13_nextDue 24 = .ok (.aload_n 0, 1) := by decide +kernel
theorem dX13_nextDue_25 : decode cX13_nextDue 25 = .ok (.getfield 44, 3) := by decide +kernel
theorem dX13_nextDue_28 : decode cX13_nextDue 28 = .ok (.iload_n 3, 1) := by decide +kernel
theorem dX13_nextDue_29 : decode cX13_nextDue 29 = .ok (.laload, 1) := by decide +kernel
theorem dX13_nextDue_30 : decode cX13_nextDue 30 = .ok (.lload_n 1, 1) := by decide +kernel
theorem dX13_nextDue_31 : decode cX13_nextDue 31 = .ok (.lcmp, 1) := by decide +kernel
theorem dX13_nextDue_32 : decode cX13_nextDue 32 = .ok (.ifCond .ge 12, 3) := by decide +kernel
theorem dX13_nextDue_35 : decode cX13_nextDue 35 = .ok (.aload_n 0, 1) := by decide +kernel
theorem dX13_nextDue_36 : decode cX13_nextDue 36 = .ok (.getfield 44, 3) := by decide +kernel
theorem dX13_nextDue_39 : decode cX13_nextDue 39 = .ok (.iload_n 3, 1) := by decide +kernel
theorem dX13_nextDue_40 : decode cX13_nextDue 40 = .ok (.laload, 1) := by decide +kernel
theorem dX13_nextDue_41 : decode cX13_nextDue 41 = .ok (.goto 4, 3) := by decide +kernel
theorem dX13_nextDue_44 : decode cX13_nextDue 44 = .ok (.lload_n 1, 1) := by decide +kernel
theorem dX13_nextDue_45 : decode cX13_nextDue 45 = .ok (.lstore_n 1, 1) := by decide +kernel
theorem dX13_nextDue_46 : decode cX13_nextDue 46 = .ok (.aload_n 0, 1) := by decide +kernel
theorem dX13_nextDue_47 : decode cX13_nextDue 47 = .ok (.getfield 57, 3) := by decide +kernel
theorem dX13_nextDue_50 : decode cX13_nextDue 50 = .ok (.iload_n 3, 1) := by decide +kernel
theorem dX13_nextDue_51 : decode cX13_nextDue 51 = .ok (.laload, 1) := by decide +kernel
theorem dX13_nextDue_52 : decode cX13_nextDue 52 = .ok (.lload_n 1, 1) := by decide +kernel
theorem dX13_nextDue_53 : decode cX13_nextDue 53 = .ok (.lcmp, 1) := by decide +kernel
theorem dX13_nextDue_54 : decode cX13_nextDue 54 = .ok (.ifCond .ge 12, 3) := by decide +kernel
theorem dX13_nextDue_57 : decode cX13_nextDue 57 = .ok (.aload_n 0, 1) := by decide +kernel
theorem dX13_nextDue_58 : decode cX13_nextDue 58 = .ok (.getfield 57, 3) := by decide +kernel
theorem dX13_nextDue_61 : decode cX13_nextDue 61 = .ok (.iload_n 3, 1) := by decide +kernel
theorem dX13_nextDue_62 : decode cX13_nextDue 62 = .ok (.laload, 1) := by decide +kernel
theorem dX13_nextDue_63 : decode cX13_nextDue 63 = .ok (.goto 4, 3) := by decide +kernel
theorem dX13_nextDue_66 : decode cX13_nextDue 66 = .ok (.lload_n 1, 1) := by decide +kernel
theorem dX13_nextDue_67 : decode cX13_nextDue 67 = .ok (.lstore_n 1, 1) := by decide +kernel
theorem dX13_nextDue_68 : decode cX13_nextDue 68 = .ok (.iconst 4, 1) := by decide +kernel
theorem dX13_nextDue_69 : decode cX13_nextDue 69 = .ok (.iload_n 3, 1) := by decide +kernel
theorem dX13_nextDue_70 : decode cX13_nextDue 70 = .ok (.imul, 1) := by decide +kernel
theorem dX13_nextDue_71 : decode cX13_nextDue 71 = .ok (.istore 4, 2) := by decide +kernel
theorem dX13_nextDue_73 : decode cX13_nextDue 73 = .ok (.iload 4, 2) := by decide +kernel
theorem dX13_nextDue_75 : decode cX13_nextDue 75 = .ok (.iconst 4, 1) := by decide +kernel
theorem dX13_nextDue_76 : decode cX13_nextDue 76 = .ok (.iload_n 3, 1) := by decide +kernel
theorem dX13_nextDue_77 : decode cX13_nextDue 77 = .ok (.imul, 1) := by decide +kernel
theorem dX13_nextDue_78 : decode cX13_nextDue 78 = .ok (.iconst 4, 1) := by decide +kernel
theorem dX13_nextDue_79 : decode cX13_nextDue 79 = .ok (.iadd, 1) := by decide +kernel
theorem dX13_nextDue_80 : decode cX13_nextDue 80 = .ok (.if_icmp .ge 43, 3) := by decide +kernel
theorem dX13_nextDue_83 : decode cX13_nextDue 83 = .ok (.aload_n 0, 1) := by decide +kernel
theorem dX13_nextDue_84 : decode cX13_nextDue 84 = .ok (.getfield 81, 3) := by decide +kernel
theorem dX13_nextDue_87 : decode cX13_nextDue 87 = .ok (.iload 4, 2) := by decide +kernel
theorem dX13_nextDue_89 : decode cX13_nextDue 89 = .ok (.iaload, 1) := by decide +kernel
theorem dX13_nextDue_90 : decode cX13_nextDue 90 = .ok (.ifCond .le 25, 3) := by decide +kernel
theorem dX13_nextDue_93 : decode cX13_nextDue 93 = .ok (.aload_n 0, 1) := by decide +kernel
theorem dX13_nextDue_94 : decode cX13_nextDue 94 = .ok (.getfield 84, 3) := by decide +kernel
theorem dX13_nextDue_97 : decode cX13_nextDue 97 = .ok (.iload 4, 2) := by decide +kernel
theorem dX13_nextDue_99 : decode cX13_nextDue 99 = .ok (.laload, 1) := by decide +kernel
theorem dX13_nextDue_100 : decode cX13_nextDue 100 = .ok (.lload_n 1, 1) := by decide +kernel
theorem dX13_nextDue_101 : decode cX13_nextDue 101 = .ok (.lcmp, 1) := by decide +kernel
theorem dX13_nextDue_102 : decode cX13_nextDue 102 = .ok (.ifCond .ge 13, 3) := by decide +kernel
theorem dX13_nextDue_105 : decode cX13_nextDue 105 = .ok (.aload_n 0, 1) := by decide +kernel
theorem dX13_nextDue_106 : decode cX13_nextDue 106 = .ok (.getfield 84, 3) := by decide +kernel
theorem dX13_nextDue_109 : decode cX13_nextDue 109 = .ok (.iload 4, 2) := by decide +kernel
theorem dX13_nextDue_111 : decode cX13_nextDue 111 = .ok (.laload, 1) := by decide +kernel
theorem dX13_nextDue_112 : decode cX13_nextDue 112 = .ok (.goto 4, 3) := by decide +kernel
theorem dX13_nextDue_115 : decode cX13_nextDue 115 = .ok (.lload_n 1, 1) := by decide +kernel
theorem dX13_nextDue_116 : decode cX13_nextDue 116 = .ok (.lstore_n 1, 1) := by decide +kernel
theorem dX13_nextDue_117 : decode cX13_nextDue 117 = .ok (.iinc 4 1, 3) := by decide +kernel
theorem dX13_nextDue_120 : decode cX13_nextDue 120 = .ok (.goto (-47), 3) := by decide +kernel
theorem dX13_nextDue_123 : decode cX13_nextDue 123 = .ok (.iconst 4, 1) := by decide +kernel
theorem dX13_nextDue_124 : decode cX13_nextDue 124 = .ok (.iload_n 3, 1) := by decide +kernel
theorem dX13_nextDue_125 : decode cX13_nextDue 125 = .ok (.imul, 1) := by decide +kernel
theorem dX13_nextDue_126 : decode cX13_nextDue 126 = .ok (.istore 4, 2) := by decide +kernel
theorem dX13_nextDue_128 : decode cX13_nextDue 128 = .ok (.iload 4, 2) := by decide +kernel
theorem dX13_nextDue_130 : decode cX13_nextDue 130 = .ok (.iconst 4, 1) := by decide +kernel
theorem dX13_nextDue_131 : decode cX13_nextDue 131 = .ok (.iload_n 3, 1) := by decide +kernel
theorem dX13_nextDue_132 : decode cX13_nextDue 132 = .ok (.imul, 1) := by decide +kernel
theorem dX13_nextDue_133 : decode cX13_nextDue 133 = .ok (.aload_n 0, 1) := by decide +kernel
theorem dX13_nextDue_134 : decode cX13_nextDue 134 = .ok (.getfield 96, 3) := by decide +kernel
theorem dX13_nextDue_137 : decode cX13_nextDue 137 = .ok (.iload_n 3, 1) := by decide +kernel
theorem dX13_nextDue_138 : decode cX13_nextDue 138 = .ok (.iaload, 1) := by decide +kernel
theorem dX13_nextDue_139 : decode cX13_nextDue 139 = .ok (.iadd, 1) := by decide +kernel
theorem dX13_nextDue_140 : decode cX13_nextDue 140 = .ok (.if_icmp .ge 33, 3) := by decide +kernel
theorem dX13_nextDue_143 : decode cX13_nextDue 143 = .ok (.aload_n 0, 1) := by decide +kernel
theorem dX13_nextDue_144 : decode cX13_nextDue 144 = .ok (.getfield 93, 3) := by decide +kernel
theorem dX13_nextDue_147 : decode cX13_nextDue 147 = .ok (.iload 4, 2) := by decide +kernel
theorem dX13_nextDue_149 : decode cX13_nextDue 149 = .ok (.laload, 1) := by decide +kernel
theorem dX13_nextDue_150 : decode cX13_nextDue 150 = .ok (.lload_n 1, 1) := by decide +kernel
theorem dX13_nextDue_151 : decode cX13_nextDue 151 = .ok (.lcmp, 1) := by decide +kernel
theorem dX13_nextDue_152 : decode cX13_nextDue 152 = .ok (.ifCond .ge 13, 3) := by decide +kernel
theorem dX13_nextDue_155 : decode cX13_nextDue 155 = .ok (.aload_n 0, 1) := by decide +kernel
theorem dX13_nextDue_156 : decode cX13_nextDue 156 = .ok (.getfield 93, 3) := by decide +kernel
theorem dX13_nextDue_159 : decode cX13_nextDue 159 = .ok (.iload 4, 2) := by decide +kernel
theorem dX13_nextDue_161 : decode cX13_nextDue 161 = .ok (.laload, 1) := by decide +kernel
theorem dX13_nextDue_162 : decode cX13_nextDue 162 = .ok (.goto 4, 3) := by decide +kernel
theorem dX13_nextDue_165 : decode cX13_nextDue 165 = .ok (.lload_n 1, 1) := by decide +kernel
theorem dX13_nextDue_166 : decode cX13_nextDue 166 = .ok (.lstore_n 1, 1) := by decide +kernel
theorem dX13_nextDue_167 : decode cX13_nextDue 167 = .ok (.iinc 4 1, 3) := by decide +kernel
theorem dX13_nextDue_170 : decode cX13_nextDue 170 = .ok (.goto (-42), 3) := by decide +kernel
theorem dX13_nextDue_173 : decode cX13_nextDue 173 = .ok (.bipush 24, 2) := by decide +kernel
theorem dX13_nextDue_175 : decode cX13_nextDue 175 = .ok (.iload_n 3, 1) := by decide +kernel
theorem dX13_nextDue_176 : decode cX13_nextDue 176 = .ok (.imul, 1) := by decide +kernel
theorem dX13_nextDue_177 : decode cX13_nextDue 177 = .ok (.istore 4, 2) := by decide +kernel
theorem dX13_nextDue_179 : decode cX13_nextDue 179 = .ok (.iload 4, 2) := by decide +kernel
theorem dX13_nextDue_181 : decode cX13_nextDue 181 = .ok (.bipush 24, 2) := by decide +kernel
theorem dX13_nextDue_183 : decode cX13_nextDue 183 = .ok (.iload_n 3, 1) := by decide +kernel
theorem dX13_nextDue_184 : decode cX13_nextDue 184 = .ok (.imul, 1) := by decide +kernel
theorem dX13_nextDue_185 : decode cX13_nextDue 185 = .ok (.aload_n 0, 1) := by decide +kernel
theorem dX13_nextDue_186 : decode cX13_nextDue 186 = .ok (.getfield 99, 3) := by decide +kernel
theorem dX13_nextDue_189 : decode cX13_nextDue 189 = .ok (.iload_n 3, 1) := by decide +kernel
theorem dX13_nextDue_190 : decode cX13_nextDue 190 = .ok (.iaload, 1) := by decide +kernel
theorem dX13_nextDue_191 : decode cX13_nextDue 191 = .ok (.iadd, 1) := by decide +kernel
theorem dX13_nextDue_192 : decode cX13_nextDue 192 = .ok (.if_icmp .ge 31, 3) := by decide +kernel
theorem dX13_nextDue_195 : decode cX13_nextDue 195 = .ok (.aload_n 0, 1) := by decide +kernel
theorem dX13_nextDue_196 : decode cX13_nextDue 196 = .ok (.iload 4, 2) := by decide +kernel
theorem dX13_nextDue_198 : decode cX13_nextDue 198 = .ok (.invokevirtual 311, 3) := by decide +kernel
theorem dX13_nextDue_201 : decode cX13_nextDue 201 = .ok (.lload_n 1, 1) := by decide +kernel
theorem dX13_nextDue_202 : decode cX13_nextDue 202 = .ok (.lcmp, 1) := by decide +kernel
theorem dX13_nextDue_203 : decode cX13_nextDue 203 = .ok (.ifCond .ge 12, 3) := by decide +kernel
theorem dX13_nextDue_206 : decode cX13_nextDue 206 = .ok (.aload_n 0, 1) := by decide +kernel
theorem dX13_nextDue_207 : decode cX13_nextDue 207 = .ok (.iload 4, 2) := by decide +kernel
theorem dX13_nextDue_209 : decode cX13_nextDue 209 = .ok (.invokevirtual 311, 3) := by decide +kernel
theorem dX13_nextDue_212 : decode cX13_nextDue 212 = .ok (.goto 4, 3) := by decide +kernel
theorem dX13_nextDue_215 : decode cX13_nextDue 215 = .ok (.lload_n 1, 1) := by decide +kernel
theorem dX13_nextDue_216 : decode cX13_nextDue 216 = .ok (.lstore_n 1, 1) := by decide +kernel
theorem dX13_nextDue_217 : decode cX13_nextDue 217 = .ok (.iinc 4 1, 3) := by decide +kernel
theorem dX13_nextDue_220 : decode cX13_nextDue 220 = .ok (.goto (-41), 3) := by decide +kernel
theorem dX13_nextDue_223 : decode cX13_nextDue 223 = .ok (.iinc 3 1, 3) := by decide +kernel
theorem dX13_nextDue_226 : decode cX13_nextDue 226 = .ok (.goto (-220), 3) := by decide +kernel
theorem dX13_nextDue_229 : decode cX13_nextDue 229 = .ok (.lload_n 1, 1) := by decide +kernel
theorem dX13_nextDue_230 : decode cX13_nextDue 230 = .ok (.lreturn, 1) := by decide +kernel
theorem dL_law_0 : decode cL_law 0 = .ok (.new 8, 3) := by decide +kernel
theorem dL_law_3 : decode cL_law 3 = .ok (.dup, 1) := by decide +kernel
theorem dL_law_4 : decode cL_law 4 = .ok (.invokespecial 17, 3) := by decide +kernel
theorem dL_law_7 : decode cL_law 7 = .ok (.astore_n 1, 1) := by decide +kernel
theorem dL_law_8 : decode cL_law 8 = .ok (.new 18, 3) := by decide +kernel
theorem dL_law_11 : decode cL_law 11 = .ok (.dup, 1) := by decide +kernel
theorem dL_law_12 : decode cL_law 12 = .ok (.invokespecial 20, 3) := by decide +kernel
theorem dL_law_15 : decode cL_law 15 = .ok (.astore_n 2, 1) := by decide +kernel
theorem dL_law_16 : decode cL_law 16 = .ok (.iconst 1, 1) := by decide +kernel
theorem dL_law_17 : decode cL_law 17 = .ok (.newarray .long, 2) := by decide +kernel
theorem dL_law_19 : decode cL_law 19 = .ok (.astore_n 3, 1) := by decide +kernel
theorem dL_law_20 : decode cL_law 20 = .ok (.iconst 0, 1) := by decide +kernel
theorem dL_law_21 : decode cL_law 21 = .ok (.istore 4, 2) := by decide +kernel
theorem dL_law_23 : decode cL_law 23 = .ok (.iload 4, 2) := by decide +kernel
theorem dL_law_25 : decode cL_law 25 = .ok (.aload_n 0, 1) := by decide +kernel
theorem dL_law_26 : decode cL_law 26 = .ok (.arraylength, 1) := by decide +kernel
theorem dL_law_27 : decode cL_law 27 = .ok (.bipush 6, 2) := by decide +kernel
theorem dL_law_29 : decode cL_law 29 = .ok (.isub, 1) := by decide +kernel
theorem dL_law_30 : decode cL_law 30 = .ok (.if_icmp .gt 888, 3) := by decide +kernel
theorem dL_law_33 : decode cL_law 33 = .ok (.aload_n 0, 1) := by decide +kernel
theorem dL_law_34 : decode cL_law 34 = .ok (.iload 4, 2) := by decide +kernel
theorem dL_law_36 : decode cL_law 36 = .ok (.iaload, 1) := by decide +kernel
theorem dL_law_37 : decode cL_law 37 = .ok (.bipush 31, 2) := by decide +kernel
theorem dL_law_39 : decode cL_law 39 = .ok (.iand, 1) := by decide +kernel
theorem dL_law_40 : decode cL_law 40 = .ok (.tableswitch 872 0 20 #[100, 173, 198, 235, 288, 313, 350, 387, 424, 449, 472, 483, 520, 545, 613, 650, 687, 748, 797, 822, 847], 100) := by decide +kernel
theorem dL_law_140 : decode cL_law 140 = .ok (.aload_n 1, 1) := by decide +kernel
theorem dL_law_141 : decode cL_law 141 = .ok (.aload_n 0, 1) := by decide +kernel
theorem dL_law_142 : decode cL_law 142 = .ok (.iload 4, 2) := by decide +kernel
theorem dL_law_144 : decode cL_law 144 = .ok (.iconst 1, 1) := by decide +kernel
theorem dL_law_145 : decode cL_law 145 = .ok (.iadd, 1) := by decide +kernel
theorem dL_law_146 : decode cL_law 146 = .ok (.iaload, 1) := by decide +kernel
theorem dL_law_147 : decode cL_law 147 = .ok (.aload_n 0, 1) := by decide +kernel
theorem dL_law_148 : decode cL_law 148 = .ok (.iload 4, 2) := by decide +kernel
theorem dL_law_150 : decode cL_law 150 = .ok (.iconst 2, 1) := by decide +kernel
theorem dL_law_151 : decode cL_law 151 = .ok (.iadd, 1) := by decide +kernel
theorem dL_law_152 : decode cL_law 152 = .ok (.iaload, 1) := by decide +kernel
theorem dL_law_153 : decode cL_law 153 = .ok (.aload_n 0, 1) := by decide +kernel
theorem dL_law_154 : decode cL_law 154 = .ok (.iload 4, 2) := by decide +kernel
theorem dL_law_156 : decode cL_law 156 = .ok (.iconst 3, 1) := by decide +kernel
theorem dL_law_157 : decode cL_law 157 = .ok (.iadd, 1) := by decide +kernel
theorem dL_law_158 : decode cL_law 158 = .ok (.iaload, 1) := by decide +kernel
theorem dL_law_159 : decode cL_law 159 = .ok (.aload_n 0, 1) := by decide +kernel
theorem dL_law_160 : decode cL_law 160 = .ok (.iload 4, 2) := by decide +kernel
theorem dL_law_162 : decode cL_law 162 = .ok (.iconst 4, 1) := by decide +kernel
theorem dL_law_163 : decode cL_law 163 = .ok (.iadd, 1) := by decide +kernel
theorem dL_law_164 : decode cL_law 164 = .ok (.iaload, 1) := by decide +kernel
theorem dL_law_165 : decode cL_law 165 = .ok (.aload_n 0, 1) := by decide +kernel
theorem dL_law_166 : decode cL_law 166 = .ok (.iload 4, 2) := by decide +kernel
theorem dL_law_168 : decode cL_law 168 = .ok (.iconst 5, 1) := by decide +kernel
theorem dL_law_169 : decode cL_law 169 = .ok (.iadd, 1) := by decide +kernel
theorem dL_law_170 : decode cL_law 170 = .ok (.iaload, 1) := by decide +kernel
theorem dL_law_171 : decode cL_law 171 = .ok (.invokevirtual 21, 3) := by decide +kernel
theorem dL_law_174 : decode cL_law 174 = .ok (.aload_n 2, 1) := by decide +kernel
theorem dL_law_175 : decode cL_law 175 = .ok (.aload_n 0, 1) := by decide +kernel
theorem dL_law_176 : decode cL_law 176 = .ok (.iload 4, 2) := by decide +kernel
theorem dL_law_178 : decode cL_law 178 = .ok (.iconst 1, 1) := by decide +kernel
theorem dL_law_179 : decode cL_law 179 = .ok (.iadd, 1) := by decide +kernel
theorem dL_law_180 : decode cL_law 180 = .ok (.iaload, 1) := by decide +kernel
theorem dL_law_181 : decode cL_law 181 = .ok (.aload_n 0, 1) := by decide +kernel
theorem dL_law_182 : decode cL_law 182 = .ok (.iload 4, 2) := by decide +kernel
theorem dL_law_184 : decode cL_law 184 = .ok (.iconst 2, 1) := by decide +kernel
theorem dL_law_185 : decode cL_law 185 = .ok (.iadd, 1) := by decide +kernel
theorem dL_law_186 : decode cL_law 186 = .ok (.iaload, 1) := by decide +kernel
theorem dL_law_187 : decode cL_law 187 = .ok (.aload_n 0, 1) := by decide +kernel
theorem dL_law_188 : decode cL_law 188 = .ok (.iload 4, 2) := by decide +kernel
theorem dL_law_190 : decode cL_law 190 = .ok (.iconst 3, 1) := by decide +kernel
theorem dL_law_191 : decode cL_law 191 = .ok (.iadd, 1) := by decide +kernel
theorem dL_law_192 : decode cL_law 192 = .ok (.iaload, 1) := by decide +kernel
theorem dL_law_193 : decode cL_law 193 = .ok (.aload_n 0, 1) := by decide +kernel
theorem dL_law_194 : decode cL_law 194 = .ok (.iload 4, 2) := by decide +kernel
theorem dL_law_196 : decode cL_law 196 = .ok (.iconst 4, 1) := by decide +kernel
theorem dL_law_197 : decode cL_law 197 = .ok (.iadd, 1) := by decide +kernel
theorem dL_law_198 : decode cL_law 198 = .ok (.iaload, 1) := by decide +kernel
theorem dL_law_199 : decode cL_law 199 = .ok (.aload_n 0, 1) := by decide +kernel
theorem dL_law_200 : decode cL_law 200 = .ok (.iload 4, 2) := by decide +kernel
theorem dL_law_202 : decode cL_law 202 = .ok (.iconst 5, 1) := by decide +kernel
theorem dL_law_203 : decode cL_law 203 = .ok (.iadd, 1) := by decide +kernel
theorem dL_law_204 : decode cL_law 204 = .ok (.iaload, 1) := by decide +kernel
theorem dL_law_205 : decode cL_law 205 = .ok (.invokevirtual 25, 3) := by decide +kernel
theorem dL_law_208 : decode cL_law 208 = .ok (.if_icmp .eq 704, 3) := by decide +kernel
theorem dL_law_211 : decode cL_law 211 = .ok (.iconst 0, 1) := by decide +kernel
theorem dL_law_212 : decode cL_law 212 = .ok (.ireturn, 1) := by decide +kernel
theorem dL_law_213 : decode cL_law 213 = .ok (.aload_n 1, 1) := by decide +kernel
theorem dL_law_214 : decode cL_law 214 = .ok (.aload_n 0, 1) := by decide +kernel
theorem dL_law_215 : decode cL_law 215 = .ok (.iload 4, 2) := by decide +kernel
theorem dL_law_217 : decode cL_law 217 = .ok (.iconst 1, 1) := by decide +kernel
theorem dL_law_218 : decode cL_law 218 = .ok (.iadd, 1) := by decide +kernel
theorem dL_law_219 : decode cL_law 219 = .ok (.iaload, 1) := by decide +kernel
theorem dL_law_220 : decode cL_law 220 = .ok (.invokevirtual 26, 3) := by decide +kernel
theorem dL_law_223 : decode cL_law 223 = .ok (.aload_n 2, 1) := by decide +kernel
theorem dL_law_224 : decode cL_law 224 = .ok (.aload_n 0, 1) := by decide +kernel
theorem dL_law_225 : decode cL_law 225 = .ok (.iload 4, 2) := by decide +kernel
theorem dL_law_227 : decode cL_law 227 = .ok (.iconst 1, 1) := by decide +kernel
theorem dL_law_228 : decode cL_law 228 = .ok (.iadd, 1) := by decide +kernel
theorem dL_law_229 : decode cL_law 229 = .ok (.iaload, 1) := by decide +kernel
theorem dL_law_230 : decode cL_law 230 = .ok (.invokevirtual 30, 3) := by decide +kernel
theorem dL_law_233 : decode cL_law 233 = .ok (.if_icmp .eq 679, 3) := by decide +kernel
theorem dL_law_236 : decode cL_law 236 = .ok (.iconst 0, 1) := by decide +kernel
theorem dL_law_237 : decode cL_law 237 = .ok (.ireturn, 1) := by decide +kernel
theorem dL_law_238 : decode cL_law 238 = .ok (.aload_n 1, 1) := by decide +kernel
theorem dL_law_239 : decode cL_law 239 = .ok (.aload_n 0, 1) := by decide +kernel
theorem dL_law_240 : decode cL_law 240 = .ok (.iload 4, 2) := by decide +kernel
theorem dL_law_242 : decode cL_law 242 = .ok (.iconst 1, 1) := by decide +kernel
theorem dL_law_243 : decode cL_law 243 = .ok (.iadd, 1) := by decide +kernel
theorem dL_law_244 : decode cL_law 244 = .ok (.iaload, 1) := by decide +kernel
theorem dL_law_245 : decode cL_law 245 = .ok (.aload_n 0, 1) := by decide +kernel
theorem dL_law_246 : decode cL_law 246 = .ok (.iload 4, 2) := by decide +kernel
theorem dL_law_248 : decode cL_law 248 = .ok (.iconst 2, 1) := by decide +kernel
theorem dL_law_249 : decode cL_law 249 = .ok (.iadd, 1) := by decide +kernel
theorem dL_law_250 : decode cL_law 250 = .ok (.iaload, 1) := by decide +kernel
theorem dL_law_251 : decode cL_law 251 = .ok (.invokevirtual 31, 3) := by decide +kernel
theorem dL_law_254 : decode cL_law 254 = .ok (.aload_n 2, 1) := by decide +kernel
theorem dL_law_255 : decode cL_law 255 = .ok (.aload_n 0, 1) := by decide +kernel
theorem dL_law_256 : decode cL_law 256 = .ok (.iload 4, 2) := by decide +kernel
theorem dL_law_258 : decode cL_law 258 = .ok (.iconst 1, 1) := by decide +kernel
theorem dL_law_259 : decode cL_law 259 = .ok (.iadd, 1) := by decide +kernel
theorem dL_law_260 : decode cL_law 260 = .ok (.iaload, 1) := by decide +kernel
theorem dL_law_261 : decode cL_law 261 = .ok (.aload_n 0, 1) := by decide +kernel
theorem dL_law_262 : decode cL_law 262 = .ok (.iload 4, 2) := by decide +kernel
theorem dL_law_264 : decode cL_law 264 = .ok (.iconst 2, 1) := by decide +kernel
theorem dL_law_265 : decode cL_law 265 = .ok (.iadd, 1) := by decide +kernel
theorem dL_law_266 : decode cL_law 266 = .ok (.iaload, 1) := by decide +kernel
theorem dL_law_267 : decode cL_law 267 = .ok (.invokevirtual 35, 3) := by decide +kernel
theorem dL_law_270 : decode cL_law 270 = .ok (.if_icmp .eq 642, 3) := by decide +kernel
theorem dL_law_273 : decode cL_law 273 = .ok (.iconst 0, 1) := by decide +kernel
theorem dL_law_274 : decode cL_law 274 = .ok (.ireturn, 1) := by decide +kernel
theorem dL_law_275 : decode cL_law 275 = .ok (.aload_n 1, 1) := by decide +kernel
theorem dL_law_276 : decode cL_law 276 = .ok (.aload_n 0, 1) := by decide +kernel
theorem dL_law_277 : decode cL_law 277 = .ok (.iload 4, 2) := by decide +kernel
theorem dL_law_279 : decode cL_law 279 = .ok (.iconst 1, 1) := by decide +kernel
theorem dL_law_280 : decode cL_law 280 = .ok (.iadd, 1) := by decide +kernel
theorem dL_law_281 : decode cL_law 281 = .ok (.iaload, 1) := by decide +kernel
theorem dL_law_282 : decode cL_law 282 = .ok (.aload_n 0, 1) := by decide +kernel
theorem dL_law_283 : decode cL_law 283 = .ok (.iload 4, 2) := by decide +kernel
theorem dL_law_285 : decode cL_law 285 = .ok (.iconst 2, 1) := by decide +kernel
theorem dL_law_286 : decode cL_law 286 = .ok (.iadd, 1) := by decide +kernel
theorem dL_law_287 : decode cL_law 287 = .ok (.iaload, 1) := by decide +kernel
theorem dL_law_288 : decode cL_law 288 = .ok (.ifCond .eq 7, 3) := by decide +kernel
theorem dL_law_291 : decode cL_law 291 = .ok (.iconst 1, 1) := by decide +kernel
theorem dL_law_292 : decode cL_law 292 = .ok (.goto 4, 3) := by decide +kernel
theorem dL_law_295 : decode cL_law 295 = .ok (.iconst 0, 1) := by decide +kernel
theorem dL_law_296 : decode cL_law 296 = .ok (.invokevirtual 36, 3) := by decide +kernel
theorem dL_law_299 : decode cL_law 299 = .ok (.aload_n 2, 1) := by decide +kernel
theorem dL_law_300 : decode cL_law 300 = .ok (.aload_n 0, 1) := by decide +kernel
theorem dL_law_301 : decode cL_law 301 = .ok (.iload 4, 2) := by decide +kernel
theorem dL_law_303 : decode cL_law 303 = .ok (.iconst 1, 1) := by decide +kernel
theorem dL_law_304 : decode cL_law 304 = .ok (.iadd, 1) := by decide +kernel
theorem dL_law_305 : decode cL_law 305 = .ok (.iaload, 1) := by decide +kernel
theorem dL_law_306 : decode cL_law 306 = .ok (.aload_n 0, 1) := by decide +kernel
theorem dL_law_307 : decode cL_law 307 = .ok (.iload 4, 2) := by decide +kernel
theorem dL_law_309 : decode cL_law 309 = .ok (.iconst 2, 1) := by decide +kernel
theorem dL_law_310 : decode cL_law 310 = .ok (.iadd, 1) := by decide +kernel
theorem dL_law_311 : decode cL_law 311 = .ok (.iaload, 1) := by decide +kernel
theorem dL_law_312 : decode cL_law 312 = .ok (.ifCond .eq 7, 3) := by decide +kernel
theorem dL_law_315 : decode cL_law 315 = .ok (.iconst 1, 1) := by decide +kernel
theorem dL_law_316 : decode cL_law 316 = .ok (.goto 4, 3) := by decide +kernel
theorem dL_law_319 : decode cL_law 319 = .ok (.iconst 0, 1) := by decide +kernel
theorem dL_law_320 : decode cL_law 320 = .ok (.invokevirtual 40, 3) := by decide +kernel
theorem dL_law_323 : decode cL_law 323 = .ok (.if_icmp .eq 589, 3) := by decide +kernel
theorem dL_law_326 : decode cL_law 326 = .ok (.iconst 0, 1) := by decide +kernel
theorem dL_law_327 : decode cL_law 327 = .ok (.ireturn, 1) := by decide +kernel
theorem dL_law_328 : decode cL_law 328 = .ok (.aload_n 1, 1) := by decide +kernel
theorem dL_law_329 : decode cL_law 329 = .ok (.aload_n 0, 1) := by decide +kernel
theorem dL_law_330 : decode cL_law 330 = .ok (.iload 4, 2) := by decide +kernel
theorem dL_law_332 : decode cL_law 332 = .ok (.iconst 1, 1) := by decide +kernel
theorem dL_law_333 : decode cL_law 333 = .ok (.iadd, 1) := by decide +kernel
theorem dL_law_334 : decode cL_law 334 = .ok (.iaload, 1) := by decide +kernel
theorem dL_law_335 : decode cL_law 335 = .ok (.invokevirtual 41, 3) := by decide +kernel
theorem dL_law_338 : decode cL_law 338 = .ok (.aload_n 2, 1) := by decide +kernel
theorem dL_law_339 : decode cL_law 339 = .ok (.aload_n 0, 1) := by decide +kernel
theorem dL_law_340 : decode cL_law 340 = .ok (.iload 4, 2) := by decide +kernel
theorem dL_law_342 : decode cL_law 342 = .ok (.iconst 1, 1) := by decide +kernel
theorem dL_law_343 : decode cL_law 343 = .ok (.iadd, 1) := by decide +kernel
theorem dL_law_344 : decode cL_law 344 = .ok (.iaload, 1) := by decide +kernel
theorem dL_law_345 : decode cL_law 345 = .ok (.invokevirtual 45, 3) := by decide +kernel
theorem dL_law_348 : decode cL_law 348 = .ok (.if_icmp .eq 564, 3) := by decide +kernel
theorem dL_law_351 : decode cL_law 351 = .ok (.iconst 0, 1) := by decide +kernel
theorem dL_law_352 : decode cL_law 352 = .ok (.ireturn, 1) := by decide +kernel
theorem dL_law_353 : decode cL_law 353 = .ok (.aload_n 1, 1) := by decide +kernel
theorem dL_law_354 : decode cL_law 354 = .ok (.aload_n 0, 1) := by decide +kernel
theorem dL_law_355 : decode cL_law 355 = .ok (.iload 4, 2) := by decide +kernel
theorem dL_law_357 : decode cL_law 357 = .ok (.iconst 1, 1) := by decide +kernel
theorem dL_law_358 : decode cL_law 358 = .ok (.iadd, 1) := by decide +kernel
theorem dL_law_359 : decode cL_law 359 = .ok (.iaload, 1) := by decide +kernel
theorem dL_law_360 : decode cL_law 360 = .ok (.aload_n 0, 1) := by decide +kernel
theorem dL_law_361 : decode cL_law 361 = .ok (.iload 4, 2) := by decide +kernel
theorem dL_law_363 : decode cL_law 363 = .ok (.iconst 2, 1) := by decide +kernel
theorem dL_law_364 : decode cL_law 364 = .ok (.iadd, 1) := by decide +kernel
theorem dL_law_365 : decode cL_law 365 = .ok (.iaload, 1) := by decide +kernel
theorem dL_law_366 : decode cL_law 366 = .ok (.invokevirtual 46, 3) := by decide +kernel
theorem dL_law_369 : decode cL_law 369 = .ok (.aload_n 2, 1) := by decide +kernel
theorem dL_law_370 : decode cL_law 370 = .ok (.aload_n 0, 1) := by decide +kernel
theorem dL_law_371 : decode cL_law 371 = .ok (.iload 4, 2) := by decide +kernel
theorem dL_law_373 : decode cL_law 373 = .ok (.iconst 1, 1) := by decide +kernel
theorem dL_law_374 : decode cL_law 374 = .ok (.iadd, 1) := by decide +kernel
theorem dL_law_375 : decode cL_law 375 = .ok (.iaload, 1) := by decide +kernel
theorem dL_law_376 : decode cL_law 376 = .ok (.aload_n 0, 1) := by decide +kernel
theorem dL_law_377 : decode cL_law 377 = .ok (.iload 4, 2) := by decide +kernel
theorem dL_law_379 : decode cL_law 379 = .ok (.iconst 2, 1) := by decide +kernel
theorem dL_law_380 : decode cL_law 380 = .ok (.iadd, 1) := by decide +kernel
theorem dL_law_381 : decode cL_law 381 = .ok (.iaload, 1) := by decide +kernel
theorem dL_law_382 : decode cL_law 382 = .ok (.invokevirtual 49, 3) := by decide +kernel
theorem dL_law_385 : decode cL_law 385 = .ok (.if_icmp .eq 527, 3) := by decide +kernel
theorem dL_law_388 : decode cL_law 388 = .ok (.iconst 0, 1) := by decide +kernel
theorem dL_law_389 : decode cL_law 389 = .ok (.ireturn, 1) := by decide +kernel
theorem dL_law_390 : decode cL_law 390 = .ok (.aload_n 1, 1) := by decide +kernel
theorem dL_law_391 : decode cL_law 391 = .ok (.aload_n 0, 1) := by decide +kernel
theorem dL_law_392 : decode cL_law 392 = .ok (.iload 4, 2) := by decide +kernel
theorem dL_law_394 : decode cL_law 394 = .ok (.iconst 1, 1) := by decide +kernel
theorem dL_law_395 : decode cL_law 395 = .ok (.iadd, 1) := by decide +kernel
theorem dL_law_396 : decode cL_law 396 = .ok (.iaload, 1) := by decide +kernel
theorem dL_law_397 : decode cL_law 397 = .ok (.aload_n 0, 1) := by decide +kernel
theorem dL_law_398 : decode cL_law 398 = .ok (.iload 4, 2) := by decide +kernel
theorem dL_law_400 : decode cL_law 400 = .ok (.iconst 2, 1) := by decide +kernel
theorem dL_law_401 : decode cL_law 401 = .ok (.iadd, 1) := by decide +kernel
theorem dL_law_402 : decode cL_law 402 = .ok (.iaload, 1) := by decide +kernel
theorem dL_law_403 : decode cL_law 403 = .ok (.invokevirtual 50, 3) := by decide +kernel
theorem dL_law_406 : decode cL_law 406 = .ok (.aload_n 2, 1) := by decide +kernel
theorem dL_law_407 : decode cL_law 407 = .ok (.aload_n 0, 1) := by decide +kernel
theorem dL_law_408 : decode cL_law 408 = .ok (.iload 4, 2) := by decide +kernel
theorem dL_law_410 : decode cL_law 410 = .ok (.iconst 1, 1) := by decide +kernel
theorem dL_law_411 : decode cL_law 411 = .ok (.iadd, 1) := by decide +kernel
theorem dL_law_412 : decode cL_law 412 = .ok (.iaload, 1) := by decide +kernel
theorem dL_law_413 : decode cL_law 413 = .ok (.aload_n 0, 1) := by decide +kernel
theorem dL_law_414 : decode cL_law 414 = .ok (.iload 4, 2) := by decide +kernel
theorem dL_law_416 : decode cL_law 416 = .ok (.iconst 2, 1) := by decide +kernel
theorem dL_law_417 : decode cL_law 417 = .ok (.iadd, 1) := by decide +kernel
theorem dL_law_418 : decode cL_law 418 = .ok (.iaload, 1) := by decide +kernel
theorem dL_law_419 : decode cL_law 419 = .ok (.invokevirtual 53, 3) := by decide +kernel
theorem dL_law_422 : decode cL_law 422 = .ok (.if_icmp .eq 490, 3) := by decide +kernel
theorem dL_law_425 : decode cL_law 425 = .ok (.iconst 0, 1) := by decide +kernel
theorem dL_law_426 : decode cL_law 426 = .ok (.ireturn, 1) := by decide +kernel
theorem dL_law_427 : decode cL_law 427 = .ok (.aload_n 1, 1) := by decide +kernel
theorem dL_law_428 : decode cL_law 428 = .ok (.aload_n 0, 1) := by decide +kernel
theorem dL_law_429 : decode cL_law 429 = .ok (.iload 4, 2) := by decide +kernel
theorem dL_law_431 : decode cL_law 431 = .ok (.iconst 1, 1) := by decide +kernel
theorem dL_law_432 : decode cL_law 432 = .ok (.iadd, 1) := by decide +kernel
theorem dL_law_433 : decode cL_law 433 = .ok (.iaload, 1) := by decide +kernel
theorem dL_law_434 : decode cL_law 434 = .ok (.aload_n 0, 1) := by decide +kernel
theorem dL_law_435 : decode cL_law 435 = .ok (.iload 4, 2) := by decide +kernel
theorem dL_law_437 : decode cL_law 437 = .ok (.iconst 2, 1) := by decide +kernel
theorem dL_law_438 : decode cL_law 438 = .ok (.iadd, 1) := by decide +kernel
theorem dL_law_439 : decode cL_law 439 = .ok (.iaload, 1) := by decide +kernel
theorem dL_law_440 : decode cL_law 440 = .ok (.invokevirtual 54, 3) := by decide +kernel
theorem dL_law_443 : decode cL_law 443 = .ok (.aload_n 2, 1) := by decide +kernel
theorem dL_law_444 : decode cL_law 444 = .ok (.aload_n 0, 1) := by decide +kernel
theorem dL_law_445 : decode cL_law 445 = .ok (.iload 4, 2) := by decide +kernel
theorem dL_law_447 : decode cL_law 447 = .ok (.iconst 1, 1) := by decide +kernel
theorem dL_law_448 : decode cL_law 448 = .ok (.iadd, 1) := by decide +kernel
theorem dL_law_449 : decode cL_law 449 = .ok (.iaload, 1) := by decide +kernel
theorem dL_law_450 : decode cL_law 450 = .ok (.aload_n 0, 1) := by decide +kernel
theorem dL_law_451 : decode cL_law 451 = .ok (.iload 4, 2) := by decide +kernel
theorem dL_law_453 : decode cL_law 453 = .ok (.iconst 2, 1) := by decide +kernel
theorem dL_law_454 : decode cL_law 454 = .ok (.iadd, 1) := by decide +kernel
theorem dL_law_455 : decode cL_law 455 = .ok (.iaload, 1) := by decide +kernel
theorem dL_law_456 : decode cL_law 456 = .ok (.invokevirtual 57, 3) := by decide +kernel
theorem dL_law_459 : decode cL_law 459 = .ok (.if_icmp .eq 453, 3) := by decide +kernel
theorem dL_law_462 : decode cL_law 462 = .ok (.iconst 0, 1) := by decide +kernel
theorem dL_law_463 : decode cL_law 463 = .ok (.ireturn, 1) := by decide +kernel
theorem dL_law_464 : decode cL_law 464 = .ok (.aload_n 1, 1) := by decide +kernel
theorem dL_law_465 : decode cL_law 465 = .ok (.aload_n 0, 1) := by decide +kernel
theorem dL_law_466 : decode cL_law 466 = .ok (.iload 4, 2) := by decide +kernel
theorem dL_law_468 : decode cL_law 468 = .ok (.iconst 1, 1) := by decide +kernel
theorem dL_law_469 : decode cL_law 469 = .ok (.iadd, 1) := by decide +kernel
theorem dL_law_470 : decode cL_law 470 = .ok (.iaload, 1) := by decide +kernel
theorem dL_law_471 : decode cL_law 471 = .ok (.invokevirtual 58, 3) := by decide +kernel
theorem dL_law_474 : decode cL_law 474 = .ok (.aload_n 2, 1) := by decide +kernel
theorem dL_law_475 : decode cL_law 475 = .ok (.aload_n 0, 1) := by decide +kernel
theorem dL_law_476 : decode cL_law 476 = .ok (.iload 4, 2) := by decide +kernel
theorem dL_law_478 : decode cL_law 478 = .ok (.iconst 1, 1) := by decide +kernel
theorem dL_law_479 : decode cL_law 479 = .ok (.iadd, 1) := by decide +kernel
theorem dL_law_480 : decode cL_law 480 = .ok (.iaload, 1) := by decide +kernel
theorem dL_law_481 : decode cL_law 481 = .ok (.invokevirtual 61, 3) := by decide +kernel
theorem dL_law_484 : decode cL_law 484 = .ok (.if_icmp .eq 428, 3) := by decide +kernel
theorem dL_law_487 : decode cL_law 487 = .ok (.iconst 0, 1) := by decide +kernel
theorem dL_law_488 : decode cL_law 488 = .ok (.ireturn, 1) := by decide +kernel
theorem dL_law_489 : decode cL_law 489 = .ok (.aload_n 1, 1) := by decide +kernel
theorem dL_law_490 : decode cL_law 490 = .ok (.aload_n 0, 1) := by decide +kernel
theorem dL_law_491 : decode cL_law 491 = .ok (.iload 4, 2) := by decide +kernel
theorem dL_law_493 : decode cL_law 493 = .ok (.iconst 1, 1) := by decide +kernel
theorem dL_law_494 : decode cL_law 494 = .ok (.iadd, 1) := by decide +kernel
theorem dL_law_495 : decode cL_law 495 = .ok (.iaload, 1) := by decide +kernel
theorem dL_law_496 : decode cL_law 496 = .ok (.invokevirtual 62, 3) := by decide +kernel
theorem dL_law_499 : decode cL_law 499 = .ok (.aload_n 2, 1) := by decide +kernel
theorem dL_law_500 : decode cL_law 500 = .ok (.aload_n 0, 1) := by decide +kernel
theorem dL_law_501 : decode cL_law 501 = .ok (.iload 4, 2) := by decide +kernel
theorem dL_law_503 : decode cL_law 503 = .ok (.iconst 1, 1) := by decide +kernel
theorem dL_law_504 : decode cL_law 504 = .ok (.iadd, 1) := by decide +kernel
theorem dL_law_505 : decode cL_law 505 = .ok (.iaload, 1) := by decide +kernel
theorem dL_law_506 : decode cL_law 506 = .ok (.invokevirtual 66, 3) := by decide +kernel
theorem dL_law_509 : decode cL_law 509 = .ok (.goto 403, 3) := by decide +kernel
theorem dL_law_512 : decode cL_law 512 = .ok (.aload_n 1, 1) := by decide +kernel
theorem dL_law_513 : decode cL_law 513 = .ok (.invokevirtual 67, 3) := by decide +kernel
theorem dL_law_516 : decode cL_law 516 = .ok (.aload_n 2, 1) := by decide +kernel
theorem dL_law_517 : decode cL_law 517 = .ok (.invokevirtual 70, 3) := by decide +kernel
theorem dL_law_520 : decode cL_law 520 = .ok (.goto 392, 3) := by decide +kernel
theorem dL_law_523 : decode cL_law 523 = .ok (.aload_n 1, 1) := by decide +kernel
theorem dL_law_524 : decode cL_law 524 = .ok (.aload_n 0, 1) := by decide +kernel
theorem dL_law_525 : decode cL_law 525 = .ok (.iload 4, 2) := by decide +kernel
theorem dL_law_527 : decode cL_law 527 = .ok (.iconst 1, 1) := by decide +kernel
theorem dL_law_528 : decode cL_law 528 = .ok (.iadd, 1) := by decide +kernel
theorem dL_law_529 : decode cL_law 529 = .ok (.iaload, 1) := by decide +kernel
theorem dL_law_530 : decode cL_law 530 = .ok (.aload_n 0, 1) := by decide +kernel
theorem dL_law_531 : decode cL_law 531 = .ok (.iload 4, 2) := by decide +kernel
theorem dL_law_533 : decode cL_law 533 = .ok (.iconst 2, 1) := by decide +kernel
theorem dL_law_534 : decode cL_law 534 = .ok (.iadd, 1) := by decide +kernel
theorem dL_law_535 : decode cL_law 535 = .ok (.iaload, 1) := by decide +kernel
theorem dL_law_536 : decode cL_law 536 = .ok (.invokevirtual 71, 3) := by decide +kernel
theorem dL_law_539 : decode cL_law 539 = .ok (.aload_n 2, 1) := by decide +kernel
theorem dL_law_540 : decode cL_law 540 = .ok (.aload_n 0, 1) := by decide +kernel
theorem dL_law_541 : decode cL_law 541 = .ok (.iload 4, 2) := by decide +kernel
theorem dL_law_543 : decode cL_law 543 = .ok (.iconst 1, 1) := by decide +kernel
theorem dL_law_544 : decode cL_law 544 = .ok (.iadd, 1) := by decide +kernel
theorem dL_law_545 : decode cL_law 545 = .ok (.iaload, 1) := by decide +kernel
