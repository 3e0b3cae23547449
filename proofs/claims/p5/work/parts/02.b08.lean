theorem dX13_entryDue_79 : decode cX13_entryDue 79 = .ok (.lreturn, 1) := by decide +kernel
theorem dX13_entry1_0 : decode cX13_entry1 0 = .ok (.aload_n 0, 1) := by decide +kernel
theorem dX13_entry1_1 : decode cX13_entry1 1 = .ok (.getfield 114, 3) := by decide +kernel
theorem dX13_entry1_4 : decode cX13_entry1 4 = .ok (.iload_n 2, 1) := by decide +kernel
theorem dX13_entry1_5 : decode cX13_entry1 5 = .ok (.laload, 1) := by decide +kernel
theorem dX13_entry1_6 : decode cX13_entry1 6 = .ok (.aload_n 0, 1) := by decide +kernel
theorem dX13_entry1_7 : decode cX13_entry1 7 = .ok (.getfield 226, 3) := by decide +kernel
theorem dX13_entry1_10 : decode cX13_entry1 10 = .ok (.lcmp, 1) := by decide +kernel
theorem dX13_entry1_11 : decode cX13_entry1 11 = .ok (.ifCond .gt 179, 3) := by decide +kernel
theorem dX13_entry1_14 : decode cX13_entry1 14 = .ok (.aload_n 0, 1) := by decide +kernel
theorem dX13_entry1_15 : decode cX13_entry1 15 = .ok (.getfield 99, 3) := by decide +kernel
theorem dX13_entry1_18 : decode cX13_entry1 18 = .ok (.iload_n 1, 1) := by decide +kernel
theorem dX13_entry1_19 : decode cX13_entry1 19 = .ok (.dup2, 1) := by decide +kernel
theorem dX13_entry1_20 : decode cX13_entry1 20 = .ok (.iaload, 1) := by decide +kernel
theorem dX13_entry1_21 : decode cX13_entry1 21 = .ok (.iconst 1, 1) := by decide +kernel
theorem dX13_entry1_22 : decode cX13_entry1 22 = .ok (.isub, 1) := by decide +kernel
theorem dX13_entry1_23 : decode cX13_entry1 23 = .ok (.iastore, 1) := by decide +kernel
theorem dX13_entry1_24 : decode cX13_entry1 24 = .ok (.iload_n 2, 1) := by decide +kernel
theorem dX13_entry1_25 : decode cX13_entry1 25 = .ok (.istore_n 3, 1) := by decide +kernel
theorem dX13_entry1_26 : decode cX13_entry1 26 = .ok (.iload_n 3, 1) := by decide +kernel
theorem dX13_entry1_27 : decode cX13_entry1 27 = .ok (.bipush 24, 2) := by decide +kernel
theorem dX13_entry1_29 : decode cX13_entry1 29 = .ok (.iload_n 1, 1) := by decide +kernel
theorem dX13_entry1_30 : decode cX13_entry1 30 = .ok (.imul, 1) := by decide +kernel
theorem dX13_entry1_31 : decode cX13_entry1 31 = .ok (.aload_n 0, 1) := by decide +kernel
theorem dX13_entry1_32 : decode cX13_entry1 32 = .ok (.getfield 99, 3) := by decide +kernel
theorem dX13_entry1_35 : decode cX13_entry1 35 = .ok (.iload_n 1, 1) := by decide +kernel
theorem dX13_entry1_36 : decode cX13_entry1 36 = .ok (.iaload, 1) := by decide +kernel
theorem dX13_entry1_37 : decode cX13_entry1 37 = .ok (.iadd, 1) := by decide +kernel
theorem dX13_entry1_38 : decode cX13_entry1 38 = .ok (.if_icmp .ge 151, 3) := by decide +kernel
theorem dX13_entry1_41 : decode cX13_entry1 41 = .ok (.aload_n 0, 1) := by decide +kernel
theorem dX13_entry1_42 : decode cX13_entry1 42 = .ok (.getfield 102, 3) := by decide +kernel
theorem dX13_entry1_45 : decode cX13_entry1 45 = .ok (.iload_n 3, 1) := by decide +kernel
theorem dX13_entry1_46 : decode cX13_entry1 46 = .ok (.aload_n 0, 1) := by decide +kernel
theorem dX13_entry1_47 : decode cX13_entry1 47 = .ok (.getfield 102, 3) := by decide +kernel
theorem dX13_entry1_50 : decode cX13_entry1 50 = .ok (.iload_n 3, 1) := by decide +kernel
theorem dX13_entry1_51 : decode cX13_entry1 51 = .ok (.iconst 1, 1) := by decide +kernel
theorem dX13_entry1_52 : decode cX13_entry1 52 = .ok (.iadd, 1) := by decide +kernel
theorem dX13_entry1_53 : decode cX13_entry1 53 = .ok (.iaload, 1) := by decide +kernel
theorem dX13_entry1_54 : decode cX13_entry1 54 = .ok (.iastore, 1) := by decide +kernel
theorem dX13_entry1_55 : decode cX13_entry1 55 = .ok (.aload_n 0, 1) := by decide +kernel
theorem dX13_entry1_56 : decode cX13_entry1 56 = .ok (.getfield 105, 3) := by decide +kernel
theorem dX13_entry1_59 : decode cX13_entry1 59 = .ok (.iload_n 3, 1) := by decide +kernel
theorem dX13_entry1_60 : decode cX13_entry1 60 = .ok (.aload_n 0, 1) := by decide +kernel
theorem dX13_entry1_61 : decode cX13_entry1 61 = .ok (.getfield 105, 3) := by decide +kernel
theorem dX13_entry1_64 : decode cX13_entry1 64 = .ok (.iload_n 3, 1) := by decide +kernel
theorem dX13_entry1_65 : decode cX13_entry1 65 = .ok (.iconst 1, 1) := by decide +kernel
theorem dX13_entry1_66 : decode cX13_entry1 66 = .ok (.iadd, 1) := by decide +kernel
theorem dX13_entry1_67 : decode cX13_entry1 67 = .ok (.iaload, 1) := by decide +kernel
theorem dX13_entry1_68 : decode cX13_entry1 68 = .ok (.iastore, 1) := by decide +kernel
theorem dX13_entry1_69 : decode cX13_entry1 69 = .ok (.aload_n 0, 1) := by decide +kernel
theorem dX13_entry1_70 : decode cX13_entry1 70 = .ok (.getfield 108, 3) := by decide +kernel
theorem dX13_entry1_73 : decode cX13_entry1 73 = .ok (.iload_n 3, 1) := by decide +kernel
theorem dX13_entry1_74 : decode cX13_entry1 74 = .ok (.aload_n 0, 1) := by decide +kernel
theorem dX13_entry1_75 : decode cX13_entry1 75 = .ok (.getfield 108, 3) := by decide +kernel
theorem dX13_entry1_78 : decode cX13_entry1 78 = .ok (.iload_n 3, 1) := by decide +kernel
theorem dX13_entry1_79 : decode cX13_entry1 79 = .ok (.iconst 1, 1) := by decide +kernel
theorem dX13_entry1_80 : decode cX13_entry1 80 = .ok (.iadd, 1) := by decide +kernel
theorem dX13_entry1_81 : decode cX13_entry1 81 = .ok (.iaload, 1) := by decide +kernel
theorem dX13_entry1_82 : decode cX13_entry1 82 = .ok (.iastore, 1) := by decide +kernel
theorem dX13_entry1_83 : decode cX13_entry1 83 = .ok (.aload_n 0, 1) := by decide +kernel
theorem dX13_entry1_84 : decode cX13_entry1 84 = .ok (.getfield 111, 3) := by decide +kernel
theorem dX13_entry1_87 : decode cX13_entry1 87 = .ok (.iload_n 3, 1) := by decide +kernel
theorem dX13_entry1_88 : decode cX13_entry1 88 = .ok (.aload_n 0, 1) := by decide +kernel
theorem dX13_entry1_89 : decode cX13_entry1 89 = .ok (.getfield 111, 3) := by decide +kernel
theorem dX13_entry1_92 : decode cX13_entry1 92 = .ok (.iload_n 3, 1) := by decide +kernel
theorem dX13_entry1_93 : decode cX13_entry1 93 = .ok (.iconst 1, 1) := by decide +kernel
theorem dX13_entry1_94 : decode cX13_entry1 94 = .ok (.iadd, 1) := by decide +kernel
theorem dX13_entry1_95 : decode cX13_entry1 95 = .ok (.laload, 1) := by decide +kernel
theorem dX13_entry1_96 : decode cX13_entry1 96 = .ok (.lastore, 1) := by decide +kernel
theorem dX13_entry1_97 : decode cX13_entry1 97 = .ok (.aload_n 0, 1) := by decide +kernel
theorem dX13_entry1_98 : decode cX13_entry1 98 = .ok (.getfield 114, 3) := by decide +kernel
theorem dX13_entry1_101 : decode cX13_entry1 101 = .ok (.iload_n 3, 1) := by decide +kernel
theorem dX13_entry1_102 : decode cX13_entry1 102 = .ok (.aload_n 0, 1) := by decide +kernel
theorem dX13_entry1_103 : decode cX13_entry1 103 = .ok (.getfield 114, 3) := by decide +kernel
theorem dX13_entry1_106 : decode cX13_entry1 106 = .ok (.iload_n 3, 1) := by decide +kernel
theorem dX13_entry1_107 : decode cX13_entry1 107 = .ok (.iconst 1, 1) := by decide +kernel
theorem dX13_entry1_108 : decode cX13_entry1 108 = .ok (.iadd, 1) := by decide +kernel
theorem dX13_entry1_109 : decode cX13_entry1 109 = .ok (.laload, 1) := by decide +kernel
theorem dX13_entry1_110 : decode cX13_entry1 110 = .ok (.lastore, 1) := by decide +kernel
theorem dX13_entry1_111 : decode cX13_entry1 111 = .ok (.aload_n 0, 1) := by decide +kernel
theorem dX13_entry1_112 : decode cX13_entry1 112 = .ok (.getfield 117, 3) := by decide +kernel
theorem dX13_entry1_115 : decode cX13_entry1 115 = .ok (.iload_n 3, 1) := by decide +kernel
theorem dX13_entry1_116 : decode cX13_entry1 116 = .ok (.aload_n 0, 1) := by decide +kernel
theorem dX13_entry1_117 : decode cX13_entry1 117 = .ok (.getfield 117, 3) := by decide +kernel
theorem dX13_entry1_120 : decode cX13_entry1 120 = .ok (.iload_n 3, 1) := by decide +kernel
theorem dX13_entry1_121 : decode cX13_entry1 121 = .ok (.iconst 1, 1) := by decide +kernel
theorem dX13_entry1_122 : decode cX13_entry1 122 = .ok (.iadd, 1) := by decide +kernel
theorem dX13_entry1_123 : decode cX13_entry1 123 = .ok (.baload, 1) := by decide +kernel
theorem dX13_entry1_124 : decode cX13_entry1 124 = .ok (.bastore, 1) := by decide +kernel
theorem dX13_entry1_125 : decode cX13_entry1 125 = .ok (.aload_n 0, 1) := by decide +kernel
theorem dX13_entry1_126 : decode cX13_entry1 126 = .ok (.getfield 120, 3) := by decide +kernel
theorem dX13_entry1_129 : decode cX13_entry1 129 = .ok (.iload_n 3, 1) := by decide +kernel
theorem dX13_entry1_130 : decode cX13_entry1 130 = .ok (.aload_n 0, 1) := by decide +kernel
theorem dX13_entry1_131 : decode cX13_entry1 131 = .ok (.getfield 120, 3) := by decide +kernel
theorem dX13_entry1_134 : decode cX13_entry1 134 = .ok (.iload_n 3, 1) := by decide +kernel
theorem dX13_entry1_135 : decode cX13_entry1 135 = .ok (.iconst 1, 1) := by decide +kernel
theorem dX13_entry1_136 : decode cX13_entry1 136 = .ok (.iadd, 1) := by decide +kernel
theorem dX13_entry1_137 : decode cX13_entry1 137 = .ok (.iaload, 1) := by decide +kernel
theorem dX13_entry1_138 : decode cX13_entry1 138 = .ok (.iastore, 1) := by decide +kernel
theorem dX13_entry1_139 : decode cX13_entry1 139 = .ok (.aload_n 0, 1) := by decide +kernel
theorem dX13_entry1_140 : decode cX13_entry1 140 = .ok (.getfield 123, 3) := by decide +kernel
theorem dX13_entry1_143 : decode cX13_entry1 143 = .ok (.bipush 16, 2) := by decide +kernel
theorem dX13_entry1_145 : decode cX13_entry1 145 = .ok (.iload_n 3, 1) := by decide +kernel
theorem dX13_entry1_146 : decode cX13_entry1 146 = .ok (.imul, 1) := by decide +kernel
theorem dX13_entry1_147 : decode cX13_entry1 147 = .ok (.bipush 16, 2) := by decide +kernel
theorem dX13_entry1_149 : decode cX13_entry1 149 = .ok (.iadd, 1) := by decide +kernel
theorem dX13_entry1_150 : decode cX13_entry1 150 = .ok (.aload_n 0, 1) := by decide +kernel
theorem dX13_entry1_151 : decode cX13_entry1 151 = .ok (.getfield 123, 3) := by decide +kernel
theorem dX13_entry1_154 : decode cX13_entry1 154 = .ok (.bipush 16, 2) := by decide +kernel
theorem dX13_entry1_156 : decode cX13_entry1 156 = .ok (.iload_n 3, 1) := by decide +kernel
theorem dX13_entry1_157 : decode cX13_entry1 157 = .ok (.imul, 1) := by decide +kernel
theorem dX13_entry1_158 : decode cX13_entry1 158 = .ok (.invokestatic 213, 3) := by decide +kernel
theorem dX13_entry1_161 : decode cX13_entry1 161 = .ok (.aload_n 0, 1) := by decide +kernel
theorem dX13_entry1_162 : decode cX13_entry1 162 = .ok (.getfield 126, 3) := by decide +kernel
theorem dX13_entry1_165 : decode cX13_entry1 165 = .ok (.bipush 16, 2) := by decide +kernel
theorem dX13_entry1_167 : decode cX13_entry1 167 = .ok (.iload_n 3, 1) := by decide +kernel
theorem dX13_entry1_168 : decode cX13_entry1 168 = .ok (.imul, 1) := by decide +kernel
theorem dX13_entry1_169 : decode cX13_entry1 169 = .ok (.bipush 16, 2) := by decide +kernel
theorem dX13_entry1_171 : decode cX13_entry1 171 = .ok (.iadd, 1) := by decide +kernel
theorem dX13_entry1_172 : decode cX13_entry1 172 = .ok (.aload_n 0, 1) := by decide +kernel
theorem dX13_entry1_173 : decode cX13_entry1 173 = .ok (.getfield 126, 3) := by decide +kernel
theorem dX13_entry1_176 : decode cX13_entry1 176 = .ok (.bipush 16, 2) := by decide +kernel
theorem dX13_entry1_178 : decode cX13_entry1 178 = .ok (.iload_n 3, 1) := by decide +kernel
theorem dX13_entry1_179 : decode cX13_entry1 179 = .ok (.imul, 1) := by decide +kernel
theorem dX13_entry1_180 : decode cX13_entry1 180 = .ok (.invokestatic 213, 3) := by decide +kernel
theorem dX13_entry1_183 : decode cX13_entry1 183 = .ok (.iinc 3 1, 3) := by decide +kernel
theorem dX13_entry1_186 : decode cX13_entry1 186 = .ok (.goto (-160), 3) := by decide +kernel
theorem dX13_entry1_189 : decode cX13_entry1 189 = .ok (.return_, 1) := by decide +kernel
theorem dX13_entry1_190 : decode cX13_entry1 190 = .ok (.aload_n 0, 1) := by decide +kernel
theorem dX13_entry1_191 : decode cX13_entry1 191 = .ok (.getfield 120, 3) := by decide +kernel
theorem dX13_entry1_194 : decode cX13_entry1 194 = .ok (.iload_n 2, 1) := by decide +kernel
theorem dX13_entry1_195 : decode cX13_entry1 195 = .ok (.dup2, 1) := by decide +kernel
theorem dX13_entry1_196 : decode cX13_entry1 196 = .ok (.iaload, 1) := by decide +kernel
theorem dX13_entry1_197 : decode cX13_entry1 197 = .ok (.iconst 1, 1) := by decide +kernel
theorem dX13_entry1_198 : decode cX13_entry1 198 = .ok (.iadd, 1) := by decide +kernel
theorem dX13_entry1_199 : decode cX13_entry1 199 = .ok (.iastore, 1) := by decide +kernel
theorem dX13_entry1_200 : decode cX13_entry1 200 = .ok (.iconst 0, 1) := by decide +kernel
theorem dX13_entry1_201 : decode cX13_entry1 201 = .ok (.istore_n 3, 1) := by decide +kernel
theorem dX13_entry1_202 : decode cX13_entry1 202 = .ok (.iconst 4, 1) := by decide +kernel
theorem dX13_entry1_203 : decode cX13_entry1 203 = .ok (.iload_n 1, 1) := by decide +kernel
theorem dX13_entry1_204 : decode cX13_entry1 204 = .ok (.imul, 1) := by decide +kernel
theorem dX13_entry1_205 : decode cX13_entry1 205 = .ok (.istore 4, 2) := by decide +kernel
theorem dX13_entry1_207 : decode cX13_entry1 207 = .ok (.iload 4, 2) := by decide +kernel
theorem dX13_entry1_209 : decode cX13_entry1 209 = .ok (.iconst 4, 1) := by decide +kernel
theorem dX13_entry1_210 : decode cX13_entry1 210 = .ok (.iload_n 1, 1) := by decide +kernel
theorem dX13_entry1_211 : decode cX13_entry1 211 = .ok (.imul, 1) := by decide +kernel
theorem dX13_entry1_212 : decode cX13_entry1 212 = .ok (.iconst 4, 1) := by decide +kernel
theorem dX13_entry1_213 : decode cX13_entry1 213 = .ok (.iadd, 1) := by decide +kernel
theorem dX13_entry1_214 : decode cX13_entry1 214 = .ok (.if_icmp .ge 58, 3) := by decide +kernel
theorem dX13_entry1_217 : decode cX13_entry1 217 = .ok (.iload_n 3, 1) := by decide +kernel
theorem dX13_entry1_218 : decode cX13_entry1 218 = .ok (.ifCond .ne 42, 3) := by decide +kernel
theorem dX13_entry1_221 : decode cX13_entry1 221 = .ok (.aload_n 0, 1) := by decide +kernel
theorem dX13_entry1_222 : decode cX13_entry1 222 = .ok (.getfield 81, 3) := by decide +kernel
theorem dX13_entry1_225 : decode cX13_entry1 225 = .ok (.iload 4, 2) := by decide +kernel
theorem dX13_entry1_227 : decode cX13_entry1 227 = .ok (.iaload, 1) := by decide +kernel
theorem dX13_entry1_228 : decode cX13_entry1 228 = .ok (.aload_n 0, 1) := by decide +kernel
theorem dX13_entry1_229 : decode cX13_entry1 229 = .ok (.getfield 102, 3) := by decide +kernel
theorem dX13_entry1_232 : decode cX13_entry1 232 = .ok (.iload_n 2, 1) := by decide +kernel
theorem dX13_entry1_233 : decode cX13_entry1 233 = .ok (.iaload, 1) := by decide +kernel
theorem dX13_entry1_234 : decode cX13_entry1 234 = .ok (.if_icmp .ne 30, 3) := by decide +kernel
theorem dX13_entry1_237 : decode cX13_entry1 237 = .ok (.aload_n 0, 1) := by decide +kernel
theorem dX13_entry1_238 : decode cX13_entry1 238 = .ok (.getfield 78, 3) := by decide +kernel
theorem dX13_entry1_241 : decode cX13_entry1 241 = .ok (.bipush 16, 2) := by decide +kernel
theorem dX13_entry1_243 : decode cX13_entry1 243 = .ok (.iload 4, 2) := by decide +kernel
theorem dX13_entry1_245 : decode cX13_entry1 245 = .ok (.imul, 1) := by decide +kernel
theorem dX13_entry1_246 : decode cX13_entry1 246 = .ok (.aload_n 0, 1) := by decide +kernel
theorem dX13_entry1_247 : decode cX13_entry1 247 = .ok (.getfield 123, 3) := by decide +kernel
theorem dX13_entry1_250 : decode cX13_entry1 250 = .ok (.bipush 16, 2) := by decide +kernel
theorem dX13_entry1_252 : decode cX13_entry1 252 = .ok (.iload_n 2, 1) := by decide +kernel
theorem dX13_entry1_253 : decode cX13_entry1 253 = .ok (.imul, 1) := by decide +kernel
theorem dX13_entry1_254 : decode cX13_entry1 254 = .ok (.invokestatic 257, 3) := by decide +kernel
theorem dX13_entry1_257 : decode cX13_entry1 257 = .ok (.ifCond .eq 7, 3) := by decide +kernel
theorem dX13_entry1_260 : decode cX13_entry1 260 = .ok (.iconst 1, 1) := by decide +kernel
theorem dX13_entry1_261 : decode cX13_entry1 261 = .ok (.goto 4, 3) := by decide +kernel
theorem dX13_entry1_264 : decode cX13_entry1 264 = .ok (.iconst 0, 1) := by decide +kernel
theorem dX13_entry1_265 : decode cX13_entry1 265 = .ok (.istore_n 3, 1) := by decide +kernel
theorem dX13_entry1_266 : decode cX13_entry1 266 = .ok (.iinc 4 1, 3) := by decide +kernel
theorem dX13_entry1_269 : decode cX13_entry1 269 = .ok (.goto (-62), 3) := by decide +kernel
theorem dX13_entry1_272 : decode cX13_entry1 272 = .ok (.iload_n 3, 1) := by decide +kernel
theorem dX13_entry1_273 : decode cX13_entry1 273 = .ok (.ifCond .eq 23, 3) := by decide +kernel
theorem dX13_entry1_276 : decode cX13_entry1 276 = .ok (.aload_n 0, 1) := by decide +kernel
theorem dX13_entry1_277 : decode cX13_entry1 277 = .ok (.iload_n 1, 1) := by decide +kernel
theorem dX13_entry1_278 : decode cX13_entry1 278 = .ok (.aload_n 0, 1) := by decide +kernel
theorem dX13_entry1_279 : decode cX13_entry1 279 = .ok (.getfield 102, 3) := by decide +kernel
theorem dX13_entry1_282 : decode cX13_entry1 282 = .ok (.iload_n 2, 1) := by decide +kernel
theorem dX13_entry1_283 : decode cX13_entry1 283 = .ok (.iaload, 1) := by decide +kernel
theorem dX13_entry1_284 : decode cX13_entry1 284 = .ok (.aload_n 0, 1) := by decide +kernel
theorem dX13_entry1_285 : decode cX13_entry1 285 = .ok (.getfield 123, 3) := by decide +kernel
theorem dX13_entry1_288 : decode cX13_entry1 288 = .ok (.bipush 16, 2) := by decide +kernel
theorem dX13_entry1_290 : decode cX13_entry1 290 = .ok (.iload_n 2, 1) := by decide +kernel
theorem dX13_entry1_291 : decode cX13_entry1 291 = .ok (.imul, 1) := by decide +kernel
theorem dX13_entry1_292 : decode cX13_entry1 292 = .ok (.iconst 0, 1) := by decide +kernel
theorem dX13_entry1_293 : decode cX13_entry1 293 = .ok (.invokevirtual 293, 3) := by decide +kernel
theorem dX13_entry1_296 : decode cX13_entry1 296 = .ok (.return_, 1) := by decide +kernel
theorem dX13_acts_0 : decode cX13_acts 0 = .ok (.iconst 0, 1) := by decide +kernel
theorem dX13_acts_1 : decode cX13_acts 1 = .ok (.istore_n 1, 1) := by decide +kernel
theorem dX13_acts_2 : decode cX13_acts 2 = .ok (.iload_n 1, 1) := by decide +kernel
theorem dX13_acts_3 : decode cX13_acts 3 = .ok (.bipush 8, 2) := by decide +kernel
theorem dX13_acts_5 : decode cX13_acts 5 = .ok (.if_icmp .ge 203, 3) := by decide +kernel
theorem dX13_acts_8 : decode cX13_acts 8 = .ok (.aload_n 0, 1) := by decide +kernel
theorem dX13_acts_9 : decode cX13_acts 9 = .ok (.getfield 13, 3) := by decide +kernel
theorem dX13_acts_12 : decode cX13_acts 12 = .ok (.iload_n 1, 1) := by decide +kernel
theorem dX13_acts_13 : decode cX13_acts 13 = .ok (.baload, 1) := by decide +kernel
theorem dX13_acts_14 : decode cX13_acts 14 = .ok (.ifCond .ne 6, 3) := by decide +kernel
theorem dX13_acts_17 : decode cX13_acts 17 = .ok (.goto 185, 3) := by decide +kernel
theorem dX13_acts_20 : decode cX13_acts 20 = .ok (.aload_n 0, 1) := by decide +kernel
theorem dX13_acts_21 : decode cX13_acts 21 = .ok (.getfield 44, 3) := by decide +kernel
theorem dX13_acts_24 : decode cX13_acts 24 = .ok (.iload_n 1, 1) := by decide +kernel
theorem dX13_acts_25 : decode cX13_acts 25 = .ok (.laload, 1) := by decide +kernel
theorem dX13_acts_26 : decode cX13_acts 26 = .ok (.aload_n 0, 1) := by decide +kernel
theorem dX13_acts_27 : decode cX13_acts 27 = .ok (.getfield 226, 3) := by decide +kernel
theorem dX13_acts_30 : decode cX13_acts 30 = .ok (.lcmp, 1) := by decide +kernel
theorem dX13_acts_31 : decode cX13_acts 31 = .ok (.ifCond .gt 10, 3) := by decide +kernel
theorem dX13_acts_34 : decode cX13_acts 34 = .ok (.aload_n 0, 1) := by decide +kernel
theorem dX13_acts_35 : decode cX13_acts 35 = .ok (.iload_n 1, 1) := by decide +kernel
theorem dX13_acts_36 : decode cX13_acts 36 = .ok (.invokevirtual 299, 3) := by decide +kernel
theorem dX13_acts_39 : decode cX13_acts 39 = .ok (.iconst 1, 1) := by decide +kernel
theorem dX13_acts_40 : decode cX13_acts 40 = .ok (.ireturn, 1) := by decide +kernel
theorem dX13_acts_41 : decode cX13_acts 41 = .ok (.aload_n 0, 1) := by decide +kernel
theorem dX13_acts_42 : decode cX13_acts 42 = .ok (.getfield 57, 3) := by decide +kernel
theorem dX13_acts_45 : decode cX13_acts 45 = .ok (.iload_n 1, 1) := by decide +kernel
theorem dX13_acts_46 : decode cX13_acts 46 = .ok (.laload, 1) := by decide +kernel
theorem dX13_acts_47 : decode cX13_acts 47 = .ok (.aload_n 0, 1) := by decide +kernel
theorem dX13_acts_48 : decode cX13_acts 48 = .ok (.getfield 226, 3) := by decide +kernel
theorem dX13_acts_51 : decode cX13_acts 51 = .ok (.lcmp, 1) := by decide +kernel
theorem dX13_acts_52 : decode cX13_acts 52 = .ok (.ifCond .gt 10, 3) := by decide +kernel
theorem dX13_acts_55 : decode cX13_acts 55 = .ok (.aload_n 0, 1) := by decide +kernel
theorem dX13_acts_56 : decode cX13_acts 56 = .ok (.iload_n 1, 1) := by decide +kernel
theorem dX13_acts_57 : decode cX13_acts 57 = .ok (.invokevirtual 302, 3) := by decide +kernel
theorem dX13_acts_60 : decode cX13_acts 60 = .ok (.iconst 1, 1) := by decide +kernel
theorem dX13_acts_61 : decode cX13_acts 61 = .ok (.ireturn, 1) := by decide +kernel
theorem dX13_acts_62 : decode cX13_acts 62 = .ok (.iconst 4, 1) := by decide +kernel
theorem dX13_acts_63 : decode cX13_acts 63 = .ok (.iload_n 1, 1) := by decide +kernel
theorem dX13_acts_64 : decode cX13_acts 64 = .ok (.imul, 1) := by decide +kernel
theorem dX13_acts_65 : decode cX13_acts 65 = .ok (.istore_n 2, 1) := by decide +kernel
theorem dX13_acts_66 : decode cX13_acts 66 = .ok (.iload_n 2, 1) := by decide +kernel
theorem dX13_acts_67 : decode cX13_acts 67 = .ok (.iconst 4, 1) := by decide +kernel
theorem dX13_acts_68 : decode cX13_acts 68 = .ok (.iload_n 1, 1) := by decide +kernel
theorem dX13_acts_69 : decode cX13_acts 69 = .ok (.imul, 1) := by decide +kernel
theorem dX13_acts_70 : decode cX13_acts 70 = .ok (.iconst 4, 1) := by decide +kernel
theorem dX13_acts_71 : decode cX13_acts 71 = .ok (.iadd, 1) := by decide +kernel
theorem dX13_acts_72 : decode cX13_acts 72 = .ok (.if_icmp .ge 39, 3) := by decide +kernel
theorem dX13_acts_75 : decode cX13_acts 75 = .ok (.aload_n 0, 1) := by decide +kernel
theorem dX13_acts_76 : decode cX13_acts 76 = .ok (.getfield 81, 3) := by decide +kernel
theorem dX13_acts_79 : decode cX13_acts 79 = .ok (.iload_n 2, 1) := by decide +kernel
theorem dX13_acts_80 : decode cX13_acts 80 = .ok (.iaload, 1) := by decide +kernel
theorem dX13_acts_81 : decode cX13_acts 81 = .ok (.ifCond .le 24, 3) := by decide +kernel
theorem dX13_acts_84 : decode cX13_acts 84 = .ok (.aload_n 0, 1) := by decide +kernel
theorem dX13_acts_85 : decode cX13_acts 85 = .ok (.getfield 84, 3) := by decide +kernel
theorem dX13_acts_88 : decode cX13_acts 88 = .ok (.iload_n 2, 1) := by decide +kernel
theorem dX13_acts_89 : decode cX13_acts 89 = .ok (.laload, 1) := by decide +kernel
theorem dX13_acts_90 : decode cX13_acts 90 = .ok (.aload_n 0, 1) := by decide +kernel
theorem dX13_acts_91 : decode cX13_acts 91 = .ok (.getfield 226, 3) := by decide +kernel
theorem dX13_acts_94 : decode cX13_acts 94 = .ok (.lcmp, 1) := by decide +kernel
theorem dX13_acts_95 : decode cX13_acts 95 = .ok (.ifCond .gt 10, 3) := by decide +kernel
theorem dX13_acts_98 : decode cX13_acts 98 = .ok (.aload_n 0, 1) := by decide +kernel
theorem dX13_acts_99 : decode cX13_acts 99 = .ok (.iload_n 2, 1) := by decide +kernel
theorem dX13_acts_100 : decode cX13_acts 100 = .ok (.invokevirtual 305, 3) := by decide +kernel
theorem dX13_acts_103 : decode cX13_acts 103 = .ok (.iconst 1, 1) := by decide +kernel
theorem dX13_acts_104 : decode cX13_acts 104 = .ok (.ireturn, 1) := by decide +kernel
theorem dX13_acts_105 : decode cX13_acts 105 = .ok (.iinc 2 1, 3) := by decide +kernel
theorem dX13_acts_108 : decode cX13_acts 108 = .ok (.goto (-42), 3) := by decide +kernel
theorem dX13_acts_111 : decode cX13_acts 111 = .ok (.iconst 0, 1) := by decide +kernel
theorem dX13_acts_112 : decode cX13_acts 112 = .ok (.istore_n 2, 1) := by decide +kernel
theorem dX13_acts_113 : decode cX13_acts 113 = .ok (.iload_n 2, 1) := by decide +kernel
theorem dX13_acts_114 : decode cX13_acts 114 = .ok (.aload_n 0, 1) := by decide +kernel
theorem dX13_acts_115 : decode cX13_acts 115 = .ok (.getfield 96, 3) := by decide +kernel
theorem dX13_acts_118 : decode cX13_acts 118 = .ok (.iload_n 1, 1) := by decide +kernel
theorem dX13_acts_119 : decode cX13_acts 119 = .ok (.iaload, 1) := by decide +kernel
theorem dX13_acts_120 : decode cX13_acts 120 = .ok (.if_icmp .ge 35, 3) := by decide +kernel
theorem dX13_acts_123 : decode cX13_acts 123 = .ok (.aload_n 0, 1) := by decide +kernel
theorem dX13_acts_124 : decode cX13_acts 124 = .ok (.getfield 93, 3) := by decide +kernel
theorem dX13_acts_127 : decode cX13_acts 127 = .ok (.iconst 4, 1) := by decide +kernel
theorem dX13_acts_128 : decode cX13_acts 128 = .ok (.iload_n 1, 1) := by decide +kernel
theorem dX13_acts_129 : decode cX13_acts 129 = .ok (.imul, 1) := by decide +kernel
theorem dX13_acts_130 : decode cX13_acts 130 = .ok (.iload_n 2, 1) := by decide +kernel
theorem dX13_acts_131 : decode cX13_acts 131 = .ok (.iadd, 1) := by decide +kernel
theorem dX13_acts_132 : decode cX13_acts 132 = .ok (.laload, 1) := by decide +kernel
theorem dX13_acts_133 : decode cX13_acts 133 = .ok (.aload_n 0, 1) := by decide +kernel
theorem dX13_acts_134 : decode cX13_acts 134 = .ok (.getfield 226, 3) := by decide +kernel
theorem dX13_acts_137 : decode cX13_acts 137 = .ok (.lcmp, 1) := by decide +kernel
theorem dX13_acts_138 : decode cX13_acts 138 = .ok (.ifCond .gt 11, 3) := by decide +kernel
theorem dX13_acts_141 : decode cX13_acts 141 = .ok (.aload_n 0, 1) := by decide +kernel
theorem dX13_acts_142 : decode cX13_acts 142 = .ok (.iload_n 1, 1) := by decide +kernel
theorem dX13_acts_143 : decode cX13_acts 143 = .ok (.iload_n 2, 1) := by decide +kernel
theorem dX13_acts_144 : decode cX13_acts 144 = .ok (.invokevirtual 308, 3) := by decide +kernel
theorem dX13_acts_147 : decode cX13_acts 147 = .ok (.iconst 1, 1) := by decide +kernel
theorem dX13_acts_148 : decode cX13_acts 148 = .ok (.ireturn, 1) := by decide +kernel
theorem dX13_acts_149 : decode cX13_acts 149 = .ok (.iinc 2 1, 3) := by decide +kernel
theorem dX13_acts_152 : decode cX13_acts 152 = .ok (.goto (-39), 3) := by decide +kernel
theorem dX13_acts_155 : decode cX13_acts 155 = .ok (.bipush 24, 2) := by decide +kernel
theorem dX13_acts_157 : decode cX13_acts 157 = .ok (.iload_n 1, 1) := by decide +kernel
theorem dX13_acts_158 : decode cX13_acts 158 = .ok (.imul, 1) := by decide +kernel
theorem dX13_acts_159 : decode cX13_acts 159 = .ok (.istore_n 2, 1) := by decide +kernel
theorem dX13_acts_160 : decode cX13_acts 160 = .ok (.iload_n 2, 1) := by decide +kernel
theorem dX13_acts_161 : decode cX13_acts 161 = .ok (.bipush 24, 2) := by decide +kernel
theorem dX13_acts_163 : decode cX13_acts 163 = .ok (.iload_n 1, 1) := by decide +kernel
theorem dX13_acts_164 : decode cX13_acts 164 = .ok (.imul, 1) := by decide +kernel
theorem dX13_acts_165 : decode cX13_acts 165 = .ok (.aload_n 0, 1) := by decide +kernel
theorem dX13_acts_166 : decode cX13_acts 166 = .ok (.getfield 99, 3) := by decide +kernel
theorem dX13_acts_169 : decode cX13_acts 169 = .ok (.iload_n 1, 1) := by decide +kernel
theorem dX13_acts_170 : decode cX13_acts 170 = .ok (.iaload, 1) := by decide +kernel
theorem dX13_acts_171 : decode cX13_acts 171 = .ok (.iadd, 1) := by decide +kernel
theorem dX13_acts_172 : decode cX13_acts 172 = .ok (.if_icmp .ge 30, 3) := by decide +kernel
theorem dX13_acts_175 : decode cX13_acts 175 = .ok (.aload_n 0, 1) := by decide +kernel
theorem dX13_acts_176 : decode cX13_acts 176 = .ok (.iload_n 2, 1) := by decide +kernel
theorem dX13_acts_177 : decode cX13_acts 177 = .ok (.invokevirtual 311, 3) := by decide +kernel
theorem dX13_acts_180 : decode cX13_acts 180 = .ok (.aload_n 0, 1) := by decide +kernel
theorem dX13_acts_181 : decode cX13_acts 181 = .ok (.getfield 226, 3) := by decide +kernel
theorem dX13_acts_184 : decode cX13_acts 184 = .ok (.lcmp, 1) := by decide +kernel
theorem dX13_acts_185 : decode cX13_acts 185 = .ok (.ifCond .gt 11, 3) := by decide +kernel
theorem dX13_acts_188 : decode cX13_acts 188 = .ok (.aload_n 0, 1) := by decide +kernel
theorem dX13_acts_189 : decode cX13_acts 189 = .ok (.iload_n 1, 1) := by decide +kernel
theorem dX13_acts_190 : decode cX13_acts 190 = .ok (.iload_n 2, 1) := by decide +kernel
theorem dX13_acts_191 : decode cX13_acts 191 = .ok (.invokevirtual 315, 3) := by decide +kernel
theorem dX13_acts_194 : decode cX13_acts 194 = .ok (.iconst 1, 1) := by decide +kernel
theorem dX13_acts_195 : decode cX13_acts 195 = .ok (.ireturn, 1) := by decide +kernel
theorem dX13_acts_196 : decode cX13_acts 196 = .ok (.iinc 2 1, 3) := by decide +kernel
theorem dX13_acts_199 : decode cX13_acts 199 = .ok (.goto (-39), 3) := by decide +kernel
theorem dX13_acts_202 : decode cX13_acts 202 = .ok (.iinc 1 1, 3) := by decide +kernel
theorem dX13_acts_205 : decode cX13_acts 205 = .ok (.goto (-203), 3) := by decide +kernel
theorem dX13_acts_208 : decode cX13_acts 208 = .ok (.iconst 0, 1) := by decide +kernel
theorem dX13_acts_209 : decode cX13_acts 209 = .ok (.ireturn, 1) := by decide +kernel
theorem dX13_nextDue_0 : decode cX13_nextDue 0 = .ok (.ldc2_w 271, 3) := by decide +kernel
theorem dX13_nextDue_3 : decode cX13_nextDue 3 = .ok (.lstore_n 1, 1) := by decide +kernel
theorem dX13_nextDue_4 : decode cX13_nextDue 4 = .ok (.iconst 0, 1) := by decide +kernel
theorem dX13_nextDue_5 : decode cX13_nextDue 5 = .ok (.istore_n 3, 1) := by decide +kernel
theorem dX13_nextDue_6 : decode cX13_nextDue 6 = .ok (.iload_n 3, 1) := by decide +kernel
theorem dX13_nextDue_7 : decode cX13_nextDue 7 = .ok (.bipush 8, 2) := by decide +kernel
theorem dX13_nextDue_9 : decode cX13_nextDue 9 = .ok (.if_icmp .ge 220, 3) := by decide +kernel
theorem dX13_nextDue_12 : decode cX13_nextDue 12 = .ok (.aload_n 0, 1) := by decide +kernel
theorem dX13_nextDue_13 : decode cX13_nextDue 13 = .ok (.getfield 13, 3) := by decide +kernel
theorem dX13_nextDue_16 : decode cX13_nextDue 16 = .ok (.iload_n 3, 1) := by decide +kernel
theorem dX13_nextDue_17 : decode cX13_nextDue 17 = .ok (.baload, 1) := by decide +kernel
theorem dX13_nextDue_18 : decode cX13_nextDue 18 = .ok (.ifCond .ne 6, 3) := by decide +kernel
theorem dX13_nextDue_21 : decode cX13_nextDue 21 = .ok (.goto 202, 3) := by decide +kernel
theorem dX13_nextDue_24 : decode cX13_nextDue 24 = .ok (.aload_n 0, 1) := by decide +kernel
theorem dX13_nextDue_25 : decode cX13_nextDue 25 = .ok (.getfield 44, 3) := by decide +kernel
theorem dX13_nextDue_28 : decode cX13_nextDue 28 = .ok (.iload_n 3, 1) := by decide +kernel
theorem dX13_nextDue_29 : decode cX13_nextDue 29 = .ok (.laload, 1) := by decide +kernel
theorem dX13_nextDue_30 : decode cX13_nextDue 30 = .ok (.lload_n 1, 1) := by decide +kernel
theorem dX13_nextDue_31 : decode cX13_nextDue 31 = .ok (.lcmp, 1) := by decide +kernel
theorem dX13_nextDue_32 : decode cX13_nextDue 32 = .ok (.ifCond .ge 12, 3) := by decide +kernel
theorem dX13_nextDue_35 : decode cX13_nextDue 35 = .ok (.aload_n 0, 1) := by decide +kernel
theorem dX13_nextDue_36 : decode cX13_nextDue 36 = .ok (.getfield 44, 3) := by decide +kernel
theorem dX13_nextDue_39 : decode cX13_nextDue 39 = .ok (.iload_n 3, 1) := by decide +kernel
theorem dX13_nextDue_40 : decode cX13_nextDue 40 = .ok (.laload, 1) := by decide +kernel
theorem dX13_nextDue_41 : decode cX13_nextDue 41 = .ok (.goto 4, 3) := by decide +kernel
theorem dX13_nextDue_44 : decode cX13_nextDue 44 = .ok (.lload_n 1, 1) := by decide +kernel
theorem dX13_nextDue_45 : decode cX13_nextDue 45 = .ok (.lstore_n 1, 1) := by decide +kernel
theorem dX13_nextDue_46 : decode cX13_nextDue 46 = .ok (.aload_n 0, 1) := by decide +kernel
theorem dX13_nextDue_47 : decode cX13_nextDue 47 = .ok (.getfield 57, 3) := by decide +kernel
theorem dX13_nextDue_50 : decode cX13_nextDue 50 = .ok (.iload_n 3, 1) := by decide +kernel
theorem dX13_nextDue_51 : decode cX13_nextDue 51 = .ok (.laload, 1) := by decide +kernel
theorem dX13_nextDue_52 : decode cX13_nextDue 52 = .ok (.lload_n 1, 1) := by decide +kernel
theorem dX13_nextDue_53 : decode cX13_nextDue 53 = .ok (.lcmp, 1) := by decide +kernel
theorem dX13_nextDue_54 : decode cX13_nextDue 54 = .ok (.ifCond .ge 12, 3) := by decide +kernel
theorem dX13_nextDue_57 : decode cX13_nextDue 57 = .ok (.aload_n 0, 1) := by decide +kernel
theorem dX13_nextDue_58 : decode cX13_nextDue 58 = .ok (.getfield 57, 3) := by decide +kernel
theorem dX13_nextDue_61 : decode cX13_nextDue 61 = .ok (.iload_n 3, 1) := by decide +kernel
theorem dX13_nextDue_62 : decode cX13_nextDue 62 = .ok (.laload, 1) := by decide +kernel
theorem dX13_nextDue_63 : decode cX13_nextDue 63 = .ok (.goto 4, 3) := by decide +kernel
theorem dX13_nextDue_66 : decode cX13_nextDue 66 = .ok (.lload_n 1, 1) := by decide +kernel
theorem dX13_nextDue_67 : decode cX13_nextDue 67 = .ok (.lstore_n 1, 1) := by decide +kernel
theorem dX13_nextDue_68 : decode cX13_nextDue 68 = .ok (.iconst 4, 1) := by decide +kernel
theorem dX13_nextDue_69 : decode cX13_nextDue 69 = .ok (.iload_n 3, 1) := by decide +kernel
theorem dX13_nextDue_70 : decode cX13_nextDue 70 = .ok (.imul, 1) := by decide +kernel
theorem dX13_nextDue_71 : decode cX13_nextDue 71 = .ok (.istore 4, 2) := by decide +kernel
theorem dX13_nextDue_73 : decode cX13_nextDue 73 = .ok (.iload 4, 2) := by decide +kernel
theorem dX13_nextDue_75 : decode cX13_nextDue 75 = .ok (.iconst 4, 1) := by decide +kernel
theorem dX13_nextDue_76 : decode cX13_nextDue 76 = .ok (.iload_n 3, 1) := by decide +kernel
theorem dX13_nextDue_77 : decode cX13_nextDue 77 = .ok (.imul, 1) := by decide +kernel
theorem dX13_nextDue_78 : decode cX13_nextDue 78 = .ok (.iconst 4, 1) := by decide +kernel
theorem dX13_nextDue_79 : decode cX13_nextDue 79 = .ok (.iadd, 1) := by decide +kernel
theorem dX13_nextDue_80 : decode cX13_nextDue 80 = .ok (.if_icmp .ge 43, 3) := by decide +kernel
theorem dX13_nextDue_83 : decode cX13_nextDue 83 = .ok (.aload_n 0, 1) := by decide +kernel
theorem dX13_nextDue_84 : decode cX13_nextDue 84 = .ok (.getfield 81, 3) := by decide +kernel
theorem dX13_nextDue_87 : decode cX13_nextDue 87 = .ok (.iload 4, 2) := by decide +kernel
theorem dX13_nextDue_89 : decode cX13_nextDue 89 = .ok (.iaload, 1) := by decide +kernel
theorem dX13_nextDue_90 : decode cX13_nextDue 90 = .ok (.ifCond .le 25, 3) := by decide +kernel
theorem dX13_nextDue_93 : decode cX13_nextDue 93 = .ok (.aload_n 0, 1) := by decide +kernel
theorem dX13_nextDue_94 : decode cX13_nextDue 94 = .ok (.getfield 84, 3) := by decide +kernel
theorem dX13_nextDue_97 : decode cX13_nextDue 97 = .ok (.iload 4, 2) := by decide +kernel
theorem dX13_nextDue_99 : decode cX13_nextDue 99 = .ok (.laload, 1) := by decide +kernel
theorem dX13_nextDue_100 : decode cX13_nextDue 100 = .ok (.lload_n 1, 1) := by decide +kernel
theorem dX13_nextDue_101 : decode cX13_nextDue 101 = .ok (.lcmp, 1) := by decide +kernel
theorem dX13_nextDue_102 : decode cX13_nextDue 102 = .ok (.ifCond .ge 13, 3) := by decide +kernel
theorem dX13_nextDue_105 : decode cX13_nextDue 105 = .ok (.aload_n 0, 1) := by decide +kernel
theorem dX13_nextDue_106 : decode cX13_nextDue 106 = .ok (.getfield 84, 3) := by decide +kernel
theorem dX13_nextDue_109 : decode cX13_nextDue 109 = .ok (.iload 4, 2) := by decide +kernel
theorem dX13_nextDue_111 : decode cX13_nextDue 111 = .ok (.laload, 1) := by decide +kernel
theorem dX13_nextDue_112 : decode cX13_nextDue 112 = .ok (.goto 4, 3) := by decide +kernel
theorem dX13_nextDue_115 : decode cX13_nextDue 115 = .ok (.lload_n 1, 1) := by decide +kernel
theorem dX13_nextDue_116 : decode cX13_nextDue 116 = .ok (.lstore_n 1, 1) := by decide +kernel
theorem dX13_nextDue_117 : decode cX13_nextDue 117 = .ok (.iinc 4 1, 3) := by decide +kernel
theorem dX13_nextDue_120 : decode cX13_nextDue 120 = .ok (.goto (-47), 3) := by decide +kernel
theorem dX13_nextDue_123 : decode cX13_nextDue 123 = .ok (.iconst 4, 1) := by decide +kernel
theorem dX13_nextDue_124 : decode cX13_nextDue 124 = .ok (.iload_n 3, 1) := by decide +kernel
theorem dX13_nextDue_125 : decode cX13_nextDue 125 = .ok (.imul, 1) := by decide +kernel
theorem dX13_nextDue_126 : decode cX13_nextDue 126 = .ok (.istore 4, 2) := by decide +kernel
theorem dX13_nextDue_128 : decode cX13_nextDue 128 = .ok (.iload 4, 2) := by decide +kernel
theorem dX13_nextDue_130 : decode cX13_nextDue 130 = .ok (.iconst 4, 1) := by decide +kernel
theorem dX13_nextDue_131 : decode cX13_nextDue 131 = .ok (.iload_n 3, 1) := by decide +kernel
theorem dX13_nextDue_132 : decode cX13_nextDue 132 = .ok (.imul, 1) := by decide +kernel
theorem dX13_nextDue_133 : decode cX13_nextDue 133 = .ok (.aload_n 0, 1) := by decide +kernel
theorem dX13_nextDue_134 : decode cX13_nextDue 134 = .ok (.getfield 96, 3) := by decide +kernel
theorem dX13_nextDue_137 : decode cX13_nextDue 137 = .ok (.iload_n 3, 1) := by decide +kernel
theorem dX13_nextDue_138 : decode cX13_nextDue 138 = .ok (.iaload, 1) := by decide +kernel
theorem dX13_nextDue_139 : decode cX13_nextDue 139 = .ok (.iadd, 1) := by decide +kernel
theorem dX13_nextDue_140 : decode cX13_nextDue 140 = .ok (.if_icmp .ge 33, 3) := by decide +kernel
theorem dX13_nextDue_143 : decode cX13_nextDue 143 = .ok (.aload_n 0, 1) := by decide +kernel
theorem dX13_nextDue_144 : decode cX13_nextDue 144 = .ok (.getfield 93, 3) := by decide +kernel
theorem dX13_nextDue_147 : decode cX13_nextDue 147 = .ok (.iload 4, 2) := by decide +kernel
theorem dX13_nextDue_149 : decode cX13_nextDue 149 = .ok (.laload, 1) := by decide +kernel
theorem dX13_nextDue_150 : decode cX13_nextDue 150 = .ok (.lload_n 1, 1) := by decide +kernel
theorem dX13_nextDue_151 : decode cX13_nextDue 151 = .ok (.lcmp, 1) := by decide +kernel
theorem dX13_nextDue_152 : decode cX13_nextDue 152 = .ok (.ifCond .ge 13, 3) := by decide +kernel
theorem dX13_nextDue_155 : decode cX13_nextDue 155 = .ok (.aload_n 0, 1) := by decide +kernel
theorem dX13_nextDue_156 : decode cX13_nextDue 156 = .ok (.getfield 93, 3) := by decide +kernel
theorem dX13_nextDue_159 : decode cX13_nextDue 159 = .ok (.iload 4, 2) := by decide +kernel
theorem dX13_nextDue_161 : decode cX13_nextDue 161 = .ok (.laload, 1) := by decide +kernel
theorem dX13_nextDue_162 : decode cX13_nextDue 162 = .ok (.goto 4, 3) := by decide +kernel
theorem dX13_nextDue_165 : decode cX13_nextDue 165 = .ok (.lload_n 1, 1) := by decide +kernel
theorem dX13_nextDue_166 : decode cX13_nextDue 166 = .ok (.lstore_n 1, 1) := by decide +kernel
theorem dX13_nextDue_167 : decode cX13_nextDue 167 = .ok (.iinc 4 1, 3) := by decide +kernel
theorem dX13_nextDue_170 : decode cX13_nextDue 170 = .ok (.goto (-42), 3) := by decide +kernel
theorem dX13_nextDue_173 : decode cX13_nextDue 173 = .ok (.bipush 24, 2) := by decide +kernel
theorem dX13_nextDue_175 : decode cX13_nextDue 175 = .ok (.iload_n 3, 1) := by decide +kernel
theorem dX13_nextDue_176 : decode cX13_nextDue 176 = .ok (.imul, 1) := by decide +kernel
theorem dX13_nextDue_177 : decode cX13_nextDue 177 = .ok (.istore 4, 2) := by decide +kernel
theorem dX13_nextDue_179 : decode cX13_nextDue 179 = .ok (.iload 4, 2) := by decide +kernel
theorem dX13_nextDue_181 : decode cX13_nextDue 181 = .ok (.bipush 24, 2) := by decide +kernel
theorem dX13_nextDue_183 : decode cX13_nextDue 183 = .ok (.iload_n 3, 1) := by decide +kernel
theorem dX13_nextDue_184 : decode cX13_nextDue 184 = .ok (.imul, 1) := by decide +kernel
theorem dX13_nextDue_185 : decode cX13_nextDue 185 = .ok (.aload_n 0, 1) := by decide +kernel
theorem dX13_nextDue_186 : decode cX13_nextDue 186 = .ok (.getfield 99, 3) := by decide +kernel
theorem dX13_nextDue_189 : decode cX13_nextDue 189 = .ok (.iload_n 3, 1) := by decide +kernel
theorem dX13_nextDue_190 : decode cX13_nextDue 190 = .ok (.iaload, 1) := by decide +kernel
theorem dX13_nextDue_191 : decode cX13_nextDue 191 = .ok (.iadd, 1) := by decide +kernel
theorem dX13_nextDue_192 : decode cX13_nextDue 192 = .ok (.if_icmp .ge 31, 3) := by decide +kernel
theorem dX13_nextDue_195 : decode cX13_nextDue 195 = .ok (.aload_n 0, 1) := by decide +kernel
theorem dX13_nextDue_196 : decode cX13_nextDue 196 = .ok (.iload 4, 2) := by decide +kernel
theorem dX13_nextDue_198 : decode cX13_nextDue 198 = .ok (.invokevirtual 311, 3) := by decide +kernel
theorem dX13_nextDue_201 : decode cX13_nextDue 201 = .ok (.lload_n 1, 1) := by decide +kernel
theorem dX13_nextDue_202 : decode cX13_nextDue 202 = .ok (.lcmp, 1) := by decide +kernel
theorem dX13_nextDue_203 : decode cX13_nextDue 203 = .ok (.ifCond .ge 12, 3) := by decide +kernel
theorem dX13_nextDue_206 : decode cX13_nextDue 206 = .ok (.aload_n 0, 1) := by decide +kernel
theorem dX13_nextDue_207 : decode cX13_nextDue 207 = .ok (.iload 4, 2) := by decide +kernel
theorem dX13_nextDue_209 : decode cX13_nextDue 209 = .ok (.invokevirtual 311, 3) := by decide +kernel
theorem dX13_nextDue_212 : decode cX13_nextDue 212 = .ok (.goto 4, 3) := by decide +kernel
theorem dX13_nextDue_215 : decode cX13_nextDue 215 = .ok (.lload_n 1, 1) := by decide +kernel
theorem dX13_nextDue_216 : decode cX13_nextDue 216 = .ok (.lstore_n 1, 1) := by decide +kernel
theorem dX13_nextDue_217 : decode cX13_nextDue 217 = .ok (.iinc 4 1, 3) := by decide +kernel
theorem dX13_nextDue_220 : decode cX13_nextDue 220 = .ok (.goto (-41), 3) := by decide +kernel
theorem dX13_nextDue_223 : decode cX13_nextDue 223 = .ok (.iinc 3 1, 3) := by decide +kernel
theorem dX13_nextDue_226 : decode cX13_nextDue 226 = .ok (.goto (-220), 3) := by decide +kernel
theorem dX13_nextDue_229 : decode cX13_nextDue 229 = .ok (.lload_n 1, 1) := by decide +kernel
theorem dX13_nextDue_230 : decode cX13_nextDue 230 = .ok (.lreturn, 1) := by decide +kernel
theorem dX13_millisecond_0 : decode cX13_millisecond 0 = .ok (.iconst 1, 1) := by decide +kernel
theorem dX13_millisecond_1 : decode cX13_millisecond 1 = .ok (.istore_n 1, 1) := by decide +kernel
theorem dX13_millisecond_2 : decode cX13_millisecond 2 = .ok (.iload_n 1, 1) := by decide +kernel
theorem dX13_millisecond_3 : decode cX13_millisecond 3 = .ok (.ifCond .eq 208, 3) := by decide +kernel
theorem dX13_millisecond_6 : decode cX13_millisecond 6 = .ok (.aload_n 0, 1) := by decide +kernel
theorem dX13_millisecond_7 : decode cX13_millisecond 7 = .ok (.getfield 220, 3) := by decide +kernel
theorem dX13_millisecond_10 : decode cX13_millisecond 10 = .ok (.ifCond .le 193, 3) := by decide +kernel
theorem dX13_millisecond_13 : decode cX13_millisecond 13 = .ok (.aload_n 0, 1) := by decide +kernel
theorem dX13_millisecond_14 : decode cX13_millisecond 14 = .ok (.getfield 217, 3) := by decide +kernel
theorem dX13_millisecond_17 : decode cX13_millisecond 17 = .ok (.istore_n 2, 1) := by decide +kernel
theorem dX13_millisecond_18 : decode cX13_millisecond 18 = .ok (.aload_n 0, 1) := by decide +kernel
theorem dX13_millisecond_19 : decode cX13_millisecond 19 = .ok (.aload_n 0, 1) := by decide +kernel
theorem dX13_millisecond_20 : decode cX13_millisecond 20 = .ok (.getfield 217, 3) := by decide +kernel
theorem dX13_millisecond_23 : decode cX13_millisecond 23 = .ok (.iconst 1, 1) := by decide +kernel
theorem dX13_millisecond_24 : decode cX13_millisecond 24 = .ok (.iadd, 1) := by decide +kernel
theorem dX13_millisecond_25 : decode cX13_millisecond 25 = .ok (.sipush 800, 3) := by decide +kernel
theorem dX13_millisecond_28 : decode cX13_millisecond 28 = .ok (.irem, 1) := by decide +kernel
theorem dX13_millisecond_29 : decode cX13_millisecond 29 = .ok (.putfield 217, 3) := by decide +kernel
theorem dX13_millisecond_32 : decode cX13_millisecond 32 = .ok (.aload_n 0, 1) := by decide +kernel
theorem dX13_millisecond_33 : decode cX13_millisecond 33 = .ok (.dup, 1) := by decide +kernel
theorem dX13_millisecond_34 : decode cX13_millisecond 34 = .ok (.getfield 220, 3) := by decide +kernel
theorem dX13_millisecond_37 : decode cX13_millisecond 37 = .ok (.iconst 1, 1) := by decide +kernel
theorem dX13_millisecond_38 : decode cX13_millisecond 38 = .ok (.isub, 1) := by decide +kernel
theorem dX13_millisecond_39 : decode cX13_millisecond 39 = .ok (.putfield 220, 3) := by decide +kernel
theorem dX13_millisecond_42 : decode cX13_millisecond 42 = .ok (.aload_n 0, 1) := by decide +kernel
theorem dX13_millisecond_43 : decode cX13_millisecond 43 = .ok (.aload_n 0, 1) := by decide +kernel
theorem dX13_millisecond_44 : decode cX13_millisecond 44 = .ok (.getfield 133, 3) := by decide +kernel
theorem dX13_millisecond_47 : decode cX13_millisecond 47 = .ok (.iload_n 2, 1) := by decide +kernel
theorem dX13_millisecond_48 : decode cX13_millisecond 48 = .ok (.iaload, 1) := by decide +kernel
theorem dX13_millisecond_49 : decode cX13_millisecond 49 = .ok (.putfield 318, 3) := by decide +kernel
theorem dX13_millisecond_52 : decode cX13_millisecond 52 = .ok (.iconst 0, 1) := by decide +kernel
theorem dX13_millisecond_53 : decode cX13_millisecond 53 = .ok (.istore_n 3, 1) := by decide +kernel
theorem dX13_millisecond_54 : decode cX13_millisecond 54 = .ok (.iload_n 3, 1) := by decide +kernel
theorem dX13_millisecond_55 : decode cX13_millisecond 55 = .ok (.aload_n 0, 1) := by decide +kernel
theorem dX13_millisecond_56 : decode cX13_millisecond 56 = .ok (.getfield 318, 3) := by decide +kernel
theorem dX13_millisecond_59 : decode cX13_millisecond 59 = .ok (.if_icmp .ge 27, 3) := by decide +kernel
theorem dX13_millisecond_62 : decode cX13_millisecond 62 = .ok (.aload_n 0, 1) := by decide +kernel
theorem dX13_millisecond_63 : decode cX13_millisecond 63 = .ok (.getfield 160, 3) := by decide +kernel
theorem dX13_millisecond_66 : decode cX13_millisecond 66 = .ok (.iload_n 3, 1) := by decide +kernel
theorem dX13_millisecond_67 : decode cX13_millisecond 67 = .ok (.aload_n 0, 1) := by decide +kernel
theorem dX13_millisecond_68 : decode cX13_millisecond 68 = .ok (.getfield 130, 3) := by decide +kernel
theorem dX13_millisecond_71 : decode cX13_millisecond 71 = .ok (.sipush 200, 3) := by decide +kernel
theorem dX13_millisecond_74 : decode cX13_millisecond 74 = .ok (.iload_n 2, 1) := by decide +kernel
theorem dX13_millisecond_75 : decode cX13_millisecond 75 = .ok (.imul, 1) := by decide +kernel
theorem dX13_millisecond_76 : decode cX13_millisecond 76 = .ok (.iload_n 3, 1) := by decide +kernel
theorem dX13_millisecond_77 : decode cX13_millisecond 77 = .ok (.iadd, 1) := by decide +kernel
theorem dX13_millisecond_78 : decode cX13_millisecond 78 = .ok (.iaload, 1) := by decide +kernel
theorem dX13_millisecond_79 : decode cX13_millisecond 79 = .ok (.iastore, 1) := by decide +kernel
theorem dX13_millisecond_80 : decode cX13_millisecond 80 = .ok (.iinc 3 1, 3) := by decide +kernel
theorem dX13_millisecond_83 : decode cX13_millisecond 83 = .ok (.goto (-29), 3) := by decide +kernel
theorem dX13_millisecond_86 : decode cX13_millisecond 86 = .ok (.aload_n 0, 1) := by decide +kernel
theorem dX13_millisecond_87 : decode cX13_millisecond 87 = .ok (.getfield 136, 3) := by decide +kernel
theorem dX13_millisecond_90 : decode cX13_millisecond 90 = .ok (.iload_n 2, 1) := by decide +kernel
theorem dX13_millisecond_91 : decode cX13_millisecond 91 = .ok (.iaload, 1) := by decide +kernel
theorem dX13_millisecond_92 : decode cX13_millisecond 92 = .ok (.istore_n 3, 1) := by decide +kernel
theorem dX13_millisecond_93 : decode cX13_millisecond 93 = .ok (.aload_n 0, 1) := by decide +kernel
theorem dX13_millisecond_94 : decode cX13_millisecond 94 = .ok (.getfield 139, 3) := by decide +kernel
theorem dX13_millisecond_97 : decode cX13_millisecond 97 = .ok (.iload_n 2, 1) := by decide +kernel
theorem dX13_millisecond_98 : decode cX13_millisecond 98 = .ok (.iaload, 1) := by decide +kernel
theorem dX13_millisecond_99 : decode cX13_millisecond 99 = .ok (.istore 4, 2) := by decide +kernel
theorem dX13_millisecond_101 : decode cX13_millisecond 101 = .ok (.iconst 0, 1) := by decide +kernel
theorem dX13_millisecond_102 : decode cX13_millisecond 102 = .ok (.istore 5, 2) := by decide +kernel
theorem dX13_millisecond_104 : decode cX13_millisecond 104 = .ok (.iload 5, 2) := by decide +kernel
theorem dX13_millisecond_106 : decode cX13_millisecond 106 = .ok (.bipush 8, 2) := by decide +kernel
theorem dX13_millisecond_108 : decode cX13_millisecond 108 = .ok (.if_icmp .ge 92, 3) := by decide +kernel
theorem dX13_millisecond_111 : decode cX13_millisecond 111 = .ok (.iload 5, 2) := by decide +kernel
theorem dX13_millisecond_113 : decode cX13_millisecond 113 = .ok (.iload_n 3, 1) := by decide +kernel
theorem dX13_millisecond_114 : decode cX13_millisecond 114 = .ok (.if_icmp .eq 80, 3) := by decide +kernel
theorem dX13_millisecond_117 : decode cX13_millisecond 117 = .ok (.aload_n 0, 1) := by decide +kernel
theorem dX13_millisecond_118 : decode cX13_millisecond 118 = .ok (.getfield 13, 3) := by decide +kernel
theorem dX13_millisecond_121 : decode cX13_millisecond 121 = .ok (.iload 5, 2) := by decide +kernel
theorem dX13_millisecond_123 : decode cX13_millisecond 123 = .ok (.baload, 1) := by decide +kernel
theorem dX13_millisecond_124 : decode cX13_millisecond 124 = .ok (.ifCond .eq 70, 3) := by decide +kernel
theorem dX13_millisecond_127 : decode cX13_millisecond 127 = .ok (.aload_n 0, 1) := by decide +kernel
theorem dX13_millisecond_128 : decode cX13_millisecond 128 = .ok (.getfield 20, 3) := by decide +kernel
theorem dX13_millisecond_131 : decode cX13_millisecond 131 = .ok (.iload 5, 2) := by decide +kernel
theorem dX13_millisecond_133 : decode cX13_millisecond 133 = .ok (.iaload, 1) := by decide +kernel
theorem dX13_millisecond_134 : decode cX13_millisecond 134 = .ok (.iload 4, 2) := by decide +kernel
theorem dX13_millisecond_136 : decode cX13_millisecond 136 = .ok (.if_icmp .eq 6, 3) := by decide +kernel
theorem dX13_millisecond_139 : decode cX13_millisecond 139 = .ok (.goto 55, 3) := by decide +kernel
theorem dX13_millisecond_142 : decode cX13_millisecond 142 = .ok (.aload_n 0, 1) := by decide +kernel
theorem dX13_millisecond_143 : decode cX13_millisecond 143 = .ok (.getfield 29, 3) := by decide +kernel
theorem dX13_millisecond_146 : decode cX13_millisecond 146 = .ok (.iload 5, 2) := by decide +kernel
theorem dX13_millisecond_148 : decode cX13_millisecond 148 = .ok (.iaload, 1) := by decide +kernel
theorem dX13_millisecond_149 : decode cX13_millisecond 149 = .ok (.ifCond .le 27, 3) := by decide +kernel
theorem dX13_millisecond_152 : decode cX13_millisecond 152 = .ok (.aload_n 0, 1) := by decide +kernel
theorem dX13_millisecond_153 : decode cX13_millisecond 153 = .ok (.getfield 29, 3) := by decide +kernel
theorem dX13_millisecond_156 : decode cX13_millisecond 156 = .ok (.iload 5, 2) := by decide +kernel
theorem dX13_millisecond_158 : decode cX13_millisecond 158 = .ok (.dup2, 1) := by decide +kernel
theorem dX13_millisecond_159 : decode cX13_millisecond 159 = .ok (.iaload, 1) := by decide +kernel
theorem dX13_millisecond_160 : decode cX13_millisecond 160 = .ok (.iconst 1, 1) := by decide +kernel
theorem dX13_millisecond_161 : decode cX13_millisecond 161 = .ok (.isub, 1) := by decide +kernel
theorem dX13_millisecond_162 : decode cX13_millisecond 162 = .ok (.iastore, 1) := by decide +kernel
theorem dX13_millisecond_163 : decode cX13_millisecond 163 = .ok (.aload_n 0, 1) := by decide +kernel
theorem dX13_millisecond_164 : decode cX13_millisecond 164 = .ok (.getfield 142, 3) := by decide +kernel
theorem dX13_millisecond_167 : decode cX13_millisecond 167 = .ok (.iconst 4, 1) := by decide +kernel
theorem dX13_millisecond_168 : decode cX13_millisecond 168 = .ok (.dup2, 1) := by decide +kernel
theorem dX13_millisecond_169 : decode cX13_millisecond 169 = .ok (.iaload, 1) := by decide +kernel
theorem dX13_millisecond_170 : decode cX13_millisecond 170 = .ok (.iconst 1, 1) := by decide +kernel
theorem dX13_millisecond_171 : decode cX13_millisecond 171 = .ok (.iadd, 1) := by decide +kernel
theorem dX13_millisecond_172 : decode cX13_millisecond 172 = .ok (.iastore, 1) := by decide +kernel
theorem dX13_millisecond_173 : decode cX13_millisecond 173 = .ok (.goto 21, 3) := by decide +kernel
theorem dX13_millisecond_176 : decode cX13_millisecond 176 = .ok (.aload_n 0, 1) := by decide +kernel
theorem dX13_millisecond_177 : decode cX13_millisecond 177 = .ok (.getfield 142, 3) := by decide +kernel
theorem dX13_millisecond_180 : decode cX13_millisecond 180 = .ok (.iconst 3, 1) := by decide +kernel
theorem dX13_millisecond_181 : decode cX13_millisecond 181 = .ok (.dup2, 1) := by decide +kernel
theorem dX13_millisecond_182 : decode cX13_millisecond 182 = .ok (.iaload, 1) := by decide +kernel
theorem dX13_millisecond_183 : decode cX13_millisecond 183 = .ok (.iconst 1, 1) := by decide +kernel
theorem dX13_millisecond_184 : decode cX13_millisecond 184 = .ok (.iadd, 1) := by decide +kernel
theorem dX13_millisecond_185 : decode cX13_millisecond 185 = .ok (.iastore, 1) := by decide +kernel
theorem dX13_millisecond_186 : decode cX13_millisecond 186 = .ok (.aload_n 0, 1) := by decide +kernel
theorem dX13_millisecond_187 : decode cX13_millisecond 187 = .ok (.iload 5, 2) := by decide +kernel
theorem dX13_millisecond_189 : decode cX13_millisecond 189 = .ok (.invokevirtual 321, 3) := by decide +kernel
theorem dX13_millisecond_192 : decode cX13_millisecond 192 = .ok (.istore 6, 2) := by decide +kernel
theorem dX13_millisecond_194 : decode cX13_millisecond 194 = .ok (.iinc 5 1, 3) := by decide +kernel
theorem dX13_millisecond_197 : decode cX13_millisecond 197 = .ok (.goto (-93), 3) := by decide +kernel
theorem dX13_millisecond_200 : decode cX13_millisecond 200 = .ok (.goto (-194), 3) := by decide +kernel
theorem dX13_millisecond_203 : decode cX13_millisecond 203 = .ok (.aload_n 0, 1) := by decide +kernel
theorem dX13_millisecond_204 : decode cX13_millisecond 204 = .ok (.invokevirtual 324, 3) := by decide +kernel
theorem dX13_millisecond_207 : decode cX13_millisecond 207 = .ok (.istore_n 1, 1) := by decide +kernel
theorem dX13_millisecond_208 : decode cX13_millisecond 208 = .ok (.goto (-206), 3) := by decide +kernel
theorem dX13_millisecond_211 : decode cX13_millisecond 211 = .ok (.return_, 1) := by decide +kernel
theorem dX13_go_0 : decode cX13_go 0 = .ok (.aload_n 0, 1) := by decide +kernel
theorem dX13_go_1 : decode cX13_go 1 = .ok (.iconst 0, 1) := by decide +kernel
theorem dX13_go_2 : decode cX13_go 2 = .ok (.putfield 184, 3) := by decide +kernel
theorem dX13_go_5 : decode cX13_go 5 = .ok (.iload_n 1, 1) := by decide +kernel
theorem dX13_go_6 : decode cX13_go 6 = .ok (.ifCond .lt 10, 3) := by decide +kernel
theorem dX13_go_9 : decode cX13_go 9 = .ok (.iload_n 1, 1) := by decide +kernel
theorem dX13_go_10 : decode cX13_go 10 = .ok (.sipush 20000, 3) := by decide +kernel
theorem dX13_go_13 : decode cX13_go 13 = .ok (.if_icmp .le 5, 3) := by decide +kernel
theorem dX13_go_16 : decode cX13_go 16 = .ok (.iconst (-1), 1) := by decide +kernel
theorem dX13_go_17 : decode cX13_go 17 = .ok (.ireturn, 1) := by decide +kernel
theorem dX13_go_18 : decode cX13_go 18 = .ok (.aload_n 0, 1) := by decide +kernel
theorem dX13_go_19 : decode cX13_go 19 = .ok (.invokevirtual 328, 3) := by decide +kernel
theorem dX13_go_22 : decode cX13_go 22 = .ok (.aload_n 0, 1) := by decide +kernel
theorem dX13_go_23 : decode cX13_go 23 = .ok (.getfield 226, 3) := by decide +kernel
theorem dX13_go_26 : decode cX13_go 26 = .ok (.iload_n 1, 1) := by decide +kernel
theorem dX13_go_27 : decode cX13_go 27 = .ok (.i2l, 1) := by decide +kernel
theorem dX13_go_28 : decode cX13_go 28 = .ok (.ladd, 1) := by decide +kernel
theorem dX13_go_29 : decode cX13_go 29 = .ok (.lstore_n 2, 1) := by decide +kernel
theorem dX13_go_30 : decode cX13_go 30 = .ok (.aload_n 0, 1) := by decide +kernel
theorem dX13_go_31 : decode cX13_go 31 = .ok (.getfield 226, 3) := by decide +kernel
theorem dX13_go_34 : decode cX13_go 34 = .ok (.lload_n 2, 1) := by decide +kernel
theorem dX13_go_35 : decode cX13_go 35 = .ok (.lcmp, 1) := by decide +kernel
theorem dX13_go_36 : decode cX13_go 36 = .ok (.ifCond .ge 52, 3) := by decide +kernel
theorem dX13_go_39 : decode cX13_go 39 = .ok (.aload_n 0, 1) := by decide +kernel
theorem dX13_go_40 : decode cX13_go 40 = .ok (.invokevirtual 331, 3) := by decide +kernel
theorem dX13_go_43 : decode cX13_go 43 = .ok (.lstore 4, 2) := by decide +kernel
theorem dX13_go_45 : decode cX13_go 45 = .ok (.aload_n 0, 1) := by decide +kernel
theorem dX13_go_46 : decode cX13_go 46 = .ok (.lload 4, 2) := by decide +kernel
theorem dX13_go_48 : decode cX13_go 48 = .ok (.lload_n 2, 1) := by decide +kernel
theorem dX13_go_49 : decode cX13_go 49 = .ok (.lcmp, 1) := by decide +kernel
theorem dX13_go_50 : decode cX13_go 50 = .ok (.ifCond .le 7, 3) := by decide +kernel
theorem dX13_go_53 : decode cX13_go 53 = .ok (.lload_n 2, 1) := by decide +kernel
theorem dX13_go_54 : decode cX13_go 54 = .ok (.goto 24, 3) := by decide +kernel
theorem dX13_go_57 : decode cX13_go 57 = .ok (.lload 4, 2) := by decide +kernel
theorem dX13_go_59 : decode cX13_go 59 = .ok (.aload_n 0, 1) := by decide +kernel
theorem dX13_go_60 : decode cX13_go 60 = .ok (.getfield 226, 3) := by decide +kernel
theorem dX13_go_63 : decode cX13_go 63 = .ok (.lcmp, 1) := by decide +kernel
theorem dX13_go_64 : decode cX13_go 64 = .ok (.ifCond .le 8, 3) := by decide +kernel
theorem dX13_go_67 : decode cX13_go 67 = .ok (.lload 4, 2) := by decide +kernel
theorem dX13_go_69 : decode cX13_go 69 = .ok (.goto 9, 3) := by decide +kernel
theorem dX13_go_72 : decode cX13_go 72 = .ok (.aload_n 0, 1) := by decide +kernel
theorem dX13_go_73 : decode cX13_go 73 = .ok (.getfield 226, 3) := by decide +kernel
theorem dX13_go_76 : decode cX13_go 76 = .ok (.lconst 1, 1) := by decide +kernel
theorem dX13_go_77 : decode cX13_go 77 = .ok (.ladd, 1) := by decide +kernel
theorem dX13_go_78 : decode cX13_go 78 = .ok (.putfield 226, 3) := by decide +kernel
theorem dX13_go_81 : decode cX13_go 81 = .ok (.aload_n 0, 1) := by decide +kernel
theorem dX13_go_82 : decode cX13_go 82 = .ok (.invokevirtual 328, 3) := by decide +kernel
theorem dX13_go_85 : decode cX13_go 85 = .ok (.goto (-55), 3) := by decide +kernel
theorem dX13_go_88 : decode cX13_go 88 = .ok (.aload_n 0, 1) := by decide +kernel
theorem dX13_go_89 : decode cX13_go 89 = .ok (.getfield 226, 3) := by decide +kernel
theorem dX13_go_92 : decode cX13_go 92 = .ok (.l2i, 1) := by decide +kernel
theorem dX13_go_93 : decode cX13_go 93 = .ok (.ireturn, 1) := by decide +kernel
theorem dX13_take_0 : decode cX13_take 0 = .ok (.aload_n 0, 1) := by decide +kernel
theorem dX13_take_1 : decode cX13_take 1 = .ok (.getfield 335, 3) := by decide +kernel
theorem dX13_take_4 : decode cX13_take 4 = .ok (.iload_n 1, 1) := by decide +kernel
theorem dX13_take_5 : decode cX13_take 5 = .ok (.iadd, 1) := by decide +kernel
theorem dX13_take_6 : decode cX13_take 6 = .ok (.aload_n 0, 1) := by decide +kernel
theorem dX13_take_7 : decode cX13_take 7 = .ok (.getfield 318, 3) := by decide +kernel
theorem dX13_take_10 : decode cX13_take 10 = .ok (.if_icmp .le 10, 3) := by decide +kernel
theorem dX13_take_13 : decode cX13_take 13 = .ok (.aload_n 0, 1) := by decide +kernel
theorem dX13_take_14 : decode cX13_take 14 = .ok (.iconst 0, 1) := by decide +kernel
theorem dX13_take_15 : decode cX13_take 15 = .ok (.putfield 338, 3) := by decide +kernel
theorem dX13_take_18 : decode cX13_take 18 = .ok (.iconst 0, 1) := by decide +kernel
theorem dX13_take_19 : decode cX13_take 19 = .ok (.ireturn, 1) := by decide +kernel
theorem dX13_take_20 : decode cX13_take 20 = .ok (.iconst 0, 1) := by decide +kernel
theorem dX13_take_21 : decode cX13_take 21 = .ok (.istore_n 2, 1) := by decide +kernel
theorem dX13_take_22 : decode cX13_take 22 = .ok (.iconst 0, 1) := by decide +kernel
theorem dX13_take_23 : decode cX13_take 23 = .ok (.istore_n 3, 1) := by decide +kernel
theorem dX13_take_24 : decode cX13_take 24 = .ok (.iload_n 3, 1) := by decide +kernel
theorem dX13_take_25 : decode cX13_take 25 = .ok (.iload_n 1, 1) := by decide +kernel
theorem dX13_take_26 : decode cX13_take 26 = .ok (.if_icmp .ge 26, 3) := by decide +kernel
theorem dX13_take_29 : decode cX13_take 29 = .ok (.iload_n 2, 1) := by decide +kernel
theorem dX13_take_30 : decode cX13_take 30 = .ok (.bipush 8, 2) := by decide +kernel
theorem dX13_take_32 : decode cX13_take 32 = .ok (.ishl, 1) := by decide +kernel
theorem dX13_take_33 : decode cX13_take 33 = .ok (.aload_n 0, 1) := by decide +kernel
theorem dX13_take_34 : decode cX13_take 34 = .ok (.getfield 160, 3) := by decide +kernel
theorem dX13_take_37 : decode cX13_take 37 = .ok (.aload_n 0, 1) := by decide +kernel
theorem dX13_take_38 : decode cX13_take 38 = .ok (.getfield 335, 3) := by decide +kernel
theorem dX13_take_41 : decode cX13_take 41 = .ok (.iload_n 3, 1) := by decide +kernel
theorem dX13_take_42 : decode cX13_take 42 = .ok (.iadd, 1) := by decide +kernel
theorem dX13_take_43 : decode cX13_take 43 = .ok (.iaload, 1) := by decide +kernel
theorem dX13_take_44 : decode cX13_take 44 = .ok (.ior, 1) := by decide +kernel
theorem dX13_take_45 : decode cX13_take 45 = .ok (.istore_n 2, 1) := by decide +kernel
theorem dX13_take_46 : decode cX13_take 46 = .ok (.iinc 3 1, 3) := by decide +kernel
theorem dX13_take_49 : decode cX13_take 49 = .ok (.goto (-25), 3) := by decide +kernel
theorem dX13_take_52 : decode cX13_take 52 = .ok (.aload_n 0, 1) := by decide +kernel
theorem dX13_take_53 : decode cX13_take 53 = .ok (.dup, 1) := by decide +kernel
theorem dX13_take_54 : decode cX13_take 54 = .ok (.getfield 335, 3) := by decide +kernel
theorem dX13_take_57 : decode cX13_take 57 = .ok (.iload_n 1, 1) := by decide +kernel
theorem dX13_take_58 : decode cX13_take 58 = .ok (.iadd, 1) := by decide +kernel
theorem dX13_take_59 : decode cX13_take 59 = .ok (.putfield 335, 3) := by decide +kernel
theorem dX13_take_62 : decode cX13_take 62 = .ok (.iload_n 2, 1) := by decide +kernel
theorem dX13_take_63 : decode cX13_take 63 = .ok (.ireturn, 1) := by decide +kernel
theorem dX13_takeAddress_0 : decode cX13_takeAddress 0 = .ok (.aload_n 0, 1) := by decide +kernel
theorem dX13_takeAddress_1 : decode cX13_takeAddress 1 = .ok (.iconst 2, 1) := by decide +kernel
theorem dX13_takeAddress_2 : decode cX13_takeAddress 2 = .ok (.invokevirtual 342, 3) := by decide +kernel
theorem dX13_takeAddress_5 : decode cX13_takeAddress 5 = .ok (.istore_n 1, 1) := by decide +kernel
theorem dX13_takeAddress_6 : decode cX13_takeAddress 6 = .ok (.iload_n 1, 1) := by decide +kernel
theorem dX13_takeAddress_7 : decode cX13_takeAddress 7 = .ok (.ldc_w 345, 3) := by decide +kernel
theorem dX13_takeAddress_10 : decode cX13_takeAddress 10 = .ok (.if_icmp .lt 8, 3) := by decide +kernel
theorem dX13_takeAddress_13 : decode cX13_takeAddress 13 = .ok (.aload_n 0, 1) := by decide +kernel
theorem dX13_takeAddress_14 : decode cX13_takeAddress 14 = .ok (.iconst 0, 1) := by decide +kernel
theorem dX13_takeAddress_15 : decode cX13_takeAddress 15 = .ok (.putfield 338, 3) := by decide +kernel
theorem dX13_takeAddress_18 : decode cX13_takeAddress 18 = .ok (.iload_n 1, 1) := by decide +kernel
theorem dX13_takeAddress_19 : decode cX13_takeAddress 19 = .ok (.ireturn, 1) := by decide +kernel
theorem dX13_takeWord_0 : decode cX13_takeWord 0 = .ok (.aload_n 0, 1) := by decide +kernel
theorem dX13_takeWord_1 : decode cX13_takeWord 1 = .ok (.getfield 335, 3) := by decide +kernel
theorem dX13_takeWord_4 : decode cX13_takeWord 4 = .ok (.istore_n 3, 1) := by decide +kernel
theorem dX13_takeWord_5 : decode cX13_takeWord 5 = .ok (.aload_n 0, 1) := by decide +kernel
theorem dX13_takeWord_6 : decode cX13_takeWord 6 = .ok (.iconst 1, 1) := by decide +kernel
theorem dX13_takeWord_7 : decode cX13_takeWord 7 = .ok (.invokevirtual 342, 3) := by decide +kernel
theorem dX13_takeWord_10 : decode cX13_takeWord 10 = .ok (.istore 4, 2) := by decide +kernel
theorem dX13_takeWord_12 : decode cX13_takeWord 12 = .ok (.aload_n 1, 1) := by decide +kernel
theorem dX13_takeWord_13 : decode cX13_takeWord 13 = .ok (.iload_n 2, 1) := by decide +kernel
theorem dX13_takeWord_14 : decode cX13_takeWord 14 = .ok (.iconst 0, 1) := by decide +kernel
theorem dX13_takeWord_15 : decode cX13_takeWord 15 = .ok (.iastore, 1) := by decide +kernel
theorem dX13_takeWord_16 : decode cX13_takeWord 16 = .ok (.iload 4, 2) := by decide +kernel
theorem dX13_takeWord_18 : decode cX13_takeWord 18 = .ok (.bipush 127, 2) := by decide +kernel
theorem dX13_takeWord_20 : decode cX13_takeWord 20 = .ok (.if_icmp .le 71, 3) := by decide +kernel
theorem dX13_takeWord_23 : decode cX13_takeWord 23 = .ok (.iload 4, 2) := by decide +kernel
