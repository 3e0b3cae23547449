theorem dX13_takeWord_25 : decode cX13_takeWord 25 = .ok (.sipush 128, 3) := by decide +kernel
theorem dX13_takeWord_28 : decode cX13_takeWord 28 = .ok (.isub, 1) := by decide +kernel
theorem dX13_takeWord_29 : decode cX13_takeWord 29 = .ok (.istore 5, 2) := by decide +kernel
theorem dX13_takeWord_31 : decode cX13_takeWord 31 = .ok (.iload 5, 2) := by decide +kernel
theorem dX13_takeWord_33 : decode cX13_takeWord 33 = .ok (.iload_n 3, 1) := by decide +kernel
theorem dX13_takeWord_34 : decode cX13_takeWord 34 = .ok (.if_icmp .ge 13, 3) := by decide +kernel
theorem dX13_takeWord_37 : decode cX13_takeWord 37 = .ok (.aload_n 0, 1) := by decide +kernel
theorem dX13_takeWord_38 : decode cX13_takeWord 38 = .ok (.getfield 163, 3) := by decide +kernel
theorem dX13_takeWord_41 : decode cX13_takeWord 41 = .ok (.iload 5, 2) := by decide +kernel
theorem dX13_takeWord_43 : decode cX13_takeWord 43 = .ok (.baload, 1) := by decide +kernel
theorem dX13_takeWord_44 : decode cX13_takeWord 44 = .ok (.ifCond .ne 9, 3) := by decide +kernel
theorem dX13_takeWord_47 : decode cX13_takeWord 47 = .ok (.aload_n 0, 1) := by decide +kernel
theorem dX13_takeWord_48 : decode cX13_takeWord 48 = .ok (.iconst 0, 1) := by decide +kernel
theorem dX13_takeWord_49 : decode cX13_takeWord 49 = .ok (.putfield 338, 3) := by decide +kernel
theorem dX13_takeWord_52 : decode cX13_takeWord 52 = .ok (.return_, 1) := by decide +kernel
theorem dX13_takeWord_53 : decode cX13_takeWord 53 = .ok (.iconst 0, 1) := by decide +kernel
theorem dX13_takeWord_54 : decode cX13_takeWord 54 = .ok (.istore 6, 2) := by decide +kernel
theorem dX13_takeWord_56 : decode cX13_takeWord 56 = .ok (.iload 6, 2) := by decide +kernel
theorem dX13_takeWord_58 : decode cX13_takeWord 58 = .ok (.aload_n 0, 1) := by decide +kernel
theorem dX13_takeWord_59 : decode cX13_takeWord 59 = .ok (.getfield 160, 3) := by decide +kernel
theorem dX13_takeWord_62 : decode cX13_takeWord 62 = .ok (.iload 5, 2) := by decide +kernel
theorem dX13_takeWord_64 : decode cX13_takeWord 64 = .ok (.iaload, 1) := by decide +kernel
theorem dX13_takeWord_65 : decode cX13_takeWord 65 = .ok (.if_icmp .gt 25, 3) := by decide +kernel
theorem dX13_takeWord_68 : decode cX13_takeWord 68 = .ok (.aload_n 1, 1) := by decide +kernel
theorem dX13_takeWord_69 : decode cX13_takeWord 69 = .ok (.iload_n 2, 1) := by decide +kernel
theorem dX13_takeWord_70 : decode cX13_takeWord 70 = .ok (.iload 6, 2) := by decide +kernel
theorem dX13_takeWord_72 : decode cX13_takeWord 72 = .ok (.iadd, 1) := by decide +kernel
theorem dX13_takeWord_73 : decode cX13_takeWord 73 = .ok (.aload_n 0, 1) := by decide +kernel
theorem dX13_takeWord_74 : decode cX13_takeWord 74 = .ok (.getfield 160, 3) := by decide +kernel
theorem dX13_takeWord_77 : decode cX13_takeWord 77 = .ok (.iload 5, 2) := by decide +kernel
theorem dX13_takeWord_79 : decode cX13_takeWord 79 = .ok (.iload 6, 2) := by decide +kernel
theorem dX13_takeWord_81 : decode cX13_takeWord 81 = .ok (.iadd, 1) := by decide +kernel
theorem dX13_takeWord_82 : decode cX13_takeWord 82 = .ok (.iaload, 1) := by decide +kernel
theorem dX13_takeWord_83 : decode cX13_takeWord 83 = .ok (.iastore, 1) := by decide +kernel
theorem dX13_takeWord_84 : decode cX13_takeWord 84 = .ok (.iinc 6 1, 3) := by decide +kernel
theorem dX13_takeWord_87 : decode cX13_takeWord 87 = .ok (.goto (-31), 3) := by decide +kernel
theorem dX13_takeWord_90 : decode cX13_takeWord 90 = .ok (.return_, 1) := by decide +kernel
theorem dX13_takeWord_91 : decode cX13_takeWord 91 = .ok (.iload 4, 2) := by decide +kernel
theorem dX13_takeWord_93 : decode cX13_takeWord 93 = .ok (.iconst 1, 1) := by decide +kernel
theorem dX13_takeWord_94 : decode cX13_takeWord 94 = .ok (.if_icmp .lt 24, 3) := by decide +kernel
theorem dX13_takeWord_97 : decode cX13_takeWord 97 = .ok (.iload 4, 2) := by decide +kernel
theorem dX13_takeWord_99 : decode cX13_takeWord 99 = .ok (.bipush 15, 2) := by decide +kernel
theorem dX13_takeWord_101 : decode cX13_takeWord 101 = .ok (.if_icmp .gt 17, 3) := by decide +kernel
theorem dX13_takeWord_104 : decode cX13_takeWord 104 = .ok (.aload_n 0, 1) := by decide +kernel
theorem dX13_takeWord_105 : decode cX13_takeWord 105 = .ok (.getfield 335, 3) := by decide +kernel
theorem dX13_takeWord_108 : decode cX13_takeWord 108 = .ok (.iload 4, 2) := by decide +kernel
theorem dX13_takeWord_110 : decode cX13_takeWord 110 = .ok (.iadd, 1) := by decide +kernel
theorem dX13_takeWord_111 : decode cX13_takeWord 111 = .ok (.aload_n 0, 1) := by decide +kernel
theorem dX13_takeWord_112 : decode cX13_takeWord 112 = .ok (.getfield 318, 3) := by decide +kernel
theorem dX13_takeWord_115 : decode cX13_takeWord 115 = .ok (.if_icmp .le 9, 3) := by decide +kernel
theorem dX13_takeWord_118 : decode cX13_takeWord 118 = .ok (.aload_n 0, 1) := by decide +kernel
theorem dX13_takeWord_119 : decode cX13_takeWord 119 = .ok (.iconst 0, 1) := by decide +kernel
theorem dX13_takeWord_120 : decode cX13_takeWord 120 = .ok (.putfield 338, 3) := by decide +kernel
theorem dX13_takeWord_123 : decode cX13_takeWord 123 = .ok (.return_, 1) := by decide +kernel
theorem dX13_takeWord_124 : decode cX13_takeWord 124 = .ok (.aload_n 1, 1) := by decide +kernel
theorem dX13_takeWord_125 : decode cX13_takeWord 125 = .ok (.iload_n 2, 1) := by decide +kernel
theorem dX13_takeWord_126 : decode cX13_takeWord 126 = .ok (.iload 4, 2) := by decide +kernel
theorem dX13_takeWord_128 : decode cX13_takeWord 128 = .ok (.iastore, 1) := by decide +kernel
theorem dX13_takeWord_129 : decode cX13_takeWord 129 = .ok (.iconst 1, 1) := by decide +kernel
theorem dX13_takeWord_130 : decode cX13_takeWord 130 = .ok (.istore 5, 2) := by decide +kernel
theorem dX13_takeWord_132 : decode cX13_takeWord 132 = .ok (.iload 5, 2) := by decide +kernel
theorem dX13_takeWord_134 : decode cX13_takeWord 134 = .ok (.iload 4, 2) := by decide +kernel
theorem dX13_takeWord_136 : decode cX13_takeWord 136 = .ok (.if_icmp .gt 37, 3) := by decide +kernel
theorem dX13_takeWord_139 : decode cX13_takeWord 139 = .ok (.aload_n 1, 1) := by decide +kernel
theorem dX13_takeWord_140 : decode cX13_takeWord 140 = .ok (.iload_n 2, 1) := by decide +kernel
theorem dX13_takeWord_141 : decode cX13_takeWord 141 = .ok (.iload 5, 2) := by decide +kernel
theorem dX13_takeWord_143 : decode cX13_takeWord 143 = .ok (.iadd, 1) := by decide +kernel
theorem dX13_takeWord_144 : decode cX13_takeWord 144 = .ok (.aload_n 0, 1) := by decide +kernel
theorem dX13_takeWord_145 : decode cX13_takeWord 145 = .ok (.iconst 1, 1) := by decide +kernel
theorem dX13_takeWord_146 : decode cX13_takeWord 146 = .ok (.invokevirtual 342, 3) := by decide +kernel
theorem dX13_takeWord_149 : decode cX13_takeWord 149 = .ok (.iastore, 1) := by decide +kernel
theorem dX13_takeWord_150 : decode cX13_takeWord 150 = .ok (.aload_n 1, 1) := by decide +kernel
theorem dX13_takeWord_151 : decode cX13_takeWord 151 = .ok (.iload_n 2, 1) := by decide +kernel
theorem dX13_takeWord_152 : decode cX13_takeWord 152 = .ok (.iload 5, 2) := by decide +kernel
theorem dX13_takeWord_154 : decode cX13_takeWord 154 = .ok (.iadd, 1) := by decide +kernel
theorem dX13_takeWord_155 : decode cX13_takeWord 155 = .ok (.iaload, 1) := by decide +kernel
theorem dX13_takeWord_156 : decode cX13_takeWord 156 = .ok (.invokestatic 195, 3) := by decide +kernel
theorem dX13_takeWord_159 : decode cX13_takeWord 159 = .ok (.ifCond .ne 8, 3) := by decide +kernel
theorem dX13_takeWord_162 : decode cX13_takeWord 162 = .ok (.aload_n 0, 1) := by decide +kernel
theorem dX13_takeWord_163 : decode cX13_takeWord 163 = .ok (.iconst 0, 1) := by decide +kernel
theorem dX13_takeWord_164 : decode cX13_takeWord 164 = .ok (.putfield 338, 3) := by decide +kernel
theorem dX13_takeWord_167 : decode cX13_takeWord 167 = .ok (.iinc 5 1, 3) := by decide +kernel
theorem dX13_takeWord_170 : decode cX13_takeWord 170 = .ok (.goto (-38), 3) := by decide +kernel
theorem dX13_takeWord_173 : decode cX13_takeWord 173 = .ok (.aload_n 0, 1) := by decide +kernel
theorem dX13_takeWord_174 : decode cX13_takeWord 174 = .ok (.getfield 163, 3) := by decide +kernel
theorem dX13_takeWord_177 : decode cX13_takeWord 177 = .ok (.iload_n 3, 1) := by decide +kernel
theorem dX13_takeWord_178 : decode cX13_takeWord 178 = .ok (.aload_n 0, 1) := by decide +kernel
theorem dX13_takeWord_179 : decode cX13_takeWord 179 = .ok (.getfield 338, 3) := by decide +kernel
theorem dX13_takeWord_182 : decode cX13_takeWord 182 = .ok (.bastore, 1) := by decide +kernel
theorem dX13_takeWord_183 : decode cX13_takeWord 183 = .ok (.return_, 1) := by decide +kernel
theorem dX13_takeTold_0 : decode cX13_takeTold 0 = .ok (.iload_n 2, 1) := by decide +kernel
theorem dX13_takeTold_1 : decode cX13_takeTold 1 = .ok (.iconst 1, 1) := by decide +kernel
theorem dX13_takeTold_2 : decode cX13_takeTold 2 = .ok (.if_icmp .ne 16, 3) := by decide +kernel
theorem dX13_takeTold_5 : decode cX13_takeTold 5 = .ok (.aload_n 0, 1) := by decide +kernel
theorem dX13_takeTold_6 : decode cX13_takeTold 6 = .ok (.getfield 181, 3) := by decide +kernel
theorem dX13_takeTold_9 : decode cX13_takeTold 9 = .ok (.iload_n 1, 1) := by decide +kernel
theorem dX13_takeTold_10 : decode cX13_takeTold 10 = .ok (.aload_n 0, 1) := by decide +kernel
theorem dX13_takeTold_11 : decode cX13_takeTold 11 = .ok (.invokevirtual 346, 3) := by decide +kernel
theorem dX13_takeTold_14 : decode cX13_takeTold 14 = .ok (.iastore, 1) := by decide +kernel
theorem dX13_takeTold_15 : decode cX13_takeTold 15 = .ok (.goto 26, 3) := by decide +kernel
theorem dX13_takeTold_18 : decode cX13_takeTold 18 = .ok (.aload_n 0, 1) := by decide +kernel
theorem dX13_takeTold_19 : decode cX13_takeTold 19 = .ok (.aload_n 0, 1) := by decide +kernel
theorem dX13_takeTold_20 : decode cX13_takeTold 20 = .ok (.getfield 169, 3) := by decide +kernel
theorem dX13_takeTold_23 : decode cX13_takeTold 23 = .ok (.bipush 16, 2) := by decide +kernel
theorem dX13_takeTold_25 : decode cX13_takeTold 25 = .ok (.iload_n 1, 1) := by decide +kernel
theorem dX13_takeTold_26 : decode cX13_takeTold 26 = .ok (.imul, 1) := by decide +kernel
theorem dX13_takeTold_27 : decode cX13_takeTold 27 = .ok (.invokevirtual 350, 3) := by decide +kernel
theorem dX13_takeTold_30 : decode cX13_takeTold 30 = .ok (.aload_n 0, 1) := by decide +kernel
theorem dX13_takeTold_31 : decode cX13_takeTold 31 = .ok (.getfield 181, 3) := by decide +kernel
theorem dX13_takeTold_34 : decode cX13_takeTold 34 = .ok (.iload_n 1, 1) := by decide +kernel
theorem dX13_takeTold_35 : decode cX13_takeTold 35 = .ok (.aload_n 0, 1) := by decide +kernel
theorem dX13_takeTold_36 : decode cX13_takeTold 36 = .ok (.iconst 2, 1) := by decide +kernel
theorem dX13_takeTold_37 : decode cX13_takeTold 37 = .ok (.invokevirtual 342, 3) := by decide +kernel
theorem dX13_takeTold_40 : decode cX13_takeTold 40 = .ok (.iastore, 1) := by decide +kernel
theorem dX13_takeTold_41 : decode cX13_takeTold 41 = .ok (.return_, 1) := by decide +kernel
theorem dX13_takes_0 : decode cX13_takes 0 = .ok (.aload_n 0, 1) := by decide +kernel
theorem dX13_takes_1 : decode cX13_takes 1 = .ok (.iconst 0, 1) := by decide +kernel
theorem dX13_takes_2 : decode cX13_takes 2 = .ok (.putfield 335, 3) := by decide +kernel
theorem dX13_takes_5 : decode cX13_takes 5 = .ok (.aload_n 0, 1) := by decide +kernel
theorem dX13_takes_6 : decode cX13_takes 6 = .ok (.iconst 1, 1) := by decide +kernel
theorem dX13_takes_7 : decode cX13_takes 7 = .ok (.putfield 338, 3) := by decide +kernel
theorem dX13_takes_10 : decode cX13_takes 10 = .ok (.iconst 0, 1) := by decide +kernel
theorem dX13_takes_11 : decode cX13_takes 11 = .ok (.istore_n 2, 1) := by decide +kernel
theorem dX13_takes_12 : decode cX13_takes 12 = .ok (.iload_n 2, 1) := by decide +kernel
theorem dX13_takes_13 : decode cX13_takes 13 = .ok (.sipush 200, 3) := by decide +kernel
theorem dX13_takes_16 : decode cX13_takes 16 = .ok (.if_icmp .ge 16, 3) := by decide +kernel
theorem dX13_takes_19 : decode cX13_takes 19 = .ok (.aload_n 0, 1) := by decide +kernel
theorem dX13_takes_20 : decode cX13_takes 20 = .ok (.getfield 163, 3) := by decide +kernel
theorem dX13_takes_23 : decode cX13_takes 23 = .ok (.iload_n 2, 1) := by decide +kernel
theorem dX13_takes_24 : decode cX13_takes 24 = .ok (.iconst 0, 1) := by decide +kernel
theorem dX13_takes_25 : decode cX13_takes 25 = .ok (.bastore, 1) := by decide +kernel
theorem dX13_takes_26 : decode cX13_takes 26 = .ok (.iinc 2 1, 3) := by decide +kernel
theorem dX13_takes_29 : decode cX13_takes 29 = .ok (.goto (-17), 3) := by decide +kernel
theorem dX13_takes_32 : decode cX13_takes 32 = .ok (.aload_n 0, 1) := by decide +kernel
theorem dX13_takes_33 : decode cX13_takes 33 = .ok (.iconst 1, 1) := by decide +kernel
theorem dX13_takes_34 : decode cX13_takes 34 = .ok (.invokevirtual 342, 3) := by decide +kernel
theorem dX13_takes_37 : decode cX13_takes 37 = .ok (.istore_n 2, 1) := by decide +kernel
theorem dX13_takes_38 : decode cX13_takes 38 = .ok (.iconst 0, 1) := by decide +kernel
theorem dX13_takes_39 : decode cX13_takes 39 = .ok (.istore_n 3, 1) := by decide +kernel
theorem dX13_takes_40 : decode cX13_takes 40 = .ok (.iconst 0, 1) := by decide +kernel
theorem dX13_takes_41 : decode cX13_takes 41 = .ok (.istore 4, 2) := by decide +kernel
theorem dX13_takes_43 : decode cX13_takes 43 = .ok (.iconst 0, 1) := by decide +kernel
theorem dX13_takes_44 : decode cX13_takes 44 = .ok (.istore 5, 2) := by decide +kernel
theorem dX13_takes_46 : decode cX13_takes 46 = .ok (.iload_n 2, 1) := by decide +kernel
theorem dX13_takes_47 : decode cX13_takes 47 = .ok (.iconst 1, 1) := by decide +kernel
theorem dX13_takes_48 : decode cX13_takes 48 = .ok (.if_icmp .eq 13, 3) := by decide +kernel
theorem dX13_takes_51 : decode cX13_takes 51 = .ok (.iload_n 2, 1) := by decide +kernel
theorem dX13_takes_52 : decode cX13_takes 52 = .ok (.iconst 2, 1) := by decide +kernel
theorem dX13_takes_53 : decode cX13_takes 53 = .ok (.if_icmp .eq 8, 3) := by decide +kernel
theorem dX13_takes_56 : decode cX13_takes 56 = .ok (.iload_n 2, 1) := by decide +kernel
theorem dX13_takes_57 : decode cX13_takes 57 = .ok (.iconst 3, 1) := by decide +kernel
theorem dX13_takes_58 : decode cX13_takes 58 = .ok (.if_icmp .ne 33, 3) := by decide +kernel
theorem dX13_takes_61 : decode cX13_takes 61 = .ok (.iload_n 2, 1) := by decide +kernel
theorem dX13_takes_62 : decode cX13_takes 62 = .ok (.iconst 3, 1) := by decide +kernel
theorem dX13_takes_63 : decode cX13_takes 63 = .ok (.if_icmp .ne 12, 3) := by decide +kernel
theorem dX13_takes_66 : decode cX13_takes 66 = .ok (.aload_n 0, 1) := by decide +kernel
theorem dX13_takes_67 : decode cX13_takes 67 = .ok (.aload_n 0, 1) := by decide +kernel
theorem dX13_takes_68 : decode cX13_takes 68 = .ok (.getfield 166, 3) := by decide +kernel
theorem dX13_takes_71 : decode cX13_takes 71 = .ok (.iconst 0, 1) := by decide +kernel
theorem dX13_takes_72 : decode cX13_takes 72 = .ok (.invokevirtual 350, 3) := by decide +kernel
theorem dX13_takes_75 : decode cX13_takes 75 = .ok (.aload_n 0, 1) := by decide +kernel
theorem dX13_takes_76 : decode cX13_takes 76 = .ok (.invokevirtual 346, 3) := by decide +kernel
theorem dX13_takes_79 : decode cX13_takes 79 = .ok (.istore 4, 2) := by decide +kernel
theorem dX13_takes_81 : decode cX13_takes 81 = .ok (.aload_n 0, 1) := by decide +kernel
theorem dX13_takes_82 : decode cX13_takes 82 = .ok (.iconst 2, 1) := by decide +kernel
theorem dX13_takes_83 : decode cX13_takes 83 = .ok (.invokevirtual 342, 3) := by decide +kernel
theorem dX13_takes_86 : decode cX13_takes 86 = .ok (.istore 5, 2) := by decide +kernel
theorem dX13_takes_88 : decode cX13_takes 88 = .ok (.goto 297, 3) := by decide +kernel
theorem dX13_takes_91 : decode cX13_takes 91 = .ok (.iload_n 2, 1) := by decide +kernel
theorem dX13_takes_92 : decode cX13_takes 92 = .ok (.iconst 4, 1) := by decide +kernel
theorem dX13_takes_93 : decode cX13_takes 93 = .ok (.if_icmp .ne 111, 3) := by decide +kernel
theorem dX13_takes_96 : decode cX13_takes 96 = .ok (.aload_n 0, 1) := by decide +kernel
theorem dX13_takes_97 : decode cX13_takes 97 = .ok (.getfield 172, 3) := by decide +kernel
theorem dX13_takes_100 : decode cX13_takes 100 = .ok (.iconst 0, 1) := by decide +kernel
theorem dX13_takes_101 : decode cX13_takes 101 = .ok (.aload_n 0, 1) := by decide +kernel
theorem dX13_takes_102 : decode cX13_takes 102 = .ok (.iconst 1, 1) := by decide +kernel
theorem dX13_takes_103 : decode cX13_takes 103 = .ok (.invokevirtual 342, 3) := by decide +kernel
theorem dX13_takes_106 : decode cX13_takes 106 = .ok (.iastore, 1) := by decide +kernel
theorem dX13_takes_107 : decode cX13_takes 107 = .ok (.aload_n 0, 1) := by decide +kernel
theorem dX13_takes_108 : decode cX13_takes 108 = .ok (.getfield 172, 3) := by decide +kernel
theorem dX13_takes_111 : decode cX13_takes 111 = .ok (.iconst 0, 1) := by decide +kernel
theorem dX13_takes_112 : decode cX13_takes 112 = .ok (.iaload, 1) := by decide +kernel
theorem dX13_takes_113 : decode cX13_takes 113 = .ok (.iconst 1, 1) := by decide +kernel
theorem dX13_takes_114 : decode cX13_takes 114 = .ok (.if_icmp .lt 13, 3) := by decide +kernel
theorem dX13_takes_117 : decode cX13_takes 117 = .ok (.aload_n 0, 1) := by decide +kernel
theorem dX13_takes_118 : decode cX13_takes 118 = .ok (.getfield 172, 3) := by decide +kernel
theorem dX13_takes_121 : decode cX13_takes 121 = .ok (.iconst 0, 1) := by decide +kernel
theorem dX13_takes_122 : decode cX13_takes 122 = .ok (.iaload, 1) := by decide +kernel
theorem dX13_takes_123 : decode cX13_takes 123 = .ok (.iconst 2, 1) := by decide +kernel
theorem dX13_takes_124 : decode cX13_takes 124 = .ok (.if_icmp .le 8, 3) := by decide +kernel
theorem dX13_takes_127 : decode cX13_takes 127 = .ok (.aload_n 0, 1) := by decide +kernel
theorem dX13_takes_128 : decode cX13_takes 128 = .ok (.iconst 0, 1) := by decide +kernel
theorem dX13_takes_129 : decode cX13_takes 129 = .ok (.putfield 338, 3) := by decide +kernel
theorem dX13_takes_132 : decode cX13_takes 132 = .ok (.aload_n 0, 1) := by decide +kernel
theorem dX13_takes_133 : decode cX13_takes 133 = .ok (.getfield 338, 3) := by decide +kernel
theorem dX13_takes_136 : decode cX13_takes 136 = .ok (.ifCond .eq 14, 3) := by decide +kernel
theorem dX13_takes_139 : decode cX13_takes 139 = .ok (.aload_n 0, 1) := by decide +kernel
theorem dX13_takes_140 : decode cX13_takes 140 = .ok (.aload_n 0, 1) := by decide +kernel
theorem dX13_takes_141 : decode cX13_takes 141 = .ok (.getfield 166, 3) := by decide +kernel
theorem dX13_takes_144 : decode cX13_takes 144 = .ok (.sipush 240, 3) := by decide +kernel
theorem dX13_takes_147 : decode cX13_takes 147 = .ok (.invokevirtual 350, 3) := by decide +kernel
theorem dX13_takes_150 : decode cX13_takes 150 = .ok (.aload_n 0, 1) := by decide +kernel
theorem dX13_takes_151 : decode cX13_takes 151 = .ok (.iconst 1, 1) := by decide +kernel
theorem dX13_takes_152 : decode cX13_takes 152 = .ok (.invokevirtual 342, 3) := by decide +kernel
theorem dX13_takes_155 : decode cX13_takes 155 = .ok (.istore_n 3, 1) := by decide +kernel
theorem dX13_takes_156 : decode cX13_takes 156 = .ok (.iload_n 3, 1) := by decide +kernel
theorem dX13_takes_157 : decode cX13_takes 157 = .ok (.bipush 8, 2) := by decide +kernel
theorem dX13_takes_159 : decode cX13_takes 159 = .ok (.if_icmp .le 8, 3) := by decide +kernel
theorem dX13_takes_162 : decode cX13_takes 162 = .ok (.aload_n 0, 1) := by decide +kernel
theorem dX13_takes_163 : decode cX13_takes 163 = .ok (.iconst 0, 1) := by decide +kernel
theorem dX13_takes_164 : decode cX13_takes 164 = .ok (.putfield 338, 3) := by decide +kernel
theorem dX13_takes_167 : decode cX13_takes 167 = .ok (.iconst 0, 1) := by decide +kernel
theorem dX13_takes_168 : decode cX13_takes 168 = .ok (.istore 6, 2) := by decide +kernel
theorem dX13_takes_170 : decode cX13_takes 170 = .ok (.iload 6, 2) := by decide +kernel
theorem dX13_takes_172 : decode cX13_takes 172 = .ok (.iload_n 3, 1) := by decide +kernel
theorem dX13_takes_173 : decode cX13_takes 173 = .ok (.if_icmp .ge 28, 3) := by decide +kernel
theorem dX13_takes_176 : decode cX13_takes 176 = .ok (.aload_n 0, 1) := by decide +kernel
theorem dX13_takes_177 : decode cX13_takes 177 = .ok (.getfield 338, 3) := by decide +kernel
theorem dX13_takes_180 : decode cX13_takes 180 = .ok (.ifCond .eq 21, 3) := by decide +kernel
theorem dX13_takes_183 : decode cX13_takes 183 = .ok (.aload_n 0, 1) := by decide +kernel
theorem dX13_takes_184 : decode cX13_takes 184 = .ok (.iload 6, 2) := by decide +kernel
theorem dX13_takes_186 : decode cX13_takes 186 = .ok (.aload_n 0, 1) := by decide +kernel
theorem dX13_takes_187 : decode cX13_takes 187 = .ok (.getfield 172, 3) := by decide +kernel
theorem dX13_takes_190 : decode cX13_takes 190 = .ok (.iconst 0, 1) := by decide +kernel
theorem dX13_takes_191 : decode cX13_takes 191 = .ok (.iaload, 1) := by decide +kernel
theorem dX13_takes_192 : decode cX13_takes 192 = .ok (.invokevirtual 353, 3) := by decide +kernel
theorem dX13_takes_195 : decode cX13_takes 195 = .ok (.iinc 6 1, 3) := by decide +kernel
theorem dX13_takes_198 : decode cX13_takes 198 = .ok (.goto (-28), 3) := by decide +kernel
theorem dX13_takes_201 : decode cX13_takes 201 = .ok (.goto 184, 3) := by decide +kernel
theorem dX13_takes_204 : decode cX13_takes 204 = .ok (.iload_n 2, 1) := by decide +kernel
theorem dX13_takes_205 : decode cX13_takes 205 = .ok (.iconst 5, 1) := by decide +kernel
theorem dX13_takes_206 : decode cX13_takes 206 = .ok (.if_icmp .ne 174, 3) := by decide +kernel
theorem dX13_takes_209 : decode cX13_takes 209 = .ok (.aload_n 0, 1) := by decide +kernel
theorem dX13_takes_210 : decode cX13_takes 210 = .ok (.iconst 1, 1) := by decide +kernel
theorem dX13_takes_211 : decode cX13_takes 211 = .ok (.invokevirtual 342, 3) := by decide +kernel
theorem dX13_takes_214 : decode cX13_takes 214 = .ok (.istore_n 3, 1) := by decide +kernel
theorem dX13_takes_215 : decode cX13_takes 215 = .ok (.iload_n 3, 1) := by decide +kernel
theorem dX13_takes_216 : decode cX13_takes 216 = .ok (.iconst 1, 1) := by decide +kernel
theorem dX13_takes_217 : decode cX13_takes 217 = .ok (.if_icmp .lt 9, 3) := by decide +kernel
theorem dX13_takes_220 : decode cX13_takes 220 = .ok (.iload_n 3, 1) := by decide +kernel
theorem dX13_takes_221 : decode cX13_takes 221 = .ok (.bipush 8, 2) := by decide +kernel
theorem dX13_takes_223 : decode cX13_takes 223 = .ok (.if_icmp .le 8, 3) := by decide +kernel
theorem dX13_takes_226 : decode cX13_takes 226 = .ok (.aload_n 0, 1) := by decide +kernel
theorem dX13_takes_227 : decode cX13_takes 227 = .ok (.iconst 0, 1) := by decide +kernel
theorem dX13_takes_228 : decode cX13_takes 228 = .ok (.putfield 338, 3) := by decide +kernel
theorem dX13_takes_231 : decode cX13_takes 231 = .ok (.iconst 0, 1) := by decide +kernel
theorem dX13_takes_232 : decode cX13_takes 232 = .ok (.istore 6, 2) := by decide +kernel
theorem dX13_takes_234 : decode cX13_takes 234 = .ok (.iload 6, 2) := by decide +kernel
theorem dX13_takes_236 : decode cX13_takes 236 = .ok (.iload_n 3, 1) := by decide +kernel
theorem dX13_takes_237 : decode cX13_takes 237 = .ok (.if_icmp .ge 140, 3) := by decide +kernel
theorem dX13_takes_240 : decode cX13_takes 240 = .ok (.aload_n 0, 1) := by decide +kernel
theorem dX13_takes_241 : decode cX13_takes 241 = .ok (.getfield 338, 3) := by decide +kernel
theorem dX13_takes_244 : decode cX13_takes 244 = .ok (.ifCond .eq 133, 3) := by decide +kernel
theorem dX13_takes_247 : decode cX13_takes 247 = .ok (.aload_n 0, 1) := by decide +kernel
theorem dX13_takes_248 : decode cX13_takes 248 = .ok (.getfield 172, 3) := by decide +kernel
theorem dX13_takes_251 : decode cX13_takes 251 = .ok (.iload 6, 2) := by decide +kernel
theorem dX13_takes_253 : decode cX13_takes 253 = .ok (.aload_n 0, 1) := by decide +kernel
theorem dX13_takes_254 : decode cX13_takes 254 = .ok (.iconst 1, 1) := by decide +kernel
theorem dX13_takes_255 : decode cX13_takes 255 = .ok (.invokevirtual 342, 3) := by decide +kernel
theorem dX13_takes_258 : decode cX13_takes 258 = .ok (.iastore, 1) := by decide +kernel
theorem dX13_takes_259 : decode cX13_takes 259 = .ok (.aload_n 0, 1) := by decide +kernel
theorem dX13_takes_260 : decode cX13_takes 260 = .ok (.getfield 175, 3) := by decide +kernel
theorem dX13_takes_263 : decode cX13_takes 263 = .ok (.iload 6, 2) := by decide +kernel
theorem dX13_takes_265 : decode cX13_takes 265 = .ok (.aload_n 0, 1) := by decide +kernel
theorem dX13_takes_266 : decode cX13_takes 266 = .ok (.iconst 1, 1) := by decide +kernel
theorem dX13_takes_267 : decode cX13_takes 267 = .ok (.invokevirtual 342, 3) := by decide +kernel
theorem dX13_takes_270 : decode cX13_takes 270 = .ok (.iastore, 1) := by decide +kernel
theorem dX13_takes_271 : decode cX13_takes 271 = .ok (.aload_n 0, 1) := by decide +kernel
theorem dX13_takes_272 : decode cX13_takes 272 = .ok (.getfield 178, 3) := by decide +kernel
theorem dX13_takes_275 : decode cX13_takes 275 = .ok (.iload 6, 2) := by decide +kernel
theorem dX13_takes_277 : decode cX13_takes 277 = .ok (.aload_n 0, 1) := by decide +kernel
theorem dX13_takes_278 : decode cX13_takes 278 = .ok (.iconst 4, 1) := by decide +kernel
theorem dX13_takes_279 : decode cX13_takes 279 = .ok (.invokevirtual 342, 3) := by decide +kernel
theorem dX13_takes_282 : decode cX13_takes 282 = .ok (.iastore, 1) := by decide +kernel
theorem dX13_takes_283 : decode cX13_takes 283 = .ok (.aload_n 0, 1) := by decide +kernel
theorem dX13_takes_284 : decode cX13_takes 284 = .ok (.getfield 172, 3) := by decide +kernel
theorem dX13_takes_287 : decode cX13_takes 287 = .ok (.iload 6, 2) := by decide +kernel
theorem dX13_takes_289 : decode cX13_takes 289 = .ok (.iaload, 1) := by decide +kernel
theorem dX13_takes_290 : decode cX13_takes 290 = .ok (.iconst 1, 1) := by decide +kernel
theorem dX13_takes_291 : decode cX13_takes 291 = .ok (.if_icmp .lt 35, 3) := by decide +kernel
theorem dX13_takes_294 : decode cX13_takes 294 = .ok (.aload_n 0, 1) := by decide +kernel
theorem dX13_takes_295 : decode cX13_takes 295 = .ok (.getfield 172, 3) := by decide +kernel
theorem dX13_takes_298 : decode cX13_takes 298 = .ok (.iload 6, 2) := by decide +kernel
theorem dX13_takes_300 : decode cX13_takes 300 = .ok (.iaload, 1) := by decide +kernel
theorem dX13_takes_301 : decode cX13_takes 301 = .ok (.iconst 2, 1) := by decide +kernel
theorem dX13_takes_302 : decode cX13_takes 302 = .ok (.if_icmp .gt 24, 3) := by decide +kernel
theorem dX13_takes_305 : decode cX13_takes 305 = .ok (.aload_n 0, 1) := by decide +kernel
theorem dX13_takes_306 : decode cX13_takes 306 = .ok (.getfield 175, 3) := by decide +kernel
theorem dX13_takes_309 : decode cX13_takes 309 = .ok (.iload 6, 2) := by decide +kernel
theorem dX13_takes_311 : decode cX13_takes 311 = .ok (.iaload, 1) := by decide +kernel
theorem dX13_takes_312 : decode cX13_takes 312 = .ok (.iconst 1, 1) := by decide +kernel
theorem dX13_takes_313 : decode cX13_takes 313 = .ok (.if_icmp .gt 13, 3) := by decide +kernel
theorem dX13_takes_316 : decode cX13_takes 316 = .ok (.aload_n 0, 1) := by decide +kernel
theorem dX13_takes_317 : decode cX13_takes 317 = .ok (.getfield 178, 3) := by decide +kernel
theorem dX13_takes_320 : decode cX13_takes 320 = .ok (.iload 6, 2) := by decide +kernel
theorem dX13_takes_322 : decode cX13_takes 322 = .ok (.iaload, 1) := by decide +kernel
theorem dX13_takes_323 : decode cX13_takes 323 = .ok (.ifCond .ge 8, 3) := by decide +kernel
theorem dX13_takes_326 : decode cX13_takes 326 = .ok (.aload_n 0, 1) := by decide +kernel
theorem dX13_takes_327 : decode cX13_takes 327 = .ok (.iconst 0, 1) := by decide +kernel
theorem dX13_takes_328 : decode cX13_takes 328 = .ok (.putfield 338, 3) := by decide +kernel
theorem dX13_takes_331 : decode cX13_takes 331 = .ok (.aload_n 0, 1) := by decide +kernel
theorem dX13_takes_332 : decode cX13_takes 332 = .ok (.getfield 338, 3) := by decide +kernel
theorem dX13_takes_335 : decode cX13_takes 335 = .ok (.ifCond .eq 16, 3) := by decide +kernel
theorem dX13_takes_338 : decode cX13_takes 338 = .ok (.aload_n 0, 1) := by decide +kernel
theorem dX13_takes_339 : decode cX13_takes 339 = .ok (.aload_n 0, 1) := by decide +kernel
theorem dX13_takes_340 : decode cX13_takes 340 = .ok (.getfield 166, 3) := by decide +kernel
theorem dX13_takes_343 : decode cX13_takes 343 = .ok (.bipush 16, 2) := by decide +kernel
theorem dX13_takes_345 : decode cX13_takes 345 = .ok (.iload 6, 2) := by decide +kernel
theorem dX13_takes_347 : decode cX13_takes 347 = .ok (.imul, 1) := by decide +kernel
theorem dX13_takes_348 : decode cX13_takes 348 = .ok (.invokevirtual 350, 3) := by decide +kernel
theorem dX13_takes_351 : decode cX13_takes 351 = .ok (.aload_n 0, 1) := by decide +kernel
theorem dX13_takes_352 : decode cX13_takes 352 = .ok (.getfield 338, 3) := by decide +kernel
theorem dX13_takes_355 : decode cX13_takes 355 = .ok (.ifCond .eq 16, 3) := by decide +kernel
theorem dX13_takes_358 : decode cX13_takes 358 = .ok (.aload_n 0, 1) := by decide +kernel
theorem dX13_takes_359 : decode cX13_takes 359 = .ok (.iload 6, 2) := by decide +kernel
theorem dX13_takes_361 : decode cX13_takes 361 = .ok (.aload_n 0, 1) := by decide +kernel
theorem dX13_takes_362 : decode cX13_takes 362 = .ok (.getfield 172, 3) := by decide +kernel
theorem dX13_takes_365 : decode cX13_takes 365 = .ok (.iload 6, 2) := by decide +kernel
theorem dX13_takes_367 : decode cX13_takes 367 = .ok (.iaload, 1) := by decide +kernel
theorem dX13_takes_368 : decode cX13_takes 368 = .ok (.invokevirtual 353, 3) := by decide +kernel
theorem dX13_takes_371 : decode cX13_takes 371 = .ok (.iinc 6 1, 3) := by decide +kernel
theorem dX13_takes_374 : decode cX13_takes 374 = .ok (.goto (-140), 3) := by decide +kernel
theorem dX13_takes_377 : decode cX13_takes 377 = .ok (.goto 8, 3) := by decide +kernel
theorem dX13_takes_380 : decode cX13_takes 380 = .ok (.aload_n 0, 1) := by decide +kernel
theorem dX13_takes_381 : decode cX13_takes 381 = .ok (.iconst 0, 1) := by decide +kernel
theorem dX13_takes_382 : decode cX13_takes 382 = .ok (.putfield 338, 3) := by decide +kernel
theorem dX13_takes_385 : decode cX13_takes 385 = .ok (.aload_n 0, 1) := by decide +kernel
theorem dX13_takes_386 : decode cX13_takes 386 = .ok (.getfield 338, 3) := by decide +kernel
theorem dX13_takes_389 : decode cX13_takes 389 = .ok (.ifCond .eq 14, 3) := by decide +kernel
theorem dX13_takes_392 : decode cX13_takes 392 = .ok (.aload_n 0, 1) := by decide +kernel
theorem dX13_takes_393 : decode cX13_takes 393 = .ok (.getfield 335, 3) := by decide +kernel
theorem dX13_takes_396 : decode cX13_takes 396 = .ok (.aload_n 0, 1) := by decide +kernel
theorem dX13_takes_397 : decode cX13_takes 397 = .ok (.getfield 318, 3) := by decide +kernel
theorem dX13_takes_400 : decode cX13_takes 400 = .ok (.if_icmp .eq 15, 3) := by decide +kernel
theorem dX13_takes_403 : decode cX13_takes 403 = .ok (.aload_n 0, 1) := by decide +kernel
theorem dX13_takes_404 : decode cX13_takes 404 = .ok (.getfield 35, 3) := by decide +kernel
theorem dX13_takes_407 : decode cX13_takes 407 = .ok (.iload_n 1, 1) := by decide +kernel
theorem dX13_takes_408 : decode cX13_takes 408 = .ok (.dup2, 1) := by decide +kernel
theorem dX13_takes_409 : decode cX13_takes 409 = .ok (.iaload, 1) := by decide +kernel
theorem dX13_takes_410 : decode cX13_takes 410 = .ok (.iconst 1, 1) := by decide +kernel
theorem dX13_takes_411 : decode cX13_takes 411 = .ok (.iadd, 1) := by decide +kernel
theorem dX13_takes_412 : decode cX13_takes 412 = .ok (.iastore, 1) := by decide +kernel
theorem dX13_takes_413 : decode cX13_takes 413 = .ok (.iconst 0, 1) := by decide +kernel
theorem dX13_takes_414 : decode cX13_takes 414 = .ok (.ireturn, 1) := by decide +kernel
theorem dX13_takes_415 : decode cX13_takes 415 = .ok (.iload_n 2, 1) := by decide +kernel
theorem dX13_takes_416 : decode cX13_takes 416 = .ok (.iconst 1, 1) := by decide +kernel
theorem dX13_takes_417 : decode cX13_takes 417 = .ok (.if_icmp .ne 12, 3) := by decide +kernel
theorem dX13_takes_420 : decode cX13_takes 420 = .ok (.aload_n 0, 1) := by decide +kernel
theorem dX13_takes_421 : decode cX13_takes 421 = .ok (.iload_n 1, 1) := by decide +kernel
theorem dX13_takes_422 : decode cX13_takes 422 = .ok (.iload 4, 2) := by decide +kernel
theorem dX13_takes_424 : decode cX13_takes 424 = .ok (.iload 5, 2) := by decide +kernel
theorem dX13_takes_426 : decode cX13_takes 426 = .ok (.invokevirtual 356, 3) := by decide +kernel
theorem dX13_takes_429 : decode cX13_takes 429 = .ok (.iload_n 2, 1) := by decide +kernel
theorem dX13_takes_430 : decode cX13_takes 430 = .ok (.iconst 2, 1) := by decide +kernel
theorem dX13_takes_431 : decode cX13_takes 431 = .ok (.if_icmp .ne 12, 3) := by decide +kernel
theorem dX13_takes_434 : decode cX13_takes 434 = .ok (.aload_n 0, 1) := by decide +kernel
theorem dX13_takes_435 : decode cX13_takes 435 = .ok (.iload_n 1, 1) := by decide +kernel
theorem dX13_takes_436 : decode cX13_takes 436 = .ok (.iload 4, 2) := by decide +kernel
theorem dX13_takes_438 : decode cX13_takes 438 = .ok (.iload 5, 2) := by decide +kernel
theorem dX13_takes_440 : decode cX13_takes 440 = .ok (.invokevirtual 359, 3) := by decide +kernel
theorem dX13_takes_443 : decode cX13_takes 443 = .ok (.iload_n 2, 1) := by decide +kernel
theorem dX13_takes_444 : decode cX13_takes 444 = .ok (.iconst 3, 1) := by decide +kernel
theorem dX13_takes_445 : decode cX13_takes 445 = .ok (.if_icmp .ne 10, 3) := by decide +kernel
theorem dX13_takes_448 : decode cX13_takes 448 = .ok (.aload_n 0, 1) := by decide +kernel
theorem dX13_takes_449 : decode cX13_takes 449 = .ok (.iload_n 1, 1) := by decide +kernel
theorem dX13_takes_450 : decode cX13_takes 450 = .ok (.iload 4, 2) := by decide +kernel
theorem dX13_takes_452 : decode cX13_takes 452 = .ok (.invokevirtual 362, 3) := by decide +kernel
theorem dX13_takes_455 : decode cX13_takes 455 = .ok (.iload_n 2, 1) := by decide +kernel
theorem dX13_takes_456 : decode cX13_takes 456 = .ok (.iconst 4, 1) := by decide +kernel
theorem dX13_takes_457 : decode cX13_takes 457 = .ok (.if_icmp .ne 9, 3) := by decide +kernel
theorem dX13_takes_460 : decode cX13_takes 460 = .ok (.aload_n 0, 1) := by decide +kernel
theorem dX13_takes_461 : decode cX13_takes 461 = .ok (.iload_n 1, 1) := by decide +kernel
theorem dX13_takes_462 : decode cX13_takes 462 = .ok (.iload_n 3, 1) := by decide +kernel
theorem dX13_takes_463 : decode cX13_takes 463 = .ok (.invokevirtual 365, 3) := by decide +kernel
theorem dX13_takes_466 : decode cX13_takes 466 = .ok (.iconst 0, 1) := by decide +kernel
theorem dX13_takes_467 : decode cX13_takes 467 = .ok (.istore 6, 2) := by decide +kernel
theorem dX13_takes_469 : decode cX13_takes 469 = .ok (.iload 6, 2) := by decide +kernel
theorem dX13_takes_471 : decode cX13_takes 471 = .ok (.iload_n 3, 1) := by decide +kernel
theorem dX13_takes_472 : decode cX13_takes 472 = .ok (.if_icmp .ge 21, 3) := by decide +kernel
theorem dX13_takes_475 : decode cX13_takes 475 = .ok (.iload_n 2, 1) := by decide +kernel
theorem dX13_takes_476 : decode cX13_takes 476 = .ok (.iconst 5, 1) := by decide +kernel
theorem dX13_takes_477 : decode cX13_takes 477 = .ok (.if_icmp .ne 16, 3) := by decide +kernel
theorem dX13_takes_480 : decode cX13_takes 480 = .ok (.aload_n 0, 1) := by decide +kernel
theorem dX13_takes_481 : decode cX13_takes 481 = .ok (.iload_n 1, 1) := by decide +kernel
theorem dX13_takes_482 : decode cX13_takes 482 = .ok (.iload 6, 2) := by decide +kernel
theorem dX13_takes_484 : decode cX13_takes 484 = .ok (.invokevirtual 368, 3) := by decide +kernel
theorem dX13_takes_487 : decode cX13_takes 487 = .ok (.iinc 6 1, 3) := by decide +kernel
theorem dX13_takes_490 : decode cX13_takes 490 = .ok (.goto (-21), 3) := by decide +kernel
theorem dX13_takes_493 : decode cX13_takes 493 = .ok (.iconst 1, 1) := by decide +kernel
theorem dX13_takes_494 : decode cX13_takes 494 = .ok (.ireturn, 1) := by decide +kernel
theorem dX13_aprobe_0 : decode cX13_aprobe 0 = .ok (.iload_n 3, 1) := by decide +kernel
theorem dX13_aprobe_1 : decode cX13_aprobe 1 = .ok (.aload_n 0, 1) := by decide +kernel
theorem dX13_aprobe_2 : decode cX13_aprobe 2 = .ok (.getfield 17, 3) := by decide +kernel
theorem dX13_aprobe_5 : decode cX13_aprobe 5 = .ok (.iload_n 1, 1) := by decide +kernel
theorem dX13_aprobe_6 : decode cX13_aprobe 6 = .ok (.iaload, 1) := by decide +kernel
theorem dX13_aprobe_7 : decode cX13_aprobe 7 = .ok (.if_icmp .eq 12, 3) := by decide +kernel
theorem dX13_aprobe_10 : decode cX13_aprobe 10 = .ok (.iload_n 2, 1) := by decide +kernel
theorem dX13_aprobe_11 : decode cX13_aprobe 11 = .ok (.aload_n 0, 1) := by decide +kernel
theorem dX13_aprobe_12 : decode cX13_aprobe 12 = .ok (.iload_n 1, 1) := by decide +kernel
theorem dX13_aprobe_13 : decode cX13_aprobe 13 = .ok (.invokevirtual 240, 3) := by decide +kernel
theorem dX13_aprobe_16 : decode cX13_aprobe 16 = .ok (.if_icmp .eq 4, 3) := by decide +kernel
theorem dX13_aprobe_19 : decode cX13_aprobe 19 = .ok (.return_, 1) := by decide +kernel
theorem dX13_aprobe_20 : decode cX13_aprobe 20 = .ok (.aload_n 0, 1) := by decide +kernel
theorem dX13_aprobe_21 : decode cX13_aprobe 21 = .ok (.getfield 41, 3) := by decide +kernel
theorem dX13_aprobe_24 : decode cX13_aprobe 24 = .ok (.iload_n 1, 1) := by decide +kernel
theorem dX13_aprobe_25 : decode cX13_aprobe 25 = .ok (.baload, 1) := by decide +kernel
theorem dX13_aprobe_26 : decode cX13_aprobe 26 = .ok (.ifCond .eq 12, 3) := by decide +kernel
theorem dX13_aprobe_29 : decode cX13_aprobe 29 = .ok (.aload_n 0, 1) := by decide +kernel
theorem dX13_aprobe_30 : decode cX13_aprobe 30 = .ok (.iload_n 1, 1) := by decide +kernel
theorem dX13_aprobe_31 : decode cX13_aprobe 31 = .ok (.iconst 2, 1) := by decide +kernel
theorem dX13_aprobe_32 : decode cX13_aprobe 32 = .ok (.invokevirtual 280, 3) := by decide +kernel
theorem dX13_aprobe_35 : decode cX13_aprobe 35 = .ok (.goto 18, 3) := by decide +kernel
theorem dX13_aprobe_38 : decode cX13_aprobe 38 = .ok (.aload_n 0, 1) := by decide +kernel
theorem dX13_aprobe_39 : decode cX13_aprobe 39 = .ok (.getfield 17, 3) := by decide +kernel
theorem dX13_aprobe_42 : decode cX13_aprobe 42 = .ok (.iload_n 1, 1) := by decide +kernel
theorem dX13_aprobe_43 : decode cX13_aprobe 43 = .ok (.iaload, 1) := by decide +kernel
theorem dX13_aprobe_44 : decode cX13_aprobe 44 = .ok (.iload_n 3, 1) := by decide +kernel
theorem dX13_aprobe_45 : decode cX13_aprobe 45 = .ok (.if_icmp .le 8, 3) := by decide +kernel
theorem dX13_aprobe_48 : decode cX13_aprobe 48 = .ok (.aload_n 0, 1) := by decide +kernel
theorem dX13_aprobe_49 : decode cX13_aprobe 49 = .ok (.iload_n 1, 1) := by decide +kernel
theorem dX13_aprobe_50 : decode cX13_aprobe 50 = .ok (.invokevirtual 371, 3) := by decide +kernel
theorem dX13_aprobe_53 : decode cX13_aprobe 53 = .ok (.return_, 1) := by decide +kernel
theorem dX13_atell_0 : decode cX13_atell 0 = .ok (.iload_n 3, 1) := by decide +kernel
theorem dX13_atell_1 : decode cX13_atell 1 = .ok (.aload_n 0, 1) := by decide +kernel
theorem dX13_atell_2 : decode cX13_atell 2 = .ok (.getfield 17, 3) := by decide +kernel
theorem dX13_atell_5 : decode cX13_atell 5 = .ok (.iload_n 1, 1) := by decide +kernel
theorem dX13_atell_6 : decode cX13_atell 6 = .ok (.iaload, 1) := by decide +kernel
theorem dX13_atell_7 : decode cX13_atell 7 = .ok (.if_icmp .eq 12, 3) := by decide +kernel
theorem dX13_atell_10 : decode cX13_atell 10 = .ok (.iload_n 2, 1) := by decide +kernel
theorem dX13_atell_11 : decode cX13_atell 11 = .ok (.aload_n 0, 1) := by decide +kernel
theorem dX13_atell_12 : decode cX13_atell 12 = .ok (.iload_n 1, 1) := by decide +kernel
theorem dX13_atell_13 : decode cX13_atell 13 = .ok (.invokevirtual 240, 3) := by decide +kernel
theorem dX13_atell_16 : decode cX13_atell 16 = .ok (.if_icmp .eq 4, 3) := by decide +kernel
theorem dX13_atell_19 : decode cX13_atell 19 = .ok (.return_, 1) := by decide +kernel
theorem dX13_atell_20 : decode cX13_atell 20 = .ok (.aload_n 0, 1) := by decide +kernel
theorem dX13_atell_21 : decode cX13_atell 21 = .ok (.getfield 41, 3) := by decide +kernel
theorem dX13_atell_24 : decode cX13_atell 24 = .ok (.iload_n 1, 1) := by decide +kernel
theorem dX13_atell_25 : decode cX13_atell 25 = .ok (.baload, 1) := by decide +kernel
theorem dX13_atell_26 : decode cX13_atell 26 = .ok (.ifCond .eq 53, 3) := by decide +kernel
theorem dX13_atell_29 : decode cX13_atell 29 = .ok (.aload_n 0, 1) := by decide +kernel
theorem dX13_atell_30 : decode cX13_atell 30 = .ok (.getfield 48, 3) := by decide +kernel
theorem dX13_atell_33 : decode cX13_atell 33 = .ok (.iload_n 1, 1) := by decide +kernel
theorem dX13_atell_34 : decode cX13_atell 34 = .ok (.laload, 1) := by decide +kernel
theorem dX13_atell_35 : decode cX13_atell 35 = .ok (.ldc2_w 271, 3) := by decide +kernel
theorem dX13_atell_38 : decode cX13_atell 38 = .ok (.lcmp, 1) := by decide +kernel
theorem dX13_atell_39 : decode cX13_atell 39 = .ok (.ifCond .eq 21, 3) := by decide +kernel
theorem dX13_atell_42 : decode cX13_atell 42 = .ok (.aload_n 0, 1) := by decide +kernel
theorem dX13_atell_43 : decode cX13_atell 43 = .ok (.getfield 226, 3) := by decide +kernel
theorem dX13_atell_46 : decode cX13_atell 46 = .ok (.aload_n 0, 1) := by decide +kernel
theorem dX13_atell_47 : decode cX13_atell 47 = .ok (.getfield 48, 3) := by decide +kernel
theorem dX13_atell_50 : decode cX13_atell 50 = .ok (.iload_n 1, 1) := by decide +kernel
theorem dX13_atell_51 : decode cX13_atell 51 = .ok (.laload, 1) := by decide +kernel
theorem dX13_atell_52 : decode cX13_atell 52 = .ok (.lsub, 1) := by decide +kernel
theorem dX13_atell_53 : decode cX13_atell 53 = .ok (.ldc2_w 374, 3) := by decide +kernel
theorem dX13_atell_56 : decode cX13_atell 56 = .ok (.lcmp, 1) := by decide +kernel
theorem dX13_atell_57 : decode cX13_atell 57 = .ok (.ifCond .lt 22, 3) := by decide +kernel
theorem dX13_atell_60 : decode cX13_atell 60 = .ok (.aload_n 0, 1) := by decide +kernel
theorem dX13_atell_61 : decode cX13_atell 61 = .ok (.getfield 48, 3) := by decide +kernel
theorem dX13_atell_64 : decode cX13_atell 64 = .ok (.iload_n 1, 1) := by decide +kernel
theorem dX13_atell_65 : decode cX13_atell 65 = .ok (.aload_n 0, 1) := by decide +kernel
theorem dX13_atell_66 : decode cX13_atell 66 = .ok (.getfield 226, 3) := by decide +kernel
theorem dX13_atell_69 : decode cX13_atell 69 = .ok (.lastore, 1) := by decide +kernel
theorem dX13_atell_70 : decode cX13_atell 70 = .ok (.aload_n 0, 1) := by decide +kernel
theorem dX13_atell_71 : decode cX13_atell 71 = .ok (.iload_n 1, 1) := by decide +kernel
theorem dX13_atell_72 : decode cX13_atell 72 = .ok (.iconst 2, 1) := by decide +kernel
theorem dX13_atell_73 : decode cX13_atell 73 = .ok (.invokevirtual 280, 3) := by decide +kernel
theorem dX13_atell_76 : decode cX13_atell 76 = .ok (.goto 8, 3) := by decide +kernel
theorem dX13_atell_79 : decode cX13_atell 79 = .ok (.aload_n 0, 1) := by decide +kernel
theorem dX13_atell_80 : decode cX13_atell 80 = .ok (.iload_n 1, 1) := by decide +kernel
theorem dX13_atell_81 : decode cX13_atell 81 = .ok (.invokevirtual 371, 3) := by decide +kernel
theorem dX13_atell_84 : decode cX13_atell 84 = .ok (.return_, 1) := by decide +kernel
theorem dX13_nprobe_0 : decode cX13_nprobe 0 = .ok (.aload_n 0, 1) := by decide +kernel
theorem dX13_nprobe_1 : decode cX13_nprobe 1 = .ok (.getfield 51, 3) := by decide +kernel
theorem dX13_nprobe_4 : decode cX13_nprobe 4 = .ok (.iload_n 1, 1) := by decide +kernel
theorem dX13_nprobe_5 : decode cX13_nprobe 5 = .ok (.iaload, 1) := by decide +kernel
theorem dX13_nprobe_6 : decode cX13_nprobe 6 = .ok (.iconst 2, 1) := by decide +kernel
theorem dX13_nprobe_7 : decode cX13_nprobe 7 = .ok (.if_icmp .lt 22, 3) := by decide +kernel
theorem dX13_nprobe_10 : decode cX13_nprobe 10 = .ok (.aload_n 0, 1) := by decide +kernel
theorem dX13_nprobe_11 : decode cX13_nprobe 11 = .ok (.getfield 166, 3) := by decide +kernel
theorem dX13_nprobe_14 : decode cX13_nprobe 14 = .ok (.iconst 0, 1) := by decide +kernel
theorem dX13_nprobe_15 : decode cX13_nprobe 15 = .ok (.aload_n 0, 1) := by decide +kernel
theorem dX13_nprobe_16 : decode cX13_nprobe 16 = .ok (.getfield 66, 3) := by decide +kernel
theorem dX13_nprobe_19 : decode cX13_nprobe 19 = .ok (.bipush 16, 2) := by decide +kernel
theorem dX13_nprobe_21 : decode cX13_nprobe 21 = .ok (.iload_n 1, 1) := by decide +kernel
theorem dX13_nprobe_22 : decode cX13_nprobe 22 = .ok (.imul, 1) := by decide +kernel
theorem dX13_nprobe_23 : decode cX13_nprobe 23 = .ok (.invokestatic 257, 3) := by decide +kernel
theorem dX13_nprobe_26 : decode cX13_nprobe 26 = .ok (.ifCond .ne 4, 3) := by decide +kernel
theorem dX13_nprobe_29 : decode cX13_nprobe 29 = .ok (.return_, 1) := by decide +kernel
theorem dX13_nprobe_30 : decode cX13_nprobe 30 = .ok (.aload_n 0, 1) := by decide +kernel
theorem dX13_nprobe_31 : decode cX13_nprobe 31 = .ok (.getfield 51, 3) := by decide +kernel
theorem dX13_nprobe_34 : decode cX13_nprobe 34 = .ok (.iload_n 1, 1) := by decide +kernel
theorem dX13_nprobe_35 : decode cX13_nprobe 35 = .ok (.iaload, 1) := by decide +kernel
theorem dX13_nprobe_36 : decode cX13_nprobe 36 = .ok (.iconst 3, 1) := by decide +kernel
theorem dX13_nprobe_37 : decode cX13_nprobe 37 = .ok (.if_icmp .ne 15, 3) := by decide +kernel
theorem dX13_nprobe_40 : decode cX13_nprobe 40 = .ok (.aload_n 0, 1) := by decide +kernel
theorem dX13_nprobe_41 : decode cX13_nprobe 41 = .ok (.iload_n 1, 1) := by decide +kernel
theorem dX13_nprobe_42 : decode cX13_nprobe 42 = .ok (.ldc_w 287, 3) := by decide +kernel
theorem dX13_nprobe_45 : decode cX13_nprobe 45 = .ok (.iconst 0, 1) := by decide +kernel
theorem dX13_nprobe_46 : decode cX13_nprobe 46 = .ok (.invokevirtual 288, 3) := by decide +kernel
theorem dX13_nprobe_49 : decode cX13_nprobe 49 = .ok (.goto 33, 3) := by decide +kernel
theorem dX13_nprobe_52 : decode cX13_nprobe 52 = .ok (.aload_n 0, 1) := by decide +kernel
theorem dX13_nprobe_53 : decode cX13_nprobe 53 = .ok (.iload_n 1, 1) := by decide +kernel
theorem dX13_nprobe_54 : decode cX13_nprobe 54 = .ok (.invokevirtual 240, 3) := by decide +kernel
theorem dX13_nprobe_57 : decode cX13_nprobe 57 = .ok (.iload_n 2, 1) := by decide +kernel
theorem dX13_nprobe_58 : decode cX13_nprobe 58 = .ok (.if_icmp .ge 24, 3) := by decide +kernel
theorem dX13_nprobe_61 : decode cX13_nprobe 61 = .ok (.aload_n 0, 1) := by decide +kernel
theorem dX13_nprobe_62 : decode cX13_nprobe 62 = .ok (.getfield 54, 3) := by decide +kernel
theorem dX13_nprobe_65 : decode cX13_nprobe 65 = .ok (.iload_n 1, 1) := by decide +kernel
theorem dX13_nprobe_66 : decode cX13_nprobe 66 = .ok (.iconst 0, 1) := by decide +kernel
theorem dX13_nprobe_67 : decode cX13_nprobe 67 = .ok (.iastore, 1) := by decide +kernel
theorem dX13_nprobe_68 : decode cX13_nprobe 68 = .ok (.aload_n 0, 1) := by decide +kernel
theorem dX13_nprobe_69 : decode cX13_nprobe 69 = .ok (.getfield 57, 3) := by decide +kernel
theorem dX13_nprobe_72 : decode cX13_nprobe 72 = .ok (.iload_n 1, 1) := by decide +kernel
theorem dX13_nprobe_73 : decode cX13_nprobe 73 = .ok (.aload_n 0, 1) := by decide +kernel
theorem dX13_nprobe_74 : decode cX13_nprobe 74 = .ok (.getfield 226, 3) := by decide +kernel
theorem dX13_nprobe_77 : decode cX13_nprobe 77 = .ok (.ldc2_w 285, 3) := by decide +kernel
theorem dX13_nprobe_80 : decode cX13_nprobe 80 = .ok (.ladd, 1) := by decide +kernel
theorem dX13_nprobe_81 : decode cX13_nprobe 81 = .ok (.lastore, 1) := by decide +kernel
theorem dX13_nprobe_82 : decode cX13_nprobe 82 = .ok (.return_, 1) := by decide +kernel
theorem dX13_ask1_0 : decode cX13_ask1 0 = .ok (.aload_n 0, 1) := by decide +kernel
theorem dX13_ask1_1 : decode cX13_ask1 1 = .ok (.getfield 172, 3) := by decide +kernel
theorem dX13_ask1_4 : decode cX13_ask1 4 = .ok (.iconst 0, 1) := by decide +kernel
theorem dX13_ask1_5 : decode cX13_ask1 5 = .ok (.iaload, 1) := by decide +kernel
theorem dX13_ask1_6 : decode cX13_ask1 6 = .ok (.istore_n 3, 1) := by decide +kernel
theorem dX13_ask1_7 : decode cX13_ask1 7 = .ok (.iconst 4, 1) := by decide +kernel
theorem dX13_ask1_8 : decode cX13_ask1 8 = .ok (.iload_n 1, 1) := by decide +kernel
theorem dX13_ask1_9 : decode cX13_ask1 9 = .ok (.imul, 1) := by decide +kernel
theorem dX13_ask1_10 : decode cX13_ask1 10 = .ok (.istore 4, 2) := by decide +kernel
theorem dX13_ask1_12 : decode cX13_ask1 12 = .ok (.iload 4, 2) := by decide +kernel
theorem dX13_ask1_14 : decode cX13_ask1 14 = .ok (.iconst 4, 1) := by decide +kernel
theorem dX13_ask1_15 : decode cX13_ask1 15 = .ok (.iload_n 1, 1) := by decide +kernel
theorem dX13_ask1_16 : decode cX13_ask1 16 = .ok (.imul, 1) := by decide +kernel
theorem dX13_ask1_17 : decode cX13_ask1 17 = .ok (.iconst 4, 1) := by decide +kernel
theorem dX13_ask1_18 : decode cX13_ask1 18 = .ok (.iadd, 1) := by decide +kernel
theorem dX13_ask1_19 : decode cX13_ask1 19 = .ok (.if_icmp .ge 127, 3) := by decide +kernel
theorem dX13_ask1_22 : decode cX13_ask1 22 = .ok (.aload_n 0, 1) := by decide +kernel
theorem dX13_ask1_23 : decode cX13_ask1 23 = .ok (.getfield 81, 3) := by decide +kernel
theorem dX13_ask1_26 : decode cX13_ask1 26 = .ok (.iload 4, 2) := by decide +kernel
theorem dX13_ask1_28 : decode cX13_ask1 28 = .ok (.iaload, 1) := by decide +kernel
theorem dX13_ask1_29 : decode cX13_ask1 29 = .ok (.iload_n 3, 1) := by decide +kernel
theorem dX13_ask1_30 : decode cX13_ask1 30 = .ok (.if_icmp .ne 110, 3) := by decide +kernel
theorem dX13_ask1_33 : decode cX13_ask1 33 = .ok (.aload_n 0, 1) := by decide +kernel
theorem dX13_ask1_34 : decode cX13_ask1 34 = .ok (.getfield 78, 3) := by decide +kernel
theorem dX13_ask1_37 : decode cX13_ask1 37 = .ok (.bipush 16, 2) := by decide +kernel
theorem dX13_ask1_39 : decode cX13_ask1 39 = .ok (.iload 4, 2) := by decide +kernel
theorem dX13_ask1_41 : decode cX13_ask1 41 = .ok (.imul, 1) := by decide +kernel
theorem dX13_ask1_42 : decode cX13_ask1 42 = .ok (.aload_n 0, 1) := by decide +kernel
theorem dX13_ask1_43 : decode cX13_ask1 43 = .ok (.getfield 166, 3) := by decide +kernel
theorem dX13_ask1_46 : decode cX13_ask1 46 = .ok (.sipush 240, 3) := by decide +kernel
theorem dX13_ask1_49 : decode cX13_ask1 49 = .ok (.invokestatic 257, 3) := by decide +kernel
theorem dX13_ask1_52 : decode cX13_ask1 52 = .ok (.ifCond .eq 88, 3) := by decide +kernel
theorem dX13_ask1_55 : decode cX13_ask1 55 = .ok (.aload_n 0, 1) := by decide +kernel
theorem dX13_ask1_56 : decode cX13_ask1 56 = .ok (.getfield 84, 3) := by decide +kernel
theorem dX13_ask1_59 : decode cX13_ask1 59 = .ok (.iload 4, 2) := by decide +kernel
theorem dX13_ask1_61 : decode cX13_ask1 61 = .ok (.laload, 1) := by decide +kernel
theorem dX13_ask1_62 : decode cX13_ask1 62 = .ok (.aload_n 0, 1) := by decide +kernel
theorem dX13_ask1_63 : decode cX13_ask1 63 = .ok (.getfield 226, 3) := by decide +kernel
theorem dX13_ask1_66 : decode cX13_ask1 66 = .ok (.lsub, 1) := by decide +kernel
theorem dX13_ask1_67 : decode cX13_ask1 67 = .ok (.ldc2_w 297, 3) := by decide +kernel
theorem dX13_ask1_70 : decode cX13_ask1 70 = .ok (.lcmp, 1) := by decide +kernel
theorem dX13_ask1_71 : decode cX13_ask1 71 = .ok (.ifCond .le 6, 3) := by decide +kernel
theorem dX13_ask1_74 : decode cX13_ask1 74 = .ok (.goto 66, 3) := by decide +kernel
theorem dX13_ask1_77 : decode cX13_ask1 77 = .ok (.aload_n 0, 1) := by decide +kernel
theorem dX13_ask1_78 : decode cX13_ask1 78 = .ok (.getfield 32, 3) := by decide +kernel
theorem dX13_ask1_81 : decode cX13_ask1 81 = .ok (.iload_n 1, 1) := by decide +kernel
theorem dX13_ask1_82 : decode cX13_ask1 82 = .ok (.dup2, 1) := by decide +kernel
theorem dX13_ask1_83 : decode cX13_ask1 83 = .ok (.iaload, 1) := by decide +kernel
theorem dX13_ask1_84 : decode cX13_ask1 84 = .ok (.iconst 1, 1) := by decide +kernel
theorem dX13_ask1_85 : decode cX13_ask1 85 = .ok (.iadd, 1) := by decide +kernel
theorem dX13_ask1_86 : decode cX13_ask1 86 = .ok (.iastore, 1) := by decide +kernel
theorem dX13_ask1_87 : decode cX13_ask1 87 = .ok (.aload_n 0, 1) := by decide +kernel
theorem dX13_ask1_88 : decode cX13_ask1 88 = .ok (.getfield 84, 3) := by decide +kernel
theorem dX13_ask1_91 : decode cX13_ask1 91 = .ok (.iload 4, 2) := by decide +kernel
theorem dX13_ask1_93 : decode cX13_ask1 93 = .ok (.dup2, 1) := by decide +kernel
theorem dX13_ask1_94 : decode cX13_ask1 94 = .ok (.laload, 1) := by decide +kernel
theorem dX13_ask1_95 : decode cX13_ask1 95 = .ok (.aload_n 0, 1) := by decide +kernel
theorem dX13_ask1_96 : decode cX13_ask1 96 = .ok (.getfield 87, 3) := by decide +kernel
theorem dX13_ask1_99 : decode cX13_ask1 99 = .ok (.iload 4, 2) := by decide +kernel
theorem dX13_ask1_101 : decode cX13_ask1 101 = .ok (.iaload, 1) := by decide +kernel
theorem dX13_ask1_102 : decode cX13_ask1 102 = .ok (.i2l, 1) := by decide +kernel
theorem dX13_ask1_103 : decode cX13_ask1 103 = .ok (.ladd, 1) := by decide +kernel
theorem dX13_ask1_104 : decode cX13_ask1 104 = .ok (.lastore, 1) := by decide +kernel
theorem dX13_ask1_105 : decode cX13_ask1 105 = .ok (.aload_n 0, 1) := by decide +kernel
theorem dX13_ask1_106 : decode cX13_ask1 106 = .ok (.getfield 87, 3) := by decide +kernel
theorem dX13_ask1_109 : decode cX13_ask1 109 = .ok (.iload 4, 2) := by decide +kernel
theorem dX13_ask1_111 : decode cX13_ask1 111 = .ok (.aload_n 0, 1) := by decide +kernel
theorem dX13_ask1_112 : decode cX13_ask1 112 = .ok (.getfield 87, 3) := by decide +kernel
theorem dX13_ask1_115 : decode cX13_ask1 115 = .ok (.iload 4, 2) := by decide +kernel
theorem dX13_ask1_117 : decode cX13_ask1 117 = .ok (.iaload, 1) := by decide +kernel
theorem dX13_ask1_118 : decode cX13_ask1 118 = .ok (.ldc_w 292, 3) := by decide +kernel
theorem dX13_ask1_121 : decode cX13_ask1 121 = .ok (.if_icmp .ge 15, 3) := by decide +kernel
theorem dX13_ask1_124 : decode cX13_ask1 124 = .ok (.iconst 2, 1) := by decide +kernel
theorem dX13_ask1_125 : decode cX13_ask1 125 = .ok (.aload_n 0, 1) := by decide +kernel
theorem dX13_ask1_126 : decode cX13_ask1 126 = .ok (.getfield 87, 3) := by decide +kernel
theorem dX13_ask1_129 : decode cX13_ask1 129 = .ok (.iload 4, 2) := by decide +kernel
theorem dX13_ask1_131 : decode cX13_ask1 131 = .ok (.iaload, 1) := by decide +kernel
theorem dX13_ask1_132 : decode cX13_ask1 132 = .ok (.imul, 1) := by decide +kernel
theorem dX13_ask1_133 : decode cX13_ask1 133 = .ok (.goto 6, 3) := by decide +kernel
theorem dX13_ask1_136 : decode cX13_ask1 136 = .ok (.ldc_w 292, 3) := by decide +kernel
theorem dX13_ask1_139 : decode cX13_ask1 139 = .ok (.iastore, 1) := by decide +kernel
theorem dX13_ask1_140 : decode cX13_ask1 140 = .ok (.iinc 4 1, 3) := by decide +kernel
theorem dX13_ask1_143 : decode cX13_ask1 143 = .ok (.goto (-131), 3) := by decide +kernel
theorem dX13_ask1_146 : decode cX13_ask1 146 = .ok (.aload_n 0, 1) := by decide +kernel
theorem dX13_ask1_147 : decode cX13_ask1 147 = .ok (.getfield 51, 3) := by decide +kernel
theorem dX13_ask1_150 : decode cX13_ask1 150 = .ok (.iload_n 1, 1) := by decide +kernel
theorem dX13_ask1_151 : decode cX13_ask1 151 = .ok (.iaload, 1) := by decide +kernel
theorem dX13_ask1_152 : decode cX13_ask1 152 = .ok (.iconst 3, 1) := by decide +kernel
theorem dX13_ask1_153 : decode cX13_ask1 153 = .ok (.if_icmp .eq 4, 3) := by decide +kernel
theorem dX13_ask1_156 : decode cX13_ask1 156 = .ok (.return_, 1) := by decide +kernel
theorem dX13_ask1_157 : decode cX13_ask1 157 = .ok (.iload_n 3, 1) := by decide +kernel
theorem dX13_ask1_158 : decode cX13_ask1 158 = .ok (.iconst 1, 1) := by decide +kernel
theorem dX13_ask1_159 : decode cX13_ask1 159 = .ok (.if_icmp .ne 88, 3) := by decide +kernel
theorem dX13_ask1_162 : decode cX13_ask1 162 = .ok (.aload_n 0, 1) := by decide +kernel
theorem dX13_ask1_163 : decode cX13_ask1 163 = .ok (.getfield 66, 3) := by decide +kernel
theorem dX13_ask1_166 : decode cX13_ask1 166 = .ok (.bipush 16, 2) := by decide +kernel
theorem dX13_ask1_168 : decode cX13_ask1 168 = .ok (.iload_n 1, 1) := by decide +kernel
theorem dX13_ask1_169 : decode cX13_ask1 169 = .ok (.imul, 1) := by decide +kernel
theorem dX13_ask1_170 : decode cX13_ask1 170 = .ok (.aload_n 0, 1) := by decide +kernel
theorem dX13_ask1_171 : decode cX13_ask1 171 = .ok (.getfield 166, 3) := by decide +kernel
theorem dX13_ask1_174 : decode cX13_ask1 174 = .ok (.sipush 240, 3) := by decide +kernel
theorem dX13_ask1_177 : decode cX13_ask1 177 = .ok (.invokestatic 257, 3) := by decide +kernel
theorem dX13_ask1_180 : decode cX13_ask1 180 = .ok (.ifCond .ne 7, 3) := by decide +kernel
theorem dX13_ask1_183 : decode cX13_ask1 183 = .ok (.iconst 1, 1) := by decide +kernel
theorem dX13_ask1_184 : decode cX13_ask1 184 = .ok (.goto 4, 3) := by decide +kernel
theorem dX13_ask1_187 : decode cX13_ask1 187 = .ok (.iconst 0, 1) := by decide +kernel
theorem dX13_ask1_188 : decode cX13_ask1 188 = .ok (.istore 4, 2) := by decide +kernel
theorem dX13_ask1_190 : decode cX13_ask1 190 = .ok (.iconst 0, 1) := by decide +kernel
theorem dX13_ask1_191 : decode cX13_ask1 191 = .ok (.istore 5, 2) := by decide +kernel
theorem dX13_ask1_193 : decode cX13_ask1 193 = .ok (.iload 5, 2) := by decide +kernel
theorem dX13_ask1_195 : decode cX13_ask1 195 = .ok (.iload_n 2, 1) := by decide +kernel
theorem dX13_ask1_196 : decode cX13_ask1 196 = .ok (.if_icmp .ge 36, 3) := by decide +kernel
theorem dX13_ask1_199 : decode cX13_ask1 199 = .ok (.iload 4, 2) := by decide +kernel
theorem dX13_ask1_201 : decode cX13_ask1 201 = .ok (.ifCond .ne 18, 3) := by decide +kernel
theorem dX13_ask1_204 : decode cX13_ask1 204 = .ok (.aload_n 0, 1) := by decide +kernel
theorem dX13_ask1_205 : decode cX13_ask1 205 = .ok (.getfield 181, 3) := by decide +kernel
theorem dX13_ask1_208 : decode cX13_ask1 208 = .ok (.iload 5, 2) := by decide +kernel
theorem dX13_ask1_210 : decode cX13_ask1 210 = .ok (.iaload, 1) := by decide +kernel
theorem dX13_ask1_211 : decode cX13_ask1 211 = .ok (.aload_n 0, 1) := by decide +kernel
theorem dX13_ask1_212 : decode cX13_ask1 212 = .ok (.iload_n 1, 1) := by decide +kernel
theorem dX13_ask1_213 : decode cX13_ask1 213 = .ok (.invokevirtual 240, 3) := by decide +kernel
theorem dX13_ask1_216 : decode cX13_ask1 216 = .ok (.if_icmp .ne 7, 3) := by decide +kernel
theorem dX13_ask1_219 : decode cX13_ask1 219 = .ok (.iconst 1, 1) := by decide +kernel
theorem dX13_ask1_220 : decode cX13_ask1 220 = .ok (.goto 4, 3) := by decide +kernel
theorem dX13_ask1_223 : decode cX13_ask1 223 = .ok (.iconst 0, 1) := by decide +kernel
theorem dX13_ask1_224 : decode cX13_ask1 224 = .ok (.istore 4, 2) := by decide +kernel
theorem dX13_ask1_226 : decode cX13_ask1 226 = .ok (.iinc 5 1, 3) := by decide +kernel
theorem dX13_ask1_229 : decode cX13_ask1 229 = .ok (.goto (-36), 3) := by decide +kernel
theorem dX13_ask1_232 : decode cX13_ask1 232 = .ok (.iload 4, 2) := by decide +kernel
theorem dX13_ask1_234 : decode cX13_ask1 234 = .ok (.ifCond .ne 12, 3) := by decide +kernel
theorem dX13_ask1_237 : decode cX13_ask1 237 = .ok (.aload_n 0, 1) := by decide +kernel
theorem dX13_ask1_238 : decode cX13_ask1 238 = .ok (.iload_n 1, 1) := by decide +kernel
theorem dX13_ask1_239 : decode cX13_ask1 239 = .ok (.ldc_w 287, 3) := by decide +kernel
theorem dX13_ask1_242 : decode cX13_ask1 242 = .ok (.iconst 0, 1) := by decide +kernel
theorem dX13_ask1_243 : decode cX13_ask1 243 = .ok (.invokevirtual 288, 3) := by decide +kernel
theorem dX13_ask1_246 : decode cX13_ask1 246 = .ok (.return_, 1) := by decide +kernel
theorem dX13_ask1_247 : decode cX13_ask1 247 = .ok (.iconst 0, 1) := by decide +kernel
theorem dX13_ask1_248 : decode cX13_ask1 248 = .ok (.istore 4, 2) := by decide +kernel
theorem dX13_ask1_250 : decode cX13_ask1 250 = .ok (.iconst 0, 1) := by decide +kernel
theorem dX13_ask1_251 : decode cX13_ask1 251 = .ok (.istore 5, 2) := by decide +kernel
theorem dX13_ask1_253 : decode cX13_ask1 253 = .ok (.iload 5, 2) := by decide +kernel
theorem dX13_ask1_255 : decode cX13_ask1 255 = .ok (.aload_n 0, 1) := by decide +kernel
theorem dX13_ask1_256 : decode cX13_ask1 256 = .ok (.getfield 75, 3) := by decide +kernel
theorem dX13_ask1_259 : decode cX13_ask1 259 = .ok (.iload_n 1, 1) := by decide +kernel
theorem dX13_ask1_260 : decode cX13_ask1 260 = .ok (.iaload, 1) := by decide +kernel
theorem dX13_ask1_261 : decode cX13_ask1 261 = .ok (.if_icmp .ge 130, 3) := by decide +kernel
theorem dX13_ask1_264 : decode cX13_ask1 264 = .ok (.aload_n 0, 1) := by decide +kernel
theorem dX13_ask1_265 : decode cX13_ask1 265 = .ok (.getfield 69, 3) := by decide +kernel
theorem dX13_ask1_268 : decode cX13_ask1 268 = .ok (.bipush 64, 2) := by decide +kernel
theorem dX13_ask1_270 : decode cX13_ask1 270 = .ok (.iload_n 1, 1) := by decide +kernel
theorem dX13_ask1_271 : decode cX13_ask1 271 = .ok (.imul, 1) := by decide +kernel
theorem dX13_ask1_272 : decode cX13_ask1 272 = .ok (.bipush 16, 2) := by decide +kernel
theorem dX13_ask1_274 : decode cX13_ask1 274 = .ok (.iload 5, 2) := by decide +kernel
theorem dX13_ask1_276 : decode cX13_ask1 276 = .ok (.imul, 1) := by decide +kernel
theorem dX13_ask1_277 : decode cX13_ask1 277 = .ok (.iadd, 1) := by decide +kernel
theorem dX13_ask1_278 : decode cX13_ask1 278 = .ok (.aload_n 0, 1) := by decide +kernel
theorem dX13_ask1_279 : decode cX13_ask1 279 = .ok (.getfield 166, 3) := by decide +kernel
theorem dX13_ask1_282 : decode cX13_ask1 282 = .ok (.sipush 240, 3) := by decide +kernel
theorem dX13_ask1_285 : decode cX13_ask1 285 = .ok (.invokestatic 257, 3) := by decide +kernel
theorem dX13_ask1_288 : decode cX13_ask1 288 = .ok (.ifCond .ne 6, 3) := by decide +kernel
theorem dX13_ask1_291 : decode cX13_ask1 291 = .ok (.goto 94, 3) := by decide +kernel
theorem dX13_ask1_294 : decode cX13_ask1 294 = .ok (.iconst 0, 1) := by decide +kernel
theorem dX13_ask1_295 : decode cX13_ask1 295 = .ok (.istore 6, 2) := by decide +kernel
theorem dX13_ask1_297 : decode cX13_ask1 297 = .ok (.iconst 0, 1) := by decide +kernel
theorem dX13_ask1_298 : decode cX13_ask1 298 = .ok (.istore 7, 2) := by decide +kernel
theorem dX13_ask1_300 : decode cX13_ask1 300 = .ok (.iload 7, 2) := by decide +kernel
theorem dX13_ask1_302 : decode cX13_ask1 302 = .ok (.iload_n 2, 1) := by decide +kernel
theorem dX13_ask1_303 : decode cX13_ask1 303 = .ok (.if_icmp .ge 65, 3) := by decide +kernel
theorem dX13_ask1_306 : decode cX13_ask1 306 = .ok (.iload 6, 2) := by decide +kernel
theorem dX13_ask1_308 : decode cX13_ask1 308 = .ok (.ifCond .ne 47, 3) := by decide +kernel
theorem dX13_ask1_311 : decode cX13_ask1 311 = .ok (.aload_n 0, 1) := by decide +kernel
theorem dX13_ask1_312 : decode cX13_ask1 312 = .ok (.getfield 181, 3) := by decide +kernel
theorem dX13_ask1_315 : decode cX13_ask1 315 = .ok (.iload 7, 2) := by decide +kernel
theorem dX13_ask1_317 : decode cX13_ask1 317 = .ok (.iaload, 1) := by decide +kernel
theorem dX13_ask1_318 : decode cX13_ask1 318 = .ok (.aload_n 0, 1) := by decide +kernel
theorem dX13_ask1_319 : decode cX13_ask1 319 = .ok (.getfield 72, 3) := by decide +kernel
theorem dX13_ask1_322 : decode cX13_ask1 322 = .ok (.iconst 4, 1) := by decide +kernel
theorem dX13_ask1_323 : decode cX13_ask1 323 = .ok (.iload_n 1, 1) := by decide +kernel
theorem dX13_ask1_324 : decode cX13_ask1 324 = .ok (.imul, 1) := by decide +kernel
theorem dX13_ask1_325 : decode cX13_ask1 325 = .ok (.iload 5, 2) := by decide +kernel
theorem dX13_ask1_327 : decode cX13_ask1 327 = .ok (.iadd, 1) := by decide +kernel
