theorem dX12_join_88 : decode cX12_join 88 = .ok (.goto (-86), 3) := by decide +kernel
theorem dX12_join_91 : decode cX12_join 91 = .ok (.return_, 1) := by decide +kernel
theorem dX12_deliverFirst_0 : decode cX12_deliverFirst 0 = .ok (.aload_n 0, 1) := by decide +kernel
theorem dX12_deliverFirst_1 : decode cX12_deliverFirst 1 = .ok (.getfield 33, 3) := by decide +kernel
theorem dX12_deliverFirst_4 : decode cX12_deliverFirst 4 = .ok (.aload_n 0, 1) := by decide +kernel
theorem dX12_deliverFirst_5 : decode cX12_deliverFirst 5 = .ok (.getfield 37, 3) := by decide +kernel
theorem dX12_deliverFirst_8 : decode cX12_deliverFirst 8 = .ok (.aaload, 1) := by decide +kernel
theorem dX12_deliverFirst_9 : decode cX12_deliverFirst 9 = .ok (.astore_n 1, 1) := by decide +kernel
theorem dX12_deliverFirst_10 : decode cX12_deliverFirst 10 = .ok (.aload_n 0, 1) := by decide +kernel
theorem dX12_deliverFirst_11 : decode cX12_deliverFirst 11 = .ok (.dup, 1) := by decide +kernel
theorem dX12_deliverFirst_12 : decode cX12_deliverFirst 12 = .ok (.getfield 37, 3) := by decide +kernel
theorem dX12_deliverFirst_15 : decode cX12_deliverFirst 15 = .ok (.iconst 1, 1) := by decide +kernel
theorem dX12_deliverFirst_16 : decode cX12_deliverFirst 16 = .ok (.iadd, 1) := by decide +kernel
theorem dX12_deliverFirst_17 : decode cX12_deliverFirst 17 = .ok (.putfield 37, 3) := by decide +kernel
theorem dX12_deliverFirst_20 : decode cX12_deliverFirst 20 = .ok (.aload_n 1, 1) := by decide +kernel
theorem dX12_deliverFirst_21 : decode cX12_deliverFirst 21 = .ok (.ifnonnull 4, 3) := by decide +kernel
theorem dX12_deliverFirst_24 : decode cX12_deliverFirst 24 = .ok (.return_, 1) := by decide +kernel
theorem dX12_deliverFirst_25 : decode cX12_deliverFirst 25 = .ok (.aload_n 1, 1) := by decide +kernel
theorem dX12_deliverFirst_26 : decode cX12_deliverFirst 26 = .ok (.getfield 206, 3) := by decide +kernel
theorem dX12_deliverFirst_29 : decode cX12_deliverFirst 29 = .ok (.istore_n 2, 1) := by decide +kernel
theorem dX12_deliverFirst_30 : decode cX12_deliverFirst 30 = .ok (.aload_n 1, 1) := by decide +kernel
theorem dX12_deliverFirst_31 : decode cX12_deliverFirst 31 = .ok (.getfield 209, 3) := by decide +kernel
theorem dX12_deliverFirst_34 : decode cX12_deliverFirst 34 = .ok (.istore_n 3, 1) := by decide +kernel
theorem dX12_deliverFirst_35 : decode cX12_deliverFirst 35 = .ok (.aload_n 0, 1) := by decide +kernel
theorem dX12_deliverFirst_36 : decode cX12_deliverFirst 36 = .ok (.getfield 25, 3) := by decide +kernel
theorem dX12_deliverFirst_39 : decode cX12_deliverFirst 39 = .ok (.aload_n 1, 1) := by decide +kernel
theorem dX12_deliverFirst_40 : decode cX12_deliverFirst 40 = .ok (.invokevirtual 180, 3) := by decide +kernel
theorem dX12_deliverFirst_43 : decode cX12_deliverFirst 43 = .ok (.istore 4, 2) := by decide +kernel
theorem dX12_deliverFirst_45 : decode cX12_deliverFirst 45 = .ok (.iconst 0, 1) := by decide +kernel
theorem dX12_deliverFirst_46 : decode cX12_deliverFirst 46 = .ok (.istore 5, 2) := by decide +kernel
theorem dX12_deliverFirst_48 : decode cX12_deliverFirst 48 = .ok (.iload 5, 2) := by decide +kernel
theorem dX12_deliverFirst_50 : decode cX12_deliverFirst 50 = .ok (.bipush 8, 2) := by decide +kernel
theorem dX12_deliverFirst_52 : decode cX12_deliverFirst 52 = .ok (.if_icmp .ge 94, 3) := by decide +kernel
theorem dX12_deliverFirst_55 : decode cX12_deliverFirst 55 = .ok (.aload_n 0, 1) := by decide +kernel
theorem dX12_deliverFirst_56 : decode cX12_deliverFirst 56 = .ok (.getfield 11, 3) := by decide +kernel
theorem dX12_deliverFirst_59 : decode cX12_deliverFirst 59 = .ok (.iload 5, 2) := by decide +kernel
theorem dX12_deliverFirst_61 : decode cX12_deliverFirst 61 = .ok (.aaload, 1) := by decide +kernel
theorem dX12_deliverFirst_62 : decode cX12_deliverFirst 62 = .ok (.astore 6, 2) := by decide +kernel
theorem dX12_deliverFirst_64 : decode cX12_deliverFirst 64 = .ok (.iload 5, 2) := by decide +kernel
theorem dX12_deliverFirst_66 : decode cX12_deliverFirst 66 = .ok (.iload_n 2, 1) := by decide +kernel
theorem dX12_deliverFirst_67 : decode cX12_deliverFirst 67 = .ok (.if_icmp .eq 73, 3) := by decide +kernel
theorem dX12_deliverFirst_70 : decode cX12_deliverFirst 70 = .ok (.aload 6, 2) := by decide +kernel
theorem dX12_deliverFirst_72 : decode cX12_deliverFirst 72 = .ok (.getfield 83, 3) := by decide +kernel
theorem dX12_deliverFirst_75 : decode cX12_deliverFirst 75 = .ok (.ifCond .eq 65, 3) := by decide +kernel
theorem dX12_deliverFirst_78 : decode cX12_deliverFirst 78 = .ok (.aload 6, 2) := by decide +kernel
theorem dX12_deliverFirst_80 : decode cX12_deliverFirst 80 = .ok (.getfield 199, 3) := by decide +kernel
theorem dX12_deliverFirst_83 : decode cX12_deliverFirst 83 = .ok (.iload_n 3, 1) := by decide +kernel
theorem dX12_deliverFirst_84 : decode cX12_deliverFirst 84 = .ok (.if_icmp .eq 6, 3) := by decide +kernel
theorem dX12_deliverFirst_87 : decode cX12_deliverFirst 87 = .ok (.goto 53, 3) := by decide +kernel
theorem dX12_deliverFirst_90 : decode cX12_deliverFirst 90 = .ok (.aload 6, 2) := by decide +kernel
theorem dX12_deliverFirst_92 : decode cX12_deliverFirst 92 = .ok (.getfield 177, 3) := by decide +kernel
theorem dX12_deliverFirst_95 : decode cX12_deliverFirst 95 = .ok (.ifCond .le 27, 3) := by decide +kernel
theorem dX12_deliverFirst_98 : decode cX12_deliverFirst 98 = .ok (.aload 6, 2) := by decide +kernel
theorem dX12_deliverFirst_100 : decode cX12_deliverFirst 100 = .ok (.dup, 1) := by decide +kernel
theorem dX12_deliverFirst_101 : decode cX12_deliverFirst 101 = .ok (.getfield 177, 3) := by decide +kernel
theorem dX12_deliverFirst_104 : decode cX12_deliverFirst 104 = .ok (.iconst 1, 1) := by decide +kernel
theorem dX12_deliverFirst_105 : decode cX12_deliverFirst 105 = .ok (.isub, 1) := by decide +kernel
theorem dX12_deliverFirst_106 : decode cX12_deliverFirst 106 = .ok (.putfield 177, 3) := by decide +kernel
theorem dX12_deliverFirst_109 : decode cX12_deliverFirst 109 = .ok (.aload_n 0, 1) := by decide +kernel
theorem dX12_deliverFirst_110 : decode cX12_deliverFirst 110 = .ok (.getfield 29, 3) := by decide +kernel
theorem dX12_deliverFirst_113 : decode cX12_deliverFirst 113 = .ok (.iconst 4, 1) := by decide +kernel
theorem dX12_deliverFirst_114 : decode cX12_deliverFirst 114 = .ok (.dup2, 1) := by decide +kernel
theorem dX12_deliverFirst_115 : decode cX12_deliverFirst 115 = .ok (.iaload, 1) := by decide +kernel
theorem dX12_deliverFirst_116 : decode cX12_deliverFirst 116 = .ok (.iconst 1, 1) := by decide +kernel
theorem dX12_deliverFirst_117 : decode cX12_deliverFirst 117 = .ok (.iadd, 1) := by decide +kernel
theorem dX12_deliverFirst_118 : decode cX12_deliverFirst 118 = .ok (.iastore, 1) := by decide +kernel
theorem dX12_deliverFirst_119 : decode cX12_deliverFirst 119 = .ok (.goto 21, 3) := by decide +kernel
theorem dX12_deliverFirst_122 : decode cX12_deliverFirst 122 = .ok (.aload_n 0, 1) := by decide +kernel
theorem dX12_deliverFirst_123 : decode cX12_deliverFirst 123 = .ok (.getfield 29, 3) := by decide +kernel
theorem dX12_deliverFirst_126 : decode cX12_deliverFirst 126 = .ok (.iconst 3, 1) := by decide +kernel
theorem dX12_deliverFirst_127 : decode cX12_deliverFirst 127 = .ok (.dup2, 1) := by decide +kernel
theorem dX12_deliverFirst_128 : decode cX12_deliverFirst 128 = .ok (.iaload, 1) := by decide +kernel
theorem dX12_deliverFirst_129 : decode cX12_deliverFirst 129 = .ok (.iconst 1, 1) := by decide +kernel
theorem dX12_deliverFirst_130 : decode cX12_deliverFirst 130 = .ok (.iadd, 1) := by decide +kernel
theorem dX12_deliverFirst_131 : decode cX12_deliverFirst 131 = .ok (.iastore, 1) := by decide +kernel
theorem dX12_deliverFirst_132 : decode cX12_deliverFirst 132 = .ok (.aload_n 0, 1) := by decide +kernel
theorem dX12_deliverFirst_133 : decode cX12_deliverFirst 133 = .ok (.aload 6, 2) := by decide +kernel
theorem dX12_deliverFirst_135 : decode cX12_deliverFirst 135 = .ok (.iload 4, 2) := by decide +kernel
theorem dX12_deliverFirst_137 : decode cX12_deliverFirst 137 = .ok (.invokevirtual 184, 3) := by decide +kernel
theorem dX12_deliverFirst_140 : decode cX12_deliverFirst 140 = .ok (.iinc 5 1, 3) := by decide +kernel
theorem dX12_deliverFirst_143 : decode cX12_deliverFirst 143 = .ok (.goto (-95), 3) := by decide +kernel
theorem dX12_deliverFirst_146 : decode cX12_deliverFirst 146 = .ok (.return_, 1) := by decide +kernel
theorem dX12_nextDue_0 : decode cX12_nextDue 0 = .ok (.ldc2_w 210, 3) := by decide +kernel
theorem dX12_nextDue_3 : decode cX12_nextDue 3 = .ok (.lstore_n 1, 1) := by decide +kernel
theorem dX12_nextDue_4 : decode cX12_nextDue 4 = .ok (.iconst 0, 1) := by decide +kernel
theorem dX12_nextDue_5 : decode cX12_nextDue 5 = .ok (.istore_n 3, 1) := by decide +kernel
theorem dX12_nextDue_6 : decode cX12_nextDue 6 = .ok (.iload_n 3, 1) := by decide +kernel
theorem dX12_nextDue_7 : decode cX12_nextDue 7 = .ok (.bipush 8, 2) := by decide +kernel
theorem dX12_nextDue_9 : decode cX12_nextDue 9 = .ok (.if_icmp .ge 35, 3) := by decide +kernel
theorem dX12_nextDue_12 : decode cX12_nextDue 12 = .ok (.aload_n 0, 1) := by decide +kernel
theorem dX12_nextDue_13 : decode cX12_nextDue 13 = .ok (.getfield 11, 3) := by decide +kernel
theorem dX12_nextDue_16 : decode cX12_nextDue 16 = .ok (.iload_n 3, 1) := by decide +kernel
theorem dX12_nextDue_17 : decode cX12_nextDue 17 = .ok (.aaload, 1) := by decide +kernel
theorem dX12_nextDue_18 : decode cX12_nextDue 18 = .ok (.getfield 83, 3) := by decide +kernel
theorem dX12_nextDue_21 : decode cX12_nextDue 21 = .ok (.ifCond .eq 17, 3) := by decide +kernel
theorem dX12_nextDue_24 : decode cX12_nextDue 24 = .ok (.lload_n 1, 1) := by decide +kernel
theorem dX12_nextDue_25 : decode cX12_nextDue 25 = .ok (.aload_n 0, 1) := by decide +kernel
theorem dX12_nextDue_26 : decode cX12_nextDue 26 = .ok (.getfield 11, 3) := by decide +kernel
theorem dX12_nextDue_29 : decode cX12_nextDue 29 = .ok (.iload_n 3, 1) := by decide +kernel
theorem dX12_nextDue_30 : decode cX12_nextDue 30 = .ok (.aaload, 1) := by decide +kernel
theorem dX12_nextDue_31 : decode cX12_nextDue 31 = .ok (.invokevirtual 212, 3) := by decide +kernel
theorem dX12_nextDue_34 : decode cX12_nextDue 34 = .ok (.invokestatic 213, 3) := by decide +kernel
theorem dX12_nextDue_37 : decode cX12_nextDue 37 = .ok (.lstore_n 1, 1) := by decide +kernel
theorem dX12_nextDue_38 : decode cX12_nextDue 38 = .ok (.iinc 3 1, 3) := by decide +kernel
theorem dX12_nextDue_41 : decode cX12_nextDue 41 = .ok (.goto (-35), 3) := by decide +kernel
theorem dX12_nextDue_44 : decode cX12_nextDue 44 = .ok (.lload_n 1, 1) := by decide +kernel
theorem dX12_nextDue_45 : decode cX12_nextDue 45 = .ok (.lreturn, 1) := by decide +kernel
theorem dX12_actFirst_0 : decode cX12_actFirst 0 = .ok (.iconst 0, 1) := by decide +kernel
theorem dX12_actFirst_1 : decode cX12_actFirst 1 = .ok (.istore_n 1, 1) := by decide +kernel
theorem dX12_actFirst_2 : decode cX12_actFirst 2 = .ok (.iload_n 1, 1) := by decide +kernel
theorem dX12_actFirst_3 : decode cX12_actFirst 3 = .ok (.bipush 8, 2) := by decide +kernel
theorem dX12_actFirst_5 : decode cX12_actFirst 5 = .ok (.if_icmp .ge 36, 3) := by decide +kernel
theorem dX12_actFirst_8 : decode cX12_actFirst 8 = .ok (.aload_n 0, 1) := by decide +kernel
theorem dX12_actFirst_9 : decode cX12_actFirst 9 = .ok (.getfield 11, 3) := by decide +kernel
theorem dX12_actFirst_12 : decode cX12_actFirst 12 = .ok (.iload_n 1, 1) := by decide +kernel
theorem dX12_actFirst_13 : decode cX12_actFirst 13 = .ok (.aaload, 1) := by decide +kernel
theorem dX12_actFirst_14 : decode cX12_actFirst 14 = .ok (.getfield 83, 3) := by decide +kernel
theorem dX12_actFirst_17 : decode cX12_actFirst 17 = .ok (.ifCond .eq 18, 3) := by decide +kernel
theorem dX12_actFirst_20 : decode cX12_actFirst 20 = .ok (.aload_n 0, 1) := by decide +kernel
theorem dX12_actFirst_21 : decode cX12_actFirst 21 = .ok (.aload_n 0, 1) := by decide +kernel
theorem dX12_actFirst_22 : decode cX12_actFirst 22 = .ok (.getfield 11, 3) := by decide +kernel
theorem dX12_actFirst_25 : decode cX12_actFirst 25 = .ok (.iload_n 1, 1) := by decide +kernel
theorem dX12_actFirst_26 : decode cX12_actFirst 26 = .ok (.aaload, 1) := by decide +kernel
theorem dX12_actFirst_27 : decode cX12_actFirst 27 = .ok (.invokevirtual 219, 3) := by decide +kernel
theorem dX12_actFirst_30 : decode cX12_actFirst 30 = .ok (.ifCond .eq 5, 3) := by decide +kernel
theorem dX12_actFirst_33 : decode cX12_actFirst 33 = .ok (.iconst 1, 1) := by decide +kernel
theorem dX12_actFirst_34 : decode cX12_actFirst 34 = .ok (.ireturn, 1) := by decide +kernel
theorem dX12_actFirst_35 : decode cX12_actFirst 35 = .ok (.iinc 1 1, 3) := by decide +kernel
theorem dX12_actFirst_38 : decode cX12_actFirst 38 = .ok (.goto (-36), 3) := by decide +kernel
theorem dX12_actFirst_41 : decode cX12_actFirst 41 = .ok (.iconst 0, 1) := by decide +kernel
theorem dX12_actFirst_42 : decode cX12_actFirst 42 = .ok (.ireturn, 1) := by decide +kernel
theorem dX12_act_0 : decode cX12_act 0 = .ok (.aload_n 1, 1) := by decide +kernel
theorem dX12_act_1 : decode cX12_act 1 = .ok (.getfield 131, 3) := by decide +kernel
theorem dX12_act_4 : decode cX12_act 4 = .ok (.getfield 223, 3) := by decide +kernel
theorem dX12_act_7 : decode cX12_act 7 = .ok (.aload_n 0, 1) := by decide +kernel
theorem dX12_act_8 : decode cX12_act 8 = .ok (.getfield 53, 3) := by decide +kernel
theorem dX12_act_11 : decode cX12_act 11 = .ok (.lcmp, 1) := by decide +kernel
theorem dX12_act_12 : decode cX12_act 12 = .ok (.ifCond .gt 10, 3) := by decide +kernel
theorem dX12_act_15 : decode cX12_act 15 = .ok (.aload_n 0, 1) := by decide +kernel
theorem dX12_act_16 : decode cX12_act 16 = .ok (.aload_n 1, 1) := by decide +kernel
theorem dX12_act_17 : decode cX12_act 17 = .ok (.invokevirtual 226, 3) := by decide +kernel
theorem dX12_act_20 : decode cX12_act 20 = .ok (.iconst 1, 1) := by decide +kernel
theorem dX12_act_21 : decode cX12_act 21 = .ok (.ireturn, 1) := by decide +kernel
theorem dX12_act_22 : decode cX12_act 22 = .ok (.aload_n 1, 1) := by decide +kernel
theorem dX12_act_23 : decode cX12_act 23 = .ok (.getfield 98, 3) := by decide +kernel
theorem dX12_act_26 : decode cX12_act 26 = .ok (.getfield 230, 3) := by decide +kernel
theorem dX12_act_29 : decode cX12_act 29 = .ok (.aload_n 0, 1) := by decide +kernel
theorem dX12_act_30 : decode cX12_act 30 = .ok (.getfield 53, 3) := by decide +kernel
theorem dX12_act_33 : decode cX12_act 33 = .ok (.lcmp, 1) := by decide +kernel
theorem dX12_act_34 : decode cX12_act 34 = .ok (.ifCond .gt 10, 3) := by decide +kernel
theorem dX12_act_37 : decode cX12_act 37 = .ok (.aload_n 0, 1) := by decide +kernel
theorem dX12_act_38 : decode cX12_act 38 = .ok (.aload_n 1, 1) := by decide +kernel
theorem dX12_act_39 : decode cX12_act 39 = .ok (.invokevirtual 231, 3) := by decide +kernel
theorem dX12_act_42 : decode cX12_act 42 = .ok (.iconst 1, 1) := by decide +kernel
theorem dX12_act_43 : decode cX12_act 43 = .ok (.ireturn, 1) := by decide +kernel
theorem dX12_act_44 : decode cX12_act 44 = .ok (.iconst 0, 1) := by decide +kernel
theorem dX12_act_45 : decode cX12_act 45 = .ok (.istore_n 2, 1) := by decide +kernel
theorem dX12_act_46 : decode cX12_act 46 = .ok (.iload_n 2, 1) := by decide +kernel
theorem dX12_act_47 : decode cX12_act 47 = .ok (.iconst 4, 1) := by decide +kernel
theorem dX12_act_48 : decode cX12_act 48 = .ok (.if_icmp .ge 52, 3) := by decide +kernel
theorem dX12_act_51 : decode cX12_act 51 = .ok (.aload_n 1, 1) := by decide +kernel
theorem dX12_act_52 : decode cX12_act 52 = .ok (.getfield 158, 3) := by decide +kernel
theorem dX12_act_55 : decode cX12_act 55 = .ok (.iload_n 2, 1) := by decide +kernel
theorem dX12_act_56 : decode cX12_act 56 = .ok (.aaload, 1) := by decide +kernel
theorem dX12_act_57 : decode cX12_act 57 = .ok (.astore_n 3, 1) := by decide +kernel
theorem dX12_act_58 : decode cX12_act 58 = .ok (.aload_n 3, 1) := by decide +kernel
theorem dX12_act_59 : decode cX12_act 59 = .ok (.getfield 162, 3) := by decide +kernel
theorem dX12_act_62 : decode cX12_act 62 = .ok (.ifCond .eq 32, 3) := by decide +kernel
theorem dX12_act_65 : decode cX12_act 65 = .ok (.aload_n 3, 1) := by decide +kernel
theorem dX12_act_66 : decode cX12_act 66 = .ok (.getfield 234, 3) := by decide +kernel
theorem dX12_act_69 : decode cX12_act 69 = .ok (.aload_n 0, 1) := by decide +kernel
theorem dX12_act_70 : decode cX12_act 70 = .ok (.getfield 53, 3) := by decide +kernel
theorem dX12_act_73 : decode cX12_act 73 = .ok (.lcmp, 1) := by decide +kernel
theorem dX12_act_74 : decode cX12_act 74 = .ok (.ifCond .gt 20, 3) := by decide +kernel
theorem dX12_act_77 : decode cX12_act 77 = .ok (.aload_n 0, 1) := by decide +kernel
theorem dX12_act_78 : decode cX12_act 78 = .ok (.aload_n 1, 1) := by decide +kernel
theorem dX12_act_79 : decode cX12_act 79 = .ok (.aload_n 3, 1) := by decide +kernel
theorem dX12_act_80 : decode cX12_act 80 = .ok (.iconst 1, 1) := by decide +kernel
theorem dX12_act_81 : decode cX12_act 81 = .ok (.invokevirtual 235, 3) := by decide +kernel
theorem dX12_act_84 : decode cX12_act 84 = .ok (.aload_n 3, 1) := by decide +kernel
theorem dX12_act_85 : decode cX12_act 85 = .ok (.aload_n 0, 1) := by decide +kernel
theorem dX12_act_86 : decode cX12_act 86 = .ok (.getfield 53, 3) := by decide +kernel
theorem dX12_act_89 : decode cX12_act 89 = .ok (.invokevirtual 239, 3) := by decide +kernel
theorem dX12_act_92 : decode cX12_act 92 = .ok (.iconst 1, 1) := by decide +kernel
theorem dX12_act_93 : decode cX12_act 93 = .ok (.ireturn, 1) := by decide +kernel
theorem dX12_act_94 : decode cX12_act 94 = .ok (.iinc 2 1, 3) := by decide +kernel
theorem dX12_act_97 : decode cX12_act 97 = .ok (.goto (-51), 3) := by decide +kernel
theorem dX12_act_100 : decode cX12_act 100 = .ok (.iconst 0, 1) := by decide +kernel
theorem dX12_act_101 : decode cX12_act 101 = .ok (.istore_n 2, 1) := by decide +kernel
theorem dX12_act_102 : decode cX12_act 102 = .ok (.iload_n 2, 1) := by decide +kernel
theorem dX12_act_103 : decode cX12_act 103 = .ok (.aload_n 1, 1) := by decide +kernel
theorem dX12_act_104 : decode cX12_act 104 = .ok (.getfield 243, 3) := by decide +kernel
theorem dX12_act_107 : decode cX12_act 107 = .ok (.if_icmp .ge 47, 3) := by decide +kernel
theorem dX12_act_110 : decode cX12_act 110 = .ok (.aload_n 1, 1) := by decide +kernel
theorem dX12_act_111 : decode cX12_act 111 = .ok (.getfield 246, 3) := by decide +kernel
theorem dX12_act_114 : decode cX12_act 114 = .ok (.iload_n 2, 1) := by decide +kernel
theorem dX12_act_115 : decode cX12_act 115 = .ok (.aaload, 1) := by decide +kernel
theorem dX12_act_116 : decode cX12_act 116 = .ok (.getfield 250, 3) := by decide +kernel
theorem dX12_act_119 : decode cX12_act 119 = .ok (.aload_n 0, 1) := by decide +kernel
theorem dX12_act_120 : decode cX12_act 120 = .ok (.getfield 53, 3) := by decide +kernel
theorem dX12_act_123 : decode cX12_act 123 = .ok (.lcmp, 1) := by decide +kernel
theorem dX12_act_124 : decode cX12_act 124 = .ok (.ifCond .gt 24, 3) := by decide +kernel
theorem dX12_act_127 : decode cX12_act 127 = .ok (.aload_n 0, 1) := by decide +kernel
theorem dX12_act_128 : decode cX12_act 128 = .ok (.aload_n 1, 1) := by decide +kernel
theorem dX12_act_129 : decode cX12_act 129 = .ok (.aload_n 1, 1) := by decide +kernel
theorem dX12_act_130 : decode cX12_act 130 = .ok (.getfield 246, 3) := by decide +kernel
theorem dX12_act_133 : decode cX12_act 133 = .ok (.iload_n 2, 1) := by decide +kernel
theorem dX12_act_134 : decode cX12_act 134 = .ok (.aaload, 1) := by decide +kernel
theorem dX12_act_135 : decode cX12_act 135 = .ok (.getfield 253, 3) := by decide +kernel
theorem dX12_act_138 : decode cX12_act 138 = .ok (.invokevirtual 254, 3) := by decide +kernel
theorem dX12_act_141 : decode cX12_act 141 = .ok (.aload_n 1, 1) := by decide +kernel
theorem dX12_act_142 : decode cX12_act 142 = .ok (.iload_n 2, 1) := by decide +kernel
theorem dX12_act_143 : decode cX12_act 143 = .ok (.invokevirtual 258, 3) := by decide +kernel
theorem dX12_act_146 : decode cX12_act 146 = .ok (.iconst 1, 1) := by decide +kernel
theorem dX12_act_147 : decode cX12_act 147 = .ok (.ireturn, 1) := by decide +kernel
theorem dX12_act_148 : decode cX12_act 148 = .ok (.iinc 2 1, 3) := by decide +kernel
theorem dX12_act_151 : decode cX12_act 151 = .ok (.goto (-49), 3) := by decide +kernel
theorem dX12_act_154 : decode cX12_act 154 = .ok (.iconst 0, 1) := by decide +kernel
theorem dX12_act_155 : decode cX12_act 155 = .ok (.istore_n 2, 1) := by decide +kernel
theorem dX12_act_156 : decode cX12_act 156 = .ok (.iload_n 2, 1) := by decide +kernel
theorem dX12_act_157 : decode cX12_act 157 = .ok (.aload_n 1, 1) := by decide +kernel
theorem dX12_act_158 : decode cX12_act 158 = .ok (.getfield 261, 3) := by decide +kernel
theorem dX12_act_161 : decode cX12_act 161 = .ok (.getfield 265, 3) := by decide +kernel
theorem dX12_act_164 : decode cX12_act 164 = .ok (.if_icmp .ge 37, 3) := by decide +kernel
theorem dX12_act_167 : decode cX12_act 167 = .ok (.aload_n 1, 1) := by decide +kernel
theorem dX12_act_168 : decode cX12_act 168 = .ok (.getfield 261, 3) := by decide +kernel
theorem dX12_act_171 : decode cX12_act 171 = .ok (.getfield 268, 3) := by decide +kernel
theorem dX12_act_174 : decode cX12_act 174 = .ok (.iload_n 2, 1) := by decide +kernel
theorem dX12_act_175 : decode cX12_act 175 = .ok (.aaload, 1) := by decide +kernel
theorem dX12_act_176 : decode cX12_act 176 = .ok (.getfield 272, 3) := by decide +kernel
theorem dX12_act_179 : decode cX12_act 179 = .ok (.aload_n 0, 1) := by decide +kernel
theorem dX12_act_180 : decode cX12_act 180 = .ok (.getfield 53, 3) := by decide +kernel
theorem dX12_act_183 : decode cX12_act 183 = .ok (.lcmp, 1) := by decide +kernel
theorem dX12_act_184 : decode cX12_act 184 = .ok (.ifCond .gt 11, 3) := by decide +kernel
theorem dX12_act_187 : decode cX12_act 187 = .ok (.aload_n 0, 1) := by decide +kernel
theorem dX12_act_188 : decode cX12_act 188 = .ok (.aload_n 1, 1) := by decide +kernel
theorem dX12_act_189 : decode cX12_act 189 = .ok (.iload_n 2, 1) := by decide +kernel
theorem dX12_act_190 : decode cX12_act 190 = .ok (.invokevirtual 275, 3) := by decide +kernel
theorem dX12_act_193 : decode cX12_act 193 = .ok (.iconst 1, 1) := by decide +kernel
theorem dX12_act_194 : decode cX12_act 194 = .ok (.ireturn, 1) := by decide +kernel
theorem dX12_act_195 : decode cX12_act 195 = .ok (.iinc 2 1, 3) := by decide +kernel
theorem dX12_act_198 : decode cX12_act 198 = .ok (.goto (-42), 3) := by decide +kernel
theorem dX12_act_201 : decode cX12_act 201 = .ok (.iconst 0, 1) := by decide +kernel
theorem dX12_act_202 : decode cX12_act 202 = .ok (.ireturn, 1) := by decide +kernel
theorem dX12_actAddress_0 : decode cX12_actAddress 0 = .ok (.aload_n 1, 1) := by decide +kernel
theorem dX12_actAddress_1 : decode cX12_actAddress 1 = .ok (.getfield 131, 3) := by decide +kernel
theorem dX12_actAddress_4 : decode cX12_actAddress 4 = .ok (.getfield 278, 3) := by decide +kernel
theorem dX12_actAddress_7 : decode cX12_actAddress 7 = .ok (.istore_n 2, 1) := by decide +kernel
theorem dX12_actAddress_8 : decode cX12_actAddress 8 = .ok (.aload_n 0, 1) := by decide +kernel
theorem dX12_actAddress_9 : decode cX12_actAddress 9 = .ok (.aload_n 1, 1) := by decide +kernel
theorem dX12_actAddress_10 : decode cX12_actAddress 10 = .ok (.iload_n 2, 1) := by decide +kernel
theorem dX12_actAddress_11 : decode cX12_actAddress 11 = .ok (.iconst 3, 1) := by decide +kernel
theorem dX12_actAddress_12 : decode cX12_actAddress 12 = .ok (.if_icmp .ge 7, 3) := by decide +kernel
theorem dX12_actAddress_15 : decode cX12_actAddress 15 = .ok (.iconst 1, 1) := by decide +kernel
theorem dX12_actAddress_16 : decode cX12_actAddress 16 = .ok (.goto 4, 3) := by decide +kernel
theorem dX12_actAddress_19 : decode cX12_actAddress 19 = .ok (.iconst 2, 1) := by decide +kernel
theorem dX12_actAddress_20 : decode cX12_actAddress 20 = .ok (.invokevirtual 281, 3) := by decide +kernel
theorem dX12_actAddress_23 : decode cX12_actAddress 23 = .ok (.aload_n 1, 1) := by decide +kernel
theorem dX12_actAddress_24 : decode cX12_actAddress 24 = .ok (.getfield 131, 3) := by decide +kernel
theorem dX12_actAddress_27 : decode cX12_actAddress 27 = .ok (.aload_n 0, 1) := by decide +kernel
theorem dX12_actAddress_28 : decode cX12_actAddress 28 = .ok (.getfield 53, 3) := by decide +kernel
theorem dX12_actAddress_31 : decode cX12_actAddress 31 = .ok (.invokevirtual 284, 3) := by decide +kernel
theorem dX12_actAddress_34 : decode cX12_actAddress 34 = .ok (.iload_n 2, 1) := by decide +kernel
theorem dX12_actAddress_35 : decode cX12_actAddress 35 = .ok (.iconst 3, 1) := by decide +kernel
theorem dX12_actAddress_36 : decode cX12_actAddress 36 = .ok (.if_icmp .ne 28, 3) := by decide +kernel
theorem dX12_actAddress_39 : decode cX12_actAddress 39 = .ok (.aload_n 1, 1) := by decide +kernel
theorem dX12_actAddress_40 : decode cX12_actAddress 40 = .ok (.getfield 98, 3) := by decide +kernel
theorem dX12_actAddress_43 : decode cX12_actAddress 43 = .ok (.getfield 102, 3) := by decide +kernel
theorem dX12_actAddress_46 : decode cX12_actAddress 46 = .ok (.ifCond .eq 18, 3) := by decide +kernel
theorem dX12_actAddress_49 : decode cX12_actAddress 49 = .ok (.aload_n 1, 1) := by decide +kernel
theorem dX12_actAddress_50 : decode cX12_actAddress 50 = .ok (.getfield 98, 3) := by decide +kernel
theorem dX12_actAddress_53 : decode cX12_actAddress 53 = .ok (.aload_n 1, 1) := by decide +kernel
theorem dX12_actAddress_54 : decode cX12_actAddress 54 = .ok (.getfield 87, 3) := by decide +kernel
theorem dX12_actAddress_57 : decode cX12_actAddress 57 = .ok (.aload_n 0, 1) := by decide +kernel
theorem dX12_actAddress_58 : decode cX12_actAddress 58 = .ok (.getfield 53, 3) := by decide +kernel
theorem dX12_actAddress_61 : decode cX12_actAddress 61 = .ok (.invokevirtual 140, 3) := by decide +kernel
theorem dX12_actAddress_64 : decode cX12_actAddress 64 = .ok (.return_, 1) := by decide +kernel
theorem dX12_actName_0 : decode cX12_actName 0 = .ok (.aload_n 1, 1) := by decide +kernel
theorem dX12_actName_1 : decode cX12_actName 1 = .ok (.getfield 98, 3) := by decide +kernel
theorem dX12_actName_4 : decode cX12_actName 4 = .ok (.getfield 287, 3) := by decide +kernel
theorem dX12_actName_7 : decode cX12_actName 7 = .ok (.iconst 3, 1) := by decide +kernel
theorem dX12_actName_8 : decode cX12_actName 8 = .ok (.if_icmp .ge 11, 3) := by decide +kernel
theorem dX12_actName_11 : decode cX12_actName 11 = .ok (.aload_n 0, 1) := by decide +kernel
theorem dX12_actName_12 : decode cX12_actName 12 = .ok (.aload_n 1, 1) := by decide +kernel
theorem dX12_actName_13 : decode cX12_actName 13 = .ok (.invokevirtual 288, 3) := by decide +kernel
theorem dX12_actName_16 : decode cX12_actName 16 = .ok (.goto 11, 3) := by decide +kernel
theorem dX12_actName_19 : decode cX12_actName 19 = .ok (.aload_n 0, 1) := by decide +kernel
theorem dX12_actName_20 : decode cX12_actName 20 = .ok (.aload_n 1, 1) := by decide +kernel
theorem dX12_actName_21 : decode cX12_actName 21 = .ok (.ldc_w 291, 3) := by decide +kernel
theorem dX12_actName_24 : decode cX12_actName 24 = .ok (.invokevirtual 107, 3) := by decide +kernel
theorem dX12_actName_27 : decode cX12_actName 27 = .ok (.aload_n 1, 1) := by decide +kernel
theorem dX12_actName_28 : decode cX12_actName 28 = .ok (.getfield 98, 3) := by decide +kernel
theorem dX12_actName_31 : decode cX12_actName 31 = .ok (.aload_n 0, 1) := by decide +kernel
theorem dX12_actName_32 : decode cX12_actName 32 = .ok (.getfield 53, 3) := by decide +kernel
theorem dX12_actName_35 : decode cX12_actName 35 = .ok (.invokevirtual 292, 3) := by decide +kernel
theorem dX12_actName_38 : decode cX12_actName 38 = .ok (.return_, 1) := by decide +kernel
theorem dX12_actEntry_0 : decode cX12_actEntry 0 = .ok (.aload_n 1, 1) := by decide +kernel
theorem dX12_actEntry_1 : decode cX12_actEntry 1 = .ok (.getfield 261, 3) := by decide +kernel
theorem dX12_actEntry_4 : decode cX12_actEntry 4 = .ok (.astore_n 3, 1) := by decide +kernel
theorem dX12_actEntry_5 : decode cX12_actEntry 5 = .ok (.aload_n 3, 1) := by decide +kernel
theorem dX12_actEntry_6 : decode cX12_actEntry 6 = .ok (.getfield 268, 3) := by decide +kernel
theorem dX12_actEntry_9 : decode cX12_actEntry 9 = .ok (.iload_n 2, 1) := by decide +kernel
theorem dX12_actEntry_10 : decode cX12_actEntry 10 = .ok (.aaload, 1) := by decide +kernel
theorem dX12_actEntry_11 : decode cX12_actEntry 11 = .ok (.astore 4, 2) := by decide +kernel
theorem dX12_actEntry_13 : decode cX12_actEntry 13 = .ok (.aload 4, 2) := by decide +kernel
theorem dX12_actEntry_15 : decode cX12_actEntry 15 = .ok (.getfield 293, 3) := by decide +kernel
theorem dX12_actEntry_18 : decode cX12_actEntry 18 = .ok (.aload_n 0, 1) := by decide +kernel
theorem dX12_actEntry_19 : decode cX12_actEntry 19 = .ok (.getfield 53, 3) := by decide +kernel
theorem dX12_actEntry_22 : decode cX12_actEntry 22 = .ok (.lcmp, 1) := by decide +kernel
theorem dX12_actEntry_23 : decode cX12_actEntry 23 = .ok (.ifCond .gt 9, 3) := by decide +kernel
theorem dX12_actEntry_26 : decode cX12_actEntry 26 = .ok (.aload_n 3, 1) := by decide +kernel
theorem dX12_actEntry_27 : decode cX12_actEntry 27 = .ok (.iload_n 2, 1) := by decide +kernel
theorem dX12_actEntry_28 : decode cX12_actEntry 28 = .ok (.invokevirtual 296, 3) := by decide +kernel
theorem dX12_actEntry_31 : decode cX12_actEntry 31 = .ok (.return_, 1) := by decide +kernel
theorem dX12_actEntry_32 : decode cX12_actEntry 32 = .ok (.aload 4, 2) := by decide +kernel
theorem dX12_actEntry_34 : decode cX12_actEntry 34 = .ok (.invokevirtual 299, 3) := by decide +kernel
theorem dX12_actEntry_37 : decode cX12_actEntry 37 = .ok (.aload_n 1, 1) := by decide +kernel
theorem dX12_actEntry_38 : decode cX12_actEntry 38 = .ok (.aload 4, 2) := by decide +kernel
theorem dX12_actEntry_40 : decode cX12_actEntry 40 = .ok (.getfield 302, 3) := by decide +kernel
theorem dX12_actEntry_43 : decode cX12_actEntry 43 = .ok (.aload 4, 2) := by decide +kernel
theorem dX12_actEntry_45 : decode cX12_actEntry 45 = .ok (.getfield 305, 3) := by decide +kernel
theorem dX12_actEntry_48 : decode cX12_actEntry 48 = .ok (.invokevirtual 306, 3) := by decide +kernel
theorem dX12_actEntry_51 : decode cX12_actEntry 51 = .ok (.astore 5, 2) := by decide +kernel
theorem dX12_actEntry_53 : decode cX12_actEntry 53 = .ok (.aload 5, 2) := by decide +kernel
theorem dX12_actEntry_55 : decode cX12_actEntry 55 = .ok (.ifnull 11, 3) := by decide +kernel
theorem dX12_actEntry_58 : decode cX12_actEntry 58 = .ok (.aload_n 0, 1) := by decide +kernel
theorem dX12_actEntry_59 : decode cX12_actEntry 59 = .ok (.aload_n 1, 1) := by decide +kernel
theorem dX12_actEntry_60 : decode cX12_actEntry 60 = .ok (.aload 5, 2) := by decide +kernel
theorem dX12_actEntry_62 : decode cX12_actEntry 62 = .ok (.iconst 0, 1) := by decide +kernel
theorem dX12_actEntry_63 : decode cX12_actEntry 63 = .ok (.invokevirtual 235, 3) := by decide +kernel
theorem dX12_actEntry_66 : decode cX12_actEntry 66 = .ok (.return_, 1) := by decide +kernel
theorem dX12_hear_0 : decode cX12_hear 0 = .ok (.iload_n 2, 1) := by decide +kernel
theorem dX12_hear_1 : decode cX12_hear 1 = .ok (.ifCond .ne 14, 3) := by decide +kernel
theorem dX12_hear_4 : decode cX12_hear 4 = .ok (.aload_n 1, 1) := by decide +kernel
theorem dX12_hear_5 : decode cX12_hear 5 = .ok (.dup, 1) := by decide +kernel
theorem dX12_hear_6 : decode cX12_hear 6 = .ok (.getfield 310, 3) := by decide +kernel
theorem dX12_hear_9 : decode cX12_hear 9 = .ok (.iconst 1, 1) := by decide +kernel
theorem dX12_hear_10 : decode cX12_hear 10 = .ok (.iadd, 1) := by decide +kernel
theorem dX12_hear_11 : decode cX12_hear 11 = .ok (.putfield 310, 3) := by decide +kernel
theorem dX12_hear_14 : decode cX12_hear 14 = .ok (.return_, 1) := by decide +kernel
theorem dX12_hear_15 : decode cX12_hear 15 = .ok (.aload_n 0, 1) := by decide +kernel
theorem dX12_hear_16 : decode cX12_hear 16 = .ok (.getfield 25, 3) := by decide +kernel
theorem dX12_hear_19 : decode cX12_hear 19 = .ok (.getfield 313, 3) := by decide +kernel
theorem dX12_hear_22 : decode cX12_hear 22 = .ok (.tableswitch 62 1 4 #[30, 38, 46, 54], 30) := by decide +kernel
theorem dX12_hear_52 : decode cX12_hear 52 = .ok (.aload_n 0, 1) := by decide +kernel
theorem dX12_hear_53 : decode cX12_hear 53 = .ok (.aload_n 1, 1) := by decide +kernel
theorem dX12_hear_54 : decode cX12_hear 54 = .ok (.invokevirtual 316, 3) := by decide +kernel
theorem dX12_hear_57 : decode cX12_hear 57 = .ok (.goto 32, 3) := by decide +kernel
theorem dX12_hear_60 : decode cX12_hear 60 = .ok (.aload_n 0, 1) := by decide +kernel
theorem dX12_hear_61 : decode cX12_hear 61 = .ok (.aload_n 1, 1) := by decide +kernel
theorem dX12_hear_62 : decode cX12_hear 62 = .ok (.invokevirtual 319, 3) := by decide +kernel
theorem dX12_hear_65 : decode cX12_hear 65 = .ok (.goto 24, 3) := by decide +kernel
theorem dX12_hear_68 : decode cX12_hear 68 = .ok (.aload_n 0, 1) := by decide +kernel
theorem dX12_hear_69 : decode cX12_hear 69 = .ok (.aload_n 1, 1) := by decide +kernel
theorem dX12_hear_70 : decode cX12_hear 70 = .ok (.invokevirtual 322, 3) := by decide +kernel
theorem dX12_hear_73 : decode cX12_hear 73 = .ok (.goto 16, 3) := by decide +kernel
theorem dX12_hear_76 : decode cX12_hear 76 = .ok (.aload_n 0, 1) := by decide +kernel
theorem dX12_hear_77 : decode cX12_hear 77 = .ok (.aload_n 1, 1) := by decide +kernel
theorem dX12_hear_78 : decode cX12_hear 78 = .ok (.invokevirtual 325, 3) := by decide +kernel
theorem dX12_hear_81 : decode cX12_hear 81 = .ok (.goto 8, 3) := by decide +kernel
theorem dX12_hear_84 : decode cX12_hear 84 = .ok (.aload_n 0, 1) := by decide +kernel
theorem dX12_hear_85 : decode cX12_hear 85 = .ok (.aload_n 1, 1) := by decide +kernel
theorem dX12_hear_86 : decode cX12_hear 86 = .ok (.invokevirtual 328, 3) := by decide +kernel
theorem dX12_hear_89 : decode cX12_hear 89 = .ok (.return_, 1) := by decide +kernel
theorem dX12_hearAddressProbe_0 : decode cX12_hearAddressProbe 0 = .ok (.aload_n 0, 1) := by decide +kernel
theorem dX12_hearAddressProbe_1 : decode cX12_hearAddressProbe 1 = .ok (.getfield 25, 3) := by decide +kernel
theorem dX12_hearAddressProbe_4 : decode cX12_hearAddressProbe 4 = .ok (.getfield 331, 3) := by decide +kernel
theorem dX12_hearAddressProbe_7 : decode cX12_hearAddressProbe 7 = .ok (.aload_n 1, 1) := by decide +kernel
theorem dX12_hearAddressProbe_8 : decode cX12_hearAddressProbe 8 = .ok (.getfield 87, 3) := by decide +kernel
theorem dX12_hearAddressProbe_11 : decode cX12_hearAddressProbe 11 = .ok (.if_icmp .eq 20, 3) := by decide +kernel
theorem dX12_hearAddressProbe_14 : decode cX12_hearAddressProbe 14 = .ok (.aload_n 0, 1) := by decide +kernel
theorem dX12_hearAddressProbe_15 : decode cX12_hearAddressProbe 15 = .ok (.getfield 25, 3) := by decide +kernel
theorem dX12_hearAddressProbe_18 : decode cX12_hearAddressProbe 18 = .ok (.getfield 332, 3) := by decide +kernel
theorem dX12_hearAddressProbe_21 : decode cX12_hearAddressProbe 21 = .ok (.aload_n 1, 1) := by decide +kernel
theorem dX12_hearAddressProbe_22 : decode cX12_hearAddressProbe 22 = .ok (.getfield 131, 3) := by decide +kernel
theorem dX12_hearAddressProbe_25 : decode cX12_hearAddressProbe 25 = .ok (.getfield 334, 3) := by decide +kernel
theorem dX12_hearAddressProbe_28 : decode cX12_hearAddressProbe 28 = .ok (.if_icmp .eq 4, 3) := by decide +kernel
theorem dX12_hearAddressProbe_31 : decode cX12_hearAddressProbe 31 = .ok (.return_, 1) := by decide +kernel
theorem dX12_hearAddressProbe_32 : decode cX12_hearAddressProbe 32 = .ok (.aload_n 1, 1) := by decide +kernel
theorem dX12_hearAddressProbe_33 : decode cX12_hearAddressProbe 33 = .ok (.getfield 131, 3) := by decide +kernel
theorem dX12_hearAddressProbe_36 : decode cX12_hearAddressProbe 36 = .ok (.invokevirtual 135, 3) := by decide +kernel
theorem dX12_hearAddressProbe_39 : decode cX12_hearAddressProbe 39 = .ok (.ifCond .eq 12, 3) := by decide +kernel
theorem dX12_hearAddressProbe_42 : decode cX12_hearAddressProbe 42 = .ok (.aload_n 0, 1) := by decide +kernel
theorem dX12_hearAddressProbe_43 : decode cX12_hearAddressProbe 43 = .ok (.aload_n 1, 1) := by decide +kernel
theorem dX12_hearAddressProbe_44 : decode cX12_hearAddressProbe 44 = .ok (.iconst 2, 1) := by decide +kernel
theorem dX12_hearAddressProbe_45 : decode cX12_hearAddressProbe 45 = .ok (.invokevirtual 281, 3) := by decide +kernel
theorem dX12_hearAddressProbe_48 : decode cX12_hearAddressProbe 48 = .ok (.goto 25, 3) := by decide +kernel
theorem dX12_hearAddressProbe_51 : decode cX12_hearAddressProbe 51 = .ok (.aload_n 1, 1) := by decide +kernel
theorem dX12_hearAddressProbe_52 : decode cX12_hearAddressProbe 52 = .ok (.getfield 87, 3) := by decide +kernel
theorem dX12_hearAddressProbe_55 : decode cX12_hearAddressProbe 55 = .ok (.aload_n 0, 1) := by decide +kernel
theorem dX12_hearAddressProbe_56 : decode cX12_hearAddressProbe 56 = .ok (.getfield 25, 3) := by decide +kernel
theorem dX12_hearAddressProbe_59 : decode cX12_hearAddressProbe 59 = .ok (.getfield 331, 3) := by decide +kernel
theorem dX12_hearAddressProbe_62 : decode cX12_hearAddressProbe 62 = .ok (.if_icmp .le 11, 3) := by decide +kernel
theorem dX12_hearAddressProbe_65 : decode cX12_hearAddressProbe 65 = .ok (.aload_n 1, 1) := by decide +kernel
theorem dX12_hearAddressProbe_66 : decode cX12_hearAddressProbe 66 = .ok (.aload_n 0, 1) := by decide +kernel
theorem dX12_hearAddressProbe_67 : decode cX12_hearAddressProbe 67 = .ok (.getfield 53, 3) := by decide +kernel
theorem dX12_hearAddressProbe_70 : decode cX12_hearAddressProbe 70 = .ok (.invokevirtual 335, 3) := by decide +kernel
theorem dX12_hearAddressProbe_73 : decode cX12_hearAddressProbe 73 = .ok (.return_, 1) := by decide +kernel
theorem dX12_hearAddressTold_0 : decode cX12_hearAddressTold 0 = .ok (.aload_n 0, 1) := by decide +kernel
theorem dX12_hearAddressTold_1 : decode cX12_hearAddressTold 1 = .ok (.getfield 25, 3) := by decide +kernel
theorem dX12_hearAddressTold_4 : decode cX12_hearAddressTold 4 = .ok (.getfield 331, 3) := by decide +kernel
theorem dX12_hearAddressTold_7 : decode cX12_hearAddressTold 7 = .ok (.aload_n 1, 1) := by decide +kernel
theorem dX12_hearAddressTold_8 : decode cX12_hearAddressTold 8 = .ok (.getfield 87, 3) := by decide +kernel
theorem dX12_hearAddressTold_11 : decode cX12_hearAddressTold 11 = .ok (.if_icmp .eq 20, 3) := by decide +kernel
theorem dX12_hearAddressTold_14 : decode cX12_hearAddressTold 14 = .ok (.aload_n 0, 1) := by decide +kernel
theorem dX12_hearAddressTold_15 : decode cX12_hearAddressTold 15 = .ok (.getfield 25, 3) := by decide +kernel
theorem dX12_hearAddressTold_18 : decode cX12_hearAddressTold 18 = .ok (.getfield 332, 3) := by decide +kernel
theorem dX12_hearAddressTold_21 : decode cX12_hearAddressTold 21 = .ok (.aload_n 1, 1) := by decide +kernel
theorem dX12_hearAddressTold_22 : decode cX12_hearAddressTold 22 = .ok (.getfield 131, 3) := by decide +kernel
theorem dX12_hearAddressTold_25 : decode cX12_hearAddressTold 25 = .ok (.getfield 334, 3) := by decide +kernel
theorem dX12_hearAddressTold_28 : decode cX12_hearAddressTold 28 = .ok (.if_icmp .eq 4, 3) := by decide +kernel
theorem dX12_hearAddressTold_31 : decode cX12_hearAddressTold 31 = .ok (.return_, 1) := by decide +kernel
theorem dX12_hearAddressTold_32 : decode cX12_hearAddressTold 32 = .ok (.aload_n 1, 1) := by decide +kernel
theorem dX12_hearAddressTold_33 : decode cX12_hearAddressTold 33 = .ok (.getfield 131, 3) := by decide +kernel
theorem dX12_hearAddressTold_36 : decode cX12_hearAddressTold 36 = .ok (.invokevirtual 135, 3) := by decide +kernel
theorem dX12_hearAddressTold_39 : decode cX12_hearAddressTold 39 = .ok (.ifCond .eq 37, 3) := by decide +kernel
theorem dX12_hearAddressTold_42 : decode cX12_hearAddressTold 42 = .ok (.aload_n 1, 1) := by decide +kernel
theorem dX12_hearAddressTold_43 : decode cX12_hearAddressTold 43 = .ok (.getfield 131, 3) := by decide +kernel
theorem dX12_hearAddressTold_46 : decode cX12_hearAddressTold 46 = .ok (.aload_n 0, 1) := by decide +kernel
theorem dX12_hearAddressTold_47 : decode cX12_hearAddressTold 47 = .ok (.getfield 53, 3) := by decide +kernel
theorem dX12_hearAddressTold_50 : decode cX12_hearAddressTold 50 = .ok (.invokevirtual 338, 3) := by decide +kernel
theorem dX12_hearAddressTold_53 : decode cX12_hearAddressTold 53 = .ok (.ifCond .eq 23, 3) := by decide +kernel
theorem dX12_hearAddressTold_56 : decode cX12_hearAddressTold 56 = .ok (.aload_n 1, 1) := by decide +kernel
theorem dX12_hearAddressTold_57 : decode cX12_hearAddressTold 57 = .ok (.getfield 131, 3) := by decide +kernel
theorem dX12_hearAddressTold_60 : decode cX12_hearAddressTold 60 = .ok (.aload_n 0, 1) := by decide +kernel
theorem dX12_hearAddressTold_61 : decode cX12_hearAddressTold 61 = .ok (.getfield 53, 3) := by decide +kernel
theorem dX12_hearAddressTold_64 : decode cX12_hearAddressTold 64 = .ok (.putfield 342, 3) := by decide +kernel
theorem dX12_hearAddressTold_67 : decode cX12_hearAddressTold 67 = .ok (.aload_n 0, 1) := by decide +kernel
theorem dX12_hearAddressTold_68 : decode cX12_hearAddressTold 68 = .ok (.aload_n 1, 1) := by decide +kernel
theorem dX12_hearAddressTold_69 : decode cX12_hearAddressTold 69 = .ok (.iconst 2, 1) := by decide +kernel
theorem dX12_hearAddressTold_70 : decode cX12_hearAddressTold 70 = .ok (.invokevirtual 281, 3) := by decide +kernel
theorem dX12_hearAddressTold_73 : decode cX12_hearAddressTold 73 = .ok (.goto 11, 3) := by decide +kernel
theorem dX12_hearAddressTold_76 : decode cX12_hearAddressTold 76 = .ok (.aload_n 1, 1) := by decide +kernel
theorem dX12_hearAddressTold_77 : decode cX12_hearAddressTold 77 = .ok (.aload_n 0, 1) := by decide +kernel
theorem dX12_hearAddressTold_78 : decode cX12_hearAddressTold 78 = .ok (.getfield 53, 3) := by decide +kernel
theorem dX12_hearAddressTold_81 : decode cX12_hearAddressTold 81 = .ok (.invokevirtual 335, 3) := by decide +kernel
theorem dX12_hearAddressTold_84 : decode cX12_hearAddressTold 84 = .ok (.return_, 1) := by decide +kernel
theorem dX12_hearNameProbe_0 : decode cX12_hearNameProbe 0 = .ok (.aload_n 1, 1) := by decide +kernel
theorem dX12_hearNameProbe_1 : decode cX12_hearNameProbe 1 = .ok (.getfield 98, 3) := by decide +kernel
theorem dX12_hearNameProbe_4 : decode cX12_hearNameProbe 4 = .ok (.astore_n 2, 1) := by decide +kernel
theorem dX12_hearNameProbe_5 : decode cX12_hearNameProbe 5 = .ok (.aload_n 2, 1) := by decide +kernel
theorem dX12_hearNameProbe_6 : decode cX12_hearNameProbe 6 = .ok (.aload_n 0, 1) := by decide +kernel
theorem dX12_hearNameProbe_7 : decode cX12_hearNameProbe 7 = .ok (.getfield 25, 3) := by decide +kernel
theorem dX12_hearNameProbe_10 : decode cX12_hearNameProbe 10 = .ok (.getfield 345, 3) := by decide +kernel
theorem dX12_hearNameProbe_13 : decode cX12_hearNameProbe 13 = .ok (.invokevirtual 346, 3) := by decide +kernel
theorem dX12_hearNameProbe_16 : decode cX12_hearNameProbe 16 = .ok (.ifCond .ne 4, 3) := by decide +kernel
theorem dX12_hearNameProbe_19 : decode cX12_hearNameProbe 19 = .ok (.return_, 1) := by decide +kernel
theorem dX12_hearNameProbe_20 : decode cX12_hearNameProbe 20 = .ok (.aload_n 2, 1) := by decide +kernel
theorem dX12_hearNameProbe_21 : decode cX12_hearNameProbe 21 = .ok (.getfield 102, 3) := by decide +kernel
theorem dX12_hearNameProbe_24 : decode cX12_hearNameProbe 24 = .ok (.iconst 3, 1) := by decide +kernel
theorem dX12_hearNameProbe_25 : decode cX12_hearNameProbe 25 = .ok (.if_icmp .ne 11, 3) := by decide +kernel
theorem dX12_hearNameProbe_28 : decode cX12_hearNameProbe 28 = .ok (.aload_n 0, 1) := by decide +kernel
theorem dX12_hearNameProbe_29 : decode cX12_hearNameProbe 29 = .ok (.aload_n 1, 1) := by decide +kernel
theorem dX12_hearNameProbe_30 : decode cX12_hearNameProbe 30 = .ok (.invokevirtual 350, 3) := by decide +kernel
theorem dX12_hearNameProbe_33 : decode cX12_hearNameProbe 33 = .ok (.goto 28, 3) := by decide +kernel
theorem dX12_hearNameProbe_36 : decode cX12_hearNameProbe 36 = .ok (.aload_n 1, 1) := by decide +kernel
theorem dX12_hearNameProbe_37 : decode cX12_hearNameProbe 37 = .ok (.getfield 131, 3) := by decide +kernel
theorem dX12_hearNameProbe_40 : decode cX12_hearNameProbe 40 = .ok (.getfield 334, 3) := by decide +kernel
theorem dX12_hearNameProbe_43 : decode cX12_hearNameProbe 43 = .ok (.aload_n 0, 1) := by decide +kernel
theorem dX12_hearNameProbe_44 : decode cX12_hearNameProbe 44 = .ok (.getfield 25, 3) := by decide +kernel
theorem dX12_hearNameProbe_47 : decode cX12_hearNameProbe 47 = .ok (.getfield 332, 3) := by decide +kernel
theorem dX12_hearNameProbe_50 : decode cX12_hearNameProbe 50 = .ok (.if_icmp .ge 11, 3) := by decide +kernel
theorem dX12_hearNameProbe_53 : decode cX12_hearNameProbe 53 = .ok (.aload_n 2, 1) := by decide +kernel
theorem dX12_hearNameProbe_54 : decode cX12_hearNameProbe 54 = .ok (.aload_n 0, 1) := by decide +kernel
theorem dX12_hearNameProbe_55 : decode cX12_hearNameProbe 55 = .ok (.getfield 53, 3) := by decide +kernel
theorem dX12_hearNameProbe_58 : decode cX12_hearNameProbe 58 = .ok (.invokevirtual 353, 3) := by decide +kernel
theorem dX12_hearNameProbe_61 : decode cX12_hearNameProbe 61 = .ok (.return_, 1) := by decide +kernel
theorem dX12_hearAnswer_0 : decode cX12_hearAnswer 0 = .ok (.iconst 0, 1) := by decide +kernel
theorem dX12_hearAnswer_1 : decode cX12_hearAnswer 1 = .ok (.istore_n 2, 1) := by decide +kernel
theorem dX12_hearAnswer_2 : decode cX12_hearAnswer 2 = .ok (.iload_n 2, 1) := by decide +kernel
theorem dX12_hearAnswer_3 : decode cX12_hearAnswer 3 = .ok (.aload_n 0, 1) := by decide +kernel
theorem dX12_hearAnswer_4 : decode cX12_hearAnswer 4 = .ok (.getfield 25, 3) := by decide +kernel
theorem dX12_hearAnswer_7 : decode cX12_hearAnswer 7 = .ok (.getfield 356, 3) := by decide +kernel
theorem dX12_hearAnswer_10 : decode cX12_hearAnswer 10 = .ok (.if_icmp .ge 69, 3) := by decide +kernel
theorem dX12_hearAnswer_13 : decode cX12_hearAnswer 13 = .ok (.aload_n 0, 1) := by decide +kernel
theorem dX12_hearAnswer_14 : decode cX12_hearAnswer 14 = .ok (.getfield 25, 3) := by decide +kernel
theorem dX12_hearAnswer_17 : decode cX12_hearAnswer 17 = .ok (.getfield 359, 3) := by decide +kernel
theorem dX12_hearAnswer_20 : decode cX12_hearAnswer 20 = .ok (.iload_n 2, 1) := by decide +kernel
theorem dX12_hearAnswer_21 : decode cX12_hearAnswer 21 = .ok (.aaload, 1) := by decide +kernel
theorem dX12_hearAnswer_22 : decode cX12_hearAnswer 22 = .ok (.astore_n 3, 1) := by decide +kernel
theorem dX12_hearAnswer_23 : decode cX12_hearAnswer 23 = .ok (.aload_n 1, 1) := by decide +kernel
theorem dX12_hearAnswer_24 : decode cX12_hearAnswer 24 = .ok (.getfield 261, 3) := by decide +kernel
theorem dX12_hearAnswer_27 : decode cX12_hearAnswer 27 = .ok (.aload_n 3, 1) := by decide +kernel
theorem dX12_hearAnswer_28 : decode cX12_hearAnswer 28 = .ok (.aload_n 0, 1) := by decide +kernel
theorem dX12_hearAnswer_29 : decode cX12_hearAnswer 29 = .ok (.getfield 53, 3) := by decide +kernel
theorem dX12_hearAnswer_32 : decode cX12_hearAnswer 32 = .ok (.invokevirtual 363, 3) := by decide +kernel
theorem dX12_hearAnswer_35 : decode cX12_hearAnswer 35 = .ok (.aload_n 3, 1) := by decide +kernel
theorem dX12_hearAnswer_36 : decode cX12_hearAnswer 36 = .ok (.getfield 366, 3) := by decide +kernel
theorem dX12_hearAnswer_39 : decode cX12_hearAnswer 39 = .ok (.iconst 1, 1) := by decide +kernel
theorem dX12_hearAnswer_40 : decode cX12_hearAnswer 40 = .ok (.if_icmp .ne 33, 3) := by decide +kernel
theorem dX12_hearAnswer_43 : decode cX12_hearAnswer 43 = .ok (.aload_n 3, 1) := by decide +kernel
theorem dX12_hearAnswer_44 : decode cX12_hearAnswer 44 = .ok (.getfield 369, 3) := by decide +kernel
theorem dX12_hearAnswer_47 : decode cX12_hearAnswer 47 = .ok (.ifCond .le 26, 3) := by decide +kernel
theorem dX12_hearAnswer_50 : decode cX12_hearAnswer 50 = .ok (.aload_n 3, 1) := by decide +kernel
theorem dX12_hearAnswer_51 : decode cX12_hearAnswer 51 = .ok (.getfield 372, 3) := by decide +kernel
theorem dX12_hearAnswer_54 : decode cX12_hearAnswer 54 = .ok (.aload_n 1, 1) := by decide +kernel
theorem dX12_hearAnswer_55 : decode cX12_hearAnswer 55 = .ok (.getfield 131, 3) := by decide +kernel
theorem dX12_hearAnswer_58 : decode cX12_hearAnswer 58 = .ok (.getfield 334, 3) := by decide +kernel
theorem dX12_hearAnswer_61 : decode cX12_hearAnswer 61 = .ok (.if_icmp .eq 12, 3) := by decide +kernel
theorem dX12_hearAnswer_64 : decode cX12_hearAnswer 64 = .ok (.aload_n 0, 1) := by decide +kernel
theorem dX12_hearAnswer_65 : decode cX12_hearAnswer 65 = .ok (.aload_n 1, 1) := by decide +kernel
theorem dX12_hearAnswer_66 : decode cX12_hearAnswer 66 = .ok (.aload_n 3, 1) := by decide +kernel
theorem dX12_hearAnswer_67 : decode cX12_hearAnswer 67 = .ok (.getfield 375, 3) := by decide +kernel
theorem dX12_hearAnswer_70 : decode cX12_hearAnswer 70 = .ok (.invokevirtual 376, 3) := by decide +kernel
theorem dX12_hearAnswer_73 : decode cX12_hearAnswer 73 = .ok (.iinc 2 1, 3) := by decide +kernel
theorem dX12_hearAnswer_76 : decode cX12_hearAnswer 76 = .ok (.goto (-74), 3) := by decide +kernel
theorem dX12_hearAnswer_79 : decode cX12_hearAnswer 79 = .ok (.return_, 1) := by decide +kernel
theorem dX12_hearOfRival_0 : decode cX12_hearOfRival 0 = .ok (.aload_n 1, 1) := by decide +kernel
theorem dX12_hearOfRival_1 : decode cX12_hearOfRival 1 = .ok (.getfield 98, 3) := by decide +kernel
theorem dX12_hearOfRival_4 : decode cX12_hearOfRival 4 = .ok (.astore_n 3, 1) := by decide +kernel
theorem dX12_hearOfRival_5 : decode cX12_hearOfRival 5 = .ok (.aload_n 3, 1) := by decide +kernel
theorem dX12_hearOfRival_6 : decode cX12_hearOfRival 6 = .ok (.aload_n 2, 1) := by decide +kernel
theorem dX12_hearOfRival_7 : decode cX12_hearOfRival 7 = .ok (.invokevirtual 346, 3) := by decide +kernel
theorem dX12_hearOfRival_10 : decode cX12_hearOfRival 10 = .ok (.ifCond .ne 4, 3) := by decide +kernel
theorem dX12_hearOfRival_13 : decode cX12_hearOfRival 13 = .ok (.return_, 1) := by decide +kernel
theorem dX12_hearOfRival_14 : decode cX12_hearOfRival 14 = .ok (.aload_n 1, 1) := by decide +kernel
theorem dX12_hearOfRival_15 : decode cX12_hearOfRival 15 = .ok (.dup, 1) := by decide +kernel
theorem dX12_hearOfRival_16 : decode cX12_hearOfRival 16 = .ok (.getfield 379, 3) := by decide +kernel
theorem dX12_hearOfRival_19 : decode cX12_hearOfRival 19 = .ok (.iconst 1, 1) := by decide +kernel
theorem dX12_hearOfRival_20 : decode cX12_hearOfRival 20 = .ok (.iadd, 1) := by decide +kernel
theorem dX12_hearOfRival_21 : decode cX12_hearOfRival 21 = .ok (.putfield 379, 3) := by decide +kernel
theorem dX12_hearOfRival_24 : decode cX12_hearOfRival 24 = .ok (.aload_n 3, 1) := by decide +kernel
theorem dX12_hearOfRival_25 : decode cX12_hearOfRival 25 = .ok (.getfield 102, 3) := by decide +kernel
theorem dX12_hearOfRival_28 : decode cX12_hearOfRival 28 = .ok (.iconst 2, 1) := by decide +kernel
theorem dX12_hearOfRival_29 : decode cX12_hearOfRival 29 = .ok (.if_icmp .ne 7, 3) := by decide +kernel
theorem dX12_hearOfRival_32 : decode cX12_hearOfRival 32 = .ok (.aload_n 3, 1) := by decide +kernel
theorem dX12_hearOfRival_33 : decode cX12_hearOfRival 33 = .ok (.invokevirtual 382, 3) := by decide +kernel
theorem dX12_hearOfRival_36 : decode cX12_hearOfRival 36 = .ok (.aload_n 3, 1) := by decide +kernel
theorem dX12_hearOfRival_37 : decode cX12_hearOfRival 37 = .ok (.aload_n 1, 1) := by decide +kernel
theorem dX12_hearOfRival_38 : decode cX12_hearOfRival 38 = .ok (.getfield 87, 3) := by decide +kernel
theorem dX12_hearOfRival_41 : decode cX12_hearOfRival 41 = .ok (.aload_n 0, 1) := by decide +kernel
theorem dX12_hearOfRival_42 : decode cX12_hearOfRival 42 = .ok (.getfield 53, 3) := by decide +kernel
theorem dX12_hearOfRival_45 : decode cX12_hearOfRival 45 = .ok (.invokevirtual 140, 3) := by decide +kernel
theorem dX12_hearOfRival_48 : decode cX12_hearOfRival 48 = .ok (.return_, 1) := by decide +kernel
theorem dX12_hearAsk_0 : decode cX12_hearAsk 0 = .ok (.iconst 0, 1) := by decide +kernel
theorem dX12_hearAsk_1 : decode cX12_hearAsk 1 = .ok (.istore_n 2, 1) := by decide +kernel
theorem dX12_hearAsk_2 : decode cX12_hearAsk 2 = .ok (.iload_n 2, 1) := by decide +kernel
theorem dX12_hearAsk_3 : decode cX12_hearAsk 3 = .ok (.iconst 4, 1) := by decide +kernel
theorem dX12_hearAsk_4 : decode cX12_hearAsk 4 = .ok (.if_icmp .ge 66, 3) := by decide +kernel
theorem dX12_hearAsk_7 : decode cX12_hearAsk 7 = .ok (.aload_n 1, 1) := by decide +kernel
theorem dX12_hearAsk_8 : decode cX12_hearAsk 8 = .ok (.getfield 158, 3) := by decide +kernel
theorem dX12_hearAsk_11 : decode cX12_hearAsk 11 = .ok (.iload_n 2, 1) := by decide +kernel
theorem dX12_hearAsk_12 : decode cX12_hearAsk 12 = .ok (.aaload, 1) := by decide +kernel
theorem dX12_hearAsk_13 : decode cX12_hearAsk 13 = .ok (.astore_n 3, 1) := by decide +kernel
theorem dX12_hearAsk_14 : decode cX12_hearAsk 14 = .ok (.aload_n 3, 1) := by decide +kernel
theorem dX12_hearAsk_15 : decode cX12_hearAsk 15 = .ok (.aload_n 0, 1) := by decide +kernel
theorem dX12_hearAsk_16 : decode cX12_hearAsk 16 = .ok (.getfield 25, 3) := by decide +kernel
theorem dX12_hearAsk_19 : decode cX12_hearAsk 19 = .ok (.getfield 385, 3) := by decide +kernel
theorem dX12_hearAsk_22 : decode cX12_hearAsk 22 = .ok (.aload_n 0, 1) := by decide +kernel
theorem dX12_hearAsk_23 : decode cX12_hearAsk 23 = .ok (.getfield 25, 3) := by decide +kernel
theorem dX12_hearAsk_26 : decode cX12_hearAsk 26 = .ok (.getfield 345, 3) := by decide +kernel
theorem dX12_hearAsk_29 : decode cX12_hearAsk 29 = .ok (.invokevirtual 386, 3) := by decide +kernel
theorem dX12_hearAsk_32 : decode cX12_hearAsk 32 = .ok (.ifCond .eq 32, 3) := by decide +kernel
theorem dX12_hearAsk_35 : decode cX12_hearAsk 35 = .ok (.aload_n 3, 1) := by decide +kernel
theorem dX12_hearAsk_36 : decode cX12_hearAsk 36 = .ok (.aload_n 0, 1) := by decide +kernel
theorem dX12_hearAsk_37 : decode cX12_hearAsk 37 = .ok (.getfield 53, 3) := by decide +kernel
theorem dX12_hearAsk_40 : decode cX12_hearAsk 40 = .ok (.invokevirtual 389, 3) := by decide +kernel
theorem dX12_hearAsk_43 : decode cX12_hearAsk 43 = .ok (.ifCond .eq 21, 3) := by decide +kernel
theorem dX12_hearAsk_46 : decode cX12_hearAsk 46 = .ok (.aload_n 1, 1) := by decide +kernel
theorem dX12_hearAsk_47 : decode cX12_hearAsk 47 = .ok (.dup, 1) := by decide +kernel
theorem dX12_hearAsk_48 : decode cX12_hearAsk 48 = .ok (.getfield 392, 3) := by decide +kernel
theorem dX12_hearAsk_51 : decode cX12_hearAsk 51 = .ok (.iconst 1, 1) := by decide +kernel
theorem dX12_hearAsk_52 : decode cX12_hearAsk 52 = .ok (.iadd, 1) := by decide +kernel
theorem dX12_hearAsk_53 : decode cX12_hearAsk 53 = .ok (.putfield 392, 3) := by decide +kernel
theorem dX12_hearAsk_56 : decode cX12_hearAsk 56 = .ok (.aload_n 3, 1) := by decide +kernel
theorem dX12_hearAsk_57 : decode cX12_hearAsk 57 = .ok (.aload_n 3, 1) := by decide +kernel
theorem dX12_hearAsk_58 : decode cX12_hearAsk 58 = .ok (.getfield 234, 3) := by decide +kernel
theorem dX12_hearAsk_61 : decode cX12_hearAsk 61 = .ok (.invokevirtual 239, 3) := by decide +kernel
theorem dX12_hearAsk_64 : decode cX12_hearAsk 64 = .ok (.iinc 2 1, 3) := by decide +kernel
theorem dX12_hearAsk_67 : decode cX12_hearAsk 67 = .ok (.goto (-65), 3) := by decide +kernel
theorem dX12_hearAsk_70 : decode cX12_hearAsk 70 = .ok (.aload_n 1, 1) := by decide +kernel
theorem dX12_hearAsk_71 : decode cX12_hearAsk 71 = .ok (.getfield 98, 3) := by decide +kernel
theorem dX12_hearAsk_74 : decode cX12_hearAsk 74 = .ok (.getfield 102, 3) := by decide +kernel
theorem dX12_hearAsk_77 : decode cX12_hearAsk 77 = .ok (.iconst 3, 1) := by decide +kernel
theorem dX12_hearAsk_78 : decode cX12_hearAsk 78 = .ok (.if_icmp .eq 4, 3) := by decide +kernel
theorem dX12_hearAsk_81 : decode cX12_hearAsk 81 = .ok (.return_, 1) := by decide +kernel
theorem dX12_hearAsk_82 : decode cX12_hearAsk 82 = .ok (.aload_n 0, 1) := by decide +kernel
theorem dX12_hearAsk_83 : decode cX12_hearAsk 83 = .ok (.getfield 25, 3) := by decide +kernel
theorem dX12_hearAsk_86 : decode cX12_hearAsk 86 = .ok (.getfield 385, 3) := by decide +kernel
theorem dX12_hearAsk_89 : decode cX12_hearAsk 89 = .ok (.iconst 2, 1) := by decide +kernel
theorem dX12_hearAsk_90 : decode cX12_hearAsk 90 = .ok (.if_icmp .ne 11, 3) := by decide +kernel
theorem dX12_hearAsk_93 : decode cX12_hearAsk 93 = .ok (.aload_n 0, 1) := by decide +kernel
theorem dX12_hearAsk_94 : decode cX12_hearAsk 94 = .ok (.aload_n 1, 1) := by decide +kernel
theorem dX12_hearAsk_95 : decode cX12_hearAsk 95 = .ok (.invokevirtual 395, 3) := by decide +kernel
theorem dX12_hearAsk_98 : decode cX12_hearAsk 98 = .ok (.goto 42, 3) := by decide +kernel
theorem dX12_hearAsk_101 : decode cX12_hearAsk 101 = .ok (.aload_n 1, 1) := by decide +kernel
theorem dX12_hearAsk_102 : decode cX12_hearAsk 102 = .ok (.getfield 98, 3) := by decide +kernel
theorem dX12_hearAsk_105 : decode cX12_hearAsk 105 = .ok (.aload_n 0, 1) := by decide +kernel
theorem dX12_hearAsk_106 : decode cX12_hearAsk 106 = .ok (.getfield 25, 3) := by decide +kernel
theorem dX12_hearAsk_109 : decode cX12_hearAsk 109 = .ok (.getfield 345, 3) := by decide +kernel
theorem dX12_hearAsk_112 : decode cX12_hearAsk 112 = .ok (.invokevirtual 346, 3) := by decide +kernel
theorem dX12_hearAsk_115 : decode cX12_hearAsk 115 = .ok (.ifCond .eq 25, 3) := by decide +kernel
theorem dX12_hearAsk_118 : decode cX12_hearAsk 118 = .ok (.aload_n 0, 1) := by decide +kernel
theorem dX12_hearAsk_119 : decode cX12_hearAsk 119 = .ok (.getfield 25, 3) := by decide +kernel
theorem dX12_hearAsk_122 : decode cX12_hearAsk 122 = .ok (.aload_n 1, 1) := by decide +kernel
theorem dX12_hearAsk_123 : decode cX12_hearAsk 123 = .ok (.getfield 131, 3) := by decide +kernel
theorem dX12_hearAsk_126 : decode cX12_hearAsk 126 = .ok (.getfield 334, 3) := by decide +kernel
theorem dX12_hearAsk_129 : decode cX12_hearAsk 129 = .ok (.invokevirtual 398, 3) := by decide +kernel
theorem dX12_hearAsk_132 : decode cX12_hearAsk 132 = .ok (.ifCond .ne 8, 3) := by decide +kernel
theorem dX12_hearAsk_135 : decode cX12_hearAsk 135 = .ok (.aload_n 0, 1) := by decide +kernel
theorem dX12_hearAsk_136 : decode cX12_hearAsk 136 = .ok (.aload_n 1, 1) := by decide +kernel
theorem dX12_hearAsk_137 : decode cX12_hearAsk 137 = .ok (.invokevirtual 350, 3) := by decide +kernel
theorem dX12_hearAsk_140 : decode cX12_hearAsk 140 = .ok (.return_, 1) := by decide +kernel
theorem dX12_planReply_0 : decode cX12_planReply 0 = .ok (.aload_n 1, 1) := by decide +kernel
theorem dX12_planReply_1 : decode cX12_planReply 1 = .ok (.getfield 243, 3) := by decide +kernel
theorem dX12_planReply_4 : decode cX12_planReply 4 = .ok (.iconst 4, 1) := by decide +kernel
theorem dX12_planReply_5 : decode cX12_planReply 5 = .ok (.if_icmp .ge 25, 3) := by decide +kernel
theorem dX12_planReply_8 : decode cX12_planReply 8 = .ok (.aload_n 1, 1) := by decide +kernel
theorem dX12_planReply_9 : decode cX12_planReply 9 = .ok (.aload_n 0, 1) := by decide +kernel
theorem dX12_planReply_10 : decode cX12_planReply 10 = .ok (.getfield 25, 3) := by decide +kernel
theorem dX12_planReply_13 : decode cX12_planReply 13 = .ok (.getfield 345, 3) := by decide +kernel
theorem dX12_planReply_16 : decode cX12_planReply 16 = .ok (.invokevirtual 401, 3) := by decide +kernel
theorem dX12_planReply_19 : decode cX12_planReply 19 = .ok (.ifCond .ne 11, 3) := by decide +kernel
theorem dX12_planReply_22 : decode cX12_planReply 22 = .ok (.aload_n 0, 1) := by decide +kernel
theorem dX12_planReply_23 : decode cX12_planReply 23 = .ok (.aload_n 1, 1) := by decide +kernel
theorem dX12_planReply_24 : decode cX12_planReply 24 = .ok (.invokevirtual 404, 3) := by decide +kernel
theorem dX12_planReply_27 : decode cX12_planReply 27 = .ok (.ifCond .ne 4, 3) := by decide +kernel
theorem dX12_planReply_30 : decode cX12_planReply 30 = .ok (.return_, 1) := by decide +kernel
theorem dX12_planReply_31 : decode cX12_planReply 31 = .ok (.aload_n 1, 1) := by decide +kernel
theorem dX12_planReply_32 : decode cX12_planReply 32 = .ok (.getfield 246, 3) := by decide +kernel
theorem dX12_planReply_35 : decode cX12_planReply 35 = .ok (.aload_n 1, 1) := by decide +kernel
theorem dX12_planReply_36 : decode cX12_planReply 36 = .ok (.getfield 243, 3) := by decide +kernel
theorem dX12_planReply_39 : decode cX12_planReply 39 = .ok (.aaload, 1) := by decide +kernel
theorem dX12_planReply_40 : decode cX12_planReply 40 = .ok (.astore_n 2, 1) := by decide +kernel
theorem dX12_planReply_41 : decode cX12_planReply 41 = .ok (.aload_n 1, 1) := by decide +kernel
theorem dX12_planReply_42 : decode cX12_planReply 42 = .ok (.dup, 1) := by decide +kernel
theorem dX12_planReply_43 : decode cX12_planReply 43 = .ok (.getfield 243, 3) := by decide +kernel
theorem dX12_planReply_46 : decode cX12_planReply 46 = .ok (.iconst 1, 1) := by decide +kernel
theorem dX12_planReply_47 : decode cX12_planReply 47 = .ok (.iadd, 1) := by decide +kernel
theorem dX12_planReply_48 : decode cX12_planReply 48 = .ok (.putfield 243, 3) := by decide +kernel
theorem dX12_planReply_51 : decode cX12_planReply 51 = .ok (.aload_n 2, 1) := by decide +kernel
theorem dX12_planReply_52 : decode cX12_planReply 52 = .ok (.getfield 253, 3) := by decide +kernel
theorem dX12_planReply_55 : decode cX12_planReply 55 = .ok (.aload_n 0, 1) := by decide +kernel
theorem dX12_planReply_56 : decode cX12_planReply 56 = .ok (.getfield 25, 3) := by decide +kernel
theorem dX12_planReply_59 : decode cX12_planReply 59 = .ok (.getfield 345, 3) := by decide +kernel
theorem dX12_planReply_62 : decode cX12_planReply 62 = .ok (.invokevirtual 125, 3) := by decide +kernel
theorem dX12_planReply_65 : decode cX12_planReply 65 = .ok (.aload_n 2, 1) := by decide +kernel
theorem dX12_planReply_66 : decode cX12_planReply 66 = .ok (.aload_n 0, 1) := by decide +kernel
theorem dX12_planReply_67 : decode cX12_planReply 67 = .ok (.getfield 53, 3) := by decide +kernel
theorem dX12_planReply_70 : decode cX12_planReply 70 = .ok (.ldc2_w 407, 3) := by decide +kernel
theorem dX12_planReply_73 : decode cX12_planReply 73 = .ok (.ladd, 1) := by decide +kernel
theorem dX12_planReply_74 : decode cX12_planReply 74 = .ok (.bipush 7, 2) := by decide +kernel
theorem dX12_planReply_76 : decode cX12_planReply 76 = .ok (.aload_n 1, 1) := by decide +kernel
theorem dX12_planReply_77 : decode cX12_planReply 77 = .ok (.getfield 87, 3) := by decide +kernel
theorem dX12_planReply_80 : decode cX12_planReply 80 = .ok (.imul, 1) := by decide +kernel
theorem dX12_planReply_81 : decode cX12_planReply 81 = .ok (.bipush 100, 2) := by decide +kernel
theorem dX12_planReply_83 : decode cX12_planReply 83 = .ok (.irem, 1) := by decide +kernel
theorem dX12_planReply_84 : decode cX12_planReply 84 = .ok (.i2l, 1) := by decide +kernel
theorem dX12_planReply_85 : decode cX12_planReply 85 = .ok (.ladd, 1) := by decide +kernel
theorem dX12_planReply_86 : decode cX12_planReply 86 = .ok (.putfield 250, 3) := by decide +kernel
theorem dX12_planReply_89 : decode cX12_planReply 89 = .ok (.return_, 1) := by decide +kernel
theorem dX12_hasUntoldService_0 : decode cX12_hasUntoldService 0 = .ok (.iconst 0, 1) := by decide +kernel
theorem dX12_hasUntoldService_1 : decode cX12_hasUntoldService 1 = .ok (.istore_n 2, 1) := by decide +kernel
theorem dX12_hasUntoldService_2 : decode cX12_hasUntoldService 2 = .ok (.iload_n 2, 1) := by decide +kernel
theorem dX12_hasUntoldService_3 : decode cX12_hasUntoldService 3 = .ok (.aload_n 1, 1) := by decide +kernel
theorem dX12_hasUntoldService_4 : decode cX12_hasUntoldService 4 = .ok (.getfield 143, 3) := by decide +kernel
theorem dX12_hasUntoldService_7 : decode cX12_hasUntoldService 7 = .ok (.if_icmp .ge 56, 3) := by decide +kernel
theorem dX12_hasUntoldService_10 : decode cX12_hasUntoldService 10 = .ok (.aload_n 1, 1) := by decide +kernel
theorem dX12_hasUntoldService_11 : decode cX12_hasUntoldService 11 = .ok (.getfield 146, 3) := by decide +kernel
theorem dX12_hasUntoldService_14 : decode cX12_hasUntoldService 14 = .ok (.iload_n 2, 1) := by decide +kernel
theorem dX12_hasUntoldService_15 : decode cX12_hasUntoldService 15 = .ok (.aaload, 1) := by decide +kernel
theorem dX12_hasUntoldService_16 : decode cX12_hasUntoldService 16 = .ok (.astore_n 3, 1) := by decide +kernel
theorem dX12_hasUntoldService_17 : decode cX12_hasUntoldService 17 = .ok (.aload_n 3, 1) := by decide +kernel
theorem dX12_hasUntoldService_18 : decode cX12_hasUntoldService 18 = .ok (.getfield 150, 3) := by decide +kernel
theorem dX12_hasUntoldService_21 : decode cX12_hasUntoldService 21 = .ok (.aload_n 0, 1) := by decide +kernel
theorem dX12_hasUntoldService_22 : decode cX12_hasUntoldService 22 = .ok (.getfield 25, 3) := by decide +kernel
theorem dX12_hasUntoldService_25 : decode cX12_hasUntoldService 25 = .ok (.getfield 345, 3) := by decide +kernel
theorem dX12_hasUntoldService_28 : decode cX12_hasUntoldService 28 = .ok (.invokevirtual 409, 3) := by decide +kernel
theorem dX12_hasUntoldService_31 : decode cX12_hasUntoldService 31 = .ok (.ifCond .eq 26, 3) := by decide +kernel
theorem dX12_hasUntoldService_34 : decode cX12_hasUntoldService 34 = .ok (.aload_n 0, 1) := by decide +kernel
theorem dX12_hasUntoldService_35 : decode cX12_hasUntoldService 35 = .ok (.getfield 25, 3) := by decide +kernel
theorem dX12_hasUntoldService_38 : decode cX12_hasUntoldService 38 = .ok (.aload_n 1, 1) := by decide +kernel
theorem dX12_hasUntoldService_39 : decode cX12_hasUntoldService 39 = .ok (.getfield 98, 3) := by decide +kernel
theorem dX12_hasUntoldService_42 : decode cX12_hasUntoldService 42 = .ok (.getfield 123, 3) := by decide +kernel
theorem dX12_hasUntoldService_45 : decode cX12_hasUntoldService 45 = .ok (.aload_n 3, 1) := by decide +kernel
theorem dX12_hasUntoldService_46 : decode cX12_hasUntoldService 46 = .ok (.getfield 155, 3) := by decide +kernel
theorem dX12_hasUntoldService_49 : decode cX12_hasUntoldService 49 = .ok (.invokevirtual 412, 3) := by decide +kernel
theorem dX12_hasUntoldService_52 : decode cX12_hasUntoldService 52 = .ok (.ifCond .ne 5, 3) := by decide +kernel
theorem dX12_hasUntoldService_55 : decode cX12_hasUntoldService 55 = .ok (.iconst 1, 1) := by decide +kernel
theorem dX12_hasUntoldService_56 : decode cX12_hasUntoldService 56 = .ok (.ireturn, 1) := by decide +kernel
theorem dX12_hasUntoldService_57 : decode cX12_hasUntoldService 57 = .ok (.iinc 2 1, 3) := by decide +kernel
theorem dX12_hasUntoldService_60 : decode cX12_hasUntoldService 60 = .ok (.goto (-58), 3) := by decide +kernel
theorem dX12_hasUntoldService_63 : decode cX12_hasUntoldService 63 = .ok (.iconst 0, 1) := by decide +kernel
theorem dX12_hasUntoldService_64 : decode cX12_hasUntoldService 64 = .ok (.ireturn, 1) := by decide +kernel
theorem dX12_newPacket_0 : decode cX12_newPacket 0 = .ok (.aload_n 0, 1) := by decide +kernel
theorem dX12_newPacket_1 : decode cX12_newPacket 1 = .ok (.getfield 37, 3) := by decide +kernel
theorem dX12_newPacket_4 : decode cX12_newPacket 4 = .ok (.aload_n 0, 1) := by decide +kernel
theorem dX12_newPacket_5 : decode cX12_newPacket 5 = .ok (.getfield 41, 3) := by decide +kernel
theorem dX12_newPacket_8 : decode cX12_newPacket 8 = .ok (.if_icmp .lt 13, 3) := by decide +kernel
theorem dX12_newPacket_11 : decode cX12_newPacket 11 = .ok (.aload_n 0, 1) := by decide +kernel
theorem dX12_newPacket_12 : decode cX12_newPacket 12 = .ok (.iconst 0, 1) := by decide +kernel
theorem dX12_newPacket_13 : decode cX12_newPacket 13 = .ok (.putfield 37, 3) := by decide +kernel
theorem dX12_newPacket_16 : decode cX12_newPacket 16 = .ok (.aload_n 0, 1) := by decide +kernel
theorem dX12_newPacket_17 : decode cX12_newPacket 17 = .ok (.iconst 0, 1) := by decide +kernel
theorem dX12_newPacket_18 : decode cX12_newPacket 18 = .ok (.putfield 41, 3) := by decide +kernel
theorem dX12_newPacket_21 : decode cX12_newPacket 21 = .ok (.aload_n 0, 1) := by decide +kernel
theorem dX12_newPacket_22 : decode cX12_newPacket 22 = .ok (.getfield 33, 3) := by decide +kernel
theorem dX12_newPacket_25 : decode cX12_newPacket 25 = .ok (.aload_n 0, 1) := by decide +kernel
theorem dX12_newPacket_26 : decode cX12_newPacket 26 = .ok (.getfield 41, 3) := by decide +kernel
theorem dX12_newPacket_29 : decode cX12_newPacket 29 = .ok (.aaload, 1) := by decide +kernel
