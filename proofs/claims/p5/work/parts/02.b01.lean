theorem dX3_init_145 : decode cX3_init 145 = .ok (.getfield 39, 3) := by decide +kernel
theorem dX3_init_148 : decode cX3_init 148 = .ok (.iload_n 2, 1) := by decide +kernel
theorem dX3_init_149 : decode cX3_init 149 = .ok (.new 37, 3) := by decide +kernel
theorem dX3_init_152 : decode cX3_init 152 = .ok (.dup, 1) := by decide +kernel
theorem dX3_init_153 : decode cX3_init 153 = .ok (.invokespecial 84, 3) := by decide +kernel
theorem dX3_init_156 : decode cX3_init 156 = .ok (.aastore, 1) := by decide +kernel
theorem dX3_init_157 : decode cX3_init 157 = .ok (.iinc 2 1, 3) := by decide +kernel
theorem dX3_init_160 : decode cX3_init 160 = .ok (.goto (-47), 3) := by decide +kernel
theorem dX3_init_163 : decode cX3_init 163 = .ok (.return_, 1) := by decide +kernel
theorem dX3_start_0 : decode cX3_start 0 = .ok (.aload_n 0, 1) := by decide +kernel
theorem dX3_start_1 : decode cX3_start 1 = .ok (.iconst 1, 1) := by decide +kernel
theorem dX3_start_2 : decode cX3_start 2 = .ok (.putfield 50, 3) := by decide +kernel
theorem dX3_start_5 : decode cX3_start 5 = .ok (.aload_n 0, 1) := by decide +kernel
theorem dX3_start_6 : decode cX3_start 6 = .ok (.iload_n 1, 1) := by decide +kernel
theorem dX3_start_7 : decode cX3_start 7 = .ok (.putfield 54, 3) := by decide +kernel
theorem dX3_start_10 : decode cX3_start 10 = .ok (.aload_n 0, 1) := by decide +kernel
theorem dX3_start_11 : decode cX3_start 11 = .ok (.iconst 0, 1) := by decide +kernel
theorem dX3_start_12 : decode cX3_start 12 = .ok (.putfield 61, 3) := by decide +kernel
theorem dX3_start_15 : decode cX3_start 15 = .ok (.aload_n 0, 1) := by decide +kernel
theorem dX3_start_16 : decode cX3_start 16 = .ok (.iconst 0, 1) := by decide +kernel
theorem dX3_start_17 : decode cX3_start 17 = .ok (.putfield 64, 3) := by decide +kernel
theorem dX3_start_20 : decode cX3_start 20 = .ok (.aload_n 0, 1) := by decide +kernel
theorem dX3_start_21 : decode cX3_start 21 = .ok (.iconst 0, 1) := by decide +kernel
theorem dX3_start_22 : decode cX3_start 22 = .ok (.putfield 67, 3) := by decide +kernel
theorem dX3_start_25 : decode cX3_start 25 = .ok (.aload_n 0, 1) := by decide +kernel
theorem dX3_start_26 : decode cX3_start 26 = .ok (.iconst 0, 1) := by decide +kernel
theorem dX3_start_27 : decode cX3_start 27 = .ok (.putfield 70, 3) := by decide +kernel
theorem dX3_start_30 : decode cX3_start 30 = .ok (.aload_n 0, 1) := by decide +kernel
theorem dX3_start_31 : decode cX3_start 31 = .ok (.iconst 0, 1) := by decide +kernel
theorem dX3_start_32 : decode cX3_start 32 = .ok (.putfield 73, 3) := by decide +kernel
theorem dX3_start_35 : decode cX3_start 35 = .ok (.aload_n 0, 1) := by decide +kernel
theorem dX3_start_36 : decode cX3_start 36 = .ok (.iconst 0, 1) := by decide +kernel
theorem dX3_start_37 : decode cX3_start 37 = .ok (.putfield 76, 3) := by decide +kernel
theorem dX3_start_40 : decode cX3_start 40 = .ok (.aload_n 0, 1) := by decide +kernel
theorem dX3_start_41 : decode cX3_start 41 = .ok (.getfield 46, 3) := by decide +kernel
theorem dX3_start_44 : decode cX3_start 44 = .ok (.iconst 0, 1) := by decide +kernel
theorem dX3_start_45 : decode cX3_start 45 = .ok (.putfield 85, 3) := by decide +kernel
theorem dX3_start_48 : decode cX3_start 48 = .ok (.iconst 0, 1) := by decide +kernel
theorem dX3_start_49 : decode cX3_start 49 = .ok (.istore 4, 2) := by decide +kernel
theorem dX3_start_51 : decode cX3_start 51 = .ok (.iload 4, 2) := by decide +kernel
theorem dX3_start_53 : decode cX3_start 53 = .ok (.iconst 4, 1) := by decide +kernel
theorem dX3_start_54 : decode cX3_start 54 = .ok (.if_icmp .ge 20, 3) := by decide +kernel
theorem dX3_start_57 : decode cX3_start 57 = .ok (.aload_n 0, 1) := by decide +kernel
theorem dX3_start_58 : decode cX3_start 58 = .ok (.getfield 33, 3) := by decide +kernel
theorem dX3_start_61 : decode cX3_start 61 = .ok (.iload 4, 2) := by decide +kernel
theorem dX3_start_63 : decode cX3_start 63 = .ok (.aaload, 1) := by decide +kernel
theorem dX3_start_64 : decode cX3_start 64 = .ok (.iconst 0, 1) := by decide +kernel
theorem dX3_start_65 : decode cX3_start 65 = .ok (.putfield 88, 3) := by decide +kernel
theorem dX3_start_68 : decode cX3_start 68 = .ok (.iinc 4 1, 3) := by decide +kernel
theorem dX3_start_71 : decode cX3_start 71 = .ok (.goto (-20), 3) := by decide +kernel
theorem dX3_start_74 : decode cX3_start 74 = .ok (.aload_n 0, 1) := by decide +kernel
theorem dX3_start_75 : decode cX3_start 75 = .ok (.getfield 21, 3) := by decide +kernel
theorem dX3_start_78 : decode cX3_start 78 = .ok (.invokevirtual 91, 3) := by decide +kernel
theorem dX3_start_81 : decode cX3_start 81 = .ok (.aload_n 0, 1) := by decide +kernel
theorem dX3_start_82 : decode cX3_start 82 = .ok (.getfield 12, 3) := by decide +kernel
theorem dX3_start_85 : decode cX3_start 85 = .ok (.iload_n 1, 1) := by decide +kernel
theorem dX3_start_86 : decode cX3_start 86 = .ok (.lload_n 2, 1) := by decide +kernel
theorem dX3_start_87 : decode cX3_start 87 = .ok (.invokevirtual 94, 3) := by decide +kernel
theorem dX3_start_90 : decode cX3_start 90 = .ok (.return_, 1) := by decide +kernel
theorem dX3_moveOn_0 : decode cX3_moveOn 0 = .ok (.aload_n 0, 1) := by decide +kernel
theorem dX3_moveOn_1 : decode cX3_moveOn 1 = .ok (.dup, 1) := by decide +kernel
theorem dX3_moveOn_2 : decode cX3_moveOn 2 = .ok (.getfield 61, 3) := by decide +kernel
theorem dX3_moveOn_5 : decode cX3_moveOn 5 = .ok (.iconst 1, 1) := by decide +kernel
theorem dX3_moveOn_6 : decode cX3_moveOn 6 = .ok (.iadd, 1) := by decide +kernel
theorem dX3_moveOn_7 : decode cX3_moveOn 7 = .ok (.putfield 61, 3) := by decide +kernel
theorem dX3_moveOn_10 : decode cX3_moveOn 10 = .ok (.aload_n 0, 1) := by decide +kernel
theorem dX3_moveOn_11 : decode cX3_moveOn 11 = .ok (.getfield 12, 3) := by decide +kernel
theorem dX3_moveOn_14 : decode cX3_moveOn 14 = .ok (.dup, 1) := by decide +kernel
theorem dX3_moveOn_15 : decode cX3_moveOn 15 = .ok (.getfield 98, 3) := by decide +kernel
theorem dX3_moveOn_18 : decode cX3_moveOn 18 = .ok (.iconst 1, 1) := by decide +kernel
theorem dX3_moveOn_19 : decode cX3_moveOn 19 = .ok (.iadd, 1) := by decide +kernel
theorem dX3_moveOn_20 : decode cX3_moveOn 20 = .ok (.putfield 98, 3) := by decide +kernel
theorem dX3_moveOn_23 : decode cX3_moveOn 23 = .ok (.aload_n 0, 1) := by decide +kernel
theorem dX3_moveOn_24 : decode cX3_moveOn 24 = .ok (.getfield 12, 3) := by decide +kernel
theorem dX3_moveOn_27 : decode cX3_moveOn 27 = .ok (.aload_n 0, 1) := by decide +kernel
theorem dX3_moveOn_28 : decode cX3_moveOn 28 = .ok (.getfield 54, 3) := by decide +kernel
theorem dX3_moveOn_31 : decode cX3_moveOn 31 = .ok (.lload_n 1, 1) := by decide +kernel
theorem dX3_moveOn_32 : decode cX3_moveOn 32 = .ok (.invokevirtual 101, 3) := by decide +kernel
theorem dX3_moveOn_35 : decode cX3_moveOn 35 = .ok (.aload_n 0, 1) := by decide +kernel
theorem dX3_moveOn_36 : decode cX3_moveOn 36 = .ok (.getfield 21, 3) := by decide +kernel
theorem dX3_moveOn_39 : decode cX3_moveOn 39 = .ok (.getfield 104, 3) := by decide +kernel
theorem dX3_moveOn_42 : decode cX3_moveOn 42 = .ok (.ifCond .eq 10, 3) := by decide +kernel
theorem dX3_moveOn_45 : decode cX3_moveOn 45 = .ok (.aload_n 0, 1) := by decide +kernel
theorem dX3_moveOn_46 : decode cX3_moveOn 46 = .ok (.getfield 21, 3) := by decide +kernel
theorem dX3_moveOn_49 : decode cX3_moveOn 49 = .ok (.invokevirtual 107, 3) := by decide +kernel
theorem dX3_moveOn_52 : decode cX3_moveOn 52 = .ok (.return_, 1) := by decide +kernel
theorem dX3_nextDue_0 : decode cX3_nextDue 0 = .ok (.aload_n 0, 1) := by decide +kernel
theorem dX3_nextDue_1 : decode cX3_nextDue 1 = .ok (.getfield 12, 3) := by decide +kernel
theorem dX3_nextDue_4 : decode cX3_nextDue 4 = .ok (.getfield 110, 3) := by decide +kernel
theorem dX3_nextDue_7 : decode cX3_nextDue 7 = .ok (.aload_n 0, 1) := by decide +kernel
theorem dX3_nextDue_8 : decode cX3_nextDue 8 = .ok (.getfield 21, 3) := by decide +kernel
theorem dX3_nextDue_11 : decode cX3_nextDue 11 = .ok (.getfield 114, 3) := by decide +kernel
theorem dX3_nextDue_14 : decode cX3_nextDue 14 = .ok (.invokestatic 115, 3) := by decide +kernel
theorem dX3_nextDue_17 : decode cX3_nextDue 17 = .ok (.lstore_n 1, 1) := by decide +kernel
theorem dX3_nextDue_18 : decode cX3_nextDue 18 = .ok (.iconst 0, 1) := by decide +kernel
theorem dX3_nextDue_19 : decode cX3_nextDue 19 = .ok (.istore_n 3, 1) := by decide +kernel
theorem dX3_nextDue_20 : decode cX3_nextDue 20 = .ok (.iload_n 3, 1) := by decide +kernel
theorem dX3_nextDue_21 : decode cX3_nextDue 21 = .ok (.iconst 4, 1) := by decide +kernel
theorem dX3_nextDue_22 : decode cX3_nextDue 22 = .ok (.if_icmp .ge 35, 3) := by decide +kernel
theorem dX3_nextDue_25 : decode cX3_nextDue 25 = .ok (.aload_n 0, 1) := by decide +kernel
theorem dX3_nextDue_26 : decode cX3_nextDue 26 = .ok (.getfield 33, 3) := by decide +kernel
theorem dX3_nextDue_29 : decode cX3_nextDue 29 = .ok (.iload_n 3, 1) := by decide +kernel
theorem dX3_nextDue_30 : decode cX3_nextDue 30 = .ok (.aaload, 1) := by decide +kernel
theorem dX3_nextDue_31 : decode cX3_nextDue 31 = .ok (.getfield 88, 3) := by decide +kernel
theorem dX3_nextDue_34 : decode cX3_nextDue 34 = .ok (.ifCond .eq 17, 3) := by decide +kernel
theorem dX3_nextDue_37 : decode cX3_nextDue 37 = .ok (.lload_n 1, 1) := by decide +kernel
theorem dX3_nextDue_38 : decode cX3_nextDue 38 = .ok (.aload_n 0, 1) := by decide +kernel
theorem dX3_nextDue_39 : decode cX3_nextDue 39 = .ok (.getfield 33, 3) := by decide +kernel
theorem dX3_nextDue_42 : decode cX3_nextDue 42 = .ok (.iload_n 3, 1) := by decide +kernel
theorem dX3_nextDue_43 : decode cX3_nextDue 43 = .ok (.aaload, 1) := by decide +kernel
theorem dX3_nextDue_44 : decode cX3_nextDue 44 = .ok (.getfield 121, 3) := by decide +kernel
theorem dX3_nextDue_47 : decode cX3_nextDue 47 = .ok (.invokestatic 115, 3) := by decide +kernel
theorem dX3_nextDue_50 : decode cX3_nextDue 50 = .ok (.lstore_n 1, 1) := by decide +kernel
theorem dX3_nextDue_51 : decode cX3_nextDue 51 = .ok (.iinc 3 1, 3) := by decide +kernel
theorem dX3_nextDue_54 : decode cX3_nextDue 54 = .ok (.goto (-34), 3) := by decide +kernel
theorem dX3_nextDue_57 : decode cX3_nextDue 57 = .ok (.iconst 0, 1) := by decide +kernel
theorem dX3_nextDue_58 : decode cX3_nextDue 58 = .ok (.istore_n 3, 1) := by decide +kernel
theorem dX3_nextDue_59 : decode cX3_nextDue 59 = .ok (.iload_n 3, 1) := by decide +kernel
theorem dX3_nextDue_60 : decode cX3_nextDue 60 = .ok (.aload_n 0, 1) := by decide +kernel
theorem dX3_nextDue_61 : decode cX3_nextDue 61 = .ok (.getfield 67, 3) := by decide +kernel
theorem dX3_nextDue_64 : decode cX3_nextDue 64 = .ok (.if_icmp .ge 23, 3) := by decide +kernel
theorem dX3_nextDue_67 : decode cX3_nextDue 67 = .ok (.lload_n 1, 1) := by decide +kernel
theorem dX3_nextDue_68 : decode cX3_nextDue 68 = .ok (.aload_n 0, 1) := by decide +kernel
theorem dX3_nextDue_69 : decode cX3_nextDue 69 = .ok (.getfield 39, 3) := by decide +kernel
theorem dX3_nextDue_72 : decode cX3_nextDue 72 = .ok (.iload_n 3, 1) := by decide +kernel
theorem dX3_nextDue_73 : decode cX3_nextDue 73 = .ok (.aaload, 1) := by decide +kernel
theorem dX3_nextDue_74 : decode cX3_nextDue 74 = .ok (.getfield 122, 3) := by decide +kernel
theorem dX3_nextDue_77 : decode cX3_nextDue 77 = .ok (.invokestatic 115, 3) := by decide +kernel
theorem dX3_nextDue_80 : decode cX3_nextDue 80 = .ok (.lstore_n 1, 1) := by decide +kernel
theorem dX3_nextDue_81 : decode cX3_nextDue 81 = .ok (.iinc 3 1, 3) := by decide +kernel
theorem dX3_nextDue_84 : decode cX3_nextDue 84 = .ok (.goto (-25), 3) := by decide +kernel
theorem dX3_nextDue_87 : decode cX3_nextDue 87 = .ok (.iconst 0, 1) := by decide +kernel
theorem dX3_nextDue_88 : decode cX3_nextDue 88 = .ok (.istore_n 3, 1) := by decide +kernel
theorem dX3_nextDue_89 : decode cX3_nextDue 89 = .ok (.iload_n 3, 1) := by decide +kernel
theorem dX3_nextDue_90 : decode cX3_nextDue 90 = .ok (.aload_n 0, 1) := by decide +kernel
theorem dX3_nextDue_91 : decode cX3_nextDue 91 = .ok (.getfield 46, 3) := by decide +kernel
theorem dX3_nextDue_94 : decode cX3_nextDue 94 = .ok (.getfield 85, 3) := by decide +kernel
theorem dX3_nextDue_97 : decode cX3_nextDue 97 = .ok (.if_icmp .ge 26, 3) := by decide +kernel
theorem dX3_nextDue_100 : decode cX3_nextDue 100 = .ok (.lload_n 1, 1) := by decide +kernel
theorem dX3_nextDue_101 : decode cX3_nextDue 101 = .ok (.aload_n 0, 1) := by decide +kernel
theorem dX3_nextDue_102 : decode cX3_nextDue 102 = .ok (.getfield 46, 3) := by decide +kernel
theorem dX3_nextDue_105 : decode cX3_nextDue 105 = .ok (.getfield 123, 3) := by decide +kernel
theorem dX3_nextDue_108 : decode cX3_nextDue 108 = .ok (.iload_n 3, 1) := by decide +kernel
theorem dX3_nextDue_109 : decode cX3_nextDue 109 = .ok (.aaload, 1) := by decide +kernel
theorem dX3_nextDue_110 : decode cX3_nextDue 110 = .ok (.getfield 127, 3) := by decide +kernel
theorem dX3_nextDue_113 : decode cX3_nextDue 113 = .ok (.invokestatic 115, 3) := by decide +kernel
theorem dX3_nextDue_116 : decode cX3_nextDue 116 = .ok (.lstore_n 1, 1) := by decide +kernel
theorem dX3_nextDue_117 : decode cX3_nextDue 117 = .ok (.iinc 3 1, 3) := by decide +kernel
theorem dX3_nextDue_120 : decode cX3_nextDue 120 = .ok (.goto (-31), 3) := by decide +kernel
theorem dX3_nextDue_123 : decode cX3_nextDue 123 = .ok (.lload_n 1, 1) := by decide +kernel
theorem dX3_nextDue_124 : decode cX3_nextDue 124 = .ok (.lreturn, 1) := by decide +kernel
theorem dX3_questionOf_0 : decode cX3_questionOf 0 = .ok (.iconst 0, 1) := by decide +kernel
theorem dX3_questionOf_1 : decode cX3_questionOf 1 = .ok (.istore_n 3, 1) := by decide +kernel
theorem dX3_questionOf_2 : decode cX3_questionOf 2 = .ok (.iload_n 3, 1) := by decide +kernel
theorem dX3_questionOf_3 : decode cX3_questionOf 3 = .ok (.iconst 4, 1) := by decide +kernel
theorem dX3_questionOf_4 : decode cX3_questionOf 4 = .ok (.if_icmp .ge 30, 3) := by decide +kernel
theorem dX3_questionOf_7 : decode cX3_questionOf 7 = .ok (.aload_n 0, 1) := by decide +kernel
theorem dX3_questionOf_8 : decode cX3_questionOf 8 = .ok (.getfield 33, 3) := by decide +kernel
theorem dX3_questionOf_11 : decode cX3_questionOf 11 = .ok (.iload_n 3, 1) := by decide +kernel
theorem dX3_questionOf_12 : decode cX3_questionOf 12 = .ok (.aaload, 1) := by decide +kernel
theorem dX3_questionOf_13 : decode cX3_questionOf 13 = .ok (.iload_n 1, 1) := by decide +kernel
theorem dX3_questionOf_14 : decode cX3_questionOf 14 = .ok (.aload_n 2, 1) := by decide +kernel
theorem dX3_questionOf_15 : decode cX3_questionOf 15 = .ok (.invokevirtual 130, 3) := by decide +kernel
theorem dX3_questionOf_18 : decode cX3_questionOf 18 = .ok (.ifCond .eq 10, 3) := by decide +kernel
theorem dX3_questionOf_21 : decode cX3_questionOf 21 = .ok (.aload_n 0, 1) := by decide +kernel
theorem dX3_questionOf_22 : decode cX3_questionOf 22 = .ok (.getfield 33, 3) := by decide +kernel
theorem dX3_questionOf_25 : decode cX3_questionOf 25 = .ok (.iload_n 3, 1) := by decide +kernel
theorem dX3_questionOf_26 : decode cX3_questionOf 26 = .ok (.aaload, 1) := by decide +kernel
theorem dX3_questionOf_27 : decode cX3_questionOf 27 = .ok (.areturn, 1) := by decide +kernel
theorem dX3_questionOf_28 : decode cX3_questionOf 28 = .ok (.iinc 3 1, 3) := by decide +kernel
theorem dX3_questionOf_31 : decode cX3_questionOf 31 = .ok (.goto (-29), 3) := by decide +kernel
theorem dX3_questionOf_34 : decode cX3_questionOf 34 = .ok (.aconst_null, 1) := by decide +kernel
theorem dX3_questionOf_35 : decode cX3_questionOf 35 = .ok (.areturn, 1) := by decide +kernel
theorem dX3_openQuestions_0 : decode cX3_openQuestions 0 = .ok (.iconst 0, 1) := by decide +kernel
theorem dX3_openQuestions_1 : decode cX3_openQuestions 1 = .ok (.istore_n 1, 1) := by decide +kernel
theorem dX3_openQuestions_2 : decode cX3_openQuestions 2 = .ok (.iconst 0, 1) := by decide +kernel
theorem dX3_openQuestions_3 : decode cX3_openQuestions 3 = .ok (.istore_n 2, 1) := by decide +kernel
theorem dX3_openQuestions_4 : decode cX3_openQuestions 4 = .ok (.iload_n 2, 1) := by decide +kernel
theorem dX3_openQuestions_5 : decode cX3_openQuestions 5 = .ok (.iconst 4, 1) := by decide +kernel
theorem dX3_openQuestions_6 : decode cX3_openQuestions 6 = .ok (.if_icmp .ge 24, 3) := by decide +kernel
theorem dX3_openQuestions_9 : decode cX3_openQuestions 9 = .ok (.aload_n 0, 1) := by decide +kernel
theorem dX3_openQuestions_10 : decode cX3_openQuestions 10 = .ok (.getfield 33, 3) := by decide +kernel
theorem dX3_openQuestions_13 : decode cX3_openQuestions 13 = .ok (.iload_n 2, 1) := by decide +kernel
theorem dX3_openQuestions_14 : decode cX3_openQuestions 14 = .ok (.aaload, 1) := by decide +kernel
theorem dX3_openQuestions_15 : decode cX3_openQuestions 15 = .ok (.getfield 88, 3) := by decide +kernel
theorem dX3_openQuestions_18 : decode cX3_openQuestions 18 = .ok (.ifCond .eq 6, 3) := by decide +kernel
theorem dX3_openQuestions_21 : decode cX3_openQuestions 21 = .ok (.iinc 1 1, 3) := by decide +kernel
theorem dX3_openQuestions_24 : decode cX3_openQuestions 24 = .ok (.iinc 2 1, 3) := by decide +kernel
theorem dX3_openQuestions_27 : decode cX3_openQuestions 27 = .ok (.goto (-23), 3) := by decide +kernel
theorem dX3_openQuestions_30 : decode cX3_openQuestions 30 = .ok (.iload_n 1, 1) := by decide +kernel
theorem dX3_openQuestions_31 : decode cX3_openQuestions 31 = .ok (.ireturn, 1) := by decide +kernel
theorem dX3_serviceCountOf_0 : decode cX3_serviceCountOf 0 = .ok (.iconst 0, 1) := by decide +kernel
theorem dX3_serviceCountOf_1 : decode cX3_serviceCountOf 1 = .ok (.istore_n 2, 1) := by decide +kernel
theorem dX3_serviceCountOf_2 : decode cX3_serviceCountOf 2 = .ok (.iconst 0, 1) := by decide +kernel
theorem dX3_serviceCountOf_3 : decode cX3_serviceCountOf 3 = .ok (.istore_n 3, 1) := by decide +kernel
theorem dX3_serviceCountOf_4 : decode cX3_serviceCountOf 4 = .ok (.iload_n 3, 1) := by decide +kernel
theorem dX3_serviceCountOf_5 : decode cX3_serviceCountOf 5 = .ok (.aload_n 0, 1) := by decide +kernel
theorem dX3_serviceCountOf_6 : decode cX3_serviceCountOf 6 = .ok (.getfield 64, 3) := by decide +kernel
theorem dX3_serviceCountOf_9 : decode cX3_serviceCountOf 9 = .ok (.if_icmp .ge 28, 3) := by decide +kernel
theorem dX3_serviceCountOf_12 : decode cX3_serviceCountOf 12 = .ok (.aload_n 0, 1) := by decide +kernel
theorem dX3_serviceCountOf_13 : decode cX3_serviceCountOf 13 = .ok (.getfield 27, 3) := by decide +kernel
theorem dX3_serviceCountOf_16 : decode cX3_serviceCountOf 16 = .ok (.iload_n 3, 1) := by decide +kernel
theorem dX3_serviceCountOf_17 : decode cX3_serviceCountOf 17 = .ok (.aaload, 1) := by decide +kernel
theorem dX3_serviceCountOf_18 : decode cX3_serviceCountOf 18 = .ok (.getfield 134, 3) := by decide +kernel
theorem dX3_serviceCountOf_21 : decode cX3_serviceCountOf 21 = .ok (.aload_n 1, 1) := by decide +kernel
theorem dX3_serviceCountOf_22 : decode cX3_serviceCountOf 22 = .ok (.invokevirtual 138, 3) := by decide +kernel
theorem dX3_serviceCountOf_25 : decode cX3_serviceCountOf 25 = .ok (.ifCond .eq 6, 3) := by decide +kernel
theorem dX3_serviceCountOf_28 : decode cX3_serviceCountOf 28 = .ok (.iinc 2 1, 3) := by decide +kernel
theorem dX3_serviceCountOf_31 : decode cX3_serviceCountOf 31 = .ok (.iinc 3 1, 3) := by decide +kernel
theorem dX3_serviceCountOf_34 : decode cX3_serviceCountOf 34 = .ok (.goto (-30), 3) := by decide +kernel
theorem dX3_serviceCountOf_37 : decode cX3_serviceCountOf 37 = .ok (.iload_n 2, 1) := by decide +kernel
theorem dX3_serviceCountOf_38 : decode cX3_serviceCountOf 38 = .ok (.ireturn, 1) := by decide +kernel
theorem dX3_hasReply_0 : decode cX3_hasReply 0 = .ok (.iconst 0, 1) := by decide +kernel
theorem dX3_hasReply_1 : decode cX3_hasReply 1 = .ok (.istore_n 2, 1) := by decide +kernel
theorem dX3_hasReply_2 : decode cX3_hasReply 2 = .ok (.iload_n 2, 1) := by decide +kernel
theorem dX3_hasReply_3 : decode cX3_hasReply 3 = .ok (.aload_n 0, 1) := by decide +kernel
theorem dX3_hasReply_4 : decode cX3_hasReply 4 = .ok (.getfield 67, 3) := by decide +kernel
theorem dX3_hasReply_7 : decode cX3_hasReply 7 = .ok (.if_icmp .ge 27, 3) := by decide +kernel
theorem dX3_hasReply_10 : decode cX3_hasReply 10 = .ok (.aload_n 0, 1) := by decide +kernel
theorem dX3_hasReply_11 : decode cX3_hasReply 11 = .ok (.getfield 39, 3) := by decide +kernel
theorem dX3_hasReply_14 : decode cX3_hasReply 14 = .ok (.iload_n 2, 1) := by decide +kernel
theorem dX3_hasReply_15 : decode cX3_hasReply 15 = .ok (.aaload, 1) := by decide +kernel
theorem dX3_hasReply_16 : decode cX3_hasReply 16 = .ok (.getfield 144, 3) := by decide +kernel
theorem dX3_hasReply_19 : decode cX3_hasReply 19 = .ok (.aload_n 1, 1) := by decide +kernel
theorem dX3_hasReply_20 : decode cX3_hasReply 20 = .ok (.invokevirtual 138, 3) := by decide +kernel
theorem dX3_hasReply_23 : decode cX3_hasReply 23 = .ok (.ifCond .eq 5, 3) := by decide +kernel
theorem dX3_hasReply_26 : decode cX3_hasReply 26 = .ok (.iconst 1, 1) := by decide +kernel
theorem dX3_hasReply_27 : decode cX3_hasReply 27 = .ok (.ireturn, 1) := by decide +kernel
theorem dX3_hasReply_28 : decode cX3_hasReply 28 = .ok (.iinc 2 1, 3) := by decide +kernel
theorem dX3_hasReply_31 : decode cX3_hasReply 31 = .ok (.goto (-29), 3) := by decide +kernel
theorem dX3_hasReply_34 : decode cX3_hasReply 34 = .ok (.iconst 0, 1) := by decide +kernel
theorem dX3_hasReply_35 : decode cX3_hasReply 35 = .ok (.ireturn, 1) := by decide +kernel
theorem dX3_removeReply_0 : decode cX3_removeReply 0 = .ok (.iload_n 1, 1) := by decide +kernel
theorem dX3_removeReply_1 : decode cX3_removeReply 1 = .ok (.ifCond .lt 11, 3) := by decide +kernel
theorem dX3_removeReply_4 : decode cX3_removeReply 4 = .ok (.iload_n 1, 1) := by decide +kernel
theorem dX3_removeReply_5 : decode cX3_removeReply 5 = .ok (.aload_n 0, 1) := by decide +kernel
theorem dX3_removeReply_6 : decode cX3_removeReply 6 = .ok (.getfield 67, 3) := by decide +kernel
theorem dX3_removeReply_9 : decode cX3_removeReply 9 = .ok (.if_icmp .lt 4, 3) := by decide +kernel
theorem dX3_removeReply_12 : decode cX3_removeReply 12 = .ok (.return_, 1) := by decide +kernel
theorem dX3_removeReply_13 : decode cX3_removeReply 13 = .ok (.aload_n 0, 1) := by decide +kernel
theorem dX3_removeReply_14 : decode cX3_removeReply 14 = .ok (.getfield 39, 3) := by decide +kernel
theorem dX3_removeReply_17 : decode cX3_removeReply 17 = .ok (.iload_n 1, 1) := by decide +kernel
theorem dX3_removeReply_18 : decode cX3_removeReply 18 = .ok (.aaload, 1) := by decide +kernel
theorem dX3_removeReply_19 : decode cX3_removeReply 19 = .ok (.astore_n 2, 1) := by decide +kernel
theorem dX3_removeReply_20 : decode cX3_removeReply 20 = .ok (.iload_n 1, 1) := by decide +kernel
theorem dX3_removeReply_21 : decode cX3_removeReply 21 = .ok (.iconst 1, 1) := by decide +kernel
theorem dX3_removeReply_22 : decode cX3_removeReply 22 = .ok (.iadd, 1) := by decide +kernel
theorem dX3_removeReply_23 : decode cX3_removeReply 23 = .ok (.istore_n 3, 1) := by decide +kernel
theorem dX3_removeReply_24 : decode cX3_removeReply 24 = .ok (.iload_n 3, 1) := by decide +kernel
theorem dX3_removeReply_25 : decode cX3_removeReply 25 = .ok (.aload_n 0, 1) := by decide +kernel
theorem dX3_removeReply_26 : decode cX3_removeReply 26 = .ok (.getfield 67, 3) := by decide +kernel
theorem dX3_removeReply_29 : decode cX3_removeReply 29 = .ok (.if_icmp .ge 23, 3) := by decide +kernel
theorem dX3_removeReply_32 : decode cX3_removeReply 32 = .ok (.aload_n 0, 1) := by decide +kernel
theorem dX3_removeReply_33 : decode cX3_removeReply 33 = .ok (.getfield 39, 3) := by decide +kernel
theorem dX3_removeReply_36 : decode cX3_removeReply 36 = .ok (.iload_n 3, 1) := by decide +kernel
theorem dX3_removeReply_37 : decode cX3_removeReply 37 = .ok (.iconst 1, 1) := by decide +kernel
theorem dX3_removeReply_38 : decode cX3_removeReply 38 = .ok (.isub, 1) := by decide +kernel
theorem dX3_removeReply_39 : decode cX3_removeReply 39 = .ok (.aload_n 0, 1) := by decide +kernel
theorem dX3_removeReply_40 : decode cX3_removeReply 40 = .ok (.getfield 39, 3) := by decide +kernel
theorem dX3_removeReply_43 : decode cX3_removeReply 43 = .ok (.iload_n 3, 1) := by decide +kernel
theorem dX3_removeReply_44 : decode cX3_removeReply 44 = .ok (.aaload, 1) := by decide +kernel
theorem dX3_removeReply_45 : decode cX3_removeReply 45 = .ok (.aastore, 1) := by decide +kernel
theorem dX3_removeReply_46 : decode cX3_removeReply 46 = .ok (.iinc 3 1, 3) := by decide +kernel
theorem dX3_removeReply_49 : decode cX3_removeReply 49 = .ok (.goto (-25), 3) := by decide +kernel
theorem dX3_removeReply_52 : decode cX3_removeReply 52 = .ok (.aload_n 0, 1) := by decide +kernel
theorem dX3_removeReply_53 : decode cX3_removeReply 53 = .ok (.dup, 1) := by decide +kernel
theorem dX3_removeReply_54 : decode cX3_removeReply 54 = .ok (.getfield 67, 3) := by decide +kernel
theorem dX3_removeReply_57 : decode cX3_removeReply 57 = .ok (.iconst 1, 1) := by decide +kernel
theorem dX3_removeReply_58 : decode cX3_removeReply 58 = .ok (.isub, 1) := by decide +kernel
theorem dX3_removeReply_59 : decode cX3_removeReply 59 = .ok (.putfield 67, 3) := by decide +kernel
theorem dX3_removeReply_62 : decode cX3_removeReply 62 = .ok (.aload_n 0, 1) := by decide +kernel
theorem dX3_removeReply_63 : decode cX3_removeReply 63 = .ok (.getfield 39, 3) := by decide +kernel
theorem dX3_removeReply_66 : decode cX3_removeReply 66 = .ok (.aload_n 0, 1) := by decide +kernel
theorem dX3_removeReply_67 : decode cX3_removeReply 67 = .ok (.getfield 67, 3) := by decide +kernel
theorem dX3_removeReply_70 : decode cX3_removeReply 70 = .ok (.aload_n 2, 1) := by decide +kernel
theorem dX3_removeReply_71 : decode cX3_removeReply 71 = .ok (.aastore, 1) := by decide +kernel
theorem dX3_removeReply_72 : decode cX3_removeReply 72 = .ok (.return_, 1) := by decide +kernel
theorem dX3_view_0 : decode cX3_view 0 = .ok (.iload_n 1, 1) := by decide +kernel
theorem dX3_view_1 : decode cX3_view 1 = .ok (.tableswitch 141 0 11 #[63, 65, 70, 92, 100, 108, 113, 118, 123, 141, 131, 136], 63) := by decide +kernel
theorem dX3_view_64 : decode cX3_view 64 = .ok (.iconst 1, 1) := by decide +kernel
theorem dX3_view_65 : decode cX3_view 65 = .ok (.ireturn, 1) := by decide +kernel
theorem dX3_view_66 : decode cX3_view 66 = .ok (.aload_n 0, 1) := by decide +kernel
theorem dX3_view_67 : decode cX3_view 67 = .ok (.getfield 54, 3) := by decide +kernel
theorem dX3_view_70 : decode cX3_view 70 = .ok (.ireturn, 1) := by decide +kernel
theorem dX3_view_71 : decode cX3_view 71 = .ok (.aload_n 0, 1) := by decide +kernel
theorem dX3_view_72 : decode cX3_view 72 = .ok (.getfield 12, 3) := by decide +kernel
theorem dX3_view_75 : decode cX3_view 75 = .ok (.invokevirtual 145, 3) := by decide +kernel
theorem dX3_view_78 : decode cX3_view 78 = .ok (.ifCond .eq 13, 3) := by decide +kernel
theorem dX3_view_81 : decode cX3_view 81 = .ok (.aload_n 0, 1) := by decide +kernel
theorem dX3_view_82 : decode cX3_view 82 = .ok (.getfield 12, 3) := by decide +kernel
theorem dX3_view_85 : decode cX3_view 85 = .ok (.getfield 149, 3) := by decide +kernel
theorem dX3_view_88 : decode cX3_view 88 = .ok (.goto 4, 3) := by decide +kernel
theorem dX3_view_91 : decode cX3_view 91 = .ok (.iconst (-1), 1) := by decide +kernel
theorem dX3_view_92 : decode cX3_view 92 = .ok (.ireturn, 1) := by decide +kernel
theorem dX3_view_93 : decode cX3_view 93 = .ok (.aload_n 0, 1) := by decide +kernel
theorem dX3_view_94 : decode cX3_view 94 = .ok (.getfield 12, 3) := by decide +kernel
theorem dX3_view_97 : decode cX3_view 97 = .ok (.getfield 98, 3) := by decide +kernel
theorem dX3_view_100 : decode cX3_view 100 = .ok (.ireturn, 1) := by decide +kernel
theorem dX3_view_101 : decode cX3_view 101 = .ok (.aload_n 0, 1) := by decide +kernel
theorem dX3_view_102 : decode cX3_view 102 = .ok (.getfield 21, 3) := by decide +kernel
theorem dX3_view_105 : decode cX3_view 105 = .ok (.getfield 104, 3) := by decide +kernel
theorem dX3_view_108 : decode cX3_view 108 = .ok (.ireturn, 1) := by decide +kernel
theorem dX3_view_109 : decode cX3_view 109 = .ok (.aload_n 0, 1) := by decide +kernel
theorem dX3_view_110 : decode cX3_view 110 = .ok (.getfield 61, 3) := by decide +kernel
theorem dX3_view_113 : decode cX3_view 113 = .ok (.ireturn, 1) := by decide +kernel
theorem dX3_view_114 : decode cX3_view 114 = .ok (.aload_n 0, 1) := by decide +kernel
theorem dX3_view_115 : decode cX3_view 115 = .ok (.getfield 64, 3) := by decide +kernel
theorem dX3_view_118 : decode cX3_view 118 = .ok (.ireturn, 1) := by decide +kernel
theorem dX3_view_119 : decode cX3_view 119 = .ok (.aload_n 0, 1) := by decide +kernel
theorem dX3_view_120 : decode cX3_view 120 = .ok (.invokevirtual 151, 3) := by decide +kernel
theorem dX3_view_123 : decode cX3_view 123 = .ok (.ireturn, 1) := by decide +kernel
theorem dX3_view_124 : decode cX3_view 124 = .ok (.aload_n 0, 1) := by decide +kernel
theorem dX3_view_125 : decode cX3_view 125 = .ok (.getfield 46, 3) := by decide +kernel
theorem dX3_view_128 : decode cX3_view 128 = .ok (.getfield 85, 3) := by decide +kernel
theorem dX3_view_131 : decode cX3_view 131 = .ok (.ireturn, 1) := by decide +kernel
theorem dX3_view_132 : decode cX3_view 132 = .ok (.aload_n 0, 1) := by decide +kernel
theorem dX3_view_133 : decode cX3_view 133 = .ok (.getfield 70, 3) := by decide +kernel
theorem dX3_view_136 : decode cX3_view 136 = .ok (.ireturn, 1) := by decide +kernel
theorem dX3_view_137 : decode cX3_view 137 = .ok (.aload_n 0, 1) := by decide +kernel
theorem dX3_view_138 : decode cX3_view 138 = .ok (.getfield 73, 3) := by decide +kernel
theorem dX3_view_141 : decode cX3_view 141 = .ok (.ireturn, 1) := by decide +kernel
theorem dX3_view_142 : decode cX3_view 142 = .ok (.iconst 0, 1) := by decide +kernel
theorem dX3_view_143 : decode cX3_view 143 = .ok (.ireturn, 1) := by decide +kernel
theorem dX4_init_0 : decode cX4_init 0 = .ok (.aload_n 0, 1) := by decide +kernel
theorem dX4_init_1 : decode cX4_init 1 = .ok (.invokespecial 3, 3) := by decide +kernel
theorem dX4_init_4 : decode cX4_init 4 = .ok (.aload_n 0, 1) := by decide +kernel
theorem dX4_init_5 : decode cX4_init 5 = .ok (.new 9, 3) := by decide +kernel
theorem dX4_init_8 : decode cX4_init 8 = .ok (.dup, 1) := by decide +kernel
theorem dX4_init_9 : decode cX4_init 9 = .ok (.invokespecial 11, 3) := by decide +kernel
theorem dX4_init_12 : decode cX4_init 12 = .ok (.putfield 12, 3) := by decide +kernel
theorem dX4_init_15 : decode cX4_init 15 = .ok (.aload_n 0, 1) := by decide +kernel
theorem dX4_init_16 : decode cX4_init 16 = .ok (.new 9, 3) := by decide +kernel
theorem dX4_init_19 : decode cX4_init 19 = .ok (.dup, 1) := by decide +kernel
theorem dX4_init_20 : decode cX4_init 20 = .ok (.invokespecial 11, 3) := by decide +kernel
theorem dX4_init_23 : decode cX4_init 23 = .ok (.putfield 18, 3) := by decide +kernel
theorem dX4_init_26 : decode cX4_init 26 = .ok (.aload_n 0, 1) := by decide +kernel
theorem dX4_init_27 : decode cX4_init 27 = .ok (.iconst 0, 1) := by decide +kernel
theorem dX4_init_28 : decode cX4_init 28 = .ok (.putfield 21, 3) := by decide +kernel
theorem dX4_init_31 : decode cX4_init 31 = .ok (.aload_n 0, 1) := by decide +kernel
theorem dX4_init_32 : decode cX4_init 32 = .ok (.iconst 1, 1) := by decide +kernel
theorem dX4_init_33 : decode cX4_init 33 = .ok (.putfield 25, 3) := by decide +kernel
theorem dX4_init_36 : decode cX4_init 36 = .ok (.aload_n 0, 1) := by decide +kernel
theorem dX4_init_37 : decode cX4_init 37 = .ok (.iconst 0, 1) := by decide +kernel
theorem dX4_init_38 : decode cX4_init 38 = .ok (.putfield 28, 3) := by decide +kernel
theorem dX4_init_41 : decode cX4_init 41 = .ok (.aload_n 0, 1) := by decide +kernel
theorem dX4_init_42 : decode cX4_init 42 = .ok (.ldc2_w 31, 3) := by decide +kernel
theorem dX4_init_45 : decode cX4_init 45 = .ok (.putfield 33, 3) := by decide +kernel
theorem dX4_init_48 : decode cX4_init 48 = .ok (.return_, 1) := by decide +kernel
theorem dX4_forget_0 : decode cX4_forget 0 = .ok (.aload_n 0, 1) := by decide +kernel
theorem dX4_forget_1 : decode cX4_forget 1 = .ok (.iconst 0, 1) := by decide +kernel
theorem dX4_forget_2 : decode cX4_forget 2 = .ok (.putfield 21, 3) := by decide +kernel
theorem dX4_forget_5 : decode cX4_forget 5 = .ok (.aload_n 0, 1) := by decide +kernel
theorem dX4_forget_6 : decode cX4_forget 6 = .ok (.iconst 1, 1) := by decide +kernel
theorem dX4_forget_7 : decode cX4_forget 7 = .ok (.putfield 25, 3) := by decide +kernel
theorem dX4_forget_10 : decode cX4_forget 10 = .ok (.aload_n 0, 1) := by decide +kernel
theorem dX4_forget_11 : decode cX4_forget 11 = .ok (.ldc2_w 31, 3) := by decide +kernel
theorem dX4_forget_14 : decode cX4_forget 14 = .ok (.putfield 33, 3) := by decide +kernel
theorem dX4_forget_17 : decode cX4_forget 17 = .ok (.return_, 1) := by decide +kernel
theorem dX4_pause_0 : decode cX4_pause 0 = .ok (.aload_n 0, 1) := by decide +kernel
theorem dX4_pause_1 : decode cX4_pause 1 = .ok (.iconst 1, 1) := by decide +kernel
theorem dX4_pause_2 : decode cX4_pause 2 = .ok (.putfield 21, 3) := by decide +kernel
theorem dX4_pause_5 : decode cX4_pause 5 = .ok (.aload_n 0, 1) := by decide +kernel
theorem dX4_pause_6 : decode cX4_pause 6 = .ok (.ldc2_w 31, 3) := by decide +kernel
theorem dX4_pause_9 : decode cX4_pause 9 = .ok (.putfield 33, 3) := by decide +kernel
theorem dX4_pause_12 : decode cX4_pause 12 = .ok (.return_, 1) := by decide +kernel
theorem dX4_probe_0 : decode cX4_probe 0 = .ok (.aload_n 0, 1) := by decide +kernel
theorem dX4_probe_1 : decode cX4_probe 1 = .ok (.iconst 2, 1) := by decide +kernel
theorem dX4_probe_2 : decode cX4_probe 2 = .ok (.putfield 21, 3) := by decide +kernel
theorem dX4_probe_5 : decode cX4_probe 5 = .ok (.aload_n 0, 1) := by decide +kernel
theorem dX4_probe_6 : decode cX4_probe 6 = .ok (.iconst 0, 1) := by decide +kernel
theorem dX4_probe_7 : decode cX4_probe 7 = .ok (.putfield 28, 3) := by decide +kernel
theorem dX4_probe_10 : decode cX4_probe 10 = .ok (.aload_n 0, 1) := by decide +kernel
theorem dX4_probe_11 : decode cX4_probe 11 = .ok (.lload_n 2, 1) := by decide +kernel
theorem dX4_probe_12 : decode cX4_probe 12 = .ok (.bipush 13, 2) := by decide +kernel
theorem dX4_probe_14 : decode cX4_probe 14 = .ok (.iload_n 1, 1) := by decide +kernel
theorem dX4_probe_15 : decode cX4_probe 15 = .ok (.imul, 1) := by decide +kernel
theorem dX4_probe_16 : decode cX4_probe 16 = .ok (.sipush 250, 3) := by decide +kernel
theorem dX4_probe_19 : decode cX4_probe 19 = .ok (.irem, 1) := by decide +kernel
theorem dX4_probe_20 : decode cX4_probe 20 = .ok (.i2l, 1) := by decide +kernel
theorem dX4_probe_21 : decode cX4_probe 21 = .ok (.ladd, 1) := by decide +kernel
theorem dX4_probe_22 : decode cX4_probe 22 = .ok (.putfield 33, 3) := by decide +kernel
theorem dX4_probe_25 : decode cX4_probe 25 = .ok (.return_, 1) := by decide +kernel
theorem dX4_restart_0 : decode cX4_restart 0 = .ok (.aload_n 0, 1) := by decide +kernel
theorem dX4_restart_1 : decode cX4_restart 1 = .ok (.iconst 0, 1) := by decide +kernel
theorem dX4_restart_2 : decode cX4_restart 2 = .ok (.putfield 28, 3) := by decide +kernel
theorem dX4_restart_5 : decode cX4_restart 5 = .ok (.aload_n 0, 1) := by decide +kernel
theorem dX4_restart_6 : decode cX4_restart 6 = .ok (.lload_n 1, 1) := by decide +kernel
theorem dX4_restart_7 : decode cX4_restart 7 = .ok (.ldc2_w 37, 3) := by decide +kernel
theorem dX4_restart_10 : decode cX4_restart 10 = .ok (.ladd, 1) := by decide +kernel
theorem dX4_restart_11 : decode cX4_restart 11 = .ok (.putfield 33, 3) := by decide +kernel
theorem dX4_restart_14 : decode cX4_restart 14 = .ok (.return_, 1) := by decide +kernel
theorem dX4_advance_0 : decode cX4_advance 0 = .ok (.aload_n 0, 1) := by decide +kernel
theorem dX4_advance_1 : decode cX4_advance 1 = .ok (.dup, 1) := by decide +kernel
theorem dX4_advance_2 : decode cX4_advance 2 = .ok (.getfield 28, 3) := by decide +kernel
theorem dX4_advance_5 : decode cX4_advance 5 = .ok (.iconst 1, 1) := by decide +kernel
theorem dX4_advance_6 : decode cX4_advance 6 = .ok (.iadd, 1) := by decide +kernel
theorem dX4_advance_7 : decode cX4_advance 7 = .ok (.putfield 28, 3) := by decide +kernel
theorem dX4_advance_10 : decode cX4_advance 10 = .ok (.aload_n 0, 1) := by decide +kernel
theorem dX4_advance_11 : decode cX4_advance 11 = .ok (.getfield 28, 3) := by decide +kernel
theorem dX4_advance_14 : decode cX4_advance 14 = .ok (.iconst 3, 1) := by decide +kernel
theorem dX4_advance_15 : decode cX4_advance 15 = .ok (.if_icmp .gt 13, 3) := by decide +kernel
theorem dX4_advance_18 : decode cX4_advance 18 = .ok (.aload_n 0, 1) := by decide +kernel
theorem dX4_advance_19 : decode cX4_advance 19 = .ok (.lload_n 1, 1) := by decide +kernel
theorem dX4_advance_20 : decode cX4_advance 20 = .ok (.ldc2_w 39, 3) := by decide +kernel
theorem dX4_advance_23 : decode cX4_advance 23 = .ok (.ladd, 1) := by decide +kernel
theorem dX4_advance_24 : decode cX4_advance 24 = .ok (.putfield 33, 3) := by decide +kernel
theorem dX4_advance_27 : decode cX4_advance 27 = .ok (.return_, 1) := by decide +kernel
theorem dX4_advance_28 : decode cX4_advance 28 = .ok (.aload_n 0, 1) := by decide +kernel
theorem dX4_advance_29 : decode cX4_advance 29 = .ok (.iconst 3, 1) := by decide +kernel
theorem dX4_advance_30 : decode cX4_advance 30 = .ok (.putfield 21, 3) := by decide +kernel
theorem dX4_advance_33 : decode cX4_advance 33 = .ok (.aload_n 0, 1) := by decide +kernel
theorem dX4_advance_34 : decode cX4_advance 34 = .ok (.aload_n 0, 1) := by decide +kernel
theorem dX4_advance_35 : decode cX4_advance 35 = .ok (.getfield 28, 3) := by decide +kernel
theorem dX4_advance_38 : decode cX4_advance 38 = .ok (.iconst 4, 1) := by decide +kernel
theorem dX4_advance_39 : decode cX4_advance 39 = .ok (.if_icmp .ne 11, 3) := by decide +kernel
theorem dX4_advance_42 : decode cX4_advance 42 = .ok (.lload_n 1, 1) := by decide +kernel
theorem dX4_advance_43 : decode cX4_advance 43 = .ok (.ldc2_w 37, 3) := by decide +kernel
theorem dX4_advance_46 : decode cX4_advance 46 = .ok (.ladd, 1) := by decide +kernel
theorem dX4_advance_47 : decode cX4_advance 47 = .ok (.goto 6, 3) := by decide +kernel
theorem dX4_advance_50 : decode cX4_advance 50 = .ok (.ldc2_w 31, 3) := by decide +kernel
theorem dX4_advance_53 : decode cX4_advance 53 = .ok (.putfield 33, 3) := by decide +kernel
theorem dX4_advance_56 : decode cX4_advance 56 = .ok (.return_, 1) := by decide +kernel
theorem dX4_tellAgain_0 : decode cX4_tellAgain 0 = .ok (.aload_n 0, 1) := by decide +kernel
theorem dX4_tellAgain_1 : decode cX4_tellAgain 1 = .ok (.iconst 4, 1) := by decide +kernel
theorem dX4_tellAgain_2 : decode cX4_tellAgain 2 = .ok (.putfield 28, 3) := by decide +kernel
theorem dX4_tellAgain_5 : decode cX4_tellAgain 5 = .ok (.aload_n 0, 1) := by decide +kernel
theorem dX4_tellAgain_6 : decode cX4_tellAgain 6 = .ok (.lload_n 2, 1) := by decide +kernel
theorem dX4_tellAgain_7 : decode cX4_tellAgain 7 = .ok (.bipush 13, 2) := by decide +kernel
theorem dX4_tellAgain_9 : decode cX4_tellAgain 9 = .ok (.iload_n 1, 1) := by decide +kernel
theorem dX4_tellAgain_10 : decode cX4_tellAgain 10 = .ok (.imul, 1) := by decide +kernel
theorem dX4_tellAgain_11 : decode cX4_tellAgain 11 = .ok (.sipush 250, 3) := by decide +kernel
theorem dX4_tellAgain_14 : decode cX4_tellAgain 14 = .ok (.irem, 1) := by decide +kernel
theorem dX4_tellAgain_15 : decode cX4_tellAgain 15 = .ok (.i2l, 1) := by decide +kernel
theorem dX4_tellAgain_16 : decode cX4_tellAgain 16 = .ok (.ladd, 1) := by decide +kernel
theorem dX4_tellAgain_17 : decode cX4_tellAgain 17 = .ok (.putfield 33, 3) := by decide +kernel
theorem dX4_tellAgain_20 : decode cX4_tellAgain 20 = .ok (.return_, 1) := by decide +kernel
theorem dX4_isOf_0 : decode cX4_isOf 0 = .ok (.aload_n 0, 1) := by decide +kernel
theorem dX4_isOf_1 : decode cX4_isOf 1 = .ok (.getfield 21, 3) := by decide +kernel
theorem dX4_isOf_4 : decode cX4_isOf 4 = .ok (.iconst 2, 1) := by decide +kernel
theorem dX4_isOf_5 : decode cX4_isOf 5 = .ok (.if_icmp .lt 18, 3) := by decide +kernel
theorem dX4_isOf_8 : decode cX4_isOf 8 = .ok (.aload_n 0, 1) := by decide +kernel
theorem dX4_isOf_9 : decode cX4_isOf 9 = .ok (.getfield 18, 3) := by decide +kernel
theorem dX4_isOf_12 : decode cX4_isOf 12 = .ok (.aload_n 1, 1) := by decide +kernel
theorem dX4_isOf_13 : decode cX4_isOf 13 = .ok (.invokevirtual 41, 3) := by decide +kernel
theorem dX4_isOf_16 : decode cX4_isOf 16 = .ok (.ifCond .eq 7, 3) := by decide +kernel
theorem dX4_isOf_19 : decode cX4_isOf 19 = .ok (.iconst 1, 1) := by decide +kernel
theorem dX4_isOf_20 : decode cX4_isOf 20 = .ok (.goto 4, 3) := by decide +kernel
theorem dX4_isOf_23 : decode cX4_isOf 23 = .ok (.iconst 0, 1) := by decide +kernel
theorem dX4_isOf_24 : decode cX4_isOf 24 = .ok (.ireturn, 1) := by decide +kernel
theorem dX4_rename_0 : decode cX4_rename 0 = .ok (.aload_n 0, 1) := by decide +kernel
theorem dX4_rename_1 : decode cX4_rename 1 = .ok (.dup, 1) := by decide +kernel
theorem dX4_rename_2 : decode cX4_rename 2 = .ok (.getfield 25, 3) := by decide +kernel
theorem dX4_rename_5 : decode cX4_rename 5 = .ok (.iconst 1, 1) := by decide +kernel
theorem dX4_rename_6 : decode cX4_rename 6 = .ok (.iadd, 1) := by decide +kernel
theorem dX4_rename_7 : decode cX4_rename 7 = .ok (.putfield 25, 3) := by decide +kernel
theorem dX4_rename_10 : decode cX4_rename 10 = .ok (.iconst 1, 1) := by decide +kernel
theorem dX4_rename_11 : decode cX4_rename 11 = .ok (.istore_n 1, 1) := by decide +kernel
theorem dX4_rename_12 : decode cX4_rename 12 = .ok (.iconst 1, 1) := by decide +kernel
theorem dX4_rename_13 : decode cX4_rename 13 = .ok (.istore_n 2, 1) := by decide +kernel
theorem dX4_rename_14 : decode cX4_rename 14 = .ok (.aload_n 0, 1) := by decide +kernel
theorem dX4_rename_15 : decode cX4_rename 15 = .ok (.getfield 25, 3) := by decide +kernel
theorem dX4_rename_18 : decode cX4_rename 18 = .ok (.bipush 10, 2) := by decide +kernel
theorem dX4_rename_20 : decode cX4_rename 20 = .ok (.idiv, 1) := by decide +kernel
theorem dX4_rename_21 : decode cX4_rename 21 = .ok (.istore_n 3, 1) := by decide +kernel
theorem dX4_rename_22 : decode cX4_rename 22 = .ok (.iload_n 3, 1) := by decide +kernel
theorem dX4_rename_23 : decode cX4_rename 23 = .ok (.ifCond .le 19, 3) := by decide +kernel
theorem dX4_rename_26 : decode cX4_rename 26 = .ok (.iinc 1 1, 3) := by decide +kernel
theorem dX4_rename_29 : decode cX4_rename 29 = .ok (.iload_n 2, 1) := by decide +kernel
theorem dX4_rename_30 : decode cX4_rename 30 = .ok (.bipush 10, 2) := by decide +kernel
theorem dX4_rename_32 : decode cX4_rename 32 = .ok (.imul, 1) := by decide +kernel
theorem dX4_rename_33 : decode cX4_rename 33 = .ok (.istore_n 2, 1) := by decide +kernel
theorem dX4_rename_34 : decode cX4_rename 34 = .ok (.iload_n 3, 1) := by decide +kernel
theorem dX4_rename_35 : decode cX4_rename 35 = .ok (.bipush 10, 2) := by decide +kernel
theorem dX4_rename_37 : decode cX4_rename 37 = .ok (.idiv, 1) := by decide +kernel
theorem dX4_rename_38 : decode cX4_rename 38 = .ok (.istore_n 3, 1) := by decide +kernel
theorem dX4_rename_39 : decode cX4_rename 39 = .ok (.goto (-17), 3) := by decide +kernel
theorem dX4_rename_42 : decode cX4_rename 42 = .ok (.aload_n 0, 1) := by decide +kernel
theorem dX4_rename_43 : decode cX4_rename 43 = .ok (.getfield 12, 3) := by decide +kernel
theorem dX4_rename_46 : decode cX4_rename 46 = .ok (.getfield 45, 3) := by decide +kernel
theorem dX4_rename_49 : decode cX4_rename 49 = .ok (.bipush 14, 2) := by decide +kernel
theorem dX4_rename_51 : decode cX4_rename 51 = .ok (.iload_n 1, 1) := by decide +kernel
theorem dX4_rename_52 : decode cX4_rename 52 = .ok (.isub, 1) := by decide +kernel
theorem dX4_rename_53 : decode cX4_rename 53 = .ok (.invokestatic 48, 3) := by decide +kernel
theorem dX4_rename_56 : decode cX4_rename 56 = .ok (.istore_n 3, 1) := by decide +kernel
theorem dX4_rename_57 : decode cX4_rename 57 = .ok (.aload_n 0, 1) := by decide +kernel
theorem dX4_rename_58 : decode cX4_rename 58 = .ok (.getfield 18, 3) := by decide +kernel
theorem dX4_rename_61 : decode cX4_rename 61 = .ok (.invokevirtual 54, 3) := by decide +kernel
theorem dX4_rename_64 : decode cX4_rename 64 = .ok (.iconst 0, 1) := by decide +kernel
theorem dX4_rename_65 : decode cX4_rename 65 = .ok (.istore 4, 2) := by decide +kernel
theorem dX4_rename_67 : decode cX4_rename 67 = .ok (.iload 4, 2) := by decide +kernel
theorem dX4_rename_69 : decode cX4_rename 69 = .ok (.iload_n 3, 1) := by decide +kernel
theorem dX4_rename_70 : decode cX4_rename 70 = .ok (.if_icmp .ge 26, 3) := by decide +kernel
theorem dX4_rename_73 : decode cX4_rename 73 = .ok (.aload_n 0, 1) := by decide +kernel
theorem dX4_rename_74 : decode cX4_rename 74 = .ok (.getfield 18, 3) := by decide +kernel
theorem dX4_rename_77 : decode cX4_rename 77 = .ok (.aload_n 0, 1) := by decide +kernel
theorem dX4_rename_78 : decode cX4_rename 78 = .ok (.getfield 12, 3) := by decide +kernel
theorem dX4_rename_81 : decode cX4_rename 81 = .ok (.getfield 57, 3) := by decide +kernel
theorem dX4_rename_84 : decode cX4_rename 84 = .ok (.iload 4, 2) := by decide +kernel
theorem dX4_rename_86 : decode cX4_rename 86 = .ok (.baload, 1) := by decide +kernel
theorem dX4_rename_87 : decode cX4_rename 87 = .ok (.invokevirtual 61, 3) := by decide +kernel
theorem dX4_rename_90 : decode cX4_rename 90 = .ok (.iinc 4 1, 3) := by decide +kernel
theorem dX4_rename_93 : decode cX4_rename 93 = .ok (.goto (-26), 3) := by decide +kernel
theorem dX4_rename_96 : decode cX4_rename 96 = .ok (.aload_n 0, 1) := by decide +kernel
theorem dX4_rename_97 : decode cX4_rename 97 = .ok (.getfield 18, 3) := by decide +kernel
theorem dX4_rename_100 : decode cX4_rename 100 = .ok (.bipush 45, 2) := by decide +kernel
theorem dX4_rename_102 : decode cX4_rename 102 = .ok (.invokevirtual 61, 3) := by decide +kernel
theorem dX4_rename_105 : decode cX4_rename 105 = .ok (.iload_n 2, 1) := by decide +kernel
theorem dX4_rename_106 : decode cX4_rename 106 = .ok (.istore 4, 2) := by decide +kernel
theorem dX4_rename_108 : decode cX4_rename 108 = .ok (.iload 4, 2) := by decide +kernel
theorem dX4_rename_110 : decode cX4_rename 110 = .ok (.ifCond .le 33, 3) := by decide +kernel
theorem dX4_rename_113 : decode cX4_rename 113 = .ok (.aload_n 0, 1) := by decide +kernel
theorem dX4_rename_114 : decode cX4_rename 114 = .ok (.getfield 18, 3) := by decide +kernel
theorem dX4_rename_117 : decode cX4_rename 117 = .ok (.bipush 48, 2) := by decide +kernel
theorem dX4_rename_119 : decode cX4_rename 119 = .ok (.aload_n 0, 1) := by decide +kernel
theorem dX4_rename_120 : decode cX4_rename 120 = .ok (.getfield 25, 3) := by decide +kernel
theorem dX4_rename_123 : decode cX4_rename 123 = .ok (.iload 4, 2) := by decide +kernel
theorem dX4_rename_125 : decode cX4_rename 125 = .ok (.idiv, 1) := by decide +kernel
theorem dX4_rename_126 : decode cX4_rename 126 = .ok (.bipush 10, 2) := by decide +kernel
theorem dX4_rename_128 : decode cX4_rename 128 = .ok (.irem, 1) := by decide +kernel
theorem dX4_rename_129 : decode cX4_rename 129 = .ok (.iadd, 1) := by decide +kernel
theorem dX4_rename_130 : decode cX4_rename 130 = .ok (.invokevirtual 61, 3) := by decide +kernel
theorem dX4_rename_133 : decode cX4_rename 133 = .ok (.iload 4, 2) := by decide +kernel
theorem dX4_rename_135 : decode cX4_rename 135 = .ok (.bipush 10, 2) := by decide +kernel
theorem dX4_rename_137 : decode cX4_rename 137 = .ok (.idiv, 1) := by decide +kernel
theorem dX4_rename_138 : decode cX4_rename 138 = .ok (.istore 4, 2) := by decide +kernel
theorem dX4_rename_140 : decode cX4_rename 140 = .ok (.goto (-32), 3) := by decide +kernel
theorem dX4_rename_143 : decode cX4_rename 143 = .ok (.return_, 1) := by decide +kernel
theorem dX5_init_0 : decode cX5_init 0 = .ok (.aload_n 0, 1) := by decide +kernel
theorem dX5_init_1 : decode cX5_init 1 = .ok (.invokespecial 3, 3) := by decide +kernel
theorem dX5_init_4 : decode cX5_init 4 = .ok (.aload_n 0, 1) := by decide +kernel
theorem dX5_init_5 : decode cX5_init 5 = .ok (.sipush 200, 3) := by decide +kernel
theorem dX5_init_8 : decode cX5_init 8 = .ok (.newarray .byte, 2) := by decide +kernel
theorem dX5_init_10 : decode cX5_init 10 = .ok (.putfield 11, 3) := by decide +kernel
theorem dX5_init_13 : decode cX5_init 13 = .ok (.aload_n 0, 1) := by decide +kernel
theorem dX5_init_14 : decode cX5_init 14 = .ok (.bipush 17, 2) := by decide +kernel
theorem dX5_init_16 : decode cX5_init 16 = .ok (.newarray .int, 2) := by decide +kernel
theorem dX5_init_18 : decode cX5_init 18 = .ok (.putfield 15, 3) := by decide +kernel
theorem dX5_init_21 : decode cX5_init 21 = .ok (.aload_n 0, 1) := by decide +kernel
theorem dX5_init_22 : decode cX5_init 22 = .ok (.iconst 0, 1) := by decide +kernel
theorem dX5_init_23 : decode cX5_init 23 = .ok (.putfield 19, 3) := by decide +kernel
theorem dX5_init_26 : decode cX5_init 26 = .ok (.aload_n 0, 1) := by decide +kernel
theorem dX5_init_27 : decode cX5_init 27 = .ok (.iconst 0, 1) := by decide +kernel
theorem dX5_init_28 : decode cX5_init 28 = .ok (.putfield 23, 3) := by decide +kernel
theorem dX5_init_31 : decode cX5_init 31 = .ok (.aload_n 0, 1) := by decide +kernel
theorem dX5_init_32 : decode cX5_init 32 = .ok (.iconst (-1), 1) := by decide +kernel
theorem dX5_init_33 : decode cX5_init 33 = .ok (.putfield 26, 3) := by decide +kernel
theorem dX5_init_36 : decode cX5_init 36 = .ok (.aload_n 0, 1) := by decide +kernel
theorem dX5_init_37 : decode cX5_init 37 = .ok (.iconst 0, 1) := by decide +kernel
theorem dX5_init_38 : decode cX5_init 38 = .ok (.putfield 29, 3) := by decide +kernel
theorem dX5_init_41 : decode cX5_init 41 = .ok (.return_, 1) := by decide +kernel
theorem dX5_start_0 : decode cX5_start 0 = .ok (.aload_n 0, 1) := by decide +kernel
theorem dX5_start_1 : decode cX5_start 1 = .ok (.iconst 0, 1) := by decide +kernel
theorem dX5_start_2 : decode cX5_start 2 = .ok (.putfield 19, 3) := by decide +kernel
theorem dX5_start_5 : decode cX5_start 5 = .ok (.aload_n 0, 1) := by decide +kernel
theorem dX5_start_6 : decode cX5_start 6 = .ok (.iconst 0, 1) := by decide +kernel
theorem dX5_start_7 : decode cX5_start 7 = .ok (.putfield 23, 3) := by decide +kernel
theorem dX5_start_10 : decode cX5_start 10 = .ok (.aload_n 0, 1) := by decide +kernel
theorem dX5_start_11 : decode cX5_start 11 = .ok (.iload_n 1, 1) := by decide +kernel
theorem dX5_start_12 : decode cX5_start 12 = .ok (.putfield 26, 3) := by decide +kernel
theorem dX5_start_15 : decode cX5_start 15 = .ok (.aload_n 0, 1) := by decide +kernel
theorem dX5_start_16 : decode cX5_start 16 = .ok (.iload_n 2, 1) := by decide +kernel
theorem dX5_start_17 : decode cX5_start 17 = .ok (.putfield 29, 3) := by decide +kernel
theorem dX5_start_20 : decode cX5_start 20 = .ok (.return_, 1) := by decide +kernel
theorem dX5_at_0 : decode cX5_at 0 = .ok (.iload_n 1, 1) := by decide +kernel
theorem dX5_at_1 : decode cX5_at 1 = .ok (.ifCond .lt 11, 3) := by decide +kernel
theorem dX5_at_4 : decode cX5_at 4 = .ok (.iload_n 1, 1) := by decide +kernel
theorem dX5_at_5 : decode cX5_at 5 = .ok (.aload_n 0, 1) := by decide +kernel
theorem dX5_at_6 : decode cX5_at 6 = .ok (.getfield 19, 3) := by decide +kernel
theorem dX5_at_9 : decode cX5_at 9 = .ok (.if_icmp .lt 7, 3) := by decide +kernel
theorem dX5_at_12 : decode cX5_at 12 = .ok (.iconst (-1), 1) := by decide +kernel
theorem dX5_at_13 : decode cX5_at 13 = .ok (.goto 13, 3) := by decide +kernel
theorem dX5_at_16 : decode cX5_at 16 = .ok (.aload_n 0, 1) := by decide +kernel
theorem dX5_at_17 : decode cX5_at 17 = .ok (.getfield 11, 3) := by decide +kernel
theorem dX5_at_20 : decode cX5_at 20 = .ok (.iload_n 1, 1) := by decide +kernel
theorem dX5_at_21 : decode cX5_at 21 = .ok (.baload, 1) := by decide +kernel
theorem dX5_at_22 : decode cX5_at 22 = .ok (.sipush 255, 3) := by decide +kernel
theorem dX5_at_25 : decode cX5_at 25 = .ok (.iand, 1) := by decide +kernel
theorem dX5_at_26 : decode cX5_at 26 = .ok (.ireturn, 1) := by decide +kernel
theorem dX5_put_0 : decode cX5_put 0 = .ok (.aload_n 0, 1) := by decide +kernel
theorem dX5_put_1 : decode cX5_put 1 = .ok (.getfield 19, 3) := by decide +kernel
theorem dX5_put_4 : decode cX5_put 4 = .ok (.sipush 200, 3) := by decide +kernel
theorem dX5_put_7 : decode cX5_put 7 = .ok (.if_icmp .ge 24, 3) := by decide +kernel
theorem dX5_put_10 : decode cX5_put 10 = .ok (.aload_n 0, 1) := by decide +kernel
theorem dX5_put_11 : decode cX5_put 11 = .ok (.getfield 11, 3) := by decide +kernel
theorem dX5_put_14 : decode cX5_put 14 = .ok (.aload_n 0, 1) := by decide +kernel
theorem dX5_put_15 : decode cX5_put 15 = .ok (.getfield 19, 3) := by decide +kernel
theorem dX5_put_18 : decode cX5_put 18 = .ok (.iload_n 1, 1) := by decide +kernel
theorem dX5_put_19 : decode cX5_put 19 = .ok (.i2b, 1) := by decide +kernel
theorem dX5_put_20 : decode cX5_put 20 = .ok (.bastore, 1) := by decide +kernel
theorem dX5_put_21 : decode cX5_put 21 = .ok (.aload_n 0, 1) := by decide +kernel
theorem dX5_put_22 : decode cX5_put 22 = .ok (.dup, 1) := by decide +kernel
theorem dX5_put_23 : decode cX5_put 23 = .ok (.getfield 19, 3) := by decide +kernel
theorem dX5_put_26 : decode cX5_put 26 = .ok (.iconst 1, 1) := by decide +kernel
theorem dX5_put_27 : decode cX5_put 27 = .ok (.iadd, 1) := by decide +kernel
theorem dX5_put_28 : decode cX5_put 28 = .ok (.putfield 19, 3) := by decide +kernel
theorem dX5_put_31 : decode cX5_put 31 = .ok (.return_, 1) := by decide +kernel
theorem dX5_putNumber_0 : decode cX5_putNumber 0 = .ok (.iload_n 2, 1) := by decide +kernel
theorem dX5_putNumber_1 : decode cX5_putNumber 1 = .ok (.iconst 1, 1) := by decide +kernel
theorem dX5_putNumber_2 : decode cX5_putNumber 2 = .ok (.isub, 1) := by decide +kernel
theorem dX5_putNumber_3 : decode cX5_putNumber 3 = .ok (.istore_n 3, 1) := by decide +kernel
theorem dX5_putNumber_4 : decode cX5_putNumber 4 = .ok (.iload_n 3, 1) := by decide +kernel
theorem dX5_putNumber_5 : decode cX5_putNumber 5 = .ok (.ifCond .lt 19, 3) := by decide +kernel
theorem dX5_putNumber_8 : decode cX5_putNumber 8 = .ok (.aload_n 0, 1) := by decide +kernel
theorem dX5_putNumber_9 : decode cX5_putNumber 9 = .ok (.iload_n 1, 1) := by decide +kernel
theorem dX5_putNumber_10 : decode cX5_putNumber 10 = .ok (.bipush 8, 2) := by decide +kernel
theorem dX5_putNumber_12 : decode cX5_putNumber 12 = .ok (.iload_n 3, 1) := by decide +kernel
theorem dX5_putNumber_13 : decode cX5_putNumber 13 = .ok (.imul, 1) := by decide +kernel
theorem dX5_putNumber_14 : decode cX5_putNumber 14 = .ok (.ishr, 1) := by decide +kernel
theorem dX5_putNumber_15 : decode cX5_putNumber 15 = .ok (.invokevirtual 32, 3) := by decide +kernel
theorem dX5_putNumber_18 : decode cX5_putNumber 18 = .ok (.iinc 3 (-1), 3) := by decide +kernel
theorem dX5_putNumber_21 : decode cX5_putNumber 21 = .ok (.goto (-17), 3) := by decide +kernel
theorem dX5_putNumber_24 : decode cX5_putNumber 24 = .ok (.return_, 1) := by decide +kernel
theorem dX5_putWord_0 : decode cX5_putWord 0 = .ok (.iconst 0, 1) := by decide +kernel
theorem dX5_putWord_1 : decode cX5_putWord 1 = .ok (.istore_n 2, 1) := by decide +kernel
theorem dX5_putWord_2 : decode cX5_putWord 2 = .ok (.iload_n 2, 1) := by decide +kernel
theorem dX5_putWord_3 : decode cX5_putWord 3 = .ok (.aload_n 0, 1) := by decide +kernel
theorem dX5_putWord_4 : decode cX5_putWord 4 = .ok (.getfield 23, 3) := by decide +kernel
theorem dX5_putWord_7 : decode cX5_putWord 7 = .ok (.if_icmp .ge 38, 3) := by decide +kernel
theorem dX5_putWord_10 : decode cX5_putWord 10 = .ok (.aload_n 0, 1) := by decide +kernel
theorem dX5_putWord_11 : decode cX5_putWord 11 = .ok (.aload_n 0, 1) := by decide +kernel
theorem dX5_putWord_12 : decode cX5_putWord 12 = .ok (.getfield 15, 3) := by decide +kernel
theorem dX5_putWord_15 : decode cX5_putWord 15 = .ok (.iload_n 2, 1) := by decide +kernel
theorem dX5_putWord_16 : decode cX5_putWord 16 = .ok (.iaload, 1) := by decide +kernel
theorem dX5_putWord_17 : decode cX5_putWord 17 = .ok (.aload_n 1, 1) := by decide +kernel
theorem dX5_putWord_18 : decode cX5_putWord 18 = .ok (.invokevirtual 36, 3) := by decide +kernel
theorem dX5_putWord_21 : decode cX5_putWord 21 = .ok (.ifCond .eq 18, 3) := by decide +kernel
theorem dX5_putWord_24 : decode cX5_putWord 24 = .ok (.aload_n 0, 1) := by decide +kernel
theorem dX5_putWord_25 : decode cX5_putWord 25 = .ok (.sipush 128, 3) := by decide +kernel
theorem dX5_putWord_28 : decode cX5_putWord 28 = .ok (.aload_n 0, 1) := by decide +kernel
theorem dX5_putWord_29 : decode cX5_putWord 29 = .ok (.getfield 15, 3) := by decide +kernel
theorem dX5_putWord_32 : decode cX5_putWord 32 = .ok (.iload_n 2, 1) := by decide +kernel
theorem dX5_putWord_33 : decode cX5_putWord 33 = .ok (.iaload, 1) := by decide +kernel
theorem dX5_putWord_34 : decode cX5_putWord 34 = .ok (.iadd, 1) := by decide +kernel
theorem dX5_putWord_35 : decode cX5_putWord 35 = .ok (.invokevirtual 32, 3) := by decide +kernel
theorem dX5_putWord_38 : decode cX5_putWord 38 = .ok (.return_, 1) := by decide +kernel
theorem dX5_putWord_39 : decode cX5_putWord 39 = .ok (.iinc 2 1, 3) := by decide +kernel
theorem dX5_putWord_42 : decode cX5_putWord 42 = .ok (.goto (-40), 3) := by decide +kernel
theorem dX5_putWord_45 : decode cX5_putWord 45 = .ok (.aload_n 0, 1) := by decide +kernel
theorem dX5_putWord_46 : decode cX5_putWord 46 = .ok (.aload_n 0, 1) := by decide +kernel
theorem dX5_putWord_47 : decode cX5_putWord 47 = .ok (.getfield 19, 3) := by decide +kernel
theorem dX5_putWord_50 : decode cX5_putWord 50 = .ok (.invokevirtual 40, 3) := by decide +kernel
theorem dX5_putWord_53 : decode cX5_putWord 53 = .ok (.aload_n 0, 1) := by decide +kernel
theorem dX5_putWord_54 : decode cX5_putWord 54 = .ok (.aload_n 1, 1) := by decide +kernel
theorem dX5_putWord_55 : decode cX5_putWord 55 = .ok (.getfield 43, 3) := by decide +kernel
theorem dX5_putWord_58 : decode cX5_putWord 58 = .ok (.invokevirtual 32, 3) := by decide +kernel
theorem dX5_putWord_61 : decode cX5_putWord 61 = .ok (.iconst 0, 1) := by decide +kernel
theorem dX5_putWord_62 : decode cX5_putWord 62 = .ok (.istore_n 2, 1) := by decide +kernel
theorem dX5_putWord_63 : decode cX5_putWord 63 = .ok (.iload_n 2, 1) := by decide +kernel
theorem dX5_putWord_64 : decode cX5_putWord 64 = .ok (.aload_n 1, 1) := by decide +kernel
theorem dX5_putWord_65 : decode cX5_putWord 65 = .ok (.getfield 43, 3) := by decide +kernel
theorem dX5_putWord_68 : decode cX5_putWord 68 = .ok (.if_icmp .ge 19, 3) := by decide +kernel
theorem dX5_putWord_71 : decode cX5_putWord 71 = .ok (.aload_n 0, 1) := by decide +kernel
theorem dX5_putWord_72 : decode cX5_putWord 72 = .ok (.aload_n 1, 1) := by decide +kernel
theorem dX5_putWord_73 : decode cX5_putWord 73 = .ok (.getfield 46, 3) := by decide +kernel
theorem dX5_putWord_76 : decode cX5_putWord 76 = .ok (.iload_n 2, 1) := by decide +kernel
theorem dX5_putWord_77 : decode cX5_putWord 77 = .ok (.baload, 1) := by decide +kernel
theorem dX5_putWord_78 : decode cX5_putWord 78 = .ok (.invokevirtual 32, 3) := by decide +kernel
theorem dX5_putWord_81 : decode cX5_putWord 81 = .ok (.iinc 2 1, 3) := by decide +kernel
theorem dX5_putWord_84 : decode cX5_putWord 84 = .ok (.goto (-21), 3) := by decide +kernel
theorem dX5_putWord_87 : decode cX5_putWord 87 = .ok (.return_, 1) := by decide +kernel
theorem dX5_putAddressRecord_0 : decode cX5_putAddressRecord 0 = .ok (.aload_n 0, 1) := by decide +kernel
theorem dX5_putAddressRecord_1 : decode cX5_putAddressRecord 1 = .ok (.iconst 1, 1) := by decide +kernel
theorem dX5_putAddressRecord_2 : decode cX5_putAddressRecord 2 = .ok (.invokevirtual 32, 3) := by decide +kernel
theorem dX5_putAddressRecord_5 : decode cX5_putAddressRecord 5 = .ok (.aload_n 0, 1) := by decide +kernel
theorem dX5_putAddressRecord_6 : decode cX5_putAddressRecord 6 = .ok (.iconst 1, 1) := by decide +kernel
theorem dX5_putAddressRecord_7 : decode cX5_putAddressRecord 7 = .ok (.invokevirtual 32, 3) := by decide +kernel
theorem dX5_putAddressRecord_10 : decode cX5_putAddressRecord 10 = .ok (.aload_n 0, 1) := by decide +kernel
theorem dX5_putAddressRecord_11 : decode cX5_putAddressRecord 11 = .ok (.iload_n 2, 1) := by decide +kernel
theorem dX5_putAddressRecord_12 : decode cX5_putAddressRecord 12 = .ok (.iconst 4, 1) := by decide +kernel
theorem dX5_putAddressRecord_13 : decode cX5_putAddressRecord 13 = .ok (.invokevirtual 49, 3) := by decide +kernel
theorem dX5_putAddressRecord_16 : decode cX5_putAddressRecord 16 = .ok (.aload_n 0, 1) := by decide +kernel
theorem dX5_putAddressRecord_17 : decode cX5_putAddressRecord 17 = .ok (.aload_n 1, 1) := by decide +kernel
theorem dX5_putAddressRecord_18 : decode cX5_putAddressRecord 18 = .ok (.getfield 53, 3) := by decide +kernel
theorem dX5_putAddressRecord_21 : decode cX5_putAddressRecord 21 = .ok (.getfield 59, 3) := by decide +kernel
theorem dX5_putAddressRecord_24 : decode cX5_putAddressRecord 24 = .ok (.invokevirtual 64, 3) := by decide +kernel
theorem dX5_putAddressRecord_27 : decode cX5_putAddressRecord 27 = .ok (.aload_n 0, 1) := by decide +kernel
theorem dX5_putAddressRecord_28 : decode cX5_putAddressRecord 28 = .ok (.aload_n 1, 1) := by decide +kernel
theorem dX5_putAddressRecord_29 : decode cX5_putAddressRecord 29 = .ok (.getfield 68, 3) := by decide +kernel
theorem dX5_putAddressRecord_32 : decode cX5_putAddressRecord 32 = .ok (.getfield 72, 3) := by decide +kernel
theorem dX5_putAddressRecord_35 : decode cX5_putAddressRecord 35 = .ok (.iconst 2, 1) := by decide +kernel
theorem dX5_putAddressRecord_36 : decode cX5_putAddressRecord 36 = .ok (.invokevirtual 49, 3) := by decide +kernel
theorem dX5_putAddressRecord_39 : decode cX5_putAddressRecord 39 = .ok (.return_, 1) := by decide +kernel
theorem dX5_putServiceRecord_0 : decode cX5_putServiceRecord 0 = .ok (.aload_n 0, 1) := by decide +kernel
theorem dX5_putServiceRecord_1 : decode cX5_putServiceRecord 1 = .ok (.iconst 2, 1) := by decide +kernel
theorem dX5_putServiceRecord_2 : decode cX5_putServiceRecord 2 = .ok (.invokevirtual 32, 3) := by decide +kernel
theorem dX5_putServiceRecord_5 : decode cX5_putServiceRecord 5 = .ok (.aload_n 0, 1) := by decide +kernel
theorem dX5_putServiceRecord_6 : decode cX5_putServiceRecord 6 = .ok (.iconst 0, 1) := by decide +kernel
theorem dX5_putServiceRecord_7 : decode cX5_putServiceRecord 7 = .ok (.invokevirtual 32, 3) := by decide +kernel
theorem dX5_putServiceRecord_10 : decode cX5_putServiceRecord 10 = .ok (.aload_n 0, 1) := by decide +kernel
theorem dX5_putServiceRecord_11 : decode cX5_putServiceRecord 11 = .ok (.iload_n 3, 1) := by decide +kernel
theorem dX5_putServiceRecord_12 : decode cX5_putServiceRecord 12 = .ok (.iconst 4, 1) := by decide +kernel
theorem dX5_putServiceRecord_13 : decode cX5_putServiceRecord 13 = .ok (.invokevirtual 49, 3) := by decide +kernel
theorem dX5_putServiceRecord_16 : decode cX5_putServiceRecord 16 = .ok (.aload_n 0, 1) := by decide +kernel
theorem dX5_putServiceRecord_17 : decode cX5_putServiceRecord 17 = .ok (.aload_n 1, 1) := by decide +kernel
theorem dX5_putServiceRecord_18 : decode cX5_putServiceRecord 18 = .ok (.getfield 76, 3) := by decide +kernel
theorem dX5_putServiceRecord_21 : decode cX5_putServiceRecord 21 = .ok (.invokevirtual 64, 3) := by decide +kernel
theorem dX5_putServiceRecord_24 : decode cX5_putServiceRecord 24 = .ok (.aload_n 0, 1) := by decide +kernel
theorem dX5_putServiceRecord_25 : decode cX5_putServiceRecord 25 = .ok (.aload_n 2, 1) := by decide +kernel
theorem dX5_putServiceRecord_26 : decode cX5_putServiceRecord 26 = .ok (.invokevirtual 64, 3) := by decide +kernel
theorem dX5_putServiceRecord_29 : decode cX5_putServiceRecord 29 = .ok (.aload_n 0, 1) := by decide +kernel
