theorem dX12_close_90 : decode cX12_close 90 = .ok (.invokevirtual 202, 3) := by decide +kernel
theorem dX12_close_93 : decode cX12_close 93 = .ok (.iinc 1 1, 3) := by decide +kernel
theorem dX12_close_96 : decode cX12_close 96 = .ok (.iinc 2 1, 3) := by decide +kernel
theorem dX12_close_99 : decode cX12_close 99 = .ok (.goto (-29), 3) := by decide +kernel
theorem dX12_close_102 : decode cX12_close 102 = .ok (.aload_n 0, 1) := by decide +kernel
theorem dX12_close_103 : decode cX12_close 103 = .ok (.getfield 68, 3) := by decide +kernel
theorem dX12_close_106 : decode cX12_close 106 = .ok (.sipush 246, 3) := by decide +kernel
theorem dX12_close_109 : decode cX12_close 109 = .ok (.iconst 3, 1) := by decide +kernel
theorem dX12_close_110 : decode cX12_close 110 = .ok (.iastore, 1) := by decide +kernel
theorem dX12_close_111 : decode cX12_close 111 = .ok (.iload_n 1, 1) := by decide +kernel
theorem dX12_close_112 : decode cX12_close 112 = .ok (.ireturn, 1) := by decide +kernel
theorem dX12_anew_0 : decode cX12_anew 0 = .ok (.aload_n 0, 1) := by decide +kernel
theorem dX12_anew_1 : decode cX12_anew 1 = .ok (.iconst 0, 1) := by decide +kernel
theorem dX12_anew_2 : decode cX12_anew 2 = .ok (.putfield 96, 3) := by decide +kernel
theorem dX12_anew_5 : decode cX12_anew 5 = .ok (.aload_n 0, 1) := by decide +kernel
theorem dX12_anew_6 : decode cX12_anew 6 = .ok (.invokevirtual 93, 3) := by decide +kernel
theorem dX12_anew_9 : decode cX12_anew 9 = .ok (.aload_n 0, 1) := by decide +kernel
theorem dX12_anew_10 : decode cX12_anew 10 = .ok (.getfield 101, 3) := by decide +kernel
theorem dX12_anew_13 : decode cX12_anew 13 = .ok (.ireturn, 1) := by decide +kernel
theorem dX12_taken_0 : decode cX12_taken 0 = .ok (.aload_n 0, 1) := by decide +kernel
theorem dX12_taken_1 : decode cX12_taken 1 = .ok (.iconst 0, 1) := by decide +kernel
theorem dX12_taken_2 : decode cX12_taken 2 = .ok (.putfield 96, 3) := by decide +kernel
theorem dX12_taken_5 : decode cX12_taken 5 = .ok (.aload_n 0, 1) := by decide +kernel
theorem dX12_taken_6 : decode cX12_taken 6 = .ok (.getfield 68, 3) := by decide +kernel
theorem dX12_taken_9 : decode cX12_taken 9 = .ok (.sipush 245, 3) := by decide +kernel
theorem dX12_taken_12 : decode cX12_taken 12 = .ok (.iaload, 1) := by decide +kernel
theorem dX12_taken_13 : decode cX12_taken 13 = .ok (.ireturn, 1) := by decide +kernel
theorem dX12_answerOf_0 : decode cX12_answerOf 0 = .ok (.aload_n 0, 1) := by decide +kernel
theorem dX12_answerOf_1 : decode cX12_answerOf 1 = .ok (.getfield 26, 3) := by decide +kernel
theorem dX12_answerOf_4 : decode cX12_answerOf 4 = .ok (.iload_n 1, 1) := by decide +kernel
theorem dX12_answerOf_5 : decode cX12_answerOf 5 = .ok (.iaload, 1) := by decide +kernel
theorem dX12_answerOf_6 : decode cX12_answerOf 6 = .ok (.iconst 2, 1) := by decide +kernel
theorem dX12_answerOf_7 : decode cX12_answerOf 7 = .ok (.if_icmp .ge 12, 3) := by decide +kernel
theorem dX12_answerOf_10 : decode cX12_answerOf 10 = .ok (.aload_n 0, 1) := by decide +kernel
theorem dX12_answerOf_11 : decode cX12_answerOf 11 = .ok (.getfield 32, 3) := by decide +kernel
theorem dX12_answerOf_14 : decode cX12_answerOf 14 = .ok (.iload_n 1, 1) := by decide +kernel
theorem dX12_answerOf_15 : decode cX12_answerOf 15 = .ok (.laload, 1) := by decide +kernel
theorem dX12_answerOf_16 : decode cX12_answerOf 16 = .ok (.goto 9, 3) := by decide +kernel
theorem dX12_answerOf_19 : decode cX12_answerOf 19 = .ok (.aload_n 0, 1) := by decide +kernel
theorem dX12_answerOf_20 : decode cX12_answerOf 20 = .ok (.getfield 74, 3) := by decide +kernel
theorem dX12_answerOf_23 : decode cX12_answerOf 23 = .ok (.iload_n 1, 1) := by decide +kernel
theorem dX12_answerOf_24 : decode cX12_answerOf 24 = .ok (.laload, 1) := by decide +kernel
theorem dX12_answerOf_25 : decode cX12_answerOf 25 = .ok (.lreturn, 1) := by decide +kernel
theorem dX12_answer_0 : decode cX12_answer 0 = .ok (.aload_n 0, 1) := by decide +kernel
theorem dX12_answer_1 : decode cX12_answer 1 = .ok (.iconst 0, 1) := by decide +kernel
theorem dX12_answer_2 : decode cX12_answer 2 = .ok (.putfield 96, 3) := by decide +kernel
theorem dX12_answer_5 : decode cX12_answer 5 = .ok (.aload_n 0, 1) := by decide +kernel
theorem dX12_answer_6 : decode cX12_answer 6 = .ok (.iload_n 1, 1) := by decide +kernel
theorem dX12_answer_7 : decode cX12_answer 7 = .ok (.invokevirtual 226, 3) := by decide +kernel
theorem dX12_answer_10 : decode cX12_answer 10 = .ok (.ifCond .eq 31, 3) := by decide +kernel
theorem dX12_answer_13 : decode cX12_answer 13 = .ok (.aload_n 0, 1) := by decide +kernel
theorem dX12_answer_14 : decode cX12_answer 14 = .ok (.getfield 26, 3) := by decide +kernel
theorem dX12_answer_17 : decode cX12_answer 17 = .ok (.iload_n 1, 1) := by decide +kernel
theorem dX12_answer_18 : decode cX12_answer 18 = .ok (.iaload, 1) := by decide +kernel
theorem dX12_answer_19 : decode cX12_answer 19 = .ok (.iconst 4, 1) := by decide +kernel
theorem dX12_answer_20 : decode cX12_answer 20 = .ok (.if_icmp .eq 21, 3) := by decide +kernel
theorem dX12_answer_23 : decode cX12_answer 23 = .ok (.aload_n 0, 1) := by decide +kernel
theorem dX12_answer_24 : decode cX12_answer 24 = .ok (.iload_n 1, 1) := by decide +kernel
theorem dX12_answer_25 : decode cX12_answer 25 = .ok (.iconst 0, 1) := by decide +kernel
theorem dX12_answer_26 : decode cX12_answer 26 = .ok (.invokevirtual 173, 3) := by decide +kernel
theorem dX12_answer_29 : decode cX12_answer 29 = .ok (.iconst 2, 1) := by decide +kernel
theorem dX12_answer_30 : decode cX12_answer 30 = .ok (.if_icmp .ne 11, 3) := by decide +kernel
theorem dX12_answer_33 : decode cX12_answer 33 = .ok (.aload_n 0, 1) := by decide +kernel
theorem dX12_answer_34 : decode cX12_answer 34 = .ok (.iload_n 1, 1) := by decide +kernel
theorem dX12_answer_35 : decode cX12_answer 35 = .ok (.invokevirtual 229, 3) := by decide +kernel
theorem dX12_answer_38 : decode cX12_answer 38 = .ok (.goto 6, 3) := by decide +kernel
theorem dX12_answer_41 : decode cX12_answer 41 = .ok (.ldc2_w 99, 3) := by decide +kernel
theorem dX12_answer_44 : decode cX12_answer 44 = .ok (.lreturn, 1) := by decide +kernel
theorem dX12_told_0 : decode cX12_told 0 = .ok (.aload_n 0, 1) := by decide +kernel
theorem dX12_told_1 : decode cX12_told 1 = .ok (.iconst 0, 1) := by decide +kernel
theorem dX12_told_2 : decode cX12_told 2 = .ok (.putfield 96, 3) := by decide +kernel
theorem dX12_told_5 : decode cX12_told 5 = .ok (.aload_n 0, 1) := by decide +kernel
theorem dX12_told_6 : decode cX12_told 6 = .ok (.iload_n 1, 1) := by decide +kernel
theorem dX12_told_7 : decode cX12_told 7 = .ok (.invokevirtual 226, 3) := by decide +kernel
theorem dX12_told_10 : decode cX12_told 10 = .ok (.ifCond .ne 5, 3) := by decide +kernel
theorem dX12_told_13 : decode cX12_told 13 = .ok (.iconst (-1), 1) := by decide +kernel
theorem dX12_told_14 : decode cX12_told 14 = .ok (.ireturn, 1) := by decide +kernel
theorem dX12_told_15 : decode cX12_told 15 = .ok (.iload_n 2, 1) := by decide +kernel
theorem dX12_told_16 : decode cX12_told 16 = .ok (.tableswitch 157 0 8 #[52, 59, 66, 73, 80, 87, 94, 101, 109], 52) := by decide +kernel
theorem dX12_told_68 : decode cX12_told 68 = .ok (.aload_n 0, 1) := by decide +kernel
theorem dX12_told_69 : decode cX12_told 69 = .ok (.getfield 26, 3) := by decide +kernel
theorem dX12_told_72 : decode cX12_told 72 = .ok (.iload_n 1, 1) := by decide +kernel
theorem dX12_told_73 : decode cX12_told 73 = .ok (.iaload, 1) := by decide +kernel
theorem dX12_told_74 : decode cX12_told 74 = .ok (.ireturn, 1) := by decide +kernel
theorem dX12_told_75 : decode cX12_told 75 = .ok (.aload_n 0, 1) := by decide +kernel
theorem dX12_told_76 : decode cX12_told 76 = .ok (.iload_n 1, 1) := by decide +kernel
theorem dX12_told_77 : decode cX12_told 77 = .ok (.iconst 0, 1) := by decide +kernel
theorem dX12_told_78 : decode cX12_told 78 = .ok (.invokevirtual 173, 3) := by decide +kernel
theorem dX12_told_81 : decode cX12_told 81 = .ok (.ireturn, 1) := by decide +kernel
theorem dX12_told_82 : decode cX12_told 82 = .ok (.aload_n 0, 1) := by decide +kernel
theorem dX12_told_83 : decode cX12_told 83 = .ok (.iload_n 1, 1) := by decide +kernel
theorem dX12_told_84 : decode cX12_told 84 = .ok (.iconst 1, 1) := by decide +kernel
theorem dX12_told_85 : decode cX12_told 85 = .ok (.invokevirtual 173, 3) := by decide +kernel
theorem dX12_told_88 : decode cX12_told 88 = .ok (.ireturn, 1) := by decide +kernel
theorem dX12_told_89 : decode cX12_told 89 = .ok (.aload_n 0, 1) := by decide +kernel
theorem dX12_told_90 : decode cX12_told 90 = .ok (.iload_n 1, 1) := by decide +kernel
theorem dX12_told_91 : decode cX12_told 91 = .ok (.iconst 2, 1) := by decide +kernel
theorem dX12_told_92 : decode cX12_told 92 = .ok (.invokevirtual 173, 3) := by decide +kernel
theorem dX12_told_95 : decode cX12_told 95 = .ok (.ireturn, 1) := by decide +kernel
theorem dX12_told_96 : decode cX12_told 96 = .ok (.aload_n 0, 1) := by decide +kernel
theorem dX12_told_97 : decode cX12_told 97 = .ok (.iload_n 1, 1) := by decide +kernel
theorem dX12_told_98 : decode cX12_told 98 = .ok (.iconst 3, 1) := by decide +kernel
theorem dX12_told_99 : decode cX12_told 99 = .ok (.invokevirtual 173, 3) := by decide +kernel
theorem dX12_told_102 : decode cX12_told 102 = .ok (.ireturn, 1) := by decide +kernel
theorem dX12_told_103 : decode cX12_told 103 = .ok (.aload_n 0, 1) := by decide +kernel
theorem dX12_told_104 : decode cX12_told 104 = .ok (.iload_n 1, 1) := by decide +kernel
theorem dX12_told_105 : decode cX12_told 105 = .ok (.iconst 4, 1) := by decide +kernel
theorem dX12_told_106 : decode cX12_told 106 = .ok (.invokevirtual 173, 3) := by decide +kernel
theorem dX12_told_109 : decode cX12_told 109 = .ok (.ireturn, 1) := by decide +kernel
theorem dX12_told_110 : decode cX12_told 110 = .ok (.aload_n 0, 1) := by decide +kernel
theorem dX12_told_111 : decode cX12_told 111 = .ok (.iload_n 1, 1) := by decide +kernel
theorem dX12_told_112 : decode cX12_told 112 = .ok (.iconst 5, 1) := by decide +kernel
theorem dX12_told_113 : decode cX12_told 113 = .ok (.invokevirtual 173, 3) := by decide +kernel
theorem dX12_told_116 : decode cX12_told 116 = .ok (.ireturn, 1) := by decide +kernel
theorem dX12_told_117 : decode cX12_told 117 = .ok (.aload_n 0, 1) := by decide +kernel
theorem dX12_told_118 : decode cX12_told 118 = .ok (.iload_n 1, 1) := by decide +kernel
theorem dX12_told_119 : decode cX12_told 119 = .ok (.bipush 6, 2) := by decide +kernel
theorem dX12_told_121 : decode cX12_told 121 = .ok (.invokevirtual 173, 3) := by decide +kernel
theorem dX12_told_124 : decode cX12_told 124 = .ok (.ireturn, 1) := by decide +kernel
theorem dX12_told_125 : decode cX12_told 125 = .ok (.aload_n 0, 1) := by decide +kernel
theorem dX12_told_126 : decode cX12_told 126 = .ok (.getfield 26, 3) := by decide +kernel
theorem dX12_told_129 : decode cX12_told 129 = .ok (.iload_n 1, 1) := by decide +kernel
theorem dX12_told_130 : decode cX12_told 130 = .ok (.iaload, 1) := by decide +kernel
theorem dX12_told_131 : decode cX12_told 131 = .ok (.iconst 4, 1) := by decide +kernel
theorem dX12_told_132 : decode cX12_told 132 = .ok (.if_icmp .ne 8, 3) := by decide +kernel
theorem dX12_told_135 : decode cX12_told 135 = .ok (.bipush 30, 2) := by decide +kernel
theorem dX12_told_137 : decode cX12_told 137 = .ok (.goto 35, 3) := by decide +kernel
theorem dX12_told_140 : decode cX12_told 140 = .ok (.aload_n 0, 1) := by decide +kernel
theorem dX12_told_141 : decode cX12_told 141 = .ok (.getfield 26, 3) := by decide +kernel
theorem dX12_told_144 : decode cX12_told 144 = .ok (.iload_n 1, 1) := by decide +kernel
theorem dX12_told_145 : decode cX12_told 145 = .ok (.iaload, 1) := by decide +kernel
theorem dX12_told_146 : decode cX12_told 146 = .ok (.iconst 1, 1) := by decide +kernel
theorem dX12_told_147 : decode cX12_told 147 = .ok (.if_icmp .ne 8, 3) := by decide +kernel
theorem dX12_told_150 : decode cX12_told 150 = .ok (.bipush 11, 2) := by decide +kernel
theorem dX12_told_152 : decode cX12_told 152 = .ok (.goto 20, 3) := by decide +kernel
theorem dX12_told_155 : decode cX12_told 155 = .ok (.aload_n 0, 1) := by decide +kernel
theorem dX12_told_156 : decode cX12_told 156 = .ok (.getfield 26, 3) := by decide +kernel
theorem dX12_told_159 : decode cX12_told 159 = .ok (.iload_n 1, 1) := by decide +kernel
theorem dX12_told_160 : decode cX12_told 160 = .ok (.iaload, 1) := by decide +kernel
theorem dX12_told_161 : decode cX12_told 161 = .ok (.iconst 3, 1) := by decide +kernel
theorem dX12_told_162 : decode cX12_told 162 = .ok (.if_icmp .ne 8, 3) := by decide +kernel
theorem dX12_told_165 : decode cX12_told 165 = .ok (.bipush 12, 2) := by decide +kernel
theorem dX12_told_167 : decode cX12_told 167 = .ok (.goto 5, 3) := by decide +kernel
theorem dX12_told_170 : decode cX12_told 170 = .ok (.bipush 10, 2) := by decide +kernel
theorem dX12_told_172 : decode cX12_told 172 = .ok (.ireturn, 1) := by decide +kernel
theorem dX12_told_173 : decode cX12_told 173 = .ok (.iconst (-1), 1) := by decide +kernel
theorem dX12_told_174 : decode cX12_told 174 = .ok (.ireturn, 1) := by decide +kernel
theorem dX12_best_0 : decode cX12_best 0 = .ok (.aload_n 0, 1) := by decide +kernel
theorem dX12_best_1 : decode cX12_best 1 = .ok (.iconst 0, 1) := by decide +kernel
theorem dX12_best_2 : decode cX12_best 2 = .ok (.putfield 96, 3) := by decide +kernel
theorem dX12_best_5 : decode cX12_best 5 = .ok (.iload_n 1, 1) := by decide +kernel
theorem dX12_best_6 : decode cX12_best 6 = .ok (.iconst 0, 1) := by decide +kernel
theorem dX12_best_7 : decode cX12_best 7 = .ok (.aload_n 0, 1) := by decide +kernel
theorem dX12_best_8 : decode cX12_best 8 = .ok (.getfield 148, 3) := by decide +kernel
theorem dX12_best_11 : decode cX12_best 11 = .ok (.iconst 1, 1) := by decide +kernel
theorem dX12_best_12 : decode cX12_best 12 = .ok (.isub, 1) := by decide +kernel
theorem dX12_best_13 : decode cX12_best 13 = .ok (.invokestatic 107, 3) := by decide +kernel
theorem dX12_best_16 : decode cX12_best 16 = .ok (.ifCond .ne 7, 3) := by decide +kernel
theorem dX12_best_19 : decode cX12_best 19 = .ok (.ldc2_w 233, 3) := by decide +kernel
theorem dX12_best_22 : decode cX12_best 22 = .ok (.lreturn, 1) := by decide +kernel
theorem dX12_best_23 : decode cX12_best 23 = .ok (.iconst 0, 1) := by decide +kernel
theorem dX12_best_24 : decode cX12_best 24 = .ok (.istore_n 3, 1) := by decide +kernel
theorem dX12_best_25 : decode cX12_best 25 = .ok (.iconst 0, 1) := by decide +kernel
theorem dX12_best_26 : decode cX12_best 26 = .ok (.istore 4, 2) := by decide +kernel
theorem dX12_best_28 : decode cX12_best 28 = .ok (.iload 4, 2) := by decide +kernel
theorem dX12_best_30 : decode cX12_best 30 = .ok (.aload_n 0, 1) := by decide +kernel
theorem dX12_best_31 : decode cX12_best 31 = .ok (.getfield 101, 3) := by decide +kernel
theorem dX12_best_34 : decode cX12_best 34 = .ok (.if_icmp .ge 46, 3) := by decide +kernel
theorem dX12_best_37 : decode cX12_best 37 = .ok (.iload_n 3, 1) := by decide +kernel
theorem dX12_best_38 : decode cX12_best 38 = .ok (.aload_n 0, 1) := by decide +kernel
theorem dX12_best_39 : decode cX12_best 39 = .ok (.getfield 26, 3) := by decide +kernel
theorem dX12_best_42 : decode cX12_best 42 = .ok (.iload 4, 2) := by decide +kernel
theorem dX12_best_44 : decode cX12_best 44 = .ok (.iaload, 1) := by decide +kernel
theorem dX12_best_45 : decode cX12_best 45 = .ok (.iconst 4, 1) := by decide +kernel
theorem dX12_best_46 : decode cX12_best 46 = .ok (.if_icmp .ne 25, 3) := by decide +kernel
theorem dX12_best_49 : decode cX12_best 49 = .ok (.aload_n 0, 1) := by decide +kernel
theorem dX12_best_50 : decode cX12_best 50 = .ok (.getfield 44, 3) := by decide +kernel
theorem dX12_best_53 : decode cX12_best 53 = .ok (.iload 4, 2) := by decide +kernel
theorem dX12_best_55 : decode cX12_best 55 = .ok (.iaload, 1) := by decide +kernel
theorem dX12_best_56 : decode cX12_best 56 = .ok (.iload_n 1, 1) := by decide +kernel
theorem dX12_best_57 : decode cX12_best 57 = .ok (.if_icmp .ne 14, 3) := by decide +kernel
theorem dX12_best_60 : decode cX12_best 60 = .ok (.aload_n 0, 1) := by decide +kernel
theorem dX12_best_61 : decode cX12_best 61 = .ok (.iload 4, 2) := by decide +kernel
theorem dX12_best_63 : decode cX12_best 63 = .ok (.bipush 6, 2) := by decide +kernel
theorem dX12_best_65 : decode cX12_best 65 = .ok (.invokevirtual 173, 3) := by decide +kernel
theorem dX12_best_68 : decode cX12_best 68 = .ok (.goto 4, 3) := by decide +kernel
theorem dX12_best_71 : decode cX12_best 71 = .ok (.iconst 0, 1) := by decide +kernel
theorem dX12_best_72 : decode cX12_best 72 = .ok (.iadd, 1) := by decide +kernel
theorem dX12_best_73 : decode cX12_best 73 = .ok (.istore_n 3, 1) := by decide +kernel
theorem dX12_best_74 : decode cX12_best 74 = .ok (.iinc 4 1, 3) := by decide +kernel
theorem dX12_best_77 : decode cX12_best 77 = .ok (.goto (-49), 3) := by decide +kernel
theorem dX12_best_80 : decode cX12_best 80 = .ok (.iload_n 2, 1) := by decide +kernel
theorem dX12_best_81 : decode cX12_best 81 = .ok (.tableswitch 66 0 3 #[31, 41, 53, 63], 31) := by decide +kernel
theorem dX12_best_112 : decode cX12_best 112 = .ok (.aload_n 0, 1) := by decide +kernel
theorem dX12_best_113 : decode cX12_best 113 = .ok (.getfield 74, 3) := by decide +kernel
theorem dX12_best_116 : decode cX12_best 116 = .ok (.bipush 20, 2) := by decide +kernel
theorem dX12_best_118 : decode cX12_best 118 = .ok (.iload_n 1, 1) := by decide +kernel
theorem dX12_best_119 : decode cX12_best 119 = .ok (.iadd, 1) := by decide +kernel
theorem dX12_best_120 : decode cX12_best 120 = .ok (.laload, 1) := by decide +kernel
theorem dX12_best_121 : decode cX12_best 121 = .ok (.lreturn, 1) := by decide +kernel
theorem dX12_best_122 : decode cX12_best 122 = .ok (.aload_n 0, 1) := by decide +kernel
theorem dX12_best_123 : decode cX12_best 123 = .ok (.getfield 68, 3) := by decide +kernel
theorem dX12_best_126 : decode cX12_best 126 = .ok (.sipush 302, 3) := by decide +kernel
theorem dX12_best_129 : decode cX12_best 129 = .ok (.iload_n 1, 1) := by decide +kernel
theorem dX12_best_130 : decode cX12_best 130 = .ok (.iadd, 1) := by decide +kernel
theorem dX12_best_131 : decode cX12_best 131 = .ok (.iaload, 1) := by decide +kernel
theorem dX12_best_132 : decode cX12_best 132 = .ok (.i2l, 1) := by decide +kernel
theorem dX12_best_133 : decode cX12_best 133 = .ok (.lreturn, 1) := by decide +kernel
theorem dX12_best_134 : decode cX12_best 134 = .ok (.aload_n 0, 1) := by decide +kernel
theorem dX12_best_135 : decode cX12_best 135 = .ok (.getfield 74, 3) := by decide +kernel
theorem dX12_best_138 : decode cX12_best 138 = .ok (.bipush 28, 2) := by decide +kernel
theorem dX12_best_140 : decode cX12_best 140 = .ok (.iload_n 1, 1) := by decide +kernel
theorem dX12_best_141 : decode cX12_best 141 = .ok (.iadd, 1) := by decide +kernel
theorem dX12_best_142 : decode cX12_best 142 = .ok (.laload, 1) := by decide +kernel
theorem dX12_best_143 : decode cX12_best 143 = .ok (.lreturn, 1) := by decide +kernel
theorem dX12_best_144 : decode cX12_best 144 = .ok (.iload_n 3, 1) := by decide +kernel
theorem dX12_best_145 : decode cX12_best 145 = .ok (.i2l, 1) := by decide +kernel
theorem dX12_best_146 : decode cX12_best 146 = .ok (.lreturn, 1) := by decide +kernel
theorem dX12_best_147 : decode cX12_best 147 = .ok (.ldc2_w 233, 3) := by decide +kernel
theorem dX12_best_150 : decode cX12_best 150 = .ok (.lreturn, 1) := by decide +kernel
theorem dX12_note_0 : decode cX12_note 0 = .ok (.aload_n 0, 1) := by decide +kernel
theorem dX12_note_1 : decode cX12_note 1 = .ok (.iconst 0, 1) := by decide +kernel
theorem dX12_note_2 : decode cX12_note 2 = .ok (.putfield 96, 3) := by decide +kernel
theorem dX12_note_5 : decode cX12_note 5 = .ok (.iload_n 1, 1) := by decide +kernel
theorem dX12_note_6 : decode cX12_note 6 = .ok (.iconst 0, 1) := by decide +kernel
theorem dX12_note_7 : decode cX12_note 7 = .ok (.aload_n 0, 1) := by decide +kernel
theorem dX12_note_8 : decode cX12_note 8 = .ok (.getfield 68, 3) := by decide +kernel
theorem dX12_note_11 : decode cX12_note 11 = .ok (.sipush 244, 3) := by decide +kernel
theorem dX12_note_14 : decode cX12_note 14 = .ok (.iaload, 1) := by decide +kernel
theorem dX12_note_15 : decode cX12_note 15 = .ok (.iconst 1, 1) := by decide +kernel
theorem dX12_note_16 : decode cX12_note 16 = .ok (.isub, 1) := by decide +kernel
theorem dX12_note_17 : decode cX12_note 17 = .ok (.invokestatic 107, 3) := by decide +kernel
theorem dX12_note_20 : decode cX12_note 20 = .ok (.ifCond .eq 16, 3) := by decide +kernel
theorem dX12_note_23 : decode cX12_note 23 = .ok (.aload_n 0, 1) := by decide +kernel
theorem dX12_note_24 : decode cX12_note 24 = .ok (.getfield 68, 3) := by decide +kernel
theorem dX12_note_27 : decode cX12_note 27 = .ok (.sipush 262, 3) := by decide +kernel
theorem dX12_note_30 : decode cX12_note 30 = .ok (.iload_n 1, 1) := by decide +kernel
theorem dX12_note_31 : decode cX12_note 31 = .ok (.iadd, 1) := by decide +kernel
theorem dX12_note_32 : decode cX12_note 32 = .ok (.iaload, 1) := by decide +kernel
theorem dX12_note_33 : decode cX12_note 33 = .ok (.goto 5, 3) := by decide +kernel
theorem dX12_note_36 : decode cX12_note 36 = .ok (.bipush (-9), 2) := by decide +kernel
theorem dX12_note_38 : decode cX12_note 38 = .ok (.ireturn, 1) := by decide +kernel
theorem dX12_finished_0 : decode cX12_finished 0 = .ok (.aload_n 0, 1) := by decide +kernel
theorem dX12_finished_1 : decode cX12_finished 1 = .ok (.iconst 0, 1) := by decide +kernel
theorem dX12_finished_2 : decode cX12_finished 2 = .ok (.putfield 96, 3) := by decide +kernel
theorem dX12_finished_5 : decode cX12_finished 5 = .ok (.iload_n 1, 1) := by decide +kernel
theorem dX12_finished_6 : decode cX12_finished 6 = .ok (.iconst 0, 1) := by decide +kernel
theorem dX12_finished_7 : decode cX12_finished 7 = .ok (.aload_n 0, 1) := by decide +kernel
theorem dX12_finished_8 : decode cX12_finished 8 = .ok (.getfield 86, 3) := by decide +kernel
theorem dX12_finished_11 : decode cX12_finished 11 = .ok (.iconst 1, 1) := by decide +kernel
theorem dX12_finished_12 : decode cX12_finished 12 = .ok (.isub, 1) := by decide +kernel
theorem dX12_finished_13 : decode cX12_finished 13 = .ok (.invokestatic 107, 3) := by decide +kernel
theorem dX12_finished_16 : decode cX12_finished 16 = .ok (.ifCond .eq 16, 3) := by decide +kernel
theorem dX12_finished_19 : decode cX12_finished 19 = .ok (.aload_n 0, 1) := by decide +kernel
theorem dX12_finished_20 : decode cX12_finished 20 = .ok (.getfield 68, 3) := by decide +kernel
theorem dX12_finished_23 : decode cX12_finished 23 = .ok (.sipush 256, 3) := by decide +kernel
theorem dX12_finished_26 : decode cX12_finished 26 = .ok (.iload_n 1, 1) := by decide +kernel
theorem dX12_finished_27 : decode cX12_finished 27 = .ok (.iadd, 1) := by decide +kernel
theorem dX12_finished_28 : decode cX12_finished 28 = .ok (.iaload, 1) := by decide +kernel
theorem dX12_finished_29 : decode cX12_finished 29 = .ok (.goto 4, 3) := by decide +kernel
theorem dX12_finished_32 : decode cX12_finished 32 = .ok (.iconst (-1), 1) := by decide +kernel
theorem dX12_finished_33 : decode cX12_finished 33 = .ok (.ireturn, 1) := by decide +kernel
theorem dX12_count_0 : decode cX12_count 0 = .ok (.aload_n 0, 1) := by decide +kernel
theorem dX12_count_1 : decode cX12_count 1 = .ok (.iconst 0, 1) := by decide +kernel
theorem dX12_count_2 : decode cX12_count 2 = .ok (.putfield 96, 3) := by decide +kernel
theorem dX12_count_5 : decode cX12_count 5 = .ok (.iload_n 1, 1) := by decide +kernel
theorem dX12_count_6 : decode cX12_count 6 = .ok (.tableswitch 119 0 8 #[50, 55, 60, 65, 74, 83, 92, 101, 110], 50) := by decide +kernel
theorem dX12_count_56 : decode cX12_count 56 = .ok (.aload_n 0, 1) := by decide +kernel
theorem dX12_count_57 : decode cX12_count 57 = .ok (.getfield 104, 3) := by decide +kernel
theorem dX12_count_60 : decode cX12_count 60 = .ok (.ireturn, 1) := by decide +kernel
theorem dX12_count_61 : decode cX12_count 61 = .ok (.aload_n 0, 1) := by decide +kernel
theorem dX12_count_62 : decode cX12_count 62 = .ok (.getfield 101, 3) := by decide +kernel
theorem dX12_count_65 : decode cX12_count 65 = .ok (.ireturn, 1) := by decide +kernel
theorem dX12_count_66 : decode cX12_count 66 = .ok (.aload_n 0, 1) := by decide +kernel
theorem dX12_count_67 : decode cX12_count 67 = .ok (.getfield 148, 3) := by decide +kernel
theorem dX12_count_70 : decode cX12_count 70 = .ok (.ireturn, 1) := by decide +kernel
theorem dX12_count_71 : decode cX12_count 71 = .ok (.aload_n 0, 1) := by decide +kernel
theorem dX12_count_72 : decode cX12_count 72 = .ok (.getfield 68, 3) := by decide +kernel
theorem dX12_count_75 : decode cX12_count 75 = .ok (.sipush 240, 3) := by decide +kernel
theorem dX12_count_78 : decode cX12_count 78 = .ok (.iaload, 1) := by decide +kernel
theorem dX12_count_79 : decode cX12_count 79 = .ok (.ireturn, 1) := by decide +kernel
theorem dX12_count_80 : decode cX12_count 80 = .ok (.aload_n 0, 1) := by decide +kernel
theorem dX12_count_81 : decode cX12_count 81 = .ok (.getfield 68, 3) := by decide +kernel
theorem dX12_count_84 : decode cX12_count 84 = .ok (.sipush 241, 3) := by decide +kernel
theorem dX12_count_87 : decode cX12_count 87 = .ok (.iaload, 1) := by decide +kernel
theorem dX12_count_88 : decode cX12_count 88 = .ok (.ireturn, 1) := by decide +kernel
theorem dX12_count_89 : decode cX12_count 89 = .ok (.aload_n 0, 1) := by decide +kernel
theorem dX12_count_90 : decode cX12_count 90 = .ok (.getfield 68, 3) := by decide +kernel
theorem dX12_count_93 : decode cX12_count 93 = .ok (.sipush 242, 3) := by decide +kernel
theorem dX12_count_96 : decode cX12_count 96 = .ok (.iaload, 1) := by decide +kernel
theorem dX12_count_97 : decode cX12_count 97 = .ok (.ireturn, 1) := by decide +kernel
theorem dX12_count_98 : decode cX12_count 98 = .ok (.aload_n 0, 1) := by decide +kernel
theorem dX12_count_99 : decode cX12_count 99 = .ok (.getfield 68, 3) := by decide +kernel
theorem dX12_count_102 : decode cX12_count 102 = .ok (.sipush 243, 3) := by decide +kernel
theorem dX12_count_105 : decode cX12_count 105 = .ok (.iaload, 1) := by decide +kernel
theorem dX12_count_106 : decode cX12_count 106 = .ok (.ireturn, 1) := by decide +kernel
theorem dX12_count_107 : decode cX12_count 107 = .ok (.aload_n 0, 1) := by decide +kernel
theorem dX12_count_108 : decode cX12_count 108 = .ok (.getfield 68, 3) := by decide +kernel
theorem dX12_count_111 : decode cX12_count 111 = .ok (.sipush 244, 3) := by decide +kernel
theorem dX12_count_114 : decode cX12_count 114 = .ok (.iaload, 1) := by decide +kernel
theorem dX12_count_115 : decode cX12_count 115 = .ok (.ireturn, 1) := by decide +kernel
theorem dX12_count_116 : decode cX12_count 116 = .ok (.aload_n 0, 1) := by decide +kernel
theorem dX12_count_117 : decode cX12_count 117 = .ok (.getfield 68, 3) := by decide +kernel
theorem dX12_count_120 : decode cX12_count 120 = .ok (.sipush 246, 3) := by decide +kernel
theorem dX12_count_123 : decode cX12_count 123 = .ok (.iaload, 1) := by decide +kernel
theorem dX12_count_124 : decode cX12_count 124 = .ok (.ireturn, 1) := by decide +kernel
theorem dX12_count_125 : decode cX12_count 125 = .ok (.iconst (-1), 1) := by decide +kernel
theorem dX12_count_126 : decode cX12_count 126 = .ok (.ireturn, 1) := by decide +kernel
theorem dX12_keep_0 : decode cX12_keep 0 = .ok (.iconst 0, 1) := by decide +kernel
theorem dX12_keep_1 : decode cX12_keep 1 = .ok (.istore_n 1, 1) := by decide +kernel
theorem dX12_keep_2 : decode cX12_keep 2 = .ok (.iload_n 1, 1) := by decide +kernel
theorem dX12_keep_3 : decode cX12_keep 3 = .ok (.sipush 310, 3) := by decide +kernel
theorem dX12_keep_6 : decode cX12_keep 6 = .ok (.if_icmp .ge 21, 3) := by decide +kernel
theorem dX12_keep_9 : decode cX12_keep 9 = .ok (.aload_n 0, 1) := by decide +kernel
theorem dX12_keep_10 : decode cX12_keep 10 = .ok (.getfield 71, 3) := by decide +kernel
theorem dX12_keep_13 : decode cX12_keep 13 = .ok (.iload_n 1, 1) := by decide +kernel
theorem dX12_keep_14 : decode cX12_keep 14 = .ok (.aload_n 0, 1) := by decide +kernel
theorem dX12_keep_15 : decode cX12_keep 15 = .ok (.getfield 68, 3) := by decide +kernel
theorem dX12_keep_18 : decode cX12_keep 18 = .ok (.iload_n 1, 1) := by decide +kernel
theorem dX12_keep_19 : decode cX12_keep 19 = .ok (.iaload, 1) := by decide +kernel
theorem dX12_keep_20 : decode cX12_keep 20 = .ok (.iastore, 1) := by decide +kernel
theorem dX12_keep_21 : decode cX12_keep 21 = .ok (.iinc 1 1, 3) := by decide +kernel
theorem dX12_keep_24 : decode cX12_keep 24 = .ok (.goto (-22), 3) := by decide +kernel
theorem dX12_keep_27 : decode cX12_keep 27 = .ok (.iconst 0, 1) := by decide +kernel
theorem dX12_keep_28 : decode cX12_keep 28 = .ok (.istore_n 1, 1) := by decide +kernel
theorem dX12_keep_29 : decode cX12_keep 29 = .ok (.iload_n 1, 1) := by decide +kernel
theorem dX12_keep_30 : decode cX12_keep 30 = .ok (.bipush 36, 2) := by decide +kernel
theorem dX12_keep_32 : decode cX12_keep 32 = .ok (.if_icmp .ge 21, 3) := by decide +kernel
theorem dX12_keep_35 : decode cX12_keep 35 = .ok (.aload_n 0, 1) := by decide +kernel
theorem dX12_keep_36 : decode cX12_keep 36 = .ok (.getfield 77, 3) := by decide +kernel
theorem dX12_keep_39 : decode cX12_keep 39 = .ok (.iload_n 1, 1) := by decide +kernel
theorem dX12_keep_40 : decode cX12_keep 40 = .ok (.aload_n 0, 1) := by decide +kernel
theorem dX12_keep_41 : decode cX12_keep 41 = .ok (.getfield 74, 3) := by decide +kernel
theorem dX12_keep_44 : decode cX12_keep 44 = .ok (.iload_n 1, 1) := by decide +kernel
theorem dX12_keep_45 : decode cX12_keep 45 = .ok (.laload, 1) := by decide +kernel
theorem dX12_keep_46 : decode cX12_keep 46 = .ok (.lastore, 1) := by decide +kernel
theorem dX12_keep_47 : decode cX12_keep 47 = .ok (.iinc 1 1, 3) := by decide +kernel
theorem dX12_keep_50 : decode cX12_keep 50 = .ok (.goto (-21), 3) := by decide +kernel
theorem dX12_keep_53 : decode cX12_keep 53 = .ok (.return_, 1) := by decide +kernel
theorem dX12_bring_0 : decode cX12_bring 0 = .ok (.iconst 0, 1) := by decide +kernel
theorem dX12_bring_1 : decode cX12_bring 1 = .ok (.istore_n 1, 1) := by decide +kernel
theorem dX12_bring_2 : decode cX12_bring 2 = .ok (.iload_n 1, 1) := by decide +kernel
theorem dX12_bring_3 : decode cX12_bring 3 = .ok (.sipush 310, 3) := by decide +kernel
theorem dX12_bring_6 : decode cX12_bring 6 = .ok (.if_icmp .ge 21, 3) := by decide +kernel
theorem dX12_bring_9 : decode cX12_bring 9 = .ok (.aload_n 0, 1) := by decide +kernel
theorem dX12_bring_10 : decode cX12_bring 10 = .ok (.getfield 68, 3) := by decide +kernel
theorem dX12_bring_13 : decode cX12_bring 13 = .ok (.iload_n 1, 1) := by decide +kernel
theorem dX12_bring_14 : decode cX12_bring 14 = .ok (.aload_n 0, 1) := by decide +kernel
theorem dX12_bring_15 : decode cX12_bring 15 = .ok (.getfield 71, 3) := by decide +kernel
theorem dX12_bring_18 : decode cX12_bring 18 = .ok (.iload_n 1, 1) := by decide +kernel
theorem dX12_bring_19 : decode cX12_bring 19 = .ok (.iaload, 1) := by decide +kernel
theorem dX12_bring_20 : decode cX12_bring 20 = .ok (.iastore, 1) := by decide +kernel
theorem dX12_bring_21 : decode cX12_bring 21 = .ok (.iinc 1 1, 3) := by decide +kernel
theorem dX12_bring_24 : decode cX12_bring 24 = .ok (.goto (-22), 3) := by decide +kernel
theorem dX12_bring_27 : decode cX12_bring 27 = .ok (.iconst 0, 1) := by decide +kernel
theorem dX12_bring_28 : decode cX12_bring 28 = .ok (.istore_n 1, 1) := by decide +kernel
theorem dX12_bring_29 : decode cX12_bring 29 = .ok (.iload_n 1, 1) := by decide +kernel
theorem dX12_bring_30 : decode cX12_bring 30 = .ok (.bipush 36, 2) := by decide +kernel
theorem dX12_bring_32 : decode cX12_bring 32 = .ok (.if_icmp .ge 21, 3) := by decide +kernel
theorem dX12_bring_35 : decode cX12_bring 35 = .ok (.aload_n 0, 1) := by decide +kernel
theorem dX12_bring_36 : decode cX12_bring 36 = .ok (.getfield 74, 3) := by decide +kernel
theorem dX12_bring_39 : decode cX12_bring 39 = .ok (.iload_n 1, 1) := by decide +kernel
theorem dX12_bring_40 : decode cX12_bring 40 = .ok (.aload_n 0, 1) := by decide +kernel
theorem dX12_bring_41 : decode cX12_bring 41 = .ok (.getfield 77, 3) := by decide +kernel
theorem dX12_bring_44 : decode cX12_bring 44 = .ok (.iload_n 1, 1) := by decide +kernel
theorem dX12_bring_45 : decode cX12_bring 45 = .ok (.laload, 1) := by decide +kernel
theorem dX12_bring_46 : decode cX12_bring 46 = .ok (.lastore, 1) := by decide +kernel
theorem dX12_bring_47 : decode cX12_bring 47 = .ok (.iinc 1 1, 3) := by decide +kernel
theorem dX12_bring_50 : decode cX12_bring 50 = .ok (.goto (-21), 3) := by decide +kernel
theorem dX12_bring_53 : decode cX12_bring 53 = .ok (.return_, 1) := by decide +kernel
theorem dX12_through_0 : decode cX12_through 0 = .ok (.aload_n 0, 1) := by decide +kernel
theorem dX12_through_1 : decode cX12_through 1 = .ok (.invokevirtual 93, 3) := by decide +kernel
theorem dX12_through_4 : decode cX12_through 4 = .ok (.aload_n 0, 1) := by decide +kernel
theorem dX12_through_5 : decode cX12_through 5 = .ok (.getfield 68, 3) := by decide +kernel
theorem dX12_through_8 : decode cX12_through 8 = .ok (.sipush 247, 3) := by decide +kernel
theorem dX12_through_11 : decode cX12_through 11 = .ok (.iaload, 1) := by decide +kernel
theorem dX12_through_12 : decode cX12_through 12 = .ok (.ifCond .le 20, 3) := by decide +kernel
theorem dX12_through_15 : decode cX12_through 15 = .ok (.aload_n 0, 1) := by decide +kernel
theorem dX12_through_16 : decode cX12_through 16 = .ok (.aload_n 0, 1) := by decide +kernel
theorem dX12_through_17 : decode cX12_through 17 = .ok (.getfield 68, 3) := by decide +kernel
theorem dX12_through_20 : decode cX12_through 20 = .ok (.sipush 240, 3) := by decide +kernel
theorem dX12_through_23 : decode cX12_through 23 = .ok (.iaload, 1) := by decide +kernel
theorem dX12_through_24 : decode cX12_through 24 = .ok (.iload_n 1, 1) := by decide +kernel
theorem dX12_through_25 : decode cX12_through 25 = .ok (.irem, 1) := by decide +kernel
theorem dX12_through_26 : decode cX12_through 26 = .ok (.invokevirtual 220, 3) := by decide +kernel
theorem dX12_through_29 : decode cX12_through 29 = .ok (.goto (-25), 3) := by decide +kernel
theorem dX12_through_32 : decode cX12_through 32 = .ok (.aload_n 0, 1) := by decide +kernel
theorem dX12_through_33 : decode cX12_through 33 = .ok (.invokevirtual 223, 3) := by decide +kernel
theorem dX12_through_36 : decode cX12_through 36 = .ok (.return_, 1) := by decide +kernel
theorem dX12_equal_0 : decode cX12_equal 0 = .ok (.aload_n 0, 1) := by decide +kernel
theorem dX12_equal_1 : decode cX12_equal 1 = .ok (.iconst 0, 1) := by decide +kernel
theorem dX12_equal_2 : decode cX12_equal 2 = .ok (.putfield 96, 3) := by decide +kernel
theorem dX12_equal_5 : decode cX12_equal 5 = .ok (.iload_n 1, 1) := by decide +kernel
theorem dX12_equal_6 : decode cX12_equal 6 = .ok (.iconst 1, 1) := by decide +kernel
theorem dX12_equal_7 : decode cX12_equal 7 = .ok (.bipush 6, 2) := by decide +kernel
theorem dX12_equal_9 : decode cX12_equal 9 = .ok (.invokestatic 107, 3) := by decide +kernel
theorem dX12_equal_12 : decode cX12_equal 12 = .ok (.ifCond .ne 5, 3) := by decide +kernel
theorem dX12_equal_15 : decode cX12_equal 15 = .ok (.iconst (-1), 1) := by decide +kernel
theorem dX12_equal_16 : decode cX12_equal 16 = .ok (.ireturn, 1) := by decide +kernel
theorem dX12_equal_17 : decode cX12_equal 17 = .ok (.aload_n 0, 1) := by decide +kernel
theorem dX12_equal_18 : decode cX12_equal 18 = .ok (.invokevirtual 235, 3) := by decide +kernel
theorem dX12_equal_21 : decode cX12_equal 21 = .ok (.aload_n 0, 1) := by decide +kernel
theorem dX12_equal_22 : decode cX12_equal 22 = .ok (.iconst 1, 1) := by decide +kernel
theorem dX12_equal_23 : decode cX12_equal 23 = .ok (.invokevirtual 238, 3) := by decide +kernel
theorem dX12_equal_26 : decode cX12_equal 26 = .ok (.iconst 0, 1) := by decide +kernel
theorem dX12_equal_27 : decode cX12_equal 27 = .ok (.istore_n 2, 1) := by decide +kernel
theorem dX12_equal_28 : decode cX12_equal 28 = .ok (.iload_n 2, 1) := by decide +kernel
theorem dX12_equal_29 : decode cX12_equal 29 = .ok (.sipush 310, 3) := by decide +kernel
theorem dX12_equal_32 : decode cX12_equal 32 = .ok (.if_icmp .ge 21, 3) := by decide +kernel
theorem dX12_equal_35 : decode cX12_equal 35 = .ok (.aload_n 0, 1) := by decide +kernel
theorem dX12_equal_36 : decode cX12_equal 36 = .ok (.getfield 80, 3) := by decide +kernel
theorem dX12_equal_39 : decode cX12_equal 39 = .ok (.iload_n 2, 1) := by decide +kernel
theorem dX12_equal_40 : decode cX12_equal 40 = .ok (.aload_n 0, 1) := by decide +kernel
theorem dX12_equal_41 : decode cX12_equal 41 = .ok (.getfield 68, 3) := by decide +kernel
theorem dX12_equal_44 : decode cX12_equal 44 = .ok (.iload_n 2, 1) := by decide +kernel
theorem dX12_equal_45 : decode cX12_equal 45 = .ok (.iaload, 1) := by decide +kernel
theorem dX12_equal_46 : decode cX12_equal 46 = .ok (.iastore, 1) := by decide +kernel
theorem dX12_equal_47 : decode cX12_equal 47 = .ok (.iinc 2 1, 3) := by decide +kernel
theorem dX12_equal_50 : decode cX12_equal 50 = .ok (.goto (-22), 3) := by decide +kernel
theorem dX12_equal_53 : decode cX12_equal 53 = .ok (.iconst 0, 1) := by decide +kernel
theorem dX12_equal_54 : decode cX12_equal 54 = .ok (.istore_n 2, 1) := by decide +kernel
theorem dX12_equal_55 : decode cX12_equal 55 = .ok (.iload_n 2, 1) := by decide +kernel
theorem dX12_equal_56 : decode cX12_equal 56 = .ok (.bipush 36, 2) := by decide +kernel
theorem dX12_equal_58 : decode cX12_equal 58 = .ok (.if_icmp .ge 21, 3) := by decide +kernel
theorem dX12_equal_61 : decode cX12_equal 61 = .ok (.aload_n 0, 1) := by decide +kernel
theorem dX12_equal_62 : decode cX12_equal 62 = .ok (.getfield 83, 3) := by decide +kernel
theorem dX12_equal_65 : decode cX12_equal 65 = .ok (.iload_n 2, 1) := by decide +kernel
theorem dX12_equal_66 : decode cX12_equal 66 = .ok (.aload_n 0, 1) := by decide +kernel
theorem dX12_equal_67 : decode cX12_equal 67 = .ok (.getfield 74, 3) := by decide +kernel
theorem dX12_equal_70 : decode cX12_equal 70 = .ok (.iload_n 2, 1) := by decide +kernel
theorem dX12_equal_71 : decode cX12_equal 71 = .ok (.laload, 1) := by decide +kernel
theorem dX12_equal_72 : decode cX12_equal 72 = .ok (.lastore, 1) := by decide +kernel
theorem dX12_equal_73 : decode cX12_equal 73 = .ok (.iinc 2 1, 3) := by decide +kernel
theorem dX12_equal_76 : decode cX12_equal 76 = .ok (.goto (-21), 3) := by decide +kernel
theorem dX12_equal_79 : decode cX12_equal 79 = .ok (.aload_n 0, 1) := by decide +kernel
theorem dX12_equal_80 : decode cX12_equal 80 = .ok (.iload_n 1, 1) := by decide +kernel
theorem dX12_equal_81 : decode cX12_equal 81 = .ok (.invokevirtual 238, 3) := by decide +kernel
theorem dX12_equal_84 : decode cX12_equal 84 = .ok (.aload_n 0, 1) := by decide +kernel
theorem dX12_equal_85 : decode cX12_equal 85 = .ok (.invokevirtual 241, 3) := by decide +kernel
theorem dX12_equal_88 : decode cX12_equal 88 = .ok (.istore_n 2, 1) := by decide +kernel
theorem dX12_equal_89 : decode cX12_equal 89 = .ok (.aload_n 0, 1) := by decide +kernel
theorem dX12_equal_90 : decode cX12_equal 90 = .ok (.invokevirtual 244, 3) := by decide +kernel
theorem dX12_equal_93 : decode cX12_equal 93 = .ok (.iload_n 2, 1) := by decide +kernel
theorem dX12_equal_94 : decode cX12_equal 94 = .ok (.ifCond .eq 7, 3) := by decide +kernel
theorem dX12_equal_97 : decode cX12_equal 97 = .ok (.iconst 1, 1) := by decide +kernel
theorem dX12_equal_98 : decode cX12_equal 98 = .ok (.goto 4, 3) := by decide +kernel
theorem dX12_equal_101 : decode cX12_equal 101 = .ok (.iconst 0, 1) := by decide +kernel
theorem dX12_equal_102 : decode cX12_equal 102 = .ok (.ireturn, 1) := by decide +kernel
theorem dX12_isLikeFirst_0 : decode cX12_isLikeFirst 0 = .ok (.aload_n 0, 1) := by decide +kernel
theorem dX12_isLikeFirst_1 : decode cX12_isLikeFirst 1 = .ok (.getfield 68, 3) := by decide +kernel
theorem dX12_isLikeFirst_4 : decode cX12_isLikeFirst 4 = .ok (.sipush 245, 3) := by decide +kernel
theorem dX12_isLikeFirst_7 : decode cX12_isLikeFirst 7 = .ok (.iaload, 1) := by decide +kernel
theorem dX12_isLikeFirst_8 : decode cX12_isLikeFirst 8 = .ok (.istore_n 1, 1) := by decide +kernel
theorem dX12_isLikeFirst_9 : decode cX12_isLikeFirst 9 = .ok (.iload_n 1, 1) := by decide +kernel
theorem dX12_isLikeFirst_10 : decode cX12_isLikeFirst 10 = .ok (.aload_n 0, 1) := by decide +kernel
theorem dX12_isLikeFirst_11 : decode cX12_isLikeFirst 11 = .ok (.getfield 80, 3) := by decide +kernel
theorem dX12_isLikeFirst_14 : decode cX12_isLikeFirst 14 = .ok (.sipush 245, 3) := by decide +kernel
theorem dX12_isLikeFirst_17 : decode cX12_isLikeFirst 17 = .ok (.iaload, 1) := by decide +kernel
theorem dX12_isLikeFirst_18 : decode cX12_isLikeFirst 18 = .ok (.if_icmp .ne 39, 3) := by decide +kernel
theorem dX12_isLikeFirst_21 : decode cX12_isLikeFirst 21 = .ok (.iload_n 1, 1) := by decide +kernel
theorem dX12_isLikeFirst_22 : decode cX12_isLikeFirst 22 = .ok (.bipush (-9), 2) := by decide +kernel
theorem dX12_isLikeFirst_24 : decode cX12_isLikeFirst 24 = .ok (.if_icmp .eq 29, 3) := by decide +kernel
theorem dX12_isLikeFirst_27 : decode cX12_isLikeFirst 27 = .ok (.aload_n 0, 1) := by decide +kernel
theorem dX12_isLikeFirst_28 : decode cX12_isLikeFirst 28 = .ok (.getfield 26, 3) := by decide +kernel
theorem dX12_isLikeFirst_31 : decode cX12_isLikeFirst 31 = .ok (.iload_n 1, 1) := by decide +kernel
theorem dX12_isLikeFirst_32 : decode cX12_isLikeFirst 32 = .ok (.iaload, 1) := by decide +kernel
theorem dX12_isLikeFirst_33 : decode cX12_isLikeFirst 33 = .ok (.iconst 2, 1) := by decide +kernel
theorem dX12_isLikeFirst_34 : decode cX12_isLikeFirst 34 = .ok (.if_icmp .lt 19, 3) := by decide +kernel
theorem dX12_isLikeFirst_37 : decode cX12_isLikeFirst 37 = .ok (.aload_n 0, 1) := by decide +kernel
theorem dX12_isLikeFirst_38 : decode cX12_isLikeFirst 38 = .ok (.getfield 74, 3) := by decide +kernel
theorem dX12_isLikeFirst_41 : decode cX12_isLikeFirst 41 = .ok (.iload_n 1, 1) := by decide +kernel
theorem dX12_isLikeFirst_42 : decode cX12_isLikeFirst 42 = .ok (.laload, 1) := by decide +kernel
theorem dX12_isLikeFirst_43 : decode cX12_isLikeFirst 43 = .ok (.aload_n 0, 1) := by decide +kernel
theorem dX12_isLikeFirst_44 : decode cX12_isLikeFirst 44 = .ok (.getfield 83, 3) := by decide +kernel
theorem dX12_isLikeFirst_47 : decode cX12_isLikeFirst 47 = .ok (.iload_n 1, 1) := by decide +kernel
theorem dX12_isLikeFirst_48 : decode cX12_isLikeFirst 48 = .ok (.laload, 1) := by decide +kernel
theorem dX12_isLikeFirst_49 : decode cX12_isLikeFirst 49 = .ok (.lcmp, 1) := by decide +kernel
theorem dX12_isLikeFirst_50 : decode cX12_isLikeFirst 50 = .ok (.ifCond .ne 7, 3) := by decide +kernel
theorem dX12_isLikeFirst_53 : decode cX12_isLikeFirst 53 = .ok (.iconst 1, 1) := by decide +kernel
theorem dX12_isLikeFirst_54 : decode cX12_isLikeFirst 54 = .ok (.goto 4, 3) := by decide +kernel
theorem dX12_isLikeFirst_57 : decode cX12_isLikeFirst 57 = .ok (.iconst 0, 1) := by decide +kernel
theorem dX12_isLikeFirst_58 : decode cX12_isLikeFirst 58 = .ok (.istore_n 2, 1) := by decide +kernel
theorem dX12_isLikeFirst_59 : decode cX12_isLikeFirst 59 = .ok (.iconst 0, 1) := by decide +kernel
theorem dX12_isLikeFirst_60 : decode cX12_isLikeFirst 60 = .ok (.istore_n 3, 1) := by decide +kernel
theorem dX12_isLikeFirst_61 : decode cX12_isLikeFirst 61 = .ok (.iload_n 3, 1) := by decide +kernel
theorem dX12_isLikeFirst_62 : decode cX12_isLikeFirst 62 = .ok (.aload_n 0, 1) := by decide +kernel
theorem dX12_isLikeFirst_63 : decode cX12_isLikeFirst 63 = .ok (.getfield 101, 3) := by decide +kernel
theorem dX12_isLikeFirst_66 : decode cX12_isLikeFirst 66 = .ok (.if_icmp .ge 115, 3) := by decide +kernel
theorem dX12_isLikeFirst_69 : decode cX12_isLikeFirst 69 = .ok (.aload_n 0, 1) := by decide +kernel
theorem dX12_isLikeFirst_70 : decode cX12_isLikeFirst 70 = .ok (.iload_n 3, 1) := by decide +kernel
theorem dX12_isLikeFirst_71 : decode cX12_isLikeFirst 71 = .ok (.iconst 0, 1) := by decide +kernel
theorem dX12_isLikeFirst_72 : decode cX12_isLikeFirst 72 = .ok (.invokevirtual 173, 3) := by decide +kernel
theorem dX12_isLikeFirst_75 : decode cX12_isLikeFirst 75 = .ok (.istore 4, 2) := by decide +kernel
theorem dX12_isLikeFirst_77 : decode cX12_isLikeFirst 77 = .ok (.aload_n 0, 1) := by decide +kernel
theorem dX12_isLikeFirst_78 : decode cX12_isLikeFirst 78 = .ok (.getfield 80, 3) := by decide +kernel
theorem dX12_isLikeFirst_81 : decode cX12_isLikeFirst 81 = .ok (.bipush 12, 2) := by decide +kernel
theorem dX12_isLikeFirst_83 : decode cX12_isLikeFirst 83 = .ok (.iload_n 3, 1) := by decide +kernel
theorem dX12_isLikeFirst_84 : decode cX12_isLikeFirst 84 = .ok (.imul, 1) := by decide +kernel
theorem dX12_isLikeFirst_85 : decode cX12_isLikeFirst 85 = .ok (.iconst 0, 1) := by decide +kernel
theorem dX12_isLikeFirst_86 : decode cX12_isLikeFirst 86 = .ok (.iadd, 1) := by decide +kernel
theorem dX12_isLikeFirst_87 : decode cX12_isLikeFirst 87 = .ok (.iaload, 1) := by decide +kernel
theorem dX12_isLikeFirst_88 : decode cX12_isLikeFirst 88 = .ok (.istore 5, 2) := by decide +kernel
theorem dX12_isLikeFirst_90 : decode cX12_isLikeFirst 90 = .ok (.aload_n 0, 1) := by decide +kernel
theorem dX12_isLikeFirst_91 : decode cX12_isLikeFirst 91 = .ok (.getfield 26, 3) := by decide +kernel
theorem dX12_isLikeFirst_94 : decode cX12_isLikeFirst 94 = .ok (.iload_n 3, 1) := by decide +kernel
theorem dX12_isLikeFirst_95 : decode cX12_isLikeFirst 95 = .ok (.iaload, 1) := by decide +kernel
theorem dX12_isLikeFirst_96 : decode cX12_isLikeFirst 96 = .ok (.iconst 4, 1) := by decide +kernel
theorem dX12_isLikeFirst_97 : decode cX12_isLikeFirst 97 = .ok (.if_icmp .eq 18, 3) := by decide +kernel
theorem dX12_isLikeFirst_100 : decode cX12_isLikeFirst 100 = .ok (.iload_n 1, 1) := by decide +kernel
theorem dX12_isLikeFirst_101 : decode cX12_isLikeFirst 101 = .ok (.bipush (-9), 2) := by decide +kernel
theorem dX12_isLikeFirst_103 : decode cX12_isLikeFirst 103 = .ok (.if_icmp .eq 8, 3) := by decide +kernel
theorem dX12_isLikeFirst_106 : decode cX12_isLikeFirst 106 = .ok (.iload_n 3, 1) := by decide +kernel
theorem dX12_isLikeFirst_107 : decode cX12_isLikeFirst 107 = .ok (.iload_n 1, 1) := by decide +kernel
theorem dX12_isLikeFirst_108 : decode cX12_isLikeFirst 108 = .ok (.if_icmp .ge 7, 3) := by decide +kernel
theorem dX12_isLikeFirst_111 : decode cX12_isLikeFirst 111 = .ok (.iconst 1, 1) := by decide +kernel
theorem dX12_isLikeFirst_112 : decode cX12_isLikeFirst 112 = .ok (.goto 4, 3) := by decide +kernel
theorem dX12_isLikeFirst_115 : decode cX12_isLikeFirst 115 = .ok (.iconst 0, 1) := by decide +kernel
theorem dX12_isLikeFirst_116 : decode cX12_isLikeFirst 116 = .ok (.istore 6, 2) := by decide +kernel
theorem dX12_isLikeFirst_118 : decode cX12_isLikeFirst 118 = .ok (.iload_n 2, 1) := by decide +kernel
theorem dX12_isLikeFirst_119 : decode cX12_isLikeFirst 119 = .ok (.ifCond .eq 54, 3) := by decide +kernel
theorem dX12_isLikeFirst_122 : decode cX12_isLikeFirst 122 = .ok (.iload 6, 2) := by decide +kernel
theorem dX12_isLikeFirst_124 : decode cX12_isLikeFirst 124 = .ok (.ifCond .eq 10, 3) := by decide +kernel
theorem dX12_isLikeFirst_127 : decode cX12_isLikeFirst 127 = .ok (.iload 4, 2) := by decide +kernel
theorem dX12_isLikeFirst_129 : decode cX12_isLikeFirst 129 = .ok (.iload 5, 2) := by decide +kernel
theorem dX12_isLikeFirst_131 : decode cX12_isLikeFirst 131 = .ok (.if_icmp .ne 42, 3) := by decide +kernel
theorem dX12_isLikeFirst_134 : decode cX12_isLikeFirst 134 = .ok (.aload_n 0, 1) := by decide +kernel
theorem dX12_isLikeFirst_135 : decode cX12_isLikeFirst 135 = .ok (.getfield 26, 3) := by decide +kernel
theorem dX12_isLikeFirst_138 : decode cX12_isLikeFirst 138 = .ok (.iload_n 3, 1) := by decide +kernel
theorem dX12_isLikeFirst_139 : decode cX12_isLikeFirst 139 = .ok (.iaload, 1) := by decide +kernel
theorem dX12_isLikeFirst_140 : decode cX12_isLikeFirst 140 = .ok (.iconst 4, 1) := by decide +kernel
theorem dX12_isLikeFirst_141 : decode cX12_isLikeFirst 141 = .ok (.if_icmp .ne 28, 3) := by decide +kernel
theorem dX12_isLikeFirst_144 : decode cX12_isLikeFirst 144 = .ok (.iload 4, 2) := by decide +kernel
theorem dX12_isLikeFirst_146 : decode cX12_isLikeFirst 146 = .ok (.iconst 4, 1) := by decide +kernel
theorem dX12_isLikeFirst_147 : decode cX12_isLikeFirst 147 = .ok (.if_icmp .ne 7, 3) := by decide +kernel
theorem dX12_isLikeFirst_150 : decode cX12_isLikeFirst 150 = .ok (.iconst 1, 1) := by decide +kernel
theorem dX12_isLikeFirst_151 : decode cX12_isLikeFirst 151 = .ok (.goto 4, 3) := by decide +kernel
theorem dX12_isLikeFirst_154 : decode cX12_isLikeFirst 154 = .ok (.iconst 0, 1) := by decide +kernel
theorem dX12_isLikeFirst_155 : decode cX12_isLikeFirst 155 = .ok (.iload 5, 2) := by decide +kernel
theorem dX12_isLikeFirst_157 : decode cX12_isLikeFirst 157 = .ok (.iconst 4, 1) := by decide +kernel
theorem dX12_isLikeFirst_158 : decode cX12_isLikeFirst 158 = .ok (.if_icmp .ne 7, 3) := by decide +kernel
theorem dX12_isLikeFirst_161 : decode cX12_isLikeFirst 161 = .ok (.iconst 1, 1) := by decide +kernel
theorem dX12_isLikeFirst_162 : decode cX12_isLikeFirst 162 = .ok (.goto 4, 3) := by decide +kernel
theorem dX12_isLikeFirst_165 : decode cX12_isLikeFirst 165 = .ok (.iconst 0, 1) := by decide +kernel
theorem dX12_isLikeFirst_166 : decode cX12_isLikeFirst 166 = .ok (.if_icmp .ne 7, 3) := by decide +kernel
theorem dX12_isLikeFirst_169 : decode cX12_isLikeFirst 169 = .ok (.iconst 1, 1) := by decide +kernel
theorem dX12_isLikeFirst_170 : decode cX12_isLikeFirst 170 = .ok (.goto 4, 3) := by decide +kernel
theorem dX12_isLikeFirst_173 : decode cX12_isLikeFirst 173 = .ok (.iconst 0, 1) := by decide +kernel
theorem dX12_isLikeFirst_174 : decode cX12_isLikeFirst 174 = .ok (.istore_n 2, 1) := by decide +kernel
theorem dX12_isLikeFirst_175 : decode cX12_isLikeFirst 175 = .ok (.iinc 3 1, 3) := by decide +kernel
theorem dX12_isLikeFirst_178 : decode cX12_isLikeFirst 178 = .ok (.goto (-117), 3) := by decide +kernel
theorem dX12_isLikeFirst_181 : decode cX12_isLikeFirst 181 = .ok (.iconst 0, 1) := by decide +kernel
theorem dX12_isLikeFirst_182 : decode cX12_isLikeFirst 182 = .ok (.istore_n 3, 1) := by decide +kernel
theorem dX12_isLikeFirst_183 : decode cX12_isLikeFirst 183 = .ok (.iload_n 3, 1) := by decide +kernel
theorem dX12_isLikeFirst_184 : decode cX12_isLikeFirst 184 = .ok (.aload_n 0, 1) := by decide +kernel
theorem dX12_isLikeFirst_185 : decode cX12_isLikeFirst 185 = .ok (.getfield 148, 3) := by decide +kernel
theorem dX12_isLikeFirst_188 : decode cX12_isLikeFirst 188 = .ok (.if_icmp .ge 64, 3) := by decide +kernel
theorem dX12_isLikeFirst_191 : decode cX12_isLikeFirst 191 = .ok (.iload_n 2, 1) := by decide +kernel
theorem dX12_isLikeFirst_192 : decode cX12_isLikeFirst 192 = .ok (.ifCond .eq 52, 3) := by decide +kernel
theorem dX12_isLikeFirst_195 : decode cX12_isLikeFirst 195 = .ok (.aload_n 0, 1) := by decide +kernel
theorem dX12_isLikeFirst_196 : decode cX12_isLikeFirst 196 = .ok (.getfield 68, 3) := by decide +kernel
theorem dX12_isLikeFirst_199 : decode cX12_isLikeFirst 199 = .ok (.sipush 302, 3) := by decide +kernel
theorem dX12_isLikeFirst_202 : decode cX12_isLikeFirst 202 = .ok (.iload_n 3, 1) := by decide +kernel
theorem dX12_isLikeFirst_203 : decode cX12_isLikeFirst 203 = .ok (.iadd, 1) := by decide +kernel
theorem dX12_isLikeFirst_204 : decode cX12_isLikeFirst 204 = .ok (.iaload, 1) := by decide +kernel
theorem dX12_isLikeFirst_205 : decode cX12_isLikeFirst 205 = .ok (.aload_n 0, 1) := by decide +kernel
theorem dX12_isLikeFirst_206 : decode cX12_isLikeFirst 206 = .ok (.getfield 80, 3) := by decide +kernel
theorem dX12_isLikeFirst_209 : decode cX12_isLikeFirst 209 = .ok (.sipush 302, 3) := by decide +kernel
theorem dX12_isLikeFirst_212 : decode cX12_isLikeFirst 212 = .ok (.iload_n 3, 1) := by decide +kernel
theorem dX12_isLikeFirst_213 : decode cX12_isLikeFirst 213 = .ok (.iadd, 1) := by decide +kernel
theorem dX12_isLikeFirst_214 : decode cX12_isLikeFirst 214 = .ok (.iaload, 1) := by decide +kernel
theorem dX12_isLikeFirst_215 : decode cX12_isLikeFirst 215 = .ok (.if_icmp .ne 29, 3) := by decide +kernel
theorem dX12_isLikeFirst_218 : decode cX12_isLikeFirst 218 = .ok (.aload_n 0, 1) := by decide +kernel
theorem dX12_isLikeFirst_219 : decode cX12_isLikeFirst 219 = .ok (.getfield 74, 3) := by decide +kernel
theorem dX12_isLikeFirst_222 : decode cX12_isLikeFirst 222 = .ok (.bipush 20, 2) := by decide +kernel
theorem dX12_isLikeFirst_224 : decode cX12_isLikeFirst 224 = .ok (.iload_n 3, 1) := by decide +kernel
theorem dX12_isLikeFirst_225 : decode cX12_isLikeFirst 225 = .ok (.iadd, 1) := by decide +kernel
theorem dX12_isLikeFirst_226 : decode cX12_isLikeFirst 226 = .ok (.laload, 1) := by decide +kernel
theorem dX12_isLikeFirst_227 : decode cX12_isLikeFirst 227 = .ok (.aload_n 0, 1) := by decide +kernel
theorem dX12_isLikeFirst_228 : decode cX12_isLikeFirst 228 = .ok (.getfield 83, 3) := by decide +kernel
theorem dX12_isLikeFirst_231 : decode cX12_isLikeFirst 231 = .ok (.bipush 20, 2) := by decide +kernel
theorem dX12_isLikeFirst_233 : decode cX12_isLikeFirst 233 = .ok (.iload_n 3, 1) := by decide +kernel
theorem dX12_isLikeFirst_234 : decode cX12_isLikeFirst 234 = .ok (.iadd, 1) := by decide +kernel
theorem dX12_isLikeFirst_235 : decode cX12_isLikeFirst 235 = .ok (.laload, 1) := by decide +kernel
theorem dX12_isLikeFirst_236 : decode cX12_isLikeFirst 236 = .ok (.lcmp, 1) := by decide +kernel
theorem dX12_isLikeFirst_237 : decode cX12_isLikeFirst 237 = .ok (.ifCond .ne 7, 3) := by decide +kernel
theorem dX12_isLikeFirst_240 : decode cX12_isLikeFirst 240 = .ok (.iconst 1, 1) := by decide +kernel
theorem dX12_isLikeFirst_241 : decode cX12_isLikeFirst 241 = .ok (.goto 4, 3) := by decide +kernel
theorem dX12_isLikeFirst_244 : decode cX12_isLikeFirst 244 = .ok (.iconst 0, 1) := by decide +kernel
theorem dX12_isLikeFirst_245 : decode cX12_isLikeFirst 245 = .ok (.istore_n 2, 1) := by decide +kernel
theorem dX12_isLikeFirst_246 : decode cX12_isLikeFirst 246 = .ok (.iinc 3 1, 3) := by decide +kernel
theorem dX12_isLikeFirst_249 : decode cX12_isLikeFirst 249 = .ok (.goto (-66), 3) := by decide +kernel
theorem dX12_isLikeFirst_252 : decode cX12_isLikeFirst 252 = .ok (.iload_n 2, 1) := by decide +kernel
theorem dX12_isLikeFirst_253 : decode cX12_isLikeFirst 253 = .ok (.ireturn, 1) := by decide +kernel
theorem dL_cell_0 : decode cL_cell 0 = .ok (.iload_n 1, 1) := by decide +kernel
theorem dL_cell_1 : decode cL_cell 1 = .ok (.aload_n 0, 1) := by decide +kernel
theorem dL_cell_2 : decode cL_cell 2 = .ok (.arraylength, 1) := by decide +kernel
theorem dL_cell_3 : decode cL_cell 3 = .ok (.if_icmp .ge 9, 3) := by decide +kernel
theorem dL_cell_6 : decode cL_cell 6 = .ok (.aload_n 0, 1) := by decide +kernel
theorem dL_cell_7 : decode cL_cell 7 = .ok (.iload_n 1, 1) := by decide +kernel
theorem dL_cell_8 : decode cL_cell 8 = .ok (.iaload, 1) := by decide +kernel
theorem dL_cell_9 : decode cL_cell 9 = .ok (.goto 4, 3) := by decide +kernel
theorem dL_cell_12 : decode cL_cell 12 = .ok (.iconst 0, 1) := by decide +kernel
theorem dL_cell_13 : decode cL_cell 13 = .ok (.ireturn, 1) := by decide +kernel
theorem dL_law_0 : decode cL_law 0 = .ok (.new 7, 3) := by decide +kernel
theorem dL_law_3 : decode cL_law 3 = .ok (.dup, 1) := by decide +kernel
theorem dL_law_4 : decode cL_law 4 = .ok (.aload_n 0, 1) := by decide +kernel
theorem dL_law_5 : decode cL_law 5 = .ok (.iconst 0, 1) := by decide +kernel
theorem dL_law_6 : decode cL_law 6 = .ok (.invokestatic 9, 3) := by decide +kernel
theorem dL_law_9 : decode cL_law 9 = .ok (.aload_n 0, 1) := by decide +kernel
theorem dL_law_10 : decode cL_law 10 = .ok (.iconst 1, 1) := by decide +kernel
theorem dL_law_11 : decode cL_law 11 = .ok (.invokestatic 9, 3) := by decide +kernel
theorem dL_law_14 : decode cL_law 14 = .ok (.invokespecial 15, 3) := by decide +kernel
theorem dL_law_17 : decode cL_law 17 = .ok (.astore_n 1, 1) := by decide +kernel
theorem dL_law_18 : decode cL_law 18 = .ok (.new 18, 3) := by decide +kernel
theorem dL_law_21 : decode cL_law 21 = .ok (.dup, 1) := by decide +kernel
theorem dL_law_22 : decode cL_law 22 = .ok (.aload_n 0, 1) := by decide +kernel
theorem dL_law_23 : decode cL_law 23 = .ok (.iconst 0, 1) := by decide +kernel
theorem dL_law_24 : decode cL_law 24 = .ok (.invokestatic 9, 3) := by decide +kernel
theorem dL_law_27 : decode cL_law 27 = .ok (.aload_n 0, 1) := by decide +kernel
theorem dL_law_28 : decode cL_law 28 = .ok (.iconst 1, 1) := by decide +kernel
theorem dL_law_29 : decode cL_law 29 = .ok (.invokestatic 9, 3) := by decide +kernel
theorem dL_law_32 : decode cL_law 32 = .ok (.invokespecial 20, 3) := by decide +kernel
theorem dL_law_35 : decode cL_law 35 = .ok (.astore_n 2, 1) := by decide +kernel
theorem dL_law_36 : decode cL_law 36 = .ok (.iconst 2, 1) := by decide +kernel
theorem dL_law_37 : decode cL_law 37 = .ok (.istore_n 3, 1) := by decide +kernel
theorem dL_law_38 : decode cL_law 38 = .ok (.iload_n 3, 1) := by decide +kernel
theorem dL_law_39 : decode cL_law 39 = .ok (.aload_n 0, 1) := by decide +kernel
theorem dL_law_40 : decode cL_law 40 = .ok (.arraylength, 1) := by decide +kernel
theorem dL_law_41 : decode cL_law 41 = .ok (.bipush 8, 2) := by decide +kernel
theorem dL_law_43 : decode cL_law 43 = .ok (.isub, 1) := by decide +kernel
theorem dL_law_44 : decode cL_law 44 = .ok (.if_icmp .gt 1070, 3) := by decide +kernel
theorem dL_law_47 : decode cL_law 47 = .ok (.aload_n 0, 1) := by decide +kernel
theorem dL_law_48 : decode cL_law 48 = .ok (.iload_n 3, 1) := by decide +kernel
theorem dL_law_49 : decode cL_law 49 = .ok (.iaload, 1) := by decide +kernel
theorem dL_law_50 : decode cL_law 50 = .ok (.bipush 31, 2) := by decide +kernel
theorem dL_law_52 : decode cL_law 52 = .ok (.iand, 1) := by decide +kernel
theorem dL_law_53 : decode cL_law 53 = .ok (.tableswitch 1055 0 22 #[107, 150, 193, 276, 330, 383, 416, 539, 618, 701, 764, 787, 810, 833, 846, 859, 872, 896, 929, 963, 986, 1009, 1032], 107) := by decide +kernel
theorem dL_law_160 : decode cL_law 160 = .ok (.aload_n 1, 1) := by decide +kernel
theorem dL_law_161 : decode cL_law 161 = .ok (.aload_n 0, 1) := by decide +kernel
theorem dL_law_162 : decode cL_law 162 = .ok (.iload_n 3, 1) := by decide +kernel
theorem dL_law_163 : decode cL_law 163 = .ok (.iconst 1, 1) := by decide +kernel
theorem dL_law_164 : decode cL_law 164 = .ok (.iadd, 1) := by decide +kernel
theorem dL_law_165 : decode cL_law 165 = .ok (.iaload, 1) := by decide +kernel
theorem dL_law_166 : decode cL_law 166 = .ok (.aload_n 0, 1) := by decide +kernel
theorem dL_law_167 : decode cL_law 167 = .ok (.iload_n 3, 1) := by decide +kernel
theorem dL_law_168 : decode cL_law 168 = .ok (.iconst 2, 1) := by decide +kernel
theorem dL_law_169 : decode cL_law 169 = .ok (.iadd, 1) := by decide +kernel
theorem dL_law_170 : decode cL_law 170 = .ok (.iaload, 1) := by decide +kernel
theorem dL_law_171 : decode cL_law 171 = .ok (.aload_n 0, 1) := by decide +kernel
theorem dL_law_172 : decode cL_law 172 = .ok (.iload_n 3, 1) := by decide +kernel
theorem dL_law_173 : decode cL_law 173 = .ok (.iconst 3, 1) := by decide +kernel
theorem dL_law_174 : decode cL_law 174 = .ok (.iadd, 1) := by decide +kernel
theorem dL_law_175 : decode cL_law 175 = .ok (.iaload, 1) := by decide +kernel
theorem dL_law_176 : decode cL_law 176 = .ok (.invokevirtual 21, 3) := by decide +kernel
theorem dL_law_179 : decode cL_law 179 = .ok (.aload_n 2, 1) := by decide +kernel
theorem dL_law_180 : decode cL_law 180 = .ok (.aload_n 0, 1) := by decide +kernel
theorem dL_law_181 : decode cL_law 181 = .ok (.iload_n 3, 1) := by decide +kernel
theorem dL_law_182 : decode cL_law 182 = .ok (.iconst 1, 1) := by decide +kernel
theorem dL_law_183 : decode cL_law 183 = .ok (.iadd, 1) := by decide +kernel
theorem dL_law_184 : decode cL_law 184 = .ok (.iaload, 1) := by decide +kernel
theorem dL_law_185 : decode cL_law 185 = .ok (.aload_n 0, 1) := by decide +kernel
theorem dL_law_186 : decode cL_law 186 = .ok (.iload_n 3, 1) := by decide +kernel
theorem dL_law_187 : decode cL_law 187 = .ok (.iconst 2, 1) := by decide +kernel
theorem dL_law_188 : decode cL_law 188 = .ok (.iadd, 1) := by decide +kernel
theorem dL_law_189 : decode cL_law 189 = .ok (.iaload, 1) := by decide +kernel
theorem dL_law_190 : decode cL_law 190 = .ok (.aload_n 0, 1) := by decide +kernel
theorem dL_law_191 : decode cL_law 191 = .ok (.iload_n 3, 1) := by decide +kernel
theorem dL_law_192 : decode cL_law 192 = .ok (.iconst 3, 1) := by decide +kernel
theorem dL_law_193 : decode cL_law 193 = .ok (.iadd, 1) := by decide +kernel
theorem dL_law_194 : decode cL_law 194 = .ok (.iaload, 1) := by decide +kernel
theorem dL_law_195 : decode cL_law 195 = .ok (.invokevirtual 25, 3) := by decide +kernel
theorem dL_law_198 : decode cL_law 198 = .ok (.if_icmp .eq 910, 3) := by decide +kernel
theorem dL_law_201 : decode cL_law 201 = .ok (.iconst 0, 1) := by decide +kernel
theorem dL_law_202 : decode cL_law 202 = .ok (.ireturn, 1) := by decide +kernel
theorem dL_law_203 : decode cL_law 203 = .ok (.aload_n 1, 1) := by decide +kernel
theorem dL_law_204 : decode cL_law 204 = .ok (.aload_n 0, 1) := by decide +kernel
theorem dL_law_205 : decode cL_law 205 = .ok (.iload_n 3, 1) := by decide +kernel
theorem dL_law_206 : decode cL_law 206 = .ok (.iconst 1, 1) := by decide +kernel
theorem dL_law_207 : decode cL_law 207 = .ok (.iadd, 1) := by decide +kernel
theorem dL_law_208 : decode cL_law 208 = .ok (.iaload, 1) := by decide +kernel
theorem dL_law_209 : decode cL_law 209 = .ok (.aload_n 0, 1) := by decide +kernel
theorem dL_law_210 : decode cL_law 210 = .ok (.iload_n 3, 1) := by decide +kernel
theorem dL_law_211 : decode cL_law 211 = .ok (.iconst 2, 1) := by decide +kernel
theorem dL_law_212 : decode cL_law 212 = .ok (.iadd, 1) := by decide +kernel
theorem dL_law_213 : decode cL_law 213 = .ok (.iaload, 1) := by decide +kernel
theorem dL_law_214 : decode cL_law 214 = .ok (.aload_n 0, 1) := by decide +kernel
theorem dL_law_215 : decode cL_law 215 = .ok (.iload_n 3, 1) := by decide +kernel
theorem dL_law_216 : decode cL_law 216 = .ok (.iconst 3, 1) := by decide +kernel
theorem dL_law_217 : decode cL_law 217 = .ok (.iadd, 1) := by decide +kernel
theorem dL_law_218 : decode cL_law 218 = .ok (.iaload, 1) := by decide +kernel
theorem dL_law_219 : decode cL_law 219 = .ok (.invokevirtual 26, 3) := by decide +kernel
theorem dL_law_222 : decode cL_law 222 = .ok (.aload_n 2, 1) := by decide +kernel
theorem dL_law_223 : decode cL_law 223 = .ok (.aload_n 0, 1) := by decide +kernel
theorem dL_law_224 : decode cL_law 224 = .ok (.iload_n 3, 1) := by decide +kernel
theorem dL_law_225 : decode cL_law 225 = .ok (.iconst 1, 1) := by decide +kernel
theorem dL_law_226 : decode cL_law 226 = .ok (.iadd, 1) := by decide +kernel
theorem dL_law_227 : decode cL_law 227 = .ok (.iaload, 1) := by decide +kernel
theorem dL_law_228 : decode cL_law 228 = .ok (.aload_n 0, 1) := by decide +kernel
theorem dL_law_229 : decode cL_law 229 = .ok (.iload_n 3, 1) := by decide +kernel
theorem dL_law_230 : decode cL_law 230 = .ok (.iconst 2, 1) := by decide +kernel
theorem dL_law_231 : decode cL_law 231 = .ok (.iadd, 1) := by decide +kernel
theorem dL_law_232 : decode cL_law 232 = .ok (.iaload, 1) := by decide +kernel
theorem dL_law_233 : decode cL_law 233 = .ok (.aload_n 0, 1) := by decide +kernel
theorem dL_law_234 : decode cL_law 234 = .ok (.iload_n 3, 1) := by decide +kernel
theorem dL_law_235 : decode cL_law 235 = .ok (.iconst 3, 1) := by decide +kernel
theorem dL_law_236 : decode cL_law 236 = .ok (.iadd, 1) := by decide +kernel
theorem dL_law_237 : decode cL_law 237 = .ok (.iaload, 1) := by decide +kernel
theorem dL_law_238 : decode cL_law 238 = .ok (.invokevirtual 29, 3) := by decide +kernel
theorem dL_law_241 : decode cL_law 241 = .ok (.if_icmp .eq 867, 3) := by decide +kernel
theorem dL_law_244 : decode cL_law 244 = .ok (.iconst 0, 1) := by decide +kernel
theorem dL_law_245 : decode cL_law 245 = .ok (.ireturn, 1) := by decide +kernel
theorem dL_law_246 : decode cL_law 246 = .ok (.aload_n 1, 1) := by decide +kernel
theorem dL_law_247 : decode cL_law 247 = .ok (.aload_n 0, 1) := by decide +kernel
theorem dL_law_248 : decode cL_law 248 = .ok (.iload_n 3, 1) := by decide +kernel
theorem dL_law_249 : decode cL_law 249 = .ok (.iconst 1, 1) := by decide +kernel
theorem dL_law_250 : decode cL_law 250 = .ok (.iadd, 1) := by decide +kernel
theorem dL_law_251 : decode cL_law 251 = .ok (.iaload, 1) := by decide +kernel
theorem dL_law_252 : decode cL_law 252 = .ok (.aload_n 0, 1) := by decide +kernel
theorem dL_law_253 : decode cL_law 253 = .ok (.iload_n 3, 1) := by decide +kernel
theorem dL_law_254 : decode cL_law 254 = .ok (.iconst 2, 1) := by decide +kernel
theorem dL_law_255 : decode cL_law 255 = .ok (.iadd, 1) := by decide +kernel
theorem dL_law_256 : decode cL_law 256 = .ok (.iaload, 1) := by decide +kernel
theorem dL_law_257 : decode cL_law 257 = .ok (.aload_n 0, 1) := by decide +kernel
theorem dL_law_258 : decode cL_law 258 = .ok (.iload_n 3, 1) := by decide +kernel
theorem dL_law_259 : decode cL_law 259 = .ok (.iconst 3, 1) := by decide +kernel
theorem dL_law_260 : decode cL_law 260 = .ok (.iadd, 1) := by decide +kernel
theorem dL_law_261 : decode cL_law 261 = .ok (.iaload, 1) := by decide +kernel
theorem dL_law_262 : decode cL_law 262 = .ok (.aload_n 0, 1) := by decide +kernel
theorem dL_law_263 : decode cL_law 263 = .ok (.iload_n 3, 1) := by decide +kernel
theorem dL_law_264 : decode cL_law 264 = .ok (.iconst 4, 1) := by decide +kernel
theorem dL_law_265 : decode cL_law 265 = .ok (.iadd, 1) := by decide +kernel
theorem dL_law_266 : decode cL_law 266 = .ok (.iaload, 1) := by decide +kernel
theorem dL_law_267 : decode cL_law 267 = .ok (.i2l, 1) := by decide +kernel
theorem dL_law_268 : decode cL_law 268 = .ok (.bipush 32, 2) := by decide +kernel
theorem dL_law_270 : decode cL_law 270 = .ok (.lshl, 1) := by decide +kernel
theorem dL_law_271 : decode cL_law 271 = .ok (.aload_n 0, 1) := by decide +kernel
theorem dL_law_272 : decode cL_law 272 = .ok (.iload_n 3, 1) := by decide +kernel
theorem dL_law_273 : decode cL_law 273 = .ok (.iconst 5, 1) := by decide +kernel
theorem dL_law_274 : decode cL_law 274 = .ok (.iadd, 1) := by decide +kernel
theorem dL_law_275 : decode cL_law 275 = .ok (.iaload, 1) := by decide +kernel
theorem dL_law_276 : decode cL_law 276 = .ok (.i2l, 1) := by decide +kernel
theorem dL_law_277 : decode cL_law 277 = .ok (.ldc2_w 30, 3) := by decide +kernel
theorem dL_law_280 : decode cL_law 280 = .ok (.land, 1) := by decide +kernel
theorem dL_law_281 : decode cL_law 281 = .ok (.lor, 1) := by decide +kernel
theorem dL_law_282 : decode cL_law 282 = .ok (.invokevirtual 32, 3) := by decide +kernel
theorem dL_law_285 : decode cL_law 285 = .ok (.aload_n 2, 1) := by decide +kernel
theorem dL_law_286 : decode cL_law 286 = .ok (.aload_n 0, 1) := by decide +kernel
theorem dL_law_287 : decode cL_law 287 = .ok (.iload_n 3, 1) := by decide +kernel
theorem dL_law_288 : decode cL_law 288 = .ok (.iconst 1, 1) := by decide +kernel
theorem dL_law_289 : decode cL_law 289 = .ok (.iadd, 1) := by decide +kernel
theorem dL_law_290 : decode cL_law 290 = .ok (.iaload, 1) := by decide +kernel
theorem dL_law_291 : decode cL_law 291 = .ok (.aload_n 0, 1) := by decide +kernel
theorem dL_law_292 : decode cL_law 292 = .ok (.iload_n 3, 1) := by decide +kernel
theorem dL_law_293 : decode cL_law 293 = .ok (.iconst 2, 1) := by decide +kernel
theorem dL_law_294 : decode cL_law 294 = .ok (.iadd, 1) := by decide +kernel
theorem dL_law_295 : decode cL_law 295 = .ok (.iaload, 1) := by decide +kernel
theorem dL_law_296 : decode cL_law 296 = .ok (.aload_n 0, 1) := by decide +kernel
theorem dL_law_297 : decode cL_law 297 = .ok (.iload_n 3, 1) := by decide +kernel
theorem dL_law_298 : decode cL_law 298 = .ok (.iconst 3, 1) := by decide +kernel
theorem dL_law_299 : decode cL_law 299 = .ok (.iadd, 1) := by decide +kernel
theorem dL_law_300 : decode cL_law 300 = .ok (.iaload, 1) := by decide +kernel
theorem dL_law_301 : decode cL_law 301 = .ok (.aload_n 0, 1) := by decide +kernel
theorem dL_law_302 : decode cL_law 302 = .ok (.iload_n 3, 1) := by decide +kernel
theorem dL_law_303 : decode cL_law 303 = .ok (.iconst 4, 1) := by decide +kernel
theorem dL_law_304 : decode cL_law 304 = .ok (.iadd, 1) := by decide +kernel
theorem dL_law_305 : decode cL_law 305 = .ok (.iaload, 1) := by decide +kernel
theorem dL_law_306 : decode cL_law 306 = .ok (.i2l, 1) := by decide +kernel
theorem dL_law_307 : decode cL_law 307 = .ok (.bipush 32, 2) := by decide +kernel
theorem dL_law_309 : decode cL_law 309 = .ok (.lshl, 1) := by decide +kernel
theorem dL_law_310 : decode cL_law 310 = .ok (.aload_n 0, 1) := by decide +kernel
theorem dL_law_311 : decode cL_law 311 = .ok (.iload_n 3, 1) := by decide +kernel
theorem dL_law_312 : decode cL_law 312 = .ok (.iconst 5, 1) := by decide +kernel
theorem dL_law_313 : decode cL_law 313 = .ok (.iadd, 1) := by decide +kernel
theorem dL_law_314 : decode cL_law 314 = .ok (.iaload, 1) := by decide +kernel
theorem dL_law_315 : decode cL_law 315 = .ok (.i2l, 1) := by decide +kernel
theorem dL_law_316 : decode cL_law 316 = .ok (.ldc2_w 30, 3) := by decide +kernel
theorem dL_law_319 : decode cL_law 319 = .ok (.land, 1) := by decide +kernel
theorem dL_law_320 : decode cL_law 320 = .ok (.lor, 1) := by decide +kernel
theorem dL_law_321 : decode cL_law 321 = .ok (.invokevirtual 36, 3) := by decide +kernel
theorem dL_law_324 : decode cL_law 324 = .ok (.if_icmp .eq 784, 3) := by decide +kernel
theorem dL_law_327 : decode cL_law 327 = .ok (.iconst 0, 1) := by decide +kernel
theorem dL_law_328 : decode cL_law 328 = .ok (.ireturn, 1) := by decide +kernel
theorem dL_law_329 : decode cL_law 329 = .ok (.aload_n 1, 1) := by decide +kernel
theorem dL_law_330 : decode cL_law 330 = .ok (.aload_n 0, 1) := by decide +kernel
theorem dL_law_331 : decode cL_law 331 = .ok (.iload_n 3, 1) := by decide +kernel
theorem dL_law_332 : decode cL_law 332 = .ok (.iconst 1, 1) := by decide +kernel
theorem dL_law_333 : decode cL_law 333 = .ok (.iadd, 1) := by decide +kernel
theorem dL_law_334 : decode cL_law 334 = .ok (.iaload, 1) := by decide +kernel
theorem dL_law_335 : decode cL_law 335 = .ok (.aload_n 0, 1) := by decide +kernel
theorem dL_law_336 : decode cL_law 336 = .ok (.iload_n 3, 1) := by decide +kernel
theorem dL_law_337 : decode cL_law 337 = .ok (.iconst 2, 1) := by decide +kernel
theorem dL_law_338 : decode cL_law 338 = .ok (.iadd, 1) := by decide +kernel
theorem dL_law_339 : decode cL_law 339 = .ok (.iaload, 1) := by decide +kernel
theorem dL_law_340 : decode cL_law 340 = .ok (.aload_n 0, 1) := by decide +kernel
theorem dL_law_341 : decode cL_law 341 = .ok (.iload_n 3, 1) := by decide +kernel
theorem dL_law_342 : decode cL_law 342 = .ok (.iconst 3, 1) := by decide +kernel
theorem dL_law_343 : decode cL_law 343 = .ok (.iadd, 1) := by decide +kernel
theorem dL_law_344 : decode cL_law 344 = .ok (.iaload, 1) := by decide +kernel
theorem dL_law_345 : decode cL_law 345 = .ok (.aload_n 0, 1) := by decide +kernel
theorem dL_law_346 : decode cL_law 346 = .ok (.iload_n 3, 1) := by decide +kernel
theorem dL_law_347 : decode cL_law 347 = .ok (.iconst 4, 1) := by decide +kernel
theorem dL_law_348 : decode cL_law 348 = .ok (.iadd, 1) := by decide +kernel
theorem dL_law_349 : decode cL_law 349 = .ok (.iaload, 1) := by decide +kernel
theorem dL_law_350 : decode cL_law 350 = .ok (.invokevirtual 37, 3) := by decide +kernel
theorem dL_law_353 : decode cL_law 353 = .ok (.aload_n 2, 1) := by decide +kernel
theorem dL_law_354 : decode cL_law 354 = .ok (.aload_n 0, 1) := by decide +kernel
theorem dL_law_355 : decode cL_law 355 = .ok (.iload_n 3, 1) := by decide +kernel
theorem dL_law_356 : decode cL_law 356 = .ok (.iconst 1, 1) := by decide +kernel
theorem dL_law_357 : decode cL_law 357 = .ok (.iadd, 1) := by decide +kernel
theorem dL_law_358 : decode cL_law 358 = .ok (.iaload, 1) := by decide +kernel
theorem dL_law_359 : decode cL_law 359 = .ok (.aload_n 0, 1) := by decide +kernel
theorem dL_law_360 : decode cL_law 360 = .ok (.iload_n 3, 1) := by decide +kernel
theorem dL_law_361 : decode cL_law 361 = .ok (.iconst 2, 1) := by decide +kernel
theorem dL_law_362 : decode cL_law 362 = .ok (.iadd, 1) := by decide +kernel
theorem dL_law_363 : decode cL_law 363 = .ok (.iaload, 1) := by decide +kernel
theorem dL_law_364 : decode cL_law 364 = .ok (.aload_n 0, 1) := by decide +kernel
theorem dL_law_365 : decode cL_law 365 = .ok (.iload_n 3, 1) := by decide +kernel
theorem dL_law_366 : decode cL_law 366 = .ok (.iconst 3, 1) := by decide +kernel
theorem dL_law_367 : decode cL_law 367 = .ok (.iadd, 1) := by decide +kernel
theorem dL_law_368 : decode cL_law 368 = .ok (.iaload, 1) := by decide +kernel
theorem dL_law_369 : decode cL_law 369 = .ok (.aload_n 0, 1) := by decide +kernel
theorem dL_law_370 : decode cL_law 370 = .ok (.iload_n 3, 1) := by decide +kernel
theorem dL_law_371 : decode cL_law 371 = .ok (.iconst 4, 1) := by decide +kernel
theorem dL_law_372 : decode cL_law 372 = .ok (.iadd, 1) := by decide +kernel
theorem dL_law_373 : decode cL_law 373 = .ok (.iaload, 1) := by decide +kernel
theorem dL_law_374 : decode cL_law 374 = .ok (.invokevirtual 41, 3) := by decide +kernel
theorem dL_law_377 : decode cL_law 377 = .ok (.lcmp, 1) := by decide +kernel
theorem dL_law_378 : decode cL_law 378 = .ok (.ifCond .eq 730, 3) := by decide +kernel
theorem dL_law_381 : decode cL_law 381 = .ok (.iconst 0, 1) := by decide +kernel
theorem dL_law_382 : decode cL_law 382 = .ok (.ireturn, 1) := by decide +kernel
theorem dL_law_383 : decode cL_law 383 = .ok (.aload_n 1, 1) := by decide +kernel
theorem dL_law_384 : decode cL_law 384 = .ok (.aload_n 0, 1) := by decide +kernel
theorem dL_law_385 : decode cL_law 385 = .ok (.iload_n 3, 1) := by decide +kernel
theorem dL_law_386 : decode cL_law 386 = .ok (.iconst 1, 1) := by decide +kernel
theorem dL_law_387 : decode cL_law 387 = .ok (.iadd, 1) := by decide +kernel
theorem dL_law_388 : decode cL_law 388 = .ok (.iaload, 1) := by decide +kernel
theorem dL_law_389 : decode cL_law 389 = .ok (.aload_n 0, 1) := by decide +kernel
theorem dL_law_390 : decode cL_law 390 = .ok (.iload_n 3, 1) := by decide +kernel
theorem dL_law_391 : decode cL_law 391 = .ok (.iconst 2, 1) := by decide +kernel
theorem dL_law_392 : decode cL_law 392 = .ok (.iadd, 1) := by decide +kernel
theorem dL_law_393 : decode cL_law 393 = .ok (.iaload, 1) := by decide +kernel
theorem dL_law_394 : decode cL_law 394 = .ok (.aload_n 0, 1) := by decide +kernel
theorem dL_law_395 : decode cL_law 395 = .ok (.iload_n 3, 1) := by decide +kernel
theorem dL_law_396 : decode cL_law 396 = .ok (.iconst 3, 1) := by decide +kernel
theorem dL_law_397 : decode cL_law 397 = .ok (.iadd, 1) := by decide +kernel
theorem dL_law_398 : decode cL_law 398 = .ok (.iaload, 1) := by decide +kernel
theorem dL_law_399 : decode cL_law 399 = .ok (.aload_n 0, 1) := by decide +kernel
theorem dL_law_400 : decode cL_law 400 = .ok (.iload_n 3, 1) := by decide +kernel
theorem dL_law_401 : decode cL_law 401 = .ok (.iconst 4, 1) := by decide +kernel
theorem dL_law_402 : decode cL_law 402 = .ok (.iadd, 1) := by decide +kernel
theorem dL_law_403 : decode cL_law 403 = .ok (.iaload, 1) := by decide +kernel
theorem dL_law_404 : decode cL_law 404 = .ok (.invokevirtual 42, 3) := by decide +kernel
theorem dL_law_407 : decode cL_law 407 = .ok (.aload_n 2, 1) := by decide +kernel
theorem dL_law_408 : decode cL_law 408 = .ok (.aload_n 0, 1) := by decide +kernel
theorem dL_law_409 : decode cL_law 409 = .ok (.iload_n 3, 1) := by decide +kernel
theorem dL_law_410 : decode cL_law 410 = .ok (.iconst 1, 1) := by decide +kernel
theorem dL_law_411 : decode cL_law 411 = .ok (.iadd, 1) := by decide +kernel
theorem dL_law_412 : decode cL_law 412 = .ok (.iaload, 1) := by decide +kernel
theorem dL_law_413 : decode cL_law 413 = .ok (.aload_n 0, 1) := by decide +kernel
theorem dL_law_414 : decode cL_law 414 = .ok (.iload_n 3, 1) := by decide +kernel
theorem dL_law_415 : decode cL_law 415 = .ok (.iconst 2, 1) := by decide +kernel
theorem dL_law_416 : decode cL_law 416 = .ok (.iadd, 1) := by decide +kernel
theorem dL_law_417 : decode cL_law 417 = .ok (.iaload, 1) := by decide +kernel
theorem dL_law_418 : decode cL_law 418 = .ok (.aload_n 0, 1) := by decide +kernel
theorem dL_law_419 : decode cL_law 419 = .ok (.iload_n 3, 1) := by decide +kernel
theorem dL_law_420 : decode cL_law 420 = .ok (.iconst 3, 1) := by decide +kernel
theorem dL_law_421 : decode cL_law 421 = .ok (.iadd, 1) := by decide +kernel
theorem dL_law_422 : decode cL_law 422 = .ok (.iaload, 1) := by decide +kernel
theorem dL_law_423 : decode cL_law 423 = .ok (.aload_n 0, 1) := by decide +kernel
theorem dL_law_424 : decode cL_law 424 = .ok (.iload_n 3, 1) := by decide +kernel
theorem dL_law_425 : decode cL_law 425 = .ok (.iconst 4, 1) := by decide +kernel
theorem dL_law_426 : decode cL_law 426 = .ok (.iadd, 1) := by decide +kernel
theorem dL_law_427 : decode cL_law 427 = .ok (.iaload, 1) := by decide +kernel
theorem dL_law_428 : decode cL_law 428 = .ok (.invokevirtual 46, 3) := by decide +kernel
theorem dL_law_431 : decode cL_law 431 = .ok (.if_icmp .eq 677, 3) := by decide +kernel
theorem dL_law_434 : decode cL_law 434 = .ok (.iconst 0, 1) := by decide +kernel
theorem dL_law_435 : decode cL_law 435 = .ok (.ireturn, 1) := by decide +kernel
theorem dL_law_436 : decode cL_law 436 = .ok (.aload_n 1, 1) := by decide +kernel
theorem dL_law_437 : decode cL_law 437 = .ok (.aload_n 0, 1) := by decide +kernel
theorem dL_law_438 : decode cL_law 438 = .ok (.iload_n 3, 1) := by decide +kernel
theorem dL_law_439 : decode cL_law 439 = .ok (.iconst 1, 1) := by decide +kernel
theorem dL_law_440 : decode cL_law 440 = .ok (.iadd, 1) := by decide +kernel
theorem dL_law_441 : decode cL_law 441 = .ok (.iaload, 1) := by decide +kernel
theorem dL_law_442 : decode cL_law 442 = .ok (.aload_n 0, 1) := by decide +kernel
theorem dL_law_443 : decode cL_law 443 = .ok (.iload_n 3, 1) := by decide +kernel
theorem dL_law_444 : decode cL_law 444 = .ok (.iconst 2, 1) := by decide +kernel
theorem dL_law_445 : decode cL_law 445 = .ok (.iadd, 1) := by decide +kernel
theorem dL_law_446 : decode cL_law 446 = .ok (.iaload, 1) := by decide +kernel
theorem dL_law_447 : decode cL_law 447 = .ok (.invokevirtual 47, 3) := by decide +kernel
theorem dL_law_450 : decode cL_law 450 = .ok (.aload_n 2, 1) := by decide +kernel
theorem dL_law_451 : decode cL_law 451 = .ok (.aload_n 0, 1) := by decide +kernel
theorem dL_law_452 : decode cL_law 452 = .ok (.iload_n 3, 1) := by decide +kernel
theorem dL_law_453 : decode cL_law 453 = .ok (.iconst 1, 1) := by decide +kernel
theorem dL_law_454 : decode cL_law 454 = .ok (.iadd, 1) := by decide +kernel
theorem dL_law_455 : decode cL_law 455 = .ok (.iaload, 1) := by decide +kernel
theorem dL_law_456 : decode cL_law 456 = .ok (.aload_n 0, 1) := by decide +kernel
theorem dL_law_457 : decode cL_law 457 = .ok (.iload_n 3, 1) := by decide +kernel
theorem dL_law_458 : decode cL_law 458 = .ok (.iconst 2, 1) := by decide +kernel
theorem dL_law_459 : decode cL_law 459 = .ok (.iadd, 1) := by decide +kernel
theorem dL_law_460 : decode cL_law 460 = .ok (.iaload, 1) := by decide +kernel
theorem dL_law_461 : decode cL_law 461 = .ok (.invokevirtual 51, 3) := by decide +kernel
theorem dL_law_464 : decode cL_law 464 = .ok (.if_icmp .eq 644, 3) := by decide +kernel
theorem dL_law_467 : decode cL_law 467 = .ok (.iconst 0, 1) := by decide +kernel
theorem dL_law_468 : decode cL_law 468 = .ok (.ireturn, 1) := by decide +kernel
theorem dL_law_469 : decode cL_law 469 = .ok (.aload_n 1, 1) := by decide +kernel
theorem dL_law_470 : decode cL_law 470 = .ok (.aload_n 0, 1) := by decide +kernel
theorem dL_law_471 : decode cL_law 471 = .ok (.iload_n 3, 1) := by decide +kernel
theorem dL_law_472 : decode cL_law 472 = .ok (.iconst 1, 1) := by decide +kernel
theorem dL_law_473 : decode cL_law 473 = .ok (.iadd, 1) := by decide +kernel
theorem dL_law_474 : decode cL_law 474 = .ok (.iaload, 1) := by decide +kernel
theorem dL_law_475 : decode cL_law 475 = .ok (.ifCond .eq 7, 3) := by decide +kernel
theorem dL_law_478 : decode cL_law 478 = .ok (.iconst 1, 1) := by decide +kernel
theorem dL_law_479 : decode cL_law 479 = .ok (.goto 4, 3) := by decide +kernel
theorem dL_law_482 : decode cL_law 482 = .ok (.iconst 0, 1) := by decide +kernel
theorem dL_law_483 : decode cL_law 483 = .ok (.aload_n 0, 1) := by decide +kernel
theorem dL_law_484 : decode cL_law 484 = .ok (.iload_n 3, 1) := by decide +kernel
theorem dL_law_485 : decode cL_law 485 = .ok (.iconst 2, 1) := by decide +kernel
theorem dL_law_486 : decode cL_law 486 = .ok (.iadd, 1) := by decide +kernel
theorem dL_law_487 : decode cL_law 487 = .ok (.iaload, 1) := by decide +kernel
theorem dL_law_488 : decode cL_law 488 = .ok (.aload_n 0, 1) := by decide +kernel
theorem dL_law_489 : decode cL_law 489 = .ok (.iload_n 3, 1) := by decide +kernel
theorem dL_law_490 : decode cL_law 490 = .ok (.iconst 3, 1) := by decide +kernel
theorem dL_law_491 : decode cL_law 491 = .ok (.iadd, 1) := by decide +kernel
theorem dL_law_492 : decode cL_law 492 = .ok (.iaload, 1) := by decide +kernel
theorem dL_law_493 : decode cL_law 493 = .ok (.i2l, 1) := by decide +kernel
theorem dL_law_494 : decode cL_law 494 = .ok (.bipush 32, 2) := by decide +kernel
theorem dL_law_496 : decode cL_law 496 = .ok (.lshl, 1) := by decide +kernel
theorem dL_law_497 : decode cL_law 497 = .ok (.aload_n 0, 1) := by decide +kernel
theorem dL_law_498 : decode cL_law 498 = .ok (.iload_n 3, 1) := by decide +kernel
theorem dL_law_499 : decode cL_law 499 = .ok (.iconst 4, 1) := by decide +kernel
theorem dL_law_500 : decode cL_law 500 = .ok (.iadd, 1) := by decide +kernel
theorem dL_law_501 : decode cL_law 501 = .ok (.iaload, 1) := by decide +kernel
theorem dL_law_502 : decode cL_law 502 = .ok (.i2l, 1) := by decide +kernel
theorem dL_law_503 : decode cL_law 503 = .ok (.ldc2_w 30, 3) := by decide +kernel
theorem dL_law_506 : decode cL_law 506 = .ok (.land, 1) := by decide +kernel
theorem dL_law_507 : decode cL_law 507 = .ok (.lor, 1) := by decide +kernel
theorem dL_law_508 : decode cL_law 508 = .ok (.aload_n 0, 1) := by decide +kernel
theorem dL_law_509 : decode cL_law 509 = .ok (.iload_n 3, 1) := by decide +kernel
theorem dL_law_510 : decode cL_law 510 = .ok (.iconst 5, 1) := by decide +kernel
theorem dL_law_511 : decode cL_law 511 = .ok (.iadd, 1) := by decide +kernel
theorem dL_law_512 : decode cL_law 512 = .ok (.iaload, 1) := by decide +kernel
theorem dL_law_513 : decode cL_law 513 = .ok (.aload_n 0, 1) := by decide +kernel
theorem dL_law_514 : decode cL_law 514 = .ok (.iload_n 3, 1) := by decide +kernel
theorem dL_law_515 : decode cL_law 515 = .ok (.bipush 6, 2) := by decide +kernel
theorem dL_law_517 : decode cL_law 517 = .ok (.iadd, 1) := by decide +kernel
theorem dL_law_518 : decode cL_law 518 = .ok (.iaload, 1) := by decide +kernel
theorem dL_law_519 : decode cL_law 519 = .ok (.aload_n 0, 1) := by decide +kernel
theorem dL_law_520 : decode cL_law 520 = .ok (.iload_n 3, 1) := by decide +kernel
theorem dL_law_521 : decode cL_law 521 = .ok (.bipush 7, 2) := by decide +kernel
theorem dL_law_523 : decode cL_law 523 = .ok (.iadd, 1) := by decide +kernel
theorem dL_law_524 : decode cL_law 524 = .ok (.iaload, 1) := by decide +kernel
theorem dL_law_525 : decode cL_law 525 = .ok (.invokevirtual 52, 3) := by decide +kernel
theorem dL_law_528 : decode cL_law 528 = .ok (.aload_n 2, 1) := by decide +kernel
theorem dL_law_529 : decode cL_law 529 = .ok (.aload_n 0, 1) := by decide +kernel
theorem dL_law_530 : decode cL_law 530 = .ok (.iload_n 3, 1) := by decide +kernel
theorem dL_law_531 : decode cL_law 531 = .ok (.iconst 1, 1) := by decide +kernel
theorem dL_law_532 : decode cL_law 532 = .ok (.iadd, 1) := by decide +kernel
theorem dL_law_533 : decode cL_law 533 = .ok (.iaload, 1) := by decide +kernel
theorem dL_law_534 : decode cL_law 534 = .ok (.ifCond .eq 7, 3) := by decide +kernel
theorem dL_law_537 : decode cL_law 537 = .ok (.iconst 1, 1) := by decide +kernel
theorem dL_law_538 : decode cL_law 538 = .ok (.goto 4, 3) := by decide +kernel
theorem dL_law_541 : decode cL_law 541 = .ok (.iconst 0, 1) := by decide +kernel
theorem dL_law_542 : decode cL_law 542 = .ok (.aload_n 0, 1) := by decide +kernel
theorem dL_law_543 : decode cL_law 543 = .ok (.iload_n 3, 1) := by decide +kernel
theorem dL_law_544 : decode cL_law 544 = .ok (.iconst 2, 1) := by decide +kernel
theorem dL_law_545 : decode cL_law 545 = .ok (.iadd, 1) := by decide +kernel
theorem dL_law_546 : decode cL_law 546 = .ok (.iaload, 1) := by decide +kernel
theorem dL_law_547 : decode cL_law 547 = .ok (.aload_n 0, 1) := by decide +kernel
theorem dL_law_548 : decode cL_law 548 = .ok (.iload_n 3, 1) := by decide +kernel
theorem dL_law_549 : decode cL_law 549 = .ok (.iconst 3, 1) := by decide +kernel
theorem dL_law_550 : decode cL_law 550 = .ok (.iadd, 1) := by decide +kernel
theorem dL_law_551 : decode cL_law 551 = .ok (.iaload, 1) := by decide +kernel
theorem dL_law_552 : decode cL_law 552 = .ok (.i2l, 1) := by decide +kernel
theorem dL_law_553 : decode cL_law 553 = .ok (.bipush 32, 2) := by decide +kernel
theorem dL_law_555 : decode cL_law 555 = .ok (.lshl, 1) := by decide +kernel
theorem dL_law_556 : decode cL_law 556 = .ok (.aload_n 0, 1) := by decide +kernel
theorem dL_law_557 : decode cL_law 557 = .ok (.iload_n 3, 1) := by decide +kernel
theorem dL_law_558 : decode cL_law 558 = .ok (.iconst 4, 1) := by decide +kernel
theorem dL_law_559 : decode cL_law 559 = .ok (.iadd, 1) := by decide +kernel
theorem dL_law_560 : decode cL_law 560 = .ok (.iaload, 1) := by decide +kernel
theorem dL_law_561 : decode cL_law 561 = .ok (.i2l, 1) := by decide +kernel
theorem dL_law_562 : decode cL_law 562 = .ok (.ldc2_w 30, 3) := by decide +kernel
theorem dL_law_565 : decode cL_law 565 = .ok (.land, 1) := by decide +kernel
theorem dL_law_566 : decode cL_law 566 = .ok (.lor, 1) := by decide +kernel
theorem dL_law_567 : decode cL_law 567 = .ok (.aload_n 0, 1) := by decide +kernel
theorem dL_law_568 : decode cL_law 568 = .ok (.iload_n 3, 1) := by decide +kernel
theorem dL_law_569 : decode cL_law 569 = .ok (.iconst 5, 1) := by decide +kernel
theorem dL_law_570 : decode cL_law 570 = .ok (.iadd, 1) := by decide +kernel
theorem dL_law_571 : decode cL_law 571 = .ok (.iaload, 1) := by decide +kernel
theorem dL_law_572 : decode cL_law 572 = .ok (.aload_n 0, 1) := by decide +kernel
theorem dL_law_573 : decode cL_law 573 = .ok (.iload_n 3, 1) := by decide +kernel
theorem dL_law_574 : decode cL_law 574 = .ok (.bipush 6, 2) := by decide +kernel
theorem dL_law_576 : decode cL_law 576 = .ok (.iadd, 1) := by decide +kernel
theorem dL_law_577 : decode cL_law 577 = .ok (.iaload, 1) := by decide +kernel
theorem dL_law_578 : decode cL_law 578 = .ok (.aload_n 0, 1) := by decide +kernel
theorem dL_law_579 : decode cL_law 579 = .ok (.iload_n 3, 1) := by decide +kernel
theorem dL_law_580 : decode cL_law 580 = .ok (.bipush 7, 2) := by decide +kernel
theorem dL_law_582 : decode cL_law 582 = .ok (.iadd, 1) := by decide +kernel
theorem dL_law_583 : decode cL_law 583 = .ok (.iaload, 1) := by decide +kernel
theorem dL_law_584 : decode cL_law 584 = .ok (.invokevirtual 56, 3) := by decide +kernel
theorem dL_law_587 : decode cL_law 587 = .ok (.if_icmp .eq 521, 3) := by decide +kernel
theorem dL_law_590 : decode cL_law 590 = .ok (.iconst 0, 1) := by decide +kernel
theorem dL_law_591 : decode cL_law 591 = .ok (.ireturn, 1) := by decide +kernel
theorem dL_law_592 : decode cL_law 592 = .ok (.aload_n 1, 1) := by decide +kernel
theorem dL_law_593 : decode cL_law 593 = .ok (.aload_n 0, 1) := by decide +kernel
theorem dL_law_594 : decode cL_law 594 = .ok (.iload_n 3, 1) := by decide +kernel
theorem dL_law_595 : decode cL_law 595 = .ok (.iconst 1, 1) := by decide +kernel
theorem dL_law_596 : decode cL_law 596 = .ok (.iadd, 1) := by decide +kernel
theorem dL_law_597 : decode cL_law 597 = .ok (.iaload, 1) := by decide +kernel
theorem dL_law_598 : decode cL_law 598 = .ok (.ifCond .eq 7, 3) := by decide +kernel
theorem dL_law_601 : decode cL_law 601 = .ok (.iconst 1, 1) := by decide +kernel
theorem dL_law_602 : decode cL_law 602 = .ok (.goto 4, 3) := by decide +kernel
theorem dL_law_605 : decode cL_law 605 = .ok (.iconst 0, 1) := by decide +kernel
theorem dL_law_606 : decode cL_law 606 = .ok (.aload_n 0, 1) := by decide +kernel
theorem dL_law_607 : decode cL_law 607 = .ok (.iload_n 3, 1) := by decide +kernel
theorem dL_law_608 : decode cL_law 608 = .ok (.iconst 2, 1) := by decide +kernel
theorem dL_law_609 : decode cL_law 609 = .ok (.iadd, 1) := by decide +kernel
theorem dL_law_610 : decode cL_law 610 = .ok (.iaload, 1) := by decide +kernel
theorem dL_law_611 : decode cL_law 611 = .ok (.aload_n 0, 1) := by decide +kernel
theorem dL_law_612 : decode cL_law 612 = .ok (.iload_n 3, 1) := by decide +kernel
theorem dL_law_613 : decode cL_law 613 = .ok (.iconst 3, 1) := by decide +kernel
theorem dL_law_614 : decode cL_law 614 = .ok (.iadd, 1) := by decide +kernel
theorem dL_law_615 : decode cL_law 615 = .ok (.iaload, 1) := by decide +kernel
theorem dL_law_616 : decode cL_law 616 = .ok (.aload_n 0, 1) := by decide +kernel
theorem dL_law_617 : decode cL_law 617 = .ok (.iload_n 3, 1) := by decide +kernel
theorem dL_law_618 : decode cL_law 618 = .ok (.iconst 4, 1) := by decide +kernel
theorem dL_law_619 : decode cL_law 619 = .ok (.iadd, 1) := by decide +kernel
theorem dL_law_620 : decode cL_law 620 = .ok (.iaload, 1) := by decide +kernel
theorem dL_law_621 : decode cL_law 621 = .ok (.aload_n 0, 1) := by decide +kernel
theorem dL_law_622 : decode cL_law 622 = .ok (.iload_n 3, 1) := by decide +kernel
theorem dL_law_623 : decode cL_law 623 = .ok (.iconst 5, 1) := by decide +kernel
theorem dL_law_624 : decode cL_law 624 = .ok (.iadd, 1) := by decide +kernel
theorem dL_law_625 : decode cL_law 625 = .ok (.iaload, 1) := by decide +kernel
theorem dL_law_626 : decode cL_law 626 = .ok (.invokevirtual 57, 3) := by decide +kernel
theorem dL_law_629 : decode cL_law 629 = .ok (.aload_n 2, 1) := by decide +kernel
theorem dL_law_630 : decode cL_law 630 = .ok (.aload_n 0, 1) := by decide +kernel
theorem dL_law_631 : decode cL_law 631 = .ok (.iload_n 3, 1) := by decide +kernel
theorem dL_law_632 : decode cL_law 632 = .ok (.iconst 1, 1) := by decide +kernel
theorem dL_law_633 : decode cL_law 633 = .ok (.iadd, 1) := by decide +kernel
theorem dL_law_634 : decode cL_law 634 = .ok (.iaload, 1) := by decide +kernel
theorem dL_law_635 : decode cL_law 635 = .ok (.ifCond .eq 7, 3) := by decide +kernel
theorem dL_law_638 : decode cL_law 638 = .ok (.iconst 1, 1) := by decide +kernel
theorem dL_law_639 : decode cL_law 639 = .ok (.goto 4, 3) := by decide +kernel
theorem dL_law_642 : decode cL_law 642 = .ok (.iconst 0, 1) := by decide +kernel
theorem dL_law_643 : decode cL_law 643 = .ok (.aload_n 0, 1) := by decide +kernel
theorem dL_law_644 : decode cL_law 644 = .ok (.iload_n 3, 1) := by decide +kernel
theorem dL_law_645 : decode cL_law 645 = .ok (.iconst 2, 1) := by decide +kernel
theorem dL_law_646 : decode cL_law 646 = .ok (.iadd, 1) := by decide +kernel
theorem dL_law_647 : decode cL_law 647 = .ok (.iaload, 1) := by decide +kernel
theorem dL_law_648 : decode cL_law 648 = .ok (.aload_n 0, 1) := by decide +kernel
theorem dL_law_649 : decode cL_law 649 = .ok (.iload_n 3, 1) := by decide +kernel
theorem dL_law_650 : decode cL_law 650 = .ok (.iconst 3, 1) := by decide +kernel
theorem dL_law_651 : decode cL_law 651 = .ok (.iadd, 1) := by decide +kernel
theorem dL_law_652 : decode cL_law 652 = .ok (.iaload, 1) := by decide +kernel
theorem dL_law_653 : decode cL_law 653 = .ok (.aload_n 0, 1) := by decide +kernel
theorem dL_law_654 : decode cL_law 654 = .ok (.iload_n 3, 1) := by decide +kernel
theorem dL_law_655 : decode cL_law 655 = .ok (.iconst 4, 1) := by decide +kernel
theorem dL_law_656 : decode cL_law 656 = .ok (.iadd, 1) := by decide +kernel
theorem dL_law_657 : decode cL_law 657 = .ok (.iaload, 1) := by decide +kernel
theorem dL_law_658 : decode cL_law 658 = .ok (.aload_n 0, 1) := by decide +kernel
theorem dL_law_659 : decode cL_law 659 = .ok (.iload_n 3, 1) := by decide +kernel
theorem dL_law_660 : decode cL_law 660 = .ok (.iconst 5, 1) := by decide +kernel
theorem dL_law_661 : decode cL_law 661 = .ok (.iadd, 1) := by decide +kernel
theorem dL_law_662 : decode cL_law 662 = .ok (.iaload, 1) := by decide +kernel
theorem dL_law_663 : decode cL_law 663 = .ok (.invokevirtual 61, 3) := by decide +kernel
theorem dL_law_666 : decode cL_law 666 = .ok (.if_icmp .eq 442, 3) := by decide +kernel
theorem dL_law_669 : decode cL_law 669 = .ok (.iconst 0, 1) := by decide +kernel
theorem dL_law_670 : decode cL_law 670 = .ok (.ireturn, 1) := by decide +kernel
theorem dL_law_671 : decode cL_law 671 = .ok (.aload_n 1, 1) := by decide +kernel
theorem dL_law_672 : decode cL_law 672 = .ok (.aload_n 0, 1) := by decide +kernel
theorem dL_law_673 : decode cL_law 673 = .ok (.iload_n 3, 1) := by decide +kernel
theorem dL_law_674 : decode cL_law 674 = .ok (.iconst 1, 1) := by decide +kernel
theorem dL_law_675 : decode cL_law 675 = .ok (.iadd, 1) := by decide +kernel
theorem dL_law_676 : decode cL_law 676 = .ok (.iaload, 1) := by decide +kernel
theorem dL_law_677 : decode cL_law 677 = .ok (.aload_n 0, 1) := by decide +kernel
theorem dL_law_678 : decode cL_law 678 = .ok (.iload_n 3, 1) := by decide +kernel
theorem dL_law_679 : decode cL_law 679 = .ok (.iconst 2, 1) := by decide +kernel
theorem dL_law_680 : decode cL_law 680 = .ok (.iadd, 1) := by decide +kernel
theorem dL_law_681 : decode cL_law 681 = .ok (.iaload, 1) := by decide +kernel
theorem dL_law_682 : decode cL_law 682 = .ok (.aload_n 0, 1) := by decide +kernel
theorem dL_law_683 : decode cL_law 683 = .ok (.iload_n 3, 1) := by decide +kernel
theorem dL_law_684 : decode cL_law 684 = .ok (.iconst 3, 1) := by decide +kernel
theorem dL_law_685 : decode cL_law 685 = .ok (.iadd, 1) := by decide +kernel
theorem dL_law_686 : decode cL_law 686 = .ok (.iaload, 1) := by decide +kernel
theorem dL_law_687 : decode cL_law 687 = .ok (.aload_n 0, 1) := by decide +kernel
theorem dL_law_688 : decode cL_law 688 = .ok (.iload_n 3, 1) := by decide +kernel
theorem dL_law_689 : decode cL_law 689 = .ok (.iconst 4, 1) := by decide +kernel
theorem dL_law_690 : decode cL_law 690 = .ok (.iadd, 1) := by decide +kernel
theorem dL_law_691 : decode cL_law 691 = .ok (.iaload, 1) := by decide +kernel
theorem dL_law_692 : decode cL_law 692 = .ok (.i2l, 1) := by decide +kernel
theorem dL_law_693 : decode cL_law 693 = .ok (.bipush 32, 2) := by decide +kernel
theorem dL_law_695 : decode cL_law 695 = .ok (.lshl, 1) := by decide +kernel
theorem dL_law_696 : decode cL_law 696 = .ok (.aload_n 0, 1) := by decide +kernel
theorem dL_law_697 : decode cL_law 697 = .ok (.iload_n 3, 1) := by decide +kernel
theorem dL_law_698 : decode cL_law 698 = .ok (.iconst 5, 1) := by decide +kernel
theorem dL_law_699 : decode cL_law 699 = .ok (.iadd, 1) := by decide +kernel
theorem dL_law_700 : decode cL_law 700 = .ok (.iaload, 1) := by decide +kernel
theorem dL_law_701 : decode cL_law 701 = .ok (.i2l, 1) := by decide +kernel
theorem dL_law_702 : decode cL_law 702 = .ok (.ldc2_w 30, 3) := by decide +kernel
theorem dL_law_705 : decode cL_law 705 = .ok (.land, 1) := by decide +kernel
theorem dL_law_706 : decode cL_law 706 = .ok (.lor, 1) := by decide +kernel
theorem dL_law_707 : decode cL_law 707 = .ok (.invokevirtual 62, 3) := by decide +kernel
theorem dL_law_710 : decode cL_law 710 = .ok (.aload_n 2, 1) := by decide +kernel
theorem dL_law_711 : decode cL_law 711 = .ok (.aload_n 0, 1) := by decide +kernel
theorem dL_law_712 : decode cL_law 712 = .ok (.iload_n 3, 1) := by decide +kernel
theorem dL_law_713 : decode cL_law 713 = .ok (.iconst 1, 1) := by decide +kernel
theorem dL_law_714 : decode cL_law 714 = .ok (.iadd, 1) := by decide +kernel
theorem dL_law_715 : decode cL_law 715 = .ok (.iaload, 1) := by decide +kernel
theorem dL_law_716 : decode cL_law 716 = .ok (.aload_n 0, 1) := by decide +kernel
theorem dL_law_717 : decode cL_law 717 = .ok (.iload_n 3, 1) := by decide +kernel
theorem dL_law_718 : decode cL_law 718 = .ok (.iconst 2, 1) := by decide +kernel
theorem dL_law_719 : decode cL_law 719 = .ok (.iadd, 1) := by decide +kernel
theorem dL_law_720 : decode cL_law 720 = .ok (.iaload, 1) := by decide +kernel
theorem dL_law_721 : decode cL_law 721 = .ok (.aload_n 0, 1) := by decide +kernel
theorem dL_law_722 : decode cL_law 722 = .ok (.iload_n 3, 1) := by decide +kernel
theorem dL_law_723 : decode cL_law 723 = .ok (.iconst 3, 1) := by decide +kernel
theorem dL_law_724 : decode cL_law 724 = .ok (.iadd, 1) := by decide +kernel
theorem dL_law_725 : decode cL_law 725 = .ok (.iaload, 1) := by decide +kernel
theorem dL_law_726 : decode cL_law 726 = .ok (.aload_n 0, 1) := by decide +kernel
theorem dL_law_727 : decode cL_law 727 = .ok (.iload_n 3, 1) := by decide +kernel
theorem dL_law_728 : decode cL_law 728 = .ok (.iconst 4, 1) := by decide +kernel
theorem dL_law_729 : decode cL_law 729 = .ok (.iadd, 1) := by decide +kernel
theorem dL_law_730 : decode cL_law 730 = .ok (.iaload, 1) := by decide +kernel
theorem dL_law_731 : decode cL_law 731 = .ok (.i2l, 1) := by decide +kernel
theorem dL_law_732 : decode cL_law 732 = .ok (.bipush 32, 2) := by decide +kernel
theorem dL_law_734 : decode cL_law 734 = .ok (.lshl, 1) := by decide +kernel
theorem dL_law_735 : decode cL_law 735 = .ok (.aload_n 0, 1) := by decide +kernel
theorem dL_law_736 : decode cL_law 736 = .ok (.iload_n 3, 1) := by decide +kernel
theorem dL_law_737 : decode cL_law 737 = .ok (.iconst 5, 1) := by decide +kernel
theorem dL_law_738 : decode cL_law 738 = .ok (.iadd, 1) := by decide +kernel
theorem dL_law_739 : decode cL_law 739 = .ok (.iaload, 1) := by decide +kernel
theorem dL_law_740 : decode cL_law 740 = .ok (.i2l, 1) := by decide +kernel
theorem dL_law_741 : decode cL_law 741 = .ok (.ldc2_w 30, 3) := by decide +kernel
theorem dL_law_744 : decode cL_law 744 = .ok (.land, 1) := by decide +kernel
theorem dL_law_745 : decode cL_law 745 = .ok (.lor, 1) := by decide +kernel
theorem dL_law_746 : decode cL_law 746 = .ok (.invokevirtual 65, 3) := by decide +kernel
theorem dL_law_749 : decode cL_law 749 = .ok (.if_icmp .eq 359, 3) := by decide +kernel
theorem dL_law_752 : decode cL_law 752 = .ok (.iconst 0, 1) := by decide +kernel
theorem dL_law_753 : decode cL_law 753 = .ok (.ireturn, 1) := by decide +kernel
theorem dL_law_754 : decode cL_law 754 = .ok (.aload_n 1, 1) := by decide +kernel
theorem dL_law_755 : decode cL_law 755 = .ok (.aload_n 0, 1) := by decide +kernel
theorem dL_law_756 : decode cL_law 756 = .ok (.iload_n 3, 1) := by decide +kernel
theorem dL_law_757 : decode cL_law 757 = .ok (.iconst 1, 1) := by decide +kernel
theorem dL_law_758 : decode cL_law 758 = .ok (.iadd, 1) := by decide +kernel
theorem dL_law_759 : decode cL_law 759 = .ok (.iaload, 1) := by decide +kernel
theorem dL_law_760 : decode cL_law 760 = .ok (.aload_n 0, 1) := by decide +kernel
theorem dL_law_761 : decode cL_law 761 = .ok (.iload_n 3, 1) := by decide +kernel
theorem dL_law_762 : decode cL_law 762 = .ok (.iconst 2, 1) := by decide +kernel
theorem dL_law_763 : decode cL_law 763 = .ok (.iadd, 1) := by decide +kernel
theorem dL_law_764 : decode cL_law 764 = .ok (.iaload, 1) := by decide +kernel
theorem dL_law_765 : decode cL_law 765 = .ok (.aload_n 0, 1) := by decide +kernel
theorem dL_law_766 : decode cL_law 766 = .ok (.iload_n 3, 1) := by decide +kernel
theorem dL_law_767 : decode cL_law 767 = .ok (.iconst 3, 1) := by decide +kernel
theorem dL_law_768 : decode cL_law 768 = .ok (.iadd, 1) := by decide +kernel
theorem dL_law_769 : decode cL_law 769 = .ok (.iaload, 1) := by decide +kernel
theorem dL_law_770 : decode cL_law 770 = .ok (.aload_n 0, 1) := by decide +kernel
theorem dL_law_771 : decode cL_law 771 = .ok (.iload_n 3, 1) := by decide +kernel
theorem dL_law_772 : decode cL_law 772 = .ok (.iconst 4, 1) := by decide +kernel
theorem dL_law_773 : decode cL_law 773 = .ok (.iadd, 1) := by decide +kernel
theorem dL_law_774 : decode cL_law 774 = .ok (.iaload, 1) := by decide +kernel
theorem dL_law_775 : decode cL_law 775 = .ok (.aload_n 0, 1) := by decide +kernel
theorem dL_law_776 : decode cL_law 776 = .ok (.iload_n 3, 1) := by decide +kernel
theorem dL_law_777 : decode cL_law 777 = .ok (.iconst 5, 1) := by decide +kernel
theorem dL_law_778 : decode cL_law 778 = .ok (.iadd, 1) := by decide +kernel
theorem dL_law_779 : decode cL_law 779 = .ok (.iaload, 1) := by decide +kernel
theorem dL_law_780 : decode cL_law 780 = .ok (.invokevirtual 66, 3) := by decide +kernel
theorem dL_law_783 : decode cL_law 783 = .ok (.aload_n 2, 1) := by decide +kernel
theorem dL_law_784 : decode cL_law 784 = .ok (.aload_n 0, 1) := by decide +kernel
theorem dL_law_785 : decode cL_law 785 = .ok (.iload_n 3, 1) := by decide +kernel
theorem dL_law_786 : decode cL_law 786 = .ok (.iconst 1, 1) := by decide +kernel
theorem dL_law_787 : decode cL_law 787 = .ok (.iadd, 1) := by decide +kernel
theorem dL_law_788 : decode cL_law 788 = .ok (.iaload, 1) := by decide +kernel
theorem dL_law_789 : decode cL_law 789 = .ok (.aload_n 0, 1) := by decide +kernel
theorem dL_law_790 : decode cL_law 790 = .ok (.iload_n 3, 1) := by decide +kernel
theorem dL_law_791 : decode cL_law 791 = .ok (.iconst 2, 1) := by decide +kernel
theorem dL_law_792 : decode cL_law 792 = .ok (.iadd, 1) := by decide +kernel
theorem dL_law_793 : decode cL_law 793 = .ok (.iaload, 1) := by decide +kernel
theorem dL_law_794 : decode cL_law 794 = .ok (.aload_n 0, 1) := by decide +kernel
theorem dL_law_795 : decode cL_law 795 = .ok (.iload_n 3, 1) := by decide +kernel
theorem dL_law_796 : decode cL_law 796 = .ok (.iconst 3, 1) := by decide +kernel
theorem dL_law_797 : decode cL_law 797 = .ok (.iadd, 1) := by decide +kernel
theorem dL_law_798 : decode cL_law 798 = .ok (.iaload, 1) := by decide +kernel
theorem dL_law_799 : decode cL_law 799 = .ok (.aload_n 0, 1) := by decide +kernel
theorem dL_law_800 : decode cL_law 800 = .ok (.iload_n 3, 1) := by decide +kernel
theorem dL_law_801 : decode cL_law 801 = .ok (.iconst 4, 1) := by decide +kernel
theorem dL_law_802 : decode cL_law 802 = .ok (.iadd, 1) := by decide +kernel
theorem dL_law_803 : decode cL_law 803 = .ok (.iaload, 1) := by decide +kernel
theorem dL_law_804 : decode cL_law 804 = .ok (.aload_n 0, 1) := by decide +kernel
theorem dL_law_805 : decode cL_law 805 = .ok (.iload_n 3, 1) := by decide +kernel
theorem dL_law_806 : decode cL_law 806 = .ok (.iconst 5, 1) := by decide +kernel
theorem dL_law_807 : decode cL_law 807 = .ok (.iadd, 1) := by decide +kernel
theorem dL_law_808 : decode cL_law 808 = .ok (.iaload, 1) := by decide +kernel
theorem dL_law_809 : decode cL_law 809 = .ok (.invokevirtual 70, 3) := by decide +kernel
theorem dL_law_812 : decode cL_law 812 = .ok (.if_icmp .eq 296, 3) := by decide +kernel
theorem dL_law_815 : decode cL_law 815 = .ok (.iconst 0, 1) := by decide +kernel
theorem dL_law_816 : decode cL_law 816 = .ok (.ireturn, 1) := by decide +kernel
theorem dL_law_817 : decode cL_law 817 = .ok (.aload_n 1, 1) := by decide +kernel
theorem dL_law_818 : decode cL_law 818 = .ok (.aload_n 0, 1) := by decide +kernel
theorem dL_law_819 : decode cL_law 819 = .ok (.iload_n 3, 1) := by decide +kernel
theorem dL_law_820 : decode cL_law 820 = .ok (.iconst 1, 1) := by decide +kernel
theorem dL_law_821 : decode cL_law 821 = .ok (.iadd, 1) := by decide +kernel
theorem dL_law_822 : decode cL_law 822 = .ok (.iaload, 1) := by decide +kernel
theorem dL_law_823 : decode cL_law 823 = .ok (.invokevirtual 71, 3) := by decide +kernel
theorem dL_law_826 : decode cL_law 826 = .ok (.aload_n 2, 1) := by decide +kernel
theorem dL_law_827 : decode cL_law 827 = .ok (.aload_n 0, 1) := by decide +kernel
theorem dL_law_828 : decode cL_law 828 = .ok (.iload_n 3, 1) := by decide +kernel
theorem dL_law_829 : decode cL_law 829 = .ok (.iconst 1, 1) := by decide +kernel
theorem dL_law_830 : decode cL_law 830 = .ok (.iadd, 1) := by decide +kernel
theorem dL_law_831 : decode cL_law 831 = .ok (.iaload, 1) := by decide +kernel
theorem dL_law_832 : decode cL_law 832 = .ok (.invokevirtual 75, 3) := by decide +kernel
theorem dL_law_835 : decode cL_law 835 = .ok (.if_icmp .eq 273, 3) := by decide +kernel
theorem dL_law_838 : decode cL_law 838 = .ok (.iconst 0, 1) := by decide +kernel
theorem dL_law_839 : decode cL_law 839 = .ok (.ireturn, 1) := by decide +kernel
theorem dL_law_840 : decode cL_law 840 = .ok (.aload_n 1, 1) := by decide +kernel
theorem dL_law_841 : decode cL_law 841 = .ok (.aload_n 0, 1) := by decide +kernel
theorem dL_law_842 : decode cL_law 842 = .ok (.iload_n 3, 1) := by decide +kernel
theorem dL_law_843 : decode cL_law 843 = .ok (.iconst 1, 1) := by decide +kernel
theorem dL_law_844 : decode cL_law 844 = .ok (.iadd, 1) := by decide +kernel
theorem dL_law_845 : decode cL_law 845 = .ok (.iaload, 1) := by decide +kernel
theorem dL_law_846 : decode cL_law 846 = .ok (.invokevirtual 76, 3) := by decide +kernel
theorem dL_law_849 : decode cL_law 849 = .ok (.aload_n 2, 1) := by decide +kernel
theorem dL_law_850 : decode cL_law 850 = .ok (.aload_n 0, 1) := by decide +kernel
theorem dL_law_851 : decode cL_law 851 = .ok (.iload_n 3, 1) := by decide +kernel
theorem dL_law_852 : decode cL_law 852 = .ok (.iconst 1, 1) := by decide +kernel
theorem dL_law_853 : decode cL_law 853 = .ok (.iadd, 1) := by decide +kernel
theorem dL_law_854 : decode cL_law 854 = .ok (.iaload, 1) := by decide +kernel
theorem dL_law_855 : decode cL_law 855 = .ok (.invokevirtual 79, 3) := by decide +kernel
theorem dL_law_858 : decode cL_law 858 = .ok (.if_icmp .eq 250, 3) := by decide +kernel
theorem dL_law_861 : decode cL_law 861 = .ok (.iconst 0, 1) := by decide +kernel
theorem dL_law_862 : decode cL_law 862 = .ok (.ireturn, 1) := by decide +kernel
theorem dL_law_863 : decode cL_law 863 = .ok (.aload_n 1, 1) := by decide +kernel
theorem dL_law_864 : decode cL_law 864 = .ok (.aload_n 0, 1) := by decide +kernel
theorem dL_law_865 : decode cL_law 865 = .ok (.iload_n 3, 1) := by decide +kernel
theorem dL_law_866 : decode cL_law 866 = .ok (.iconst 1, 1) := by decide +kernel
theorem dL_law_867 : decode cL_law 867 = .ok (.iadd, 1) := by decide +kernel
theorem dL_law_868 : decode cL_law 868 = .ok (.iaload, 1) := by decide +kernel
theorem dL_law_869 : decode cL_law 869 = .ok (.invokevirtual 80, 3) := by decide +kernel
theorem dL_law_872 : decode cL_law 872 = .ok (.aload_n 2, 1) := by decide +kernel
theorem dL_law_873 : decode cL_law 873 = .ok (.aload_n 0, 1) := by decide +kernel
theorem dL_law_874 : decode cL_law 874 = .ok (.iload_n 3, 1) := by decide +kernel
theorem dL_law_875 : decode cL_law 875 = .ok (.iconst 1, 1) := by decide +kernel
theorem dL_law_876 : decode cL_law 876 = .ok (.iadd, 1) := by decide +kernel
theorem dL_law_877 : decode cL_law 877 = .ok (.iaload, 1) := by decide +kernel
theorem dL_law_878 : decode cL_law 878 = .ok (.invokevirtual 83, 3) := by decide +kernel
theorem dL_law_881 : decode cL_law 881 = .ok (.if_icmp .eq 227, 3) := by decide +kernel
theorem dL_law_884 : decode cL_law 884 = .ok (.iconst 0, 1) := by decide +kernel
theorem dL_law_885 : decode cL_law 885 = .ok (.ireturn, 1) := by decide +kernel
theorem dL_law_886 : decode cL_law 886 = .ok (.aload_n 1, 1) := by decide +kernel
theorem dL_law_887 : decode cL_law 887 = .ok (.invokevirtual 84, 3) := by decide +kernel
theorem dL_law_890 : decode cL_law 890 = .ok (.aload_n 2, 1) := by decide +kernel
theorem dL_law_891 : decode cL_law 891 = .ok (.invokevirtual 88, 3) := by decide +kernel
theorem dL_law_894 : decode cL_law 894 = .ok (.if_icmp .eq 214, 3) := by decide +kernel
theorem dL_law_897 : decode cL_law 897 = .ok (.iconst 0, 1) := by decide +kernel
theorem dL_law_898 : decode cL_law 898 = .ok (.ireturn, 1) := by decide +kernel
theorem dL_law_899 : decode cL_law 899 = .ok (.aload_n 1, 1) := by decide +kernel
theorem dL_law_900 : decode cL_law 900 = .ok (.invokevirtual 89, 3) := by decide +kernel
theorem dL_law_903 : decode cL_law 903 = .ok (.aload_n 2, 1) := by decide +kernel
theorem dL_law_904 : decode cL_law 904 = .ok (.invokevirtual 92, 3) := by decide +kernel
theorem dL_law_907 : decode cL_law 907 = .ok (.if_icmp .eq 201, 3) := by decide +kernel
theorem dL_law_910 : decode cL_law 910 = .ok (.iconst 0, 1) := by decide +kernel
theorem dL_law_911 : decode cL_law 911 = .ok (.ireturn, 1) := by decide +kernel
theorem dL_law_912 : decode cL_law 912 = .ok (.aload_n 1, 1) := by decide +kernel
theorem dL_law_913 : decode cL_law 913 = .ok (.invokevirtual 93, 3) := by decide +kernel
theorem dL_law_916 : decode cL_law 916 = .ok (.aload_n 2, 1) := by decide +kernel
theorem dL_law_917 : decode cL_law 917 = .ok (.invokevirtual 96, 3) := by decide +kernel
theorem dL_law_920 : decode cL_law 920 = .ok (.if_icmp .eq 188, 3) := by decide +kernel
theorem dL_law_923 : decode cL_law 923 = .ok (.iconst 0, 1) := by decide +kernel
theorem dL_law_924 : decode cL_law 924 = .ok (.ireturn, 1) := by decide +kernel
theorem dL_law_925 : decode cL_law 925 = .ok (.aload_n 1, 1) := by decide +kernel
theorem dL_law_926 : decode cL_law 926 = .ok (.aload_n 0, 1) := by decide +kernel
theorem dL_law_927 : decode cL_law 927 = .ok (.iload_n 3, 1) := by decide +kernel
theorem dL_law_928 : decode cL_law 928 = .ok (.iconst 1, 1) := by decide +kernel
theorem dL_law_929 : decode cL_law 929 = .ok (.iadd, 1) := by decide +kernel
theorem dL_law_930 : decode cL_law 930 = .ok (.iaload, 1) := by decide +kernel
theorem dL_law_931 : decode cL_law 931 = .ok (.invokevirtual 97, 3) := by decide +kernel
theorem dL_law_934 : decode cL_law 934 = .ok (.aload_n 2, 1) := by decide +kernel
theorem dL_law_935 : decode cL_law 935 = .ok (.aload_n 0, 1) := by decide +kernel
theorem dL_law_936 : decode cL_law 936 = .ok (.iload_n 3, 1) := by decide +kernel
theorem dL_law_937 : decode cL_law 937 = .ok (.iconst 1, 1) := by decide +kernel
theorem dL_law_938 : decode cL_law 938 = .ok (.iadd, 1) := by decide +kernel
theorem dL_law_939 : decode cL_law 939 = .ok (.iaload, 1) := by decide +kernel
theorem dL_law_940 : decode cL_law 940 = .ok (.invokevirtual 101, 3) := by decide +kernel
theorem dL_law_943 : decode cL_law 943 = .ok (.lcmp, 1) := by decide +kernel
theorem dL_law_944 : decode cL_law 944 = .ok (.ifCond .eq 164, 3) := by decide +kernel
theorem dL_law_947 : decode cL_law 947 = .ok (.iconst 0, 1) := by decide +kernel
theorem dL_law_948 : decode cL_law 948 = .ok (.ireturn, 1) := by decide +kernel
theorem dL_law_949 : decode cL_law 949 = .ok (.aload_n 1, 1) := by decide +kernel
theorem dL_law_950 : decode cL_law 950 = .ok (.aload_n 0, 1) := by decide +kernel
theorem dL_law_951 : decode cL_law 951 = .ok (.iload_n 3, 1) := by decide +kernel
theorem dL_law_952 : decode cL_law 952 = .ok (.iconst 1, 1) := by decide +kernel
theorem dL_law_953 : decode cL_law 953 = .ok (.iadd, 1) := by decide +kernel
theorem dL_law_954 : decode cL_law 954 = .ok (.iaload, 1) := by decide +kernel
theorem dL_law_955 : decode cL_law 955 = .ok (.aload_n 0, 1) := by decide +kernel
theorem dL_law_956 : decode cL_law 956 = .ok (.iload_n 3, 1) := by decide +kernel
theorem dL_law_957 : decode cL_law 957 = .ok (.iconst 2, 1) := by decide +kernel
theorem dL_law_958 : decode cL_law 958 = .ok (.iadd, 1) := by decide +kernel
theorem dL_law_959 : decode cL_law 959 = .ok (.iaload, 1) := by decide +kernel
theorem dL_law_960 : decode cL_law 960 = .ok (.invokevirtual 102, 3) := by decide +kernel
theorem dL_law_963 : decode cL_law 963 = .ok (.aload_n 2, 1) := by decide +kernel
theorem dL_law_964 : decode cL_law 964 = .ok (.aload_n 0, 1) := by decide +kernel
theorem dL_law_965 : decode cL_law 965 = .ok (.iload_n 3, 1) := by decide +kernel
theorem dL_law_966 : decode cL_law 966 = .ok (.iconst 1, 1) := by decide +kernel
theorem dL_law_967 : decode cL_law 967 = .ok (.iadd, 1) := by decide +kernel
theorem dL_law_968 : decode cL_law 968 = .ok (.iaload, 1) := by decide +kernel
theorem dL_law_969 : decode cL_law 969 = .ok (.aload_n 0, 1) := by decide +kernel
theorem dL_law_970 : decode cL_law 970 = .ok (.iload_n 3, 1) := by decide +kernel
theorem dL_law_971 : decode cL_law 971 = .ok (.iconst 2, 1) := by decide +kernel
theorem dL_law_972 : decode cL_law 972 = .ok (.iadd, 1) := by decide +kernel
theorem dL_law_973 : decode cL_law 973 = .ok (.iaload, 1) := by decide +kernel
theorem dL_law_974 : decode cL_law 974 = .ok (.invokevirtual 105, 3) := by decide +kernel
theorem dL_law_977 : decode cL_law 977 = .ok (.if_icmp .eq 131, 3) := by decide +kernel
theorem dL_law_980 : decode cL_law 980 = .ok (.iconst 0, 1) := by decide +kernel
theorem dL_law_981 : decode cL_law 981 = .ok (.ireturn, 1) := by decide +kernel
theorem dL_law_982 : decode cL_law 982 = .ok (.aload_n 1, 1) := by decide +kernel
theorem dL_law_983 : decode cL_law 983 = .ok (.aload_n 0, 1) := by decide +kernel
theorem dL_law_984 : decode cL_law 984 = .ok (.iload_n 3, 1) := by decide +kernel
theorem dL_law_985 : decode cL_law 985 = .ok (.iconst 1, 1) := by decide +kernel
theorem dL_law_986 : decode cL_law 986 = .ok (.iadd, 1) := by decide +kernel
theorem dL_law_987 : decode cL_law 987 = .ok (.iaload, 1) := by decide +kernel
theorem dL_law_988 : decode cL_law 988 = .ok (.aload_n 0, 1) := by decide +kernel
theorem dL_law_989 : decode cL_law 989 = .ok (.iload_n 3, 1) := by decide +kernel
theorem dL_law_990 : decode cL_law 990 = .ok (.iconst 2, 1) := by decide +kernel
theorem dL_law_991 : decode cL_law 991 = .ok (.iadd, 1) := by decide +kernel
theorem dL_law_992 : decode cL_law 992 = .ok (.iaload, 1) := by decide +kernel
theorem dL_law_993 : decode cL_law 993 = .ok (.invokevirtual 106, 3) := by decide +kernel
theorem dL_law_996 : decode cL_law 996 = .ok (.aload_n 2, 1) := by decide +kernel
theorem dL_law_997 : decode cL_law 997 = .ok (.aload_n 0, 1) := by decide +kernel
theorem dL_law_998 : decode cL_law 998 = .ok (.iload_n 3, 1) := by decide +kernel
theorem dL_law_999 : decode cL_law 999 = .ok (.iconst 1, 1) := by decide +kernel
theorem dL_law_1000 : decode cL_law 1000 = .ok (.iadd, 1) := by decide +kernel
theorem dL_law_1001 : decode cL_law 1001 = .ok (.iaload, 1) := by decide +kernel
theorem dL_law_1002 : decode cL_law 1002 = .ok (.aload_n 0, 1) := by decide +kernel
theorem dL_law_1003 : decode cL_law 1003 = .ok (.iload_n 3, 1) := by decide +kernel
theorem dL_law_1004 : decode cL_law 1004 = .ok (.iconst 2, 1) := by decide +kernel
theorem dL_law_1005 : decode cL_law 1005 = .ok (.iadd, 1) := by decide +kernel
theorem dL_law_1006 : decode cL_law 1006 = .ok (.iaload, 1) := by decide +kernel
theorem dL_law_1007 : decode cL_law 1007 = .ok (.invokevirtual 110, 3) := by decide +kernel
theorem dL_law_1010 : decode cL_law 1010 = .ok (.lcmp, 1) := by decide +kernel
theorem dL_law_1011 : decode cL_law 1011 = .ok (.ifCond .eq 97, 3) := by decide +kernel
theorem dL_law_1014 : decode cL_law 1014 = .ok (.iconst 0, 1) := by decide +kernel
theorem dL_law_1015 : decode cL_law 1015 = .ok (.ireturn, 1) := by decide +kernel
theorem dL_law_1016 : decode cL_law 1016 = .ok (.aload_n 1, 1) := by decide +kernel
theorem dL_law_1017 : decode cL_law 1017 = .ok (.aload_n 0, 1) := by decide +kernel
theorem dL_law_1018 : decode cL_law 1018 = .ok (.iload_n 3, 1) := by decide +kernel
theorem dL_law_1019 : decode cL_law 1019 = .ok (.iconst 1, 1) := by decide +kernel
theorem dL_law_1020 : decode cL_law 1020 = .ok (.iadd, 1) := by decide +kernel
theorem dL_law_1021 : decode cL_law 1021 = .ok (.iaload, 1) := by decide +kernel
theorem dL_law_1022 : decode cL_law 1022 = .ok (.invokevirtual 111, 3) := by decide +kernel
theorem dL_law_1025 : decode cL_law 1025 = .ok (.aload_n 2, 1) := by decide +kernel
theorem dL_law_1026 : decode cL_law 1026 = .ok (.aload_n 0, 1) := by decide +kernel
theorem dL_law_1027 : decode cL_law 1027 = .ok (.iload_n 3, 1) := by decide +kernel
theorem dL_law_1028 : decode cL_law 1028 = .ok (.iconst 1, 1) := by decide +kernel
theorem dL_law_1029 : decode cL_law 1029 = .ok (.iadd, 1) := by decide +kernel
theorem dL_law_1030 : decode cL_law 1030 = .ok (.iaload, 1) := by decide +kernel
theorem dL_law_1031 : decode cL_law 1031 = .ok (.invokevirtual 114, 3) := by decide +kernel
theorem dL_law_1034 : decode cL_law 1034 = .ok (.if_icmp .eq 74, 3) := by decide +kernel
theorem dL_law_1037 : decode cL_law 1037 = .ok (.iconst 0, 1) := by decide +kernel
theorem dL_law_1038 : decode cL_law 1038 = .ok (.ireturn, 1) := by decide +kernel
theorem dL_law_1039 : decode cL_law 1039 = .ok (.aload_n 1, 1) := by decide +kernel
theorem dL_law_1040 : decode cL_law 1040 = .ok (.aload_n 0, 1) := by decide +kernel
theorem dL_law_1041 : decode cL_law 1041 = .ok (.iload_n 3, 1) := by decide +kernel
theorem dL_law_1042 : decode cL_law 1042 = .ok (.iconst 1, 1) := by decide +kernel
theorem dL_law_1043 : decode cL_law 1043 = .ok (.iadd, 1) := by decide +kernel
theorem dL_law_1044 : decode cL_law 1044 = .ok (.iaload, 1) := by decide +kernel
theorem dL_law_1045 : decode cL_law 1045 = .ok (.invokevirtual 115, 3) := by decide +kernel
theorem dL_law_1048 : decode cL_law 1048 = .ok (.aload_n 2, 1) := by decide +kernel
theorem dL_law_1049 : decode cL_law 1049 = .ok (.aload_n 0, 1) := by decide +kernel
theorem dL_law_1050 : decode cL_law 1050 = .ok (.iload_n 3, 1) := by decide +kernel
theorem dL_law_1051 : decode cL_law 1051 = .ok (.iconst 1, 1) := by decide +kernel
theorem dL_law_1052 : decode cL_law 1052 = .ok (.iadd, 1) := by decide +kernel
theorem dL_law_1053 : decode cL_law 1053 = .ok (.iaload, 1) := by decide +kernel
theorem dL_law_1054 : decode cL_law 1054 = .ok (.invokevirtual 118, 3) := by decide +kernel
theorem dL_law_1057 : decode cL_law 1057 = .ok (.if_icmp .eq 51, 3) := by decide +kernel
theorem dL_law_1060 : decode cL_law 1060 = .ok (.iconst 0, 1) := by decide +kernel
theorem dL_law_1061 : decode cL_law 1061 = .ok (.ireturn, 1) := by decide +kernel
theorem dL_law_1062 : decode cL_law 1062 = .ok (.aload_n 1, 1) := by decide +kernel
theorem dL_law_1063 : decode cL_law 1063 = .ok (.aload_n 0, 1) := by decide +kernel
theorem dL_law_1064 : decode cL_law 1064 = .ok (.iload_n 3, 1) := by decide +kernel
theorem dL_law_1065 : decode cL_law 1065 = .ok (.iconst 1, 1) := by decide +kernel
theorem dL_law_1066 : decode cL_law 1066 = .ok (.iadd, 1) := by decide +kernel
theorem dL_law_1067 : decode cL_law 1067 = .ok (.iaload, 1) := by decide +kernel
theorem dL_law_1068 : decode cL_law 1068 = .ok (.invokevirtual 119, 3) := by decide +kernel
theorem dL_law_1071 : decode cL_law 1071 = .ok (.aload_n 2, 1) := by decide +kernel
theorem dL_law_1072 : decode cL_law 1072 = .ok (.aload_n 0, 1) := by decide +kernel
theorem dL_law_1073 : decode cL_law 1073 = .ok (.iload_n 3, 1) := by decide +kernel
theorem dL_law_1074 : decode cL_law 1074 = .ok (.iconst 1, 1) := by decide +kernel
theorem dL_law_1075 : decode cL_law 1075 = .ok (.iadd, 1) := by decide +kernel
theorem dL_law_1076 : decode cL_law 1076 = .ok (.iaload, 1) := by decide +kernel
theorem dL_law_1077 : decode cL_law 1077 = .ok (.invokevirtual 122, 3) := by decide +kernel
theorem dL_law_1080 : decode cL_law 1080 = .ok (.if_icmp .eq 28, 3) := by decide +kernel
theorem dL_law_1083 : decode cL_law 1083 = .ok (.iconst 0, 1) := by decide +kernel
theorem dL_law_1084 : decode cL_law 1084 = .ok (.ireturn, 1) := by decide +kernel
theorem dL_law_1085 : decode cL_law 1085 = .ok (.aload_n 1, 1) := by decide +kernel
theorem dL_law_1086 : decode cL_law 1086 = .ok (.aload_n 0, 1) := by decide +kernel
theorem dL_law_1087 : decode cL_law 1087 = .ok (.iload_n 3, 1) := by decide +kernel
theorem dL_law_1088 : decode cL_law 1088 = .ok (.iconst 1, 1) := by decide +kernel
theorem dL_law_1089 : decode cL_law 1089 = .ok (.iadd, 1) := by decide +kernel
theorem dL_law_1090 : decode cL_law 1090 = .ok (.iaload, 1) := by decide +kernel
theorem dL_law_1091 : decode cL_law 1091 = .ok (.invokevirtual 123, 3) := by decide +kernel
theorem dL_law_1094 : decode cL_law 1094 = .ok (.aload_n 2, 1) := by decide +kernel
theorem dL_law_1095 : decode cL_law 1095 = .ok (.aload_n 0, 1) := by decide +kernel
theorem dL_law_1096 : decode cL_law 1096 = .ok (.iload_n 3, 1) := by decide +kernel
theorem dL_law_1097 : decode cL_law 1097 = .ok (.iconst 1, 1) := by decide +kernel
theorem dL_law_1098 : decode cL_law 1098 = .ok (.iadd, 1) := by decide +kernel
theorem dL_law_1099 : decode cL_law 1099 = .ok (.iaload, 1) := by decide +kernel
theorem dL_law_1100 : decode cL_law 1100 = .ok (.invokevirtual 126, 3) := by decide +kernel
theorem dL_law_1103 : decode cL_law 1103 = .ok (.if_icmp .eq 5, 3) := by decide +kernel
theorem dL_law_1106 : decode cL_law 1106 = .ok (.iconst 0, 1) := by decide +kernel
theorem dL_law_1107 : decode cL_law 1107 = .ok (.ireturn, 1) := by decide +kernel
theorem dL_law_1108 : decode cL_law 1108 = .ok (.iinc 3 8, 3) := by decide +kernel
theorem dL_law_1111 : decode cL_law 1111 = .ok (.goto (-1073), 3) := by decide +kernel
theorem dL_law_1114 : decode cL_law 1114 = .ok (.iconst 1, 1) := by decide +kernel
theorem dL_law_1115 : decode cL_law 1115 = .ok (.ireturn, 1) := by decide +kernel
