theorem dX0_init_0 : decode cX0_init 0 = .ok (.aload_n 0, 1) := by decide +kernel
theorem dX0_init_1 : decode cX0_init 1 = .ok (.invokespecial 3, 3) := by decide +kernel
theorem dX0_init_4 : decode cX0_init 4 = .ok (.aload_n 0, 1) := by decide +kernel
theorem dX0_init_5 : decode cX0_init 5 = .ok (.bipush 20, 2) := by decide +kernel
theorem dX0_init_7 : decode cX0_init 7 = .ok (.newarray .int, 2) := by decide +kernel
theorem dX0_init_9 : decode cX0_init 9 = .ok (.putfield 9, 3) := by decide +kernel
theorem dX0_init_12 : decode cX0_init 12 = .ok (.aload_n 0, 1) := by decide +kernel
theorem dX0_init_13 : decode cX0_init 13 = .ok (.iconst 0, 1) := by decide +kernel
theorem dX0_init_14 : decode cX0_init 14 = .ok (.putfield 15, 3) := by decide +kernel
theorem dX0_init_17 : decode cX0_init 17 = .ok (.aload_n 0, 1) := by decide +kernel
theorem dX0_init_18 : decode cX0_init 18 = .ok (.iconst 0, 1) := by decide +kernel
theorem dX0_init_19 : decode cX0_init 19 = .ok (.putfield 19, 3) := by decide +kernel
theorem dX0_init_22 : decode cX0_init 22 = .ok (.aload_n 0, 1) := by decide +kernel
theorem dX0_init_23 : decode cX0_init 23 = .ok (.iconst 0, 1) := by decide +kernel
theorem dX0_init_24 : decode cX0_init 24 = .ok (.putfield 22, 3) := by decide +kernel
theorem dX0_init_27 : decode cX0_init 27 = .ok (.aload_n 0, 1) := by decide +kernel
theorem dX0_init_28 : decode cX0_init 28 = .ok (.iconst 0, 1) := by decide +kernel
theorem dX0_init_29 : decode cX0_init 29 = .ok (.putfield 25, 3) := by decide +kernel
theorem dX0_init_32 : decode cX0_init 32 = .ok (.return_, 1) := by decide +kernel
theorem dX0_forget_0 : decode cX0_forget 0 = .ok (.aload_n 0, 1) := by decide +kernel
theorem dX0_forget_1 : decode cX0_forget 1 = .ok (.iconst 0, 1) := by decide +kernel
theorem dX0_forget_2 : decode cX0_forget 2 = .ok (.putfield 15, 3) := by decide +kernel
theorem dX0_forget_5 : decode cX0_forget 5 = .ok (.return_, 1) := by decide +kernel
theorem dX0_take_0 : decode cX0_take 0 = .ok (.aload_n 0, 1) := by decide +kernel
theorem dX0_take_1 : decode cX0_take 1 = .ok (.iload_n 1, 1) := by decide +kernel
theorem dX0_take_2 : decode cX0_take 2 = .ok (.putfield 19, 3) := by decide +kernel
theorem dX0_take_5 : decode cX0_take 5 = .ok (.aload_n 0, 1) := by decide +kernel
theorem dX0_take_6 : decode cX0_take 6 = .ok (.iload_n 2, 1) := by decide +kernel
theorem dX0_take_7 : decode cX0_take 7 = .ok (.putfield 22, 3) := by decide +kernel
theorem dX0_take_10 : decode cX0_take 10 = .ok (.aload_n 0, 1) := by decide +kernel
theorem dX0_take_11 : decode cX0_take 11 = .ok (.iload_n 3, 1) := by decide +kernel
theorem dX0_take_12 : decode cX0_take 12 = .ok (.putfield 25, 3) := by decide +kernel
theorem dX0_take_15 : decode cX0_take 15 = .ok (.return_, 1) := by decide +kernel
theorem dX0_perform_0 : decode cX0_perform 0 = .ok (.aload_n 0, 1) := by decide +kernel
theorem dX0_perform_1 : decode cX0_perform 1 = .ok (.aload_n 0, 1) := by decide +kernel
theorem dX0_perform_2 : decode cX0_perform 2 = .ok (.getfield 22, 3) := by decide +kernel
theorem dX0_perform_5 : decode cX0_perform 5 = .ok (.iload_n 1, 1) := by decide +kernel
theorem dX0_perform_6 : decode cX0_perform 6 = .ok (.iload_n 2, 1) := by decide +kernel
theorem dX0_perform_7 : decode cX0_perform 7 = .ok (.iconst 0, 1) := by decide +kernel
theorem dX0_perform_8 : decode cX0_perform 8 = .ok (.invokevirtual 28, 3) := by decide +kernel
theorem dX0_perform_11 : decode cX0_perform 11 = .ok (.ireturn, 1) := by decide +kernel
theorem dX0_traced_0 : decode cX0_traced 0 = .ok (.iload_n 1, 1) := by decide +kernel
theorem dX0_traced_1 : decode cX0_traced 1 = .ok (.ifCond .lt 29, 3) := by decide +kernel
theorem dX0_traced_4 : decode cX0_traced 4 = .ok (.iload_n 1, 1) := by decide +kernel
theorem dX0_traced_5 : decode cX0_traced 5 = .ok (.aload_n 0, 1) := by decide +kernel
theorem dX0_traced_6 : decode cX0_traced 6 = .ok (.getfield 15, 3) := by decide +kernel
theorem dX0_traced_9 : decode cX0_traced 9 = .ok (.if_icmp .ge 21, 3) := by decide +kernel
theorem dX0_traced_12 : decode cX0_traced 12 = .ok (.iload_n 1, 1) := by decide +kernel
theorem dX0_traced_13 : decode cX0_traced 13 = .ok (.aload_n 0, 1) := by decide +kernel
theorem dX0_traced_14 : decode cX0_traced 14 = .ok (.getfield 9, 3) := by decide +kernel
theorem dX0_traced_17 : decode cX0_traced 17 = .ok (.arraylength, 1) := by decide +kernel
theorem dX0_traced_18 : decode cX0_traced 18 = .ok (.if_icmp .ge 12, 3) := by decide +kernel
theorem dX0_traced_21 : decode cX0_traced 21 = .ok (.aload_n 0, 1) := by decide +kernel
theorem dX0_traced_22 : decode cX0_traced 22 = .ok (.getfield 9, 3) := by decide +kernel
theorem dX0_traced_25 : decode cX0_traced 25 = .ok (.iload_n 1, 1) := by decide +kernel
theorem dX0_traced_26 : decode cX0_traced 26 = .ok (.iaload, 1) := by decide +kernel
theorem dX0_traced_27 : decode cX0_traced 27 = .ok (.goto 4, 3) := by decide +kernel
theorem dX0_traced_30 : decode cX0_traced 30 = .ok (.iconst (-1), 1) := by decide +kernel
theorem dX0_traced_31 : decode cX0_traced 31 = .ok (.ireturn, 1) := by decide +kernel
theorem dX0_howManyRan_0 : decode cX0_howManyRan 0 = .ok (.aload_n 0, 1) := by decide +kernel
theorem dX0_howManyRan_1 : decode cX0_howManyRan 1 = .ok (.getfield 15, 3) := by decide +kernel
theorem dX0_howManyRan_4 : decode cX0_howManyRan 4 = .ok (.ireturn, 1) := by decide +kernel
theorem dX0_run_0 : decode cX0_run 0 = .ok (.iload 4, 2) := by decide +kernel
theorem dX0_run_2 : decode cX0_run 2 = .ok (.bipush 20, 2) := by decide +kernel
theorem dX0_run_4 : decode cX0_run 4 = .ok (.if_icmp .le 5, 3) := by decide +kernel
theorem dX0_run_7 : decode cX0_run 7 = .ok (.iconst 0, 1) := by decide +kernel
theorem dX0_run_8 : decode cX0_run 8 = .ok (.ireturn, 1) := by decide +kernel
theorem dX0_run_9 : decode cX0_run 9 = .ok (.iload_n 1, 1) := by decide +kernel
theorem dX0_run_10 : decode cX0_run 10 = .ok (.iload_n 2, 1) := by decide +kernel
theorem dX0_run_11 : decode cX0_run 11 = .ok (.invokestatic 32, 3) := by decide +kernel
theorem dX0_run_14 : decode cX0_run 14 = .ok (.istore 5, 2) := by decide +kernel
theorem dX0_run_16 : decode cX0_run 16 = .ok (.aload_n 0, 1) := by decide +kernel
theorem dX0_run_17 : decode cX0_run 17 = .ok (.getfield 15, 3) := by decide +kernel
theorem dX0_run_20 : decode cX0_run 20 = .ok (.ifCond .lt 26, 3) := by decide +kernel
theorem dX0_run_23 : decode cX0_run 23 = .ok (.aload_n 0, 1) := by decide +kernel
theorem dX0_run_24 : decode cX0_run 24 = .ok (.getfield 15, 3) := by decide +kernel
theorem dX0_run_27 : decode cX0_run 27 = .ok (.aload_n 0, 1) := by decide +kernel
theorem dX0_run_28 : decode cX0_run 28 = .ok (.getfield 9, 3) := by decide +kernel
theorem dX0_run_31 : decode cX0_run 31 = .ok (.arraylength, 1) := by decide +kernel
theorem dX0_run_32 : decode cX0_run 32 = .ok (.if_icmp .ge 14, 3) := by decide +kernel
theorem dX0_run_35 : decode cX0_run 35 = .ok (.aload_n 0, 1) := by decide +kernel
theorem dX0_run_36 : decode cX0_run 36 = .ok (.getfield 9, 3) := by decide +kernel
theorem dX0_run_39 : decode cX0_run 39 = .ok (.aload_n 0, 1) := by decide +kernel
theorem dX0_run_40 : decode cX0_run 40 = .ok (.getfield 15, 3) := by decide +kernel
theorem dX0_run_43 : decode cX0_run 43 = .ok (.iload 5, 2) := by decide +kernel
theorem dX0_run_45 : decode cX0_run 45 = .ok (.iastore, 1) := by decide +kernel
theorem dX0_run_46 : decode cX0_run 46 = .ok (.aload_n 0, 1) := by decide +kernel
theorem dX0_run_47 : decode cX0_run 47 = .ok (.dup, 1) := by decide +kernel
theorem dX0_run_48 : decode cX0_run 48 = .ok (.getfield 15, 3) := by decide +kernel
theorem dX0_run_51 : decode cX0_run 51 = .ok (.iconst 1, 1) := by decide +kernel
theorem dX0_run_52 : decode cX0_run 52 = .ok (.iadd, 1) := by decide +kernel
theorem dX0_run_53 : decode cX0_run 53 = .ok (.putfield 15, 3) := by decide +kernel
theorem dX0_run_56 : decode cX0_run 56 = .ok (.aload_n 0, 1) := by decide +kernel
theorem dX0_run_57 : decode cX0_run 57 = .ok (.iload 5, 2) := by decide +kernel
theorem dX0_run_59 : decode cX0_run 59 = .ok (.iload_n 3, 1) := by decide +kernel
theorem dX0_run_60 : decode cX0_run 60 = .ok (.iload 4, 2) := by decide +kernel
theorem dX0_run_62 : decode cX0_run 62 = .ok (.iconst 1, 1) := by decide +kernel
theorem dX0_run_63 : decode cX0_run 63 = .ok (.iadd, 1) := by decide +kernel
theorem dX0_run_64 : decode cX0_run 64 = .ok (.invokevirtual 36, 3) := by decide +kernel
theorem dX0_run_67 : decode cX0_run 67 = .ok (.ireturn, 1) := by decide +kernel
theorem dX0_answer_0 : decode cX0_answer 0 = .ok (.iload_n 1, 1) := by decide +kernel
theorem dX0_answer_1 : decode cX0_answer 1 = .ok (.lookupswitch 205 #[(1, 83), (2, 90), (3, 107), (11, 121), (21, 132), (31, 142), (41, 154), (51, 177), (61, 191)], 83) := by decide +kernel
theorem dX0_answer_84 : decode cX0_answer 84 = .ok (.iload_n 2, 1) := by decide +kernel
theorem dX0_answer_85 : decode cX0_answer 85 = .ok (.aload_n 0, 1) := by decide +kernel
theorem dX0_answer_86 : decode cX0_answer 86 = .ok (.getfield 19, 3) := by decide +kernel
theorem dX0_answer_89 : decode cX0_answer 89 = .ok (.iadd, 1) := by decide +kernel
theorem dX0_answer_90 : decode cX0_answer 90 = .ok (.ireturn, 1) := by decide +kernel
theorem dX0_answer_91 : decode cX0_answer 91 = .ok (.aload_n 0, 1) := by decide +kernel
theorem dX0_answer_92 : decode cX0_answer 92 = .ok (.aload_n 0, 1) := by decide +kernel
theorem dX0_answer_93 : decode cX0_answer 93 = .ok (.getfield 22, 3) := by decide +kernel
theorem dX0_answer_96 : decode cX0_answer 96 = .ok (.iconst 0, 1) := by decide +kernel
theorem dX0_answer_97 : decode cX0_answer 97 = .ok (.iload_n 2, 1) := by decide +kernel
theorem dX0_answer_98 : decode cX0_answer 98 = .ok (.iload_n 3, 1) := by decide +kernel
theorem dX0_answer_99 : decode cX0_answer 99 = .ok (.invokevirtual 28, 3) := by decide +kernel
theorem dX0_answer_102 : decode cX0_answer 102 = .ok (.aload_n 0, 1) := by decide +kernel
theorem dX0_answer_103 : decode cX0_answer 103 = .ok (.getfield 25, 3) := by decide +kernel
theorem dX0_answer_106 : decode cX0_answer 106 = .ok (.isub, 1) := by decide +kernel
theorem dX0_answer_107 : decode cX0_answer 107 = .ok (.ireturn, 1) := by decide +kernel
theorem dX0_answer_108 : decode cX0_answer 108 = .ok (.aload_n 0, 1) := by decide +kernel
theorem dX0_answer_109 : decode cX0_answer 109 = .ok (.aload_n 0, 1) := by decide +kernel
theorem dX0_answer_110 : decode cX0_answer 110 = .ok (.getfield 22, 3) := by decide +kernel
theorem dX0_answer_113 : decode cX0_answer 113 = .ok (.iconst 1, 1) := by decide +kernel
theorem dX0_answer_114 : decode cX0_answer 114 = .ok (.iload_n 2, 1) := by decide +kernel
theorem dX0_answer_115 : decode cX0_answer 115 = .ok (.iload_n 3, 1) := by decide +kernel
theorem dX0_answer_116 : decode cX0_answer 116 = .ok (.invokevirtual 28, 3) := by decide +kernel
theorem dX0_answer_119 : decode cX0_answer 119 = .ok (.iconst 2, 1) := by decide +kernel
theorem dX0_answer_120 : decode cX0_answer 120 = .ok (.imul, 1) := by decide +kernel
theorem dX0_answer_121 : decode cX0_answer 121 = .ok (.ireturn, 1) := by decide +kernel
theorem dX0_answer_122 : decode cX0_answer 122 = .ok (.aload_n 0, 1) := by decide +kernel
theorem dX0_answer_123 : decode cX0_answer 123 = .ok (.iconst 0, 1) := by decide +kernel
theorem dX0_answer_124 : decode cX0_answer 124 = .ok (.iconst 0, 1) := by decide +kernel
theorem dX0_answer_125 : decode cX0_answer 125 = .ok (.iload_n 2, 1) := by decide +kernel
theorem dX0_answer_126 : decode cX0_answer 126 = .ok (.iconst 3, 1) := by decide +kernel
theorem dX0_answer_127 : decode cX0_answer 127 = .ok (.imul, 1) := by decide +kernel
theorem dX0_answer_128 : decode cX0_answer 128 = .ok (.iload_n 3, 1) := by decide +kernel
theorem dX0_answer_129 : decode cX0_answer 129 = .ok (.invokevirtual 28, 3) := by decide +kernel
theorem dX0_answer_132 : decode cX0_answer 132 = .ok (.ireturn, 1) := by decide +kernel
theorem dX0_answer_133 : decode cX0_answer 133 = .ok (.aload_n 0, 1) := by decide +kernel
theorem dX0_answer_134 : decode cX0_answer 134 = .ok (.iconst 0, 1) := by decide +kernel
theorem dX0_answer_135 : decode cX0_answer 135 = .ok (.iconst 1, 1) := by decide +kernel
theorem dX0_answer_136 : decode cX0_answer 136 = .ok (.iload_n 2, 1) := by decide +kernel
theorem dX0_answer_137 : decode cX0_answer 137 = .ok (.iload_n 3, 1) := by decide +kernel
theorem dX0_answer_138 : decode cX0_answer 138 = .ok (.invokevirtual 28, 3) := by decide +kernel
theorem dX0_answer_141 : decode cX0_answer 141 = .ok (.ineg, 1) := by decide +kernel
theorem dX0_answer_142 : decode cX0_answer 142 = .ok (.ireturn, 1) := by decide +kernel
theorem dX0_answer_143 : decode cX0_answer 143 = .ok (.aload_n 0, 1) := by decide +kernel
theorem dX0_answer_144 : decode cX0_answer 144 = .ok (.iconst 0, 1) := by decide +kernel
theorem dX0_answer_145 : decode cX0_answer 145 = .ok (.iconst 2, 1) := by decide +kernel
theorem dX0_answer_146 : decode cX0_answer 146 = .ok (.iload_n 2, 1) := by decide +kernel
theorem dX0_answer_147 : decode cX0_answer 147 = .ok (.iload_n 3, 1) := by decide +kernel
theorem dX0_answer_148 : decode cX0_answer 148 = .ok (.invokevirtual 28, 3) := by decide +kernel
theorem dX0_answer_151 : decode cX0_answer 151 = .ok (.bipush 7, 2) := by decide +kernel
theorem dX0_answer_153 : decode cX0_answer 153 = .ok (.ixor, 1) := by decide +kernel
theorem dX0_answer_154 : decode cX0_answer 154 = .ok (.ireturn, 1) := by decide +kernel
theorem dX0_answer_155 : decode cX0_answer 155 = .ok (.aload_n 0, 1) := by decide +kernel
theorem dX0_answer_156 : decode cX0_answer 156 = .ok (.iconst 1, 1) := by decide +kernel
theorem dX0_answer_157 : decode cX0_answer 157 = .ok (.iconst 2, 1) := by decide +kernel
theorem dX0_answer_158 : decode cX0_answer 158 = .ok (.iload_n 2, 1) := by decide +kernel
theorem dX0_answer_159 : decode cX0_answer 159 = .ok (.iconst 1, 1) := by decide +kernel
theorem dX0_answer_160 : decode cX0_answer 160 = .ok (.isub, 1) := by decide +kernel
theorem dX0_answer_161 : decode cX0_answer 161 = .ok (.iload_n 3, 1) := by decide +kernel
theorem dX0_answer_162 : decode cX0_answer 162 = .ok (.invokevirtual 28, 3) := by decide +kernel
theorem dX0_answer_165 : decode cX0_answer 165 = .ok (.aload_n 0, 1) := by decide +kernel
theorem dX0_answer_166 : decode cX0_answer 166 = .ok (.aload_n 0, 1) := by decide +kernel
theorem dX0_answer_167 : decode cX0_answer 167 = .ok (.getfield 22, 3) := by decide +kernel
theorem dX0_answer_170 : decode cX0_answer 170 = .ok (.iconst 0, 1) := by decide +kernel
theorem dX0_answer_171 : decode cX0_answer 171 = .ok (.iconst 2, 1) := by decide +kernel
theorem dX0_answer_172 : decode cX0_answer 172 = .ok (.iload_n 3, 1) := by decide +kernel
theorem dX0_answer_173 : decode cX0_answer 173 = .ok (.invokevirtual 28, 3) := by decide +kernel
theorem dX0_answer_176 : decode cX0_answer 176 = .ok (.iadd, 1) := by decide +kernel
theorem dX0_answer_177 : decode cX0_answer 177 = .ok (.ireturn, 1) := by decide +kernel
theorem dX0_answer_178 : decode cX0_answer 178 = .ok (.aload_n 0, 1) := by decide +kernel
theorem dX0_answer_179 : decode cX0_answer 179 = .ok (.iconst 2, 1) := by decide +kernel
theorem dX0_answer_180 : decode cX0_answer 180 = .ok (.iconst 0, 1) := by decide +kernel
theorem dX0_answer_181 : decode cX0_answer 181 = .ok (.iload_n 2, 1) := by decide +kernel
theorem dX0_answer_182 : decode cX0_answer 182 = .ok (.iload_n 3, 1) := by decide +kernel
theorem dX0_answer_183 : decode cX0_answer 183 = .ok (.invokevirtual 28, 3) := by decide +kernel
theorem dX0_answer_186 : decode cX0_answer 186 = .ok (.aload_n 0, 1) := by decide +kernel
theorem dX0_answer_187 : decode cX0_answer 187 = .ok (.getfield 19, 3) := by decide +kernel
theorem dX0_answer_190 : decode cX0_answer 190 = .ok (.ixor, 1) := by decide +kernel
theorem dX0_answer_191 : decode cX0_answer 191 = .ok (.ireturn, 1) := by decide +kernel
theorem dX0_answer_192 : decode cX0_answer 192 = .ok (.aload_n 0, 1) := by decide +kernel
theorem dX0_answer_193 : decode cX0_answer 193 = .ok (.iconst 3, 1) := by decide +kernel
theorem dX0_answer_194 : decode cX0_answer 194 = .ok (.iconst 1, 1) := by decide +kernel
theorem dX0_answer_195 : decode cX0_answer 195 = .ok (.iload_n 2, 1) := by decide +kernel
theorem dX0_answer_196 : decode cX0_answer 196 = .ok (.iload_n 3, 1) := by decide +kernel
theorem dX0_answer_197 : decode cX0_answer 197 = .ok (.invokevirtual 28, 3) := by decide +kernel
theorem dX0_answer_200 : decode cX0_answer 200 = .ok (.aload_n 0, 1) := by decide +kernel
theorem dX0_answer_201 : decode cX0_answer 201 = .ok (.getfield 25, 3) := by decide +kernel
theorem dX0_answer_204 : decode cX0_answer 204 = .ok (.iadd, 1) := by decide +kernel
theorem dX0_answer_205 : decode cX0_answer 205 = .ok (.ireturn, 1) := by decide +kernel
theorem dX0_answer_206 : decode cX0_answer 206 = .ok (.iconst 0, 1) := by decide +kernel
theorem dX0_answer_207 : decode cX0_answer 207 = .ok (.ireturn, 1) := by decide +kernel
theorem dX0_bodyOf_0 : decode cX0_bodyOf 0 = .ok (.iload_n 0, 1) := by decide +kernel
theorem dX0_bodyOf_1 : decode cX0_bodyOf 1 = .ok (.istore_n 2, 1) := by decide +kernel
theorem dX0_bodyOf_2 : decode cX0_bodyOf 2 = .ok (.iconst 0, 1) := by decide +kernel
theorem dX0_bodyOf_3 : decode cX0_bodyOf 3 = .ok (.istore_n 3, 1) := by decide +kernel
theorem dX0_bodyOf_4 : decode cX0_bodyOf 4 = .ok (.iload_n 3, 1) := by decide +kernel
theorem dX0_bodyOf_5 : decode cX0_bodyOf 5 = .ok (.getstatic 40, 3) := by decide +kernel
theorem dX0_bodyOf_8 : decode cX0_bodyOf 8 = .ok (.arraylength, 1) := by decide +kernel
theorem dX0_bodyOf_9 : decode cX0_bodyOf 9 = .ok (.if_icmp .ge 55, 3) := by decide +kernel
theorem dX0_bodyOf_12 : decode cX0_bodyOf 12 = .ok (.iload_n 2, 1) := by decide +kernel
theorem dX0_bodyOf_13 : decode cX0_bodyOf 13 = .ok (.iconst 3, 1) := by decide +kernel
theorem dX0_bodyOf_14 : decode cX0_bodyOf 14 = .ok (.imul, 1) := by decide +kernel
theorem dX0_bodyOf_15 : decode cX0_bodyOf 15 = .ok (.iload_n 1, 1) := by decide +kernel
theorem dX0_bodyOf_16 : decode cX0_bodyOf 16 = .ok (.iadd, 1) := by decide +kernel
theorem dX0_bodyOf_17 : decode cX0_bodyOf 17 = .ok (.istore 4, 2) := by decide +kernel
theorem dX0_bodyOf_19 : decode cX0_bodyOf 19 = .ok (.iload_n 2, 1) := by decide +kernel
theorem dX0_bodyOf_20 : decode cX0_bodyOf 20 = .ok (.ifCond .lt 33, 3) := by decide +kernel
theorem dX0_bodyOf_23 : decode cX0_bodyOf 23 = .ok (.iload 4, 2) := by decide +kernel
theorem dX0_bodyOf_25 : decode cX0_bodyOf 25 = .ok (.ifCond .lt 28, 3) := by decide +kernel
theorem dX0_bodyOf_28 : decode cX0_bodyOf 28 = .ok (.iload 4, 2) := by decide +kernel
theorem dX0_bodyOf_30 : decode cX0_bodyOf 30 = .ok (.getstatic 43, 3) := by decide +kernel
theorem dX0_bodyOf_33 : decode cX0_bodyOf 33 = .ok (.arraylength, 1) := by decide +kernel
theorem dX0_bodyOf_34 : decode cX0_bodyOf 34 = .ok (.if_icmp .ge 19, 3) := by decide +kernel
theorem dX0_bodyOf_37 : decode cX0_bodyOf 37 = .ok (.getstatic 43, 3) := by decide +kernel
theorem dX0_bodyOf_40 : decode cX0_bodyOf 40 = .ok (.iload 4, 2) := by decide +kernel
theorem dX0_bodyOf_42 : decode cX0_bodyOf 42 = .ok (.iaload, 1) := by decide +kernel
theorem dX0_bodyOf_43 : decode cX0_bodyOf 43 = .ok (.ifCond .eq 10, 3) := by decide +kernel
theorem dX0_bodyOf_46 : decode cX0_bodyOf 46 = .ok (.getstatic 43, 3) := by decide +kernel
theorem dX0_bodyOf_49 : decode cX0_bodyOf 49 = .ok (.iload 4, 2) := by decide +kernel
theorem dX0_bodyOf_51 : decode cX0_bodyOf 51 = .ok (.iaload, 1) := by decide +kernel
theorem dX0_bodyOf_52 : decode cX0_bodyOf 52 = .ok (.ireturn, 1) := by decide +kernel
theorem dX0_bodyOf_53 : decode cX0_bodyOf 53 = .ok (.iload_n 2, 1) := by decide +kernel
theorem dX0_bodyOf_54 : decode cX0_bodyOf 54 = .ok (.invokestatic 46, 3) := by decide +kernel
theorem dX0_bodyOf_57 : decode cX0_bodyOf 57 = .ok (.istore_n 2, 1) := by decide +kernel
theorem dX0_bodyOf_58 : decode cX0_bodyOf 58 = .ok (.iinc 3 1, 3) := by decide +kernel
theorem dX0_bodyOf_61 : decode cX0_bodyOf 61 = .ok (.goto (-57), 3) := by decide +kernel
theorem dX0_bodyOf_64 : decode cX0_bodyOf 64 = .ok (.iconst 0, 1) := by decide +kernel
theorem dX0_bodyOf_65 : decode cX0_bodyOf 65 = .ok (.ireturn, 1) := by decide +kernel
theorem dX1_init_0 : decode cX1_init 0 = .ok (.aload_n 0, 1) := by decide +kernel
theorem dX1_init_1 : decode cX1_init 1 = .ok (.invokespecial 3, 3) := by decide +kernel
theorem dX1_init_4 : decode cX1_init 4 = .ok (.aload_n 0, 1) := by decide +kernel
theorem dX1_init_5 : decode cX1_init 5 = .ok (.new 9, 3) := by decide +kernel
theorem dX1_init_8 : decode cX1_init 8 = .ok (.dup, 1) := by decide +kernel
theorem dX1_init_9 : decode cX1_init 9 = .ok (.iconst 5, 1) := by decide +kernel
theorem dX1_init_10 : decode cX1_init 10 = .ok (.invokespecial 11, 3) := by decide +kernel
theorem dX1_init_13 : decode cX1_init 13 = .ok (.putfield 14, 3) := by decide +kernel
theorem dX1_init_16 : decode cX1_init 16 = .ok (.aload_n 0, 1) := by decide +kernel
theorem dX1_init_17 : decode cX1_init 17 = .ok (.iconst 5, 1) := by decide +kernel
theorem dX1_init_18 : decode cX1_init 18 = .ok (.newarray .int, 2) := by decide +kernel
theorem dX1_init_20 : decode cX1_init 20 = .ok (.putfield 20, 3) := by decide +kernel
theorem dX1_init_23 : decode cX1_init 23 = .ok (.aload_n 0, 1) := by decide +kernel
theorem dX1_init_24 : decode cX1_init 24 = .ok (.iconst 5, 1) := by decide +kernel
theorem dX1_init_25 : decode cX1_init 25 = .ok (.newarray .int, 2) := by decide +kernel
theorem dX1_init_27 : decode cX1_init 27 = .ok (.putfield 24, 3) := by decide +kernel
theorem dX1_init_30 : decode cX1_init 30 = .ok (.aload_n 0, 1) := by decide +kernel
theorem dX1_init_31 : decode cX1_init 31 = .ok (.aload_n 1, 1) := by decide +kernel
theorem dX1_init_32 : decode cX1_init 32 = .ok (.putfield 27, 3) := by decide +kernel
theorem dX1_init_35 : decode cX1_init 35 = .ok (.return_, 1) := by decide +kernel
theorem dX1_findAll_0 : decode cX1_findAll 0 = .ok (.iconst 0, 1) := by decide +kernel
theorem dX1_findAll_1 : decode cX1_findAll 1 = .ok (.istore_n 2, 1) := by decide +kernel
theorem dX1_findAll_2 : decode cX1_findAll 2 = .ok (.iload_n 2, 1) := by decide +kernel
theorem dX1_findAll_3 : decode cX1_findAll 3 = .ok (.aload_n 0, 1) := by decide +kernel
theorem dX1_findAll_4 : decode cX1_findAll 4 = .ok (.getfield 20, 3) := by decide +kernel
theorem dX1_findAll_7 : decode cX1_findAll 7 = .ok (.arraylength, 1) := by decide +kernel
theorem dX1_findAll_8 : decode cX1_findAll 8 = .ok (.if_icmp .ge 49, 3) := by decide +kernel
theorem dX1_findAll_11 : decode cX1_findAll 11 = .ok (.aload_n 0, 1) := by decide +kernel
theorem dX1_findAll_12 : decode cX1_findAll 12 = .ok (.getfield 20, 3) := by decide +kernel
theorem dX1_findAll_15 : decode cX1_findAll 15 = .ok (.iload_n 2, 1) := by decide +kernel
theorem dX1_findAll_16 : decode cX1_findAll 16 = .ok (.aload_n 0, 1) := by decide +kernel
theorem dX1_findAll_17 : decode cX1_findAll 17 = .ok (.getfield 27, 3) := by decide +kernel
theorem dX1_findAll_20 : decode cX1_findAll 20 = .ok (.iload_n 2, 1) := by decide +kernel
theorem dX1_findAll_21 : decode cX1_findAll 21 = .ok (.iconst 0, 1) := by decide +kernel
theorem dX1_findAll_22 : decode cX1_findAll 22 = .ok (.invokevirtual 31, 3) := by decide +kernel
theorem dX1_findAll_25 : decode cX1_findAll 25 = .ok (.iastore, 1) := by decide +kernel
theorem dX1_findAll_26 : decode cX1_findAll 26 = .ok (.aload_n 0, 1) := by decide +kernel
theorem dX1_findAll_27 : decode cX1_findAll 27 = .ok (.getfield 14, 3) := by decide +kernel
theorem dX1_findAll_30 : decode cX1_findAll 30 = .ok (.iload_n 2, 1) := by decide +kernel
theorem dX1_findAll_31 : decode cX1_findAll 31 = .ok (.iconst 0, 1) := by decide +kernel
theorem dX1_findAll_32 : decode cX1_findAll 32 = .ok (.aload_n 0, 1) := by decide +kernel
theorem dX1_findAll_33 : decode cX1_findAll 33 = .ok (.getfield 27, 3) := by decide +kernel
theorem dX1_findAll_36 : decode cX1_findAll 36 = .ok (.iload_n 2, 1) := by decide +kernel
theorem dX1_findAll_37 : decode cX1_findAll 37 = .ok (.invokevirtual 37, 3) := by decide +kernel
theorem dX1_findAll_40 : decode cX1_findAll 40 = .ok (.ifCond .eq 7, 3) := by decide +kernel
theorem dX1_findAll_43 : decode cX1_findAll 43 = .ok (.iconst 4, 1) := by decide +kernel
theorem dX1_findAll_44 : decode cX1_findAll 44 = .ok (.goto 4, 3) := by decide +kernel
theorem dX1_findAll_47 : decode cX1_findAll 47 = .ok (.iconst 0, 1) := by decide +kernel
theorem dX1_findAll_48 : decode cX1_findAll 48 = .ok (.invokevirtual 41, 3) := by decide +kernel
theorem dX1_findAll_51 : decode cX1_findAll 51 = .ok (.iinc 2 1, 3) := by decide +kernel
theorem dX1_findAll_54 : decode cX1_findAll 54 = .ok (.goto (-52), 3) := by decide +kernel
theorem dX1_findAll_57 : decode cX1_findAll 57 = .ok (.iconst 0, 1) := by decide +kernel
theorem dX1_findAll_58 : decode cX1_findAll 58 = .ok (.istore_n 2, 1) := by decide +kernel
theorem dX1_findAll_59 : decode cX1_findAll 59 = .ok (.aload_n 0, 1) := by decide +kernel
theorem dX1_findAll_60 : decode cX1_findAll 60 = .ok (.getfield 14, 3) := by decide +kernel
theorem dX1_findAll_63 : decode cX1_findAll 63 = .ok (.invokevirtual 45, 3) := by decide +kernel
theorem dX1_findAll_66 : decode cX1_findAll 66 = .ok (.istore_n 3, 1) := by decide +kernel
theorem dX1_findAll_67 : decode cX1_findAll 67 = .ok (.iconst 0, 1) := by decide +kernel
theorem dX1_findAll_68 : decode cX1_findAll 68 = .ok (.istore 4, 2) := by decide +kernel
theorem dX1_findAll_70 : decode cX1_findAll 70 = .ok (.iload 4, 2) := by decide +kernel
theorem dX1_findAll_72 : decode cX1_findAll 72 = .ok (.iload_n 3, 1) := by decide +kernel
theorem dX1_findAll_73 : decode cX1_findAll 73 = .ok (.if_icmp .ge 56, 3) := by decide +kernel
theorem dX1_findAll_76 : decode cX1_findAll 76 = .ok (.aload_n 0, 1) := by decide +kernel
theorem dX1_findAll_77 : decode cX1_findAll 77 = .ok (.getfield 14, 3) := by decide +kernel
theorem dX1_findAll_80 : decode cX1_findAll 80 = .ok (.invokevirtual 49, 3) := by decide +kernel
theorem dX1_findAll_83 : decode cX1_findAll 83 = .ok (.iconst 4, 1) := by decide +kernel
theorem dX1_findAll_84 : decode cX1_findAll 84 = .ok (.if_icmp .gt 32, 3) := by decide +kernel
theorem dX1_findAll_87 : decode cX1_findAll 87 = .ok (.aload_n 0, 1) := by decide +kernel
theorem dX1_findAll_88 : decode cX1_findAll 88 = .ok (.getfield 14, 3) := by decide +kernel
theorem dX1_findAll_91 : decode cX1_findAll 91 = .ok (.aload_n 0, 1) := by decide +kernel
theorem dX1_findAll_92 : decode cX1_findAll 92 = .ok (.getfield 20, 3) := by decide +kernel
theorem dX1_findAll_95 : decode cX1_findAll 95 = .ok (.invokevirtual 52, 3) := by decide +kernel
theorem dX1_findAll_98 : decode cX1_findAll 98 = .ok (.iload_n 1, 1) := by decide +kernel
theorem dX1_findAll_99 : decode cX1_findAll 99 = .ok (.if_icmp .ne 17, 3) := by decide +kernel
theorem dX1_findAll_102 : decode cX1_findAll 102 = .ok (.iinc 2 1, 3) := by decide +kernel
theorem dX1_findAll_105 : decode cX1_findAll 105 = .ok (.aload_n 0, 1) := by decide +kernel
theorem dX1_findAll_106 : decode cX1_findAll 106 = .ok (.getfield 14, 3) := by decide +kernel
theorem dX1_findAll_109 : decode cX1_findAll 109 = .ok (.aload_n 0, 1) := by decide +kernel
theorem dX1_findAll_110 : decode cX1_findAll 110 = .ok (.getfield 24, 3) := by decide +kernel
theorem dX1_findAll_113 : decode cX1_findAll 113 = .ok (.invokevirtual 56, 3) := by decide +kernel
theorem dX1_findAll_116 : decode cX1_findAll 116 = .ok (.aload_n 0, 1) := by decide +kernel
theorem dX1_findAll_117 : decode cX1_findAll 117 = .ok (.getfield 14, 3) := by decide +kernel
theorem dX1_findAll_120 : decode cX1_findAll 120 = .ok (.invokevirtual 60, 3) := by decide +kernel
theorem dX1_findAll_123 : decode cX1_findAll 123 = .ok (.iinc 4 1, 3) := by decide +kernel
theorem dX1_findAll_126 : decode cX1_findAll 126 = .ok (.goto (-56), 3) := by decide +kernel
theorem dX1_findAll_129 : decode cX1_findAll 129 = .ok (.iload_n 2, 1) := by decide +kernel
theorem dX1_findAll_130 : decode cX1_findAll 130 = .ok (.ireturn, 1) := by decide +kernel
theorem dX1_ofFirst_0 : decode cX1_ofFirst 0 = .ok (.iload_n 1, 1) := by decide +kernel
theorem dX1_ofFirst_1 : decode cX1_ofFirst 1 = .ok (.ifCond .lt 21, 3) := by decide +kernel
theorem dX1_ofFirst_4 : decode cX1_ofFirst 4 = .ok (.iload_n 1, 1) := by decide +kernel
theorem dX1_ofFirst_5 : decode cX1_ofFirst 5 = .ok (.aload_n 0, 1) := by decide +kernel
theorem dX1_ofFirst_6 : decode cX1_ofFirst 6 = .ok (.getfield 24, 3) := by decide +kernel
theorem dX1_ofFirst_9 : decode cX1_ofFirst 9 = .ok (.arraylength, 1) := by decide +kernel
theorem dX1_ofFirst_10 : decode cX1_ofFirst 10 = .ok (.if_icmp .ge 12, 3) := by decide +kernel
theorem dX1_ofFirst_13 : decode cX1_ofFirst 13 = .ok (.aload_n 0, 1) := by decide +kernel
theorem dX1_ofFirst_14 : decode cX1_ofFirst 14 = .ok (.getfield 24, 3) := by decide +kernel
theorem dX1_ofFirst_17 : decode cX1_ofFirst 17 = .ok (.iload_n 1, 1) := by decide +kernel
theorem dX1_ofFirst_18 : decode cX1_ofFirst 18 = .ok (.iaload, 1) := by decide +kernel
theorem dX1_ofFirst_19 : decode cX1_ofFirst 19 = .ok (.goto 4, 3) := by decide +kernel
theorem dX1_ofFirst_22 : decode cX1_ofFirst 22 = .ok (.iconst 0, 1) := by decide +kernel
theorem dX1_ofFirst_23 : decode cX1_ofFirst 23 = .ok (.ireturn, 1) := by decide +kernel
theorem dX2_init_0 : decode cX2_init 0 = .ok (.aload_n 0, 1) := by decide +kernel
theorem dX2_init_1 : decode cX2_init 1 = .ok (.invokespecial 3, 3) := by decide +kernel
theorem dX2_init_4 : decode cX2_init 4 = .ok (.aload_n 0, 1) := by decide +kernel
theorem dX2_init_5 : decode cX2_init 5 = .ok (.iload_n 1, 1) := by decide +kernel
theorem dX2_init_6 : decode cX2_init 6 = .ok (.putfield 9, 3) := by decide +kernel
theorem dX2_init_9 : decode cX2_init 9 = .ok (.aload_n 0, 1) := by decide +kernel
theorem dX2_init_10 : decode cX2_init 10 = .ok (.iload_n 2, 1) := by decide +kernel
theorem dX2_init_11 : decode cX2_init 11 = .ok (.putfield 15, 3) := by decide +kernel
theorem dX2_init_14 : decode cX2_init 14 = .ok (.aload_n 0, 1) := by decide +kernel
theorem dX2_init_15 : decode cX2_init 15 = .ok (.aload_n 3, 1) := by decide +kernel
theorem dX2_init_16 : decode cX2_init 16 = .ok (.putfield 18, 3) := by decide +kernel
theorem dX2_init_19 : decode cX2_init 19 = .ok (.return_, 1) := by decide +kernel
theorem dX2_packed_0 : decode cX2_packed 0 = .ok (.sipush 128, 3) := by decide +kernel
theorem dX2_packed_3 : decode cX2_packed 3 = .ok (.iload_n 0, 1) := by decide +kernel
theorem dX2_packed_4 : decode cX2_packed 4 = .ok (.iconst 3, 1) := by decide +kernel
theorem dX2_packed_5 : decode cX2_packed 5 = .ok (.imul, 1) := by decide +kernel
theorem dX2_packed_6 : decode cX2_packed 6 = .ok (.iload_n 1, 1) := by decide +kernel
theorem dX2_packed_7 : decode cX2_packed 7 = .ok (.iadd, 1) := by decide +kernel
theorem dX2_packed_8 : decode cX2_packed 8 = .ok (.bipush 100, 2) := by decide +kernel
theorem dX2_packed_10 : decode cX2_packed 10 = .ok (.imul, 1) := by decide +kernel
theorem dX2_packed_11 : decode cX2_packed 11 = .ok (.iadd, 1) := by decide +kernel
theorem dX2_packed_12 : decode cX2_packed 12 = .ok (.iload_n 2, 1) := by decide +kernel
theorem dX2_packed_13 : decode cX2_packed 13 = .ok (.iadd, 1) := by decide +kernel
theorem dX2_packed_14 : decode cX2_packed 14 = .ok (.ireturn, 1) := by decide +kernel
theorem dX2_holds_0 : decode cX2_holds 0 = .ok (.iconst 0, 1) := by decide +kernel
theorem dX2_holds_1 : decode cX2_holds 1 = .ok (.istore_n 2, 1) := by decide +kernel
theorem dX2_holds_2 : decode cX2_holds 2 = .ok (.iconst 1, 1) := by decide +kernel
theorem dX2_holds_3 : decode cX2_holds 3 = .ok (.istore_n 3, 1) := by decide +kernel
theorem dX2_holds_4 : decode cX2_holds 4 = .ok (.iconst 0, 1) := by decide +kernel
theorem dX2_holds_5 : decode cX2_holds 5 = .ok (.istore 4, 2) := by decide +kernel
theorem dX2_holds_7 : decode cX2_holds 7 = .ok (.aload_n 0, 1) := by decide +kernel
theorem dX2_holds_8 : decode cX2_holds 8 = .ok (.getfield 18, 3) := by decide +kernel
theorem dX2_holds_11 : decode cX2_holds 11 = .ok (.astore 5, 2) := by decide +kernel
theorem dX2_holds_13 : decode cX2_holds 13 = .ok (.aload 5, 2) := by decide +kernel
theorem dX2_holds_15 : decode cX2_holds 15 = .ok (.arraylength, 1) := by decide +kernel
theorem dX2_holds_16 : decode cX2_holds 16 = .ok (.istore 6, 2) := by decide +kernel
theorem dX2_holds_18 : decode cX2_holds 18 = .ok (.iconst 0, 1) := by decide +kernel
theorem dX2_holds_19 : decode cX2_holds 19 = .ok (.istore 7, 2) := by decide +kernel
theorem dX2_holds_21 : decode cX2_holds 21 = .ok (.iload 7, 2) := by decide +kernel
theorem dX2_holds_23 : decode cX2_holds 23 = .ok (.iload 6, 2) := by decide +kernel
theorem dX2_holds_25 : decode cX2_holds 25 = .ok (.if_icmp .ge 142, 3) := by decide +kernel
theorem dX2_holds_28 : decode cX2_holds 28 = .ok (.aload 5, 2) := by decide +kernel
theorem dX2_holds_30 : decode cX2_holds 30 = .ok (.iload 7, 2) := by decide +kernel
theorem dX2_holds_32 : decode cX2_holds 32 = .ok (.iaload, 1) := by decide +kernel
theorem dX2_holds_33 : decode cX2_holds 33 = .ok (.istore 8, 2) := by decide +kernel
theorem dX2_holds_35 : decode cX2_holds 35 = .ok (.iload 8, 2) := by decide +kernel
theorem dX2_holds_37 : decode cX2_holds 37 = .ok (.bipush 40, 2) := by decide +kernel
theorem dX2_holds_39 : decode cX2_holds 39 = .ok (.if_icmp .ne 22, 3) := by decide +kernel
theorem dX2_holds_42 : decode cX2_holds 42 = .ok (.iload_n 2, 1) := by decide +kernel
theorem dX2_holds_43 : decode cX2_holds 43 = .ok (.iconst 1, 1) := by decide +kernel
theorem dX2_holds_44 : decode cX2_holds 44 = .ok (.ishl, 1) := by decide +kernel
theorem dX2_holds_45 : decode cX2_holds 45 = .ok (.istore_n 2, 1) := by decide +kernel
theorem dX2_holds_46 : decode cX2_holds 46 = .ok (.iload_n 3, 1) := by decide +kernel
theorem dX2_holds_47 : decode cX2_holds 47 = .ok (.iconst 1, 1) := by decide +kernel
theorem dX2_holds_48 : decode cX2_holds 48 = .ok (.ishl, 1) := by decide +kernel
theorem dX2_holds_49 : decode cX2_holds 49 = .ok (.iconst 1, 1) := by decide +kernel
theorem dX2_holds_50 : decode cX2_holds 50 = .ok (.ior, 1) := by decide +kernel
theorem dX2_holds_51 : decode cX2_holds 51 = .ok (.istore_n 3, 1) := by decide +kernel
theorem dX2_holds_52 : decode cX2_holds 52 = .ok (.iload 4, 2) := by decide +kernel
theorem dX2_holds_54 : decode cX2_holds 54 = .ok (.iconst 1, 1) := by decide +kernel
theorem dX2_holds_55 : decode cX2_holds 55 = .ok (.ishl, 1) := by decide +kernel
theorem dX2_holds_56 : decode cX2_holds 56 = .ok (.istore 4, 2) := by decide +kernel
theorem dX2_holds_58 : decode cX2_holds 58 = .ok (.goto 103, 3) := by decide +kernel
theorem dX2_holds_61 : decode cX2_holds 61 = .ok (.iload 8, 2) := by decide +kernel
theorem dX2_holds_63 : decode cX2_holds 63 = .ok (.bipush 33, 2) := by decide +kernel
theorem dX2_holds_65 : decode cX2_holds 65 = .ok (.if_icmp .ne 12, 3) := by decide +kernel
theorem dX2_holds_68 : decode cX2_holds 68 = .ok (.iload 4, 2) := by decide +kernel
theorem dX2_holds_70 : decode cX2_holds 70 = .ok (.iconst 1, 1) := by decide +kernel
theorem dX2_holds_71 : decode cX2_holds 71 = .ok (.ixor, 1) := by decide +kernel
theorem dX2_holds_72 : decode cX2_holds 72 = .ok (.istore 4, 2) := by decide +kernel
theorem dX2_holds_74 : decode cX2_holds 74 = .ok (.goto 87, 3) := by decide +kernel
theorem dX2_holds_77 : decode cX2_holds 77 = .ok (.iload 8, 2) := by decide +kernel
theorem dX2_holds_79 : decode cX2_holds 79 = .ok (.bipush 124, 2) := by decide +kernel
theorem dX2_holds_81 : decode cX2_holds 81 = .ok (.if_icmp .ne 16, 3) := by decide +kernel
theorem dX2_holds_84 : decode cX2_holds 84 = .ok (.iload_n 2, 1) := by decide +kernel
theorem dX2_holds_85 : decode cX2_holds 85 = .ok (.iload_n 3, 1) := by decide +kernel
theorem dX2_holds_86 : decode cX2_holds 86 = .ok (.iconst 1, 1) := by decide +kernel
theorem dX2_holds_87 : decode cX2_holds 87 = .ok (.iand, 1) := by decide +kernel
theorem dX2_holds_88 : decode cX2_holds 88 = .ok (.ior, 1) := by decide +kernel
theorem dX2_holds_89 : decode cX2_holds 89 = .ok (.istore_n 2, 1) := by decide +kernel
theorem dX2_holds_90 : decode cX2_holds 90 = .ok (.iload_n 3, 1) := by decide +kernel
theorem dX2_holds_91 : decode cX2_holds 91 = .ok (.iconst 1, 1) := by decide +kernel
theorem dX2_holds_92 : decode cX2_holds 92 = .ok (.ior, 1) := by decide +kernel
theorem dX2_holds_93 : decode cX2_holds 93 = .ok (.istore_n 3, 1) := by decide +kernel
theorem dX2_holds_94 : decode cX2_holds 94 = .ok (.goto 67, 3) := by decide +kernel
theorem dX2_holds_97 : decode cX2_holds 97 = .ok (.iload 8, 2) := by decide +kernel
theorem dX2_holds_99 : decode cX2_holds 99 = .ok (.aload_n 1, 1) := by decide +kernel
theorem dX2_holds_100 : decode cX2_holds 100 = .ok (.invokestatic 22, 3) := by decide +kernel
theorem dX2_holds_103 : decode cX2_holds 103 = .ok (.ifCond .eq 7, 3) := by decide +kernel
theorem dX2_holds_106 : decode cX2_holds 106 = .ok (.iconst 1, 1) := by decide +kernel
theorem dX2_holds_107 : decode cX2_holds 107 = .ok (.goto 4, 3) := by decide +kernel
theorem dX2_holds_110 : decode cX2_holds 110 = .ok (.iconst 0, 1) := by decide +kernel
theorem dX2_holds_111 : decode cX2_holds 111 = .ok (.istore 9, 2) := by decide +kernel
theorem dX2_holds_113 : decode cX2_holds 113 = .ok (.iload 8, 2) := by decide +kernel
theorem dX2_holds_115 : decode cX2_holds 115 = .ok (.bipush 41, 2) := by decide +kernel
theorem dX2_holds_117 : decode cX2_holds 117 = .ok (.if_icmp .ne 24, 3) := by decide +kernel
theorem dX2_holds_120 : decode cX2_holds 120 = .ok (.iload_n 2, 1) := by decide +kernel
theorem dX2_holds_121 : decode cX2_holds 121 = .ok (.iload_n 3, 1) := by decide +kernel
theorem dX2_holds_122 : decode cX2_holds 122 = .ok (.ior, 1) := by decide +kernel
theorem dX2_holds_123 : decode cX2_holds 123 = .ok (.iconst 1, 1) := by decide +kernel
theorem dX2_holds_124 : decode cX2_holds 124 = .ok (.iand, 1) := by decide +kernel
theorem dX2_holds_125 : decode cX2_holds 125 = .ok (.istore 9, 2) := by decide +kernel
theorem dX2_holds_127 : decode cX2_holds 127 = .ok (.iload_n 2, 1) := by decide +kernel
theorem dX2_holds_128 : decode cX2_holds 128 = .ok (.iconst 1, 1) := by decide +kernel
theorem dX2_holds_129 : decode cX2_holds 129 = .ok (.ishr, 1) := by decide +kernel
theorem dX2_holds_130 : decode cX2_holds 130 = .ok (.istore_n 2, 1) := by decide +kernel
theorem dX2_holds_131 : decode cX2_holds 131 = .ok (.iload_n 3, 1) := by decide +kernel
theorem dX2_holds_132 : decode cX2_holds 132 = .ok (.iconst 1, 1) := by decide +kernel
theorem dX2_holds_133 : decode cX2_holds 133 = .ok (.ishr, 1) := by decide +kernel
theorem dX2_holds_134 : decode cX2_holds 134 = .ok (.istore_n 3, 1) := by decide +kernel
theorem dX2_holds_135 : decode cX2_holds 135 = .ok (.iload 4, 2) := by decide +kernel
theorem dX2_holds_137 : decode cX2_holds 137 = .ok (.iconst 1, 1) := by decide +kernel
theorem dX2_holds_138 : decode cX2_holds 138 = .ok (.ishr, 1) := by decide +kernel
theorem dX2_holds_139 : decode cX2_holds 139 = .ok (.istore 4, 2) := by decide +kernel
theorem dX2_holds_141 : decode cX2_holds 141 = .ok (.iload_n 3, 1) := by decide +kernel
theorem dX2_holds_142 : decode cX2_holds 142 = .ok (.bipush (-2), 2) := by decide +kernel
theorem dX2_holds_144 : decode cX2_holds 144 = .ok (.iload 9, 2) := by decide +kernel
theorem dX2_holds_146 : decode cX2_holds 146 = .ok (.iload 4, 2) := by decide +kernel
theorem dX2_holds_148 : decode cX2_holds 148 = .ok (.iconst 1, 1) := by decide +kernel
theorem dX2_holds_149 : decode cX2_holds 149 = .ok (.iand, 1) := by decide +kernel
theorem dX2_holds_150 : decode cX2_holds 150 = .ok (.ixor, 1) := by decide +kernel
theorem dX2_holds_151 : decode cX2_holds 151 = .ok (.ior, 1) := by decide +kernel
theorem dX2_holds_152 : decode cX2_holds 152 = .ok (.iand, 1) := by decide +kernel
theorem dX2_holds_153 : decode cX2_holds 153 = .ok (.istore_n 3, 1) := by decide +kernel
theorem dX2_holds_154 : decode cX2_holds 154 = .ok (.iload 4, 2) := by decide +kernel
theorem dX2_holds_156 : decode cX2_holds 156 = .ok (.bipush (-2), 2) := by decide +kernel
theorem dX2_holds_158 : decode cX2_holds 158 = .ok (.iand, 1) := by decide +kernel
theorem dX2_holds_159 : decode cX2_holds 159 = .ok (.istore 4, 2) := by decide +kernel
theorem dX2_holds_161 : decode cX2_holds 161 = .ok (.iinc 7 1, 3) := by decide +kernel
theorem dX2_holds_164 : decode cX2_holds 164 = .ok (.goto (-143), 3) := by decide +kernel
theorem dX2_holds_167 : decode cX2_holds 167 = .ok (.iload_n 2, 1) := by decide +kernel
theorem dX2_holds_168 : decode cX2_holds 168 = .ok (.iload_n 3, 1) := by decide +kernel
theorem dX2_holds_169 : decode cX2_holds 169 = .ok (.ior, 1) := by decide +kernel
theorem dX2_holds_170 : decode cX2_holds 170 = .ok (.iconst 1, 1) := by decide +kernel
theorem dX2_holds_171 : decode cX2_holds 171 = .ok (.iand, 1) := by decide +kernel
theorem dX2_holds_172 : decode cX2_holds 172 = .ok (.iconst 1, 1) := by decide +kernel
theorem dX2_holds_173 : decode cX2_holds 173 = .ok (.if_icmp .ne 7, 3) := by decide +kernel
theorem dX2_holds_176 : decode cX2_holds 176 = .ok (.iconst 1, 1) := by decide +kernel
theorem dX2_holds_177 : decode cX2_holds 177 = .ok (.goto 4, 3) := by decide +kernel
theorem dX2_holds_180 : decode cX2_holds 180 = .ok (.iconst 0, 1) := by decide +kernel
theorem dX2_holds_181 : decode cX2_holds 181 = .ok (.ireturn, 1) := by decide +kernel
theorem dX2_isSo_0 : decode cX2_isSo 0 = .ok (.iload_n 0, 1) := by decide +kernel
theorem dX2_isSo_1 : decode cX2_isSo 1 = .ok (.sipush 128, 3) := by decide +kernel
theorem dX2_isSo_4 : decode cX2_isSo 4 = .ok (.isub, 1) := by decide +kernel
theorem dX2_isSo_5 : decode cX2_isSo 5 = .ok (.istore_n 2, 1) := by decide +kernel
theorem dX2_isSo_6 : decode cX2_isSo 6 = .ok (.iload_n 2, 1) := by decide +kernel
theorem dX2_isSo_7 : decode cX2_isSo 7 = .ok (.sipush 300, 3) := by decide +kernel
theorem dX2_isSo_10 : decode cX2_isSo 10 = .ok (.idiv, 1) := by decide +kernel
theorem dX2_isSo_11 : decode cX2_isSo 11 = .ok (.istore_n 3, 1) := by decide +kernel
theorem dX2_isSo_12 : decode cX2_isSo 12 = .ok (.iload_n 2, 1) := by decide +kernel
theorem dX2_isSo_13 : decode cX2_isSo 13 = .ok (.ifCond .lt 9, 3) := by decide +kernel
theorem dX2_isSo_16 : decode cX2_isSo 16 = .ok (.iload_n 3, 1) := by decide +kernel
theorem dX2_isSo_17 : decode cX2_isSo 17 = .ok (.aload_n 1, 1) := by decide +kernel
theorem dX2_isSo_18 : decode cX2_isSo 18 = .ok (.arraylength, 1) := by decide +kernel
theorem dX2_isSo_19 : decode cX2_isSo 19 = .ok (.if_icmp .lt 5, 3) := by decide +kernel
theorem dX2_isSo_22 : decode cX2_isSo 22 = .ok (.iconst 0, 1) := by decide +kernel
theorem dX2_isSo_23 : decode cX2_isSo 23 = .ok (.ireturn, 1) := by decide +kernel
theorem dX2_isSo_24 : decode cX2_isSo 24 = .ok (.aload_n 1, 1) := by decide +kernel
theorem dX2_isSo_25 : decode cX2_isSo 25 = .ok (.iload_n 3, 1) := by decide +kernel
theorem dX2_isSo_26 : decode cX2_isSo 26 = .ok (.iaload, 1) := by decide +kernel
theorem dX2_isSo_27 : decode cX2_isSo 27 = .ok (.iload_n 2, 1) := by decide +kernel
theorem dX2_isSo_28 : decode cX2_isSo 28 = .ok (.bipush 100, 2) := by decide +kernel
theorem dX2_isSo_30 : decode cX2_isSo 30 = .ok (.irem, 1) := by decide +kernel
theorem dX2_isSo_31 : decode cX2_isSo 31 = .ok (.isub, 1) := by decide +kernel
theorem dX2_isSo_32 : decode cX2_isSo 32 = .ok (.istore 4, 2) := by decide +kernel
theorem dX2_isSo_34 : decode cX2_isSo 34 = .ok (.iload_n 2, 1) := by decide +kernel
theorem dX2_isSo_35 : decode cX2_isSo 35 = .ok (.bipush 100, 2) := by decide +kernel
theorem dX2_isSo_37 : decode cX2_isSo 37 = .ok (.idiv, 1) := by decide +kernel
theorem dX2_isSo_38 : decode cX2_isSo 38 = .ok (.iconst 3, 1) := by decide +kernel
theorem dX2_isSo_39 : decode cX2_isSo 39 = .ok (.irem, 1) := by decide +kernel
theorem dX2_isSo_40 : decode cX2_isSo 40 = .ok (.lookupswitch 50 #[(0, 28), (1, 39)], 28) := by decide +kernel
theorem dX2_isSo_68 : decode cX2_isSo 68 = .ok (.iload 4, 2) := by decide +kernel
theorem dX2_isSo_70 : decode cX2_isSo 70 = .ok (.ifCond .ge 7, 3) := by decide +kernel
theorem dX2_isSo_73 : decode cX2_isSo 73 = .ok (.iconst 1, 1) := by decide +kernel
theorem dX2_isSo_74 : decode cX2_isSo 74 = .ok (.goto 4, 3) := by decide +kernel
theorem dX2_isSo_77 : decode cX2_isSo 77 = .ok (.iconst 0, 1) := by decide +kernel
theorem dX2_isSo_78 : decode cX2_isSo 78 = .ok (.ireturn, 1) := by decide +kernel
theorem dX2_isSo_79 : decode cX2_isSo 79 = .ok (.iload 4, 2) := by decide +kernel
theorem dX2_isSo_81 : decode cX2_isSo 81 = .ok (.ifCond .ne 7, 3) := by decide +kernel
theorem dX2_isSo_84 : decode cX2_isSo 84 = .ok (.iconst 1, 1) := by decide +kernel
theorem dX2_isSo_85 : decode cX2_isSo 85 = .ok (.goto 4, 3) := by decide +kernel
theorem dX2_isSo_88 : decode cX2_isSo 88 = .ok (.iconst 0, 1) := by decide +kernel
theorem dX2_isSo_89 : decode cX2_isSo 89 = .ok (.ireturn, 1) := by decide +kernel
theorem dX2_isSo_90 : decode cX2_isSo 90 = .ok (.iload 4, 2) := by decide +kernel
theorem dX2_isSo_92 : decode cX2_isSo 92 = .ok (.ifCond .le 7, 3) := by decide +kernel
theorem dX2_isSo_95 : decode cX2_isSo 95 = .ok (.iconst 1, 1) := by decide +kernel
theorem dX2_isSo_96 : decode cX2_isSo 96 = .ok (.goto 4, 3) := by decide +kernel
theorem dX2_isSo_99 : decode cX2_isSo 99 = .ok (.iconst 0, 1) := by decide +kernel
theorem dX2_isSo_100 : decode cX2_isSo 100 = .ok (.ireturn, 1) := by decide +kernel
theorem dX3_init_0 : decode cX3_init 0 = .ok (.aload_n 0, 1) := by decide +kernel
theorem dX3_init_1 : decode cX3_init 1 = .ok (.invokespecial 3, 3) := by decide +kernel
theorem dX3_init_4 : decode cX3_init 4 = .ok (.aload_n 0, 1) := by decide +kernel
theorem dX3_init_5 : decode cX3_init 5 = .ok (.new 9, 3) := by decide +kernel
theorem dX3_init_8 : decode cX3_init 8 = .ok (.dup, 1) := by decide +kernel
theorem dX3_init_9 : decode cX3_init 9 = .ok (.iconst 4, 1) := by decide +kernel
theorem dX3_init_10 : decode cX3_init 10 = .ok (.invokespecial 11, 3) := by decide +kernel
theorem dX3_init_13 : decode cX3_init 13 = .ok (.putfield 14, 3) := by decide +kernel
theorem dX3_init_16 : decode cX3_init 16 = .ok (.aload_n 0, 1) := by decide +kernel
theorem dX3_init_17 : decode cX3_init 17 = .ok (.bipush 40, 2) := by decide +kernel
theorem dX3_init_19 : decode cX3_init 19 = .ok (.newarray .int, 2) := by decide +kernel
theorem dX3_init_21 : decode cX3_init 21 = .ok (.putfield 20, 3) := by decide +kernel
theorem dX3_init_24 : decode cX3_init 24 = .ok (.aload_n 0, 1) := by decide +kernel
theorem dX3_init_25 : decode cX3_init 25 = .ok (.iconst 4, 1) := by decide +kernel
theorem dX3_init_26 : decode cX3_init 26 = .ok (.newarray .int, 2) := by decide +kernel
theorem dX3_init_28 : decode cX3_init 28 = .ok (.putfield 24, 3) := by decide +kernel
theorem dX3_init_31 : decode cX3_init 31 = .ok (.aload_n 0, 1) := by decide +kernel
theorem dX3_init_32 : decode cX3_init 32 = .ok (.iconst 0, 1) := by decide +kernel
theorem dX3_init_33 : decode cX3_init 33 = .ok (.putfield 27, 3) := by decide +kernel
theorem dX3_init_36 : decode cX3_init 36 = .ok (.aload_n 0, 1) := by decide +kernel
theorem dX3_init_37 : decode cX3_init 37 = .ok (.bipush 40, 2) := by decide +kernel
theorem dX3_init_39 : decode cX3_init 39 = .ok (.newarray .int, 2) := by decide +kernel
theorem dX3_init_41 : decode cX3_init 41 = .ok (.putfield 31, 3) := by decide +kernel
theorem dX3_init_44 : decode cX3_init 44 = .ok (.aload_n 0, 1) := by decide +kernel
theorem dX3_init_45 : decode cX3_init 45 = .ok (.bipush 48, 2) := by decide +kernel
theorem dX3_init_47 : decode cX3_init 47 = .ok (.newarray .int, 2) := by decide +kernel
theorem dX3_init_49 : decode cX3_init 49 = .ok (.putfield 34, 3) := by decide +kernel
theorem dX3_init_52 : decode cX3_init 52 = .ok (.aload_n 0, 1) := by decide +kernel
theorem dX3_init_53 : decode cX3_init 53 = .ok (.aload_n 1, 1) := by decide +kernel
theorem dX3_init_54 : decode cX3_init 54 = .ok (.putfield 37, 3) := by decide +kernel
theorem dX3_init_57 : decode cX3_init 57 = .ok (.return_, 1) := by decide +kernel
theorem dX3_start_0 : decode cX3_start 0 = .ok (.aload_n 0, 1) := by decide +kernel
theorem dX3_start_1 : decode cX3_start 1 = .ok (.getfield 37, 3) := by decide +kernel
theorem dX3_start_4 : decode cX3_start 4 = .ok (.invokevirtual 41, 3) := by decide +kernel
theorem dX3_start_7 : decode cX3_start 7 = .ok (.istore_n 1, 1) := by decide +kernel
theorem dX3_start_8 : decode cX3_start 8 = .ok (.iconst 0, 1) := by decide +kernel
theorem dX3_start_9 : decode cX3_start 9 = .ok (.istore_n 2, 1) := by decide +kernel
theorem dX3_start_10 : decode cX3_start 10 = .ok (.iload_n 2, 1) := by decide +kernel
theorem dX3_start_11 : decode cX3_start 11 = .ok (.iconst 4, 1) := by decide +kernel
theorem dX3_start_12 : decode cX3_start 12 = .ok (.if_icmp .ge 135, 3) := by decide +kernel
theorem dX3_start_15 : decode cX3_start 15 = .ok (.aload_n 0, 1) := by decide +kernel
theorem dX3_start_16 : decode cX3_start 16 = .ok (.getfield 37, 3) := by decide +kernel
theorem dX3_start_19 : decode cX3_start 19 = .ok (.getfield 47, 3) := by decide +kernel
theorem dX3_start_22 : decode cX3_start 22 = .ok (.iload_n 2, 1) := by decide +kernel
theorem dX3_start_23 : decode cX3_start 23 = .ok (.invokevirtual 51, 3) := by decide +kernel
theorem dX3_start_26 : decode cX3_start 26 = .ok (.istore_n 3, 1) := by decide +kernel
theorem dX3_start_27 : decode cX3_start 27 = .ok (.aload_n 0, 1) := by decide +kernel
theorem dX3_start_28 : decode cX3_start 28 = .ok (.getfield 37, 3) := by decide +kernel
theorem dX3_start_31 : decode cX3_start 31 = .ok (.getfield 47, 3) := by decide +kernel
theorem dX3_start_34 : decode cX3_start 34 = .ok (.iload_n 2, 1) := by decide +kernel
theorem dX3_start_35 : decode cX3_start 35 = .ok (.iconst 3, 1) := by decide +kernel
theorem dX3_start_36 : decode cX3_start 36 = .ok (.invokevirtual 57, 3) := by decide +kernel
theorem dX3_start_39 : decode cX3_start 39 = .ok (.istore 4, 2) := by decide +kernel
theorem dX3_start_41 : decode cX3_start 41 = .ok (.aload_n 0, 1) := by decide +kernel
theorem dX3_start_42 : decode cX3_start 42 = .ok (.getfield 14, 3) := by decide +kernel
theorem dX3_start_45 : decode cX3_start 45 = .ok (.iload_n 2, 1) := by decide +kernel
theorem dX3_start_46 : decode cX3_start 46 = .ok (.iload_n 3, 1) := by decide +kernel
theorem dX3_start_47 : decode cX3_start 47 = .ok (.ifCond .eq 7, 3) := by decide +kernel
theorem dX3_start_50 : decode cX3_start 50 = .ok (.iconst 1, 1) := by decide +kernel
theorem dX3_start_51 : decode cX3_start 51 = .ok (.goto 4, 3) := by decide +kernel
theorem dX3_start_54 : decode cX3_start 54 = .ok (.iconst 0, 1) := by decide +kernel
theorem dX3_start_55 : decode cX3_start 55 = .ok (.iload_n 3, 1) := by decide +kernel
theorem dX3_start_56 : decode cX3_start 56 = .ok (.ifCond .eq 7, 3) := by decide +kernel
theorem dX3_start_59 : decode cX3_start 59 = .ok (.iload_n 1, 1) := by decide +kernel
theorem dX3_start_60 : decode cX3_start 60 = .ok (.goto 4, 3) := by decide +kernel
theorem dX3_start_63 : decode cX3_start 63 = .ok (.iconst 0, 1) := by decide +kernel
theorem dX3_start_64 : decode cX3_start 64 = .ok (.invokevirtual 61, 3) := by decide +kernel
theorem dX3_start_67 : decode cX3_start 67 = .ok (.iconst 0, 1) := by decide +kernel
theorem dX3_start_68 : decode cX3_start 68 = .ok (.istore 5, 2) := by decide +kernel
theorem dX3_start_70 : decode cX3_start 70 = .ok (.iload 5, 2) := by decide +kernel
theorem dX3_start_72 : decode cX3_start 72 = .ok (.bipush 10, 2) := by decide +kernel
theorem dX3_start_74 : decode cX3_start 74 = .ok (.if_icmp .ge 67, 3) := by decide +kernel
theorem dX3_start_77 : decode cX3_start 77 = .ok (.iload_n 2, 1) := by decide +kernel
theorem dX3_start_78 : decode cX3_start 78 = .ok (.bipush 10, 2) := by decide +kernel
theorem dX3_start_80 : decode cX3_start 80 = .ok (.imul, 1) := by decide +kernel
theorem dX3_start_81 : decode cX3_start 81 = .ok (.iload 5, 2) := by decide +kernel
theorem dX3_start_83 : decode cX3_start 83 = .ok (.iadd, 1) := by decide +kernel
theorem dX3_start_84 : decode cX3_start 84 = .ok (.istore 6, 2) := by decide +kernel
theorem dX3_start_86 : decode cX3_start 86 = .ok (.iload 6, 2) := by decide +kernel
theorem dX3_start_88 : decode cX3_start 88 = .ok (.aload_n 0, 1) := by decide +kernel
theorem dX3_start_89 : decode cX3_start 89 = .ok (.getfield 20, 3) := by decide +kernel
theorem dX3_start_92 : decode cX3_start 92 = .ok (.arraylength, 1) := by decide +kernel
theorem dX3_start_93 : decode cX3_start 93 = .ok (.if_icmp .ge 42, 3) := by decide +kernel
theorem dX3_start_96 : decode cX3_start 96 = .ok (.aload_n 0, 1) := by decide +kernel
theorem dX3_start_97 : decode cX3_start 97 = .ok (.getfield 20, 3) := by decide +kernel
theorem dX3_start_100 : decode cX3_start 100 = .ok (.iload 6, 2) := by decide +kernel
theorem dX3_start_102 : decode cX3_start 102 = .ok (.iload_n 3, 1) := by decide +kernel
theorem dX3_start_103 : decode cX3_start 103 = .ok (.ifCond .eq 30, 3) := by decide +kernel
theorem dX3_start_106 : decode cX3_start 106 = .ok (.iload 5, 2) := by decide +kernel
theorem dX3_start_108 : decode cX3_start 108 = .ok (.ifCond .le 25, 3) := by decide +kernel
theorem dX3_start_111 : decode cX3_start 111 = .ok (.aload_n 0, 1) := by decide +kernel
theorem dX3_start_112 : decode cX3_start 112 = .ok (.getfield 37, 3) := by decide +kernel
theorem dX3_start_115 : decode cX3_start 115 = .ok (.iload_n 2, 1) := by decide +kernel
theorem dX3_start_116 : decode cX3_start 116 = .ok (.iload 5, 2) := by decide +kernel
theorem dX3_start_118 : decode cX3_start 118 = .ok (.iload 4, 2) := by decide +kernel
theorem dX3_start_120 : decode cX3_start 120 = .ok (.aload_n 0, 1) := by decide +kernel
theorem dX3_start_121 : decode cX3_start 121 = .ok (.getfield 37, 3) := by decide +kernel
theorem dX3_start_124 : decode cX3_start 124 = .ok (.getfield 65, 3) := by decide +kernel
theorem dX3_start_127 : decode cX3_start 127 = .ok (.invokevirtual 68, 3) := by decide +kernel
theorem dX3_start_130 : decode cX3_start 130 = .ok (.goto 4, 3) := by decide +kernel
theorem dX3_start_133 : decode cX3_start 133 = .ok (.iconst 0, 1) := by decide +kernel
theorem dX3_start_134 : decode cX3_start 134 = .ok (.iastore, 1) := by decide +kernel
theorem dX3_start_135 : decode cX3_start 135 = .ok (.iinc 5 1, 3) := by decide +kernel
theorem dX3_start_138 : decode cX3_start 138 = .ok (.goto (-68), 3) := by decide +kernel
theorem dX3_start_141 : decode cX3_start 141 = .ok (.iinc 2 1, 3) := by decide +kernel
theorem dX3_start_144 : decode cX3_start 144 = .ok (.goto (-134), 3) := by decide +kernel
theorem dX3_start_147 : decode cX3_start 147 = .ok (.aload_n 0, 1) := by decide +kernel
theorem dX3_start_148 : decode cX3_start 148 = .ok (.getfield 14, 3) := by decide +kernel
theorem dX3_start_151 : decode cX3_start 151 = .ok (.invokevirtual 72, 3) := by decide +kernel
theorem dX3_start_154 : decode cX3_start 154 = .ok (.ireturn, 1) := by decide +kernel
theorem dX3_weigh_0 : decode cX3_weigh 0 = .ok (.iconst 0, 1) := by decide +kernel
theorem dX3_weigh_1 : decode cX3_weigh 1 = .ok (.istore_n 1, 1) := by decide +kernel
theorem dX3_weigh_2 : decode cX3_weigh 2 = .ok (.iload_n 1, 1) := by decide +kernel
theorem dX3_weigh_3 : decode cX3_weigh 3 = .ok (.aload_n 0, 1) := by decide +kernel
theorem dX3_weigh_4 : decode cX3_weigh 4 = .ok (.getfield 24, 3) := by decide +kernel
theorem dX3_weigh_7 : decode cX3_weigh 7 = .ok (.arraylength, 1) := by decide +kernel
theorem dX3_weigh_8 : decode cX3_weigh 8 = .ok (.if_icmp .ge 52, 3) := by decide +kernel
theorem dX3_weigh_11 : decode cX3_weigh 11 = .ok (.iload_n 1, 1) := by decide +kernel
theorem dX3_weigh_12 : decode cX3_weigh 12 = .ok (.bipush 10, 2) := by decide +kernel
theorem dX3_weigh_14 : decode cX3_weigh 14 = .ok (.imul, 1) := by decide +kernel
theorem dX3_weigh_15 : decode cX3_weigh 15 = .ok (.aload_n 0, 1) := by decide +kernel
theorem dX3_weigh_16 : decode cX3_weigh 16 = .ok (.getfield 14, 3) := by decide +kernel
theorem dX3_weigh_19 : decode cX3_weigh 19 = .ok (.iload_n 1, 1) := by decide +kernel
theorem dX3_weigh_20 : decode cX3_weigh 20 = .ok (.invokevirtual 75, 3) := by decide +kernel
theorem dX3_weigh_23 : decode cX3_weigh 23 = .ok (.iadd, 1) := by decide +kernel
theorem dX3_weigh_24 : decode cX3_weigh 24 = .ok (.istore_n 2, 1) := by decide +kernel
theorem dX3_weigh_25 : decode cX3_weigh 25 = .ok (.aload_n 0, 1) := by decide +kernel
theorem dX3_weigh_26 : decode cX3_weigh 26 = .ok (.getfield 24, 3) := by decide +kernel
theorem dX3_weigh_29 : decode cX3_weigh 29 = .ok (.iload_n 1, 1) := by decide +kernel
theorem dX3_weigh_30 : decode cX3_weigh 30 = .ok (.iload_n 2, 1) := by decide +kernel
theorem dX3_weigh_31 : decode cX3_weigh 31 = .ok (.ifCond .lt 21, 3) := by decide +kernel
theorem dX3_weigh_34 : decode cX3_weigh 34 = .ok (.iload_n 2, 1) := by decide +kernel
theorem dX3_weigh_35 : decode cX3_weigh 35 = .ok (.aload_n 0, 1) := by decide +kernel
theorem dX3_weigh_36 : decode cX3_weigh 36 = .ok (.getfield 20, 3) := by decide +kernel
theorem dX3_weigh_39 : decode cX3_weigh 39 = .ok (.arraylength, 1) := by decide +kernel
theorem dX3_weigh_40 : decode cX3_weigh 40 = .ok (.if_icmp .ge 12, 3) := by decide +kernel
theorem dX3_weigh_43 : decode cX3_weigh 43 = .ok (.aload_n 0, 1) := by decide +kernel
theorem dX3_weigh_44 : decode cX3_weigh 44 = .ok (.getfield 20, 3) := by decide +kernel
theorem dX3_weigh_47 : decode cX3_weigh 47 = .ok (.iload_n 2, 1) := by decide +kernel
theorem dX3_weigh_48 : decode cX3_weigh 48 = .ok (.iaload, 1) := by decide +kernel
theorem dX3_weigh_49 : decode cX3_weigh 49 = .ok (.goto 4, 3) := by decide +kernel
theorem dX3_weigh_52 : decode cX3_weigh 52 = .ok (.iconst 0, 1) := by decide +kernel
theorem dX3_weigh_53 : decode cX3_weigh 53 = .ok (.iastore, 1) := by decide +kernel
theorem dX3_weigh_54 : decode cX3_weigh 54 = .ok (.iinc 1 1, 3) := by decide +kernel
theorem dX3_weigh_57 : decode cX3_weigh 57 = .ok (.goto (-55), 3) := by decide +kernel
theorem dX3_weigh_60 : decode cX3_weigh 60 = .ok (.return_, 1) := by decide +kernel
theorem dX3_surplus_0 : decode cX3_surplus 0 = .ok (.aload_n 0, 1) := by decide +kernel
theorem dX3_surplus_1 : decode cX3_surplus 1 = .ok (.getfield 37, 3) := by decide +kernel
theorem dX3_surplus_4 : decode cX3_surplus 4 = .ok (.getfield 78, 3) := by decide +kernel
theorem dX3_surplus_7 : decode cX3_surplus 7 = .ok (.iload_n 1, 1) := by decide +kernel
theorem dX3_surplus_8 : decode cX3_surplus 8 = .ok (.iconst 1, 1) := by decide +kernel
theorem dX3_surplus_9 : decode cX3_surplus 9 = .ok (.aload_n 0, 1) := by decide +kernel
theorem dX3_surplus_10 : decode cX3_surplus 10 = .ok (.getfield 24, 3) := by decide +kernel
theorem dX3_surplus_13 : decode cX3_surplus 13 = .ok (.invokevirtual 81, 3) := by decide +kernel
theorem dX3_surplus_16 : decode cX3_surplus 16 = .ok (.aload_n 0, 1) := by decide +kernel
theorem dX3_surplus_17 : decode cX3_surplus 17 = .ok (.getfield 37, 3) := by decide +kernel
theorem dX3_surplus_20 : decode cX3_surplus 20 = .ok (.getfield 78, 3) := by decide +kernel
theorem dX3_surplus_23 : decode cX3_surplus 23 = .ok (.iload_n 1, 1) := by decide +kernel
theorem dX3_surplus_24 : decode cX3_surplus 24 = .ok (.iconst 0, 1) := by decide +kernel
theorem dX3_surplus_25 : decode cX3_surplus 25 = .ok (.invokevirtual 57, 3) := by decide +kernel
theorem dX3_surplus_28 : decode cX3_surplus 28 = .ok (.isub, 1) := by decide +kernel
theorem dX3_surplus_29 : decode cX3_surplus 29 = .ok (.ireturn, 1) := by decide +kernel
theorem dX3_soFar_0 : decode cX3_soFar 0 = .ok (.aload_n 0, 1) := by decide +kernel
theorem dX3_soFar_1 : decode cX3_soFar 1 = .ok (.getfield 37, 3) := by decide +kernel
theorem dX3_soFar_4 : decode cX3_soFar 4 = .ok (.getfield 78, 3) := by decide +kernel
theorem dX3_soFar_7 : decode cX3_soFar 7 = .ok (.invokevirtual 85, 3) := by decide +kernel
theorem dX3_soFar_10 : decode cX3_soFar 10 = .ok (.istore_n 2, 1) := by decide +kernel
theorem dX3_soFar_11 : decode cX3_soFar 11 = .ok (.iconst 0, 1) := by decide +kernel
theorem dX3_soFar_12 : decode cX3_soFar 12 = .ok (.istore_n 3, 1) := by decide +kernel
theorem dX3_soFar_13 : decode cX3_soFar 13 = .ok (.iload_n 3, 1) := by decide +kernel
theorem dX3_soFar_14 : decode cX3_soFar 14 = .ok (.iload_n 2, 1) := by decide +kernel
theorem dX3_soFar_15 : decode cX3_soFar 15 = .ok (.if_icmp .ge 29, 3) := by decide +kernel
theorem dX3_soFar_18 : decode cX3_soFar 18 = .ok (.aload_n 0, 1) := by decide +kernel
theorem dX3_soFar_19 : decode cX3_soFar 19 = .ok (.iload_n 3, 1) := by decide +kernel
theorem dX3_soFar_20 : decode cX3_soFar 20 = .ok (.invokevirtual 88, 3) := by decide +kernel
theorem dX3_soFar_23 : decode cX3_soFar 23 = .ok (.istore 4, 2) := by decide +kernel
theorem dX3_soFar_25 : decode cX3_soFar 25 = .ok (.iload 4, 2) := by decide +kernel
theorem dX3_soFar_27 : decode cX3_soFar 27 = .ok (.ifCond .lt 9, 3) := by decide +kernel
theorem dX3_soFar_30 : decode cX3_soFar 30 = .ok (.iload 4, 2) := by decide +kernel
theorem dX3_soFar_32 : decode cX3_soFar 32 = .ok (.iload_n 1, 1) := by decide +kernel
theorem dX3_soFar_33 : decode cX3_soFar 33 = .ok (.if_icmp .le 5, 3) := by decide +kernel
theorem dX3_soFar_36 : decode cX3_soFar 36 = .ok (.iload_n 3, 1) := by decide +kernel
theorem dX3_soFar_37 : decode cX3_soFar 37 = .ok (.ireturn, 1) := by decide +kernel
theorem dX3_soFar_38 : decode cX3_soFar 38 = .ok (.iinc 3 1, 3) := by decide +kernel
theorem dX3_soFar_41 : decode cX3_soFar 41 = .ok (.goto (-28), 3) := by decide +kernel
theorem dX3_soFar_44 : decode cX3_soFar 44 = .ok (.iload_n 2, 1) := by decide +kernel
theorem dX3_soFar_45 : decode cX3_soFar 45 = .ok (.ireturn, 1) := by decide +kernel
theorem dX3_survey_0 : decode cX3_survey 0 = .ok (.aload_n 0, 1) := by decide +kernel
theorem dX3_survey_1 : decode cX3_survey 1 = .ok (.iconst 0, 1) := by decide +kernel
theorem dX3_survey_2 : decode cX3_survey 2 = .ok (.putfield 27, 3) := by decide +kernel
theorem dX3_survey_5 : decode cX3_survey 5 = .ok (.aload_n 0, 1) := by decide +kernel
theorem dX3_survey_6 : decode cX3_survey 6 = .ok (.getfield 31, 3) := by decide +kernel
theorem dX3_survey_9 : decode cX3_survey 9 = .ok (.iconst 0, 1) := by decide +kernel
theorem dX3_survey_10 : decode cX3_survey 10 = .ok (.invokestatic 91, 3) := by decide +kernel
theorem dX3_survey_13 : decode cX3_survey 13 = .ok (.aload_n 0, 1) := by decide +kernel
theorem dX3_survey_14 : decode cX3_survey 14 = .ok (.getfield 34, 3) := by decide +kernel
theorem dX3_survey_17 : decode cX3_survey 17 = .ok (.iconst 0, 1) := by decide +kernel
theorem dX3_survey_18 : decode cX3_survey 18 = .ok (.invokestatic 91, 3) := by decide +kernel
theorem dX3_survey_21 : decode cX3_survey 21 = .ok (.aload_n 0, 1) := by decide +kernel
theorem dX3_survey_22 : decode cX3_survey 22 = .ok (.getfield 37, 3) := by decide +kernel
theorem dX3_survey_25 : decode cX3_survey 25 = .ok (.invokevirtual 97, 3) := by decide +kernel
theorem dX3_survey_28 : decode cX3_survey 28 = .ok (.istore_n 1, 1) := by decide +kernel
theorem dX3_survey_29 : decode cX3_survey 29 = .ok (.aload_n 0, 1) := by decide +kernel
theorem dX3_survey_30 : decode cX3_survey 30 = .ok (.getfield 37, 3) := by decide +kernel
theorem dX3_survey_33 : decode cX3_survey 33 = .ok (.getfield 78, 3) := by decide +kernel
theorem dX3_survey_36 : decode cX3_survey 36 = .ok (.invokevirtual 85, 3) := by decide +kernel
theorem dX3_survey_39 : decode cX3_survey 39 = .ok (.istore_n 2, 1) := by decide +kernel
theorem dX3_survey_40 : decode cX3_survey 40 = .ok (.aload_n 0, 1) := by decide +kernel
theorem dX3_survey_41 : decode cX3_survey 41 = .ok (.invokevirtual 100, 3) := by decide +kernel
theorem dX3_survey_44 : decode cX3_survey 44 = .ok (.istore_n 3, 1) := by decide +kernel
theorem dX3_survey_45 : decode cX3_survey 45 = .ok (.iconst 0, 1) := by decide +kernel
theorem dX3_survey_46 : decode cX3_survey 46 = .ok (.istore 4, 2) := by decide +kernel
theorem dX3_survey_48 : decode cX3_survey 48 = .ok (.iload 4, 2) := by decide +kernel
theorem dX3_survey_50 : decode cX3_survey 50 = .ok (.iload_n 3, 1) := by decide +kernel
theorem dX3_survey_51 : decode cX3_survey 51 = .ok (.if_icmp .ge 33, 3) := by decide +kernel
theorem dX3_survey_54 : decode cX3_survey 54 = .ok (.aload_n 0, 1) := by decide +kernel
theorem dX3_survey_55 : decode cX3_survey 55 = .ok (.invokevirtual 101, 3) := by decide +kernel
theorem dX3_survey_58 : decode cX3_survey 58 = .ok (.aload_n 0, 1) := by decide +kernel
theorem dX3_survey_59 : decode cX3_survey 59 = .ok (.iload_n 1, 1) := by decide +kernel
theorem dX3_survey_60 : decode cX3_survey 60 = .ok (.invokevirtual 104, 3) := by decide +kernel
theorem dX3_survey_63 : decode cX3_survey 63 = .ok (.iload_n 2, 1) := by decide +kernel
theorem dX3_survey_64 : decode cX3_survey 64 = .ok (.if_icmp .ne 7, 3) := by decide +kernel
theorem dX3_survey_67 : decode cX3_survey 67 = .ok (.aload_n 0, 1) := by decide +kernel
theorem dX3_survey_68 : decode cX3_survey 68 = .ok (.invokevirtual 107, 3) := by decide +kernel
theorem dX3_survey_71 : decode cX3_survey 71 = .ok (.aload_n 0, 1) := by decide +kernel
theorem dX3_survey_72 : decode cX3_survey 72 = .ok (.getfield 14, 3) := by decide +kernel
theorem dX3_survey_75 : decode cX3_survey 75 = .ok (.invokevirtual 110, 3) := by decide +kernel
theorem dX3_survey_78 : decode cX3_survey 78 = .ok (.iinc 4 1, 3) := by decide +kernel
theorem dX3_survey_81 : decode cX3_survey 81 = .ok (.goto (-33), 3) := by decide +kernel
theorem dX3_survey_84 : decode cX3_survey 84 = .ok (.return_, 1) := by decide +kernel
theorem dX3_noteOne_0 : decode cX3_noteOne 0 = .ok (.aload_n 0, 1) := by decide +kernel
theorem dX3_noteOne_1 : decode cX3_noteOne 1 = .ok (.dup, 1) := by decide +kernel
theorem dX3_noteOne_2 : decode cX3_noteOne 2 = .ok (.getfield 27, 3) := by decide +kernel
theorem dX3_noteOne_5 : decode cX3_noteOne 5 = .ok (.iconst 1, 1) := by decide +kernel
theorem dX3_noteOne_6 : decode cX3_noteOne 6 = .ok (.iadd, 1) := by decide +kernel
theorem dX3_noteOne_7 : decode cX3_noteOne 7 = .ok (.putfield 27, 3) := by decide +kernel
theorem dX3_noteOne_10 : decode cX3_noteOne 10 = .ok (.iconst 0, 1) := by decide +kernel
theorem dX3_noteOne_11 : decode cX3_noteOne 11 = .ok (.istore_n 1, 1) := by decide +kernel
theorem dX3_noteOne_12 : decode cX3_noteOne 12 = .ok (.iload_n 1, 1) := by decide +kernel
theorem dX3_noteOne_13 : decode cX3_noteOne 13 = .ok (.aload_n 0, 1) := by decide +kernel
theorem dX3_noteOne_14 : decode cX3_noteOne 14 = .ok (.getfield 24, 3) := by decide +kernel
theorem dX3_noteOne_17 : decode cX3_noteOne 17 = .ok (.arraylength, 1) := by decide +kernel
theorem dX3_noteOne_18 : decode cX3_noteOne 18 = .ok (.if_icmp .ge 113, 3) := by decide +kernel
theorem dX3_noteOne_21 : decode cX3_noteOne 21 = .ok (.iload_n 1, 1) := by decide +kernel
theorem dX3_noteOne_22 : decode cX3_noteOne 22 = .ok (.bipush 10, 2) := by decide +kernel
theorem dX3_noteOne_24 : decode cX3_noteOne 24 = .ok (.imul, 1) := by decide +kernel
theorem dX3_noteOne_25 : decode cX3_noteOne 25 = .ok (.aload_n 0, 1) := by decide +kernel
theorem dX3_noteOne_26 : decode cX3_noteOne 26 = .ok (.getfield 14, 3) := by decide +kernel
theorem dX3_noteOne_29 : decode cX3_noteOne 29 = .ok (.iload_n 1, 1) := by decide +kernel
theorem dX3_noteOne_30 : decode cX3_noteOne 30 = .ok (.invokevirtual 75, 3) := by decide +kernel
theorem dX3_noteOne_33 : decode cX3_noteOne 33 = .ok (.iadd, 1) := by decide +kernel
theorem dX3_noteOne_34 : decode cX3_noteOne 34 = .ok (.istore_n 2, 1) := by decide +kernel
theorem dX3_noteOne_35 : decode cX3_noteOne 35 = .ok (.iload_n 2, 1) := by decide +kernel
theorem dX3_noteOne_36 : decode cX3_noteOne 36 = .ok (.ifCond .lt 22, 3) := by decide +kernel
theorem dX3_noteOne_39 : decode cX3_noteOne 39 = .ok (.iload_n 2, 1) := by decide +kernel
theorem dX3_noteOne_40 : decode cX3_noteOne 40 = .ok (.aload_n 0, 1) := by decide +kernel
theorem dX3_noteOne_41 : decode cX3_noteOne 41 = .ok (.getfield 31, 3) := by decide +kernel
theorem dX3_noteOne_44 : decode cX3_noteOne 44 = .ok (.arraylength, 1) := by decide +kernel
theorem dX3_noteOne_45 : decode cX3_noteOne 45 = .ok (.if_icmp .ge 13, 3) := by decide +kernel
theorem dX3_noteOne_48 : decode cX3_noteOne 48 = .ok (.aload_n 0, 1) := by decide +kernel
theorem dX3_noteOne_49 : decode cX3_noteOne 49 = .ok (.getfield 31, 3) := by decide +kernel
theorem dX3_noteOne_52 : decode cX3_noteOne 52 = .ok (.iload_n 2, 1) := by decide +kernel
theorem dX3_noteOne_53 : decode cX3_noteOne 53 = .ok (.dup2, 1) := by decide +kernel
theorem dX3_noteOne_54 : decode cX3_noteOne 54 = .ok (.iaload, 1) := by decide +kernel
theorem dX3_noteOne_55 : decode cX3_noteOne 55 = .ok (.iconst 1, 1) := by decide +kernel
theorem dX3_noteOne_56 : decode cX3_noteOne 56 = .ok (.iadd, 1) := by decide +kernel
theorem dX3_noteOne_57 : decode cX3_noteOne 57 = .ok (.iastore, 1) := by decide +kernel
theorem dX3_noteOne_58 : decode cX3_noteOne 58 = .ok (.iload_n 1, 1) := by decide +kernel
theorem dX3_noteOne_59 : decode cX3_noteOne 59 = .ok (.iconst 1, 1) := by decide +kernel
theorem dX3_noteOne_60 : decode cX3_noteOne 60 = .ok (.iadd, 1) := by decide +kernel
theorem dX3_noteOne_61 : decode cX3_noteOne 61 = .ok (.istore_n 3, 1) := by decide +kernel
theorem dX3_noteOne_62 : decode cX3_noteOne 62 = .ok (.iload_n 3, 1) := by decide +kernel
theorem dX3_noteOne_63 : decode cX3_noteOne 63 = .ok (.aload_n 0, 1) := by decide +kernel
theorem dX3_noteOne_64 : decode cX3_noteOne 64 = .ok (.getfield 24, 3) := by decide +kernel
theorem dX3_noteOne_67 : decode cX3_noteOne 67 = .ok (.arraylength, 1) := by decide +kernel
theorem dX3_noteOne_68 : decode cX3_noteOne 68 = .ok (.if_icmp .ge 57, 3) := by decide +kernel
theorem dX3_noteOne_71 : decode cX3_noteOne 71 = .ok (.iload_n 1, 1) := by decide +kernel
theorem dX3_noteOne_72 : decode cX3_noteOne 72 = .ok (.iload_n 3, 1) := by decide +kernel
theorem dX3_noteOne_73 : decode cX3_noteOne 73 = .ok (.aload_n 0, 1) := by decide +kernel
theorem dX3_noteOne_74 : decode cX3_noteOne 74 = .ok (.getfield 24, 3) := by decide +kernel
theorem dX3_noteOne_77 : decode cX3_noteOne 77 = .ok (.iload_n 1, 1) := by decide +kernel
theorem dX3_noteOne_78 : decode cX3_noteOne 78 = .ok (.iaload, 1) := by decide +kernel
theorem dX3_noteOne_79 : decode cX3_noteOne 79 = .ok (.aload_n 0, 1) := by decide +kernel
theorem dX3_noteOne_80 : decode cX3_noteOne 80 = .ok (.getfield 24, 3) := by decide +kernel
theorem dX3_noteOne_83 : decode cX3_noteOne 83 = .ok (.iload_n 3, 1) := by decide +kernel
theorem dX3_noteOne_84 : decode cX3_noteOne 84 = .ok (.iaload, 1) := by decide +kernel
theorem dX3_noteOne_85 : decode cX3_noteOne 85 = .ok (.invokestatic 113, 3) := by decide +kernel
theorem dX3_noteOne_88 : decode cX3_noteOne 88 = .ok (.invokestatic 118, 3) := by decide +kernel
theorem dX3_noteOne_91 : decode cX3_noteOne 91 = .ok (.istore 4, 2) := by decide +kernel
theorem dX3_noteOne_93 : decode cX3_noteOne 93 = .ok (.iload 4, 2) := by decide +kernel
theorem dX3_noteOne_95 : decode cX3_noteOne 95 = .ok (.ifCond .lt 24, 3) := by decide +kernel
theorem dX3_noteOne_98 : decode cX3_noteOne 98 = .ok (.iload 4, 2) := by decide +kernel
theorem dX3_noteOne_100 : decode cX3_noteOne 100 = .ok (.aload_n 0, 1) := by decide +kernel
theorem dX3_noteOne_101 : decode cX3_noteOne 101 = .ok (.getfield 34, 3) := by decide +kernel
theorem dX3_noteOne_104 : decode cX3_noteOne 104 = .ok (.arraylength, 1) := by decide +kernel
theorem dX3_noteOne_105 : decode cX3_noteOne 105 = .ok (.if_icmp .ge 14, 3) := by decide +kernel
theorem dX3_noteOne_108 : decode cX3_noteOne 108 = .ok (.aload_n 0, 1) := by decide +kernel
theorem dX3_noteOne_109 : decode cX3_noteOne 109 = .ok (.getfield 34, 3) := by decide +kernel
theorem dX3_noteOne_112 : decode cX3_noteOne 112 = .ok (.iload 4, 2) := by decide +kernel
theorem dX3_noteOne_114 : decode cX3_noteOne 114 = .ok (.dup2, 1) := by decide +kernel
theorem dX3_noteOne_115 : decode cX3_noteOne 115 = .ok (.iaload, 1) := by decide +kernel
theorem dX3_noteOne_116 : decode cX3_noteOne 116 = .ok (.iconst 1, 1) := by decide +kernel
theorem dX3_noteOne_117 : decode cX3_noteOne 117 = .ok (.iadd, 1) := by decide +kernel
theorem dX3_noteOne_118 : decode cX3_noteOne 118 = .ok (.iastore, 1) := by decide +kernel
theorem dX3_noteOne_119 : decode cX3_noteOne 119 = .ok (.iinc 3 1, 3) := by decide +kernel
theorem dX3_noteOne_122 : decode cX3_noteOne 122 = .ok (.goto (-60), 3) := by decide +kernel
theorem dX3_noteOne_125 : decode cX3_noteOne 125 = .ok (.iinc 1 1, 3) := by decide +kernel
theorem dX3_noteOne_128 : decode cX3_noteOne 128 = .ok (.goto (-116), 3) := by decide +kernel
theorem dX3_noteOne_131 : decode cX3_noteOne 131 = .ok (.return_, 1) := by decide +kernel
theorem dX3_outcome_0 : decode cX3_outcome 0 = .ok (.iload_n 0, 1) := by decide +kernel
theorem dX3_outcome_1 : decode cX3_outcome 1 = .ok (.iconst 4, 1) := by decide +kernel
theorem dX3_outcome_2 : decode cX3_outcome 2 = .ok (.imul, 1) := by decide +kernel
theorem dX3_outcome_3 : decode cX3_outcome 3 = .ok (.iload_n 1, 1) := by decide +kernel
theorem dX3_outcome_4 : decode cX3_outcome 4 = .ok (.iadd, 1) := by decide +kernel
theorem dX3_outcome_5 : decode cX3_outcome 5 = .ok (.iconst 3, 1) := by decide +kernel
theorem dX3_outcome_6 : decode cX3_outcome 6 = .ok (.imul, 1) := by decide +kernel
theorem dX3_outcome_7 : decode cX3_outcome 7 = .ok (.iload_n 2, 1) := by decide +kernel
theorem dX3_outcome_8 : decode cX3_outcome 8 = .ok (.iadd, 1) := by decide +kernel
theorem dX3_outcome_9 : decode cX3_outcome 9 = .ok (.iconst 1, 1) := by decide +kernel
theorem dX3_outcome_10 : decode cX3_outcome 10 = .ok (.iadd, 1) := by decide +kernel
theorem dX3_outcome_11 : decode cX3_outcome 11 = .ok (.ireturn, 1) := by decide +kernel
theorem dX3_outcomes_0 : decode cX3_outcomes 0 = .ok (.iload_n 1, 1) := by decide +kernel
theorem dX3_outcomes_1 : decode cX3_outcomes 1 = .ok (.iload_n 2, 1) := by decide +kernel
theorem dX3_outcomes_2 : decode cX3_outcomes 2 = .ok (.iload_n 3, 1) := by decide +kernel
theorem dX3_outcomes_3 : decode cX3_outcomes 3 = .ok (.invokestatic 118, 3) := by decide +kernel
theorem dX3_outcomes_6 : decode cX3_outcomes 6 = .ok (.istore 4, 2) := by decide +kernel
theorem dX3_outcomes_8 : decode cX3_outcomes 8 = .ok (.iload 4, 2) := by decide +kernel
theorem dX3_outcomes_10 : decode cX3_outcomes 10 = .ok (.ifCond .lt 23, 3) := by decide +kernel
theorem dX3_outcomes_13 : decode cX3_outcomes 13 = .ok (.iload 4, 2) := by decide +kernel
theorem dX3_outcomes_15 : decode cX3_outcomes 15 = .ok (.aload_n 0, 1) := by decide +kernel
theorem dX3_outcomes_16 : decode cX3_outcomes 16 = .ok (.getfield 34, 3) := by decide +kernel
theorem dX3_outcomes_19 : decode cX3_outcomes 19 = .ok (.arraylength, 1) := by decide +kernel
theorem dX3_outcomes_20 : decode cX3_outcomes 20 = .ok (.if_icmp .ge 13, 3) := by decide +kernel
theorem dX3_outcomes_23 : decode cX3_outcomes 23 = .ok (.aload_n 0, 1) := by decide +kernel
theorem dX3_outcomes_24 : decode cX3_outcomes 24 = .ok (.getfield 34, 3) := by decide +kernel
theorem dX3_outcomes_27 : decode cX3_outcomes 27 = .ok (.iload 4, 2) := by decide +kernel
theorem dX3_outcomes_29 : decode cX3_outcomes 29 = .ok (.iaload, 1) := by decide +kernel
theorem dX3_outcomes_30 : decode cX3_outcomes 30 = .ok (.goto 4, 3) := by decide +kernel
theorem dX3_outcomes_33 : decode cX3_outcomes 33 = .ok (.iconst 0, 1) := by decide +kernel
theorem dX3_outcomes_34 : decode cX3_outcomes 34 = .ok (.ireturn, 1) := by decide +kernel
theorem dX3_remaining_0 : decode cX3_remaining 0 = .ok (.aload_n 0, 1) := by decide +kernel
theorem dX3_remaining_1 : decode cX3_remaining 1 = .ok (.getfield 27, 3) := by decide +kernel
theorem dX3_remaining_4 : decode cX3_remaining 4 = .ok (.ireturn, 1) := by decide +kernel
theorem dX3_having_0 : decode cX3_having 0 = .ok (.iload_n 1, 1) := by decide +kernel
theorem dX3_having_1 : decode cX3_having 1 = .ok (.bipush 10, 2) := by decide +kernel
theorem dX3_having_3 : decode cX3_having 3 = .ok (.imul, 1) := by decide +kernel
theorem dX3_having_4 : decode cX3_having 4 = .ok (.iload_n 2, 1) := by decide +kernel
theorem dX3_having_5 : decode cX3_having 5 = .ok (.iadd, 1) := by decide +kernel
theorem dX3_having_6 : decode cX3_having 6 = .ok (.istore_n 3, 1) := by decide +kernel
theorem dX3_having_7 : decode cX3_having 7 = .ok (.iload_n 3, 1) := by decide +kernel
theorem dX3_having_8 : decode cX3_having 8 = .ok (.ifCond .lt 21, 3) := by decide +kernel
theorem dX3_having_11 : decode cX3_having 11 = .ok (.iload_n 3, 1) := by decide +kernel
theorem dX3_having_12 : decode cX3_having 12 = .ok (.aload_n 0, 1) := by decide +kernel
theorem dX3_having_13 : decode cX3_having 13 = .ok (.getfield 31, 3) := by decide +kernel
theorem dX3_having_16 : decode cX3_having 16 = .ok (.arraylength, 1) := by decide +kernel
theorem dX3_having_17 : decode cX3_having 17 = .ok (.if_icmp .ge 12, 3) := by decide +kernel
theorem dX3_having_20 : decode cX3_having 20 = .ok (.aload_n 0, 1) := by decide +kernel
theorem dX3_having_21 : decode cX3_having 21 = .ok (.getfield 31, 3) := by decide +kernel
theorem dX3_having_24 : decode cX3_having 24 = .ok (.iload_n 3, 1) := by decide +kernel
theorem dX3_having_25 : decode cX3_having 25 = .ok (.iaload, 1) := by decide +kernel
theorem dX3_having_26 : decode cX3_having 26 = .ok (.goto 4, 3) := by decide +kernel
theorem dX3_having_29 : decode cX3_having 29 = .ok (.iconst 0, 1) := by decide +kernel
theorem dX3_having_30 : decode cX3_having 30 = .ok (.ireturn, 1) := by decide +kernel
theorem dX3_lowest_0 : decode cX3_lowest 0 = .ok (.iconst 1, 1) := by decide +kernel
theorem dX3_lowest_1 : decode cX3_lowest 1 = .ok (.istore_n 2, 1) := by decide +kernel
theorem dX3_lowest_2 : decode cX3_lowest 2 = .ok (.iload_n 2, 1) := by decide +kernel
theorem dX3_lowest_3 : decode cX3_lowest 3 = .ok (.bipush 9, 2) := by decide +kernel
theorem dX3_lowest_5 : decode cX3_lowest 5 = .ok (.if_icmp .gt 20, 3) := by decide +kernel
theorem dX3_lowest_8 : decode cX3_lowest 8 = .ok (.aload_n 0, 1) := by decide +kernel
theorem dX3_lowest_9 : decode cX3_lowest 9 = .ok (.iload_n 1, 1) := by decide +kernel
theorem dX3_lowest_10 : decode cX3_lowest 10 = .ok (.iload_n 2, 1) := by decide +kernel
theorem dX3_lowest_11 : decode cX3_lowest 11 = .ok (.invokevirtual 122, 3) := by decide +kernel
theorem dX3_lowest_14 : decode cX3_lowest 14 = .ok (.ifCond .le 5, 3) := by decide +kernel
theorem dX3_lowest_17 : decode cX3_lowest 17 = .ok (.iload_n 2, 1) := by decide +kernel
theorem dX3_lowest_18 : decode cX3_lowest 18 = .ok (.ireturn, 1) := by decide +kernel
theorem dX3_lowest_19 : decode cX3_lowest 19 = .ok (.iinc 2 1, 3) := by decide +kernel
theorem dX3_lowest_22 : decode cX3_lowest 22 = .ok (.goto (-20), 3) := by decide +kernel
theorem dX3_lowest_25 : decode cX3_lowest 25 = .ok (.bipush (-5), 2) := by decide +kernel
theorem dX3_lowest_27 : decode cX3_lowest 27 = .ok (.ireturn, 1) := by decide +kernel
theorem dX3_highest_0 : decode cX3_highest 0 = .ok (.bipush 9, 2) := by decide +kernel
theorem dX3_highest_2 : decode cX3_highest 2 = .ok (.istore_n 2, 1) := by decide +kernel
theorem dX3_highest_3 : decode cX3_highest 3 = .ok (.iload_n 2, 1) := by decide +kernel
theorem dX3_highest_4 : decode cX3_highest 4 = .ok (.iconst 1, 1) := by decide +kernel
theorem dX3_highest_5 : decode cX3_highest 5 = .ok (.if_icmp .lt 20, 3) := by decide +kernel
theorem dX3_highest_8 : decode cX3_highest 8 = .ok (.aload_n 0, 1) := by decide +kernel
theorem dX3_highest_9 : decode cX3_highest 9 = .ok (.iload_n 1, 1) := by decide +kernel
theorem dX3_highest_10 : decode cX3_highest 10 = .ok (.iload_n 2, 1) := by decide +kernel
theorem dX3_highest_11 : decode cX3_highest 11 = .ok (.invokevirtual 122, 3) := by decide +kernel
theorem dX3_highest_14 : decode cX3_highest 14 = .ok (.ifCond .le 5, 3) := by decide +kernel
theorem dX3_highest_17 : decode cX3_highest 17 = .ok (.iload_n 2, 1) := by decide +kernel
theorem dX3_highest_18 : decode cX3_highest 18 = .ok (.ireturn, 1) := by decide +kernel
theorem dX3_highest_19 : decode cX3_highest 19 = .ok (.iinc 2 (-1), 3) := by decide +kernel
theorem dX3_highest_22 : decode cX3_highest 22 = .ok (.goto (-19), 3) := by decide +kernel
theorem dX3_highest_25 : decode cX3_highest 25 = .ok (.bipush (-5), 2) := by decide +kernel
theorem dX3_highest_27 : decode cX3_highest 27 = .ok (.ireturn, 1) := by decide +kernel
theorem dX3_areAlike_0 : decode cX3_areAlike 0 = .ok (.aload_n 0, 1) := by decide +kernel
theorem dX3_areAlike_1 : decode cX3_areAlike 1 = .ok (.getfield 27, 3) := by decide +kernel
theorem dX3_areAlike_4 : decode cX3_areAlike 4 = .ok (.ifCond .le 29, 3) := by decide +kernel
theorem dX3_areAlike_7 : decode cX3_areAlike 7 = .ok (.aload_n 0, 1) := by decide +kernel
theorem dX3_areAlike_8 : decode cX3_areAlike 8 = .ok (.iload_n 1, 1) := by decide +kernel
theorem dX3_areAlike_9 : decode cX3_areAlike 9 = .ok (.iload_n 2, 1) := by decide +kernel
theorem dX3_areAlike_10 : decode cX3_areAlike 10 = .ok (.invokestatic 125, 3) := by decide +kernel
theorem dX3_areAlike_13 : decode cX3_areAlike 13 = .ok (.iload_n 1, 1) := by decide +kernel
theorem dX3_areAlike_14 : decode cX3_areAlike 14 = .ok (.iload_n 2, 1) := by decide +kernel
theorem dX3_areAlike_15 : decode cX3_areAlike 15 = .ok (.invokestatic 130, 3) := by decide +kernel
theorem dX3_areAlike_18 : decode cX3_areAlike 18 = .ok (.iconst 0, 1) := by decide +kernel
theorem dX3_areAlike_19 : decode cX3_areAlike 19 = .ok (.invokevirtual 133, 3) := by decide +kernel
theorem dX3_areAlike_22 : decode cX3_areAlike 22 = .ok (.aload_n 0, 1) := by decide +kernel
theorem dX3_areAlike_23 : decode cX3_areAlike 23 = .ok (.getfield 27, 3) := by decide +kernel
theorem dX3_areAlike_26 : decode cX3_areAlike 26 = .ok (.if_icmp .ne 7, 3) := by decide +kernel
theorem dX3_areAlike_29 : decode cX3_areAlike 29 = .ok (.iconst 1, 1) := by decide +kernel
theorem dX3_areAlike_30 : decode cX3_areAlike 30 = .ok (.goto 4, 3) := by decide +kernel
theorem dX3_areAlike_33 : decode cX3_areAlike 33 = .ok (.iconst 0, 1) := by decide +kernel
theorem dX3_areAlike_34 : decode cX3_areAlike 34 = .ok (.ireturn, 1) := by decide +kernel
theorem dX3_pairToHold_0 : decode cX3_pairToHold 0 = .ok (.bipush (-5), 2) := by decide +kernel
theorem dX3_pairToHold_2 : decode cX3_pairToHold 2 = .ok (.istore_n 1, 1) := by decide +kernel
theorem dX3_pairToHold_3 : decode cX3_pairToHold 3 = .ok (.aload_n 0, 1) := by decide +kernel
theorem dX3_pairToHold_4 : decode cX3_pairToHold 4 = .ok (.getfield 27, 3) := by decide +kernel
theorem dX3_pairToHold_7 : decode cX3_pairToHold 7 = .ok (.istore_n 2, 1) := by decide +kernel
theorem dX3_pairToHold_8 : decode cX3_pairToHold 8 = .ok (.aload_n 0, 1) := by decide +kernel
theorem dX3_pairToHold_9 : decode cX3_pairToHold 9 = .ok (.getfield 27, 3) := by decide +kernel
theorem dX3_pairToHold_12 : decode cX3_pairToHold 12 = .ok (.ifCond .le 16, 3) := by decide +kernel
theorem dX3_pairToHold_15 : decode cX3_pairToHold 15 = .ok (.aload_n 0, 1) := by decide +kernel
theorem dX3_pairToHold_16 : decode cX3_pairToHold 16 = .ok (.getfield 37, 3) := by decide +kernel
theorem dX3_pairToHold_19 : decode cX3_pairToHold 19 = .ok (.getfield 47, 3) := by decide +kernel
theorem dX3_pairToHold_22 : decode cX3_pairToHold 22 = .ok (.invokevirtual 85, 3) := by decide +kernel
theorem dX3_pairToHold_25 : decode cX3_pairToHold 25 = .ok (.goto 4, 3) := by decide +kernel
theorem dX3_pairToHold_28 : decode cX3_pairToHold 28 = .ok (.iconst 0, 1) := by decide +kernel
theorem dX3_pairToHold_29 : decode cX3_pairToHold 29 = .ok (.istore_n 3, 1) := by decide +kernel
theorem dX3_pairToHold_30 : decode cX3_pairToHold 30 = .ok (.iconst 0, 1) := by decide +kernel
theorem dX3_pairToHold_31 : decode cX3_pairToHold 31 = .ok (.istore 4, 2) := by decide +kernel
theorem dX3_pairToHold_33 : decode cX3_pairToHold 33 = .ok (.iload 4, 2) := by decide +kernel
theorem dX3_pairToHold_35 : decode cX3_pairToHold 35 = .ok (.iload_n 3, 1) := by decide +kernel
theorem dX3_pairToHold_36 : decode cX3_pairToHold 36 = .ok (.if_icmp .ge 61, 3) := by decide +kernel
theorem dX3_pairToHold_39 : decode cX3_pairToHold 39 = .ok (.iload 4, 2) := by decide +kernel
theorem dX3_pairToHold_41 : decode cX3_pairToHold 41 = .ok (.iconst 1, 1) := by decide +kernel
theorem dX3_pairToHold_42 : decode cX3_pairToHold 42 = .ok (.iadd, 1) := by decide +kernel
theorem dX3_pairToHold_43 : decode cX3_pairToHold 43 = .ok (.istore 5, 2) := by decide +kernel
theorem dX3_pairToHold_45 : decode cX3_pairToHold 45 = .ok (.iload 5, 2) := by decide +kernel
theorem dX3_pairToHold_47 : decode cX3_pairToHold 47 = .ok (.iload_n 3, 1) := by decide +kernel
theorem dX3_pairToHold_48 : decode cX3_pairToHold 48 = .ok (.if_icmp .ge 43, 3) := by decide +kernel
theorem dX3_pairToHold_51 : decode cX3_pairToHold 51 = .ok (.aload_n 0, 1) := by decide +kernel
theorem dX3_pairToHold_52 : decode cX3_pairToHold 52 = .ok (.iload 4, 2) := by decide +kernel
theorem dX3_pairToHold_54 : decode cX3_pairToHold 54 = .ok (.iload 5, 2) := by decide +kernel
theorem dX3_pairToHold_56 : decode cX3_pairToHold 56 = .ok (.invokevirtual 136, 3) := by decide +kernel
theorem dX3_pairToHold_59 : decode cX3_pairToHold 59 = .ok (.istore 6, 2) := by decide +kernel
theorem dX3_pairToHold_61 : decode cX3_pairToHold 61 = .ok (.iload_n 1, 1) := by decide +kernel
theorem dX3_pairToHold_62 : decode cX3_pairToHold 62 = .ok (.bipush (-5), 2) := by decide +kernel
theorem dX3_pairToHold_64 : decode cX3_pairToHold 64 = .ok (.if_icmp .eq 9, 3) := by decide +kernel
theorem dX3_pairToHold_67 : decode cX3_pairToHold 67 = .ok (.iload 6, 2) := by decide +kernel
theorem dX3_pairToHold_69 : decode cX3_pairToHold 69 = .ok (.iload_n 2, 1) := by decide +kernel
theorem dX3_pairToHold_70 : decode cX3_pairToHold 70 = .ok (.if_icmp .ge 15, 3) := by decide +kernel
theorem dX3_pairToHold_73 : decode cX3_pairToHold 73 = .ok (.iload 4, 2) := by decide +kernel
theorem dX3_pairToHold_75 : decode cX3_pairToHold 75 = .ok (.bipush 10, 2) := by decide +kernel
theorem dX3_pairToHold_77 : decode cX3_pairToHold 77 = .ok (.imul, 1) := by decide +kernel
theorem dX3_pairToHold_78 : decode cX3_pairToHold 78 = .ok (.iload 5, 2) := by decide +kernel
theorem dX3_pairToHold_80 : decode cX3_pairToHold 80 = .ok (.iadd, 1) := by decide +kernel
theorem dX3_pairToHold_81 : decode cX3_pairToHold 81 = .ok (.istore_n 1, 1) := by decide +kernel
theorem dX3_pairToHold_82 : decode cX3_pairToHold 82 = .ok (.iload 6, 2) := by decide +kernel
theorem dX3_pairToHold_84 : decode cX3_pairToHold 84 = .ok (.istore_n 2, 1) := by decide +kernel
theorem dX3_pairToHold_85 : decode cX3_pairToHold 85 = .ok (.iinc 5 1, 3) := by decide +kernel
theorem dX3_pairToHold_88 : decode cX3_pairToHold 88 = .ok (.goto (-43), 3) := by decide +kernel
theorem dX3_pairToHold_91 : decode cX3_pairToHold 91 = .ok (.iinc 4 1, 3) := by decide +kernel
theorem dX3_pairToHold_94 : decode cX3_pairToHold 94 = .ok (.goto (-61), 3) := by decide +kernel
theorem dX3_pairToHold_97 : decode cX3_pairToHold 97 = .ok (.iload_n 1, 1) := by decide +kernel
theorem dX3_pairToHold_98 : decode cX3_pairToHold 98 = .ok (.ireturn, 1) := by decide +kernel
theorem dX3_worstOf_0 : decode cX3_worstOf 0 = .ok (.aload_n 0, 1) := by decide +kernel
theorem dX3_worstOf_1 : decode cX3_worstOf 1 = .ok (.iload_n 1, 1) := by decide +kernel
theorem dX3_worstOf_2 : decode cX3_worstOf 2 = .ok (.iload_n 2, 1) := by decide +kernel
theorem dX3_worstOf_3 : decode cX3_worstOf 3 = .ok (.iconst 0, 1) := by decide +kernel
theorem dX3_worstOf_4 : decode cX3_worstOf 4 = .ok (.invokevirtual 133, 3) := by decide +kernel
theorem dX3_worstOf_7 : decode cX3_worstOf 7 = .ok (.aload_n 0, 1) := by decide +kernel
theorem dX3_worstOf_8 : decode cX3_worstOf 8 = .ok (.iload_n 1, 1) := by decide +kernel
theorem dX3_worstOf_9 : decode cX3_worstOf 9 = .ok (.iload_n 2, 1) := by decide +kernel
theorem dX3_worstOf_10 : decode cX3_worstOf 10 = .ok (.iconst (-1), 1) := by decide +kernel
theorem dX3_worstOf_11 : decode cX3_worstOf 11 = .ok (.invokevirtual 133, 3) := by decide +kernel
theorem dX3_worstOf_14 : decode cX3_worstOf 14 = .ok (.aload_n 0, 1) := by decide +kernel
theorem dX3_worstOf_15 : decode cX3_worstOf 15 = .ok (.iload_n 1, 1) := by decide +kernel
theorem dX3_worstOf_16 : decode cX3_worstOf 16 = .ok (.iload_n 2, 1) := by decide +kernel
theorem dX3_worstOf_17 : decode cX3_worstOf 17 = .ok (.iconst 1, 1) := by decide +kernel
theorem dX3_worstOf_18 : decode cX3_worstOf 18 = .ok (.invokevirtual 133, 3) := by decide +kernel
theorem dX3_worstOf_21 : decode cX3_worstOf 21 = .ok (.invokestatic 130, 3) := by decide +kernel
theorem dX3_worstOf_24 : decode cX3_worstOf 24 = .ok (.invokestatic 130, 3) := by decide +kernel
theorem dX3_worstOf_27 : decode cX3_worstOf 27 = .ok (.ireturn, 1) := by decide +kernel
theorem dX3_firstWrong_0 : decode cX3_firstWrong 0 = .ok (.aload_n 0, 1) := by decide +kernel
theorem dX3_firstWrong_1 : decode cX3_firstWrong 1 = .ok (.getfield 37, 3) := by decide +kernel
theorem dX3_firstWrong_4 : decode cX3_firstWrong 4 = .ok (.invokevirtual 97, 3) := by decide +kernel
theorem dX3_firstWrong_7 : decode cX3_firstWrong 7 = .ok (.istore_n 1, 1) := by decide +kernel
theorem dX3_firstWrong_8 : decode cX3_firstWrong 8 = .ok (.iconst 0, 1) := by decide +kernel
theorem dX3_firstWrong_9 : decode cX3_firstWrong 9 = .ok (.istore_n 2, 1) := by decide +kernel
theorem dX3_firstWrong_10 : decode cX3_firstWrong 10 = .ok (.aload_n 0, 1) := by decide +kernel
theorem dX3_firstWrong_11 : decode cX3_firstWrong 11 = .ok (.invokevirtual 100, 3) := by decide +kernel
theorem dX3_firstWrong_14 : decode cX3_firstWrong 14 = .ok (.istore_n 3, 1) := by decide +kernel
theorem dX3_firstWrong_15 : decode cX3_firstWrong 15 = .ok (.iconst 0, 1) := by decide +kernel
theorem dX3_firstWrong_16 : decode cX3_firstWrong 16 = .ok (.istore 4, 2) := by decide +kernel
theorem dX3_firstWrong_18 : decode cX3_firstWrong 18 = .ok (.iload 4, 2) := by decide +kernel
theorem dX3_firstWrong_20 : decode cX3_firstWrong 20 = .ok (.iload_n 3, 1) := by decide +kernel
theorem dX3_firstWrong_21 : decode cX3_firstWrong 21 = .ok (.if_icmp .ge 30, 3) := by decide +kernel
theorem dX3_firstWrong_24 : decode cX3_firstWrong 24 = .ok (.aload_n 0, 1) := by decide +kernel
theorem dX3_firstWrong_25 : decode cX3_firstWrong 25 = .ok (.invokevirtual 101, 3) := by decide +kernel
theorem dX3_firstWrong_28 : decode cX3_firstWrong 28 = .ok (.iload_n 2, 1) := by decide +kernel
theorem dX3_firstWrong_29 : decode cX3_firstWrong 29 = .ok (.aload_n 0, 1) := by decide +kernel
theorem dX3_firstWrong_30 : decode cX3_firstWrong 30 = .ok (.iload_n 1, 1) := by decide +kernel
theorem dX3_firstWrong_31 : decode cX3_firstWrong 31 = .ok (.invokevirtual 104, 3) := by decide +kernel
theorem dX3_firstWrong_34 : decode cX3_firstWrong 34 = .ok (.invokestatic 130, 3) := by decide +kernel
theorem dX3_firstWrong_37 : decode cX3_firstWrong 37 = .ok (.istore_n 2, 1) := by decide +kernel
theorem dX3_firstWrong_38 : decode cX3_firstWrong 38 = .ok (.aload_n 0, 1) := by decide +kernel
theorem dX3_firstWrong_39 : decode cX3_firstWrong 39 = .ok (.getfield 14, 3) := by decide +kernel
theorem dX3_firstWrong_42 : decode cX3_firstWrong 42 = .ok (.invokevirtual 110, 3) := by decide +kernel
theorem dX3_firstWrong_45 : decode cX3_firstWrong 45 = .ok (.iinc 4 1, 3) := by decide +kernel
theorem dX3_firstWrong_48 : decode cX3_firstWrong 48 = .ok (.goto (-30), 3) := by decide +kernel
theorem dX3_firstWrong_51 : decode cX3_firstWrong 51 = .ok (.iload_n 2, 1) := by decide +kernel
theorem dX3_firstWrong_52 : decode cX3_firstWrong 52 = .ok (.aload_n 0, 1) := by decide +kernel
theorem dX3_firstWrong_53 : decode cX3_firstWrong 53 = .ok (.getfield 37, 3) := by decide +kernel
theorem dX3_firstWrong_56 : decode cX3_firstWrong 56 = .ok (.getfield 78, 3) := by decide +kernel
theorem dX3_firstWrong_59 : decode cX3_firstWrong 59 = .ok (.invokevirtual 85, 3) := by decide +kernel
theorem dX3_firstWrong_62 : decode cX3_firstWrong 62 = .ok (.if_icmp .ne 8, 3) := by decide +kernel
theorem dX3_firstWrong_65 : decode cX3_firstWrong 65 = .ok (.bipush (-5), 2) := by decide +kernel
theorem dX3_firstWrong_67 : decode cX3_firstWrong 67 = .ok (.goto 4, 3) := by decide +kernel
theorem dX3_firstWrong_70 : decode cX3_firstWrong 70 = .ok (.iload_n 2, 1) := by decide +kernel
theorem dX3_firstWrong_71 : decode cX3_firstWrong 71 = .ok (.ireturn, 1) := by decide +kernel
theorem dX3_leastCheat_0 : decode cX3_leastCheat 0 = .ok (.bipush 61, 2) := by decide +kernel
theorem dX3_leastCheat_2 : decode cX3_leastCheat 2 = .ok (.istore_n 1, 1) := by decide +kernel
theorem dX3_leastCheat_3 : decode cX3_leastCheat 3 = .ok (.aload_n 0, 1) := by decide +kernel
theorem dX3_leastCheat_4 : decode cX3_leastCheat 4 = .ok (.invokevirtual 100, 3) := by decide +kernel
theorem dX3_leastCheat_7 : decode cX3_leastCheat 7 = .ok (.istore_n 2, 1) := by decide +kernel
theorem dX3_leastCheat_8 : decode cX3_leastCheat 8 = .ok (.iconst 0, 1) := by decide +kernel
theorem dX3_leastCheat_9 : decode cX3_leastCheat 9 = .ok (.istore_n 3, 1) := by decide +kernel
theorem dX3_leastCheat_10 : decode cX3_leastCheat 10 = .ok (.iload_n 3, 1) := by decide +kernel
theorem dX3_leastCheat_11 : decode cX3_leastCheat 11 = .ok (.iload_n 2, 1) := by decide +kernel
theorem dX3_leastCheat_12 : decode cX3_leastCheat 12 = .ok (.if_icmp .ge 29, 3) := by decide +kernel
theorem dX3_leastCheat_15 : decode cX3_leastCheat 15 = .ok (.aload_n 0, 1) := by decide +kernel
theorem dX3_leastCheat_16 : decode cX3_leastCheat 16 = .ok (.invokevirtual 101, 3) := by decide +kernel
theorem dX3_leastCheat_19 : decode cX3_leastCheat 19 = .ok (.iload_n 1, 1) := by decide +kernel
theorem dX3_leastCheat_20 : decode cX3_leastCheat 20 = .ok (.aload_n 0, 1) := by decide +kernel
theorem dX3_leastCheat_21 : decode cX3_leastCheat 21 = .ok (.invokevirtual 139, 3) := by decide +kernel
theorem dX3_leastCheat_24 : decode cX3_leastCheat 24 = .ok (.invokestatic 125, 3) := by decide +kernel
theorem dX3_leastCheat_27 : decode cX3_leastCheat 27 = .ok (.istore_n 1, 1) := by decide +kernel
theorem dX3_leastCheat_28 : decode cX3_leastCheat 28 = .ok (.aload_n 0, 1) := by decide +kernel
theorem dX3_leastCheat_29 : decode cX3_leastCheat 29 = .ok (.getfield 14, 3) := by decide +kernel
theorem dX3_leastCheat_32 : decode cX3_leastCheat 32 = .ok (.invokevirtual 110, 3) := by decide +kernel
theorem dX3_leastCheat_35 : decode cX3_leastCheat 35 = .ok (.iinc 3 1, 3) := by decide +kernel
theorem dX3_leastCheat_38 : decode cX3_leastCheat 38 = .ok (.goto (-28), 3) := by decide +kernel
theorem dX3_leastCheat_41 : decode cX3_leastCheat 41 = .ok (.iload_n 1, 1) := by decide +kernel
theorem dX3_leastCheat_42 : decode cX3_leastCheat 42 = .ok (.bipush 60, 2) := by decide +kernel
theorem dX3_leastCheat_44 : decode cX3_leastCheat 44 = .ok (.if_icmp .le 8, 3) := by decide +kernel
theorem dX3_leastCheat_47 : decode cX3_leastCheat 47 = .ok (.bipush (-5), 2) := by decide +kernel
theorem dX3_leastCheat_49 : decode cX3_leastCheat 49 = .ok (.goto 4, 3) := by decide +kernel
theorem dX3_leastCheat_52 : decode cX3_leastCheat 52 = .ok (.iload_n 1, 1) := by decide +kernel
theorem dX3_leastCheat_53 : decode cX3_leastCheat 53 = .ok (.ireturn, 1) := by decide +kernel
theorem dX3_cheatNeeded_0 : decode cX3_cheatNeeded 0 = .ok (.iconst 0, 1) := by decide +kernel
theorem dX3_cheatNeeded_1 : decode cX3_cheatNeeded 1 = .ok (.istore_n 1, 1) := by decide +kernel
theorem dX3_cheatNeeded_2 : decode cX3_cheatNeeded 2 = .ok (.iconst 0, 1) := by decide +kernel
theorem dX3_cheatNeeded_3 : decode cX3_cheatNeeded 3 = .ok (.istore_n 2, 1) := by decide +kernel
theorem dX3_cheatNeeded_4 : decode cX3_cheatNeeded 4 = .ok (.iload_n 2, 1) := by decide +kernel
theorem dX3_cheatNeeded_5 : decode cX3_cheatNeeded 5 = .ok (.aload_n 0, 1) := by decide +kernel
theorem dX3_cheatNeeded_6 : decode cX3_cheatNeeded 6 = .ok (.getfield 37, 3) := by decide +kernel
theorem dX3_cheatNeeded_9 : decode cX3_cheatNeeded 9 = .ok (.getfield 78, 3) := by decide +kernel
theorem dX3_cheatNeeded_12 : decode cX3_cheatNeeded 12 = .ok (.invokevirtual 85, 3) := by decide +kernel
theorem dX3_cheatNeeded_15 : decode cX3_cheatNeeded 15 = .ok (.if_icmp .ge 28, 3) := by decide +kernel
theorem dX3_cheatNeeded_18 : decode cX3_cheatNeeded 18 = .ok (.aload_n 0, 1) := by decide +kernel
theorem dX3_cheatNeeded_19 : decode cX3_cheatNeeded 19 = .ok (.iload_n 2, 1) := by decide +kernel
theorem dX3_cheatNeeded_20 : decode cX3_cheatNeeded 20 = .ok (.invokevirtual 88, 3) := by decide +kernel
theorem dX3_cheatNeeded_23 : decode cX3_cheatNeeded 23 = .ok (.istore_n 3, 1) := by decide +kernel
theorem dX3_cheatNeeded_24 : decode cX3_cheatNeeded 24 = .ok (.iload_n 3, 1) := by decide +kernel
theorem dX3_cheatNeeded_25 : decode cX3_cheatNeeded 25 = .ok (.ifCond .ge 6, 3) := by decide +kernel
theorem dX3_cheatNeeded_28 : decode cX3_cheatNeeded 28 = .ok (.bipush 61, 2) := by decide +kernel
theorem dX3_cheatNeeded_30 : decode cX3_cheatNeeded 30 = .ok (.ireturn, 1) := by decide +kernel
theorem dX3_cheatNeeded_31 : decode cX3_cheatNeeded 31 = .ok (.iload_n 1, 1) := by decide +kernel
theorem dX3_cheatNeeded_32 : decode cX3_cheatNeeded 32 = .ok (.iload_n 3, 1) := by decide +kernel
theorem dX3_cheatNeeded_33 : decode cX3_cheatNeeded 33 = .ok (.invokestatic 130, 3) := by decide +kernel
theorem dX3_cheatNeeded_36 : decode cX3_cheatNeeded 36 = .ok (.istore_n 1, 1) := by decide +kernel
theorem dX3_cheatNeeded_37 : decode cX3_cheatNeeded 37 = .ok (.iinc 2 1, 3) := by decide +kernel
theorem dX3_cheatNeeded_40 : decode cX3_cheatNeeded 40 = .ok (.goto (-36), 3) := by decide +kernel
theorem dX3_cheatNeeded_43 : decode cX3_cheatNeeded 43 = .ok (.iload_n 1, 1) := by decide +kernel
theorem dX3_cheatNeeded_44 : decode cX3_cheatNeeded 44 = .ok (.ireturn, 1) := by decide +kernel
theorem dX4_init_0 : decode cX4_init 0 = .ok (.aload_n 0, 1) := by decide +kernel
theorem dX4_init_1 : decode cX4_init 1 = .ok (.invokespecial 3, 3) := by decide +kernel
theorem dX4_init_4 : decode cX4_init 4 = .ok (.aload_n 0, 1) := by decide +kernel
theorem dX4_init_5 : decode cX4_init 5 = .ok (.bipush 10, 2) := by decide +kernel
theorem dX4_init_7 : decode cX4_init 7 = .ok (.anewarray 9, 3) := by decide +kernel
theorem dX4_init_10 : decode cX4_init 10 = .ok (.putfield 11, 3) := by decide +kernel
theorem dX4_init_13 : decode cX4_init 13 = .ok (.aload_n 0, 1) := by decide +kernel
theorem dX4_init_14 : decode cX4_init 14 = .ok (.iconst 0, 1) := by decide +kernel
theorem dX4_init_15 : decode cX4_init 15 = .ok (.putfield 17, 3) := by decide +kernel
theorem dX4_init_18 : decode cX4_init 18 = .ok (.return_, 1) := by decide +kernel
theorem dX4_add_0 : decode cX4_add 0 = .ok (.aload_n 1, 1) := by decide +kernel
theorem dX4_add_1 : decode cX4_add 1 = .ok (.ifnull 42, 3) := by decide +kernel
theorem dX4_add_4 : decode cX4_add 4 = .ok (.aload_n 0, 1) := by decide +kernel
theorem dX4_add_5 : decode cX4_add 5 = .ok (.getfield 17, 3) := by decide +kernel
theorem dX4_add_8 : decode cX4_add 8 = .ok (.ifCond .lt 35, 3) := by decide +kernel
theorem dX4_add_11 : decode cX4_add 11 = .ok (.aload_n 0, 1) := by decide +kernel
theorem dX4_add_12 : decode cX4_add 12 = .ok (.getfield 17, 3) := by decide +kernel
theorem dX4_add_15 : decode cX4_add 15 = .ok (.aload_n 0, 1) := by decide +kernel
theorem dX4_add_16 : decode cX4_add 16 = .ok (.getfield 11, 3) := by decide +kernel
theorem dX4_add_19 : decode cX4_add 19 = .ok (.arraylength, 1) := by decide +kernel
theorem dX4_add_20 : decode cX4_add 20 = .ok (.if_icmp .ge 23, 3) := by decide +kernel
theorem dX4_add_23 : decode cX4_add 23 = .ok (.aload_n 0, 1) := by decide +kernel
theorem dX4_add_24 : decode cX4_add 24 = .ok (.getfield 11, 3) := by decide +kernel
theorem dX4_add_27 : decode cX4_add 27 = .ok (.aload_n 0, 1) := by decide +kernel
theorem dX4_add_28 : decode cX4_add 28 = .ok (.getfield 17, 3) := by decide +kernel
theorem dX4_add_31 : decode cX4_add 31 = .ok (.aload_n 1, 1) := by decide +kernel
theorem dX4_add_32 : decode cX4_add 32 = .ok (.aastore, 1) := by decide +kernel
theorem dX4_add_33 : decode cX4_add 33 = .ok (.aload_n 0, 1) := by decide +kernel
theorem dX4_add_34 : decode cX4_add 34 = .ok (.dup, 1) := by decide +kernel
theorem dX4_add_35 : decode cX4_add 35 = .ok (.getfield 17, 3) := by decide +kernel
theorem dX4_add_38 : decode cX4_add 38 = .ok (.iconst 1, 1) := by decide +kernel
theorem dX4_add_39 : decode cX4_add 39 = .ok (.iadd, 1) := by decide +kernel
theorem dX4_add_40 : decode cX4_add 40 = .ok (.putfield 17, 3) := by decide +kernel
theorem dX4_add_43 : decode cX4_add 43 = .ok (.return_, 1) := by decide +kernel
theorem dX4_last_0 : decode cX4_last 0 = .ok (.bipush (-5), 2) := by decide +kernel
theorem dX4_last_2 : decode cX4_last 2 = .ok (.istore_n 2, 1) := by decide +kernel
theorem dX4_last_3 : decode cX4_last 3 = .ok (.aload_n 0, 1) := by decide +kernel
theorem dX4_last_4 : decode cX4_last 4 = .ok (.getfield 11, 3) := by decide +kernel
theorem dX4_last_7 : decode cX4_last 7 = .ok (.astore_n 3, 1) := by decide +kernel
theorem dX4_last_8 : decode cX4_last 8 = .ok (.aload_n 3, 1) := by decide +kernel
theorem dX4_last_9 : decode cX4_last 9 = .ok (.arraylength, 1) := by decide +kernel
theorem dX4_last_10 : decode cX4_last 10 = .ok (.istore 4, 2) := by decide +kernel
theorem dX4_last_12 : decode cX4_last 12 = .ok (.iconst 0, 1) := by decide +kernel
theorem dX4_last_13 : decode cX4_last 13 = .ok (.istore 5, 2) := by decide +kernel
theorem dX4_last_15 : decode cX4_last 15 = .ok (.iload 5, 2) := by decide +kernel
theorem dX4_last_17 : decode cX4_last 17 = .ok (.iload 4, 2) := by decide +kernel
theorem dX4_last_19 : decode cX4_last 19 = .ok (.if_icmp .ge 35, 3) := by decide +kernel
theorem dX4_last_22 : decode cX4_last 22 = .ok (.aload_n 3, 1) := by decide +kernel
theorem dX4_last_23 : decode cX4_last 23 = .ok (.iload 5, 2) := by decide +kernel
theorem dX4_last_25 : decode cX4_last 25 = .ok (.aaload, 1) := by decide +kernel
theorem dX4_last_26 : decode cX4_last 26 = .ok (.astore 6, 2) := by decide +kernel
theorem dX4_last_28 : decode cX4_last 28 = .ok (.aload 6, 2) := by decide +kernel
theorem dX4_last_30 : decode cX4_last 30 = .ok (.ifnull 18, 3) := by decide +kernel
theorem dX4_last_33 : decode cX4_last 33 = .ok (.aload 6, 2) := by decide +kernel
theorem dX4_last_35 : decode cX4_last 35 = .ok (.getfield 21, 3) := by decide +kernel
theorem dX4_last_38 : decode cX4_last 38 = .ok (.iload_n 1, 1) := by decide +kernel
theorem dX4_last_39 : decode cX4_last 39 = .ok (.if_icmp .ne 9, 3) := by decide +kernel
theorem dX4_last_42 : decode cX4_last 42 = .ok (.aload 6, 2) := by decide +kernel
theorem dX4_last_44 : decode cX4_last 44 = .ok (.getfield 24, 3) := by decide +kernel
theorem dX4_last_47 : decode cX4_last 47 = .ok (.istore_n 2, 1) := by decide +kernel
theorem dX4_last_48 : decode cX4_last 48 = .ok (.iinc 5 1, 3) := by decide +kernel
theorem dX4_last_51 : decode cX4_last 51 = .ok (.goto (-36), 3) := by decide +kernel
theorem dX4_last_54 : decode cX4_last 54 = .ok (.iload_n 2, 1) := by decide +kernel
theorem dX4_last_55 : decode cX4_last 55 = .ok (.ireturn, 1) := by decide +kernel
theorem dX4_dearer_0 : decode cX4_dearer 0 = .ok (.iconst 0, 1) := by decide +kernel
theorem dX4_dearer_1 : decode cX4_dearer 1 = .ok (.istore_n 2, 1) := by decide +kernel
theorem dX4_dearer_2 : decode cX4_dearer 2 = .ok (.aload_n 0, 1) := by decide +kernel
theorem dX4_dearer_3 : decode cX4_dearer 3 = .ok (.getfield 11, 3) := by decide +kernel
theorem dX4_dearer_6 : decode cX4_dearer 6 = .ok (.astore_n 3, 1) := by decide +kernel
theorem dX4_dearer_7 : decode cX4_dearer 7 = .ok (.aload_n 3, 1) := by decide +kernel
theorem dX4_dearer_8 : decode cX4_dearer 8 = .ok (.arraylength, 1) := by decide +kernel
theorem dX4_dearer_9 : decode cX4_dearer 9 = .ok (.istore 4, 2) := by decide +kernel
theorem dX4_dearer_11 : decode cX4_dearer 11 = .ok (.iconst 0, 1) := by decide +kernel
theorem dX4_dearer_12 : decode cX4_dearer 12 = .ok (.istore 5, 2) := by decide +kernel
theorem dX4_dearer_14 : decode cX4_dearer 14 = .ok (.iload 5, 2) := by decide +kernel
theorem dX4_dearer_16 : decode cX4_dearer 16 = .ok (.iload 4, 2) := by decide +kernel
theorem dX4_dearer_18 : decode cX4_dearer 18 = .ok (.if_icmp .ge 64, 3) := by decide +kernel
theorem dX4_dearer_21 : decode cX4_dearer 21 = .ok (.aload_n 3, 1) := by decide +kernel
theorem dX4_dearer_22 : decode cX4_dearer 22 = .ok (.iload 5, 2) := by decide +kernel
theorem dX4_dearer_24 : decode cX4_dearer 24 = .ok (.aaload, 1) := by decide +kernel
theorem dX4_dearer_25 : decode cX4_dearer 25 = .ok (.astore 6, 2) := by decide +kernel
theorem dX4_dearer_27 : decode cX4_dearer 27 = .ok (.aload 6, 2) := by decide +kernel
theorem dX4_dearer_29 : decode cX4_dearer 29 = .ok (.ifnull 47, 3) := by decide +kernel
theorem dX4_dearer_32 : decode cX4_dearer 32 = .ok (.aload 6, 2) := by decide +kernel
theorem dX4_dearer_34 : decode cX4_dearer 34 = .ok (.getfield 21, 3) := by decide +kernel
theorem dX4_dearer_37 : decode cX4_dearer 37 = .ok (.iconst 2, 1) := by decide +kernel
theorem dX4_dearer_38 : decode cX4_dearer 38 = .ok (.if_icmp .lt 38, 3) := by decide +kernel
theorem dX4_dearer_41 : decode cX4_dearer 41 = .ok (.aload 6, 2) := by decide +kernel
theorem dX4_dearer_43 : decode cX4_dearer 43 = .ok (.aload_n 1, 1) := by decide +kernel
theorem dX4_dearer_44 : decode cX4_dearer 44 = .ok (.invokevirtual 27, 3) := by decide +kernel
theorem dX4_dearer_47 : decode cX4_dearer 47 = .ok (.ifCond .eq 29, 3) := by decide +kernel
theorem dX4_dearer_50 : decode cX4_dearer 50 = .ok (.iload_n 2, 1) := by decide +kernel
theorem dX4_dearer_51 : decode cX4_dearer 51 = .ok (.aload 6, 2) := by decide +kernel
theorem dX4_dearer_53 : decode cX4_dearer 53 = .ok (.getfield 21, 3) := by decide +kernel
theorem dX4_dearer_56 : decode cX4_dearer 56 = .ok (.iconst 2, 1) := by decide +kernel
theorem dX4_dearer_57 : decode cX4_dearer 57 = .ok (.if_icmp .ne 11, 3) := by decide +kernel
theorem dX4_dearer_60 : decode cX4_dearer 60 = .ok (.aload 6, 2) := by decide +kernel
theorem dX4_dearer_62 : decode cX4_dearer 62 = .ok (.getfield 24, 3) := by decide +kernel
theorem dX4_dearer_65 : decode cX4_dearer 65 = .ok (.goto 9, 3) := by decide +kernel
theorem dX4_dearer_68 : decode cX4_dearer 68 = .ok (.aload 6, 2) := by decide +kernel
theorem dX4_dearer_70 : decode cX4_dearer 70 = .ok (.getfield 24, 3) := by decide +kernel
theorem dX4_dearer_73 : decode cX4_dearer 73 = .ok (.ineg, 1) := by decide +kernel
theorem dX4_dearer_74 : decode cX4_dearer 74 = .ok (.iadd, 1) := by decide +kernel
theorem dX4_dearer_75 : decode cX4_dearer 75 = .ok (.istore_n 2, 1) := by decide +kernel
theorem dX4_dearer_76 : decode cX4_dearer 76 = .ok (.iinc 5 1, 3) := by decide +kernel
theorem dX4_dearer_79 : decode cX4_dearer 79 = .ok (.goto (-65), 3) := by decide +kernel
theorem dX4_dearer_82 : decode cX4_dearer 82 = .ok (.iload_n 2, 1) := by decide +kernel
theorem dX4_dearer_83 : decode cX4_dearer 83 = .ok (.ireturn, 1) := by decide +kernel
theorem dX5_init_0 : decode cX5_init 0 = .ok (.aload_n 0, 1) := by decide +kernel
theorem dX5_init_1 : decode cX5_init 1 = .ok (.invokespecial 3, 3) := by decide +kernel
theorem dX5_init_4 : decode cX5_init 4 = .ok (.aload_n 0, 1) := by decide +kernel
theorem dX5_init_5 : decode cX5_init 5 = .ok (.iconst 4, 1) := by decide +kernel
theorem dX5_init_6 : decode cX5_init 6 = .ok (.newarray .int, 2) := by decide +kernel
theorem dX5_init_8 : decode cX5_init 8 = .ok (.putfield 9, 3) := by decide +kernel
theorem dX5_init_11 : decode cX5_init 11 = .ok (.aload_n 0, 1) := by decide +kernel
theorem dX5_init_12 : decode cX5_init 12 = .ok (.iconst 4, 1) := by decide +kernel
theorem dX5_init_13 : decode cX5_init 13 = .ok (.newarray .int, 2) := by decide +kernel
theorem dX5_init_15 : decode cX5_init 15 = .ok (.putfield 15, 3) := by decide +kernel
theorem dX5_init_18 : decode cX5_init 18 = .ok (.aload_n 0, 1) := by decide +kernel
theorem dX5_init_19 : decode cX5_init 19 = .ok (.new 18, 3) := by decide +kernel
theorem dX5_init_22 : decode cX5_init 22 = .ok (.dup, 1) := by decide +kernel
theorem dX5_init_23 : decode cX5_init 23 = .ok (.iconst 4, 1) := by decide +kernel
theorem dX5_init_24 : decode cX5_init 24 = .ok (.invokespecial 20, 3) := by decide +kernel
theorem dX5_init_27 : decode cX5_init 27 = .ok (.putfield 23, 3) := by decide +kernel
theorem dX5_init_30 : decode cX5_init 30 = .ok (.aload_n 0, 1) := by decide +kernel
theorem dX5_init_31 : decode cX5_init 31 = .ok (.iconst 4, 1) := by decide +kernel
theorem dX5_init_32 : decode cX5_init 32 = .ok (.newarray .int, 2) := by decide +kernel
theorem dX5_init_34 : decode cX5_init 34 = .ok (.putfield 27, 3) := by decide +kernel
theorem dX5_init_37 : decode cX5_init 37 = .ok (.aload_n 0, 1) := by decide +kernel
theorem dX5_init_38 : decode cX5_init 38 = .ok (.bipush 100, 2) := by decide +kernel
theorem dX5_init_40 : decode cX5_init 40 = .ok (.newarray .boolean, 2) := by decide +kernel
theorem dX5_init_42 : decode cX5_init 42 = .ok (.putfield 30, 3) := by decide +kernel
theorem dX5_init_45 : decode cX5_init 45 = .ok (.aload_n 0, 1) := by decide +kernel
theorem dX5_init_46 : decode cX5_init 46 = .ok (.aload_n 1, 1) := by decide +kernel
theorem dX5_init_47 : decode cX5_init 47 = .ok (.putfield 34, 3) := by decide +kernel
theorem dX5_init_50 : decode cX5_init 50 = .ok (.return_, 1) := by decide +kernel
theorem dX5_openPurse_0 : decode cX5_openPurse 0 = .ok (.iconst 0, 1) := by decide +kernel
theorem dX5_openPurse_1 : decode cX5_openPurse 1 = .ok (.istore_n 1, 1) := by decide +kernel
theorem dX5_openPurse_2 : decode cX5_openPurse 2 = .ok (.iload_n 1, 1) := by decide +kernel
theorem dX5_openPurse_3 : decode cX5_openPurse 3 = .ok (.aload_n 0, 1) := by decide +kernel
theorem dX5_openPurse_4 : decode cX5_openPurse 4 = .ok (.getfield 9, 3) := by decide +kernel
theorem dX5_openPurse_7 : decode cX5_openPurse 7 = .ok (.arraylength, 1) := by decide +kernel
theorem dX5_openPurse_8 : decode cX5_openPurse 8 = .ok (.if_icmp .ge 27, 3) := by decide +kernel
theorem dX5_openPurse_11 : decode cX5_openPurse 11 = .ok (.aload_n 0, 1) := by decide +kernel
theorem dX5_openPurse_12 : decode cX5_openPurse 12 = .ok (.getfield 9, 3) := by decide +kernel
theorem dX5_openPurse_15 : decode cX5_openPurse 15 = .ok (.iload_n 1, 1) := by decide +kernel
theorem dX5_openPurse_16 : decode cX5_openPurse 16 = .ok (.aload_n 0, 1) := by decide +kernel
theorem dX5_openPurse_17 : decode cX5_openPurse 17 = .ok (.getfield 34, 3) := by decide +kernel
theorem dX5_openPurse_20 : decode cX5_openPurse 20 = .ok (.getfield 38, 3) := by decide +kernel
theorem dX5_openPurse_23 : decode cX5_openPurse 23 = .ok (.iload_n 1, 1) := by decide +kernel
theorem dX5_openPurse_24 : decode cX5_openPurse 24 = .ok (.iconst 3, 1) := by decide +kernel
theorem dX5_openPurse_25 : decode cX5_openPurse 25 = .ok (.invokevirtual 44, 3) := by decide +kernel
theorem dX5_openPurse_28 : decode cX5_openPurse 28 = .ok (.iastore, 1) := by decide +kernel
theorem dX5_openPurse_29 : decode cX5_openPurse 29 = .ok (.iinc 1 1, 3) := by decide +kernel
theorem dX5_openPurse_32 : decode cX5_openPurse 32 = .ok (.goto (-30), 3) := by decide +kernel
theorem dX5_openPurse_35 : decode cX5_openPurse 35 = .ok (.aload_n 0, 1) := by decide +kernel
theorem dX5_openPurse_36 : decode cX5_openPurse 36 = .ok (.invokevirtual 50, 3) := by decide +kernel
theorem dX5_openPurse_39 : decode cX5_openPurse 39 = .ok (.return_, 1) := by decide +kernel
theorem dX5_weigh_0 : decode cX5_weigh 0 = .ok (.iconst 0, 1) := by decide +kernel
theorem dX5_weigh_1 : decode cX5_weigh 1 = .ok (.istore_n 1, 1) := by decide +kernel
theorem dX5_weigh_2 : decode cX5_weigh 2 = .ok (.iload_n 1, 1) := by decide +kernel
theorem dX5_weigh_3 : decode cX5_weigh 3 = .ok (.aload_n 0, 1) := by decide +kernel
theorem dX5_weigh_4 : decode cX5_weigh 4 = .ok (.getfield 15, 3) := by decide +kernel
theorem dX5_weigh_7 : decode cX5_weigh 7 = .ok (.arraylength, 1) := by decide +kernel
theorem dX5_weigh_8 : decode cX5_weigh 8 = .ok (.if_icmp .ge 77, 3) := by decide +kernel
theorem dX5_weigh_11 : decode cX5_weigh 11 = .ok (.iload_n 1, 1) := by decide +kernel
theorem dX5_weigh_12 : decode cX5_weigh 12 = .ok (.aload_n 0, 1) := by decide +kernel
theorem dX5_weigh_13 : decode cX5_weigh 13 = .ok (.getfield 9, 3) := by decide +kernel
theorem dX5_weigh_16 : decode cX5_weigh 16 = .ok (.arraylength, 1) := by decide +kernel
theorem dX5_weigh_17 : decode cX5_weigh 17 = .ok (.if_icmp .ge 68, 3) := by decide +kernel
theorem dX5_weigh_20 : decode cX5_weigh 20 = .ok (.aload_n 0, 1) := by decide +kernel
theorem dX5_weigh_21 : decode cX5_weigh 21 = .ok (.getfield 34, 3) := by decide +kernel
theorem dX5_weigh_24 : decode cX5_weigh 24 = .ok (.getfield 38, 3) := by decide +kernel
theorem dX5_weigh_27 : decode cX5_weigh 27 = .ok (.iload_n 1, 1) := by decide +kernel
theorem dX5_weigh_28 : decode cX5_weigh 28 = .ok (.iconst 2, 1) := by decide +kernel
theorem dX5_weigh_29 : decode cX5_weigh 29 = .ok (.invokevirtual 44, 3) := by decide +kernel
theorem dX5_weigh_32 : decode cX5_weigh 32 = .ok (.istore_n 2, 1) := by decide +kernel
theorem dX5_weigh_33 : decode cX5_weigh 33 = .ok (.aload_n 0, 1) := by decide +kernel
theorem dX5_weigh_34 : decode cX5_weigh 34 = .ok (.getfield 15, 3) := by decide +kernel
theorem dX5_weigh_37 : decode cX5_weigh 37 = .ok (.iload_n 1, 1) := by decide +kernel
theorem dX5_weigh_38 : decode cX5_weigh 38 = .ok (.aload_n 0, 1) := by decide +kernel
theorem dX5_weigh_39 : decode cX5_weigh 39 = .ok (.getfield 34, 3) := by decide +kernel
theorem dX5_weigh_42 : decode cX5_weigh 42 = .ok (.getfield 38, 3) := by decide +kernel
theorem dX5_weigh_45 : decode cX5_weigh 45 = .ok (.iload_n 1, 1) := by decide +kernel
theorem dX5_weigh_46 : decode cX5_weigh 46 = .ok (.invokevirtual 53, 3) := by decide +kernel
theorem dX5_weigh_49 : decode cX5_weigh 49 = .ok (.ifCond .eq 28, 3) := by decide +kernel
theorem dX5_weigh_52 : decode cX5_weigh 52 = .ok (.aload_n 0, 1) := by decide +kernel
theorem dX5_weigh_53 : decode cX5_weigh 53 = .ok (.getfield 34, 3) := by decide +kernel
theorem dX5_weigh_56 : decode cX5_weigh 56 = .ok (.iload_n 1, 1) := by decide +kernel
theorem dX5_weigh_57 : decode cX5_weigh 57 = .ok (.iload_n 2, 1) := by decide +kernel
theorem dX5_weigh_58 : decode cX5_weigh 58 = .ok (.aload_n 0, 1) := by decide +kernel
theorem dX5_weigh_59 : decode cX5_weigh 59 = .ok (.getfield 9, 3) := by decide +kernel
theorem dX5_weigh_62 : decode cX5_weigh 62 = .ok (.iload_n 1, 1) := by decide +kernel
theorem dX5_weigh_63 : decode cX5_weigh 63 = .ok (.iaload, 1) := by decide +kernel
theorem dX5_weigh_64 : decode cX5_weigh 64 = .ok (.aload_n 0, 1) := by decide +kernel
theorem dX5_weigh_65 : decode cX5_weigh 65 = .ok (.getfield 34, 3) := by decide +kernel
theorem dX5_weigh_68 : decode cX5_weigh 68 = .ok (.getfield 57, 3) := by decide +kernel
theorem dX5_weigh_71 : decode cX5_weigh 71 = .ok (.invokevirtual 61, 3) := by decide +kernel
theorem dX5_weigh_74 : decode cX5_weigh 74 = .ok (.goto 4, 3) := by decide +kernel
theorem dX5_weigh_77 : decode cX5_weigh 77 = .ok (.iconst 0, 1) := by decide +kernel
theorem dX5_weigh_78 : decode cX5_weigh 78 = .ok (.iastore, 1) := by decide +kernel
theorem dX5_weigh_79 : decode cX5_weigh 79 = .ok (.iinc 1 1, 3) := by decide +kernel
theorem dX5_weigh_82 : decode cX5_weigh 82 = .ok (.goto (-80), 3) := by decide +kernel
theorem dX5_weigh_85 : decode cX5_weigh 85 = .ok (.return_, 1) := by decide +kernel
theorem dX5_start_0 : decode cX5_start 0 = .ok (.iconst 0, 1) := by decide +kernel
theorem dX5_start_1 : decode cX5_start 1 = .ok (.istore_n 2, 1) := by decide +kernel
theorem dX5_start_2 : decode cX5_start 2 = .ok (.iload_n 2, 1) := by decide +kernel
theorem dX5_start_3 : decode cX5_start 3 = .ok (.aload_n 0, 1) := by decide +kernel
theorem dX5_start_4 : decode cX5_start 4 = .ok (.getfield 9, 3) := by decide +kernel
theorem dX5_start_7 : decode cX5_start 7 = .ok (.arraylength, 1) := by decide +kernel
theorem dX5_start_8 : decode cX5_start 8 = .ok (.if_icmp .ge 43, 3) := by decide +kernel
theorem dX5_start_11 : decode cX5_start 11 = .ok (.aload_n 0, 1) := by decide +kernel
theorem dX5_start_12 : decode cX5_start 12 = .ok (.getfield 23, 3) := by decide +kernel
theorem dX5_start_15 : decode cX5_start 15 = .ok (.iload_n 2, 1) := by decide +kernel
theorem dX5_start_16 : decode cX5_start 16 = .ok (.aload_n 0, 1) := by decide +kernel
theorem dX5_start_17 : decode cX5_start 17 = .ok (.getfield 34, 3) := by decide +kernel
theorem dX5_start_20 : decode cX5_start 20 = .ok (.getfield 38, 3) := by decide +kernel
theorem dX5_start_23 : decode cX5_start 23 = .ok (.iload_n 2, 1) := by decide +kernel
theorem dX5_start_24 : decode cX5_start 24 = .ok (.invokevirtual 53, 3) := by decide +kernel
theorem dX5_start_27 : decode cX5_start 27 = .ok (.ifCond .eq 8, 3) := by decide +kernel
theorem dX5_start_30 : decode cX5_start 30 = .ok (.iload_n 1, 1) := by decide +kernel
theorem dX5_start_31 : decode cX5_start 31 = .ok (.ineg, 1) := by decide +kernel
theorem dX5_start_32 : decode cX5_start 32 = .ok (.goto 4, 3) := by decide +kernel
theorem dX5_start_35 : decode cX5_start 35 = .ok (.iconst 0, 1) := by decide +kernel
theorem dX5_start_36 : decode cX5_start 36 = .ok (.aload_n 0, 1) := by decide +kernel
theorem dX5_start_37 : decode cX5_start 37 = .ok (.getfield 9, 3) := by decide +kernel
theorem dX5_start_40 : decode cX5_start 40 = .ok (.iload_n 2, 1) := by decide +kernel
theorem dX5_start_41 : decode cX5_start 41 = .ok (.iaload, 1) := by decide +kernel
theorem dX5_start_42 : decode cX5_start 42 = .ok (.invokevirtual 65, 3) := by decide +kernel
theorem dX5_start_45 : decode cX5_start 45 = .ok (.iinc 2 1, 3) := by decide +kernel
theorem dX5_start_48 : decode cX5_start 48 = .ok (.goto (-46), 3) := by decide +kernel
theorem dX5_start_51 : decode cX5_start 51 = .ok (.aload_n 0, 1) := by decide +kernel
theorem dX5_start_52 : decode cX5_start 52 = .ok (.getfield 23, 3) := by decide +kernel
theorem dX5_start_55 : decode cX5_start 55 = .ok (.invokevirtual 69, 3) := by decide +kernel
theorem dX5_start_58 : decode cX5_start 58 = .ok (.ireturn, 1) := by decide +kernel
theorem dX5_fewest_0 : decode cX5_fewest 0 = .ok (.bipush (-5), 2) := by decide +kernel
theorem dX5_fewest_2 : decode cX5_fewest 2 = .ok (.istore_n 3, 1) := by decide +kernel
theorem dX5_fewest_3 : decode cX5_fewest 3 = .ok (.aload_n 0, 1) := by decide +kernel
theorem dX5_fewest_4 : decode cX5_fewest 4 = .ok (.iload_n 2, 1) := by decide +kernel
theorem dX5_fewest_5 : decode cX5_fewest 5 = .ok (.invokevirtual 73, 3) := by decide +kernel
theorem dX5_fewest_8 : decode cX5_fewest 8 = .ok (.istore 4, 2) := by decide +kernel
theorem dX5_fewest_10 : decode cX5_fewest 10 = .ok (.iconst 0, 1) := by decide +kernel
theorem dX5_fewest_11 : decode cX5_fewest 11 = .ok (.istore 5, 2) := by decide +kernel
theorem dX5_fewest_13 : decode cX5_fewest 13 = .ok (.iload 5, 2) := by decide +kernel
theorem dX5_fewest_15 : decode cX5_fewest 15 = .ok (.iload 4, 2) := by decide +kernel
theorem dX5_fewest_17 : decode cX5_fewest 17 = .ok (.if_icmp .ge 67, 3) := by decide +kernel
theorem dX5_fewest_20 : decode cX5_fewest 20 = .ok (.aload_n 0, 1) := by decide +kernel
theorem dX5_fewest_21 : decode cX5_fewest 21 = .ok (.getfield 23, 3) := by decide +kernel
theorem dX5_fewest_24 : decode cX5_fewest 24 = .ok (.aload_n 0, 1) := by decide +kernel
theorem dX5_fewest_25 : decode cX5_fewest 25 = .ok (.getfield 15, 3) := by decide +kernel
theorem dX5_fewest_28 : decode cX5_fewest 28 = .ok (.invokevirtual 76, 3) := by decide +kernel
theorem dX5_fewest_31 : decode cX5_fewest 31 = .ok (.iload_n 1, 1) := by decide +kernel
theorem dX5_fewest_32 : decode cX5_fewest 32 = .ok (.if_icmp .ne 39, 3) := by decide +kernel
theorem dX5_fewest_35 : decode cX5_fewest 35 = .ok (.iload_n 3, 1) := by decide +kernel
theorem dX5_fewest_36 : decode cX5_fewest 36 = .ok (.bipush (-5), 2) := by decide +kernel
theorem dX5_fewest_38 : decode cX5_fewest 38 = .ok (.if_icmp .eq 14, 3) := by decide +kernel
theorem dX5_fewest_41 : decode cX5_fewest 41 = .ok (.aload_n 0, 1) := by decide +kernel
theorem dX5_fewest_42 : decode cX5_fewest 42 = .ok (.getfield 23, 3) := by decide +kernel
theorem dX5_fewest_45 : decode cX5_fewest 45 = .ok (.invokevirtual 80, 3) := by decide +kernel
theorem dX5_fewest_48 : decode cX5_fewest 48 = .ok (.iload_n 3, 1) := by decide +kernel
theorem dX5_fewest_49 : decode cX5_fewest 49 = .ok (.if_icmp .ge 22, 3) := by decide +kernel
theorem dX5_fewest_52 : decode cX5_fewest 52 = .ok (.aload_n 0, 1) := by decide +kernel
theorem dX5_fewest_53 : decode cX5_fewest 53 = .ok (.getfield 23, 3) := by decide +kernel
theorem dX5_fewest_56 : decode cX5_fewest 56 = .ok (.invokevirtual 80, 3) := by decide +kernel
theorem dX5_fewest_59 : decode cX5_fewest 59 = .ok (.istore_n 3, 1) := by decide +kernel
theorem dX5_fewest_60 : decode cX5_fewest 60 = .ok (.aload_n 0, 1) := by decide +kernel
theorem dX5_fewest_61 : decode cX5_fewest 61 = .ok (.getfield 23, 3) := by decide +kernel
theorem dX5_fewest_64 : decode cX5_fewest 64 = .ok (.aload_n 0, 1) := by decide +kernel
theorem dX5_fewest_65 : decode cX5_fewest 65 = .ok (.getfield 27, 3) := by decide +kernel
theorem dX5_fewest_68 : decode cX5_fewest 68 = .ok (.invokevirtual 83, 3) := by decide +kernel
theorem dX5_fewest_71 : decode cX5_fewest 71 = .ok (.aload_n 0, 1) := by decide +kernel
theorem dX5_fewest_72 : decode cX5_fewest 72 = .ok (.getfield 23, 3) := by decide +kernel
theorem dX5_fewest_75 : decode cX5_fewest 75 = .ok (.invokevirtual 87, 3) := by decide +kernel
theorem dX5_fewest_78 : decode cX5_fewest 78 = .ok (.iinc 5 1, 3) := by decide +kernel
theorem dX5_fewest_81 : decode cX5_fewest 81 = .ok (.goto (-68), 3) := by decide +kernel
theorem dX5_fewest_84 : decode cX5_fewest 84 = .ok (.iload_n 3, 1) := by decide +kernel
theorem dX5_fewest_85 : decode cX5_fewest 85 = .ok (.ireturn, 1) := by decide +kernel
theorem dX5_ofBest_0 : decode cX5_ofBest 0 = .ok (.iload_n 1, 1) := by decide +kernel
theorem dX5_ofBest_1 : decode cX5_ofBest 1 = .ok (.ifCond .lt 21, 3) := by decide +kernel
theorem dX5_ofBest_4 : decode cX5_ofBest 4 = .ok (.iload_n 1, 1) := by decide +kernel
theorem dX5_ofBest_5 : decode cX5_ofBest 5 = .ok (.aload_n 0, 1) := by decide +kernel
theorem dX5_ofBest_6 : decode cX5_ofBest 6 = .ok (.getfield 27, 3) := by decide +kernel
theorem dX5_ofBest_9 : decode cX5_ofBest 9 = .ok (.arraylength, 1) := by decide +kernel
theorem dX5_ofBest_10 : decode cX5_ofBest 10 = .ok (.if_icmp .ge 12, 3) := by decide +kernel
theorem dX5_ofBest_13 : decode cX5_ofBest 13 = .ok (.aload_n 0, 1) := by decide +kernel
theorem dX5_ofBest_14 : decode cX5_ofBest 14 = .ok (.getfield 27, 3) := by decide +kernel
theorem dX5_ofBest_17 : decode cX5_ofBest 17 = .ok (.iload_n 1, 1) := by decide +kernel
theorem dX5_ofBest_18 : decode cX5_ofBest 18 = .ok (.iaload, 1) := by decide +kernel
theorem dX5_ofBest_19 : decode cX5_ofBest 19 = .ok (.goto 4, 3) := by decide +kernel
theorem dX5_ofBest_22 : decode cX5_ofBest 22 = .ok (.iconst 0, 1) := by decide +kernel
theorem dX5_ofBest_23 : decode cX5_ofBest 23 = .ok (.ireturn, 1) := by decide +kernel
theorem dX5_howManyWays_0 : decode cX5_howManyWays 0 = .ok (.iconst 0, 1) := by decide +kernel
theorem dX5_howManyWays_1 : decode cX5_howManyWays 1 = .ok (.istore_n 2, 1) := by decide +kernel
theorem dX5_howManyWays_2 : decode cX5_howManyWays 2 = .ok (.aload_n 0, 1) := by decide +kernel
theorem dX5_howManyWays_3 : decode cX5_howManyWays 3 = .ok (.iconst 0, 1) := by decide +kernel
theorem dX5_howManyWays_4 : decode cX5_howManyWays 4 = .ok (.invokevirtual 73, 3) := by decide +kernel
theorem dX5_howManyWays_7 : decode cX5_howManyWays 7 = .ok (.istore_n 3, 1) := by decide +kernel
theorem dX5_howManyWays_8 : decode cX5_howManyWays 8 = .ok (.iconst 0, 1) := by decide +kernel
theorem dX5_howManyWays_9 : decode cX5_howManyWays 9 = .ok (.istore 4, 2) := by decide +kernel
theorem dX5_howManyWays_11 : decode cX5_howManyWays 11 = .ok (.iload 4, 2) := by decide +kernel
theorem dX5_howManyWays_13 : decode cX5_howManyWays 13 = .ok (.iload_n 3, 1) := by decide +kernel
theorem dX5_howManyWays_14 : decode cX5_howManyWays 14 = .ok (.if_icmp .ge 34, 3) := by decide +kernel
theorem dX5_howManyWays_17 : decode cX5_howManyWays 17 = .ok (.aload_n 0, 1) := by decide +kernel
theorem dX5_howManyWays_18 : decode cX5_howManyWays 18 = .ok (.getfield 23, 3) := by decide +kernel
theorem dX5_howManyWays_21 : decode cX5_howManyWays 21 = .ok (.aload_n 0, 1) := by decide +kernel
theorem dX5_howManyWays_22 : decode cX5_howManyWays 22 = .ok (.getfield 15, 3) := by decide +kernel
theorem dX5_howManyWays_25 : decode cX5_howManyWays 25 = .ok (.invokevirtual 76, 3) := by decide +kernel
theorem dX5_howManyWays_28 : decode cX5_howManyWays 28 = .ok (.iload_n 1, 1) := by decide +kernel
theorem dX5_howManyWays_29 : decode cX5_howManyWays 29 = .ok (.if_icmp .ne 6, 3) := by decide +kernel
theorem dX5_howManyWays_32 : decode cX5_howManyWays 32 = .ok (.iinc 2 1, 3) := by decide +kernel
theorem dX5_howManyWays_35 : decode cX5_howManyWays 35 = .ok (.aload_n 0, 1) := by decide +kernel
theorem dX5_howManyWays_36 : decode cX5_howManyWays 36 = .ok (.getfield 23, 3) := by decide +kernel
theorem dX5_howManyWays_39 : decode cX5_howManyWays 39 = .ok (.invokevirtual 87, 3) := by decide +kernel
theorem dX5_howManyWays_42 : decode cX5_howManyWays 42 = .ok (.iinc 4 1, 3) := by decide +kernel
theorem dX5_howManyWays_45 : decode cX5_howManyWays 45 = .ok (.goto (-34), 3) := by decide +kernel
theorem dX5_howManyWays_48 : decode cX5_howManyWays 48 = .ok (.iload_n 2, 1) := by decide +kernel
theorem dX5_howManyWays_49 : decode cX5_howManyWays 49 = .ok (.ireturn, 1) := by decide +kernel
theorem dX5_leastUnpayable_0 : decode cX5_leastUnpayable 0 = .ok (.iconst 0, 1) := by decide +kernel
theorem dX5_leastUnpayable_1 : decode cX5_leastUnpayable 1 = .ok (.istore_n 1, 1) := by decide +kernel
theorem dX5_leastUnpayable_2 : decode cX5_leastUnpayable 2 = .ok (.iload_n 1, 1) := by decide +kernel
theorem dX5_leastUnpayable_3 : decode cX5_leastUnpayable 3 = .ok (.aload_n 0, 1) := by decide +kernel
theorem dX5_leastUnpayable_4 : decode cX5_leastUnpayable 4 = .ok (.getfield 30, 3) := by decide +kernel
theorem dX5_leastUnpayable_7 : decode cX5_leastUnpayable 7 = .ok (.arraylength, 1) := by decide +kernel
theorem dX5_leastUnpayable_8 : decode cX5_leastUnpayable 8 = .ok (.if_icmp .ge 16, 3) := by decide +kernel
theorem dX5_leastUnpayable_11 : decode cX5_leastUnpayable 11 = .ok (.aload_n 0, 1) := by decide +kernel
theorem dX5_leastUnpayable_12 : decode cX5_leastUnpayable 12 = .ok (.getfield 30, 3) := by decide +kernel
theorem dX5_leastUnpayable_15 : decode cX5_leastUnpayable 15 = .ok (.iload_n 1, 1) := by decide +kernel
theorem dX5_leastUnpayable_16 : decode cX5_leastUnpayable 16 = .ok (.iconst 0, 1) := by decide +kernel
theorem dX5_leastUnpayable_17 : decode cX5_leastUnpayable 17 = .ok (.bastore, 1) := by decide +kernel
theorem dX5_leastUnpayable_18 : decode cX5_leastUnpayable 18 = .ok (.iinc 1 1, 3) := by decide +kernel
theorem dX5_leastUnpayable_21 : decode cX5_leastUnpayable 21 = .ok (.goto (-19), 3) := by decide +kernel
theorem dX5_leastUnpayable_24 : decode cX5_leastUnpayable 24 = .ok (.aload_n 0, 1) := by decide +kernel
theorem dX5_leastUnpayable_25 : decode cX5_leastUnpayable 25 = .ok (.iconst 0, 1) := by decide +kernel
theorem dX5_leastUnpayable_26 : decode cX5_leastUnpayable 26 = .ok (.invokevirtual 73, 3) := by decide +kernel
theorem dX5_leastUnpayable_29 : decode cX5_leastUnpayable 29 = .ok (.istore_n 1, 1) := by decide +kernel
theorem dX5_leastUnpayable_30 : decode cX5_leastUnpayable 30 = .ok (.iconst 0, 1) := by decide +kernel
theorem dX5_leastUnpayable_31 : decode cX5_leastUnpayable 31 = .ok (.istore_n 2, 1) := by decide +kernel
theorem dX5_leastUnpayable_32 : decode cX5_leastUnpayable 32 = .ok (.iload_n 2, 1) := by decide +kernel
theorem dX5_leastUnpayable_33 : decode cX5_leastUnpayable 33 = .ok (.iload_n 1, 1) := by decide +kernel
theorem dX5_leastUnpayable_34 : decode cX5_leastUnpayable 34 = .ok (.if_icmp .ge 48, 3) := by decide +kernel
theorem dX5_leastUnpayable_37 : decode cX5_leastUnpayable 37 = .ok (.aload_n 0, 1) := by decide +kernel
theorem dX5_leastUnpayable_38 : decode cX5_leastUnpayable 38 = .ok (.getfield 23, 3) := by decide +kernel
theorem dX5_leastUnpayable_41 : decode cX5_leastUnpayable 41 = .ok (.aload_n 0, 1) := by decide +kernel
theorem dX5_leastUnpayable_42 : decode cX5_leastUnpayable 42 = .ok (.getfield 15, 3) := by decide +kernel
theorem dX5_leastUnpayable_45 : decode cX5_leastUnpayable 45 = .ok (.invokevirtual 76, 3) := by decide +kernel
theorem dX5_leastUnpayable_48 : decode cX5_leastUnpayable 48 = .ok (.istore_n 3, 1) := by decide +kernel
theorem dX5_leastUnpayable_49 : decode cX5_leastUnpayable 49 = .ok (.iload_n 3, 1) := by decide +kernel
theorem dX5_leastUnpayable_50 : decode cX5_leastUnpayable 50 = .ok (.ifCond .lt 19, 3) := by decide +kernel
theorem dX5_leastUnpayable_53 : decode cX5_leastUnpayable 53 = .ok (.iload_n 3, 1) := by decide +kernel
theorem dX5_leastUnpayable_54 : decode cX5_leastUnpayable 54 = .ok (.aload_n 0, 1) := by decide +kernel
theorem dX5_leastUnpayable_55 : decode cX5_leastUnpayable 55 = .ok (.getfield 30, 3) := by decide +kernel
theorem dX5_leastUnpayable_58 : decode cX5_leastUnpayable 58 = .ok (.arraylength, 1) := by decide +kernel
theorem dX5_leastUnpayable_59 : decode cX5_leastUnpayable 59 = .ok (.if_icmp .ge 10, 3) := by decide +kernel
theorem dX5_leastUnpayable_62 : decode cX5_leastUnpayable 62 = .ok (.aload_n 0, 1) := by decide +kernel
theorem dX5_leastUnpayable_63 : decode cX5_leastUnpayable 63 = .ok (.getfield 30, 3) := by decide +kernel
theorem dX5_leastUnpayable_66 : decode cX5_leastUnpayable 66 = .ok (.iload_n 3, 1) := by decide +kernel
theorem dX5_leastUnpayable_67 : decode cX5_leastUnpayable 67 = .ok (.iconst 1, 1) := by decide +kernel
theorem dX5_leastUnpayable_68 : decode cX5_leastUnpayable 68 = .ok (.bastore, 1) := by decide +kernel
theorem dX5_leastUnpayable_69 : decode cX5_leastUnpayable 69 = .ok (.aload_n 0, 1) := by decide +kernel
theorem dX5_leastUnpayable_70 : decode cX5_leastUnpayable 70 = .ok (.getfield 23, 3) := by decide +kernel
theorem dX5_leastUnpayable_73 : decode cX5_leastUnpayable 73 = .ok (.invokevirtual 87, 3) := by decide +kernel
theorem dX5_leastUnpayable_76 : decode cX5_leastUnpayable 76 = .ok (.iinc 2 1, 3) := by decide +kernel
theorem dX5_leastUnpayable_79 : decode cX5_leastUnpayable 79 = .ok (.goto (-47), 3) := by decide +kernel
theorem dX5_leastUnpayable_82 : decode cX5_leastUnpayable 82 = .ok (.iconst 1, 1) := by decide +kernel
theorem dX5_leastUnpayable_83 : decode cX5_leastUnpayable 83 = .ok (.istore_n 2, 1) := by decide +kernel
theorem dX5_leastUnpayable_84 : decode cX5_leastUnpayable 84 = .ok (.iload_n 2, 1) := by decide +kernel
theorem dX5_leastUnpayable_85 : decode cX5_leastUnpayable 85 = .ok (.aload_n 0, 1) := by decide +kernel
theorem dX5_leastUnpayable_86 : decode cX5_leastUnpayable 86 = .ok (.getfield 30, 3) := by decide +kernel
theorem dX5_leastUnpayable_89 : decode cX5_leastUnpayable 89 = .ok (.arraylength, 1) := by decide +kernel
theorem dX5_leastUnpayable_90 : decode cX5_leastUnpayable 90 = .ok (.if_icmp .ge 20, 3) := by decide +kernel
theorem dX5_leastUnpayable_93 : decode cX5_leastUnpayable 93 = .ok (.aload_n 0, 1) := by decide +kernel
theorem dX5_leastUnpayable_94 : decode cX5_leastUnpayable 94 = .ok (.getfield 30, 3) := by decide +kernel
theorem dX5_leastUnpayable_97 : decode cX5_leastUnpayable 97 = .ok (.iload_n 2, 1) := by decide +kernel
theorem dX5_leastUnpayable_98 : decode cX5_leastUnpayable 98 = .ok (.baload, 1) := by decide +kernel
theorem dX5_leastUnpayable_99 : decode cX5_leastUnpayable 99 = .ok (.ifCond .ne 5, 3) := by decide +kernel
theorem dX5_leastUnpayable_102 : decode cX5_leastUnpayable 102 = .ok (.iload_n 2, 1) := by decide +kernel
theorem dX5_leastUnpayable_103 : decode cX5_leastUnpayable 103 = .ok (.ireturn, 1) := by decide +kernel
theorem dX5_leastUnpayable_104 : decode cX5_leastUnpayable 104 = .ok (.iinc 2 1, 3) := by decide +kernel
theorem dX5_leastUnpayable_107 : decode cX5_leastUnpayable 107 = .ok (.goto (-23), 3) := by decide +kernel
theorem dX5_leastUnpayable_110 : decode cX5_leastUnpayable 110 = .ok (.bipush (-5), 2) := by decide +kernel
theorem dX5_leastUnpayable_112 : decode cX5_leastUnpayable 112 = .ok (.ireturn, 1) := by decide +kernel
theorem dX5_fewestForUpTo_0 : decode cX5_fewestForUpTo 0 = .ok (.iconst 0, 1) := by decide +kernel
theorem dX5_fewestForUpTo_1 : decode cX5_fewestForUpTo 1 = .ok (.istore_n 2, 1) := by decide +kernel
theorem dX5_fewestForUpTo_2 : decode cX5_fewestForUpTo 2 = .ok (.iload_n 2, 1) := by decide +kernel
theorem dX5_fewestForUpTo_3 : decode cX5_fewestForUpTo 3 = .ok (.iconst 4, 1) := by decide +kernel
theorem dX5_fewestForUpTo_4 : decode cX5_fewestForUpTo 4 = .ok (.if_icmp .ge 38, 3) := by decide +kernel
theorem dX5_fewestForUpTo_7 : decode cX5_fewestForUpTo 7 = .ok (.aload_n 0, 1) := by decide +kernel
theorem dX5_fewestForUpTo_8 : decode cX5_fewestForUpTo 8 = .ok (.getfield 23, 3) := by decide +kernel
theorem dX5_fewestForUpTo_11 : decode cX5_fewestForUpTo 11 = .ok (.iload_n 2, 1) := by decide +kernel
theorem dX5_fewestForUpTo_12 : decode cX5_fewestForUpTo 12 = .ok (.iconst 0, 1) := by decide +kernel
theorem dX5_fewestForUpTo_13 : decode cX5_fewestForUpTo 13 = .ok (.aload_n 0, 1) := by decide +kernel
theorem dX5_fewestForUpTo_14 : decode cX5_fewestForUpTo 14 = .ok (.getfield 34, 3) := by decide +kernel
theorem dX5_fewestForUpTo_17 : decode cX5_fewestForUpTo 17 = .ok (.getfield 38, 3) := by decide +kernel
theorem dX5_fewestForUpTo_20 : decode cX5_fewestForUpTo 20 = .ok (.iload_n 2, 1) := by decide +kernel
theorem dX5_fewestForUpTo_21 : decode cX5_fewestForUpTo 21 = .ok (.invokevirtual 53, 3) := by decide +kernel
theorem dX5_fewestForUpTo_24 : decode cX5_fewestForUpTo 24 = .ok (.ifCond .eq 8, 3) := by decide +kernel
theorem dX5_fewestForUpTo_27 : decode cX5_fewestForUpTo 27 = .ok (.bipush 6, 2) := by decide +kernel
theorem dX5_fewestForUpTo_29 : decode cX5_fewestForUpTo 29 = .ok (.goto 4, 3) := by decide +kernel
theorem dX5_fewestForUpTo_32 : decode cX5_fewestForUpTo 32 = .ok (.iconst 0, 1) := by decide +kernel
theorem dX5_fewestForUpTo_33 : decode cX5_fewestForUpTo 33 = .ok (.invokevirtual 65, 3) := by decide +kernel
theorem dX5_fewestForUpTo_36 : decode cX5_fewestForUpTo 36 = .ok (.iinc 2 1, 3) := by decide +kernel
theorem dX5_fewestForUpTo_39 : decode cX5_fewestForUpTo 39 = .ok (.goto (-37), 3) := by decide +kernel
theorem dX5_fewestForUpTo_42 : decode cX5_fewestForUpTo 42 = .ok (.bipush (-5), 2) := by decide +kernel
theorem dX5_fewestForUpTo_44 : decode cX5_fewestForUpTo 44 = .ok (.istore_n 2, 1) := by decide +kernel
theorem dX5_fewestForUpTo_45 : decode cX5_fewestForUpTo 45 = .ok (.aload_n 0, 1) := by decide +kernel
theorem dX5_fewestForUpTo_46 : decode cX5_fewestForUpTo 46 = .ok (.getfield 23, 3) := by decide +kernel
theorem dX5_fewestForUpTo_49 : decode cX5_fewestForUpTo 49 = .ok (.invokevirtual 69, 3) := by decide +kernel
theorem dX5_fewestForUpTo_52 : decode cX5_fewestForUpTo 52 = .ok (.istore_n 3, 1) := by decide +kernel
theorem dX5_fewestForUpTo_53 : decode cX5_fewestForUpTo 53 = .ok (.iconst 0, 1) := by decide +kernel
theorem dX5_fewestForUpTo_54 : decode cX5_fewestForUpTo 54 = .ok (.istore 4, 2) := by decide +kernel
theorem dX5_fewestForUpTo_56 : decode cX5_fewestForUpTo 56 = .ok (.iload 4, 2) := by decide +kernel
theorem dX5_fewestForUpTo_58 : decode cX5_fewestForUpTo 58 = .ok (.iload_n 3, 1) := by decide +kernel
theorem dX5_fewestForUpTo_59 : decode cX5_fewestForUpTo 59 = .ok (.if_icmp .ge 60, 3) := by decide +kernel
theorem dX5_fewestForUpTo_62 : decode cX5_fewestForUpTo 62 = .ok (.iload_n 2, 1) := by decide +kernel
theorem dX5_fewestForUpTo_63 : decode cX5_fewestForUpTo 63 = .ok (.bipush (-5), 2) := by decide +kernel
theorem dX5_fewestForUpTo_65 : decode cX5_fewestForUpTo 65 = .ok (.if_icmp .eq 14, 3) := by decide +kernel
theorem dX5_fewestForUpTo_68 : decode cX5_fewestForUpTo 68 = .ok (.aload_n 0, 1) := by decide +kernel
theorem dX5_fewestForUpTo_69 : decode cX5_fewestForUpTo 69 = .ok (.getfield 23, 3) := by decide +kernel
theorem dX5_fewestForUpTo_72 : decode cX5_fewestForUpTo 72 = .ok (.invokevirtual 80, 3) := by decide +kernel
theorem dX5_fewestForUpTo_75 : decode cX5_fewestForUpTo 75 = .ok (.iload_n 2, 1) := by decide +kernel
theorem dX5_fewestForUpTo_76 : decode cX5_fewestForUpTo 76 = .ok (.if_icmp .ge 30, 3) := by decide +kernel
theorem dX5_fewestForUpTo_79 : decode cX5_fewestForUpTo 79 = .ok (.aload_n 0, 1) := by decide +kernel
theorem dX5_fewestForUpTo_80 : decode cX5_fewestForUpTo 80 = .ok (.iload_n 1, 1) := by decide +kernel
theorem dX5_fewestForUpTo_81 : decode cX5_fewestForUpTo 81 = .ok (.invokevirtual 90, 3) := by decide +kernel
theorem dX5_fewestForUpTo_84 : decode cX5_fewestForUpTo 84 = .ok (.ifCond .eq 22, 3) := by decide +kernel
theorem dX5_fewestForUpTo_87 : decode cX5_fewestForUpTo 87 = .ok (.aload_n 0, 1) := by decide +kernel
theorem dX5_fewestForUpTo_88 : decode cX5_fewestForUpTo 88 = .ok (.getfield 23, 3) := by decide +kernel
theorem dX5_fewestForUpTo_91 : decode cX5_fewestForUpTo 91 = .ok (.invokevirtual 80, 3) := by decide +kernel
theorem dX5_fewestForUpTo_94 : decode cX5_fewestForUpTo 94 = .ok (.istore_n 2, 1) := by decide +kernel
theorem dX5_fewestForUpTo_95 : decode cX5_fewestForUpTo 95 = .ok (.aload_n 0, 1) := by decide +kernel
theorem dX5_fewestForUpTo_96 : decode cX5_fewestForUpTo 96 = .ok (.getfield 23, 3) := by decide +kernel
theorem dX5_fewestForUpTo_99 : decode cX5_fewestForUpTo 99 = .ok (.aload_n 0, 1) := by decide +kernel
theorem dX5_fewestForUpTo_100 : decode cX5_fewestForUpTo 100 = .ok (.getfield 27, 3) := by decide +kernel
theorem dX5_fewestForUpTo_103 : decode cX5_fewestForUpTo 103 = .ok (.invokevirtual 83, 3) := by decide +kernel
theorem dX5_fewestForUpTo_106 : decode cX5_fewestForUpTo 106 = .ok (.aload_n 0, 1) := by decide +kernel
theorem dX5_fewestForUpTo_107 : decode cX5_fewestForUpTo 107 = .ok (.getfield 23, 3) := by decide +kernel
theorem dX5_fewestForUpTo_110 : decode cX5_fewestForUpTo 110 = .ok (.invokevirtual 87, 3) := by decide +kernel
theorem dX5_fewestForUpTo_113 : decode cX5_fewestForUpTo 113 = .ok (.iinc 4 1, 3) := by decide +kernel
theorem dX5_fewestForUpTo_116 : decode cX5_fewestForUpTo 116 = .ok (.goto (-60), 3) := by decide +kernel
theorem dX5_fewestForUpTo_119 : decode cX5_fewestForUpTo 119 = .ok (.iload_n 2, 1) := by decide +kernel
theorem dX5_fewestForUpTo_120 : decode cX5_fewestForUpTo 120 = .ok (.ireturn, 1) := by decide +kernel
theorem dX5_paysUpTo_0 : decode cX5_paysUpTo 0 = .ok (.lconst 1, 1) := by decide +kernel
theorem dX5_paysUpTo_1 : decode cX5_paysUpTo 1 = .ok (.iload_n 1, 1) := by decide +kernel
theorem dX5_paysUpTo_2 : decode cX5_paysUpTo 2 = .ok (.iconst 1, 1) := by decide +kernel
theorem dX5_paysUpTo_3 : decode cX5_paysUpTo 3 = .ok (.iadd, 1) := by decide +kernel
theorem dX5_paysUpTo_4 : decode cX5_paysUpTo 4 = .ok (.lshl, 1) := by decide +kernel
theorem dX5_paysUpTo_5 : decode cX5_paysUpTo 5 = .ok (.lconst 1, 1) := by decide +kernel
theorem dX5_paysUpTo_6 : decode cX5_paysUpTo 6 = .ok (.lsub, 1) := by decide +kernel
theorem dX5_paysUpTo_7 : decode cX5_paysUpTo 7 = .ok (.lstore_n 2, 1) := by decide +kernel
theorem dX5_paysUpTo_8 : decode cX5_paysUpTo 8 = .ok (.lconst 1, 1) := by decide +kernel
theorem dX5_paysUpTo_9 : decode cX5_paysUpTo 9 = .ok (.lstore 4, 2) := by decide +kernel
theorem dX5_paysUpTo_11 : decode cX5_paysUpTo 11 = .ok (.iconst 0, 1) := by decide +kernel
theorem dX5_paysUpTo_12 : decode cX5_paysUpTo 12 = .ok (.istore 6, 2) := by decide +kernel
theorem dX5_paysUpTo_14 : decode cX5_paysUpTo 14 = .ok (.iload 6, 2) := by decide +kernel
theorem dX5_paysUpTo_16 : decode cX5_paysUpTo 16 = .ok (.aload_n 0, 1) := by decide +kernel
theorem dX5_paysUpTo_17 : decode cX5_paysUpTo 17 = .ok (.getfield 15, 3) := by decide +kernel
theorem dX5_paysUpTo_20 : decode cX5_paysUpTo 20 = .ok (.arraylength, 1) := by decide +kernel
theorem dX5_paysUpTo_21 : decode cX5_paysUpTo 21 = .ok (.if_icmp .ge 68, 3) := by decide +kernel
theorem dX5_paysUpTo_24 : decode cX5_paysUpTo 24 = .ok (.aload_n 0, 1) := by decide +kernel
theorem dX5_paysUpTo_25 : decode cX5_paysUpTo 25 = .ok (.getfield 15, 3) := by decide +kernel
theorem dX5_paysUpTo_28 : decode cX5_paysUpTo 28 = .ok (.iload 6, 2) := by decide +kernel
theorem dX5_paysUpTo_30 : decode cX5_paysUpTo 30 = .ok (.iaload, 1) := by decide +kernel
theorem dX5_paysUpTo_31 : decode cX5_paysUpTo 31 = .ok (.iload_n 1, 1) := by decide +kernel
theorem dX5_paysUpTo_32 : decode cX5_paysUpTo 32 = .ok (.if_icmp .gt 15, 3) := by decide +kernel
theorem dX5_paysUpTo_35 : decode cX5_paysUpTo 35 = .ok (.aload_n 0, 1) := by decide +kernel
theorem dX5_paysUpTo_36 : decode cX5_paysUpTo 36 = .ok (.getfield 23, 3) := by decide +kernel
theorem dX5_paysUpTo_39 : decode cX5_paysUpTo 39 = .ok (.iload 6, 2) := by decide +kernel
theorem dX5_paysUpTo_41 : decode cX5_paysUpTo 41 = .ok (.invokevirtual 93, 3) := by decide +kernel
theorem dX5_paysUpTo_44 : decode cX5_paysUpTo 44 = .ok (.goto 4, 3) := by decide +kernel
theorem dX5_paysUpTo_47 : decode cX5_paysUpTo 47 = .ok (.iconst 0, 1) := by decide +kernel
theorem dX5_paysUpTo_48 : decode cX5_paysUpTo 48 = .ok (.istore 7, 2) := by decide +kernel
theorem dX5_paysUpTo_50 : decode cX5_paysUpTo 50 = .ok (.iconst 0, 1) := by decide +kernel
theorem dX5_paysUpTo_51 : decode cX5_paysUpTo 51 = .ok (.istore 8, 2) := by decide +kernel
theorem dX5_paysUpTo_53 : decode cX5_paysUpTo 53 = .ok (.iload 8, 2) := by decide +kernel
theorem dX5_paysUpTo_55 : decode cX5_paysUpTo 55 = .ok (.iload 7, 2) := by decide +kernel
theorem dX5_paysUpTo_57 : decode cX5_paysUpTo 57 = .ok (.if_icmp .ge 26, 3) := by decide +kernel
theorem dX5_paysUpTo_60 : decode cX5_paysUpTo 60 = .ok (.lload 4, 2) := by decide +kernel
theorem dX5_paysUpTo_62 : decode cX5_paysUpTo 62 = .ok (.lload 4, 2) := by decide +kernel
theorem dX5_paysUpTo_64 : decode cX5_paysUpTo 64 = .ok (.aload_n 0, 1) := by decide +kernel
theorem dX5_paysUpTo_65 : decode cX5_paysUpTo 65 = .ok (.getfield 15, 3) := by decide +kernel
theorem dX5_paysUpTo_68 : decode cX5_paysUpTo 68 = .ok (.iload 6, 2) := by decide +kernel
theorem dX5_paysUpTo_70 : decode cX5_paysUpTo 70 = .ok (.iaload, 1) := by decide +kernel
theorem dX5_paysUpTo_71 : decode cX5_paysUpTo 71 = .ok (.lshl, 1) := by decide +kernel
theorem dX5_paysUpTo_72 : decode cX5_paysUpTo 72 = .ok (.lload_n 2, 1) := by decide +kernel
theorem dX5_paysUpTo_73 : decode cX5_paysUpTo 73 = .ok (.land, 1) := by decide +kernel
theorem dX5_paysUpTo_74 : decode cX5_paysUpTo 74 = .ok (.lor, 1) := by decide +kernel
theorem dX5_paysUpTo_75 : decode cX5_paysUpTo 75 = .ok (.lstore 4, 2) := by decide +kernel
theorem dX5_paysUpTo_77 : decode cX5_paysUpTo 77 = .ok (.iinc 8 1, 3) := by decide +kernel
theorem dX5_paysUpTo_80 : decode cX5_paysUpTo 80 = .ok (.goto (-27), 3) := by decide +kernel
theorem dX5_paysUpTo_83 : decode cX5_paysUpTo 83 = .ok (.iinc 6 1, 3) := by decide +kernel
theorem dX5_paysUpTo_86 : decode cX5_paysUpTo 86 = .ok (.goto (-72), 3) := by decide +kernel
theorem dX5_paysUpTo_89 : decode cX5_paysUpTo 89 = .ok (.lload 4, 2) := by decide +kernel
theorem dX5_paysUpTo_91 : decode cX5_paysUpTo 91 = .ok (.lload_n 2, 1) := by decide +kernel
theorem dX5_paysUpTo_92 : decode cX5_paysUpTo 92 = .ok (.lcmp, 1) := by decide +kernel
theorem dX5_paysUpTo_93 : decode cX5_paysUpTo 93 = .ok (.ifCond .ne 7, 3) := by decide +kernel
theorem dX5_paysUpTo_96 : decode cX5_paysUpTo 96 = .ok (.iconst 1, 1) := by decide +kernel
theorem dX5_paysUpTo_97 : decode cX5_paysUpTo 97 = .ok (.goto 4, 3) := by decide +kernel
theorem dX5_paysUpTo_100 : decode cX5_paysUpTo 100 = .ok (.iconst 0, 1) := by decide +kernel
theorem dX5_paysUpTo_101 : decode cX5_paysUpTo 101 = .ok (.ireturn, 1) := by decide +kernel
theorem dX5_riches_0 : decode cX5_riches 0 = .ok (.iconst 0, 1) := by decide +kernel
theorem dX5_riches_1 : decode cX5_riches 1 = .ok (.istore_n 1, 1) := by decide +kernel
theorem dX5_riches_2 : decode cX5_riches 2 = .ok (.iconst 0, 1) := by decide +kernel
theorem dX5_riches_3 : decode cX5_riches 3 = .ok (.istore_n 2, 1) := by decide +kernel
theorem dX5_riches_4 : decode cX5_riches 4 = .ok (.iload_n 2, 1) := by decide +kernel
theorem dX5_riches_5 : decode cX5_riches 5 = .ok (.aload_n 0, 1) := by decide +kernel
theorem dX5_riches_6 : decode cX5_riches 6 = .ok (.getfield 9, 3) := by decide +kernel
theorem dX5_riches_9 : decode cX5_riches 9 = .ok (.arraylength, 1) := by decide +kernel
theorem dX5_riches_10 : decode cX5_riches 10 = .ok (.if_icmp .ge 34, 3) := by decide +kernel
theorem dX5_riches_13 : decode cX5_riches 13 = .ok (.iload_n 2, 1) := by decide +kernel
theorem dX5_riches_14 : decode cX5_riches 14 = .ok (.aload_n 0, 1) := by decide +kernel
theorem dX5_riches_15 : decode cX5_riches 15 = .ok (.getfield 15, 3) := by decide +kernel
theorem dX5_riches_18 : decode cX5_riches 18 = .ok (.arraylength, 1) := by decide +kernel
theorem dX5_riches_19 : decode cX5_riches 19 = .ok (.if_icmp .ge 25, 3) := by decide +kernel
theorem dX5_riches_22 : decode cX5_riches 22 = .ok (.iload_n 1, 1) := by decide +kernel
theorem dX5_riches_23 : decode cX5_riches 23 = .ok (.aload_n 0, 1) := by decide +kernel
theorem dX5_riches_24 : decode cX5_riches 24 = .ok (.getfield 9, 3) := by decide +kernel
theorem dX5_riches_27 : decode cX5_riches 27 = .ok (.iload_n 2, 1) := by decide +kernel
theorem dX5_riches_28 : decode cX5_riches 28 = .ok (.iaload, 1) := by decide +kernel
theorem dX5_riches_29 : decode cX5_riches 29 = .ok (.aload_n 0, 1) := by decide +kernel
theorem dX5_riches_30 : decode cX5_riches 30 = .ok (.getfield 15, 3) := by decide +kernel
theorem dX5_riches_33 : decode cX5_riches 33 = .ok (.iload_n 2, 1) := by decide +kernel
theorem dX5_riches_34 : decode cX5_riches 34 = .ok (.iaload, 1) := by decide +kernel
theorem dX5_riches_35 : decode cX5_riches 35 = .ok (.imul, 1) := by decide +kernel
theorem dX5_riches_36 : decode cX5_riches 36 = .ok (.iadd, 1) := by decide +kernel
theorem dX5_riches_37 : decode cX5_riches 37 = .ok (.istore_n 1, 1) := by decide +kernel
theorem dX5_riches_38 : decode cX5_riches 38 = .ok (.iinc 2 1, 3) := by decide +kernel
theorem dX5_riches_41 : decode cX5_riches 41 = .ok (.goto (-37), 3) := by decide +kernel
theorem dX5_riches_44 : decode cX5_riches 44 = .ok (.iload_n 1, 1) := by decide +kernel
theorem dX5_riches_45 : decode cX5_riches 45 = .ok (.ireturn, 1) := by decide +kernel
theorem dX5_payPlanned_0 : decode cX5_payPlanned 0 = .ok (.iconst 0, 1) := by decide +kernel
theorem dX5_payPlanned_1 : decode cX5_payPlanned 1 = .ok (.istore_n 1, 1) := by decide +kernel
theorem dX5_payPlanned_2 : decode cX5_payPlanned 2 = .ok (.iload_n 1, 1) := by decide +kernel
theorem dX5_payPlanned_3 : decode cX5_payPlanned 3 = .ok (.aload_n 0, 1) := by decide +kernel
theorem dX5_payPlanned_4 : decode cX5_payPlanned 4 = .ok (.getfield 34, 3) := by decide +kernel
theorem dX5_payPlanned_7 : decode cX5_payPlanned 7 = .ok (.getfield 95, 3) := by decide +kernel
theorem dX5_payPlanned_10 : decode cX5_payPlanned 10 = .ok (.invokevirtual 98, 3) := by decide +kernel
theorem dX5_payPlanned_13 : decode cX5_payPlanned 13 = .ok (.if_icmp .ge 68, 3) := by decide +kernel
theorem dX5_payPlanned_16 : decode cX5_payPlanned 16 = .ok (.aload_n 0, 1) := by decide +kernel
theorem dX5_payPlanned_17 : decode cX5_payPlanned 17 = .ok (.aload_n 0, 1) := by decide +kernel
theorem dX5_payPlanned_18 : decode cX5_payPlanned 18 = .ok (.getfield 34, 3) := by decide +kernel
theorem dX5_payPlanned_21 : decode cX5_payPlanned 21 = .ok (.getfield 95, 3) := by decide +kernel
theorem dX5_payPlanned_24 : decode cX5_payPlanned 24 = .ok (.iload_n 1, 1) := by decide +kernel
theorem dX5_payPlanned_25 : decode cX5_payPlanned 25 = .ok (.iconst 0, 1) := by decide +kernel
theorem dX5_payPlanned_26 : decode cX5_payPlanned 26 = .ok (.invokevirtual 44, 3) := by decide +kernel
theorem dX5_payPlanned_29 : decode cX5_payPlanned 29 = .ok (.iconst 0, 1) := by decide +kernel
theorem dX5_payPlanned_30 : decode cX5_payPlanned 30 = .ok (.invokevirtual 100, 3) := by decide +kernel
theorem dX5_payPlanned_33 : decode cX5_payPlanned 33 = .ok (.bipush (-5), 2) := by decide +kernel
theorem dX5_payPlanned_35 : decode cX5_payPlanned 35 = .ok (.if_icmp .ne 5, 3) := by decide +kernel
theorem dX5_payPlanned_38 : decode cX5_payPlanned 38 = .ok (.iload_n 1, 1) := by decide +kernel
theorem dX5_payPlanned_39 : decode cX5_payPlanned 39 = .ok (.ireturn, 1) := by decide +kernel
theorem dX5_payPlanned_40 : decode cX5_payPlanned 40 = .ok (.iconst 0, 1) := by decide +kernel
theorem dX5_payPlanned_41 : decode cX5_payPlanned 41 = .ok (.istore_n 2, 1) := by decide +kernel
theorem dX5_payPlanned_42 : decode cX5_payPlanned 42 = .ok (.iload_n 2, 1) := by decide +kernel
theorem dX5_payPlanned_43 : decode cX5_payPlanned 43 = .ok (.aload_n 0, 1) := by decide +kernel
theorem dX5_payPlanned_44 : decode cX5_payPlanned 44 = .ok (.getfield 9, 3) := by decide +kernel
theorem dX5_payPlanned_47 : decode cX5_payPlanned 47 = .ok (.arraylength, 1) := by decide +kernel
theorem dX5_payPlanned_48 : decode cX5_payPlanned 48 = .ok (.if_icmp .ge 23, 3) := by decide +kernel
theorem dX5_payPlanned_51 : decode cX5_payPlanned 51 = .ok (.aload_n 0, 1) := by decide +kernel
theorem dX5_payPlanned_52 : decode cX5_payPlanned 52 = .ok (.getfield 9, 3) := by decide +kernel
theorem dX5_payPlanned_55 : decode cX5_payPlanned 55 = .ok (.iload_n 2, 1) := by decide +kernel
theorem dX5_payPlanned_56 : decode cX5_payPlanned 56 = .ok (.dup2, 1) := by decide +kernel
theorem dX5_payPlanned_57 : decode cX5_payPlanned 57 = .ok (.iaload, 1) := by decide +kernel
theorem dX5_payPlanned_58 : decode cX5_payPlanned 58 = .ok (.aload_n 0, 1) := by decide +kernel
theorem dX5_payPlanned_59 : decode cX5_payPlanned 59 = .ok (.iload_n 2, 1) := by decide +kernel
theorem dX5_payPlanned_60 : decode cX5_payPlanned 60 = .ok (.invokevirtual 103, 3) := by decide +kernel
theorem dX5_payPlanned_63 : decode cX5_payPlanned 63 = .ok (.isub, 1) := by decide +kernel
theorem dX5_payPlanned_64 : decode cX5_payPlanned 64 = .ok (.iastore, 1) := by decide +kernel
theorem dX5_payPlanned_65 : decode cX5_payPlanned 65 = .ok (.iinc 2 1, 3) := by decide +kernel
theorem dX5_payPlanned_68 : decode cX5_payPlanned 68 = .ok (.goto (-26), 3) := by decide +kernel
theorem dX5_payPlanned_71 : decode cX5_payPlanned 71 = .ok (.aload_n 0, 1) := by decide +kernel
theorem dX5_payPlanned_72 : decode cX5_payPlanned 72 = .ok (.invokevirtual 50, 3) := by decide +kernel
theorem dX5_payPlanned_75 : decode cX5_payPlanned 75 = .ok (.iinc 1 1, 3) := by decide +kernel
theorem dX5_payPlanned_78 : decode cX5_payPlanned 78 = .ok (.goto (-76), 3) := by decide +kernel
theorem dX5_payPlanned_81 : decode cX5_payPlanned 81 = .ok (.aload_n 0, 1) := by decide +kernel
theorem dX5_payPlanned_82 : decode cX5_payPlanned 82 = .ok (.getfield 34, 3) := by decide +kernel
theorem dX5_payPlanned_85 : decode cX5_payPlanned 85 = .ok (.getfield 95, 3) := by decide +kernel
theorem dX5_payPlanned_88 : decode cX5_payPlanned 88 = .ok (.invokevirtual 98, 3) := by decide +kernel
theorem dX5_payPlanned_91 : decode cX5_payPlanned 91 = .ok (.ireturn, 1) := by decide +kernel
theorem dX6_init_0 : decode cX6_init 0 = .ok (.aload_n 0, 1) := by decide +kernel
theorem dX6_init_1 : decode cX6_init 1 = .ok (.invokespecial 3, 3) := by decide +kernel
theorem dX6_init_4 : decode cX6_init 4 = .ok (.aload_n 0, 1) := by decide +kernel
theorem dX6_init_5 : decode cX6_init 5 = .ok (.bipush 100, 2) := by decide +kernel
theorem dX6_init_7 : decode cX6_init 7 = .ok (.newarray .int, 2) := by decide +kernel
theorem dX6_init_9 : decode cX6_init 9 = .ok (.putfield 9, 3) := by decide +kernel
theorem dX6_init_12 : decode cX6_init 12 = .ok (.aload_n 0, 1) := by decide +kernel
theorem dX6_init_13 : decode cX6_init 13 = .ok (.iconst 0, 1) := by decide +kernel
theorem dX6_init_14 : decode cX6_init 14 = .ok (.putfield 15, 3) := by decide +kernel
theorem dX6_init_17 : decode cX6_init 17 = .ok (.aload_n 0, 1) := by decide +kernel
theorem dX6_init_18 : decode cX6_init 18 = .ok (.iconst 0, 1) := by decide +kernel
theorem dX6_init_19 : decode cX6_init 19 = .ok (.putfield 19, 3) := by decide +kernel
theorem dX6_init_22 : decode cX6_init 22 = .ok (.aload_n 0, 1) := by decide +kernel
theorem dX6_init_23 : decode cX6_init 23 = .ok (.bipush 100, 2) := by decide +kernel
theorem dX6_init_25 : decode cX6_init 25 = .ok (.newarray .int, 2) := by decide +kernel
theorem dX6_init_27 : decode cX6_init 27 = .ok (.putfield 22, 3) := by decide +kernel
theorem dX6_init_30 : decode cX6_init 30 = .ok (.aload_n 0, 1) := by decide +kernel
theorem dX6_init_31 : decode cX6_init 31 = .ok (.iconst 0, 1) := by decide +kernel
theorem dX6_init_32 : decode cX6_init 32 = .ok (.putfield 25, 3) := by decide +kernel
theorem dX6_init_35 : decode cX6_init 35 = .ok (.aload_n 0, 1) := by decide +kernel
theorem dX6_init_36 : decode cX6_init 36 = .ok (.iconst 0, 1) := by decide +kernel
theorem dX6_init_37 : decode cX6_init 37 = .ok (.putfield 28, 3) := by decide +kernel
theorem dX6_init_40 : decode cX6_init 40 = .ok (.aload_n 0, 1) := by decide +kernel
theorem dX6_init_41 : decode cX6_init 41 = .ok (.iconst 0, 1) := by decide +kernel
theorem dX6_init_42 : decode cX6_init 42 = .ok (.putfield 31, 3) := by decide +kernel
theorem dX6_init_45 : decode cX6_init 45 = .ok (.aload_n 0, 1) := by decide +kernel
theorem dX6_init_46 : decode cX6_init 46 = .ok (.aload_n 1, 1) := by decide +kernel
theorem dX6_init_47 : decode cX6_init 47 = .ok (.putfield 34, 3) := by decide +kernel
theorem dX6_init_50 : decode cX6_init 50 = .ok (.return_, 1) := by decide +kernel
theorem dX6_place_0 : decode cX6_place 0 = .ok (.aload_n 0, 1) := by decide +kernel
theorem dX6_place_1 : decode cX6_place 1 = .ok (.getfield 19, 3) := by decide +kernel
theorem dX6_place_4 : decode cX6_place 4 = .ok (.ireturn, 1) := by decide +kernel
theorem dX6_read_0 : decode cX6_read 0 = .ok (.aload_n 0, 1) := by decide +kernel
theorem dX6_read_1 : decode cX6_read 1 = .ok (.invokevirtual 38, 3) := by decide +kernel
theorem dX6_read_4 : decode cX6_read 4 = .ok (.new 41, 3) := by decide +kernel
theorem dX6_read_7 : decode cX6_read 7 = .ok (.dup, 1) := by decide +kernel
theorem dX6_read_8 : decode cX6_read 8 = .ok (.invokespecial 43, 3) := by decide +kernel
theorem dX6_read_11 : decode cX6_read 11 = .ok (.astore_n 1, 1) := by decide +kernel
theorem dX6_read_12 : decode cX6_read 12 = .ok (.iconst 1, 1) := by decide +kernel
theorem dX6_read_13 : decode cX6_read 13 = .ok (.istore_n 2, 1) := by decide +kernel
theorem dX6_read_14 : decode cX6_read 14 = .ok (.iload_n 2, 1) := by decide +kernel
theorem dX6_read_15 : decode cX6_read 15 = .ok (.bipush 10, 2) := by decide +kernel
theorem dX6_read_17 : decode cX6_read 17 = .ok (.if_icmp .gt 55, 3) := by decide +kernel
theorem dX6_read_20 : decode cX6_read 20 = .ok (.aload_n 0, 1) := by decide +kernel
theorem dX6_read_21 : decode cX6_read 21 = .ok (.invokevirtual 44, 3) := by decide +kernel
theorem dX6_read_24 : decode cX6_read 24 = .ok (.astore_n 3, 1) := by decide +kernel
theorem dX6_read_25 : decode cX6_read 25 = .ok (.aload_n 3, 1) := by decide +kernel
theorem dX6_read_26 : decode cX6_read 26 = .ok (.ifnonnull 5, 3) := by decide +kernel
theorem dX6_read_29 : decode cX6_read 29 = .ok (.aconst_null, 1) := by decide +kernel
theorem dX6_read_30 : decode cX6_read 30 = .ok (.areturn, 1) := by decide +kernel
theorem dX6_read_31 : decode cX6_read 31 = .ok (.aload_n 1, 1) := by decide +kernel
theorem dX6_read_32 : decode cX6_read 32 = .ok (.aload_n 3, 1) := by decide +kernel
theorem dX6_read_33 : decode cX6_read 33 = .ok (.invokevirtual 48, 3) := by decide +kernel
theorem dX6_read_36 : decode cX6_read 36 = .ok (.aload_n 0, 1) := by decide +kernel
theorem dX6_read_37 : decode cX6_read 37 = .ok (.getfield 19, 3) := by decide +kernel
theorem dX6_read_40 : decode cX6_read 40 = .ok (.aload_n 0, 1) := by decide +kernel
theorem dX6_read_41 : decode cX6_read 41 = .ok (.getfield 15, 3) := by decide +kernel
theorem dX6_read_44 : decode cX6_read 44 = .ok (.if_icmp .lt 5, 3) := by decide +kernel
theorem dX6_read_47 : decode cX6_read 47 = .ok (.aload_n 1, 1) := by decide +kernel
theorem dX6_read_48 : decode cX6_read 48 = .ok (.areturn, 1) := by decide +kernel
theorem dX6_read_49 : decode cX6_read 49 = .ok (.iload_n 2, 1) := by decide +kernel
theorem dX6_read_50 : decode cX6_read 50 = .ok (.bipush 10, 2) := by decide +kernel
theorem dX6_read_52 : decode cX6_read 52 = .ok (.if_icmp .eq 12, 3) := by decide +kernel
theorem dX6_read_55 : decode cX6_read 55 = .ok (.aload_n 0, 1) := by decide +kernel
theorem dX6_read_56 : decode cX6_read 56 = .ok (.bipush 59, 2) := by decide +kernel
theorem dX6_read_58 : decode cX6_read 58 = .ok (.invokevirtual 52, 3) := by decide +kernel
theorem dX6_read_61 : decode cX6_read 61 = .ok (.ifCond .ne 5, 3) := by decide +kernel
theorem dX6_read_64 : decode cX6_read 64 = .ok (.aconst_null, 1) := by decide +kernel
theorem dX6_read_65 : decode cX6_read 65 = .ok (.areturn, 1) := by decide +kernel
theorem dX6_read_66 : decode cX6_read 66 = .ok (.iinc 2 1, 3) := by decide +kernel
theorem dX6_read_69 : decode cX6_read 69 = .ok (.goto (-55), 3) := by decide +kernel
theorem dX6_read_72 : decode cX6_read 72 = .ok (.aconst_null, 1) := by decide +kernel
theorem dX6_read_73 : decode cX6_read 73 = .ok (.areturn, 1) := by decide +kernel
theorem dX6_unroll_0 : decode cX6_unroll 0 = .ok (.aload_n 0, 1) := by decide +kernel
theorem dX6_unroll_1 : decode cX6_unroll 1 = .ok (.iconst 0, 1) := by decide +kernel
theorem dX6_unroll_2 : decode cX6_unroll 2 = .ok (.putfield 19, 3) := by decide +kernel
theorem dX6_unroll_5 : decode cX6_unroll 5 = .ok (.aload_n 0, 1) := by decide +kernel
theorem dX6_unroll_6 : decode cX6_unroll 6 = .ok (.aload_n 0, 1) := by decide +kernel
theorem dX6_unroll_7 : decode cX6_unroll 7 = .ok (.getfield 34, 3) := by decide +kernel
theorem dX6_unroll_10 : decode cX6_unroll 10 = .ok (.invokevirtual 56, 3) := by decide +kernel
theorem dX6_unroll_13 : decode cX6_unroll 13 = .ok (.aload_n 0, 1) := by decide +kernel
theorem dX6_unroll_14 : decode cX6_unroll 14 = .ok (.getfield 9, 3) := by decide +kernel
theorem dX6_unroll_17 : decode cX6_unroll 17 = .ok (.arraylength, 1) := by decide +kernel
theorem dX6_unroll_18 : decode cX6_unroll 18 = .ok (.invokestatic 62, 3) := by decide +kernel
theorem dX6_unroll_21 : decode cX6_unroll 21 = .ok (.putfield 15, 3) := by decide +kernel
theorem dX6_unroll_24 : decode cX6_unroll 24 = .ok (.iconst 0, 1) := by decide +kernel
theorem dX6_unroll_25 : decode cX6_unroll 25 = .ok (.istore_n 1, 1) := by decide +kernel
theorem dX6_unroll_26 : decode cX6_unroll 26 = .ok (.iload_n 1, 1) := by decide +kernel
theorem dX6_unroll_27 : decode cX6_unroll 27 = .ok (.aload_n 0, 1) := by decide +kernel
theorem dX6_unroll_28 : decode cX6_unroll 28 = .ok (.getfield 15, 3) := by decide +kernel
theorem dX6_unroll_31 : decode cX6_unroll 31 = .ok (.if_icmp .ge 24, 3) := by decide +kernel
theorem dX6_unroll_34 : decode cX6_unroll 34 = .ok (.aload_n 0, 1) := by decide +kernel
theorem dX6_unroll_35 : decode cX6_unroll 35 = .ok (.getfield 9, 3) := by decide +kernel
theorem dX6_unroll_38 : decode cX6_unroll 38 = .ok (.iload_n 1, 1) := by decide +kernel
theorem dX6_unroll_39 : decode cX6_unroll 39 = .ok (.aload_n 0, 1) := by decide +kernel
theorem dX6_unroll_40 : decode cX6_unroll 40 = .ok (.getfield 34, 3) := by decide +kernel
theorem dX6_unroll_43 : decode cX6_unroll 43 = .ok (.iload_n 1, 1) := by decide +kernel
theorem dX6_unroll_44 : decode cX6_unroll 44 = .ok (.iconst 0, 1) := by decide +kernel
theorem dX6_unroll_45 : decode cX6_unroll 45 = .ok (.invokevirtual 68, 3) := by decide +kernel
theorem dX6_unroll_48 : decode cX6_unroll 48 = .ok (.iastore, 1) := by decide +kernel
theorem dX6_unroll_49 : decode cX6_unroll 49 = .ok (.iinc 1 1, 3) := by decide +kernel
theorem dX6_unroll_52 : decode cX6_unroll 52 = .ok (.goto (-26), 3) := by decide +kernel
theorem dX6_unroll_55 : decode cX6_unroll 55 = .ok (.return_, 1) := by decide +kernel
theorem dX6_readClause_0 : decode cX6_readClause 0 = .ok (.aload_n 0, 1) := by decide +kernel
theorem dX6_readClause_1 : decode cX6_readClause 1 = .ok (.invokevirtual 71, 3) := by decide +kernel
theorem dX6_readClause_4 : decode cX6_readClause 4 = .ok (.istore_n 1, 1) := by decide +kernel
theorem dX6_readClause_5 : decode cX6_readClause 5 = .ok (.iload_n 1, 1) := by decide +kernel
theorem dX6_readClause_6 : decode cX6_readClause 6 = .ok (.iconst (-1), 1) := by decide +kernel
theorem dX6_readClause_7 : decode cX6_readClause 7 = .ok (.if_icmp .eq 12, 3) := by decide +kernel
theorem dX6_readClause_10 : decode cX6_readClause 10 = .ok (.aload_n 0, 1) := by decide +kernel
theorem dX6_readClause_11 : decode cX6_readClause 11 = .ok (.bipush 32, 2) := by decide +kernel
theorem dX6_readClause_13 : decode cX6_readClause 13 = .ok (.invokevirtual 52, 3) := by decide +kernel
theorem dX6_readClause_16 : decode cX6_readClause 16 = .ok (.ifCond .ne 5, 3) := by decide +kernel
theorem dX6_readClause_19 : decode cX6_readClause 19 = .ok (.aconst_null, 1) := by decide +kernel
theorem dX6_readClause_20 : decode cX6_readClause 20 = .ok (.areturn, 1) := by decide +kernel
theorem dX6_readClause_21 : decode cX6_readClause 21 = .ok (.aload_n 0, 1) := by decide +kernel
theorem dX6_readClause_22 : decode cX6_readClause 22 = .ok (.invokevirtual 74, 3) := by decide +kernel
theorem dX6_readClause_25 : decode cX6_readClause 25 = .ok (.istore_n 2, 1) := by decide +kernel
theorem dX6_readClause_26 : decode cX6_readClause 26 = .ok (.iload_n 2, 1) := by decide +kernel
theorem dX6_readClause_27 : decode cX6_readClause 27 = .ok (.iconst (-1), 1) := by decide +kernel
theorem dX6_readClause_28 : decode cX6_readClause 28 = .ok (.if_icmp .ne 5, 3) := by decide +kernel
theorem dX6_readClause_31 : decode cX6_readClause 31 = .ok (.aconst_null, 1) := by decide +kernel
theorem dX6_readClause_32 : decode cX6_readClause 32 = .ok (.areturn, 1) := by decide +kernel
theorem dX6_readClause_33 : decode cX6_readClause 33 = .ok (.aload_n 0, 1) := by decide +kernel
theorem dX6_readClause_34 : decode cX6_readClause 34 = .ok (.iconst 0, 1) := by decide +kernel
theorem dX6_readClause_35 : decode cX6_readClause 35 = .ok (.putfield 25, 3) := by decide +kernel
theorem dX6_readClause_38 : decode cX6_readClause 38 = .ok (.iload_n 1, 1) := by decide +kernel
theorem dX6_readClause_39 : decode cX6_readClause 39 = .ok (.iconst 2, 1) := by decide +kernel
theorem dX6_readClause_40 : decode cX6_readClause 40 = .ok (.if_icmp .lt 21, 3) := by decide +kernel
theorem dX6_readClause_43 : decode cX6_readClause 43 = .ok (.aload_n 0, 1) := by decide +kernel
theorem dX6_readClause_44 : decode cX6_readClause 44 = .ok (.bipush 32, 2) := by decide +kernel
theorem dX6_readClause_46 : decode cX6_readClause 46 = .ok (.invokevirtual 52, 3) := by decide +kernel
theorem dX6_readClause_49 : decode cX6_readClause 49 = .ok (.ifCond .eq 10, 3) := by decide +kernel
theorem dX6_readClause_52 : decode cX6_readClause 52 = .ok (.aload_n 0, 1) := by decide +kernel
theorem dX6_readClause_53 : decode cX6_readClause 53 = .ok (.invokevirtual 77, 3) := by decide +kernel
theorem dX6_readClause_56 : decode cX6_readClause 56 = .ok (.ifCond .ne 5, 3) := by decide +kernel
theorem dX6_readClause_59 : decode cX6_readClause 59 = .ok (.aconst_null, 1) := by decide +kernel
theorem dX6_readClause_60 : decode cX6_readClause 60 = .ok (.areturn, 1) := by decide +kernel
theorem dX6_readClause_61 : decode cX6_readClause 61 = .ok (.new 81, 3) := by decide +kernel
theorem dX6_readClause_64 : decode cX6_readClause 64 = .ok (.dup, 1) := by decide +kernel
theorem dX6_readClause_65 : decode cX6_readClause 65 = .ok (.iload_n 1, 1) := by decide +kernel
theorem dX6_readClause_66 : decode cX6_readClause 66 = .ok (.iload_n 2, 1) := by decide +kernel
theorem dX6_readClause_67 : decode cX6_readClause 67 = .ok (.aload_n 0, 1) := by decide +kernel
theorem dX6_readClause_68 : decode cX6_readClause 68 = .ok (.getfield 22, 3) := by decide +kernel
theorem dX6_readClause_71 : decode cX6_readClause 71 = .ok (.iconst 0, 1) := by decide +kernel
theorem dX6_readClause_72 : decode cX6_readClause 72 = .ok (.aload_n 0, 1) := by decide +kernel
theorem dX6_readClause_73 : decode cX6_readClause 73 = .ok (.getfield 25, 3) := by decide +kernel
theorem dX6_readClause_76 : decode cX6_readClause 76 = .ok (.invokestatic 83, 3) := by decide +kernel
theorem dX6_readClause_79 : decode cX6_readClause 79 = .ok (.invokestatic 86, 3) := by decide +kernel
theorem dX6_readClause_82 : decode cX6_readClause 82 = .ok (.invokespecial 92, 3) := by decide +kernel
theorem dX6_readClause_85 : decode cX6_readClause 85 = .ok (.areturn, 1) := by decide +kernel
theorem dX6_readWord_0 : decode cX6_readWord 0 = .ok (.aload_n 0, 1) := by decide +kernel
theorem dX6_readWord_1 : decode cX6_readWord 1 = .ok (.invokevirtual 95, 3) := by decide +kernel
theorem dX6_readWord_4 : decode cX6_readWord 4 = .ok (.lookupswitch 104 #[(99, 59), (100, 74), (109, 89), (116, 44)], 44) := by decide +kernel
theorem dX6_readWord_48 : decode cX6_readWord 48 = .ok (.aload_n 0, 1) := by decide +kernel
theorem dX6_readWord_49 : decode cX6_readWord 49 = .ok (.ldc 98, 2) := by decide +kernel
theorem dX6_readWord_51 : decode cX6_readWord 51 = .ok (.invokevirtual 100, 3) := by decide +kernel
theorem dX6_readWord_54 : decode cX6_readWord 54 = .ok (.ifCond .eq 7, 3) := by decide +kernel
theorem dX6_readWord_57 : decode cX6_readWord 57 = .ok (.iconst 0, 1) := by decide +kernel
theorem dX6_readWord_58 : decode cX6_readWord 58 = .ok (.goto 4, 3) := by decide +kernel
theorem dX6_readWord_61 : decode cX6_readWord 61 = .ok (.iconst (-1), 1) := by decide +kernel
theorem dX6_readWord_62 : decode cX6_readWord 62 = .ok (.ireturn, 1) := by decide +kernel
theorem dX6_readWord_63 : decode cX6_readWord 63 = .ok (.aload_n 0, 1) := by decide +kernel
theorem dX6_readWord_64 : decode cX6_readWord 64 = .ok (.ldc 104, 2) := by decide +kernel
theorem dX6_readWord_66 : decode cX6_readWord 66 = .ok (.invokevirtual 100, 3) := by decide +kernel
theorem dX6_readWord_69 : decode cX6_readWord 69 = .ok (.ifCond .eq 7, 3) := by decide +kernel
theorem dX6_readWord_72 : decode cX6_readWord 72 = .ok (.iconst 1, 1) := by decide +kernel
theorem dX6_readWord_73 : decode cX6_readWord 73 = .ok (.goto 4, 3) := by decide +kernel
theorem dX6_readWord_76 : decode cX6_readWord 76 = .ok (.iconst (-1), 1) := by decide +kernel
theorem dX6_readWord_77 : decode cX6_readWord 77 = .ok (.ireturn, 1) := by decide +kernel
theorem dX6_readWord_78 : decode cX6_readWord 78 = .ok (.aload_n 0, 1) := by decide +kernel
theorem dX6_readWord_79 : decode cX6_readWord 79 = .ok (.ldc 106, 2) := by decide +kernel
theorem dX6_readWord_81 : decode cX6_readWord 81 = .ok (.invokevirtual 100, 3) := by decide +kernel
theorem dX6_readWord_84 : decode cX6_readWord 84 = .ok (.ifCond .eq 7, 3) := by decide +kernel
theorem dX6_readWord_87 : decode cX6_readWord 87 = .ok (.iconst 2, 1) := by decide +kernel
theorem dX6_readWord_88 : decode cX6_readWord 88 = .ok (.goto 4, 3) := by decide +kernel
theorem dX6_readWord_91 : decode cX6_readWord 91 = .ok (.iconst (-1), 1) := by decide +kernel
theorem dX6_readWord_92 : decode cX6_readWord 92 = .ok (.ireturn, 1) := by decide +kernel
theorem dX6_readWord_93 : decode cX6_readWord 93 = .ok (.aload_n 0, 1) := by decide +kernel
theorem dX6_readWord_94 : decode cX6_readWord 94 = .ok (.ldc 108, 2) := by decide +kernel
theorem dX6_readWord_96 : decode cX6_readWord 96 = .ok (.invokevirtual 100, 3) := by decide +kernel
theorem dX6_readWord_99 : decode cX6_readWord 99 = .ok (.ifCond .eq 7, 3) := by decide +kernel
theorem dX6_readWord_102 : decode cX6_readWord 102 = .ok (.iconst 3, 1) := by decide +kernel
theorem dX6_readWord_103 : decode cX6_readWord 103 = .ok (.goto 4, 3) := by decide +kernel
theorem dX6_readWord_106 : decode cX6_readWord 106 = .ok (.iconst (-1), 1) := by decide +kernel
theorem dX6_readWord_107 : decode cX6_readWord 107 = .ok (.ireturn, 1) := by decide +kernel
theorem dX6_readWord_108 : decode cX6_readWord 108 = .ok (.iconst (-1), 1) := by decide +kernel
theorem dX6_readWord_109 : decode cX6_readWord 109 = .ok (.ireturn, 1) := by decide +kernel
theorem dX6_readNumber_0 : decode cX6_readNumber 0 = .ok (.aload_n 0, 1) := by decide +kernel
theorem dX6_readNumber_1 : decode cX6_readNumber 1 = .ok (.invokevirtual 110, 3) := by decide +kernel
theorem dX6_readNumber_4 : decode cX6_readNumber 4 = .ok (.istore_n 1, 1) := by decide +kernel
theorem dX6_readNumber_5 : decode cX6_readNumber 5 = .ok (.iload_n 1, 1) := by decide +kernel
theorem dX6_readNumber_6 : decode cX6_readNumber 6 = .ok (.ifCond .gt 5, 3) := by decide +kernel
theorem dX6_readNumber_9 : decode cX6_readNumber 9 = .ok (.iload_n 1, 1) := by decide +kernel
theorem dX6_readNumber_10 : decode cX6_readNumber 10 = .ok (.ireturn, 1) := by decide +kernel
theorem dX6_readNumber_11 : decode cX6_readNumber 11 = .ok (.aload_n 0, 1) := by decide +kernel
theorem dX6_readNumber_12 : decode cX6_readNumber 12 = .ok (.invokevirtual 110, 3) := by decide +kernel
theorem dX6_readNumber_15 : decode cX6_readNumber 15 = .ok (.istore_n 2, 1) := by decide +kernel
theorem dX6_readNumber_16 : decode cX6_readNumber 16 = .ok (.iload_n 2, 1) := by decide +kernel
theorem dX6_readNumber_17 : decode cX6_readNumber 17 = .ok (.iconst (-1), 1) := by decide +kernel
theorem dX6_readNumber_18 : decode cX6_readNumber 18 = .ok (.if_icmp .ne 7, 3) := by decide +kernel
theorem dX6_readNumber_21 : decode cX6_readNumber 21 = .ok (.iload_n 1, 1) := by decide +kernel
theorem dX6_readNumber_22 : decode cX6_readNumber 22 = .ok (.goto 9, 3) := by decide +kernel
theorem dX6_readNumber_25 : decode cX6_readNumber 25 = .ok (.iload_n 1, 1) := by decide +kernel
theorem dX6_readNumber_26 : decode cX6_readNumber 26 = .ok (.bipush 10, 2) := by decide +kernel
theorem dX6_readNumber_28 : decode cX6_readNumber 28 = .ok (.imul, 1) := by decide +kernel
theorem dX6_readNumber_29 : decode cX6_readNumber 29 = .ok (.iload_n 2, 1) := by decide +kernel
theorem dX6_readNumber_30 : decode cX6_readNumber 30 = .ok (.iadd, 1) := by decide +kernel
theorem dX6_readNumber_31 : decode cX6_readNumber 31 = .ok (.ireturn, 1) := by decide +kernel
theorem dX6_takeDigit_0 : decode cX6_takeDigit 0 = .ok (.aload_n 0, 1) := by decide +kernel
theorem dX6_takeDigit_1 : decode cX6_takeDigit 1 = .ok (.getfield 19, 3) := by decide +kernel
theorem dX6_takeDigit_4 : decode cX6_takeDigit 4 = .ok (.ifCond .lt 38, 3) := by decide +kernel
theorem dX6_takeDigit_7 : decode cX6_takeDigit 7 = .ok (.aload_n 0, 1) := by decide +kernel
theorem dX6_takeDigit_8 : decode cX6_takeDigit 8 = .ok (.getfield 19, 3) := by decide +kernel
theorem dX6_takeDigit_11 : decode cX6_takeDigit 11 = .ok (.aload_n 0, 1) := by decide +kernel
theorem dX6_takeDigit_12 : decode cX6_takeDigit 12 = .ok (.getfield 15, 3) := by decide +kernel
theorem dX6_takeDigit_15 : decode cX6_takeDigit 15 = .ok (.if_icmp .ge 27, 3) := by decide +kernel
theorem dX6_takeDigit_18 : decode cX6_takeDigit 18 = .ok (.aload_n 0, 1) := by decide +kernel
theorem dX6_takeDigit_19 : decode cX6_takeDigit 19 = .ok (.getfield 19, 3) := by decide +kernel
theorem dX6_takeDigit_22 : decode cX6_takeDigit 22 = .ok (.aload_n 0, 1) := by decide +kernel
theorem dX6_takeDigit_23 : decode cX6_takeDigit 23 = .ok (.getfield 9, 3) := by decide +kernel
theorem dX6_takeDigit_26 : decode cX6_takeDigit 26 = .ok (.arraylength, 1) := by decide +kernel
theorem dX6_takeDigit_27 : decode cX6_takeDigit 27 = .ok (.if_icmp .ge 15, 3) := by decide +kernel
theorem dX6_takeDigit_30 : decode cX6_takeDigit 30 = .ok (.aload_n 0, 1) := by decide +kernel
theorem dX6_takeDigit_31 : decode cX6_takeDigit 31 = .ok (.getfield 9, 3) := by decide +kernel
theorem dX6_takeDigit_34 : decode cX6_takeDigit 34 = .ok (.aload_n 0, 1) := by decide +kernel
theorem dX6_takeDigit_35 : decode cX6_takeDigit 35 = .ok (.getfield 19, 3) := by decide +kernel
theorem dX6_takeDigit_38 : decode cX6_takeDigit 38 = .ok (.iaload, 1) := by decide +kernel
theorem dX6_takeDigit_39 : decode cX6_takeDigit 39 = .ok (.goto 4, 3) := by decide +kernel
theorem dX6_takeDigit_42 : decode cX6_takeDigit 42 = .ok (.iconst (-1), 1) := by decide +kernel
theorem dX6_takeDigit_43 : decode cX6_takeDigit 43 = .ok (.istore_n 1, 1) := by decide +kernel
theorem dX6_takeDigit_44 : decode cX6_takeDigit 44 = .ok (.iload_n 1, 1) := by decide +kernel
theorem dX6_takeDigit_45 : decode cX6_takeDigit 45 = .ok (.bipush 48, 2) := by decide +kernel
theorem dX6_takeDigit_47 : decode cX6_takeDigit 47 = .ok (.if_icmp .lt 9, 3) := by decide +kernel
theorem dX6_takeDigit_50 : decode cX6_takeDigit 50 = .ok (.iload_n 1, 1) := by decide +kernel
theorem dX6_takeDigit_51 : decode cX6_takeDigit 51 = .ok (.bipush 57, 2) := by decide +kernel
theorem dX6_takeDigit_53 : decode cX6_takeDigit 53 = .ok (.if_icmp .le 5, 3) := by decide +kernel
theorem dX6_takeDigit_56 : decode cX6_takeDigit 56 = .ok (.iconst (-1), 1) := by decide +kernel
theorem dX6_takeDigit_57 : decode cX6_takeDigit 57 = .ok (.ireturn, 1) := by decide +kernel
theorem dX6_takeDigit_58 : decode cX6_takeDigit 58 = .ok (.aload_n 0, 1) := by decide +kernel
theorem dX6_takeDigit_59 : decode cX6_takeDigit 59 = .ok (.dup, 1) := by decide +kernel
theorem dX6_takeDigit_60 : decode cX6_takeDigit 60 = .ok (.getfield 19, 3) := by decide +kernel
theorem dX6_takeDigit_63 : decode cX6_takeDigit 63 = .ok (.iconst 1, 1) := by decide +kernel
theorem dX6_takeDigit_64 : decode cX6_takeDigit 64 = .ok (.iadd, 1) := by decide +kernel
theorem dX6_takeDigit_65 : decode cX6_takeDigit 65 = .ok (.putfield 19, 3) := by decide +kernel
theorem dX6_takeDigit_68 : decode cX6_takeDigit 68 = .ok (.iload_n 1, 1) := by decide +kernel
theorem dX6_takeDigit_69 : decode cX6_takeDigit 69 = .ok (.bipush 48, 2) := by decide +kernel
theorem dX6_takeDigit_71 : decode cX6_takeDigit 71 = .ok (.isub, 1) := by decide +kernel
theorem dX6_takeDigit_72 : decode cX6_takeDigit 72 = .ok (.ireturn, 1) := by decide +kernel
theorem dX6_readCondition_0 : decode cX6_readCondition 0 = .ok (.aload_n 0, 1) := by decide +kernel
theorem dX6_readCondition_1 : decode cX6_readCondition 1 = .ok (.iconst 0, 1) := by decide +kernel
theorem dX6_readCondition_2 : decode cX6_readCondition 2 = .ok (.putfield 28, 3) := by decide +kernel
theorem dX6_readCondition_5 : decode cX6_readCondition 5 = .ok (.iconst 0, 1) := by decide +kernel
theorem dX6_readCondition_6 : decode cX6_readCondition 6 = .ok (.istore_n 1, 1) := by decide +kernel
theorem dX6_readCondition_7 : decode cX6_readCondition 7 = .ok (.iload_n 1, 1) := by decide +kernel
theorem dX6_readCondition_8 : decode cX6_readCondition 8 = .ok (.bipush 100, 2) := by decide +kernel
theorem dX6_readCondition_10 : decode cX6_readCondition 10 = .ok (.if_icmp .ge 73, 3) := by decide +kernel
theorem dX6_readCondition_13 : decode cX6_readCondition 13 = .ok (.aload_n 0, 1) := by decide +kernel
theorem dX6_readCondition_14 : decode cX6_readCondition 14 = .ok (.invokevirtual 113, 3) := by decide +kernel
theorem dX6_readCondition_17 : decode cX6_readCondition 17 = .ok (.ifCond .eq 10, 3) := by decide +kernel
theorem dX6_readCondition_20 : decode cX6_readCondition 20 = .ok (.aload_n 0, 1) := by decide +kernel
theorem dX6_readCondition_21 : decode cX6_readCondition 21 = .ok (.invokevirtual 116, 3) := by decide +kernel
theorem dX6_readCondition_24 : decode cX6_readCondition 24 = .ok (.ifCond .ne 5, 3) := by decide +kernel
theorem dX6_readCondition_27 : decode cX6_readCondition 27 = .ok (.iconst 0, 1) := by decide +kernel
theorem dX6_readCondition_28 : decode cX6_readCondition 28 = .ok (.ireturn, 1) := by decide +kernel
theorem dX6_readCondition_29 : decode cX6_readCondition 29 = .ok (.aload_n 0, 1) := by decide +kernel
theorem dX6_readCondition_30 : decode cX6_readCondition 30 = .ok (.invokevirtual 119, 3) := by decide +kernel
theorem dX6_readCondition_33 : decode cX6_readCondition 33 = .ok (.aload_n 0, 1) := by decide +kernel
theorem dX6_readCondition_34 : decode cX6_readCondition 34 = .ok (.invokevirtual 122, 3) := by decide +kernel
theorem dX6_readCondition_37 : decode cX6_readCondition 37 = .ok (.aload_n 0, 1) := by decide +kernel
theorem dX6_readCondition_38 : decode cX6_readCondition 38 = .ok (.bipush 124, 2) := by decide +kernel
theorem dX6_readCondition_40 : decode cX6_readCondition 40 = .ok (.invokevirtual 52, 3) := by decide +kernel
theorem dX6_readCondition_43 : decode cX6_readCondition 43 = .ok (.ifCond .eq 12, 3) := by decide +kernel
theorem dX6_readCondition_46 : decode cX6_readCondition 46 = .ok (.aload_n 0, 1) := by decide +kernel
theorem dX6_readCondition_47 : decode cX6_readCondition 47 = .ok (.bipush 124, 2) := by decide +kernel
theorem dX6_readCondition_49 : decode cX6_readCondition 49 = .ok (.invokevirtual 125, 3) := by decide +kernel
theorem dX6_readCondition_52 : decode cX6_readCondition 52 = .ok (.goto 25, 3) := by decide +kernel
theorem dX6_readCondition_55 : decode cX6_readCondition 55 = .ok (.aload_n 0, 1) := by decide +kernel
theorem dX6_readCondition_56 : decode cX6_readCondition 56 = .ok (.bipush 38, 2) := by decide +kernel
theorem dX6_readCondition_58 : decode cX6_readCondition 58 = .ok (.invokevirtual 52, 3) := by decide +kernel
theorem dX6_readCondition_61 : decode cX6_readCondition 61 = .ok (.ifCond .ne 16, 3) := by decide +kernel
theorem dX6_readCondition_64 : decode cX6_readCondition 64 = .ok (.aload_n 0, 1) := by decide +kernel
theorem dX6_readCondition_65 : decode cX6_readCondition 65 = .ok (.getfield 28, 3) := by decide +kernel
theorem dX6_readCondition_68 : decode cX6_readCondition 68 = .ok (.ifCond .ne 7, 3) := by decide +kernel
theorem dX6_readCondition_71 : decode cX6_readCondition 71 = .ok (.iconst 1, 1) := by decide +kernel
theorem dX6_readCondition_72 : decode cX6_readCondition 72 = .ok (.goto 4, 3) := by decide +kernel
theorem dX6_readCondition_75 : decode cX6_readCondition 75 = .ok (.iconst 0, 1) := by decide +kernel
theorem dX6_readCondition_76 : decode cX6_readCondition 76 = .ok (.ireturn, 1) := by decide +kernel
theorem dX6_readCondition_77 : decode cX6_readCondition 77 = .ok (.iinc 1 1, 3) := by decide +kernel
theorem dX6_readCondition_80 : decode cX6_readCondition 80 = .ok (.goto (-73), 3) := by decide +kernel
theorem dX6_readCondition_83 : decode cX6_readCondition 83 = .ok (.iconst 0, 1) := by decide +kernel
theorem dX6_readCondition_84 : decode cX6_readCondition 84 = .ok (.ireturn, 1) := by decide +kernel
theorem dX6_takeOpening_0 : decode cX6_takeOpening 0 = .ok (.iconst 0, 1) := by decide +kernel
theorem dX6_takeOpening_1 : decode cX6_takeOpening 1 = .ok (.istore_n 1, 1) := by decide +kernel
theorem dX6_takeOpening_2 : decode cX6_takeOpening 2 = .ok (.iload_n 1, 1) := by decide +kernel
theorem dX6_takeOpening_3 : decode cX6_takeOpening 3 = .ok (.iconst 5, 1) := by decide +kernel
theorem dX6_takeOpening_4 : decode cX6_takeOpening 4 = .ok (.if_icmp .gt 81, 3) := by decide +kernel
theorem dX6_takeOpening_7 : decode cX6_takeOpening 7 = .ok (.aload_n 0, 1) := by decide +kernel
theorem dX6_takeOpening_8 : decode cX6_takeOpening 8 = .ok (.invokevirtual 95, 3) := by decide +kernel
theorem dX6_takeOpening_11 : decode cX6_takeOpening 11 = .ok (.istore_n 2, 1) := by decide +kernel
theorem dX6_takeOpening_12 : decode cX6_takeOpening 12 = .ok (.iload_n 2, 1) := by decide +kernel
theorem dX6_takeOpening_13 : decode cX6_takeOpening 13 = .ok (.bipush 33, 2) := by decide +kernel
theorem dX6_takeOpening_15 : decode cX6_takeOpening 15 = .ok (.if_icmp .eq 11, 3) := by decide +kernel
theorem dX6_takeOpening_18 : decode cX6_takeOpening 18 = .ok (.iload_n 2, 1) := by decide +kernel
theorem dX6_takeOpening_19 : decode cX6_takeOpening 19 = .ok (.bipush 40, 2) := by decide +kernel
theorem dX6_takeOpening_21 : decode cX6_takeOpening 21 = .ok (.if_icmp .eq 5, 3) := by decide +kernel
theorem dX6_takeOpening_24 : decode cX6_takeOpening 24 = .ok (.iconst 1, 1) := by decide +kernel
theorem dX6_takeOpening_25 : decode cX6_takeOpening 25 = .ok (.ireturn, 1) := by decide +kernel
theorem dX6_takeOpening_26 : decode cX6_takeOpening 26 = .ok (.aload_n 0, 1) := by decide +kernel
theorem dX6_takeOpening_27 : decode cX6_takeOpening 27 = .ok (.getfield 28, 3) := by decide +kernel
theorem dX6_takeOpening_30 : decode cX6_takeOpening 30 = .ok (.iconst 5, 1) := by decide +kernel
theorem dX6_takeOpening_31 : decode cX6_takeOpening 31 = .ok (.if_icmp .lt 5, 3) := by decide +kernel
theorem dX6_takeOpening_34 : decode cX6_takeOpening 34 = .ok (.iconst 0, 1) := by decide +kernel
theorem dX6_takeOpening_35 : decode cX6_takeOpening 35 = .ok (.ireturn, 1) := by decide +kernel
theorem dX6_takeOpening_36 : decode cX6_takeOpening 36 = .ok (.aload_n 0, 1) := by decide +kernel
theorem dX6_takeOpening_37 : decode cX6_takeOpening 37 = .ok (.iload_n 2, 1) := by decide +kernel
theorem dX6_takeOpening_38 : decode cX6_takeOpening 38 = .ok (.invokevirtual 52, 3) := by decide +kernel
theorem dX6_takeOpening_41 : decode cX6_takeOpening 41 = .ok (.pop, 1) := by decide +kernel
theorem dX6_takeOpening_42 : decode cX6_takeOpening 42 = .ok (.aload_n 0, 1) := by decide +kernel
theorem dX6_takeOpening_43 : decode cX6_takeOpening 43 = .ok (.iload_n 2, 1) := by decide +kernel
theorem dX6_takeOpening_44 : decode cX6_takeOpening 44 = .ok (.invokevirtual 125, 3) := by decide +kernel
theorem dX6_takeOpening_47 : decode cX6_takeOpening 47 = .ok (.aload_n 0, 1) := by decide +kernel
theorem dX6_takeOpening_48 : decode cX6_takeOpening 48 = .ok (.aload_n 0, 1) := by decide +kernel
theorem dX6_takeOpening_49 : decode cX6_takeOpening 49 = .ok (.getfield 31, 3) := by decide +kernel
theorem dX6_takeOpening_52 : decode cX6_takeOpening 52 = .ok (.iconst 1, 1) := by decide +kernel
theorem dX6_takeOpening_53 : decode cX6_takeOpening 53 = .ok (.ishl, 1) := by decide +kernel
theorem dX6_takeOpening_54 : decode cX6_takeOpening 54 = .ok (.iload_n 2, 1) := by decide +kernel
theorem dX6_takeOpening_55 : decode cX6_takeOpening 55 = .ok (.bipush 33, 2) := by decide +kernel
theorem dX6_takeOpening_57 : decode cX6_takeOpening 57 = .ok (.if_icmp .ne 7, 3) := by decide +kernel
theorem dX6_takeOpening_60 : decode cX6_takeOpening 60 = .ok (.iconst 1, 1) := by decide +kernel
theorem dX6_takeOpening_61 : decode cX6_takeOpening 61 = .ok (.goto 4, 3) := by decide +kernel
theorem dX6_takeOpening_64 : decode cX6_takeOpening 64 = .ok (.iconst 0, 1) := by decide +kernel
theorem dX6_takeOpening_65 : decode cX6_takeOpening 65 = .ok (.ior, 1) := by decide +kernel
theorem dX6_takeOpening_66 : decode cX6_takeOpening 66 = .ok (.putfield 31, 3) := by decide +kernel
theorem dX6_takeOpening_69 : decode cX6_takeOpening 69 = .ok (.aload_n 0, 1) := by decide +kernel
theorem dX6_takeOpening_70 : decode cX6_takeOpening 70 = .ok (.dup, 1) := by decide +kernel
theorem dX6_takeOpening_71 : decode cX6_takeOpening 71 = .ok (.getfield 28, 3) := by decide +kernel
theorem dX6_takeOpening_74 : decode cX6_takeOpening 74 = .ok (.iconst 1, 1) := by decide +kernel
theorem dX6_takeOpening_75 : decode cX6_takeOpening 75 = .ok (.iadd, 1) := by decide +kernel
theorem dX6_takeOpening_76 : decode cX6_takeOpening 76 = .ok (.putfield 28, 3) := by decide +kernel
theorem dX6_takeOpening_79 : decode cX6_takeOpening 79 = .ok (.iinc 1 1, 3) := by decide +kernel
theorem dX6_takeOpening_82 : decode cX6_takeOpening 82 = .ok (.goto (-80), 3) := by decide +kernel
theorem dX6_takeOpening_85 : decode cX6_takeOpening 85 = .ok (.iconst 0, 1) := by decide +kernel
theorem dX6_takeOpening_86 : decode cX6_takeOpening 86 = .ok (.ireturn, 1) := by decide +kernel
theorem dX6_takeClosing_0 : decode cX6_takeClosing 0 = .ok (.iconst 0, 1) := by decide +kernel
theorem dX6_takeClosing_1 : decode cX6_takeClosing 1 = .ok (.istore_n 1, 1) := by decide +kernel
theorem dX6_takeClosing_2 : decode cX6_takeClosing 2 = .ok (.iload_n 1, 1) := by decide +kernel
theorem dX6_takeClosing_3 : decode cX6_takeClosing 3 = .ok (.iconst 5, 1) := by decide +kernel
theorem dX6_takeClosing_4 : decode cX6_takeClosing 4 = .ok (.if_icmp .ge 40, 3) := by decide +kernel
theorem dX6_takeClosing_7 : decode cX6_takeClosing 7 = .ok (.aload_n 0, 1) := by decide +kernel
theorem dX6_takeClosing_8 : decode cX6_takeClosing 8 = .ok (.getfield 28, 3) := by decide +kernel
theorem dX6_takeClosing_11 : decode cX6_takeClosing 11 = .ok (.ifCond .eq 12, 3) := by decide +kernel
theorem dX6_takeClosing_14 : decode cX6_takeClosing 14 = .ok (.aload_n 0, 1) := by decide +kernel
theorem dX6_takeClosing_15 : decode cX6_takeClosing 15 = .ok (.bipush 41, 2) := by decide +kernel
theorem dX6_takeClosing_17 : decode cX6_takeClosing 17 = .ok (.invokevirtual 52, 3) := by decide +kernel
theorem dX6_takeClosing_20 : decode cX6_takeClosing 20 = .ok (.ifCond .ne 4, 3) := by decide +kernel
theorem dX6_takeClosing_23 : decode cX6_takeClosing 23 = .ok (.return_, 1) := by decide +kernel
theorem dX6_takeClosing_24 : decode cX6_takeClosing 24 = .ok (.aload_n 0, 1) := by decide +kernel
theorem dX6_takeClosing_25 : decode cX6_takeClosing 25 = .ok (.bipush 41, 2) := by decide +kernel
theorem dX6_takeClosing_27 : decode cX6_takeClosing 27 = .ok (.invokevirtual 125, 3) := by decide +kernel
theorem dX6_takeClosing_30 : decode cX6_takeClosing 30 = .ok (.aload_n 0, 1) := by decide +kernel
theorem dX6_takeClosing_31 : decode cX6_takeClosing 31 = .ok (.invokevirtual 129, 3) := by decide +kernel
theorem dX6_takeClosing_34 : decode cX6_takeClosing 34 = .ok (.aload_n 0, 1) := by decide +kernel
theorem dX6_takeClosing_35 : decode cX6_takeClosing 35 = .ok (.invokevirtual 119, 3) := by decide +kernel
theorem dX6_takeClosing_38 : decode cX6_takeClosing 38 = .ok (.iinc 1 1, 3) := by decide +kernel
theorem dX6_takeClosing_41 : decode cX6_takeClosing 41 = .ok (.goto (-39), 3) := by decide +kernel
theorem dX6_takeClosing_44 : decode cX6_takeClosing 44 = .ok (.return_, 1) := by decide +kernel
theorem dX6_closeTurns_0 : decode cX6_closeTurns 0 = .ok (.iconst 0, 1) := by decide +kernel
theorem dX6_closeTurns_1 : decode cX6_closeTurns 1 = .ok (.istore_n 1, 1) := by decide +kernel
theorem dX6_closeTurns_2 : decode cX6_closeTurns 2 = .ok (.iload_n 1, 1) := by decide +kernel
theorem dX6_closeTurns_3 : decode cX6_closeTurns 3 = .ok (.iconst 5, 1) := by decide +kernel
theorem dX6_closeTurns_4 : decode cX6_closeTurns 4 = .ok (.if_icmp .ge 30, 3) := by decide +kernel
theorem dX6_closeTurns_7 : decode cX6_closeTurns 7 = .ok (.aload_n 0, 1) := by decide +kernel
theorem dX6_closeTurns_8 : decode cX6_closeTurns 8 = .ok (.getfield 28, 3) := by decide +kernel
theorem dX6_closeTurns_11 : decode cX6_closeTurns 11 = .ok (.ifCond .le 23, 3) := by decide +kernel
theorem dX6_closeTurns_14 : decode cX6_closeTurns 14 = .ok (.aload_n 0, 1) := by decide +kernel
theorem dX6_closeTurns_15 : decode cX6_closeTurns 15 = .ok (.getfield 31, 3) := by decide +kernel
theorem dX6_closeTurns_18 : decode cX6_closeTurns 18 = .ok (.iconst 1, 1) := by decide +kernel
theorem dX6_closeTurns_19 : decode cX6_closeTurns 19 = .ok (.iand, 1) := by decide +kernel
theorem dX6_closeTurns_20 : decode cX6_closeTurns 20 = .ok (.iconst 1, 1) := by decide +kernel
theorem dX6_closeTurns_21 : decode cX6_closeTurns 21 = .ok (.if_icmp .ne 13, 3) := by decide +kernel
theorem dX6_closeTurns_24 : decode cX6_closeTurns 24 = .ok (.aload_n 0, 1) := by decide +kernel
theorem dX6_closeTurns_25 : decode cX6_closeTurns 25 = .ok (.invokevirtual 129, 3) := by decide +kernel
theorem dX6_closeTurns_28 : decode cX6_closeTurns 28 = .ok (.iinc 1 1, 3) := by decide +kernel
theorem dX6_closeTurns_31 : decode cX6_closeTurns 31 = .ok (.goto (-29), 3) := by decide +kernel
theorem dX6_closeTurns_34 : decode cX6_closeTurns 34 = .ok (.return_, 1) := by decide +kernel
theorem dX6_close_0 : decode cX6_close 0 = .ok (.aload_n 0, 1) := by decide +kernel
theorem dX6_close_1 : decode cX6_close 1 = .ok (.dup, 1) := by decide +kernel
theorem dX6_close_2 : decode cX6_close 2 = .ok (.getfield 31, 3) := by decide +kernel
theorem dX6_close_5 : decode cX6_close 5 = .ok (.iconst 1, 1) := by decide +kernel
theorem dX6_close_6 : decode cX6_close 6 = .ok (.ishr, 1) := by decide +kernel
theorem dX6_close_7 : decode cX6_close 7 = .ok (.putfield 31, 3) := by decide +kernel
theorem dX6_close_10 : decode cX6_close 10 = .ok (.aload_n 0, 1) := by decide +kernel
theorem dX6_close_11 : decode cX6_close 11 = .ok (.dup, 1) := by decide +kernel
theorem dX6_close_12 : decode cX6_close 12 = .ok (.getfield 28, 3) := by decide +kernel
theorem dX6_close_15 : decode cX6_close 15 = .ok (.iconst 1, 1) := by decide +kernel
theorem dX6_close_16 : decode cX6_close 16 = .ok (.isub, 1) := by decide +kernel
theorem dX6_close_17 : decode cX6_close 17 = .ok (.putfield 28, 3) := by decide +kernel
theorem dX6_close_20 : decode cX6_close 20 = .ok (.return_, 1) := by decide +kernel
theorem dX6_readTest_0 : decode cX6_readTest 0 = .ok (.aload_n 0, 1) := by decide +kernel
theorem dX6_readTest_1 : decode cX6_readTest 1 = .ok (.ldc 132, 2) := by decide +kernel
theorem dX6_readTest_3 : decode cX6_readTest 3 = .ok (.invokevirtual 134, 3) := by decide +kernel
theorem dX6_readTest_6 : decode cX6_readTest 6 = .ok (.istore_n 1, 1) := by decide +kernel
theorem dX6_readTest_7 : decode cX6_readTest 7 = .ok (.iload_n 1, 1) := by decide +kernel
theorem dX6_readTest_8 : decode cX6_readTest 8 = .ok (.iconst (-1), 1) := by decide +kernel
theorem dX6_readTest_9 : decode cX6_readTest 9 = .ok (.if_icmp .ne 5, 3) := by decide +kernel
theorem dX6_readTest_12 : decode cX6_readTest 12 = .ok (.iconst 0, 1) := by decide +kernel
theorem dX6_readTest_13 : decode cX6_readTest 13 = .ok (.ireturn, 1) := by decide +kernel
theorem dX6_readTest_14 : decode cX6_readTest 14 = .ok (.aload_n 0, 1) := by decide +kernel
theorem dX6_readTest_15 : decode cX6_readTest 15 = .ok (.ldc 138, 2) := by decide +kernel
theorem dX6_readTest_17 : decode cX6_readTest 17 = .ok (.invokevirtual 134, 3) := by decide +kernel
theorem dX6_readTest_20 : decode cX6_readTest 20 = .ok (.istore_n 2, 1) := by decide +kernel
theorem dX6_readTest_21 : decode cX6_readTest 21 = .ok (.iload_n 2, 1) := by decide +kernel
theorem dX6_readTest_22 : decode cX6_readTest 22 = .ok (.iconst (-1), 1) := by decide +kernel
theorem dX6_readTest_23 : decode cX6_readTest 23 = .ok (.if_icmp .ne 5, 3) := by decide +kernel
theorem dX6_readTest_26 : decode cX6_readTest 26 = .ok (.iconst 0, 1) := by decide +kernel
theorem dX6_readTest_27 : decode cX6_readTest 27 = .ok (.ireturn, 1) := by decide +kernel
theorem dX6_readTest_28 : decode cX6_readTest 28 = .ok (.aload_n 0, 1) := by decide +kernel
theorem dX6_readTest_29 : decode cX6_readTest 29 = .ok (.invokevirtual 74, 3) := by decide +kernel
theorem dX6_readTest_32 : decode cX6_readTest 32 = .ok (.istore_n 3, 1) := by decide +kernel
theorem dX6_readTest_33 : decode cX6_readTest 33 = .ok (.iload_n 3, 1) := by decide +kernel
theorem dX6_readTest_34 : decode cX6_readTest 34 = .ok (.iconst (-1), 1) := by decide +kernel
theorem dX6_readTest_35 : decode cX6_readTest 35 = .ok (.if_icmp .ne 5, 3) := by decide +kernel
theorem dX6_readTest_38 : decode cX6_readTest 38 = .ok (.iconst 0, 1) := by decide +kernel
theorem dX6_readTest_39 : decode cX6_readTest 39 = .ok (.ireturn, 1) := by decide +kernel
theorem dX6_readTest_40 : decode cX6_readTest 40 = .ok (.aload_n 0, 1) := by decide +kernel
theorem dX6_readTest_41 : decode cX6_readTest 41 = .ok (.iload_n 1, 1) := by decide +kernel
theorem dX6_readTest_42 : decode cX6_readTest 42 = .ok (.iload_n 2, 1) := by decide +kernel
theorem dX6_readTest_43 : decode cX6_readTest 43 = .ok (.iload_n 3, 1) := by decide +kernel
theorem dX6_readTest_44 : decode cX6_readTest 44 = .ok (.invokestatic 140, 3) := by decide +kernel
theorem dX6_readTest_47 : decode cX6_readTest 47 = .ok (.invokevirtual 125, 3) := by decide +kernel
theorem dX6_readTest_50 : decode cX6_readTest 50 = .ok (.iconst 1, 1) := by decide +kernel
theorem dX6_readTest_51 : decode cX6_readTest 51 = .ok (.ireturn, 1) := by decide +kernel
theorem dX6_emit_0 : decode cX6_emit 0 = .ok (.aload_n 0, 1) := by decide +kernel
theorem dX6_emit_1 : decode cX6_emit 1 = .ok (.getfield 25, 3) := by decide +kernel
theorem dX6_emit_4 : decode cX6_emit 4 = .ok (.ifCond .lt 35, 3) := by decide +kernel
theorem dX6_emit_7 : decode cX6_emit 7 = .ok (.aload_n 0, 1) := by decide +kernel
theorem dX6_emit_8 : decode cX6_emit 8 = .ok (.getfield 25, 3) := by decide +kernel
theorem dX6_emit_11 : decode cX6_emit 11 = .ok (.aload_n 0, 1) := by decide +kernel
theorem dX6_emit_12 : decode cX6_emit 12 = .ok (.getfield 22, 3) := by decide +kernel
theorem dX6_emit_15 : decode cX6_emit 15 = .ok (.arraylength, 1) := by decide +kernel
theorem dX6_emit_16 : decode cX6_emit 16 = .ok (.if_icmp .ge 23, 3) := by decide +kernel
theorem dX6_emit_19 : decode cX6_emit 19 = .ok (.aload_n 0, 1) := by decide +kernel
theorem dX6_emit_20 : decode cX6_emit 20 = .ok (.getfield 22, 3) := by decide +kernel
theorem dX6_emit_23 : decode cX6_emit 23 = .ok (.aload_n 0, 1) := by decide +kernel
theorem dX6_emit_24 : decode cX6_emit 24 = .ok (.getfield 25, 3) := by decide +kernel
theorem dX6_emit_27 : decode cX6_emit 27 = .ok (.iload_n 1, 1) := by decide +kernel
theorem dX6_emit_28 : decode cX6_emit 28 = .ok (.iastore, 1) := by decide +kernel
theorem dX6_emit_29 : decode cX6_emit 29 = .ok (.aload_n 0, 1) := by decide +kernel
theorem dX6_emit_30 : decode cX6_emit 30 = .ok (.dup, 1) := by decide +kernel
theorem dX6_emit_31 : decode cX6_emit 31 = .ok (.getfield 25, 3) := by decide +kernel
theorem dX6_emit_34 : decode cX6_emit 34 = .ok (.iconst 1, 1) := by decide +kernel
theorem dX6_emit_35 : decode cX6_emit 35 = .ok (.iadd, 1) := by decide +kernel
theorem dX6_emit_36 : decode cX6_emit 36 = .ok (.putfield 25, 3) := by decide +kernel
theorem dX6_emit_39 : decode cX6_emit 39 = .ok (.return_, 1) := by decide +kernel
theorem dX6_next_0 : decode cX6_next 0 = .ok (.aload_n 0, 1) := by decide +kernel
theorem dX6_next_1 : decode cX6_next 1 = .ok (.getfield 19, 3) := by decide +kernel
theorem dX6_next_4 : decode cX6_next 4 = .ok (.ifCond .lt 38, 3) := by decide +kernel
theorem dX6_next_7 : decode cX6_next 7 = .ok (.aload_n 0, 1) := by decide +kernel
theorem dX6_next_8 : decode cX6_next 8 = .ok (.getfield 19, 3) := by decide +kernel
theorem dX6_next_11 : decode cX6_next 11 = .ok (.aload_n 0, 1) := by decide +kernel
theorem dX6_next_12 : decode cX6_next 12 = .ok (.getfield 15, 3) := by decide +kernel
theorem dX6_next_15 : decode cX6_next 15 = .ok (.if_icmp .ge 27, 3) := by decide +kernel
theorem dX6_next_18 : decode cX6_next 18 = .ok (.aload_n 0, 1) := by decide +kernel
theorem dX6_next_19 : decode cX6_next 19 = .ok (.getfield 19, 3) := by decide +kernel
theorem dX6_next_22 : decode cX6_next 22 = .ok (.aload_n 0, 1) := by decide +kernel
theorem dX6_next_23 : decode cX6_next 23 = .ok (.getfield 9, 3) := by decide +kernel
theorem dX6_next_26 : decode cX6_next 26 = .ok (.arraylength, 1) := by decide +kernel
theorem dX6_next_27 : decode cX6_next 27 = .ok (.if_icmp .ge 15, 3) := by decide +kernel
theorem dX6_next_30 : decode cX6_next 30 = .ok (.aload_n 0, 1) := by decide +kernel
theorem dX6_next_31 : decode cX6_next 31 = .ok (.getfield 9, 3) := by decide +kernel
theorem dX6_next_34 : decode cX6_next 34 = .ok (.aload_n 0, 1) := by decide +kernel
theorem dX6_next_35 : decode cX6_next 35 = .ok (.getfield 19, 3) := by decide +kernel
theorem dX6_next_38 : decode cX6_next 38 = .ok (.iaload, 1) := by decide +kernel
theorem dX6_next_39 : decode cX6_next 39 = .ok (.goto 4, 3) := by decide +kernel
theorem dX6_next_42 : decode cX6_next 42 = .ok (.iconst (-1), 1) := by decide +kernel
theorem dX6_next_43 : decode cX6_next 43 = .ok (.ireturn, 1) := by decide +kernel
theorem dX6_take_0 : decode cX6_take 0 = .ok (.aload_n 0, 1) := by decide +kernel
theorem dX6_take_1 : decode cX6_take 1 = .ok (.invokevirtual 95, 3) := by decide +kernel
theorem dX6_take_4 : decode cX6_take 4 = .ok (.iload_n 1, 1) := by decide +kernel
theorem dX6_take_5 : decode cX6_take 5 = .ok (.if_icmp .eq 5, 3) := by decide +kernel
theorem dX6_take_8 : decode cX6_take 8 = .ok (.iconst 0, 1) := by decide +kernel
theorem dX6_take_9 : decode cX6_take 9 = .ok (.ireturn, 1) := by decide +kernel
theorem dX6_take_10 : decode cX6_take 10 = .ok (.aload_n 0, 1) := by decide +kernel
theorem dX6_take_11 : decode cX6_take 11 = .ok (.dup, 1) := by decide +kernel
theorem dX6_take_12 : decode cX6_take 12 = .ok (.getfield 19, 3) := by decide +kernel
theorem dX6_take_15 : decode cX6_take 15 = .ok (.iconst 1, 1) := by decide +kernel
theorem dX6_take_16 : decode cX6_take 16 = .ok (.iadd, 1) := by decide +kernel
theorem dX6_take_17 : decode cX6_take 17 = .ok (.putfield 19, 3) := by decide +kernel
theorem dX6_take_20 : decode cX6_take 20 = .ok (.iconst 1, 1) := by decide +kernel
theorem dX6_take_21 : decode cX6_take 21 = .ok (.ireturn, 1) := by decide +kernel
theorem dX6_takeAll_0 : decode cX6_takeAll 0 = .ok (.iconst 0, 1) := by decide +kernel
theorem dX6_takeAll_1 : decode cX6_takeAll 1 = .ok (.istore_n 2, 1) := by decide +kernel
theorem dX6_takeAll_2 : decode cX6_takeAll 2 = .ok (.iload_n 2, 1) := by decide +kernel
theorem dX6_takeAll_3 : decode cX6_takeAll 3 = .ok (.aload_n 1, 1) := by decide +kernel
theorem dX6_takeAll_4 : decode cX6_takeAll 4 = .ok (.invokevirtual 144, 3) := by decide +kernel
theorem dX6_takeAll_7 : decode cX6_takeAll 7 = .ok (.if_icmp .ge 23, 3) := by decide +kernel
theorem dX6_takeAll_10 : decode cX6_takeAll 10 = .ok (.aload_n 0, 1) := by decide +kernel
theorem dX6_takeAll_11 : decode cX6_takeAll 11 = .ok (.aload_n 1, 1) := by decide +kernel
theorem dX6_takeAll_12 : decode cX6_takeAll 12 = .ok (.iload_n 2, 1) := by decide +kernel
theorem dX6_takeAll_13 : decode cX6_takeAll 13 = .ok (.invokevirtual 149, 3) := by decide +kernel
theorem dX6_takeAll_16 : decode cX6_takeAll 16 = .ok (.invokevirtual 52, 3) := by decide +kernel
theorem dX6_takeAll_19 : decode cX6_takeAll 19 = .ok (.ifCond .ne 5, 3) := by decide +kernel
theorem dX6_takeAll_22 : decode cX6_takeAll 22 = .ok (.iconst 0, 1) := by decide +kernel
theorem dX6_takeAll_23 : decode cX6_takeAll 23 = .ok (.ireturn, 1) := by decide +kernel
theorem dX6_takeAll_24 : decode cX6_takeAll 24 = .ok (.iinc 2 1, 3) := by decide +kernel
theorem dX6_takeAll_27 : decode cX6_takeAll 27 = .ok (.goto (-25), 3) := by decide +kernel
theorem dX6_takeAll_30 : decode cX6_takeAll 30 = .ok (.iconst 1, 1) := by decide +kernel
theorem dX6_takeAll_31 : decode cX6_takeAll 31 = .ok (.ireturn, 1) := by decide +kernel
theorem dX6_takeOneOf_0 : decode cX6_takeOneOf 0 = .ok (.aload_n 0, 1) := by decide +kernel
theorem dX6_takeOneOf_1 : decode cX6_takeOneOf 1 = .ok (.invokevirtual 95, 3) := by decide +kernel
theorem dX6_takeOneOf_4 : decode cX6_takeOneOf 4 = .ok (.istore_n 2, 1) := by decide +kernel
theorem dX6_takeOneOf_5 : decode cX6_takeOneOf 5 = .ok (.iload_n 2, 1) := by decide +kernel
theorem dX6_takeOneOf_6 : decode cX6_takeOneOf 6 = .ok (.ifCond .ge 7, 3) := by decide +kernel
theorem dX6_takeOneOf_9 : decode cX6_takeOneOf 9 = .ok (.iconst (-1), 1) := by decide +kernel
theorem dX6_takeOneOf_10 : decode cX6_takeOneOf 10 = .ok (.goto 9, 3) := by decide +kernel
theorem dX6_takeOneOf_13 : decode cX6_takeOneOf 13 = .ok (.aload_n 1, 1) := by decide +kernel
theorem dX6_takeOneOf_14 : decode cX6_takeOneOf 14 = .ok (.iload_n 2, 1) := by decide +kernel
theorem dX6_takeOneOf_15 : decode cX6_takeOneOf 15 = .ok (.i2c, 1) := by decide +kernel
theorem dX6_takeOneOf_16 : decode cX6_takeOneOf 16 = .ok (.invokevirtual 153, 3) := by decide +kernel
theorem dX6_takeOneOf_19 : decode cX6_takeOneOf 19 = .ok (.istore_n 3, 1) := by decide +kernel
theorem dX6_takeOneOf_20 : decode cX6_takeOneOf 20 = .ok (.iload_n 3, 1) := by decide +kernel
theorem dX6_takeOneOf_21 : decode cX6_takeOneOf 21 = .ok (.ifCond .ge 5, 3) := by decide +kernel
theorem dX6_takeOneOf_24 : decode cX6_takeOneOf 24 = .ok (.iconst (-1), 1) := by decide +kernel
theorem dX6_takeOneOf_25 : decode cX6_takeOneOf 25 = .ok (.ireturn, 1) := by decide +kernel
theorem dX6_takeOneOf_26 : decode cX6_takeOneOf 26 = .ok (.aload_n 0, 1) := by decide +kernel
theorem dX6_takeOneOf_27 : decode cX6_takeOneOf 27 = .ok (.dup, 1) := by decide +kernel
theorem dX6_takeOneOf_28 : decode cX6_takeOneOf 28 = .ok (.getfield 19, 3) := by decide +kernel
theorem dX6_takeOneOf_31 : decode cX6_takeOneOf 31 = .ok (.iconst 1, 1) := by decide +kernel
theorem dX6_takeOneOf_32 : decode cX6_takeOneOf 32 = .ok (.iadd, 1) := by decide +kernel
theorem dX6_takeOneOf_33 : decode cX6_takeOneOf 33 = .ok (.putfield 19, 3) := by decide +kernel
theorem dX6_takeOneOf_36 : decode cX6_takeOneOf 36 = .ok (.iload_n 3, 1) := by decide +kernel
theorem dX6_takeOneOf_37 : decode cX6_takeOneOf 37 = .ok (.ireturn, 1) := by decide +kernel
theorem dX7_init_0 : decode cX7_init 0 = .ok (.aload_n 0, 1) := by decide +kernel
theorem dX7_init_1 : decode cX7_init 1 = .ok (.invokespecial 1, 3) := by decide +kernel
theorem dX7_init_4 : decode cX7_init 4 = .ok (.iconst 0, 1) := by decide +kernel
theorem dX7_init_5 : decode cX7_init 5 = .ok (.iload_n 1, 1) := by decide +kernel
theorem dX7_init_6 : decode cX7_init 6 = .ok (.invokestatic 7, 3) := by decide +kernel
theorem dX7_init_9 : decode cX7_init 9 = .ok (.istore_n 2, 1) := by decide +kernel
theorem dX7_init_10 : decode cX7_init 10 = .ok (.aload_n 0, 1) := by decide +kernel
theorem dX7_init_11 : decode cX7_init 11 = .ok (.iload_n 2, 1) := by decide +kernel
theorem dX7_init_12 : decode cX7_init 12 = .ok (.newarray .int, 2) := by decide +kernel
theorem dX7_init_14 : decode cX7_init 14 = .ok (.putfield 13, 3) := by decide +kernel
theorem dX7_init_17 : decode cX7_init 17 = .ok (.aload_n 0, 1) := by decide +kernel
theorem dX7_init_18 : decode cX7_init 18 = .ok (.iload_n 2, 1) := by decide +kernel
theorem dX7_init_19 : decode cX7_init 19 = .ok (.newarray .int, 2) := by decide +kernel
theorem dX7_init_21 : decode cX7_init 21 = .ok (.putfield 19, 3) := by decide +kernel
theorem dX7_init_24 : decode cX7_init 24 = .ok (.aload_n 0, 1) := by decide +kernel
theorem dX7_init_25 : decode cX7_init 25 = .ok (.iload_n 2, 1) := by decide +kernel
theorem dX7_init_26 : decode cX7_init 26 = .ok (.newarray .int, 2) := by decide +kernel
theorem dX7_init_28 : decode cX7_init 28 = .ok (.putfield 22, 3) := by decide +kernel
theorem dX7_init_31 : decode cX7_init 31 = .ok (.return_, 1) := by decide +kernel
theorem dX7_bound_0 : decode cX7_bound 0 = .ok (.iload_n 1, 1) := by decide +kernel
theorem dX7_bound_1 : decode cX7_bound 1 = .ok (.ifCond .lt 35, 3) := by decide +kernel
theorem dX7_bound_4 : decode cX7_bound 4 = .ok (.iload_n 1, 1) := by decide +kernel
theorem dX7_bound_5 : decode cX7_bound 5 = .ok (.aload_n 0, 1) := by decide +kernel
theorem dX7_bound_6 : decode cX7_bound 6 = .ok (.getfield 13, 3) := by decide +kernel
theorem dX7_bound_9 : decode cX7_bound 9 = .ok (.arraylength, 1) := by decide +kernel
theorem dX7_bound_10 : decode cX7_bound 10 = .ok (.if_icmp .ge 26, 3) := by decide +kernel
theorem dX7_bound_13 : decode cX7_bound 13 = .ok (.iload_n 1, 1) := by decide +kernel
theorem dX7_bound_14 : decode cX7_bound 14 = .ok (.aload_n 0, 1) := by decide +kernel
theorem dX7_bound_15 : decode cX7_bound 15 = .ok (.getfield 19, 3) := by decide +kernel
theorem dX7_bound_18 : decode cX7_bound 18 = .ok (.arraylength, 1) := by decide +kernel
theorem dX7_bound_19 : decode cX7_bound 19 = .ok (.if_icmp .ge 17, 3) := by decide +kernel
theorem dX7_bound_22 : decode cX7_bound 22 = .ok (.aload_n 0, 1) := by decide +kernel
theorem dX7_bound_23 : decode cX7_bound 23 = .ok (.getfield 13, 3) := by decide +kernel
theorem dX7_bound_26 : decode cX7_bound 26 = .ok (.iload_n 1, 1) := by decide +kernel
theorem dX7_bound_27 : decode cX7_bound 27 = .ok (.iload_n 2, 1) := by decide +kernel
theorem dX7_bound_28 : decode cX7_bound 28 = .ok (.iastore, 1) := by decide +kernel
theorem dX7_bound_29 : decode cX7_bound 29 = .ok (.aload_n 0, 1) := by decide +kernel
theorem dX7_bound_30 : decode cX7_bound 30 = .ok (.getfield 19, 3) := by decide +kernel
theorem dX7_bound_33 : decode cX7_bound 33 = .ok (.iload_n 1, 1) := by decide +kernel
theorem dX7_bound_34 : decode cX7_bound 34 = .ok (.iload_n 3, 1) := by decide +kernel
theorem dX7_bound_35 : decode cX7_bound 35 = .ok (.iastore, 1) := by decide +kernel
theorem dX7_bound_36 : decode cX7_bound 36 = .ok (.return_, 1) := by decide +kernel
theorem dX7_start_0 : decode cX7_start 0 = .ok (.iconst 1, 1) := by decide +kernel
theorem dX7_start_1 : decode cX7_start 1 = .ok (.istore_n 1, 1) := by decide +kernel
theorem dX7_start_2 : decode cX7_start 2 = .ok (.iconst 0, 1) := by decide +kernel
theorem dX7_start_3 : decode cX7_start 3 = .ok (.istore_n 2, 1) := by decide +kernel
theorem dX7_start_4 : decode cX7_start 4 = .ok (.iload_n 2, 1) := by decide +kernel
theorem dX7_start_5 : decode cX7_start 5 = .ok (.aload_n 0, 1) := by decide +kernel
theorem dX7_start_6 : decode cX7_start 6 = .ok (.getfield 22, 3) := by decide +kernel
theorem dX7_start_9 : decode cX7_start 9 = .ok (.arraylength, 1) := by decide +kernel
theorem dX7_start_10 : decode cX7_start 10 = .ok (.if_icmp .ge 57, 3) := by decide +kernel
theorem dX7_start_13 : decode cX7_start 13 = .ok (.iload_n 2, 1) := by decide +kernel
theorem dX7_start_14 : decode cX7_start 14 = .ok (.aload_n 0, 1) := by decide +kernel
theorem dX7_start_15 : decode cX7_start 15 = .ok (.getfield 13, 3) := by decide +kernel
theorem dX7_start_18 : decode cX7_start 18 = .ok (.arraylength, 1) := by decide +kernel
theorem dX7_start_19 : decode cX7_start 19 = .ok (.if_icmp .ge 48, 3) := by decide +kernel
theorem dX7_start_22 : decode cX7_start 22 = .ok (.iload_n 2, 1) := by decide +kernel
theorem dX7_start_23 : decode cX7_start 23 = .ok (.aload_n 0, 1) := by decide +kernel
theorem dX7_start_24 : decode cX7_start 24 = .ok (.getfield 19, 3) := by decide +kernel
theorem dX7_start_27 : decode cX7_start 27 = .ok (.arraylength, 1) := by decide +kernel
theorem dX7_start_28 : decode cX7_start 28 = .ok (.if_icmp .ge 39, 3) := by decide +kernel
theorem dX7_start_31 : decode cX7_start 31 = .ok (.aload_n 0, 1) := by decide +kernel
theorem dX7_start_32 : decode cX7_start 32 = .ok (.getfield 22, 3) := by decide +kernel
theorem dX7_start_35 : decode cX7_start 35 = .ok (.iload_n 2, 1) := by decide +kernel
theorem dX7_start_36 : decode cX7_start 36 = .ok (.aload_n 0, 1) := by decide +kernel
theorem dX7_start_37 : decode cX7_start 37 = .ok (.getfield 13, 3) := by decide +kernel
theorem dX7_start_40 : decode cX7_start 40 = .ok (.iload_n 2, 1) := by decide +kernel
theorem dX7_start_41 : decode cX7_start 41 = .ok (.iaload, 1) := by decide +kernel
theorem dX7_start_42 : decode cX7_start 42 = .ok (.iastore, 1) := by decide +kernel
theorem dX7_start_43 : decode cX7_start 43 = .ok (.iload_n 1, 1) := by decide +kernel
theorem dX7_start_44 : decode cX7_start 44 = .ok (.aload_n 0, 1) := by decide +kernel
theorem dX7_start_45 : decode cX7_start 45 = .ok (.getfield 19, 3) := by decide +kernel
theorem dX7_start_48 : decode cX7_start 48 = .ok (.iload_n 2, 1) := by decide +kernel
theorem dX7_start_49 : decode cX7_start 49 = .ok (.iaload, 1) := by decide +kernel
theorem dX7_start_50 : decode cX7_start 50 = .ok (.aload_n 0, 1) := by decide +kernel
theorem dX7_start_51 : decode cX7_start 51 = .ok (.getfield 13, 3) := by decide +kernel
theorem dX7_start_54 : decode cX7_start 54 = .ok (.iload_n 2, 1) := by decide +kernel
theorem dX7_start_55 : decode cX7_start 55 = .ok (.iaload, 1) := by decide +kernel
theorem dX7_start_56 : decode cX7_start 56 = .ok (.isub, 1) := by decide +kernel
theorem dX7_start_57 : decode cX7_start 57 = .ok (.iconst 1, 1) := by decide +kernel
theorem dX7_start_58 : decode cX7_start 58 = .ok (.iadd, 1) := by decide +kernel
theorem dX7_start_59 : decode cX7_start 59 = .ok (.imul, 1) := by decide +kernel
theorem dX7_start_60 : decode cX7_start 60 = .ok (.istore_n 1, 1) := by decide +kernel
theorem dX7_start_61 : decode cX7_start 61 = .ok (.iinc 2 1, 3) := by decide +kernel
theorem dX7_start_64 : decode cX7_start 64 = .ok (.goto (-60), 3) := by decide +kernel
theorem dX7_start_67 : decode cX7_start 67 = .ok (.iload_n 1, 1) := by decide +kernel
theorem dX7_start_68 : decode cX7_start 68 = .ok (.ireturn, 1) := by decide +kernel
theorem dX7_step_0 : decode cX7_step 0 = .ok (.aload_n 0, 1) := by decide +kernel
theorem dX7_step_1 : decode cX7_step 1 = .ok (.getfield 22, 3) := by decide +kernel
theorem dX7_step_4 : decode cX7_step 4 = .ok (.arraylength, 1) := by decide +kernel
theorem dX7_step_5 : decode cX7_step 5 = .ok (.iconst 1, 1) := by decide +kernel
theorem dX7_step_6 : decode cX7_step 6 = .ok (.isub, 1) := by decide +kernel
theorem dX7_step_7 : decode cX7_step 7 = .ok (.istore_n 1, 1) := by decide +kernel
theorem dX7_step_8 : decode cX7_step 8 = .ok (.iload_n 1, 1) := by decide +kernel
theorem dX7_step_9 : decode cX7_step 9 = .ok (.ifCond .lt 66, 3) := by decide +kernel
theorem dX7_step_12 : decode cX7_step 12 = .ok (.iload_n 1, 1) := by decide +kernel
theorem dX7_step_13 : decode cX7_step 13 = .ok (.aload_n 0, 1) := by decide +kernel
theorem dX7_step_14 : decode cX7_step 14 = .ok (.getfield 13, 3) := by decide +kernel
theorem dX7_step_17 : decode cX7_step 17 = .ok (.arraylength, 1) := by decide +kernel
theorem dX7_step_18 : decode cX7_step 18 = .ok (.if_icmp .ge 12, 3) := by decide +kernel
theorem dX7_step_21 : decode cX7_step 21 = .ok (.iload_n 1, 1) := by decide +kernel
theorem dX7_step_22 : decode cX7_step 22 = .ok (.aload_n 0, 1) := by decide +kernel
theorem dX7_step_23 : decode cX7_step 23 = .ok (.getfield 19, 3) := by decide +kernel
theorem dX7_step_26 : decode cX7_step 26 = .ok (.arraylength, 1) := by decide +kernel
theorem dX7_step_27 : decode cX7_step 27 = .ok (.if_icmp .lt 4, 3) := by decide +kernel
theorem dX7_step_30 : decode cX7_step 30 = .ok (.return_, 1) := by decide +kernel
theorem dX7_step_31 : decode cX7_step 31 = .ok (.aload_n 0, 1) := by decide +kernel
theorem dX7_step_32 : decode cX7_step 32 = .ok (.getfield 22, 3) := by decide +kernel
theorem dX7_step_35 : decode cX7_step 35 = .ok (.iload_n 1, 1) := by decide +kernel
theorem dX7_step_36 : decode cX7_step 36 = .ok (.iaload, 1) := by decide +kernel
theorem dX7_step_37 : decode cX7_step 37 = .ok (.aload_n 0, 1) := by decide +kernel
theorem dX7_step_38 : decode cX7_step 38 = .ok (.getfield 19, 3) := by decide +kernel
theorem dX7_step_41 : decode cX7_step 41 = .ok (.iload_n 1, 1) := by decide +kernel
theorem dX7_step_42 : decode cX7_step 42 = .ok (.iaload, 1) := by decide +kernel
theorem dX7_step_43 : decode cX7_step 43 = .ok (.if_icmp .ge 14, 3) := by decide +kernel
theorem dX7_step_46 : decode cX7_step 46 = .ok (.aload_n 0, 1) := by decide +kernel
theorem dX7_step_47 : decode cX7_step 47 = .ok (.getfield 22, 3) := by decide +kernel
theorem dX7_step_50 : decode cX7_step 50 = .ok (.iload_n 1, 1) := by decide +kernel
theorem dX7_step_51 : decode cX7_step 51 = .ok (.dup2, 1) := by decide +kernel
theorem dX7_step_52 : decode cX7_step 52 = .ok (.iaload, 1) := by decide +kernel
theorem dX7_step_53 : decode cX7_step 53 = .ok (.iconst 1, 1) := by decide +kernel
theorem dX7_step_54 : decode cX7_step 54 = .ok (.iadd, 1) := by decide +kernel
theorem dX7_step_55 : decode cX7_step 55 = .ok (.iastore, 1) := by decide +kernel
theorem dX7_step_56 : decode cX7_step 56 = .ok (.return_, 1) := by decide +kernel
theorem dX7_step_57 : decode cX7_step 57 = .ok (.aload_n 0, 1) := by decide +kernel
theorem dX7_step_58 : decode cX7_step 58 = .ok (.getfield 22, 3) := by decide +kernel
theorem dX7_step_61 : decode cX7_step 61 = .ok (.iload_n 1, 1) := by decide +kernel
theorem dX7_step_62 : decode cX7_step 62 = .ok (.aload_n 0, 1) := by decide +kernel
theorem dX7_step_63 : decode cX7_step 63 = .ok (.getfield 13, 3) := by decide +kernel
theorem dX7_step_66 : decode cX7_step 66 = .ok (.iload_n 1, 1) := by decide +kernel
theorem dX7_step_67 : decode cX7_step 67 = .ok (.iaload, 1) := by decide +kernel
theorem dX7_step_68 : decode cX7_step 68 = .ok (.iastore, 1) := by decide +kernel
theorem dX7_step_69 : decode cX7_step 69 = .ok (.iinc 1 (-1), 3) := by decide +kernel
theorem dX7_step_72 : decode cX7_step 72 = .ok (.goto (-64), 3) := by decide +kernel
theorem dX7_step_75 : decode cX7_step 75 = .ok (.return_, 1) := by decide +kernel
theorem dX7_get_0 : decode cX7_get 0 = .ok (.iload_n 1, 1) := by decide +kernel
theorem dX7_get_1 : decode cX7_get 1 = .ok (.ifCond .lt 21, 3) := by decide +kernel
theorem dX7_get_4 : decode cX7_get 4 = .ok (.iload_n 1, 1) := by decide +kernel
theorem dX7_get_5 : decode cX7_get 5 = .ok (.aload_n 0, 1) := by decide +kernel
theorem dX7_get_6 : decode cX7_get 6 = .ok (.getfield 22, 3) := by decide +kernel
theorem dX7_get_9 : decode cX7_get 9 = .ok (.arraylength, 1) := by decide +kernel
theorem dX7_get_10 : decode cX7_get 10 = .ok (.if_icmp .ge 12, 3) := by decide +kernel
theorem dX7_get_13 : decode cX7_get 13 = .ok (.aload_n 0, 1) := by decide +kernel
theorem dX7_get_14 : decode cX7_get 14 = .ok (.getfield 22, 3) := by decide +kernel
theorem dX7_get_17 : decode cX7_get 17 = .ok (.iload_n 1, 1) := by decide +kernel
theorem dX7_get_18 : decode cX7_get 18 = .ok (.iaload, 1) := by decide +kernel
theorem dX7_get_19 : decode cX7_get 19 = .ok (.goto 4, 3) := by decide +kernel
theorem dX7_get_22 : decode cX7_get 22 = .ok (.iconst 0, 1) := by decide +kernel
theorem dX7_get_23 : decode cX7_get 23 = .ok (.ireturn, 1) := by decide +kernel
theorem dX7_size_0 : decode cX7_size 0 = .ok (.iconst 0, 1) := by decide +kernel
theorem dX7_size_1 : decode cX7_size 1 = .ok (.istore_n 1, 1) := by decide +kernel
theorem dX7_size_2 : decode cX7_size 2 = .ok (.aload_n 0, 1) := by decide +kernel
theorem dX7_size_3 : decode cX7_size 3 = .ok (.getfield 22, 3) := by decide +kernel
theorem dX7_size_6 : decode cX7_size 6 = .ok (.astore_n 2, 1) := by decide +kernel
theorem dX7_size_7 : decode cX7_size 7 = .ok (.aload_n 2, 1) := by decide +kernel
theorem dX7_size_8 : decode cX7_size 8 = .ok (.arraylength, 1) := by decide +kernel
theorem dX7_size_9 : decode cX7_size 9 = .ok (.istore_n 3, 1) := by decide +kernel
theorem dX7_size_10 : decode cX7_size 10 = .ok (.iconst 0, 1) := by decide +kernel
theorem dX7_size_11 : decode cX7_size 11 = .ok (.istore 4, 2) := by decide +kernel
theorem dX7_size_13 : decode cX7_size 13 = .ok (.iload 4, 2) := by decide +kernel
theorem dX7_size_15 : decode cX7_size 15 = .ok (.iload_n 3, 1) := by decide +kernel
theorem dX7_size_16 : decode cX7_size 16 = .ok (.if_icmp .ge 23, 3) := by decide +kernel
theorem dX7_size_19 : decode cX7_size 19 = .ok (.aload_n 2, 1) := by decide +kernel
theorem dX7_size_20 : decode cX7_size 20 = .ok (.iload 4, 2) := by decide +kernel
theorem dX7_size_22 : decode cX7_size 22 = .ok (.iaload, 1) := by decide +kernel
theorem dX7_size_23 : decode cX7_size 23 = .ok (.istore 5, 2) := by decide +kernel
theorem dX7_size_25 : decode cX7_size 25 = .ok (.iload_n 1, 1) := by decide +kernel
theorem dX7_size_26 : decode cX7_size 26 = .ok (.iload 5, 2) := by decide +kernel
theorem dX7_size_28 : decode cX7_size 28 = .ok (.invokestatic 25, 3) := by decide +kernel
theorem dX7_size_31 : decode cX7_size 31 = .ok (.iadd, 1) := by decide +kernel
theorem dX7_size_32 : decode cX7_size 32 = .ok (.istore_n 1, 1) := by decide +kernel
theorem dX7_size_33 : decode cX7_size 33 = .ok (.iinc 4 1, 3) := by decide +kernel
theorem dX7_size_36 : decode cX7_size 36 = .ok (.goto (-23), 3) := by decide +kernel
theorem dX7_size_39 : decode cX7_size 39 = .ok (.iload_n 1, 1) := by decide +kernel
theorem dX7_size_40 : decode cX7_size 40 = .ok (.ireturn, 1) := by decide +kernel
theorem dX7_sum_0 : decode cX7_sum 0 = .ok (.iconst 0, 1) := by decide +kernel
theorem dX7_sum_1 : decode cX7_sum 1 = .ok (.istore_n 2, 1) := by decide +kernel
theorem dX7_sum_2 : decode cX7_sum 2 = .ok (.iconst 0, 1) := by decide +kernel
theorem dX7_sum_3 : decode cX7_sum 3 = .ok (.istore_n 3, 1) := by decide +kernel
theorem dX7_sum_4 : decode cX7_sum 4 = .ok (.iload_n 3, 1) := by decide +kernel
theorem dX7_sum_5 : decode cX7_sum 5 = .ok (.aload_n 0, 1) := by decide +kernel
theorem dX7_sum_6 : decode cX7_sum 6 = .ok (.getfield 22, 3) := by decide +kernel
theorem dX7_sum_9 : decode cX7_sum 9 = .ok (.arraylength, 1) := by decide +kernel
theorem dX7_sum_10 : decode cX7_sum 10 = .ok (.if_icmp .ge 28, 3) := by decide +kernel
theorem dX7_sum_13 : decode cX7_sum 13 = .ok (.iload_n 3, 1) := by decide +kernel
theorem dX7_sum_14 : decode cX7_sum 14 = .ok (.aload_n 1, 1) := by decide +kernel
theorem dX7_sum_15 : decode cX7_sum 15 = .ok (.arraylength, 1) := by decide +kernel
theorem dX7_sum_16 : decode cX7_sum 16 = .ok (.if_icmp .ge 22, 3) := by decide +kernel
theorem dX7_sum_19 : decode cX7_sum 19 = .ok (.iload_n 2, 1) := by decide +kernel
theorem dX7_sum_20 : decode cX7_sum 20 = .ok (.aload_n 0, 1) := by decide +kernel
theorem dX7_sum_21 : decode cX7_sum 21 = .ok (.getfield 22, 3) := by decide +kernel
theorem dX7_sum_24 : decode cX7_sum 24 = .ok (.iload_n 3, 1) := by decide +kernel
theorem dX7_sum_25 : decode cX7_sum 25 = .ok (.iaload, 1) := by decide +kernel
theorem dX7_sum_26 : decode cX7_sum 26 = .ok (.aload_n 1, 1) := by decide +kernel
theorem dX7_sum_27 : decode cX7_sum 27 = .ok (.iload_n 3, 1) := by decide +kernel
theorem dX7_sum_28 : decode cX7_sum 28 = .ok (.iaload, 1) := by decide +kernel
theorem dX7_sum_29 : decode cX7_sum 29 = .ok (.imul, 1) := by decide +kernel
theorem dX7_sum_30 : decode cX7_sum 30 = .ok (.iadd, 1) := by decide +kernel
theorem dX7_sum_31 : decode cX7_sum 31 = .ok (.istore_n 2, 1) := by decide +kernel
theorem dX7_sum_32 : decode cX7_sum 32 = .ok (.iinc 3 1, 3) := by decide +kernel
theorem dX7_sum_35 : decode cX7_sum 35 = .ok (.goto (-31), 3) := by decide +kernel
theorem dX7_sum_38 : decode cX7_sum 38 = .ok (.iload_n 2, 1) := by decide +kernel
theorem dX7_sum_39 : decode cX7_sum 39 = .ok (.ireturn, 1) := by decide +kernel
theorem dX7_copyInto_0 : decode cX7_copyInto 0 = .ok (.aload_n 0, 1) := by decide +kernel
theorem dX7_copyInto_1 : decode cX7_copyInto 1 = .ok (.getfield 22, 3) := by decide +kernel
theorem dX7_copyInto_4 : decode cX7_copyInto 4 = .ok (.iconst 0, 1) := by decide +kernel
theorem dX7_copyInto_5 : decode cX7_copyInto 5 = .ok (.aload_n 1, 1) := by decide +kernel
theorem dX7_copyInto_6 : decode cX7_copyInto 6 = .ok (.iconst 0, 1) := by decide +kernel
theorem dX7_copyInto_7 : decode cX7_copyInto 7 = .ok (.aload_n 0, 1) := by decide +kernel
theorem dX7_copyInto_8 : decode cX7_copyInto 8 = .ok (.getfield 22, 3) := by decide +kernel
theorem dX7_copyInto_11 : decode cX7_copyInto 11 = .ok (.arraylength, 1) := by decide +kernel
theorem dX7_copyInto_12 : decode cX7_copyInto 12 = .ok (.aload_n 1, 1) := by decide +kernel
theorem dX7_copyInto_13 : decode cX7_copyInto 13 = .ok (.arraylength, 1) := by decide +kernel
theorem dX7_copyInto_14 : decode cX7_copyInto 14 = .ok (.invokestatic 29, 3) := by decide +kernel
theorem dX7_copyInto_17 : decode cX7_copyInto 17 = .ok (.invokestatic 32, 3) := by decide +kernel
theorem dX7_copyInto_20 : decode cX7_copyInto 20 = .ok (.return_, 1) := by decide +kernel
theorem dX8_init_0 : decode cX8_init 0 = .ok (.aload_n 0, 1) := by decide +kernel
theorem dX8_init_1 : decode cX8_init 1 = .ok (.invokespecial 1, 3) := by decide +kernel
theorem dX8_init_4 : decode cX8_init 4 = .ok (.aload_n 0, 1) := by decide +kernel
theorem dX8_init_5 : decode cX8_init 5 = .ok (.iconst 0, 1) := by decide +kernel
theorem dX8_init_6 : decode cX8_init 6 = .ok (.putfield 7, 3) := by decide +kernel
theorem dX8_init_9 : decode cX8_init 9 = .ok (.aload_n 0, 1) := by decide +kernel
theorem dX8_init_10 : decode cX8_init 10 = .ok (.iload_n 1, 1) := by decide +kernel
theorem dX8_init_11 : decode cX8_init 11 = .ok (.iconst 1, 1) := by decide +kernel
theorem dX8_init_12 : decode cX8_init 12 = .ok (.invokestatic 13, 3) := by decide +kernel
theorem dX8_init_15 : decode cX8_init 15 = .ok (.putfield 19, 3) := by decide +kernel
theorem dX8_init_18 : decode cX8_init 18 = .ok (.aload_n 0, 1) := by decide +kernel
theorem dX8_init_19 : decode cX8_init 19 = .ok (.iload_n 2, 1) := by decide +kernel
theorem dX8_init_20 : decode cX8_init 20 = .ok (.iconst 0, 1) := by decide +kernel
theorem dX8_init_21 : decode cX8_init 21 = .ok (.invokestatic 13, 3) := by decide +kernel
theorem dX8_init_24 : decode cX8_init 24 = .ok (.putfield 22, 3) := by decide +kernel
theorem dX8_init_27 : decode cX8_init 27 = .ok (.aload_n 0, 1) := by decide +kernel
theorem dX8_init_28 : decode cX8_init 28 = .ok (.aload_n 0, 1) := by decide +kernel
theorem dX8_init_29 : decode cX8_init 29 = .ok (.getfield 19, 3) := by decide +kernel
theorem dX8_init_32 : decode cX8_init 32 = .ok (.aload_n 0, 1) := by decide +kernel
theorem dX8_init_33 : decode cX8_init 33 = .ok (.getfield 22, 3) := by decide +kernel
theorem dX8_init_36 : decode cX8_init 36 = .ok (.imul, 1) := by decide +kernel
theorem dX8_init_37 : decode cX8_init 37 = .ok (.newarray .int, 2) := by decide +kernel
theorem dX8_init_39 : decode cX8_init 39 = .ok (.putfield 25, 3) := by decide +kernel
theorem dX8_init_42 : decode cX8_init 42 = .ok (.return_, 1) := by decide +kernel
theorem dX8_rows_0 : decode cX8_rows 0 = .ok (.aload_n 0, 1) := by decide +kernel
theorem dX8_rows_1 : decode cX8_rows 1 = .ok (.getfield 7, 3) := by decide +kernel
theorem dX8_rows_4 : decode cX8_rows 4 = .ok (.ireturn, 1) := by decide +kernel
theorem dX8_has_0 : decode cX8_has 0 = .ok (.iload_n 1, 1) := by decide +kernel
theorem dX8_has_1 : decode cX8_has 1 = .ok (.ifCond .lt 15, 3) := by decide +kernel
theorem dX8_has_4 : decode cX8_has 4 = .ok (.iload_n 1, 1) := by decide +kernel
theorem dX8_has_5 : decode cX8_has 5 = .ok (.aload_n 0, 1) := by decide +kernel
theorem dX8_has_6 : decode cX8_has 6 = .ok (.getfield 7, 3) := by decide +kernel
theorem dX8_has_9 : decode cX8_has 9 = .ok (.if_icmp .ge 7, 3) := by decide +kernel
theorem dX8_has_12 : decode cX8_has 12 = .ok (.iconst 1, 1) := by decide +kernel
theorem dX8_has_13 : decode cX8_has 13 = .ok (.goto 4, 3) := by decide +kernel
theorem dX8_has_16 : decode cX8_has 16 = .ok (.iconst 0, 1) := by decide +kernel
theorem dX8_has_17 : decode cX8_has 17 = .ok (.ireturn, 1) := by decide +kernel
theorem dX8_isFull_0 : decode cX8_isFull 0 = .ok (.aload_n 0, 1) := by decide +kernel
theorem dX8_isFull_1 : decode cX8_isFull 1 = .ok (.getfield 7, 3) := by decide +kernel
theorem dX8_isFull_4 : decode cX8_isFull 4 = .ok (.aload_n 0, 1) := by decide +kernel
theorem dX8_isFull_5 : decode cX8_isFull 5 = .ok (.getfield 22, 3) := by decide +kernel
theorem dX8_isFull_8 : decode cX8_isFull 8 = .ok (.if_icmp .lt 7, 3) := by decide +kernel
theorem dX8_isFull_11 : decode cX8_isFull 11 = .ok (.iconst 1, 1) := by decide +kernel
theorem dX8_isFull_12 : decode cX8_isFull 12 = .ok (.goto 4, 3) := by decide +kernel
theorem dX8_isFull_15 : decode cX8_isFull 15 = .ok (.iconst 0, 1) := by decide +kernel
theorem dX8_isFull_16 : decode cX8_isFull 16 = .ok (.ireturn, 1) := by decide +kernel
theorem dX8_add_0 : decode cX8_add 0 = .ok (.aload_n 0, 1) := by decide +kernel
theorem dX8_add_1 : decode cX8_add 1 = .ok (.getfield 7, 3) := by decide +kernel
theorem dX8_add_4 : decode cX8_add 4 = .ok (.aload_n 0, 1) := by decide +kernel
theorem dX8_add_5 : decode cX8_add 5 = .ok (.getfield 22, 3) := by decide +kernel
theorem dX8_add_8 : decode cX8_add 8 = .ok (.if_icmp .lt 5, 3) := by decide +kernel
theorem dX8_add_11 : decode cX8_add 11 = .ok (.iconst (-1), 1) := by decide +kernel
theorem dX8_add_12 : decode cX8_add 12 = .ok (.ireturn, 1) := by decide +kernel
theorem dX8_add_13 : decode cX8_add 13 = .ok (.aload_n 0, 1) := by decide +kernel
theorem dX8_add_14 : decode cX8_add 14 = .ok (.dup, 1) := by decide +kernel
theorem dX8_add_15 : decode cX8_add 15 = .ok (.getfield 7, 3) := by decide +kernel
theorem dX8_add_18 : decode cX8_add 18 = .ok (.iconst 1, 1) := by decide +kernel
theorem dX8_add_19 : decode cX8_add 19 = .ok (.iadd, 1) := by decide +kernel
theorem dX8_add_20 : decode cX8_add 20 = .ok (.putfield 7, 3) := by decide +kernel
theorem dX8_add_23 : decode cX8_add 23 = .ok (.iconst 0, 1) := by decide +kernel
theorem dX8_add_24 : decode cX8_add 24 = .ok (.istore_n 1, 1) := by decide +kernel
theorem dX8_add_25 : decode cX8_add 25 = .ok (.iload_n 1, 1) := by decide +kernel
theorem dX8_add_26 : decode cX8_add 26 = .ok (.aload_n 0, 1) := by decide +kernel
theorem dX8_add_27 : decode cX8_add 27 = .ok (.getfield 19, 3) := by decide +kernel
theorem dX8_add_30 : decode cX8_add 30 = .ok (.if_icmp .ge 22, 3) := by decide +kernel
theorem dX8_add_33 : decode cX8_add 33 = .ok (.aload_n 0, 1) := by decide +kernel
theorem dX8_add_34 : decode cX8_add 34 = .ok (.aload_n 0, 1) := by decide +kernel
theorem dX8_add_35 : decode cX8_add 35 = .ok (.getfield 7, 3) := by decide +kernel
theorem dX8_add_38 : decode cX8_add 38 = .ok (.iconst 1, 1) := by decide +kernel
theorem dX8_add_39 : decode cX8_add 39 = .ok (.isub, 1) := by decide +kernel
theorem dX8_add_40 : decode cX8_add 40 = .ok (.iload_n 1, 1) := by decide +kernel
theorem dX8_add_41 : decode cX8_add 41 = .ok (.iconst 0, 1) := by decide +kernel
theorem dX8_add_42 : decode cX8_add 42 = .ok (.invokevirtual 29, 3) := by decide +kernel
theorem dX8_add_45 : decode cX8_add 45 = .ok (.pop, 1) := by decide +kernel
theorem dX8_add_46 : decode cX8_add 46 = .ok (.iinc 1 1, 3) := by decide +kernel
theorem dX8_add_49 : decode cX8_add 49 = .ok (.goto (-24), 3) := by decide +kernel
theorem dX8_add_52 : decode cX8_add 52 = .ok (.aload_n 0, 1) := by decide +kernel
theorem dX8_add_53 : decode cX8_add 53 = .ok (.getfield 7, 3) := by decide +kernel
theorem dX8_add_56 : decode cX8_add 56 = .ok (.iconst 1, 1) := by decide +kernel
theorem dX8_add_57 : decode cX8_add 57 = .ok (.isub, 1) := by decide +kernel
theorem dX8_add_58 : decode cX8_add 58 = .ok (.ireturn, 1) := by decide +kernel
theorem dX8_clear_0 : decode cX8_clear 0 = .ok (.aload_n 0, 1) := by decide +kernel
theorem dX8_clear_1 : decode cX8_clear 1 = .ok (.iconst 0, 1) := by decide +kernel
theorem dX8_clear_2 : decode cX8_clear 2 = .ok (.putfield 7, 3) := by decide +kernel
theorem dX8_clear_5 : decode cX8_clear 5 = .ok (.return_, 1) := by decide +kernel
theorem dX8_get_0 : decode cX8_get 0 = .ok (.iload_n 1, 1) := by decide +kernel
theorem dX8_get_1 : decode cX8_get 1 = .ok (.aload_n 0, 1) := by decide +kernel
theorem dX8_get_2 : decode cX8_get 2 = .ok (.getfield 19, 3) := by decide +kernel
theorem dX8_get_5 : decode cX8_get 5 = .ok (.imul, 1) := by decide +kernel
theorem dX8_get_6 : decode cX8_get 6 = .ok (.iload_n 2, 1) := by decide +kernel
theorem dX8_get_7 : decode cX8_get 7 = .ok (.iadd, 1) := by decide +kernel
theorem dX8_get_8 : decode cX8_get 8 = .ok (.istore_n 3, 1) := by decide +kernel
theorem dX8_get_9 : decode cX8_get 9 = .ok (.aload_n 0, 1) := by decide +kernel
theorem dX8_get_10 : decode cX8_get 10 = .ok (.iload_n 1, 1) := by decide +kernel
theorem dX8_get_11 : decode cX8_get 11 = .ok (.iload_n 2, 1) := by decide +kernel
theorem dX8_get_12 : decode cX8_get 12 = .ok (.invokevirtual 33, 3) := by decide +kernel
theorem dX8_get_15 : decode cX8_get 15 = .ok (.ifCond .eq 25, 3) := by decide +kernel
theorem dX8_get_18 : decode cX8_get 18 = .ok (.iload_n 3, 1) := by decide +kernel
theorem dX8_get_19 : decode cX8_get 19 = .ok (.ifCond .lt 21, 3) := by decide +kernel
theorem dX8_get_22 : decode cX8_get 22 = .ok (.iload_n 3, 1) := by decide +kernel
theorem dX8_get_23 : decode cX8_get 23 = .ok (.aload_n 0, 1) := by decide +kernel
theorem dX8_get_24 : decode cX8_get 24 = .ok (.getfield 25, 3) := by decide +kernel
theorem dX8_get_27 : decode cX8_get 27 = .ok (.arraylength, 1) := by decide +kernel
theorem dX8_get_28 : decode cX8_get 28 = .ok (.if_icmp .ge 12, 3) := by decide +kernel
theorem dX8_get_31 : decode cX8_get 31 = .ok (.aload_n 0, 1) := by decide +kernel
theorem dX8_get_32 : decode cX8_get 32 = .ok (.getfield 25, 3) := by decide +kernel
theorem dX8_get_35 : decode cX8_get 35 = .ok (.iload_n 3, 1) := by decide +kernel
theorem dX8_get_36 : decode cX8_get 36 = .ok (.iaload, 1) := by decide +kernel
theorem dX8_get_37 : decode cX8_get 37 = .ok (.goto 4, 3) := by decide +kernel
theorem dX8_get_40 : decode cX8_get 40 = .ok (.iconst 0, 1) := by decide +kernel
theorem dX8_get_41 : decode cX8_get 41 = .ok (.ireturn, 1) := by decide +kernel
theorem dX8_put_0 : decode cX8_put 0 = .ok (.iload_n 1, 1) := by decide +kernel
theorem dX8_put_1 : decode cX8_put 1 = .ok (.aload_n 0, 1) := by decide +kernel
theorem dX8_put_2 : decode cX8_put 2 = .ok (.getfield 19, 3) := by decide +kernel
theorem dX8_put_5 : decode cX8_put 5 = .ok (.imul, 1) := by decide +kernel
theorem dX8_put_6 : decode cX8_put 6 = .ok (.iload_n 2, 1) := by decide +kernel
theorem dX8_put_7 : decode cX8_put 7 = .ok (.iadd, 1) := by decide +kernel
theorem dX8_put_8 : decode cX8_put 8 = .ok (.istore 4, 2) := by decide +kernel
theorem dX8_put_10 : decode cX8_put 10 = .ok (.aload_n 0, 1) := by decide +kernel
theorem dX8_put_11 : decode cX8_put 11 = .ok (.iload_n 1, 1) := by decide +kernel
theorem dX8_put_12 : decode cX8_put 12 = .ok (.iload_n 2, 1) := by decide +kernel
theorem dX8_put_13 : decode cX8_put 13 = .ok (.invokevirtual 33, 3) := by decide +kernel
theorem dX8_put_16 : decode cX8_put 16 = .ok (.ifCond .eq 18, 3) := by decide +kernel
theorem dX8_put_19 : decode cX8_put 19 = .ok (.iload 4, 2) := by decide +kernel
theorem dX8_put_21 : decode cX8_put 21 = .ok (.ifCond .lt 13, 3) := by decide +kernel
theorem dX8_put_24 : decode cX8_put 24 = .ok (.iload 4, 2) := by decide +kernel
theorem dX8_put_26 : decode cX8_put 26 = .ok (.aload_n 0, 1) := by decide +kernel
theorem dX8_put_27 : decode cX8_put 27 = .ok (.getfield 25, 3) := by decide +kernel
theorem dX8_put_30 : decode cX8_put 30 = .ok (.arraylength, 1) := by decide +kernel
theorem dX8_put_31 : decode cX8_put 31 = .ok (.if_icmp .lt 5, 3) := by decide +kernel
theorem dX8_put_34 : decode cX8_put 34 = .ok (.iconst 0, 1) := by decide +kernel
theorem dX8_put_35 : decode cX8_put 35 = .ok (.ireturn, 1) := by decide +kernel
theorem dX8_put_36 : decode cX8_put 36 = .ok (.aload_n 0, 1) := by decide +kernel
theorem dX8_put_37 : decode cX8_put 37 = .ok (.getfield 25, 3) := by decide +kernel
theorem dX8_put_40 : decode cX8_put 40 = .ok (.iload 4, 2) := by decide +kernel
theorem dX8_put_42 : decode cX8_put 42 = .ok (.iaload, 1) := by decide +kernel
theorem dX8_put_43 : decode cX8_put 43 = .ok (.istore 5, 2) := by decide +kernel
theorem dX8_put_45 : decode cX8_put 45 = .ok (.aload_n 0, 1) := by decide +kernel
theorem dX8_put_46 : decode cX8_put 46 = .ok (.getfield 25, 3) := by decide +kernel
theorem dX8_put_49 : decode cX8_put 49 = .ok (.iload 4, 2) := by decide +kernel
theorem dX8_put_51 : decode cX8_put 51 = .ok (.iload_n 3, 1) := by decide +kernel
theorem dX8_put_52 : decode cX8_put 52 = .ok (.iastore, 1) := by decide +kernel
theorem dX8_put_53 : decode cX8_put 53 = .ok (.iload 5, 2) := by decide +kernel
theorem dX8_put_55 : decode cX8_put 55 = .ok (.ireturn, 1) := by decide +kernel
theorem dX8_sum_0 : decode cX8_sum 0 = .ok (.aload_n 0, 1) := by decide +kernel
theorem dX8_sum_1 : decode cX8_sum 1 = .ok (.iload_n 1, 1) := by decide +kernel
theorem dX8_sum_2 : decode cX8_sum 2 = .ok (.iload_n 2, 1) := by decide +kernel
theorem dX8_sum_3 : decode cX8_sum 3 = .ok (.invokevirtual 33, 3) := by decide +kernel
theorem dX8_sum_6 : decode cX8_sum 6 = .ok (.ifCond .ne 5, 3) := by decide +kernel
theorem dX8_sum_9 : decode cX8_sum 9 = .ok (.iconst 0, 1) := by decide +kernel
theorem dX8_sum_10 : decode cX8_sum 10 = .ok (.ireturn, 1) := by decide +kernel
theorem dX8_sum_11 : decode cX8_sum 11 = .ok (.iconst 0, 1) := by decide +kernel
theorem dX8_sum_12 : decode cX8_sum 12 = .ok (.istore 4, 2) := by decide +kernel
theorem dX8_sum_14 : decode cX8_sum 14 = .ok (.iload_n 1, 1) := by decide +kernel
theorem dX8_sum_15 : decode cX8_sum 15 = .ok (.aload_n 0, 1) := by decide +kernel
theorem dX8_sum_16 : decode cX8_sum 16 = .ok (.getfield 19, 3) := by decide +kernel
theorem dX8_sum_19 : decode cX8_sum 19 = .ok (.imul, 1) := by decide +kernel
theorem dX8_sum_20 : decode cX8_sum 20 = .ok (.iload_n 2, 1) := by decide +kernel
theorem dX8_sum_21 : decode cX8_sum 21 = .ok (.iadd, 1) := by decide +kernel
theorem dX8_sum_22 : decode cX8_sum 22 = .ok (.istore 5, 2) := by decide +kernel
theorem dX8_sum_24 : decode cX8_sum 24 = .ok (.aload_n 3, 1) := by decide +kernel
theorem dX8_sum_25 : decode cX8_sum 25 = .ok (.arraylength, 1) := by decide +kernel
theorem dX8_sum_26 : decode cX8_sum 26 = .ok (.aload_n 0, 1) := by decide +kernel
theorem dX8_sum_27 : decode cX8_sum 27 = .ok (.getfield 19, 3) := by decide +kernel
theorem dX8_sum_30 : decode cX8_sum 30 = .ok (.iload_n 2, 1) := by decide +kernel
theorem dX8_sum_31 : decode cX8_sum 31 = .ok (.isub, 1) := by decide +kernel
theorem dX8_sum_32 : decode cX8_sum 32 = .ok (.invokestatic 37, 3) := by decide +kernel
theorem dX8_sum_35 : decode cX8_sum 35 = .ok (.istore 6, 2) := by decide +kernel
theorem dX8_sum_37 : decode cX8_sum 37 = .ok (.iconst 0, 1) := by decide +kernel
theorem dX8_sum_38 : decode cX8_sum 38 = .ok (.istore 7, 2) := by decide +kernel
theorem dX8_sum_40 : decode cX8_sum 40 = .ok (.iload 7, 2) := by decide +kernel
theorem dX8_sum_42 : decode cX8_sum 42 = .ok (.iload 6, 2) := by decide +kernel
theorem dX8_sum_44 : decode cX8_sum 44 = .ok (.if_icmp .ge 44, 3) := by decide +kernel
theorem dX8_sum_47 : decode cX8_sum 47 = .ok (.iload 5, 2) := by decide +kernel
theorem dX8_sum_49 : decode cX8_sum 49 = .ok (.ifCond .lt 39, 3) := by decide +kernel
theorem dX8_sum_52 : decode cX8_sum 52 = .ok (.iload 5, 2) := by decide +kernel
theorem dX8_sum_54 : decode cX8_sum 54 = .ok (.aload_n 0, 1) := by decide +kernel
theorem dX8_sum_55 : decode cX8_sum 55 = .ok (.getfield 25, 3) := by decide +kernel
theorem dX8_sum_58 : decode cX8_sum 58 = .ok (.arraylength, 1) := by decide +kernel
theorem dX8_sum_59 : decode cX8_sum 59 = .ok (.if_icmp .ge 29, 3) := by decide +kernel
theorem dX8_sum_62 : decode cX8_sum 62 = .ok (.iload 4, 2) := by decide +kernel
theorem dX8_sum_64 : decode cX8_sum 64 = .ok (.aload_n 0, 1) := by decide +kernel
theorem dX8_sum_65 : decode cX8_sum 65 = .ok (.getfield 25, 3) := by decide +kernel
theorem dX8_sum_68 : decode cX8_sum 68 = .ok (.iload 5, 2) := by decide +kernel
theorem dX8_sum_70 : decode cX8_sum 70 = .ok (.iaload, 1) := by decide +kernel
theorem dX8_sum_71 : decode cX8_sum 71 = .ok (.aload_n 3, 1) := by decide +kernel
theorem dX8_sum_72 : decode cX8_sum 72 = .ok (.iload 7, 2) := by decide +kernel
theorem dX8_sum_74 : decode cX8_sum 74 = .ok (.iaload, 1) := by decide +kernel
theorem dX8_sum_75 : decode cX8_sum 75 = .ok (.imul, 1) := by decide +kernel
theorem dX8_sum_76 : decode cX8_sum 76 = .ok (.iadd, 1) := by decide +kernel
theorem dX8_sum_77 : decode cX8_sum 77 = .ok (.istore 4, 2) := by decide +kernel
theorem dX8_sum_79 : decode cX8_sum 79 = .ok (.iinc 5 1, 3) := by decide +kernel
theorem dX8_sum_82 : decode cX8_sum 82 = .ok (.iinc 7 1, 3) := by decide +kernel
theorem dX8_sum_85 : decode cX8_sum 85 = .ok (.goto (-45), 3) := by decide +kernel
theorem dX8_sum_88 : decode cX8_sum 88 = .ok (.iload 4, 2) := by decide +kernel
theorem dX8_sum_90 : decode cX8_sum 90 = .ok (.ireturn, 1) := by decide +kernel
theorem dX8_isInside_0 : decode cX8_isInside 0 = .ok (.iload_n 1, 1) := by decide +kernel
theorem dX8_isInside_1 : decode cX8_isInside 1 = .ok (.ifCond .lt 27, 3) := by decide +kernel
theorem dX8_isInside_4 : decode cX8_isInside 4 = .ok (.iload_n 1, 1) := by decide +kernel
theorem dX8_isInside_5 : decode cX8_isInside 5 = .ok (.aload_n 0, 1) := by decide +kernel
theorem dX8_isInside_6 : decode cX8_isInside 6 = .ok (.getfield 7, 3) := by decide +kernel
theorem dX8_isInside_9 : decode cX8_isInside 9 = .ok (.if_icmp .ge 19, 3) := by decide +kernel
theorem dX8_isInside_12 : decode cX8_isInside 12 = .ok (.iload_n 2, 1) := by decide +kernel
theorem dX8_isInside_13 : decode cX8_isInside 13 = .ok (.ifCond .lt 15, 3) := by decide +kernel
theorem dX8_isInside_16 : decode cX8_isInside 16 = .ok (.iload_n 2, 1) := by decide +kernel
theorem dX8_isInside_17 : decode cX8_isInside 17 = .ok (.aload_n 0, 1) := by decide +kernel
theorem dX8_isInside_18 : decode cX8_isInside 18 = .ok (.getfield 19, 3) := by decide +kernel
theorem dX8_isInside_21 : decode cX8_isInside 21 = .ok (.if_icmp .ge 7, 3) := by decide +kernel
theorem dX8_isInside_24 : decode cX8_isInside 24 = .ok (.iconst 1, 1) := by decide +kernel
theorem dX8_isInside_25 : decode cX8_isInside 25 = .ok (.goto 4, 3) := by decide +kernel
theorem dX8_isInside_28 : decode cX8_isInside 28 = .ok (.iconst 0, 1) := by decide +kernel
theorem dX8_isInside_29 : decode cX8_isInside 29 = .ok (.ireturn, 1) := by decide +kernel
theorem dX8_takeOver_0 : decode cX8_takeOver 0 = .ok (.aload_n 1, 1) := by decide +kernel
theorem dX8_takeOver_1 : decode cX8_takeOver 1 = .ok (.getfield 25, 3) := by decide +kernel
theorem dX8_takeOver_4 : decode cX8_takeOver 4 = .ok (.iconst 0, 1) := by decide +kernel
theorem dX8_takeOver_5 : decode cX8_takeOver 5 = .ok (.aload_n 0, 1) := by decide +kernel
theorem dX8_takeOver_6 : decode cX8_takeOver 6 = .ok (.getfield 25, 3) := by decide +kernel
theorem dX8_takeOver_9 : decode cX8_takeOver 9 = .ok (.iconst 0, 1) := by decide +kernel
theorem dX8_takeOver_10 : decode cX8_takeOver 10 = .ok (.aload_n 0, 1) := by decide +kernel
theorem dX8_takeOver_11 : decode cX8_takeOver 11 = .ok (.getfield 25, 3) := by decide +kernel
theorem dX8_takeOver_14 : decode cX8_takeOver 14 = .ok (.arraylength, 1) := by decide +kernel
theorem dX8_takeOver_15 : decode cX8_takeOver 15 = .ok (.aload_n 1, 1) := by decide +kernel
theorem dX8_takeOver_16 : decode cX8_takeOver 16 = .ok (.getfield 25, 3) := by decide +kernel
theorem dX8_takeOver_19 : decode cX8_takeOver 19 = .ok (.arraylength, 1) := by decide +kernel
theorem dX8_takeOver_20 : decode cX8_takeOver 20 = .ok (.invokestatic 37, 3) := by decide +kernel
theorem dX8_takeOver_23 : decode cX8_takeOver 23 = .ok (.invokestatic 40, 3) := by decide +kernel
theorem dX8_takeOver_26 : decode cX8_takeOver 26 = .ok (.aload_n 0, 1) := by decide +kernel
theorem dX8_takeOver_27 : decode cX8_takeOver 27 = .ok (.aload_n 0, 1) := by decide +kernel
theorem dX8_takeOver_28 : decode cX8_takeOver 28 = .ok (.getfield 22, 3) := by decide +kernel
theorem dX8_takeOver_31 : decode cX8_takeOver 31 = .ok (.aload_n 1, 1) := by decide +kernel
theorem dX8_takeOver_32 : decode cX8_takeOver 32 = .ok (.getfield 7, 3) := by decide +kernel
theorem dX8_takeOver_35 : decode cX8_takeOver 35 = .ok (.invokestatic 37, 3) := by decide +kernel
theorem dX8_takeOver_38 : decode cX8_takeOver 38 = .ok (.putfield 7, 3) := by decide +kernel
theorem dX8_takeOver_41 : decode cX8_takeOver 41 = .ok (.return_, 1) := by decide +kernel
theorem dX9_init_0 : decode cX9_init 0 = .ok (.aload_n 0, 1) := by decide +kernel
theorem dX9_init_1 : decode cX9_init 1 = .ok (.invokespecial 3, 3) := by decide +kernel
theorem dX9_init_4 : decode cX9_init 4 = .ok (.aload_n 0, 1) := by decide +kernel
theorem dX9_init_5 : decode cX9_init 5 = .ok (.new 9, 3) := by decide +kernel
theorem dX9_init_8 : decode cX9_init 8 = .ok (.dup, 1) := by decide +kernel
theorem dX9_init_9 : decode cX9_init 9 = .ok (.iconst 1, 1) := by decide +kernel
theorem dX9_init_10 : decode cX9_init 10 = .ok (.bipush 100, 2) := by decide +kernel
theorem dX9_init_12 : decode cX9_init 12 = .ok (.invokespecial 11, 3) := by decide +kernel
theorem dX9_init_15 : decode cX9_init 15 = .ok (.putfield 14, 3) := by decide +kernel
theorem dX9_init_18 : decode cX9_init 18 = .ok (.aload_n 0, 1) := by decide +kernel
theorem dX9_init_19 : decode cX9_init 19 = .ok (.new 9, 3) := by decide +kernel
theorem dX9_init_22 : decode cX9_init 22 = .ok (.dup, 1) := by decide +kernel
theorem dX9_init_23 : decode cX9_init 23 = .ok (.bipush 8, 2) := by decide +kernel
theorem dX9_init_25 : decode cX9_init 25 = .ok (.iconst 4, 1) := by decide +kernel
theorem dX9_init_26 : decode cX9_init 26 = .ok (.invokespecial 11, 3) := by decide +kernel
theorem dX9_init_29 : decode cX9_init 29 = .ok (.putfield 20, 3) := by decide +kernel
theorem dX9_init_32 : decode cX9_init 32 = .ok (.aload_n 0, 1) := by decide +kernel
theorem dX9_init_33 : decode cX9_init 33 = .ok (.new 9, 3) := by decide +kernel
theorem dX9_init_36 : decode cX9_init 36 = .ok (.dup, 1) := by decide +kernel
theorem dX9_init_37 : decode cX9_init 37 = .ok (.iconst 1, 1) := by decide +kernel
theorem dX9_init_38 : decode cX9_init 38 = .ok (.iconst 5, 1) := by decide +kernel
theorem dX9_init_39 : decode cX9_init 39 = .ok (.invokespecial 11, 3) := by decide +kernel
theorem dX9_init_42 : decode cX9_init 42 = .ok (.putfield 23, 3) := by decide +kernel
theorem dX9_init_45 : decode cX9_init 45 = .ok (.aload_n 0, 1) := by decide +kernel
theorem dX9_init_46 : decode cX9_init 46 = .ok (.new 9, 3) := by decide +kernel
theorem dX9_init_49 : decode cX9_init 49 = .ok (.dup, 1) := by decide +kernel
theorem dX9_init_50 : decode cX9_init 50 = .ok (.iconst 5, 1) := by decide +kernel
theorem dX9_init_51 : decode cX9_init 51 = .ok (.bipush 6, 2) := by decide +kernel
theorem dX9_init_53 : decode cX9_init 53 = .ok (.invokespecial 11, 3) := by decide +kernel
theorem dX9_init_56 : decode cX9_init 56 = .ok (.putfield 26, 3) := by decide +kernel
theorem dX9_init_59 : decode cX9_init 59 = .ok (.aload_n 0, 1) := by decide +kernel
theorem dX9_init_60 : decode cX9_init 60 = .ok (.new 9, 3) := by decide +kernel
theorem dX9_init_63 : decode cX9_init 63 = .ok (.dup, 1) := by decide +kernel
theorem dX9_init_64 : decode cX9_init 64 = .ok (.iconst 3, 1) := by decide +kernel
theorem dX9_init_65 : decode cX9_init 65 = .ok (.bipush 6, 2) := by decide +kernel
theorem dX9_init_67 : decode cX9_init 67 = .ok (.invokespecial 11, 3) := by decide +kernel
theorem dX9_init_70 : decode cX9_init 70 = .ok (.putfield 29, 3) := by decide +kernel
theorem dX9_init_73 : decode cX9_init 73 = .ok (.aload_n 0, 1) := by decide +kernel
theorem dX9_init_74 : decode cX9_init 74 = .ok (.new 9, 3) := by decide +kernel
theorem dX9_init_77 : decode cX9_init 77 = .ok (.dup, 1) := by decide +kernel
theorem dX9_init_78 : decode cX9_init 78 = .ok (.iconst 1, 1) := by decide +kernel
theorem dX9_init_79 : decode cX9_init 79 = .ok (.bipush 6, 2) := by decide +kernel
theorem dX9_init_81 : decode cX9_init 81 = .ok (.invokespecial 11, 3) := by decide +kernel
theorem dX9_init_84 : decode cX9_init 84 = .ok (.putfield 32, 3) := by decide +kernel
theorem dX9_init_87 : decode cX9_init 87 = .ok (.aload_n 0, 1) := by decide +kernel
theorem dX9_init_88 : decode cX9_init 88 = .ok (.new 9, 3) := by decide +kernel
theorem dX9_init_91 : decode cX9_init 91 = .ok (.dup, 1) := by decide +kernel
theorem dX9_init_92 : decode cX9_init 92 = .ok (.iconst 2, 1) := by decide +kernel
theorem dX9_init_93 : decode cX9_init 93 = .ok (.bipush 8, 2) := by decide +kernel
theorem dX9_init_95 : decode cX9_init 95 = .ok (.invokespecial 11, 3) := by decide +kernel
theorem dX9_init_98 : decode cX9_init 98 = .ok (.putfield 35, 3) := by decide +kernel
theorem dX9_init_101 : decode cX9_init 101 = .ok (.aload_n 0, 1) := by decide +kernel
theorem dX9_init_102 : decode cX9_init 102 = .ok (.iconst 0, 1) := by decide +kernel
theorem dX9_init_103 : decode cX9_init 103 = .ok (.putfield 38, 3) := by decide +kernel
theorem dX9_init_106 : decode cX9_init 106 = .ok (.aload_n 0, 1) := by decide +kernel
theorem dX9_init_107 : decode cX9_init 107 = .ok (.aconst_null, 1) := by decide +kernel
theorem dX9_init_108 : decode cX9_init 108 = .ok (.putfield 42, 3) := by decide +kernel
theorem dX9_init_111 : decode cX9_init 111 = .ok (.aload_n 0, 1) := by decide +kernel
theorem dX9_init_112 : decode cX9_init 112 = .ok (.iconst 0, 1) := by decide +kernel
theorem dX9_init_113 : decode cX9_init 113 = .ok (.putfield 46, 3) := by decide +kernel
theorem dX9_init_116 : decode cX9_init 116 = .ok (.aload_n 0, 1) := by decide +kernel
theorem dX9_init_117 : decode cX9_init 117 = .ok (.bipush 6, 2) := by decide +kernel
theorem dX9_init_119 : decode cX9_init 119 = .ok (.newarray .int, 2) := by decide +kernel
theorem dX9_init_121 : decode cX9_init 121 = .ok (.putfield 49, 3) := by decide +kernel
theorem dX9_init_124 : decode cX9_init 124 = .ok (.return_, 1) := by decide +kernel
theorem dX9_takeOver_0 : decode cX9_takeOver 0 = .ok (.aload_n 0, 1) := by decide +kernel
theorem dX9_takeOver_1 : decode cX9_takeOver 1 = .ok (.getfield 14, 3) := by decide +kernel
theorem dX9_takeOver_4 : decode cX9_takeOver 4 = .ok (.aload_n 1, 1) := by decide +kernel
theorem dX9_takeOver_5 : decode cX9_takeOver 5 = .ok (.getfield 14, 3) := by decide +kernel
theorem dX9_takeOver_8 : decode cX9_takeOver 8 = .ok (.invokevirtual 53, 3) := by decide +kernel
theorem dX9_takeOver_11 : decode cX9_takeOver 11 = .ok (.aload_n 0, 1) := by decide +kernel
theorem dX9_takeOver_12 : decode cX9_takeOver 12 = .ok (.getfield 20, 3) := by decide +kernel
theorem dX9_takeOver_15 : decode cX9_takeOver 15 = .ok (.aload_n 1, 1) := by decide +kernel
theorem dX9_takeOver_16 : decode cX9_takeOver 16 = .ok (.getfield 20, 3) := by decide +kernel
theorem dX9_takeOver_19 : decode cX9_takeOver 19 = .ok (.invokevirtual 53, 3) := by decide +kernel
theorem dX9_takeOver_22 : decode cX9_takeOver 22 = .ok (.aload_n 0, 1) := by decide +kernel
theorem dX9_takeOver_23 : decode cX9_takeOver 23 = .ok (.getfield 23, 3) := by decide +kernel
theorem dX9_takeOver_26 : decode cX9_takeOver 26 = .ok (.aload_n 1, 1) := by decide +kernel
theorem dX9_takeOver_27 : decode cX9_takeOver 27 = .ok (.getfield 23, 3) := by decide +kernel
theorem dX9_takeOver_30 : decode cX9_takeOver 30 = .ok (.invokevirtual 53, 3) := by decide +kernel
theorem dX9_takeOver_33 : decode cX9_takeOver 33 = .ok (.aload_n 0, 1) := by decide +kernel
theorem dX9_takeOver_34 : decode cX9_takeOver 34 = .ok (.getfield 26, 3) := by decide +kernel
theorem dX9_takeOver_37 : decode cX9_takeOver 37 = .ok (.aload_n 1, 1) := by decide +kernel
theorem dX9_takeOver_38 : decode cX9_takeOver 38 = .ok (.getfield 26, 3) := by decide +kernel
theorem dX9_takeOver_41 : decode cX9_takeOver 41 = .ok (.invokevirtual 53, 3) := by decide +kernel
theorem dX9_takeOver_44 : decode cX9_takeOver 44 = .ok (.aload_n 0, 1) := by decide +kernel
theorem dX9_takeOver_45 : decode cX9_takeOver 45 = .ok (.getfield 29, 3) := by decide +kernel
theorem dX9_takeOver_48 : decode cX9_takeOver 48 = .ok (.aload_n 1, 1) := by decide +kernel
theorem dX9_takeOver_49 : decode cX9_takeOver 49 = .ok (.getfield 29, 3) := by decide +kernel
theorem dX9_takeOver_52 : decode cX9_takeOver 52 = .ok (.invokevirtual 53, 3) := by decide +kernel
theorem dX9_takeOver_55 : decode cX9_takeOver 55 = .ok (.aload_n 0, 1) := by decide +kernel
theorem dX9_takeOver_56 : decode cX9_takeOver 56 = .ok (.getfield 32, 3) := by decide +kernel
theorem dX9_takeOver_59 : decode cX9_takeOver 59 = .ok (.aload_n 1, 1) := by decide +kernel
theorem dX9_takeOver_60 : decode cX9_takeOver 60 = .ok (.getfield 32, 3) := by decide +kernel
theorem dX9_takeOver_63 : decode cX9_takeOver 63 = .ok (.invokevirtual 53, 3) := by decide +kernel
theorem dX9_takeOver_66 : decode cX9_takeOver 66 = .ok (.aload_n 0, 1) := by decide +kernel
theorem dX9_takeOver_67 : decode cX9_takeOver 67 = .ok (.getfield 35, 3) := by decide +kernel
theorem dX9_takeOver_70 : decode cX9_takeOver 70 = .ok (.aload_n 1, 1) := by decide +kernel
theorem dX9_takeOver_71 : decode cX9_takeOver 71 = .ok (.getfield 35, 3) := by decide +kernel
theorem dX9_takeOver_74 : decode cX9_takeOver 74 = .ok (.invokevirtual 53, 3) := by decide +kernel
theorem dX9_takeOver_77 : decode cX9_takeOver 77 = .ok (.aload_n 0, 1) := by decide +kernel
theorem dX9_takeOver_78 : decode cX9_takeOver 78 = .ok (.aload_n 1, 1) := by decide +kernel
theorem dX9_takeOver_79 : decode cX9_takeOver 79 = .ok (.getfield 38, 3) := by decide +kernel
theorem dX9_takeOver_82 : decode cX9_takeOver 82 = .ok (.putfield 38, 3) := by decide +kernel
theorem dX9_takeOver_85 : decode cX9_takeOver 85 = .ok (.aload_n 0, 1) := by decide +kernel
theorem dX9_takeOver_86 : decode cX9_takeOver 86 = .ok (.aload_n 1, 1) := by decide +kernel
theorem dX9_takeOver_87 : decode cX9_takeOver 87 = .ok (.getfield 42, 3) := by decide +kernel
theorem dX9_takeOver_90 : decode cX9_takeOver 90 = .ok (.putfield 42, 3) := by decide +kernel
theorem dX9_takeOver_93 : decode cX9_takeOver 93 = .ok (.aload_n 0, 1) := by decide +kernel
theorem dX9_takeOver_94 : decode cX9_takeOver 94 = .ok (.aload_n 1, 1) := by decide +kernel
theorem dX9_takeOver_95 : decode cX9_takeOver 95 = .ok (.getfield 46, 3) := by decide +kernel
theorem dX9_takeOver_98 : decode cX9_takeOver 98 = .ok (.putfield 46, 3) := by decide +kernel
theorem dX9_takeOver_101 : decode cX9_takeOver 101 = .ok (.return_, 1) := by decide +kernel
theorem dX9_top_0 : decode cX9_top 0 = .ok (.aload_n 0, 1) := by decide +kernel
theorem dX9_top_1 : decode cX9_top 1 = .ok (.getfield 42, 3) := by decide +kernel
theorem dX9_top_4 : decode cX9_top 4 = .ok (.ifnonnull 8, 3) := by decide +kernel
theorem dX9_top_7 : decode cX9_top 7 = .ok (.bipush (-5), 2) := by decide +kernel
theorem dX9_top_9 : decode cX9_top 9 = .ok (.goto 11, 3) := by decide +kernel
theorem dX9_top_12 : decode cX9_top 12 = .ok (.aload_n 0, 1) := by decide +kernel
theorem dX9_top_13 : decode cX9_top 13 = .ok (.getfield 42, 3) := by decide +kernel
theorem dX9_top_16 : decode cX9_top 16 = .ok (.iconst 0, 1) := by decide +kernel
theorem dX9_top_17 : decode cX9_top 17 = .ok (.invokevirtual 57, 3) := by decide +kernel
theorem dX9_top_20 : decode cX9_top 20 = .ok (.istore_n 1, 1) := by decide +kernel
theorem dX9_top_21 : decode cX9_top 21 = .ok (.iload_n 1, 1) := by decide +kernel
theorem dX9_top_22 : decode cX9_top 22 = .ok (.bipush (-5), 2) := by decide +kernel
theorem dX9_top_24 : decode cX9_top 24 = .ok (.if_icmp .ne 8, 3) := by decide +kernel
theorem dX9_top_27 : decode cX9_top 27 = .ok (.bipush 9, 2) := by decide +kernel
theorem dX9_top_29 : decode cX9_top 29 = .ok (.goto 13, 3) := by decide +kernel
theorem dX9_top_32 : decode cX9_top 32 = .ok (.iconst 1, 1) := by decide +kernel
theorem dX9_top_33 : decode cX9_top 33 = .ok (.bipush 9, 2) := by decide +kernel
theorem dX9_top_35 : decode cX9_top 35 = .ok (.iload_n 1, 1) := by decide +kernel
theorem dX9_top_36 : decode cX9_top 36 = .ok (.invokestatic 63, 3) := by decide +kernel
theorem dX9_top_39 : decode cX9_top 39 = .ok (.invokestatic 69, 3) := by decide +kernel
theorem dX9_top_42 : decode cX9_top 42 = .ok (.ireturn, 1) := by decide +kernel
theorem dX9_cheating_0 : decode cX9_cheating 0 = .ok (.aload_n 0, 1) := by decide +kernel
theorem dX9_cheating_1 : decode cX9_cheating 1 = .ok (.getfield 42, 3) := by decide +kernel
theorem dX9_cheating_4 : decode cX9_cheating 4 = .ok (.ifnonnull 8, 3) := by decide +kernel
theorem dX9_cheating_7 : decode cX9_cheating 7 = .ok (.bipush (-5), 2) := by decide +kernel
theorem dX9_cheating_9 : decode cX9_cheating 9 = .ok (.goto 11, 3) := by decide +kernel
theorem dX9_cheating_12 : decode cX9_cheating 12 = .ok (.aload_n 0, 1) := by decide +kernel
theorem dX9_cheating_13 : decode cX9_cheating 13 = .ok (.getfield 42, 3) := by decide +kernel
theorem dX9_cheating_16 : decode cX9_cheating 16 = .ok (.iconst 1, 1) := by decide +kernel
theorem dX9_cheating_17 : decode cX9_cheating 17 = .ok (.invokevirtual 57, 3) := by decide +kernel
theorem dX9_cheating_20 : decode cX9_cheating 20 = .ok (.istore_n 1, 1) := by decide +kernel
theorem dX9_cheating_21 : decode cX9_cheating 21 = .ok (.iload_n 1, 1) := by decide +kernel
theorem dX9_cheating_22 : decode cX9_cheating 22 = .ok (.bipush (-5), 2) := by decide +kernel
theorem dX9_cheating_24 : decode cX9_cheating 24 = .ok (.if_icmp .ne 7, 3) := by decide +kernel
theorem dX9_cheating_27 : decode cX9_cheating 27 = .ok (.iconst 0, 1) := by decide +kernel
theorem dX9_cheating_28 : decode cX9_cheating 28 = .ok (.goto 4, 3) := by decide +kernel
theorem dX9_cheating_31 : decode cX9_cheating 31 = .ok (.iload_n 1, 1) := by decide +kernel
theorem dX9_cheating_32 : decode cX9_cheating 32 = .ok (.ireturn, 1) := by decide +kernel
theorem dX9_worth_0 : decode cX9_worth 0 = .ok (.aload_n 0, 1) := by decide +kernel
theorem dX9_worth_1 : decode cX9_worth 1 = .ok (.iload_n 1, 1) := by decide +kernel
theorem dX9_worth_2 : decode cX9_worth 2 = .ok (.aload_n 0, 1) := by decide +kernel
theorem dX9_worth_3 : decode cX9_worth 3 = .ok (.getfield 20, 3) := by decide +kernel
theorem dX9_worth_6 : decode cX9_worth 6 = .ok (.iload_n 1, 1) := by decide +kernel
theorem dX9_worth_7 : decode cX9_worth 7 = .ok (.iconst 2, 1) := by decide +kernel
theorem dX9_worth_8 : decode cX9_worth 8 = .ok (.invokevirtual 72, 3) := by decide +kernel
theorem dX9_worth_11 : decode cX9_worth 11 = .ok (.invokevirtual 75, 3) := by decide +kernel
theorem dX9_worth_14 : decode cX9_worth 14 = .ok (.ireturn, 1) := by decide +kernel
theorem dX9_worthWith_0 : decode cX9_worthWith 0 = .ok (.aload_n 0, 1) := by decide +kernel
theorem dX9_worthWith_1 : decode cX9_worthWith 1 = .ok (.iload_n 1, 1) := by decide +kernel
theorem dX9_worthWith_2 : decode cX9_worthWith 2 = .ok (.iload_n 2, 1) := by decide +kernel
theorem dX9_worthWith_3 : decode cX9_worthWith 3 = .ok (.aload_n 0, 1) := by decide +kernel
theorem dX9_worthWith_4 : decode cX9_worthWith 4 = .ok (.getfield 20, 3) := by decide +kernel
theorem dX9_worthWith_7 : decode cX9_worthWith 7 = .ok (.iload_n 1, 1) := by decide +kernel
theorem dX9_worthWith_8 : decode cX9_worthWith 8 = .ok (.iconst 3, 1) := by decide +kernel
theorem dX9_worthWith_9 : decode cX9_worthWith 9 = .ok (.invokevirtual 72, 3) := by decide +kernel
theorem dX9_worthWith_12 : decode cX9_worthWith 12 = .ok (.aload_n 0, 1) := by decide +kernel
theorem dX9_worthWith_13 : decode cX9_worthWith 13 = .ok (.getfield 46, 3) := by decide +kernel
theorem dX9_worthWith_16 : decode cX9_worthWith 16 = .ok (.invokevirtual 78, 3) := by decide +kernel
theorem dX9_worthWith_19 : decode cX9_worthWith 19 = .ok (.ireturn, 1) := by decide +kernel
theorem dX9_worthAs_0 : decode cX9_worthAs 0 = .ok (.aload_n 0, 1) := by decide +kernel
theorem dX9_worthAs_1 : decode cX9_worthAs 1 = .ok (.iload_n 1, 1) := by decide +kernel
theorem dX9_worthAs_2 : decode cX9_worthAs 2 = .ok (.iload_n 2, 1) := by decide +kernel
theorem dX9_worthAs_3 : decode cX9_worthAs 3 = .ok (.iload_n 3, 1) := by decide +kernel
theorem dX9_worthAs_4 : decode cX9_worthAs 4 = .ok (.iload 4, 2) := by decide +kernel
theorem dX9_worthAs_6 : decode cX9_worthAs 6 = .ok (.invokevirtual 82, 3) := by decide +kernel
theorem dX9_worthAs_9 : decode cX9_worthAs 9 = .ok (.iconst 1, 1) := by decide +kernel
theorem dX9_worthAs_10 : decode cX9_worthAs 10 = .ok (.aload_n 0, 1) := by decide +kernel
theorem dX9_worthAs_11 : decode cX9_worthAs 11 = .ok (.getfield 42, 3) := by decide +kernel
theorem dX9_worthAs_14 : decode cX9_worthAs 14 = .ok (.ifnonnull 7, 3) := by decide +kernel
theorem dX9_worthAs_17 : decode cX9_worthAs 17 = .ok (.iload_n 2, 1) := by decide +kernel
theorem dX9_worthAs_18 : decode cX9_worthAs 18 = .ok (.goto 16, 3) := by decide +kernel
theorem dX9_worthAs_21 : decode cX9_worthAs 21 = .ok (.iload_n 2, 1) := by decide +kernel
theorem dX9_worthAs_22 : decode cX9_worthAs 22 = .ok (.aload_n 0, 1) := by decide +kernel
theorem dX9_worthAs_23 : decode cX9_worthAs 23 = .ok (.getfield 42, 3) := by decide +kernel
theorem dX9_worthAs_26 : decode cX9_worthAs 26 = .ok (.aload_n 0, 1) := by decide +kernel
theorem dX9_worthAs_27 : decode cX9_worthAs 27 = .ok (.getfield 49, 3) := by decide +kernel
theorem dX9_worthAs_30 : decode cX9_worthAs 30 = .ok (.invokevirtual 86, 3) := by decide +kernel
theorem dX9_worthAs_33 : decode cX9_worthAs 33 = .ok (.iadd, 1) := by decide +kernel
theorem dX9_worthAs_34 : decode cX9_worthAs 34 = .ok (.invokestatic 69, 3) := by decide +kernel
theorem dX9_worthAs_37 : decode cX9_worthAs 37 = .ok (.istore 5, 2) := by decide +kernel
theorem dX9_worthAs_39 : decode cX9_worthAs 39 = .ok (.aload_n 0, 1) := by decide +kernel
theorem dX9_worthAs_40 : decode cX9_worthAs 40 = .ok (.getfield 20, 3) := by decide +kernel
theorem dX9_worthAs_43 : decode cX9_worthAs 43 = .ok (.iload_n 1, 1) := by decide +kernel
theorem dX9_worthAs_44 : decode cX9_worthAs 44 = .ok (.iconst 1, 1) := by decide +kernel
theorem dX9_worthAs_45 : decode cX9_worthAs 45 = .ok (.invokevirtual 72, 3) := by decide +kernel
theorem dX9_worthAs_48 : decode cX9_worthAs 48 = .ok (.iconst 3, 1) := by decide +kernel
theorem dX9_worthAs_49 : decode cX9_worthAs 49 = .ok (.idiv, 1) := by decide +kernel
theorem dX9_worthAs_50 : decode cX9_worthAs 50 = .ok (.istore 6, 2) := by decide +kernel
theorem dX9_worthAs_52 : decode cX9_worthAs 52 = .ok (.iload 4, 2) := by decide +kernel
theorem dX9_worthAs_54 : decode cX9_worthAs 54 = .ok (.bipush 10, 2) := by decide +kernel
theorem dX9_worthAs_56 : decode cX9_worthAs 56 = .ok (.idiv, 1) := by decide +kernel
theorem dX9_worthAs_57 : decode cX9_worthAs 57 = .ok (.istore 7, 2) := by decide +kernel
theorem dX9_worthAs_59 : decode cX9_worthAs 59 = .ok (.aload_n 0, 1) := by decide +kernel
theorem dX9_worthAs_60 : decode cX9_worthAs 60 = .ok (.getfield 20, 3) := by decide +kernel
theorem dX9_worthAs_63 : decode cX9_worthAs 63 = .ok (.iload_n 1, 1) := by decide +kernel
theorem dX9_worthAs_64 : decode cX9_worthAs 64 = .ok (.iconst 0, 1) := by decide +kernel
theorem dX9_worthAs_65 : decode cX9_worthAs 65 = .ok (.invokevirtual 72, 3) := by decide +kernel
theorem dX9_worthAs_68 : decode cX9_worthAs 68 = .ok (.tableswitch 111 1 6 #[40, 46, 53, 61, 71, 88], 40) := by decide +kernel
theorem dX9_worthAs_108 : decode cX9_worthAs 108 = .ok (.iload 5, 2) := by decide +kernel
theorem dX9_worthAs_110 : decode cX9_worthAs 110 = .ok (.iload 6, 2) := by decide +kernel
theorem dX9_worthAs_112 : decode cX9_worthAs 112 = .ok (.iadd, 1) := by decide +kernel
theorem dX9_worthAs_113 : decode cX9_worthAs 113 = .ok (.ireturn, 1) := by decide +kernel
theorem dX9_worthAs_114 : decode cX9_worthAs 114 = .ok (.iload 5, 2) := by decide +kernel
theorem dX9_worthAs_116 : decode cX9_worthAs 116 = .ok (.iconst 1, 1) := by decide +kernel
theorem dX9_worthAs_117 : decode cX9_worthAs 117 = .ok (.invokestatic 90, 3) := by decide +kernel
theorem dX9_worthAs_120 : decode cX9_worthAs 120 = .ok (.ireturn, 1) := by decide +kernel
theorem dX9_worthAs_121 : decode cX9_worthAs 121 = .ok (.iload 5, 2) := by decide +kernel
theorem dX9_worthAs_123 : decode cX9_worthAs 123 = .ok (.iload 7, 2) := by decide +kernel
theorem dX9_worthAs_125 : decode cX9_worthAs 125 = .ok (.invokestatic 90, 3) := by decide +kernel
theorem dX9_worthAs_128 : decode cX9_worthAs 128 = .ok (.ireturn, 1) := by decide +kernel
theorem dX9_worthAs_129 : decode cX9_worthAs 129 = .ok (.iload 5, 2) := by decide +kernel
theorem dX9_worthAs_131 : decode cX9_worthAs 131 = .ok (.iload 6, 2) := by decide +kernel
theorem dX9_worthAs_133 : decode cX9_worthAs 133 = .ok (.iadd, 1) := by decide +kernel
theorem dX9_worthAs_134 : decode cX9_worthAs 134 = .ok (.iconst 2, 1) := by decide +kernel
theorem dX9_worthAs_135 : decode cX9_worthAs 135 = .ok (.invokestatic 90, 3) := by decide +kernel
theorem dX9_worthAs_138 : decode cX9_worthAs 138 = .ok (.ireturn, 1) := by decide +kernel
theorem dX9_worthAs_139 : decode cX9_worthAs 139 = .ok (.iload 4, 2) := by decide +kernel
theorem dX9_worthAs_141 : decode cX9_worthAs 141 = .ok (.iconst 5, 1) := by decide +kernel
theorem dX9_worthAs_142 : decode cX9_worthAs 142 = .ok (.if_icmp .lt 7, 3) := by decide +kernel
theorem dX9_worthAs_145 : decode cX9_worthAs 145 = .ok (.iconst 1, 1) := by decide +kernel
theorem dX9_worthAs_146 : decode cX9_worthAs 146 = .ok (.goto 9, 3) := by decide +kernel
theorem dX9_worthAs_149 : decode cX9_worthAs 149 = .ok (.iload 5, 2) := by decide +kernel
theorem dX9_worthAs_151 : decode cX9_worthAs 151 = .ok (.iconst 1, 1) := by decide +kernel
theorem dX9_worthAs_152 : decode cX9_worthAs 152 = .ok (.invokestatic 90, 3) := by decide +kernel
theorem dX9_worthAs_155 : decode cX9_worthAs 155 = .ok (.ireturn, 1) := by decide +kernel
theorem dX9_worthAs_156 : decode cX9_worthAs 156 = .ok (.iload 5, 2) := by decide +kernel
theorem dX9_worthAs_158 : decode cX9_worthAs 158 = .ok (.iload 7, 2) := by decide +kernel
theorem dX9_worthAs_160 : decode cX9_worthAs 160 = .ok (.invokestatic 90, 3) := by decide +kernel
theorem dX9_worthAs_163 : decode cX9_worthAs 163 = .ok (.aload_n 0, 1) := by decide +kernel
theorem dX9_worthAs_164 : decode cX9_worthAs 164 = .ok (.getfield 20, 3) := by decide +kernel
theorem dX9_worthAs_167 : decode cX9_worthAs 167 = .ok (.iload_n 1, 1) := by decide +kernel
theorem dX9_worthAs_168 : decode cX9_worthAs 168 = .ok (.iconst 4, 1) := by decide +kernel
theorem dX9_worthAs_169 : decode cX9_worthAs 169 = .ok (.iload 4, 2) := by decide +kernel
theorem dX9_worthAs_171 : decode cX9_worthAs 171 = .ok (.iconst 4, 1) := by decide +kernel
theorem dX9_worthAs_172 : decode cX9_worthAs 172 = .ok (.irem, 1) := by decide +kernel
theorem dX9_worthAs_173 : decode cX9_worthAs 173 = .ok (.iadd, 1) := by decide +kernel
theorem dX9_worthAs_174 : decode cX9_worthAs 174 = .ok (.invokevirtual 72, 3) := by decide +kernel
theorem dX9_worthAs_177 : decode cX9_worthAs 177 = .ok (.iadd, 1) := by decide +kernel
theorem dX9_worthAs_178 : decode cX9_worthAs 178 = .ok (.ireturn, 1) := by decide +kernel
theorem dX9_worthAs_179 : decode cX9_worthAs 179 = .ok (.iload 5, 2) := by decide +kernel
theorem dX9_worthAs_181 : decode cX9_worthAs 181 = .ok (.ireturn, 1) := by decide +kernel
theorem dX9_lookAt_0 : decode cX9_lookAt 0 = .ok (.aload_n 0, 1) := by decide +kernel
theorem dX9_lookAt_1 : decode cX9_lookAt 1 = .ok (.getfield 49, 3) := by decide +kernel
theorem dX9_lookAt_4 : decode cX9_lookAt 4 = .ok (.iconst 0, 1) := by decide +kernel
theorem dX9_lookAt_5 : decode cX9_lookAt 5 = .ok (.iload_n 1, 1) := by decide +kernel
theorem dX9_lookAt_6 : decode cX9_lookAt 6 = .ok (.iastore, 1) := by decide +kernel
theorem dX9_lookAt_7 : decode cX9_lookAt 7 = .ok (.aload_n 0, 1) := by decide +kernel
theorem dX9_lookAt_8 : decode cX9_lookAt 8 = .ok (.getfield 49, 3) := by decide +kernel
theorem dX9_lookAt_11 : decode cX9_lookAt 11 = .ok (.iconst 1, 1) := by decide +kernel
theorem dX9_lookAt_12 : decode cX9_lookAt 12 = .ok (.aload_n 0, 1) := by decide +kernel
theorem dX9_lookAt_13 : decode cX9_lookAt 13 = .ok (.getfield 20, 3) := by decide +kernel
theorem dX9_lookAt_16 : decode cX9_lookAt 16 = .ok (.iload_n 1, 1) := by decide +kernel
theorem dX9_lookAt_17 : decode cX9_lookAt 17 = .ok (.iconst 0, 1) := by decide +kernel
theorem dX9_lookAt_18 : decode cX9_lookAt 18 = .ok (.invokevirtual 72, 3) := by decide +kernel
theorem dX9_lookAt_21 : decode cX9_lookAt 21 = .ok (.iastore, 1) := by decide +kernel
theorem dX9_lookAt_22 : decode cX9_lookAt 22 = .ok (.aload_n 0, 1) := by decide +kernel
theorem dX9_lookAt_23 : decode cX9_lookAt 23 = .ok (.getfield 49, 3) := by decide +kernel
theorem dX9_lookAt_26 : decode cX9_lookAt 26 = .ok (.iconst 2, 1) := by decide +kernel
theorem dX9_lookAt_27 : decode cX9_lookAt 27 = .ok (.aload_n 0, 1) := by decide +kernel
theorem dX9_lookAt_28 : decode cX9_lookAt 28 = .ok (.getfield 20, 3) := by decide +kernel
theorem dX9_lookAt_31 : decode cX9_lookAt 31 = .ok (.iload_n 1, 1) := by decide +kernel
theorem dX9_lookAt_32 : decode cX9_lookAt 32 = .ok (.iconst 1, 1) := by decide +kernel
theorem dX9_lookAt_33 : decode cX9_lookAt 33 = .ok (.invokevirtual 72, 3) := by decide +kernel
theorem dX9_lookAt_36 : decode cX9_lookAt 36 = .ok (.iastore, 1) := by decide +kernel
theorem dX9_lookAt_37 : decode cX9_lookAt 37 = .ok (.aload_n 0, 1) := by decide +kernel
theorem dX9_lookAt_38 : decode cX9_lookAt 38 = .ok (.getfield 49, 3) := by decide +kernel
theorem dX9_lookAt_41 : decode cX9_lookAt 41 = .ok (.iconst 3, 1) := by decide +kernel
theorem dX9_lookAt_42 : decode cX9_lookAt 42 = .ok (.iload_n 2, 1) := by decide +kernel
theorem dX9_lookAt_43 : decode cX9_lookAt 43 = .ok (.iastore, 1) := by decide +kernel
theorem dX9_lookAt_44 : decode cX9_lookAt 44 = .ok (.aload_n 0, 1) := by decide +kernel
theorem dX9_lookAt_45 : decode cX9_lookAt 45 = .ok (.getfield 49, 3) := by decide +kernel
theorem dX9_lookAt_48 : decode cX9_lookAt 48 = .ok (.iconst 4, 1) := by decide +kernel
theorem dX9_lookAt_49 : decode cX9_lookAt 49 = .ok (.iload 4, 2) := by decide +kernel
theorem dX9_lookAt_51 : decode cX9_lookAt 51 = .ok (.bipush 10, 2) := by decide +kernel
theorem dX9_lookAt_53 : decode cX9_lookAt 53 = .ok (.irem, 1) := by decide +kernel
theorem dX9_lookAt_54 : decode cX9_lookAt 54 = .ok (.iastore, 1) := by decide +kernel
theorem dX9_lookAt_55 : decode cX9_lookAt 55 = .ok (.aload_n 0, 1) := by decide +kernel
theorem dX9_lookAt_56 : decode cX9_lookAt 56 = .ok (.getfield 49, 3) := by decide +kernel
theorem dX9_lookAt_59 : decode cX9_lookAt 59 = .ok (.iconst 5, 1) := by decide +kernel
theorem dX9_lookAt_60 : decode cX9_lookAt 60 = .ok (.iload_n 3, 1) := by decide +kernel
theorem dX9_lookAt_61 : decode cX9_lookAt 61 = .ok (.iastore, 1) := by decide +kernel
theorem dX9_lookAt_62 : decode cX9_lookAt 62 = .ok (.return_, 1) := by decide +kernel
theorem dX9_less_0 : decode cX9_less 0 = .ok (.iconst 1, 1) := by decide +kernel
theorem dX9_less_1 : decode cX9_less 1 = .ok (.iload_n 0, 1) := by decide +kernel
theorem dX9_less_2 : decode cX9_less 2 = .ok (.iload_n 1, 1) := by decide +kernel
theorem dX9_less_3 : decode cX9_less 3 = .ok (.isub, 1) := by decide +kernel
theorem dX9_less_4 : decode cX9_less 4 = .ok (.invokestatic 69, 3) := by decide +kernel
theorem dX9_less_7 : decode cX9_less 7 = .ok (.ireturn, 1) := by decide +kernel
theorem dX10_init_0 : decode cX10_init 0 = .ok (.aload_n 0, 1) := by decide +kernel
theorem dX10_init_1 : decode cX10_init 1 = .ok (.invokespecial 3, 3) := by decide +kernel
theorem dX10_init_4 : decode cX10_init 4 = .ok (.aload_n 0, 1) := by decide +kernel
theorem dX10_init_5 : decode cX10_init 5 = .ok (.new 9, 3) := by decide +kernel
theorem dX10_init_8 : decode cX10_init 8 = .ok (.dup, 1) := by decide +kernel
theorem dX10_init_9 : decode cX10_init 9 = .ok (.invokespecial 11, 3) := by decide +kernel
theorem dX10_init_12 : decode cX10_init 12 = .ok (.putfield 12, 3) := by decide +kernel
theorem dX10_init_15 : decode cX10_init 15 = .ok (.aload_n 0, 1) := by decide +kernel
theorem dX10_init_16 : decode cX10_init 16 = .ok (.new 9, 3) := by decide +kernel
theorem dX10_init_19 : decode cX10_init 19 = .ok (.dup, 1) := by decide +kernel
theorem dX10_init_20 : decode cX10_init 20 = .ok (.invokespecial 11, 3) := by decide +kernel
theorem dX10_init_23 : decode cX10_init 23 = .ok (.putfield 18, 3) := by decide +kernel
theorem dX10_init_26 : decode cX10_init 26 = .ok (.aload_n 0, 1) := by decide +kernel
theorem dX10_init_27 : decode cX10_init 27 = .ok (.iconst 0, 1) := by decide +kernel
theorem dX10_init_28 : decode cX10_init 28 = .ok (.putfield 21, 3) := by decide +kernel
theorem dX10_init_31 : decode cX10_init 31 = .ok (.aload_n 0, 1) := by decide +kernel
theorem dX10_init_32 : decode cX10_init 32 = .ok (.new 25, 3) := by decide +kernel
theorem dX10_init_35 : decode cX10_init 35 = .ok (.dup, 1) := by decide +kernel
theorem dX10_init_36 : decode cX10_init 36 = .ok (.aload_n 0, 1) := by decide +kernel
theorem dX10_init_37 : decode cX10_init 37 = .ok (.getfield 12, 3) := by decide +kernel
theorem dX10_init_40 : decode cX10_init 40 = .ok (.getfield 27, 3) := by decide +kernel
theorem dX10_init_43 : decode cX10_init 43 = .ok (.invokespecial 31, 3) := by decide +kernel
theorem dX10_init_46 : decode cX10_init 46 = .ok (.putfield 34, 3) := by decide +kernel
theorem dX10_init_49 : decode cX10_init 49 = .ok (.aload_n 0, 1) := by decide +kernel
theorem dX10_init_50 : decode cX10_init 50 = .ok (.new 38, 3) := by decide +kernel
theorem dX10_init_53 : decode cX10_init 53 = .ok (.dup, 1) := by decide +kernel
theorem dX10_init_54 : decode cX10_init 54 = .ok (.aload_n 0, 1) := by decide +kernel
theorem dX10_init_55 : decode cX10_init 55 = .ok (.getfield 12, 3) := by decide +kernel
theorem dX10_init_58 : decode cX10_init 58 = .ok (.invokespecial 40, 3) := by decide +kernel
theorem dX10_init_61 : decode cX10_init 61 = .ok (.putfield 43, 3) := by decide +kernel
theorem dX10_init_64 : decode cX10_init 64 = .ok (.aload_n 0, 1) := by decide +kernel
theorem dX10_init_65 : decode cX10_init 65 = .ok (.new 47, 3) := by decide +kernel
theorem dX10_init_68 : decode cX10_init 68 = .ok (.dup, 1) := by decide +kernel
theorem dX10_init_69 : decode cX10_init 69 = .ok (.aload_n 0, 1) := by decide +kernel
theorem dX10_init_70 : decode cX10_init 70 = .ok (.getfield 12, 3) := by decide +kernel
theorem dX10_init_73 : decode cX10_init 73 = .ok (.invokespecial 49, 3) := by decide +kernel
theorem dX10_init_76 : decode cX10_init 76 = .ok (.putfield 50, 3) := by decide +kernel
theorem dX10_init_79 : decode cX10_init 79 = .ok (.aload_n 0, 1) := by decide +kernel
theorem dX10_init_80 : decode cX10_init 80 = .ok (.new 54, 3) := by decide +kernel
theorem dX10_init_83 : decode cX10_init 83 = .ok (.dup, 1) := by decide +kernel
theorem dX10_init_84 : decode cX10_init 84 = .ok (.aload_n 0, 1) := by decide +kernel
theorem dX10_init_85 : decode cX10_init 85 = .ok (.getfield 12, 3) := by decide +kernel
theorem dX10_init_88 : decode cX10_init 88 = .ok (.getfield 56, 3) := by decide +kernel
theorem dX10_init_91 : decode cX10_init 91 = .ok (.invokespecial 59, 3) := by decide +kernel
theorem dX10_init_94 : decode cX10_init 94 = .ok (.putfield 60, 3) := by decide +kernel
theorem dX10_init_97 : decode cX10_init 97 = .ok (.aload_n 0, 1) := by decide +kernel
theorem dX10_init_98 : decode cX10_init 98 = .ok (.new 64, 3) := by decide +kernel
theorem dX10_init_101 : decode cX10_init 101 = .ok (.dup, 1) := by decide +kernel
theorem dX10_init_102 : decode cX10_init 102 = .ok (.invokespecial 66, 3) := by decide +kernel
theorem dX10_init_105 : decode cX10_init 105 = .ok (.putfield 67, 3) := by decide +kernel
theorem dX10_init_108 : decode cX10_init 108 = .ok (.return_, 1) := by decide +kernel
theorem dX10_feed_0 : decode cX10_feed 0 = .ok (.iload_n 1, 1) := by decide +kernel
theorem dX10_feed_1 : decode cX10_feed 1 = .ok (.iconst 0, 1) := by decide +kernel
theorem dX10_feed_2 : decode cX10_feed 2 = .ok (.bipush 127, 2) := by decide +kernel
theorem dX10_feed_4 : decode cX10_feed 4 = .ok (.invokestatic 71, 3) := by decide +kernel
theorem dX10_feed_7 : decode cX10_feed 7 = .ok (.ifCond .eq 6, 3) := by decide +kernel
theorem dX10_feed_10 : decode cX10_feed 10 = .ok (.bipush (-2), 2) := by decide +kernel
theorem dX10_feed_12 : decode cX10_feed 12 = .ok (.ireturn, 1) := by decide +kernel
theorem dX10_feed_13 : decode cX10_feed 13 = .ok (.aload_n 0, 1) := by decide +kernel
theorem dX10_feed_14 : decode cX10_feed 14 = .ok (.getfield 12, 3) := by decide +kernel
theorem dX10_feed_17 : decode cX10_feed 17 = .ok (.getfield 27, 3) := by decide +kernel
theorem dX10_feed_20 : decode cX10_feed 20 = .ok (.invokevirtual 75, 3) := by decide +kernel
theorem dX10_feed_23 : decode cX10_feed 23 = .ok (.ifCond .eq 6, 3) := by decide +kernel
theorem dX10_feed_26 : decode cX10_feed 26 = .ok (.bipush (-4), 2) := by decide +kernel
theorem dX10_feed_28 : decode cX10_feed 28 = .ok (.ireturn, 1) := by decide +kernel
theorem dX10_feed_29 : decode cX10_feed 29 = .ok (.aload_n 0, 1) := by decide +kernel
theorem dX10_feed_30 : decode cX10_feed 30 = .ok (.getfield 12, 3) := by decide +kernel
theorem dX10_feed_33 : decode cX10_feed 33 = .ok (.getfield 27, 3) := by decide +kernel
theorem dX10_feed_36 : decode cX10_feed 36 = .ok (.aload_n 0, 1) := by decide +kernel
theorem dX10_feed_37 : decode cX10_feed 37 = .ok (.getfield 12, 3) := by decide +kernel
theorem dX10_feed_40 : decode cX10_feed 40 = .ok (.getfield 27, 3) := by decide +kernel
theorem dX10_feed_43 : decode cX10_feed 43 = .ok (.invokevirtual 81, 3) := by decide +kernel
theorem dX10_feed_46 : decode cX10_feed 46 = .ok (.iconst 0, 1) := by decide +kernel
theorem dX10_feed_47 : decode cX10_feed 47 = .ok (.iload_n 1, 1) := by decide +kernel
theorem dX10_feed_48 : decode cX10_feed 48 = .ok (.invokevirtual 85, 3) := by decide +kernel
theorem dX10_feed_51 : decode cX10_feed 51 = .ok (.pop, 1) := by decide +kernel
theorem dX10_feed_52 : decode cX10_feed 52 = .ok (.aload_n 0, 1) := by decide +kernel
theorem dX10_feed_53 : decode cX10_feed 53 = .ok (.getfield 12, 3) := by decide +kernel
theorem dX10_feed_56 : decode cX10_feed 56 = .ok (.getfield 27, 3) := by decide +kernel
theorem dX10_feed_59 : decode cX10_feed 59 = .ok (.invokevirtual 89, 3) := by decide +kernel
theorem dX10_feed_62 : decode cX10_feed 62 = .ok (.ireturn, 1) := by decide +kernel
theorem dX10_land_0 : decode cX10_land 0 = .ok (.aload_n 0, 1) := by decide +kernel
theorem dX10_land_1 : decode cX10_land 1 = .ok (.getfield 12, 3) := by decide +kernel
theorem dX10_land_4 : decode cX10_land 4 = .ok (.getfield 92, 3) := by decide +kernel
theorem dX10_land_7 : decode cX10_land 7 = .ok (.iconst 5, 1) := by decide +kernel
theorem dX10_land_8 : decode cX10_land 8 = .ok (.if_icmp .lt 6, 3) := by decide +kernel
theorem dX10_land_11 : decode cX10_land 11 = .ok (.bipush (-4), 2) := by decide +kernel
theorem dX10_land_13 : decode cX10_land 13 = .ok (.ireturn, 1) := by decide +kernel
theorem dX10_land_14 : decode cX10_land 14 = .ok (.aload_n 0, 1) := by decide +kernel
theorem dX10_land_15 : decode cX10_land 15 = .ok (.getfield 34, 3) := by decide +kernel
theorem dX10_land_18 : decode cX10_land 18 = .ok (.invokevirtual 96, 3) := by decide +kernel
theorem dX10_land_21 : decode cX10_land 21 = .ok (.astore_n 1, 1) := by decide +kernel
theorem dX10_land_22 : decode cX10_land 22 = .ok (.aload_n 0, 1) := by decide +kernel
theorem dX10_land_23 : decode cX10_land 23 = .ok (.getfield 12, 3) := by decide +kernel
theorem dX10_land_26 : decode cX10_land 26 = .ok (.getfield 27, 3) := by decide +kernel
theorem dX10_land_29 : decode cX10_land 29 = .ok (.invokevirtual 100, 3) := by decide +kernel
theorem dX10_land_32 : decode cX10_land 32 = .ok (.aload_n 1, 1) := by decide +kernel
theorem dX10_land_33 : decode cX10_land 33 = .ok (.ifnonnull 14, 3) := by decide +kernel
theorem dX10_land_36 : decode cX10_land 36 = .ok (.bipush (-10), 2) := by decide +kernel
theorem dX10_land_38 : decode cX10_land 38 = .ok (.aload_n 0, 1) := by decide +kernel
theorem dX10_land_39 : decode cX10_land 39 = .ok (.getfield 34, 3) := by decide +kernel
theorem dX10_land_42 : decode cX10_land 42 = .ok (.invokevirtual 103, 3) := by decide +kernel
theorem dX10_land_45 : decode cX10_land 45 = .ok (.isub, 1) := by decide +kernel
theorem dX10_land_46 : decode cX10_land 46 = .ok (.ireturn, 1) := by decide +kernel
theorem dX10_land_47 : decode cX10_land 47 = .ok (.aload_n 0, 1) := by decide +kernel
theorem dX10_land_48 : decode cX10_land 48 = .ok (.getfield 12, 3) := by decide +kernel
theorem dX10_land_51 : decode cX10_land 51 = .ok (.aload_n 1, 1) := by decide +kernel
theorem dX10_land_52 : decode cX10_land 52 = .ok (.putfield 106, 3) := by decide +kernel
theorem dX10_land_55 : decode cX10_land 55 = .ok (.aload_n 0, 1) := by decide +kernel
theorem dX10_land_56 : decode cX10_land 56 = .ok (.getfield 12, 3) := by decide +kernel
theorem dX10_land_59 : decode cX10_land 59 = .ok (.dup, 1) := by decide +kernel
theorem dX10_land_60 : decode cX10_land 60 = .ok (.getfield 92, 3) := by decide +kernel
theorem dX10_land_63 : decode cX10_land 63 = .ok (.iconst 1, 1) := by decide +kernel
theorem dX10_land_64 : decode cX10_land 64 = .ok (.iadd, 1) := by decide +kernel
theorem dX10_land_65 : decode cX10_land 65 = .ok (.putfield 92, 3) := by decide +kernel
theorem dX10_land_68 : decode cX10_land 68 = .ok (.aload_n 0, 1) := by decide +kernel
theorem dX10_land_69 : decode cX10_land 69 = .ok (.getfield 12, 3) := by decide +kernel
theorem dX10_land_72 : decode cX10_land 72 = .ok (.getfield 92, 3) := by decide +kernel
theorem dX10_land_75 : decode cX10_land 75 = .ok (.iconst 1, 1) := by decide +kernel
theorem dX10_land_76 : decode cX10_land 76 = .ok (.isub, 1) := by decide +kernel
theorem dX10_land_77 : decode cX10_land 77 = .ok (.ireturn, 1) := by decide +kernel
theorem dX10_coin_0 : decode cX10_coin 0 = .ok (.iload_n 1, 1) := by decide +kernel
theorem dX10_coin_1 : decode cX10_coin 1 = .ok (.iconst 0, 1) := by decide +kernel
theorem dX10_coin_2 : decode cX10_coin 2 = .ok (.bipush 6, 2) := by decide +kernel
theorem dX10_coin_4 : decode cX10_coin 4 = .ok (.invokestatic 71, 3) := by decide +kernel
theorem dX10_coin_7 : decode cX10_coin 7 = .ok (.ifCond .eq 5, 3) := by decide +kernel
theorem dX10_coin_10 : decode cX10_coin 10 = .ok (.iconst (-1), 1) := by decide +kernel
theorem dX10_coin_11 : decode cX10_coin 11 = .ok (.ireturn, 1) := by decide +kernel
theorem dX10_coin_12 : decode cX10_coin 12 = .ok (.iload_n 2, 1) := by decide +kernel
theorem dX10_coin_13 : decode cX10_coin 13 = .ok (.iconst 0, 1) := by decide +kernel
theorem dX10_coin_14 : decode cX10_coin 14 = .ok (.bipush 9, 2) := by decide +kernel
theorem dX10_coin_16 : decode cX10_coin 16 = .ok (.invokestatic 71, 3) := by decide +kernel
theorem dX10_coin_19 : decode cX10_coin 19 = .ok (.ifCond .ne 24, 3) := by decide +kernel
theorem dX10_coin_22 : decode cX10_coin 22 = .ok (.iload_n 3, 1) := by decide +kernel
theorem dX10_coin_23 : decode cX10_coin 23 = .ok (.iconst 1, 1) := by decide +kernel
theorem dX10_coin_24 : decode cX10_coin 24 = .ok (.bipush 9, 2) := by decide +kernel
theorem dX10_coin_26 : decode cX10_coin 26 = .ok (.invokestatic 71, 3) := by decide +kernel
theorem dX10_coin_29 : decode cX10_coin 29 = .ok (.ifCond .ne 14, 3) := by decide +kernel
theorem dX10_coin_32 : decode cX10_coin 32 = .ok (.iload 4, 2) := by decide +kernel
theorem dX10_coin_34 : decode cX10_coin 34 = .ok (.iconst 0, 1) := by decide +kernel
theorem dX10_coin_35 : decode cX10_coin 35 = .ok (.bipush 9, 2) := by decide +kernel
theorem dX10_coin_37 : decode cX10_coin 37 = .ok (.invokestatic 71, 3) := by decide +kernel
theorem dX10_coin_40 : decode cX10_coin 40 = .ok (.ifCond .eq 6, 3) := by decide +kernel
theorem dX10_coin_43 : decode cX10_coin 43 = .ok (.bipush (-2), 2) := by decide +kernel
theorem dX10_coin_45 : decode cX10_coin 45 = .ok (.ireturn, 1) := by decide +kernel
theorem dX10_coin_46 : decode cX10_coin 46 = .ok (.aload_n 0, 1) := by decide +kernel
theorem dX10_coin_47 : decode cX10_coin 47 = .ok (.getfield 12, 3) := by decide +kernel
theorem dX10_coin_50 : decode cX10_coin 50 = .ok (.getfield 110, 3) := by decide +kernel
theorem dX10_coin_53 : decode cX10_coin 53 = .ok (.invokevirtual 75, 3) := by decide +kernel
theorem dX10_coin_56 : decode cX10_coin 56 = .ok (.ifCond .eq 6, 3) := by decide +kernel
theorem dX10_coin_59 : decode cX10_coin 59 = .ok (.bipush (-4), 2) := by decide +kernel
theorem dX10_coin_61 : decode cX10_coin 61 = .ok (.ireturn, 1) := by decide +kernel
theorem dX10_coin_62 : decode cX10_coin 62 = .ok (.aload_n 0, 1) := by decide +kernel
theorem dX10_coin_63 : decode cX10_coin 63 = .ok (.getfield 12, 3) := by decide +kernel
theorem dX10_coin_66 : decode cX10_coin 66 = .ok (.getfield 110, 3) := by decide +kernel
theorem dX10_coin_69 : decode cX10_coin 69 = .ok (.invokevirtual 81, 3) := by decide +kernel
theorem dX10_coin_72 : decode cX10_coin 72 = .ok (.istore 5, 2) := by decide +kernel
theorem dX10_coin_74 : decode cX10_coin 74 = .ok (.aload_n 0, 1) := by decide +kernel
theorem dX10_coin_75 : decode cX10_coin 75 = .ok (.getfield 12, 3) := by decide +kernel
theorem dX10_coin_78 : decode cX10_coin 78 = .ok (.getfield 110, 3) := by decide +kernel
theorem dX10_coin_81 : decode cX10_coin 81 = .ok (.iload 5, 2) := by decide +kernel
theorem dX10_coin_83 : decode cX10_coin 83 = .ok (.iconst 0, 1) := by decide +kernel
theorem dX10_coin_84 : decode cX10_coin 84 = .ok (.iload_n 1, 1) := by decide +kernel
theorem dX10_coin_85 : decode cX10_coin 85 = .ok (.invokevirtual 85, 3) := by decide +kernel
theorem dX10_coin_88 : decode cX10_coin 88 = .ok (.pop, 1) := by decide +kernel
theorem dX10_coin_89 : decode cX10_coin 89 = .ok (.aload_n 0, 1) := by decide +kernel
theorem dX10_coin_90 : decode cX10_coin 90 = .ok (.getfield 12, 3) := by decide +kernel
theorem dX10_coin_93 : decode cX10_coin 93 = .ok (.getfield 110, 3) := by decide +kernel
theorem dX10_coin_96 : decode cX10_coin 96 = .ok (.iload 5, 2) := by decide +kernel
theorem dX10_coin_98 : decode cX10_coin 98 = .ok (.iconst 1, 1) := by decide +kernel
theorem dX10_coin_99 : decode cX10_coin 99 = .ok (.iload_n 2, 1) := by decide +kernel
theorem dX10_coin_100 : decode cX10_coin 100 = .ok (.invokevirtual 85, 3) := by decide +kernel
theorem dX10_coin_103 : decode cX10_coin 103 = .ok (.pop, 1) := by decide +kernel
theorem dX10_coin_104 : decode cX10_coin 104 = .ok (.aload_n 0, 1) := by decide +kernel
theorem dX10_coin_105 : decode cX10_coin 105 = .ok (.getfield 12, 3) := by decide +kernel
theorem dX10_coin_108 : decode cX10_coin 108 = .ok (.getfield 110, 3) := by decide +kernel
theorem dX10_coin_111 : decode cX10_coin 111 = .ok (.iload 5, 2) := by decide +kernel
theorem dX10_coin_113 : decode cX10_coin 113 = .ok (.iconst 2, 1) := by decide +kernel
theorem dX10_coin_114 : decode cX10_coin 114 = .ok (.iload_n 3, 1) := by decide +kernel
theorem dX10_coin_115 : decode cX10_coin 115 = .ok (.invokevirtual 85, 3) := by decide +kernel
theorem dX10_coin_118 : decode cX10_coin 118 = .ok (.pop, 1) := by decide +kernel
theorem dX10_coin_119 : decode cX10_coin 119 = .ok (.aload_n 0, 1) := by decide +kernel
theorem dX10_coin_120 : decode cX10_coin 120 = .ok (.getfield 12, 3) := by decide +kernel
theorem dX10_coin_123 : decode cX10_coin 123 = .ok (.getfield 110, 3) := by decide +kernel
theorem dX10_coin_126 : decode cX10_coin 126 = .ok (.iload 5, 2) := by decide +kernel
theorem dX10_coin_128 : decode cX10_coin 128 = .ok (.iconst 3, 1) := by decide +kernel
theorem dX10_coin_129 : decode cX10_coin 129 = .ok (.iload 4, 2) := by decide +kernel
theorem dX10_coin_131 : decode cX10_coin 131 = .ok (.invokevirtual 85, 3) := by decide +kernel
theorem dX10_coin_134 : decode cX10_coin 134 = .ok (.pop, 1) := by decide +kernel
theorem dX10_coin_135 : decode cX10_coin 135 = .ok (.iload 5, 2) := by decide +kernel
theorem dX10_coin_137 : decode cX10_coin 137 = .ok (.ireturn, 1) := by decide +kernel
theorem dX10_of_0 : decode cX10_of 0 = .ok (.aload_n 0, 1) := by decide +kernel
theorem dX10_of_1 : decode cX10_of 1 = .ok (.getfield 12, 3) := by decide +kernel
theorem dX10_of_4 : decode cX10_of 4 = .ok (.getfield 110, 3) := by decide +kernel
theorem dX10_of_7 : decode cX10_of 7 = .ok (.iload_n 1, 1) := by decide +kernel
theorem dX10_of_8 : decode cX10_of 8 = .ok (.invokevirtual 113, 3) := by decide +kernel
theorem dX10_of_11 : decode cX10_of 11 = .ok (.ifCond .ne 5, 3) := by decide +kernel
theorem dX10_of_14 : decode cX10_of 14 = .ok (.iconst (-1), 1) := by decide +kernel
theorem dX10_of_15 : decode cX10_of 15 = .ok (.ireturn, 1) := by decide +kernel
theorem dX10_of_16 : decode cX10_of 16 = .ok (.iload_n 2, 1) := by decide +kernel
theorem dX10_of_17 : decode cX10_of 17 = .ok (.iconst 4, 1) := by decide +kernel
theorem dX10_of_18 : decode cX10_of 18 = .ok (.if_icmp .ne 12, 3) := by decide +kernel
theorem dX10_of_21 : decode cX10_of 21 = .ok (.aload_n 0, 1) := by decide +kernel
theorem dX10_of_22 : decode cX10_of 22 = .ok (.getfield 12, 3) := by decide +kernel
theorem dX10_of_25 : decode cX10_of 25 = .ok (.iload_n 1, 1) := by decide +kernel
theorem dX10_of_26 : decode cX10_of 26 = .ok (.invokevirtual 117, 3) := by decide +kernel
theorem dX10_of_29 : decode cX10_of 29 = .ok (.ireturn, 1) := by decide +kernel
theorem dX10_of_30 : decode cX10_of 30 = .ok (.iload_n 2, 1) := by decide +kernel
theorem dX10_of_31 : decode cX10_of 31 = .ok (.bipush 10, 2) := by decide +kernel
theorem dX10_of_33 : decode cX10_of 33 = .ok (.if_icmp .le 22, 3) := by decide +kernel
theorem dX10_of_36 : decode cX10_of 36 = .ok (.iload_n 2, 1) := by decide +kernel
theorem dX10_of_37 : decode cX10_of 37 = .ok (.bipush 19, 2) := by decide +kernel
theorem dX10_of_39 : decode cX10_of 39 = .ok (.if_icmp .gt 16, 3) := by decide +kernel
theorem dX10_of_42 : decode cX10_of 42 = .ok (.aload_n 0, 1) := by decide +kernel
theorem dX10_of_43 : decode cX10_of 43 = .ok (.getfield 12, 3) := by decide +kernel
theorem dX10_of_46 : decode cX10_of 46 = .ok (.iload_n 1, 1) := by decide +kernel
theorem dX10_of_47 : decode cX10_of 47 = .ok (.iload_n 2, 1) := by decide +kernel
theorem dX10_of_48 : decode cX10_of 48 = .ok (.bipush 10, 2) := by decide +kernel
theorem dX10_of_50 : decode cX10_of 50 = .ok (.isub, 1) := by decide +kernel
theorem dX10_of_51 : decode cX10_of 51 = .ok (.invokevirtual 121, 3) := by decide +kernel
theorem dX10_of_54 : decode cX10_of 54 = .ok (.ireturn, 1) := by decide +kernel
theorem dX10_of_55 : decode cX10_of 55 = .ok (.iload_n 2, 1) := by decide +kernel
theorem dX10_of_56 : decode cX10_of 56 = .ok (.iconst 0, 1) := by decide +kernel
theorem dX10_of_57 : decode cX10_of 57 = .ok (.iconst 3, 1) := by decide +kernel
theorem dX10_of_58 : decode cX10_of 58 = .ok (.invokestatic 71, 3) := by decide +kernel
theorem dX10_of_61 : decode cX10_of 61 = .ok (.ifCond .eq 7, 3) := by decide +kernel
theorem dX10_of_64 : decode cX10_of 64 = .ok (.iconst (-1), 1) := by decide +kernel
theorem dX10_of_65 : decode cX10_of 65 = .ok (.goto 15, 3) := by decide +kernel
theorem dX10_of_68 : decode cX10_of 68 = .ok (.aload_n 0, 1) := by decide +kernel
theorem dX10_of_69 : decode cX10_of 69 = .ok (.getfield 12, 3) := by decide +kernel
theorem dX10_of_72 : decode cX10_of 72 = .ok (.getfield 110, 3) := by decide +kernel
theorem dX10_of_75 : decode cX10_of 75 = .ok (.iload_n 1, 1) := by decide +kernel
theorem dX10_of_76 : decode cX10_of 76 = .ok (.iload_n 2, 1) := by decide +kernel
theorem dX10_of_77 : decode cX10_of 77 = .ok (.invokevirtual 125, 3) := by decide +kernel
theorem dX10_of_80 : decode cX10_of 80 = .ok (.ireturn, 1) := by decide +kernel
theorem dX10_row_0 : decode cX10_row 0 = .ok (.aload_n 0, 1) := by decide +kernel
theorem dX10_row_1 : decode cX10_row 1 = .ok (.getfield 12, 3) := by decide +kernel
theorem dX10_row_4 : decode cX10_row 4 = .ok (.getfield 110, 3) := by decide +kernel
theorem dX10_row_7 : decode cX10_row 7 = .ok (.iload_n 1, 1) := by decide +kernel
theorem dX10_row_8 : decode cX10_row 8 = .ok (.invokevirtual 113, 3) := by decide +kernel
theorem dX10_row_11 : decode cX10_row 11 = .ok (.ifCond .eq 12, 3) := by decide +kernel
theorem dX10_row_14 : decode cX10_row 14 = .ok (.iload_n 2, 1) := by decide +kernel
theorem dX10_row_15 : decode cX10_row 15 = .ok (.iconst 0, 1) := by decide +kernel
theorem dX10_row_16 : decode cX10_row 16 = .ok (.iconst 3, 1) := by decide +kernel
theorem dX10_row_17 : decode cX10_row 17 = .ok (.invokestatic 71, 3) := by decide +kernel
theorem dX10_row_20 : decode cX10_row 20 = .ok (.ifCond .eq 5, 3) := by decide +kernel
theorem dX10_row_23 : decode cX10_row 23 = .ok (.iconst (-1), 1) := by decide +kernel
theorem dX10_row_24 : decode cX10_row 24 = .ok (.ireturn, 1) := by decide +kernel
theorem dX10_row_25 : decode cX10_row 25 = .ok (.iload_n 3, 1) := by decide +kernel
theorem dX10_row_26 : decode cX10_row 26 = .ok (.iconst 0, 1) := by decide +kernel
theorem dX10_row_27 : decode cX10_row 27 = .ok (.bipush 9, 2) := by decide +kernel
theorem dX10_row_29 : decode cX10_row 29 = .ok (.invokestatic 71, 3) := by decide +kernel
theorem dX10_row_32 : decode cX10_row 32 = .ok (.ifCond .eq 6, 3) := by decide +kernel
theorem dX10_row_35 : decode cX10_row 35 = .ok (.bipush (-2), 2) := by decide +kernel
theorem dX10_row_37 : decode cX10_row 37 = .ok (.ireturn, 1) := by decide +kernel
theorem dX10_row_38 : decode cX10_row 38 = .ok (.aload_n 0, 1) := by decide +kernel
theorem dX10_row_39 : decode cX10_row 39 = .ok (.getfield 12, 3) := by decide +kernel
theorem dX10_row_42 : decode cX10_row 42 = .ok (.getfield 110, 3) := by decide +kernel
theorem dX10_row_45 : decode cX10_row 45 = .ok (.iload_n 1, 1) := by decide +kernel
theorem dX10_row_46 : decode cX10_row 46 = .ok (.iconst 0, 1) := by decide +kernel
theorem dX10_row_47 : decode cX10_row 47 = .ok (.invokevirtual 125, 3) := by decide +kernel
theorem dX10_row_50 : decode cX10_row 50 = .ok (.bipush 6, 2) := by decide +kernel
theorem dX10_row_52 : decode cX10_row 52 = .ok (.if_icmp .eq 6, 3) := by decide +kernel
theorem dX10_row_55 : decode cX10_row 55 = .ok (.bipush (-3), 2) := by decide +kernel
theorem dX10_row_57 : decode cX10_row 57 = .ok (.ireturn, 1) := by decide +kernel
theorem dX10_row_58 : decode cX10_row 58 = .ok (.aload_n 0, 1) := by decide +kernel
theorem dX10_row_59 : decode cX10_row 59 = .ok (.getfield 12, 3) := by decide +kernel
theorem dX10_row_62 : decode cX10_row 62 = .ok (.getfield 110, 3) := by decide +kernel
theorem dX10_row_65 : decode cX10_row 65 = .ok (.iload_n 1, 1) := by decide +kernel
theorem dX10_row_66 : decode cX10_row 66 = .ok (.iconst 4, 1) := by decide +kernel
theorem dX10_row_67 : decode cX10_row 67 = .ok (.iload_n 2, 1) := by decide +kernel
theorem dX10_row_68 : decode cX10_row 68 = .ok (.iadd, 1) := by decide +kernel
theorem dX10_row_69 : decode cX10_row 69 = .ok (.iload_n 3, 1) := by decide +kernel
theorem dX10_row_70 : decode cX10_row 70 = .ok (.invokevirtual 85, 3) := by decide +kernel
theorem dX10_row_73 : decode cX10_row 73 = .ok (.ireturn, 1) := by decide +kernel
theorem dX10_set_0 : decode cX10_set 0 = .ok (.aload_n 0, 1) := by decide +kernel
theorem dX10_set_1 : decode cX10_set 1 = .ok (.getfield 12, 3) := by decide +kernel
theorem dX10_set_4 : decode cX10_set 4 = .ok (.getfield 110, 3) := by decide +kernel
theorem dX10_set_7 : decode cX10_set 7 = .ok (.iload_n 1, 1) := by decide +kernel
theorem dX10_set_8 : decode cX10_set 8 = .ok (.invokevirtual 113, 3) := by decide +kernel
theorem dX10_set_11 : decode cX10_set 11 = .ok (.ifCond .eq 12, 3) := by decide +kernel
theorem dX10_set_14 : decode cX10_set 14 = .ok (.iload_n 2, 1) := by decide +kernel
theorem dX10_set_15 : decode cX10_set 15 = .ok (.iconst 0, 1) := by decide +kernel
theorem dX10_set_16 : decode cX10_set 16 = .ok (.iconst 1, 1) := by decide +kernel
theorem dX10_set_17 : decode cX10_set 17 = .ok (.invokestatic 71, 3) := by decide +kernel
theorem dX10_set_20 : decode cX10_set 20 = .ok (.ifCond .eq 5, 3) := by decide +kernel
theorem dX10_set_23 : decode cX10_set 23 = .ok (.iconst (-1), 1) := by decide +kernel
theorem dX10_set_24 : decode cX10_set 24 = .ok (.ireturn, 1) := by decide +kernel
theorem dX10_set_25 : decode cX10_set 25 = .ok (.iload_n 3, 1) := by decide +kernel
theorem dX10_set_26 : decode cX10_set 26 = .ok (.iload_n 2, 1) := by decide +kernel
theorem dX10_set_27 : decode cX10_set 27 = .ok (.ifCond .ne 7, 3) := by decide +kernel
theorem dX10_set_30 : decode cX10_set 30 = .ok (.iconst 1, 1) := by decide +kernel
theorem dX10_set_31 : decode cX10_set 31 = .ok (.goto 4, 3) := by decide +kernel
theorem dX10_set_34 : decode cX10_set 34 = .ok (.iconst 0, 1) := by decide +kernel
theorem dX10_set_35 : decode cX10_set 35 = .ok (.bipush 9, 2) := by decide +kernel
theorem dX10_set_37 : decode cX10_set 37 = .ok (.invokestatic 71, 3) := by decide +kernel
theorem dX10_set_40 : decode cX10_set 40 = .ok (.ifCond .eq 6, 3) := by decide +kernel
theorem dX10_set_43 : decode cX10_set 43 = .ok (.bipush (-2), 2) := by decide +kernel
theorem dX10_set_45 : decode cX10_set 45 = .ok (.ireturn, 1) := by decide +kernel
theorem dX10_set_46 : decode cX10_set 46 = .ok (.aload_n 0, 1) := by decide +kernel
theorem dX10_set_47 : decode cX10_set 47 = .ok (.getfield 12, 3) := by decide +kernel
theorem dX10_set_50 : decode cX10_set 50 = .ok (.getfield 110, 3) := by decide +kernel
theorem dX10_set_53 : decode cX10_set 53 = .ok (.iload_n 1, 1) := by decide +kernel
theorem dX10_set_54 : decode cX10_set 54 = .ok (.iload_n 2, 1) := by decide +kernel
theorem dX10_set_55 : decode cX10_set 55 = .ok (.ifCond .ne 7, 3) := by decide +kernel
theorem dX10_set_58 : decode cX10_set 58 = .ok (.iconst 2, 1) := by decide +kernel
theorem dX10_set_59 : decode cX10_set 59 = .ok (.goto 4, 3) := by decide +kernel
theorem dX10_set_62 : decode cX10_set 62 = .ok (.iconst 3, 1) := by decide +kernel
theorem dX10_set_63 : decode cX10_set 63 = .ok (.iload_n 3, 1) := by decide +kernel
theorem dX10_set_64 : decode cX10_set 64 = .ok (.invokevirtual 85, 3) := by decide +kernel
theorem dX10_set_67 : decode cX10_set 67 = .ok (.ireturn, 1) := by decide +kernel
theorem dX10_ware_0 : decode cX10_ware 0 = .ok (.iload_n 1, 1) := by decide +kernel
theorem dX10_ware_1 : decode cX10_ware 1 = .ok (.iconst 1, 1) := by decide +kernel
theorem dX10_ware_2 : decode cX10_ware 2 = .ok (.bipush 60, 2) := by decide +kernel
theorem dX10_ware_4 : decode cX10_ware 4 = .ok (.invokestatic 71, 3) := by decide +kernel
theorem dX10_ware_7 : decode cX10_ware 7 = .ok (.ifCond .eq 6, 3) := by decide +kernel
theorem dX10_ware_10 : decode cX10_ware 10 = .ok (.bipush (-2), 2) := by decide +kernel
theorem dX10_ware_12 : decode cX10_ware 12 = .ok (.ireturn, 1) := by decide +kernel
theorem dX10_ware_13 : decode cX10_ware 13 = .ok (.aload_n 0, 1) := by decide +kernel
theorem dX10_ware_14 : decode cX10_ware 14 = .ok (.getfield 12, 3) := by decide +kernel
theorem dX10_ware_17 : decode cX10_ware 17 = .ok (.getfield 56, 3) := by decide +kernel
theorem dX10_ware_20 : decode cX10_ware 20 = .ok (.invokevirtual 75, 3) := by decide +kernel
theorem dX10_ware_23 : decode cX10_ware 23 = .ok (.ifCond .eq 6, 3) := by decide +kernel
theorem dX10_ware_26 : decode cX10_ware 26 = .ok (.bipush (-4), 2) := by decide +kernel
theorem dX10_ware_28 : decode cX10_ware 28 = .ok (.ireturn, 1) := by decide +kernel
theorem dX10_ware_29 : decode cX10_ware 29 = .ok (.aload_n 0, 1) := by decide +kernel
theorem dX10_ware_30 : decode cX10_ware 30 = .ok (.getfield 12, 3) := by decide +kernel
theorem dX10_ware_33 : decode cX10_ware 33 = .ok (.getfield 56, 3) := by decide +kernel
theorem dX10_ware_36 : decode cX10_ware 36 = .ok (.invokevirtual 81, 3) := by decide +kernel
theorem dX10_ware_39 : decode cX10_ware 39 = .ok (.istore_n 2, 1) := by decide +kernel
theorem dX10_ware_40 : decode cX10_ware 40 = .ok (.aload_n 0, 1) := by decide +kernel
theorem dX10_ware_41 : decode cX10_ware 41 = .ok (.getfield 12, 3) := by decide +kernel
theorem dX10_ware_44 : decode cX10_ware 44 = .ok (.getfield 56, 3) := by decide +kernel
theorem dX10_ware_47 : decode cX10_ware 47 = .ok (.iload_n 2, 1) := by decide +kernel
theorem dX10_ware_48 : decode cX10_ware 48 = .ok (.iconst 0, 1) := by decide +kernel
theorem dX10_ware_49 : decode cX10_ware 49 = .ok (.iload_n 1, 1) := by decide +kernel
theorem dX10_ware_50 : decode cX10_ware 50 = .ok (.invokevirtual 85, 3) := by decide +kernel
theorem dX10_ware_53 : decode cX10_ware 53 = .ok (.pop, 1) := by decide +kernel
theorem dX10_ware_54 : decode cX10_ware 54 = .ok (.iload_n 2, 1) := by decide +kernel
theorem dX10_ware_55 : decode cX10_ware 55 = .ok (.ireturn, 1) := by decide +kernel
theorem dX10_pass_0 : decode cX10_pass 0 = .ok (.iload_n 1, 1) := by decide +kernel
theorem dX10_pass_1 : decode cX10_pass 1 = .ok (.iconst 0, 1) := by decide +kernel
theorem dX10_pass_2 : decode cX10_pass 2 = .ok (.bipush 60, 2) := by decide +kernel
theorem dX10_pass_4 : decode cX10_pass 4 = .ok (.invokestatic 71, 3) := by decide +kernel
theorem dX10_pass_7 : decode cX10_pass 7 = .ok (.ifCond .eq 6, 3) := by decide +kernel
theorem dX10_pass_10 : decode cX10_pass 10 = .ok (.bipush (-2), 2) := by decide +kernel
theorem dX10_pass_12 : decode cX10_pass 12 = .ok (.ireturn, 1) := by decide +kernel
theorem dX10_pass_13 : decode cX10_pass 13 = .ok (.aload_n 0, 1) := by decide +kernel
theorem dX10_pass_14 : decode cX10_pass 14 = .ok (.getfield 12, 3) := by decide +kernel
theorem dX10_pass_17 : decode cX10_pass 17 = .ok (.getfield 128, 3) := by decide +kernel
theorem dX10_pass_20 : decode cX10_pass 20 = .ok (.iload_n 1, 1) := by decide +kernel
theorem dX10_pass_21 : decode cX10_pass 21 = .ok (.iadd, 1) := by decide +kernel
theorem dX10_pass_22 : decode cX10_pass 22 = .ok (.sipush 9999, 3) := by decide +kernel
theorem dX10_pass_25 : decode cX10_pass 25 = .ok (.if_icmp .le 6, 3) := by decide +kernel
theorem dX10_pass_28 : decode cX10_pass 28 = .ok (.bipush (-3), 2) := by decide +kernel
theorem dX10_pass_30 : decode cX10_pass 30 = .ok (.ireturn, 1) := by decide +kernel
theorem dX10_pass_31 : decode cX10_pass 31 = .ok (.aload_n 0, 1) := by decide +kernel
theorem dX10_pass_32 : decode cX10_pass 32 = .ok (.getfield 12, 3) := by decide +kernel
theorem dX10_pass_35 : decode cX10_pass 35 = .ok (.dup, 1) := by decide +kernel
theorem dX10_pass_36 : decode cX10_pass 36 = .ok (.getfield 128, 3) := by decide +kernel
theorem dX10_pass_39 : decode cX10_pass 39 = .ok (.iload_n 1, 1) := by decide +kernel
theorem dX10_pass_40 : decode cX10_pass 40 = .ok (.iadd, 1) := by decide +kernel
theorem dX10_pass_41 : decode cX10_pass 41 = .ok (.putfield 128, 3) := by decide +kernel
theorem dX10_pass_44 : decode cX10_pass 44 = .ok (.aload_n 0, 1) := by decide +kernel
theorem dX10_pass_45 : decode cX10_pass 45 = .ok (.getfield 12, 3) := by decide +kernel
theorem dX10_pass_48 : decode cX10_pass 48 = .ok (.getfield 128, 3) := by decide +kernel
theorem dX10_pass_51 : decode cX10_pass 51 = .ok (.ireturn, 1) := by decide +kernel
theorem dX10_told_0 : decode cX10_told 0 = .ok (.iload_n 1, 1) := by decide +kernel
theorem dX10_told_1 : decode cX10_told 1 = .ok (.tableswitch 70 0 3 #[31, 39, 47, 55], 31) := by decide +kernel
theorem dX10_told_32 : decode cX10_told 32 = .ok (.aload_n 0, 1) := by decide +kernel
theorem dX10_told_33 : decode cX10_told 33 = .ok (.getfield 12, 3) := by decide +kernel
theorem dX10_told_36 : decode cX10_told 36 = .ok (.getfield 128, 3) := by decide +kernel
theorem dX10_told_39 : decode cX10_told 39 = .ok (.ireturn, 1) := by decide +kernel
theorem dX10_told_40 : decode cX10_told 40 = .ok (.aload_n 0, 1) := by decide +kernel
theorem dX10_told_41 : decode cX10_told 41 = .ok (.getfield 12, 3) := by decide +kernel
theorem dX10_told_44 : decode cX10_told 44 = .ok (.invokevirtual 131, 3) := by decide +kernel
theorem dX10_told_47 : decode cX10_told 47 = .ok (.ireturn, 1) := by decide +kernel
theorem dX10_told_48 : decode cX10_told 48 = .ok (.aload_n 0, 1) := by decide +kernel
theorem dX10_told_49 : decode cX10_told 49 = .ok (.getfield 12, 3) := by decide +kernel
theorem dX10_told_52 : decode cX10_told 52 = .ok (.invokevirtual 134, 3) := by decide +kernel
theorem dX10_told_55 : decode cX10_told 55 = .ok (.ireturn, 1) := by decide +kernel
theorem dX10_told_56 : decode cX10_told 56 = .ok (.aload_n 0, 1) := by decide +kernel
theorem dX10_told_57 : decode cX10_told 57 = .ok (.getfield 50, 3) := by decide +kernel
theorem dX10_told_60 : decode cX10_told 60 = .ok (.invokevirtual 137, 3) := by decide +kernel
theorem dX10_told_63 : decode cX10_told 63 = .ok (.aload_n 0, 1) := by decide +kernel
theorem dX10_told_64 : decode cX10_told 64 = .ok (.getfield 50, 3) := by decide +kernel
theorem dX10_told_67 : decode cX10_told 67 = .ok (.invokevirtual 140, 3) := by decide +kernel
theorem dX10_told_70 : decode cX10_told 70 = .ok (.ireturn, 1) := by decide +kernel
theorem dX10_told_71 : decode cX10_told 71 = .ok (.iload_n 1, 1) := by decide +kernel
theorem dX10_told_72 : decode cX10_told 72 = .ok (.bipush 10, 2) := by decide +kernel
theorem dX10_told_74 : decode cX10_told 74 = .ok (.if_icmp .lt 38, 3) := by decide +kernel
theorem dX10_told_77 : decode cX10_told 77 = .ok (.aload_n 0, 1) := by decide +kernel
theorem dX10_told_78 : decode cX10_told 78 = .ok (.getfield 12, 3) := by decide +kernel
theorem dX10_told_81 : decode cX10_told 81 = .ok (.getfield 56, 3) := by decide +kernel
theorem dX10_told_84 : decode cX10_told 84 = .ok (.iload_n 1, 1) := by decide +kernel
theorem dX10_told_85 : decode cX10_told 85 = .ok (.bipush 10, 2) := by decide +kernel
theorem dX10_told_87 : decode cX10_told 87 = .ok (.isub, 1) := by decide +kernel
theorem dX10_told_88 : decode cX10_told 88 = .ok (.invokevirtual 113, 3) := by decide +kernel
theorem dX10_told_91 : decode cX10_told 91 = .ok (.ifCond .eq 21, 3) := by decide +kernel
theorem dX10_told_94 : decode cX10_told 94 = .ok (.aload_n 0, 1) := by decide +kernel
theorem dX10_told_95 : decode cX10_told 95 = .ok (.getfield 12, 3) := by decide +kernel
theorem dX10_told_98 : decode cX10_told 98 = .ok (.getfield 56, 3) := by decide +kernel
theorem dX10_told_101 : decode cX10_told 101 = .ok (.iload_n 1, 1) := by decide +kernel
theorem dX10_told_102 : decode cX10_told 102 = .ok (.bipush 10, 2) := by decide +kernel
theorem dX10_told_104 : decode cX10_told 104 = .ok (.isub, 1) := by decide +kernel
theorem dX10_told_105 : decode cX10_told 105 = .ok (.iconst 0, 1) := by decide +kernel
theorem dX10_told_106 : decode cX10_told 106 = .ok (.invokevirtual 125, 3) := by decide +kernel
theorem dX10_told_109 : decode cX10_told 109 = .ok (.goto 4, 3) := by decide +kernel
theorem dX10_told_112 : decode cX10_told 112 = .ok (.iconst (-1), 1) := by decide +kernel
theorem dX10_told_113 : decode cX10_told 113 = .ok (.ireturn, 1) := by decide +kernel
theorem dX10_buy_0 : decode cX10_buy 0 = .ok (.iload_n 1, 1) := by decide +kernel
theorem dX10_buy_1 : decode cX10_buy 1 = .ok (.iconst (-1), 1) := by decide +kernel
theorem dX10_buy_2 : decode cX10_buy 2 = .ok (.if_icmp .ne 15, 3) := by decide +kernel
theorem dX10_buy_5 : decode cX10_buy 5 = .ok (.aload_n 0, 1) := by decide +kernel
theorem dX10_buy_6 : decode cX10_buy 6 = .ok (.getfield 12, 3) := by decide +kernel
theorem dX10_buy_9 : decode cX10_buy 9 = .ok (.getfield 143, 3) := by decide +kernel
theorem dX10_buy_12 : decode cX10_buy 12 = .ok (.invokevirtual 100, 3) := by decide +kernel
theorem dX10_buy_15 : decode cX10_buy 15 = .ok (.iconst 0, 1) := by decide +kernel
theorem dX10_buy_16 : decode cX10_buy 16 = .ok (.ireturn, 1) := by decide +kernel
theorem dX10_buy_17 : decode cX10_buy 17 = .ok (.iload_n 1, 1) := by decide +kernel
theorem dX10_buy_18 : decode cX10_buy 18 = .ok (.iconst 0, 1) := by decide +kernel
theorem dX10_buy_19 : decode cX10_buy 19 = .ok (.bipush 99, 2) := by decide +kernel
theorem dX10_buy_21 : decode cX10_buy 21 = .ok (.invokestatic 71, 3) := by decide +kernel
theorem dX10_buy_24 : decode cX10_buy 24 = .ok (.ifCond .ne 41, 3) := by decide +kernel
theorem dX10_buy_27 : decode cX10_buy 27 = .ok (.aload_n 0, 1) := by decide +kernel
theorem dX10_buy_28 : decode cX10_buy 28 = .ok (.iconst 0, 1) := by decide +kernel
theorem dX10_buy_29 : decode cX10_buy 29 = .ok (.iload_n 2, 1) := by decide +kernel
theorem dX10_buy_30 : decode cX10_buy 30 = .ok (.invokevirtual 146, 3) := by decide +kernel
theorem dX10_buy_33 : decode cX10_buy 33 = .ok (.ifCond .eq 32, 3) := by decide +kernel
theorem dX10_buy_36 : decode cX10_buy 36 = .ok (.aload_n 0, 1) := by decide +kernel
theorem dX10_buy_37 : decode cX10_buy 37 = .ok (.iconst 1, 1) := by decide +kernel
theorem dX10_buy_38 : decode cX10_buy 38 = .ok (.iload_n 3, 1) := by decide +kernel
theorem dX10_buy_39 : decode cX10_buy 39 = .ok (.invokevirtual 146, 3) := by decide +kernel
theorem dX10_buy_42 : decode cX10_buy 42 = .ok (.ifCond .eq 23, 3) := by decide +kernel
theorem dX10_buy_45 : decode cX10_buy 45 = .ok (.aload_n 0, 1) := by decide +kernel
theorem dX10_buy_46 : decode cX10_buy 46 = .ok (.iconst 2, 1) := by decide +kernel
theorem dX10_buy_47 : decode cX10_buy 47 = .ok (.iload 4, 2) := by decide +kernel
theorem dX10_buy_49 : decode cX10_buy 49 = .ok (.invokevirtual 146, 3) := by decide +kernel
theorem dX10_buy_52 : decode cX10_buy 52 = .ok (.ifCond .eq 13, 3) := by decide +kernel
theorem dX10_buy_55 : decode cX10_buy 55 = .ok (.aload_n 0, 1) := by decide +kernel
theorem dX10_buy_56 : decode cX10_buy 56 = .ok (.iconst 3, 1) := by decide +kernel
theorem dX10_buy_57 : decode cX10_buy 57 = .ok (.iload 5, 2) := by decide +kernel
theorem dX10_buy_59 : decode cX10_buy 59 = .ok (.invokevirtual 146, 3) := by decide +kernel
theorem dX10_buy_62 : decode cX10_buy 62 = .ok (.ifCond .ne 6, 3) := by decide +kernel
theorem dX10_buy_65 : decode cX10_buy 65 = .ok (.bipush (-2), 2) := by decide +kernel
theorem dX10_buy_67 : decode cX10_buy 67 = .ok (.ireturn, 1) := by decide +kernel
theorem dX10_buy_68 : decode cX10_buy 68 = .ok (.aload_n 0, 1) := by decide +kernel
theorem dX10_buy_69 : decode cX10_buy 69 = .ok (.getfield 12, 3) := by decide +kernel
theorem dX10_buy_72 : decode cX10_buy 72 = .ok (.getfield 143, 3) := by decide +kernel
theorem dX10_buy_75 : decode cX10_buy 75 = .ok (.invokevirtual 75, 3) := by decide +kernel
theorem dX10_buy_78 : decode cX10_buy 78 = .ok (.ifCond .eq 6, 3) := by decide +kernel
theorem dX10_buy_81 : decode cX10_buy 81 = .ok (.bipush (-4), 2) := by decide +kernel
theorem dX10_buy_83 : decode cX10_buy 83 = .ok (.ireturn, 1) := by decide +kernel
theorem dX10_buy_84 : decode cX10_buy 84 = .ok (.aload_n 0, 1) := by decide +kernel
theorem dX10_buy_85 : decode cX10_buy 85 = .ok (.getfield 12, 3) := by decide +kernel
theorem dX10_buy_88 : decode cX10_buy 88 = .ok (.getfield 143, 3) := by decide +kernel
theorem dX10_buy_91 : decode cX10_buy 91 = .ok (.invokevirtual 81, 3) := by decide +kernel
theorem dX10_buy_94 : decode cX10_buy 94 = .ok (.istore 6, 2) := by decide +kernel
theorem dX10_buy_96 : decode cX10_buy 96 = .ok (.aload_n 0, 1) := by decide +kernel
theorem dX10_buy_97 : decode cX10_buy 97 = .ok (.getfield 12, 3) := by decide +kernel
theorem dX10_buy_100 : decode cX10_buy 100 = .ok (.getfield 143, 3) := by decide +kernel
theorem dX10_buy_103 : decode cX10_buy 103 = .ok (.iload 6, 2) := by decide +kernel
theorem dX10_buy_105 : decode cX10_buy 105 = .ok (.iconst 0, 1) := by decide +kernel
theorem dX10_buy_106 : decode cX10_buy 106 = .ok (.iload_n 1, 1) := by decide +kernel
theorem dX10_buy_107 : decode cX10_buy 107 = .ok (.invokevirtual 85, 3) := by decide +kernel
theorem dX10_buy_110 : decode cX10_buy 110 = .ok (.pop, 1) := by decide +kernel
theorem dX10_buy_111 : decode cX10_buy 111 = .ok (.aload_n 0, 1) := by decide +kernel
theorem dX10_buy_112 : decode cX10_buy 112 = .ok (.getfield 12, 3) := by decide +kernel
theorem dX10_buy_115 : decode cX10_buy 115 = .ok (.getfield 143, 3) := by decide +kernel
theorem dX10_buy_118 : decode cX10_buy 118 = .ok (.iload 6, 2) := by decide +kernel
theorem dX10_buy_120 : decode cX10_buy 120 = .ok (.iconst 1, 1) := by decide +kernel
theorem dX10_buy_121 : decode cX10_buy 121 = .ok (.iload_n 2, 1) := by decide +kernel
theorem dX10_buy_122 : decode cX10_buy 122 = .ok (.invokevirtual 85, 3) := by decide +kernel
theorem dX10_buy_125 : decode cX10_buy 125 = .ok (.pop, 1) := by decide +kernel
theorem dX10_buy_126 : decode cX10_buy 126 = .ok (.aload_n 0, 1) := by decide +kernel
theorem dX10_buy_127 : decode cX10_buy 127 = .ok (.getfield 12, 3) := by decide +kernel
theorem dX10_buy_130 : decode cX10_buy 130 = .ok (.getfield 143, 3) := by decide +kernel
theorem dX10_buy_133 : decode cX10_buy 133 = .ok (.iload 6, 2) := by decide +kernel
theorem dX10_buy_135 : decode cX10_buy 135 = .ok (.iconst 2, 1) := by decide +kernel
theorem dX10_buy_136 : decode cX10_buy 136 = .ok (.iload_n 3, 1) := by decide +kernel
theorem dX10_buy_137 : decode cX10_buy 137 = .ok (.invokevirtual 85, 3) := by decide +kernel
theorem dX10_buy_140 : decode cX10_buy 140 = .ok (.pop, 1) := by decide +kernel
theorem dX10_buy_141 : decode cX10_buy 141 = .ok (.aload_n 0, 1) := by decide +kernel
theorem dX10_buy_142 : decode cX10_buy 142 = .ok (.getfield 12, 3) := by decide +kernel
theorem dX10_buy_145 : decode cX10_buy 145 = .ok (.getfield 143, 3) := by decide +kernel
theorem dX10_buy_148 : decode cX10_buy 148 = .ok (.iload 6, 2) := by decide +kernel
theorem dX10_buy_150 : decode cX10_buy 150 = .ok (.iconst 3, 1) := by decide +kernel
theorem dX10_buy_151 : decode cX10_buy 151 = .ok (.iload 4, 2) := by decide +kernel
theorem dX10_buy_153 : decode cX10_buy 153 = .ok (.invokevirtual 85, 3) := by decide +kernel
theorem dX10_buy_156 : decode cX10_buy 156 = .ok (.pop, 1) := by decide +kernel
theorem dX10_buy_157 : decode cX10_buy 157 = .ok (.aload_n 0, 1) := by decide +kernel
theorem dX10_buy_158 : decode cX10_buy 158 = .ok (.getfield 12, 3) := by decide +kernel
theorem dX10_buy_161 : decode cX10_buy 161 = .ok (.getfield 143, 3) := by decide +kernel
theorem dX10_buy_164 : decode cX10_buy 164 = .ok (.iload 6, 2) := by decide +kernel
theorem dX10_buy_166 : decode cX10_buy 166 = .ok (.iconst 4, 1) := by decide +kernel
theorem dX10_buy_167 : decode cX10_buy 167 = .ok (.iload 5, 2) := by decide +kernel
theorem dX10_buy_169 : decode cX10_buy 169 = .ok (.invokevirtual 85, 3) := by decide +kernel
theorem dX10_buy_172 : decode cX10_buy 172 = .ok (.pop, 1) := by decide +kernel
theorem dX10_buy_173 : decode cX10_buy 173 = .ok (.aload_n 0, 1) := by decide +kernel
theorem dX10_buy_174 : decode cX10_buy 174 = .ok (.getfield 12, 3) := by decide +kernel
theorem dX10_buy_177 : decode cX10_buy 177 = .ok (.getfield 143, 3) := by decide +kernel
theorem dX10_buy_180 : decode cX10_buy 180 = .ok (.invokevirtual 89, 3) := by decide +kernel
theorem dX10_buy_183 : decode cX10_buy 183 = .ok (.ireturn, 1) := by decide +kernel
theorem dX10_isTaken_0 : decode cX10_isTaken 0 = .ok (.iload_n 2, 1) := by decide +kernel
theorem dX10_isTaken_1 : decode cX10_isTaken 1 = .ok (.ifCond .eq 27, 3) := by decide +kernel
theorem dX10_isTaken_4 : decode cX10_isTaken 4 = .ok (.aload_n 0, 1) := by decide +kernel
theorem dX10_isTaken_5 : decode cX10_isTaken 5 = .ok (.getfield 12, 3) := by decide +kernel
theorem dX10_isTaken_8 : decode cX10_isTaken 8 = .ok (.getfield 110, 3) := by decide +kernel
theorem dX10_isTaken_11 : decode cX10_isTaken 11 = .ok (.iload_n 1, 1) := by decide +kernel
theorem dX10_isTaken_12 : decode cX10_isTaken 12 = .ok (.invokevirtual 113, 3) := by decide +kernel
theorem dX10_isTaken_15 : decode cX10_isTaken 15 = .ok (.ifCond .eq 17, 3) := by decide +kernel
theorem dX10_isTaken_18 : decode cX10_isTaken 18 = .ok (.iload_n 2, 1) := by decide +kernel
theorem dX10_isTaken_19 : decode cX10_isTaken 19 = .ok (.bipush (-4), 2) := by decide +kernel
theorem dX10_isTaken_21 : decode cX10_isTaken 21 = .ok (.iconst 4, 1) := by decide +kernel
theorem dX10_isTaken_22 : decode cX10_isTaken 22 = .ok (.invokestatic 71, 3) := by decide +kernel
theorem dX10_isTaken_25 : decode cX10_isTaken 25 = .ok (.ifCond .ne 7, 3) := by decide +kernel
theorem dX10_isTaken_28 : decode cX10_isTaken 28 = .ok (.iconst 1, 1) := by decide +kernel
theorem dX10_isTaken_29 : decode cX10_isTaken 29 = .ok (.goto 4, 3) := by decide +kernel
theorem dX10_isTaken_32 : decode cX10_isTaken 32 = .ok (.iconst 0, 1) := by decide +kernel
theorem dX10_isTaken_33 : decode cX10_isTaken 33 = .ok (.ireturn, 1) := by decide +kernel
theorem dX10_left_0 : decode cX10_left 0 = .ok (.aload_n 0, 1) := by decide +kernel
theorem dX10_left_1 : decode cX10_left 1 = .ok (.getfield 43, 3) := by decide +kernel
theorem dX10_left_4 : decode cX10_left 4 = .ok (.invokevirtual 150, 3) := by decide +kernel
theorem dX10_left_7 : decode cX10_left 7 = .ok (.aload_n 0, 1) := by decide +kernel
theorem dX10_left_8 : decode cX10_left 8 = .ok (.getfield 43, 3) := by decide +kernel
theorem dX10_left_11 : decode cX10_left 11 = .ok (.invokevirtual 153, 3) := by decide +kernel
theorem dX10_left_14 : decode cX10_left 14 = .ok (.ireturn, 1) := by decide +kernel
theorem dX10_range_0 : decode cX10_range 0 = .ok (.aload_n 0, 1) := by decide +kernel
theorem dX10_range_1 : decode cX10_range 1 = .ok (.getfield 12, 3) := by decide +kernel
theorem dX10_range_4 : decode cX10_range 4 = .ok (.getfield 110, 3) := by decide +kernel
theorem dX10_range_7 : decode cX10_range 7 = .ok (.iload_n 1, 1) := by decide +kernel
theorem dX10_range_8 : decode cX10_range 8 = .ok (.invokevirtual 113, 3) := by decide +kernel
theorem dX10_range_11 : decode cX10_range 11 = .ok (.ifCond .eq 12, 3) := by decide +kernel
theorem dX10_range_14 : decode cX10_range 14 = .ok (.iload_n 2, 1) := by decide +kernel
theorem dX10_range_15 : decode cX10_range 15 = .ok (.iconst 0, 1) := by decide +kernel
theorem dX10_range_16 : decode cX10_range 16 = .ok (.iconst 1, 1) := by decide +kernel
theorem dX10_range_17 : decode cX10_range 17 = .ok (.invokestatic 71, 3) := by decide +kernel
theorem dX10_range_20 : decode cX10_range 20 = .ok (.ifCond .eq 5, 3) := by decide +kernel
theorem dX10_range_23 : decode cX10_range 23 = .ok (.iconst (-1), 1) := by decide +kernel
theorem dX10_range_24 : decode cX10_range 24 = .ok (.ireturn, 1) := by decide +kernel
theorem dX10_range_25 : decode cX10_range 25 = .ok (.aload_n 0, 1) := by decide +kernel
theorem dX10_range_26 : decode cX10_range 26 = .ok (.getfield 43, 3) := by decide +kernel
theorem dX10_range_29 : decode cX10_range 29 = .ok (.invokevirtual 150, 3) := by decide +kernel
theorem dX10_range_32 : decode cX10_range 32 = .ok (.iload_n 2, 1) := by decide +kernel
theorem dX10_range_33 : decode cX10_range 33 = .ok (.ifCond .ne 14, 3) := by decide +kernel
theorem dX10_range_36 : decode cX10_range 36 = .ok (.aload_n 0, 1) := by decide +kernel
theorem dX10_range_37 : decode cX10_range 37 = .ok (.getfield 43, 3) := by decide +kernel
theorem dX10_range_40 : decode cX10_range 40 = .ok (.iload_n 1, 1) := by decide +kernel
theorem dX10_range_41 : decode cX10_range 41 = .ok (.invokevirtual 156, 3) := by decide +kernel
theorem dX10_range_44 : decode cX10_range 44 = .ok (.goto 11, 3) := by decide +kernel
theorem dX10_range_47 : decode cX10_range 47 = .ok (.aload_n 0, 1) := by decide +kernel
theorem dX10_range_48 : decode cX10_range 48 = .ok (.getfield 43, 3) := by decide +kernel
theorem dX10_range_51 : decode cX10_range 51 = .ok (.iload_n 1, 1) := by decide +kernel
theorem dX10_range_52 : decode cX10_range 52 = .ok (.invokevirtual 159, 3) := by decide +kernel
theorem dX10_range_55 : decode cX10_range 55 = .ok (.ireturn, 1) := by decide +kernel
theorem dX10_known_0 : decode cX10_known 0 = .ok (.aload_n 0, 1) := by decide +kernel
theorem dX10_known_1 : decode cX10_known 1 = .ok (.getfield 43, 3) := by decide +kernel
theorem dX10_known_4 : decode cX10_known 4 = .ok (.invokevirtual 150, 3) := by decide +kernel
theorem dX10_known_7 : decode cX10_known 7 = .ok (.iconst 0, 1) := by decide +kernel
theorem dX10_known_8 : decode cX10_known 8 = .ok (.istore_n 1, 1) := by decide +kernel
theorem dX10_known_9 : decode cX10_known 9 = .ok (.iconst 0, 1) := by decide +kernel
theorem dX10_known_10 : decode cX10_known 10 = .ok (.istore_n 2, 1) := by decide +kernel
theorem dX10_known_11 : decode cX10_known 11 = .ok (.iload_n 2, 1) := by decide +kernel
theorem dX10_known_12 : decode cX10_known 12 = .ok (.aload_n 0, 1) := by decide +kernel
theorem dX10_known_13 : decode cX10_known 13 = .ok (.getfield 12, 3) := by decide +kernel
theorem dX10_known_16 : decode cX10_known 16 = .ok (.getfield 110, 3) := by decide +kernel
theorem dX10_known_19 : decode cX10_known 19 = .ok (.invokevirtual 89, 3) := by decide +kernel
theorem dX10_known_22 : decode cX10_known 22 = .ok (.if_icmp .ge 42, 3) := by decide +kernel
theorem dX10_known_25 : decode cX10_known 25 = .ok (.aload_n 0, 1) := by decide +kernel
theorem dX10_known_26 : decode cX10_known 26 = .ok (.getfield 43, 3) := by decide +kernel
theorem dX10_known_29 : decode cX10_known 29 = .ok (.iload_n 2, 1) := by decide +kernel
theorem dX10_known_30 : decode cX10_known 30 = .ok (.invokevirtual 156, 3) := by decide +kernel
theorem dX10_known_33 : decode cX10_known 33 = .ok (.istore_n 3, 1) := by decide +kernel
theorem dX10_known_34 : decode cX10_known 34 = .ok (.iload_n 3, 1) := by decide +kernel
theorem dX10_known_35 : decode cX10_known 35 = .ok (.bipush (-5), 2) := by decide +kernel
theorem dX10_known_37 : decode cX10_known 37 = .ok (.if_icmp .eq 21, 3) := by decide +kernel
theorem dX10_known_40 : decode cX10_known 40 = .ok (.iload_n 3, 1) := by decide +kernel
theorem dX10_known_41 : decode cX10_known 41 = .ok (.aload_n 0, 1) := by decide +kernel
theorem dX10_known_42 : decode cX10_known 42 = .ok (.getfield 43, 3) := by decide +kernel
theorem dX10_known_45 : decode cX10_known 45 = .ok (.iload_n 2, 1) := by decide +kernel
theorem dX10_known_46 : decode cX10_known 46 = .ok (.invokevirtual 159, 3) := by decide +kernel
theorem dX10_known_49 : decode cX10_known 49 = .ok (.if_icmp .ne 9, 3) := by decide +kernel
theorem dX10_known_52 : decode cX10_known 52 = .ok (.iload_n 1, 1) := by decide +kernel
theorem dX10_known_53 : decode cX10_known 53 = .ok (.iconst 1, 1) := by decide +kernel
theorem dX10_known_54 : decode cX10_known 54 = .ok (.iload_n 2, 1) := by decide +kernel
theorem dX10_known_55 : decode cX10_known 55 = .ok (.ishl, 1) := by decide +kernel
theorem dX10_known_56 : decode cX10_known 56 = .ok (.ior, 1) := by decide +kernel
theorem dX10_known_57 : decode cX10_known 57 = .ok (.istore_n 1, 1) := by decide +kernel
theorem dX10_known_58 : decode cX10_known 58 = .ok (.iinc 2 1, 3) := by decide +kernel
theorem dX10_known_61 : decode cX10_known 61 = .ok (.goto (-50), 3) := by decide +kernel
theorem dX10_known_64 : decode cX10_known 64 = .ok (.iload_n 1, 1) := by decide +kernel
theorem dX10_known_65 : decode cX10_known 65 = .ok (.ireturn, 1) := by decide +kernel
theorem dX10_likely_0 : decode cX10_likely 0 = .ok (.aload_n 0, 1) := by decide +kernel
theorem dX10_likely_1 : decode cX10_likely 1 = .ok (.getfield 12, 3) := by decide +kernel
theorem dX10_likely_4 : decode cX10_likely 4 = .ok (.getfield 110, 3) := by decide +kernel
theorem dX10_likely_7 : decode cX10_likely 7 = .ok (.iload_n 1, 1) := by decide +kernel
theorem dX10_likely_8 : decode cX10_likely 8 = .ok (.invokevirtual 113, 3) := by decide +kernel
theorem dX10_likely_11 : decode cX10_likely 11 = .ok (.ifCond .eq 22, 3) := by decide +kernel
theorem dX10_likely_14 : decode cX10_likely 14 = .ok (.iload_n 2, 1) := by decide +kernel
theorem dX10_likely_15 : decode cX10_likely 15 = .ok (.iconst 1, 1) := by decide +kernel
theorem dX10_likely_16 : decode cX10_likely 16 = .ok (.bipush 9, 2) := by decide +kernel
theorem dX10_likely_18 : decode cX10_likely 18 = .ok (.invokestatic 71, 3) := by decide +kernel
theorem dX10_likely_21 : decode cX10_likely 21 = .ok (.ifCond .ne 12, 3) := by decide +kernel
theorem dX10_likely_24 : decode cX10_likely 24 = .ok (.iload_n 3, 1) := by decide +kernel
theorem dX10_likely_25 : decode cX10_likely 25 = .ok (.iconst 0, 1) := by decide +kernel
theorem dX10_likely_26 : decode cX10_likely 26 = .ok (.iconst 1, 1) := by decide +kernel
theorem dX10_likely_27 : decode cX10_likely 27 = .ok (.invokestatic 71, 3) := by decide +kernel
theorem dX10_likely_30 : decode cX10_likely 30 = .ok (.ifCond .eq 7, 3) := by decide +kernel
theorem dX10_likely_33 : decode cX10_likely 33 = .ok (.ldc2_w 162, 3) := by decide +kernel
theorem dX10_likely_36 : decode cX10_likely 36 = .ok (.lreturn, 1) := by decide +kernel
theorem dX10_likely_37 : decode cX10_likely 37 = .ok (.aload_n 0, 1) := by decide +kernel
theorem dX10_likely_38 : decode cX10_likely 38 = .ok (.getfield 43, 3) := by decide +kernel
theorem dX10_likely_41 : decode cX10_likely 41 = .ok (.invokevirtual 150, 3) := by decide +kernel
theorem dX10_likely_44 : decode cX10_likely 44 = .ok (.aload_n 0, 1) := by decide +kernel
theorem dX10_likely_45 : decode cX10_likely 45 = .ok (.getfield 43, 3) := by decide +kernel
theorem dX10_likely_48 : decode cX10_likely 48 = .ok (.iload_n 1, 1) := by decide +kernel
theorem dX10_likely_49 : decode cX10_likely 49 = .ok (.iload_n 2, 1) := by decide +kernel
theorem dX10_likely_50 : decode cX10_likely 50 = .ok (.invokevirtual 164, 3) := by decide +kernel
theorem dX10_likely_53 : decode cX10_likely 53 = .ok (.aload_n 0, 1) := by decide +kernel
theorem dX10_likely_54 : decode cX10_likely 54 = .ok (.getfield 43, 3) := by decide +kernel
theorem dX10_likely_57 : decode cX10_likely 57 = .ok (.invokevirtual 153, 3) := by decide +kernel
theorem dX10_likely_60 : decode cX10_likely 60 = .ok (.iload_n 3, 1) := by decide +kernel
theorem dX10_likely_61 : decode cX10_likely 61 = .ok (.invokestatic 167, 3) := by decide +kernel
theorem dX10_likely_64 : decode cX10_likely 64 = .ok (.lreturn, 1) := by decide +kernel
theorem dX10_alike_0 : decode cX10_alike 0 = .ok (.aload_n 0, 1) := by decide +kernel
theorem dX10_alike_1 : decode cX10_alike 1 = .ok (.getfield 12, 3) := by decide +kernel
theorem dX10_alike_4 : decode cX10_alike 4 = .ok (.getfield 110, 3) := by decide +kernel
theorem dX10_alike_7 : decode cX10_alike 7 = .ok (.iload_n 1, 1) := by decide +kernel
theorem dX10_alike_8 : decode cX10_alike 8 = .ok (.invokevirtual 113, 3) := by decide +kernel
theorem dX10_alike_11 : decode cX10_alike 11 = .ok (.ifCond .eq 17, 3) := by decide +kernel
theorem dX10_alike_14 : decode cX10_alike 14 = .ok (.aload_n 0, 1) := by decide +kernel
theorem dX10_alike_15 : decode cX10_alike 15 = .ok (.getfield 12, 3) := by decide +kernel
theorem dX10_alike_18 : decode cX10_alike 18 = .ok (.getfield 110, 3) := by decide +kernel
theorem dX10_alike_21 : decode cX10_alike 21 = .ok (.iload_n 2, 1) := by decide +kernel
theorem dX10_alike_22 : decode cX10_alike 22 = .ok (.invokevirtual 113, 3) := by decide +kernel
theorem dX10_alike_25 : decode cX10_alike 25 = .ok (.ifCond .ne 5, 3) := by decide +kernel
theorem dX10_alike_28 : decode cX10_alike 28 = .ok (.iconst (-1), 1) := by decide +kernel
theorem dX10_alike_29 : decode cX10_alike 29 = .ok (.ireturn, 1) := by decide +kernel
theorem dX10_alike_30 : decode cX10_alike 30 = .ok (.iload_n 1, 1) := by decide +kernel
theorem dX10_alike_31 : decode cX10_alike 31 = .ok (.iload_n 2, 1) := by decide +kernel
theorem dX10_alike_32 : decode cX10_alike 32 = .ok (.if_icmp .ne 6, 3) := by decide +kernel
theorem dX10_alike_35 : decode cX10_alike 35 = .ok (.bipush (-2), 2) := by decide +kernel
theorem dX10_alike_37 : decode cX10_alike 37 = .ok (.ireturn, 1) := by decide +kernel
theorem dX10_alike_38 : decode cX10_alike 38 = .ok (.aload_n 0, 1) := by decide +kernel
theorem dX10_alike_39 : decode cX10_alike 39 = .ok (.getfield 43, 3) := by decide +kernel
theorem dX10_alike_42 : decode cX10_alike 42 = .ok (.invokevirtual 150, 3) := by decide +kernel
theorem dX10_alike_45 : decode cX10_alike 45 = .ok (.aload_n 0, 1) := by decide +kernel
theorem dX10_alike_46 : decode cX10_alike 46 = .ok (.getfield 43, 3) := by decide +kernel
theorem dX10_alike_49 : decode cX10_alike 49 = .ok (.iload_n 1, 1) := by decide +kernel
theorem dX10_alike_50 : decode cX10_alike 50 = .ok (.iload_n 2, 1) := by decide +kernel
theorem dX10_alike_51 : decode cX10_alike 51 = .ok (.invokevirtual 171, 3) := by decide +kernel
theorem dX10_alike_54 : decode cX10_alike 54 = .ok (.ifCond .eq 7, 3) := by decide +kernel
theorem dX10_alike_57 : decode cX10_alike 57 = .ok (.iconst 1, 1) := by decide +kernel
theorem dX10_alike_58 : decode cX10_alike 58 = .ok (.goto 4, 3) := by decide +kernel
theorem dX10_alike_61 : decode cX10_alike 61 = .ok (.iconst 0, 1) := by decide +kernel
theorem dX10_alike_62 : decode cX10_alike 62 = .ok (.ireturn, 1) := by decide +kernel
theorem dX10_wrong_0 : decode cX10_wrong 0 = .ok (.aload_n 0, 1) := by decide +kernel
theorem dX10_wrong_1 : decode cX10_wrong 1 = .ok (.getfield 43, 3) := by decide +kernel
theorem dX10_wrong_4 : decode cX10_wrong 4 = .ok (.invokevirtual 174, 3) := by decide +kernel
theorem dX10_wrong_7 : decode cX10_wrong 7 = .ok (.ireturn, 1) := by decide +kernel
theorem dX10_cheated_0 : decode cX10_cheated 0 = .ok (.aload_n 0, 1) := by decide +kernel
theorem dX10_cheated_1 : decode cX10_cheated 1 = .ok (.getfield 43, 3) := by decide +kernel
theorem dX10_cheated_4 : decode cX10_cheated 4 = .ok (.invokevirtual 177, 3) := by decide +kernel
theorem dX10_cheated_7 : decode cX10_cheated 7 = .ok (.ireturn, 1) := by decide +kernel
theorem dX10_hold_0 : decode cX10_hold 0 = .ok (.iload_n 1, 1) := by decide +kernel
theorem dX10_hold_1 : decode cX10_hold 1 = .ok (.iconst 0, 1) := by decide +kernel
theorem dX10_hold_2 : decode cX10_hold 2 = .ok (.iconst 1, 1) := by decide +kernel
theorem dX10_hold_3 : decode cX10_hold 3 = .ok (.invokestatic 71, 3) := by decide +kernel
theorem dX10_hold_6 : decode cX10_hold 6 = .ok (.ifCond .eq 5, 3) := by decide +kernel
theorem dX10_hold_9 : decode cX10_hold 9 = .ok (.iconst (-1), 1) := by decide +kernel
theorem dX10_hold_10 : decode cX10_hold 10 = .ok (.ireturn, 1) := by decide +kernel
theorem dX10_hold_11 : decode cX10_hold 11 = .ok (.aload_n 0, 1) := by decide +kernel
theorem dX10_hold_12 : decode cX10_hold 12 = .ok (.getfield 43, 3) := by decide +kernel
theorem dX10_hold_15 : decode cX10_hold 15 = .ok (.invokevirtual 150, 3) := by decide +kernel
theorem dX10_hold_18 : decode cX10_hold 18 = .ok (.aload_n 0, 1) := by decide +kernel
theorem dX10_hold_19 : decode cX10_hold 19 = .ok (.getfield 43, 3) := by decide +kernel
theorem dX10_hold_22 : decode cX10_hold 22 = .ok (.invokevirtual 180, 3) := by decide +kernel
theorem dX10_hold_25 : decode cX10_hold 25 = .ok (.istore_n 2, 1) := by decide +kernel
theorem dX10_hold_26 : decode cX10_hold 26 = .ok (.iload_n 2, 1) := by decide +kernel
theorem dX10_hold_27 : decode cX10_hold 27 = .ok (.bipush (-5), 2) := by decide +kernel
theorem dX10_hold_29 : decode cX10_hold 29 = .ok (.if_icmp .ne 6, 3) := by decide +kernel
theorem dX10_hold_32 : decode cX10_hold 32 = .ok (.bipush (-5), 2) := by decide +kernel
theorem dX10_hold_34 : decode cX10_hold 34 = .ok (.ireturn, 1) := by decide +kernel
theorem dX10_hold_35 : decode cX10_hold 35 = .ok (.iload_n 1, 1) := by decide +kernel
theorem dX10_hold_36 : decode cX10_hold 36 = .ok (.ifCond .ne 7, 3) := by decide +kernel
theorem dX10_hold_39 : decode cX10_hold 39 = .ok (.iload_n 2, 1) := by decide +kernel
theorem dX10_hold_40 : decode cX10_hold 40 = .ok (.goto 18, 3) := by decide +kernel
theorem dX10_hold_43 : decode cX10_hold 43 = .ok (.aload_n 0, 1) := by decide +kernel
theorem dX10_hold_44 : decode cX10_hold 44 = .ok (.getfield 43, 3) := by decide +kernel
theorem dX10_hold_47 : decode cX10_hold 47 = .ok (.iload_n 2, 1) := by decide +kernel
theorem dX10_hold_48 : decode cX10_hold 48 = .ok (.bipush 10, 2) := by decide +kernel
theorem dX10_hold_50 : decode cX10_hold 50 = .ok (.idiv, 1) := by decide +kernel
theorem dX10_hold_51 : decode cX10_hold 51 = .ok (.iload_n 2, 1) := by decide +kernel
theorem dX10_hold_52 : decode cX10_hold 52 = .ok (.bipush 10, 2) := by decide +kernel
theorem dX10_hold_54 : decode cX10_hold 54 = .ok (.irem, 1) := by decide +kernel
theorem dX10_hold_55 : decode cX10_hold 55 = .ok (.invokevirtual 183, 3) := by decide +kernel
theorem dX10_hold_58 : decode cX10_hold 58 = .ok (.ireturn, 1) := by decide +kernel
theorem dX10_pay_0 : decode cX10_pay 0 = .ok (.iload_n 2, 1) := by decide +kernel
theorem dX10_pay_1 : decode cX10_pay 1 = .ok (.iconst (-1), 1) := by decide +kernel
theorem dX10_pay_2 : decode cX10_pay 2 = .ok (.iconst 3, 1) := by decide +kernel
theorem dX10_pay_3 : decode cX10_pay 3 = .ok (.invokestatic 71, 3) := by decide +kernel
theorem dX10_pay_6 : decode cX10_pay 6 = .ok (.ifCond .eq 5, 3) := by decide +kernel
theorem dX10_pay_9 : decode cX10_pay 9 = .ok (.iconst (-1), 1) := by decide +kernel
theorem dX10_pay_10 : decode cX10_pay 10 = .ok (.ireturn, 1) := by decide +kernel
theorem dX10_pay_11 : decode cX10_pay 11 = .ok (.iload_n 1, 1) := by decide +kernel
theorem dX10_pay_12 : decode cX10_pay 12 = .ok (.iconst 0, 1) := by decide +kernel
theorem dX10_pay_13 : decode cX10_pay 13 = .ok (.bipush 99, 2) := by decide +kernel
theorem dX10_pay_15 : decode cX10_pay 15 = .ok (.invokestatic 71, 3) := by decide +kernel
theorem dX10_pay_18 : decode cX10_pay 18 = .ok (.ifCond .eq 6, 3) := by decide +kernel
theorem dX10_pay_21 : decode cX10_pay 21 = .ok (.bipush (-2), 2) := by decide +kernel
theorem dX10_pay_23 : decode cX10_pay 23 = .ok (.ireturn, 1) := by decide +kernel
theorem dX10_pay_24 : decode cX10_pay 24 = .ok (.aload_n 0, 1) := by decide +kernel
theorem dX10_pay_25 : decode cX10_pay 25 = .ok (.getfield 50, 3) := by decide +kernel
theorem dX10_pay_28 : decode cX10_pay 28 = .ok (.invokevirtual 137, 3) := by decide +kernel
theorem dX10_pay_31 : decode cX10_pay 31 = .ok (.aload_n 0, 1) := by decide +kernel
theorem dX10_pay_32 : decode cX10_pay 32 = .ok (.aload_n 0, 1) := by decide +kernel
theorem dX10_pay_33 : decode cX10_pay 33 = .ok (.getfield 50, 3) := by decide +kernel
theorem dX10_pay_36 : decode cX10_pay 36 = .ok (.iload_n 1, 1) := by decide +kernel
theorem dX10_pay_37 : decode cX10_pay 37 = .ok (.iconst 0, 1) := by decide +kernel
theorem dX10_pay_38 : decode cX10_pay 38 = .ok (.invokevirtual 186, 3) := by decide +kernel
theorem dX10_pay_41 : decode cX10_pay 41 = .ok (.iload_n 2, 1) := by decide +kernel
theorem dX10_pay_42 : decode cX10_pay 42 = .ok (.invokevirtual 189, 3) := by decide +kernel
theorem dX10_pay_45 : decode cX10_pay 45 = .ok (.ireturn, 1) := by decide +kernel
theorem dX10_ofBest_0 : decode cX10_ofBest 0 = .ok (.iload_n 1, 1) := by decide +kernel
theorem dX10_ofBest_1 : decode cX10_ofBest 1 = .ok (.bipush (-5), 2) := by decide +kernel
theorem dX10_ofBest_3 : decode cX10_ofBest 3 = .ok (.if_icmp .eq 8, 3) := by decide +kernel
theorem dX10_ofBest_6 : decode cX10_ofBest 6 = .ok (.iload_n 2, 1) := by decide +kernel
theorem dX10_ofBest_7 : decode cX10_ofBest 7 = .ok (.iconst (-1), 1) := by decide +kernel
theorem dX10_ofBest_8 : decode cX10_ofBest 8 = .ok (.if_icmp .ne 5, 3) := by decide +kernel
theorem dX10_ofBest_11 : decode cX10_ofBest 11 = .ok (.iload_n 1, 1) := by decide +kernel
theorem dX10_ofBest_12 : decode cX10_ofBest 12 = .ok (.ireturn, 1) := by decide +kernel
theorem dX10_ofBest_13 : decode cX10_ofBest 13 = .ok (.aload_n 0, 1) := by decide +kernel
theorem dX10_ofBest_14 : decode cX10_ofBest 14 = .ok (.getfield 12, 3) := by decide +kernel
theorem dX10_ofBest_17 : decode cX10_ofBest 17 = .ok (.getfield 110, 3) := by decide +kernel
theorem dX10_ofBest_20 : decode cX10_ofBest 20 = .ok (.iload_n 2, 1) := by decide +kernel
theorem dX10_ofBest_21 : decode cX10_ofBest 21 = .ok (.invokevirtual 113, 3) := by decide +kernel
theorem dX10_ofBest_24 : decode cX10_ofBest 24 = .ok (.ifCond .eq 14, 3) := by decide +kernel
theorem dX10_ofBest_27 : decode cX10_ofBest 27 = .ok (.aload_n 0, 1) := by decide +kernel
theorem dX10_ofBest_28 : decode cX10_ofBest 28 = .ok (.getfield 50, 3) := by decide +kernel
theorem dX10_ofBest_31 : decode cX10_ofBest 31 = .ok (.iload_n 2, 1) := by decide +kernel
theorem dX10_ofBest_32 : decode cX10_ofBest 32 = .ok (.invokevirtual 192, 3) := by decide +kernel
theorem dX10_ofBest_35 : decode cX10_ofBest 35 = .ok (.goto 5, 3) := by decide +kernel
theorem dX10_ofBest_38 : decode cX10_ofBest 38 = .ok (.bipush (-5), 2) := by decide +kernel
theorem dX10_ofBest_40 : decode cX10_ofBest 40 = .ok (.ireturn, 1) := by decide +kernel
theorem dX10_ways_0 : decode cX10_ways 0 = .ok (.iload_n 1, 1) := by decide +kernel
theorem dX10_ways_1 : decode cX10_ways 1 = .ok (.iconst 0, 1) := by decide +kernel
theorem dX10_ways_2 : decode cX10_ways 2 = .ok (.bipush 99, 2) := by decide +kernel
theorem dX10_ways_4 : decode cX10_ways 4 = .ok (.invokestatic 71, 3) := by decide +kernel
theorem dX10_ways_7 : decode cX10_ways 7 = .ok (.ifCond .eq 6, 3) := by decide +kernel
theorem dX10_ways_10 : decode cX10_ways 10 = .ok (.bipush (-2), 2) := by decide +kernel
theorem dX10_ways_12 : decode cX10_ways 12 = .ok (.ireturn, 1) := by decide +kernel
theorem dX10_ways_13 : decode cX10_ways 13 = .ok (.aload_n 0, 1) := by decide +kernel
theorem dX10_ways_14 : decode cX10_ways 14 = .ok (.getfield 50, 3) := by decide +kernel
theorem dX10_ways_17 : decode cX10_ways 17 = .ok (.invokevirtual 137, 3) := by decide +kernel
theorem dX10_ways_20 : decode cX10_ways 20 = .ok (.aload_n 0, 1) := by decide +kernel
theorem dX10_ways_21 : decode cX10_ways 21 = .ok (.getfield 50, 3) := by decide +kernel
theorem dX10_ways_24 : decode cX10_ways 24 = .ok (.iload_n 1, 1) := by decide +kernel
theorem dX10_ways_25 : decode cX10_ways 25 = .ok (.invokevirtual 194, 3) := by decide +kernel
theorem dX10_ways_28 : decode cX10_ways 28 = .ok (.ireturn, 1) := by decide +kernel
theorem dX10_change_0 : decode cX10_change 0 = .ok (.iload_n 1, 1) := by decide +kernel
theorem dX10_change_1 : decode cX10_change 1 = .ok (.iconst 0, 1) := by decide +kernel
theorem dX10_change_2 : decode cX10_change 2 = .ok (.bipush 99, 2) := by decide +kernel
theorem dX10_change_4 : decode cX10_change 4 = .ok (.invokestatic 71, 3) := by decide +kernel
theorem dX10_change_7 : decode cX10_change 7 = .ok (.ifCond .eq 6, 3) := by decide +kernel
theorem dX10_change_10 : decode cX10_change 10 = .ok (.bipush (-2), 2) := by decide +kernel
theorem dX10_change_12 : decode cX10_change 12 = .ok (.ireturn, 1) := by decide +kernel
theorem dX10_change_13 : decode cX10_change 13 = .ok (.aload_n 0, 1) := by decide +kernel
theorem dX10_change_14 : decode cX10_change 14 = .ok (.getfield 50, 3) := by decide +kernel
theorem dX10_change_17 : decode cX10_change 17 = .ok (.invokevirtual 137, 3) := by decide +kernel
theorem dX10_change_20 : decode cX10_change 20 = .ok (.aload_n 0, 1) := by decide +kernel
theorem dX10_change_21 : decode cX10_change 21 = .ok (.getfield 50, 3) := by decide +kernel
theorem dX10_change_24 : decode cX10_change 24 = .ok (.iload_n 1, 1) := by decide +kernel
theorem dX10_change_25 : decode cX10_change 25 = .ok (.iconst 3, 1) := by decide +kernel
theorem dX10_change_26 : decode cX10_change 26 = .ok (.invokevirtual 186, 3) := by decide +kernel
theorem dX10_change_29 : decode cX10_change 29 = .ok (.ireturn, 1) := by decide +kernel
theorem dX10_never_0 : decode cX10_never 0 = .ok (.aload_n 0, 1) := by decide +kernel
theorem dX10_never_1 : decode cX10_never 1 = .ok (.getfield 50, 3) := by decide +kernel
theorem dX10_never_4 : decode cX10_never 4 = .ok (.invokevirtual 137, 3) := by decide +kernel
theorem dX10_never_7 : decode cX10_never 7 = .ok (.aload_n 0, 1) := by decide +kernel
theorem dX10_never_8 : decode cX10_never 8 = .ok (.getfield 50, 3) := by decide +kernel
theorem dX10_never_11 : decode cX10_never 11 = .ok (.invokevirtual 197, 3) := by decide +kernel
theorem dX10_never_14 : decode cX10_never 14 = .ok (.ireturn, 1) := by decide +kernel
theorem dX10_carry_0 : decode cX10_carry 0 = .ok (.iload_n 2, 1) := by decide +kernel
theorem dX10_carry_1 : decode cX10_carry 1 = .ok (.iconst (-1), 1) := by decide +kernel
theorem dX10_carry_2 : decode cX10_carry 2 = .ok (.iconst 3, 1) := by decide +kernel
theorem dX10_carry_3 : decode cX10_carry 3 = .ok (.invokestatic 71, 3) := by decide +kernel
theorem dX10_carry_6 : decode cX10_carry 6 = .ok (.ifCond .eq 5, 3) := by decide +kernel
theorem dX10_carry_9 : decode cX10_carry 9 = .ok (.iconst (-1), 1) := by decide +kernel
theorem dX10_carry_10 : decode cX10_carry 10 = .ok (.ireturn, 1) := by decide +kernel
theorem dX10_carry_11 : decode cX10_carry 11 = .ok (.iload_n 1, 1) := by decide +kernel
theorem dX10_carry_12 : decode cX10_carry 12 = .ok (.iconst 1, 1) := by decide +kernel
theorem dX10_carry_13 : decode cX10_carry 13 = .ok (.bipush 30, 2) := by decide +kernel
theorem dX10_carry_15 : decode cX10_carry 15 = .ok (.invokestatic 71, 3) := by decide +kernel
theorem dX10_carry_18 : decode cX10_carry 18 = .ok (.ifCond .eq 6, 3) := by decide +kernel
theorem dX10_carry_21 : decode cX10_carry 21 = .ok (.bipush (-2), 2) := by decide +kernel
theorem dX10_carry_23 : decode cX10_carry 23 = .ok (.ireturn, 1) := by decide +kernel
theorem dX10_carry_24 : decode cX10_carry 24 = .ok (.aload_n 0, 1) := by decide +kernel
theorem dX10_carry_25 : decode cX10_carry 25 = .ok (.getfield 50, 3) := by decide +kernel
theorem dX10_carry_28 : decode cX10_carry 28 = .ok (.invokevirtual 137, 3) := by decide +kernel
theorem dX10_carry_31 : decode cX10_carry 31 = .ok (.aload_n 0, 1) := by decide +kernel
theorem dX10_carry_32 : decode cX10_carry 32 = .ok (.aload_n 0, 1) := by decide +kernel
theorem dX10_carry_33 : decode cX10_carry 33 = .ok (.getfield 50, 3) := by decide +kernel
theorem dX10_carry_36 : decode cX10_carry 36 = .ok (.iload_n 1, 1) := by decide +kernel
theorem dX10_carry_37 : decode cX10_carry 37 = .ok (.invokevirtual 200, 3) := by decide +kernel
theorem dX10_carry_40 : decode cX10_carry 40 = .ok (.iload_n 2, 1) := by decide +kernel
theorem dX10_carry_41 : decode cX10_carry 41 = .ok (.invokevirtual 189, 3) := by decide +kernel
theorem dX10_carry_44 : decode cX10_carry 44 = .ok (.ireturn, 1) := by decide +kernel
theorem dX10_rate_0 : decode cX10_rate 0 = .ok (.aload_n 0, 1) := by decide +kernel
theorem dX10_rate_1 : decode cX10_rate 1 = .ok (.getfield 12, 3) := by decide +kernel
theorem dX10_rate_4 : decode cX10_rate 4 = .ok (.getfield 110, 3) := by decide +kernel
theorem dX10_rate_7 : decode cX10_rate 7 = .ok (.iload_n 1, 1) := by decide +kernel
theorem dX10_rate_8 : decode cX10_rate 8 = .ok (.invokevirtual 113, 3) := by decide +kernel
theorem dX10_rate_11 : decode cX10_rate 11 = .ok (.ifCond .eq 26, 3) := by decide +kernel
theorem dX10_rate_14 : decode cX10_rate 14 = .ok (.aload_n 0, 1) := by decide +kernel
theorem dX10_rate_15 : decode cX10_rate 15 = .ok (.getfield 12, 3) := by decide +kernel
theorem dX10_rate_18 : decode cX10_rate 18 = .ok (.getfield 110, 3) := by decide +kernel
theorem dX10_rate_21 : decode cX10_rate 21 = .ok (.iload_n 2, 1) := by decide +kernel
theorem dX10_rate_22 : decode cX10_rate 22 = .ok (.invokevirtual 113, 3) := by decide +kernel
theorem dX10_rate_25 : decode cX10_rate 25 = .ok (.ifCond .eq 12, 3) := by decide +kernel
theorem dX10_rate_28 : decode cX10_rate 28 = .ok (.iload_n 3, 1) := by decide +kernel
theorem dX10_rate_29 : decode cX10_rate 29 = .ok (.iconst 0, 1) := by decide +kernel
theorem dX10_rate_30 : decode cX10_rate 30 = .ok (.iconst 1, 1) := by decide +kernel
theorem dX10_rate_31 : decode cX10_rate 31 = .ok (.invokestatic 71, 3) := by decide +kernel
theorem dX10_rate_34 : decode cX10_rate 34 = .ok (.ifCond .eq 7, 3) := by decide +kernel
theorem dX10_rate_37 : decode cX10_rate 37 = .ok (.ldc2_w 162, 3) := by decide +kernel
theorem dX10_rate_40 : decode cX10_rate 40 = .ok (.lreturn, 1) := by decide +kernel
theorem dX10_rate_41 : decode cX10_rate 41 = .ok (.aload_n 0, 1) := by decide +kernel
theorem dX10_rate_42 : decode cX10_rate 42 = .ok (.getfield 12, 3) := by decide +kernel
theorem dX10_rate_45 : decode cX10_rate 45 = .ok (.iload_n 1, 1) := by decide +kernel
theorem dX10_rate_46 : decode cX10_rate 46 = .ok (.invokevirtual 117, 3) := by decide +kernel
theorem dX10_rate_49 : decode cX10_rate 49 = .ok (.aload_n 0, 1) := by decide +kernel
theorem dX10_rate_50 : decode cX10_rate 50 = .ok (.getfield 12, 3) := by decide +kernel
theorem dX10_rate_53 : decode cX10_rate 53 = .ok (.iload_n 2, 1) := by decide +kernel
theorem dX10_rate_54 : decode cX10_rate 54 = .ok (.invokevirtual 117, 3) := by decide +kernel
theorem dX10_rate_57 : decode cX10_rate 57 = .ok (.iload_n 3, 1) := by decide +kernel
theorem dX10_rate_58 : decode cX10_rate 58 = .ok (.invokestatic 167, 3) := by decide +kernel
theorem dX10_rate_61 : decode cX10_rate 61 = .ok (.lreturn, 1) := by decide +kernel
theorem dX10_bought_0 : decode cX10_bought 0 = .ok (.iload_n 2, 1) := by decide +kernel
theorem dX10_bought_1 : decode cX10_bought 1 = .ok (.iconst (-1), 1) := by decide +kernel
theorem dX10_bought_2 : decode cX10_bought 2 = .ok (.iconst 4, 1) := by decide +kernel
theorem dX10_bought_3 : decode cX10_bought 3 = .ok (.invokestatic 71, 3) := by decide +kernel
theorem dX10_bought_6 : decode cX10_bought 6 = .ok (.ifCond .eq 5, 3) := by decide +kernel
theorem dX10_bought_9 : decode cX10_bought 9 = .ok (.iconst (-1), 1) := by decide +kernel
theorem dX10_bought_10 : decode cX10_bought 10 = .ok (.ireturn, 1) := by decide +kernel
theorem dX10_bought_11 : decode cX10_bought 11 = .ok (.iload_n 1, 1) := by decide +kernel
theorem dX10_bought_12 : decode cX10_bought 12 = .ok (.iconst 0, 1) := by decide +kernel
theorem dX10_bought_13 : decode cX10_bought 13 = .ok (.bipush 99, 2) := by decide +kernel
theorem dX10_bought_15 : decode cX10_bought 15 = .ok (.invokestatic 71, 3) := by decide +kernel
theorem dX10_bought_18 : decode cX10_bought 18 = .ok (.ifCond .eq 6, 3) := by decide +kernel
theorem dX10_bought_21 : decode cX10_bought 21 = .ok (.bipush (-2), 2) := by decide +kernel
theorem dX10_bought_23 : decode cX10_bought 23 = .ok (.ireturn, 1) := by decide +kernel
theorem dX10_bought_24 : decode cX10_bought 24 = .ok (.aload_n 0, 1) := by decide +kernel
theorem dX10_bought_25 : decode cX10_bought 25 = .ok (.getfield 60, 3) := by decide +kernel
theorem dX10_bought_28 : decode cX10_bought 28 = .ok (.iload_n 1, 1) := by decide +kernel
theorem dX10_bought_29 : decode cX10_bought 29 = .ok (.invokevirtual 203, 3) := by decide +kernel
theorem dX10_bought_32 : decode cX10_bought 32 = .ok (.istore_n 3, 1) := by decide +kernel
theorem dX10_bought_33 : decode cX10_bought 33 = .ok (.iload_n 2, 1) := by decide +kernel
theorem dX10_bought_34 : decode cX10_bought 34 = .ok (.iconst (-1), 1) := by decide +kernel
theorem dX10_bought_35 : decode cX10_bought 35 = .ok (.if_icmp .ne 5, 3) := by decide +kernel
theorem dX10_bought_38 : decode cX10_bought 38 = .ok (.iload_n 3, 1) := by decide +kernel
theorem dX10_bought_39 : decode cX10_bought 39 = .ok (.ireturn, 1) := by decide +kernel
theorem dX10_bought_40 : decode cX10_bought 40 = .ok (.iload_n 3, 1) := by decide +kernel
theorem dX10_bought_41 : decode cX10_bought 41 = .ok (.ifCond .le 28, 3) := by decide +kernel
theorem dX10_bought_44 : decode cX10_bought 44 = .ok (.aload_n 0, 1) := by decide +kernel
theorem dX10_bought_45 : decode cX10_bought 45 = .ok (.getfield 12, 3) := by decide +kernel
theorem dX10_bought_48 : decode cX10_bought 48 = .ok (.getfield 56, 3) := by decide +kernel
theorem dX10_bought_51 : decode cX10_bought 51 = .ok (.iload_n 2, 1) := by decide +kernel
theorem dX10_bought_52 : decode cX10_bought 52 = .ok (.invokevirtual 113, 3) := by decide +kernel
theorem dX10_bought_55 : decode cX10_bought 55 = .ok (.ifCond .eq 14, 3) := by decide +kernel
theorem dX10_bought_58 : decode cX10_bought 58 = .ok (.aload_n 0, 1) := by decide +kernel
theorem dX10_bought_59 : decode cX10_bought 59 = .ok (.getfield 60, 3) := by decide +kernel
theorem dX10_bought_62 : decode cX10_bought 62 = .ok (.iload_n 2, 1) := by decide +kernel
theorem dX10_bought_63 : decode cX10_bought 63 = .ok (.invokevirtual 206, 3) := by decide +kernel
theorem dX10_bought_66 : decode cX10_bought 66 = .ok (.goto 5, 3) := by decide +kernel
theorem dX10_bought_69 : decode cX10_bought 69 = .ok (.bipush (-5), 2) := by decide +kernel
theorem dX10_bought_71 : decode cX10_bought 71 = .ok (.ireturn, 1) := by decide +kernel
theorem dX10_slate_0 : decode cX10_slate 0 = .ok (.iload_n 1, 1) := by decide +kernel
theorem dX10_slate_1 : decode cX10_slate 1 = .ok (.iconst (-1), 1) := by decide +kernel
theorem dX10_slate_2 : decode cX10_slate 2 = .ok (.if_icmp .ne 15, 3) := by decide +kernel
theorem dX10_slate_5 : decode cX10_slate 5 = .ok (.aload_n 0, 1) := by decide +kernel
theorem dX10_slate_6 : decode cX10_slate 6 = .ok (.getfield 12, 3) := by decide +kernel
theorem dX10_slate_9 : decode cX10_slate 9 = .ok (.getfield 209, 3) := by decide +kernel
theorem dX10_slate_12 : decode cX10_slate 12 = .ok (.invokevirtual 100, 3) := by decide +kernel
theorem dX10_slate_15 : decode cX10_slate 15 = .ok (.iconst 0, 1) := by decide +kernel
theorem dX10_slate_16 : decode cX10_slate 16 = .ok (.ireturn, 1) := by decide +kernel
theorem dX10_slate_17 : decode cX10_slate 17 = .ok (.iload_n 1, 1) := by decide +kernel
theorem dX10_slate_18 : decode cX10_slate 18 = .ok (.iconst 0, 1) := by decide +kernel
theorem dX10_slate_19 : decode cX10_slate 19 = .ok (.bipush 19, 2) := by decide +kernel
theorem dX10_slate_21 : decode cX10_slate 21 = .ok (.invokestatic 71, 3) := by decide +kernel
theorem dX10_slate_24 : decode cX10_slate 24 = .ok (.ifCond .ne 24, 3) := by decide +kernel
theorem dX10_slate_27 : decode cX10_slate 27 = .ok (.iload_n 2, 1) := by decide +kernel
theorem dX10_slate_28 : decode cX10_slate 28 = .ok (.iconst 0, 1) := by decide +kernel
theorem dX10_slate_29 : decode cX10_slate 29 = .ok (.bipush 19, 2) := by decide +kernel
theorem dX10_slate_31 : decode cX10_slate 31 = .ok (.invokestatic 71, 3) := by decide +kernel
theorem dX10_slate_34 : decode cX10_slate 34 = .ok (.ifCond .ne 14, 3) := by decide +kernel
theorem dX10_slate_37 : decode cX10_slate 37 = .ok (.iload_n 3, 1) := by decide +kernel
theorem dX10_slate_38 : decode cX10_slate 38 = .ok (.iconst 0, 1) := by decide +kernel
theorem dX10_slate_39 : decode cX10_slate 39 = .ok (.sipush 399, 3) := by decide +kernel
theorem dX10_slate_42 : decode cX10_slate 42 = .ok (.invokestatic 71, 3) := by decide +kernel
theorem dX10_slate_45 : decode cX10_slate 45 = .ok (.ifCond .eq 6, 3) := by decide +kernel
theorem dX10_slate_48 : decode cX10_slate 48 = .ok (.bipush (-2), 2) := by decide +kernel
theorem dX10_slate_50 : decode cX10_slate 50 = .ok (.ireturn, 1) := by decide +kernel
theorem dX10_slate_51 : decode cX10_slate 51 = .ok (.aload_n 0, 1) := by decide +kernel
theorem dX10_slate_52 : decode cX10_slate 52 = .ok (.getfield 12, 3) := by decide +kernel
theorem dX10_slate_55 : decode cX10_slate 55 = .ok (.getfield 209, 3) := by decide +kernel
theorem dX10_slate_58 : decode cX10_slate 58 = .ok (.invokevirtual 75, 3) := by decide +kernel
theorem dX10_slate_61 : decode cX10_slate 61 = .ok (.ifCond .eq 6, 3) := by decide +kernel
theorem dX10_slate_64 : decode cX10_slate 64 = .ok (.bipush (-4), 2) := by decide +kernel
theorem dX10_slate_66 : decode cX10_slate 66 = .ok (.ireturn, 1) := by decide +kernel
theorem dX10_slate_67 : decode cX10_slate 67 = .ok (.aload_n 0, 1) := by decide +kernel
theorem dX10_slate_68 : decode cX10_slate 68 = .ok (.getfield 12, 3) := by decide +kernel
theorem dX10_slate_71 : decode cX10_slate 71 = .ok (.getfield 209, 3) := by decide +kernel
theorem dX10_slate_74 : decode cX10_slate 74 = .ok (.invokevirtual 81, 3) := by decide +kernel
theorem dX10_slate_77 : decode cX10_slate 77 = .ok (.istore 4, 2) := by decide +kernel
theorem dX10_slate_79 : decode cX10_slate 79 = .ok (.aload_n 0, 1) := by decide +kernel
theorem dX10_slate_80 : decode cX10_slate 80 = .ok (.getfield 12, 3) := by decide +kernel
theorem dX10_slate_83 : decode cX10_slate 83 = .ok (.getfield 209, 3) := by decide +kernel
theorem dX10_slate_86 : decode cX10_slate 86 = .ok (.iload 4, 2) := by decide +kernel
theorem dX10_slate_88 : decode cX10_slate 88 = .ok (.iconst 0, 1) := by decide +kernel
theorem dX10_slate_89 : decode cX10_slate 89 = .ok (.iload_n 1, 1) := by decide +kernel
theorem dX10_slate_90 : decode cX10_slate 90 = .ok (.invokevirtual 85, 3) := by decide +kernel
theorem dX10_slate_93 : decode cX10_slate 93 = .ok (.pop, 1) := by decide +kernel
theorem dX10_slate_94 : decode cX10_slate 94 = .ok (.aload_n 0, 1) := by decide +kernel
theorem dX10_slate_95 : decode cX10_slate 95 = .ok (.getfield 12, 3) := by decide +kernel
theorem dX10_slate_98 : decode cX10_slate 98 = .ok (.getfield 209, 3) := by decide +kernel
theorem dX10_slate_101 : decode cX10_slate 101 = .ok (.iload 4, 2) := by decide +kernel
theorem dX10_slate_103 : decode cX10_slate 103 = .ok (.iconst 1, 1) := by decide +kernel
theorem dX10_slate_104 : decode cX10_slate 104 = .ok (.iload_n 2, 1) := by decide +kernel
theorem dX10_slate_105 : decode cX10_slate 105 = .ok (.invokevirtual 85, 3) := by decide +kernel
theorem dX10_slate_108 : decode cX10_slate 108 = .ok (.pop, 1) := by decide +kernel
theorem dX10_slate_109 : decode cX10_slate 109 = .ok (.aload_n 0, 1) := by decide +kernel
theorem dX10_slate_110 : decode cX10_slate 110 = .ok (.getfield 12, 3) := by decide +kernel
theorem dX10_slate_113 : decode cX10_slate 113 = .ok (.getfield 209, 3) := by decide +kernel
theorem dX10_slate_116 : decode cX10_slate 116 = .ok (.iload 4, 2) := by decide +kernel
theorem dX10_slate_118 : decode cX10_slate 118 = .ok (.iconst 2, 1) := by decide +kernel
theorem dX10_slate_119 : decode cX10_slate 119 = .ok (.iload_n 3, 1) := by decide +kernel
theorem dX10_slate_120 : decode cX10_slate 120 = .ok (.invokevirtual 85, 3) := by decide +kernel
theorem dX10_slate_123 : decode cX10_slate 123 = .ok (.pop, 1) := by decide +kernel
theorem dX10_slate_124 : decode cX10_slate 124 = .ok (.aload_n 0, 1) := by decide +kernel
theorem dX10_slate_125 : decode cX10_slate 125 = .ok (.getfield 12, 3) := by decide +kernel
theorem dX10_slate_128 : decode cX10_slate 128 = .ok (.getfield 209, 3) := by decide +kernel
theorem dX10_slate_131 : decode cX10_slate 131 = .ok (.invokevirtual 89, 3) := by decide +kernel
theorem dX10_slate_134 : decode cX10_slate 134 = .ok (.ireturn, 1) := by decide +kernel
theorem dX10_counts_0 : decode cX10_counts 0 = .ok (.iload_n 1, 1) := by decide +kernel
theorem dX10_counts_1 : decode cX10_counts 1 = .ok (.iconst 0, 1) := by decide +kernel
theorem dX10_counts_2 : decode cX10_counts 2 = .ok (.iconst 1, 1) := by decide +kernel
theorem dX10_counts_3 : decode cX10_counts 3 = .ok (.invokestatic 71, 3) := by decide +kernel
theorem dX10_counts_6 : decode cX10_counts 6 = .ok (.ifCond .eq 5, 3) := by decide +kernel
theorem dX10_counts_9 : decode cX10_counts 9 = .ok (.iconst (-1), 1) := by decide +kernel
theorem dX10_counts_10 : decode cX10_counts 10 = .ok (.ireturn, 1) := by decide +kernel
theorem dX10_counts_11 : decode cX10_counts 11 = .ok (.iconst 0, 1) := by decide +kernel
theorem dX10_counts_12 : decode cX10_counts 12 = .ok (.istore_n 2, 1) := by decide +kernel
theorem dX10_counts_13 : decode cX10_counts 13 = .ok (.bipush (-5), 2) := by decide +kernel
theorem dX10_counts_15 : decode cX10_counts 15 = .ok (.istore_n 3, 1) := by decide +kernel
theorem dX10_counts_16 : decode cX10_counts 16 = .ok (.bipush 20, 2) := by decide +kernel
theorem dX10_counts_18 : decode cX10_counts 18 = .ok (.istore 4, 2) := by decide +kernel
theorem dX10_counts_20 : decode cX10_counts 20 = .ok (.iload 4, 2) := by decide +kernel
theorem dX10_counts_22 : decode cX10_counts 22 = .ok (.iconst 2, 1) := by decide +kernel
theorem dX10_counts_23 : decode cX10_counts 23 = .ok (.if_icmp .lt 24, 3) := by decide +kernel
theorem dX10_counts_26 : decode cX10_counts 26 = .ok (.aload_n 0, 1) := by decide +kernel
theorem dX10_counts_27 : decode cX10_counts 27 = .ok (.iload 4, 2) := by decide +kernel
theorem dX10_counts_29 : decode cX10_counts 29 = .ok (.invokevirtual 212, 3) := by decide +kernel
theorem dX10_counts_32 : decode cX10_counts 32 = .ok (.ifCond .eq 9, 3) := by decide +kernel
theorem dX10_counts_35 : decode cX10_counts 35 = .ok (.iinc 2 1, 3) := by decide +kernel
theorem dX10_counts_38 : decode cX10_counts 38 = .ok (.iload 4, 2) := by decide +kernel
theorem dX10_counts_40 : decode cX10_counts 40 = .ok (.istore_n 3, 1) := by decide +kernel
theorem dX10_counts_41 : decode cX10_counts 41 = .ok (.iinc 4 (-1), 3) := by decide +kernel
theorem dX10_counts_44 : decode cX10_counts 44 = .ok (.goto (-24), 3) := by decide +kernel
theorem dX10_counts_47 : decode cX10_counts 47 = .ok (.iload_n 1, 1) := by decide +kernel
theorem dX10_counts_48 : decode cX10_counts 48 = .ok (.ifCond .ne 7, 3) := by decide +kernel
theorem dX10_counts_51 : decode cX10_counts 51 = .ok (.iload_n 2, 1) := by decide +kernel
theorem dX10_counts_52 : decode cX10_counts 52 = .ok (.goto 4, 3) := by decide +kernel
theorem dX10_counts_55 : decode cX10_counts 55 = .ok (.iload_n 3, 1) := by decide +kernel
theorem dX10_counts_56 : decode cX10_counts 56 = .ok (.ireturn, 1) := by decide +kernel
theorem dX10_areSlatesBy_0 : decode cX10_areSlatesBy 0 = .ok (.iconst 0, 1) := by decide +kernel
theorem dX10_areSlatesBy_1 : decode cX10_areSlatesBy 1 = .ok (.istore_n 2, 1) := by decide +kernel
theorem dX10_areSlatesBy_2 : decode cX10_areSlatesBy 2 = .ok (.iload_n 2, 1) := by decide +kernel
theorem dX10_areSlatesBy_3 : decode cX10_areSlatesBy 3 = .ok (.aload_n 0, 1) := by decide +kernel
theorem dX10_areSlatesBy_4 : decode cX10_areSlatesBy 4 = .ok (.getfield 12, 3) := by decide +kernel
theorem dX10_areSlatesBy_7 : decode cX10_areSlatesBy 7 = .ok (.getfield 209, 3) := by decide +kernel
theorem dX10_areSlatesBy_10 : decode cX10_areSlatesBy 10 = .ok (.invokevirtual 89, 3) := by decide +kernel
theorem dX10_areSlatesBy_13 : decode cX10_areSlatesBy 13 = .ok (.if_icmp .ge 70, 3) := by decide +kernel
theorem dX10_areSlatesBy_16 : decode cX10_areSlatesBy 16 = .ok (.aload_n 0, 1) := by decide +kernel
theorem dX10_areSlatesBy_17 : decode cX10_areSlatesBy 17 = .ok (.getfield 12, 3) := by decide +kernel
theorem dX10_areSlatesBy_20 : decode cX10_areSlatesBy 20 = .ok (.getfield 209, 3) := by decide +kernel
theorem dX10_areSlatesBy_23 : decode cX10_areSlatesBy 23 = .ok (.iload_n 2, 1) := by decide +kernel
theorem dX10_areSlatesBy_24 : decode cX10_areSlatesBy 24 = .ok (.iconst 0, 1) := by decide +kernel
theorem dX10_areSlatesBy_25 : decode cX10_areSlatesBy 25 = .ok (.invokevirtual 125, 3) := by decide +kernel
theorem dX10_areSlatesBy_28 : decode cX10_areSlatesBy 28 = .ok (.istore_n 3, 1) := by decide +kernel
theorem dX10_areSlatesBy_29 : decode cX10_areSlatesBy 29 = .ok (.aload_n 0, 1) := by decide +kernel
theorem dX10_areSlatesBy_30 : decode cX10_areSlatesBy 30 = .ok (.getfield 12, 3) := by decide +kernel
theorem dX10_areSlatesBy_33 : decode cX10_areSlatesBy 33 = .ok (.getfield 209, 3) := by decide +kernel
theorem dX10_areSlatesBy_36 : decode cX10_areSlatesBy 36 = .ok (.iload_n 2, 1) := by decide +kernel
theorem dX10_areSlatesBy_37 : decode cX10_areSlatesBy 37 = .ok (.iconst 1, 1) := by decide +kernel
theorem dX10_areSlatesBy_38 : decode cX10_areSlatesBy 38 = .ok (.invokevirtual 125, 3) := by decide +kernel
theorem dX10_areSlatesBy_41 : decode cX10_areSlatesBy 41 = .ok (.istore 4, 2) := by decide +kernel
theorem dX10_areSlatesBy_43 : decode cX10_areSlatesBy 43 = .ok (.iload_n 3, 1) := by decide +kernel
theorem dX10_areSlatesBy_44 : decode cX10_areSlatesBy 44 = .ok (.iload_n 1, 1) := by decide +kernel
theorem dX10_areSlatesBy_45 : decode cX10_areSlatesBy 45 = .ok (.if_icmp .ge 30, 3) := by decide +kernel
theorem dX10_areSlatesBy_48 : decode cX10_areSlatesBy 48 = .ok (.iload 4, 2) := by decide +kernel
theorem dX10_areSlatesBy_50 : decode cX10_areSlatesBy 50 = .ok (.iload_n 1, 1) := by decide +kernel
theorem dX10_areSlatesBy_51 : decode cX10_areSlatesBy 51 = .ok (.if_icmp .ge 24, 3) := by decide +kernel
theorem dX10_areSlatesBy_54 : decode cX10_areSlatesBy 54 = .ok (.aload_n 0, 1) := by decide +kernel
theorem dX10_areSlatesBy_55 : decode cX10_areSlatesBy 55 = .ok (.getfield 12, 3) := by decide +kernel
theorem dX10_areSlatesBy_58 : decode cX10_areSlatesBy 58 = .ok (.getfield 209, 3) := by decide +kernel
theorem dX10_areSlatesBy_61 : decode cX10_areSlatesBy 61 = .ok (.iload_n 2, 1) := by decide +kernel
theorem dX10_areSlatesBy_62 : decode cX10_areSlatesBy 62 = .ok (.iconst 2, 1) := by decide +kernel
theorem dX10_areSlatesBy_63 : decode cX10_areSlatesBy 63 = .ok (.invokevirtual 125, 3) := by decide +kernel
theorem dX10_areSlatesBy_66 : decode cX10_areSlatesBy 66 = .ok (.iload_n 1, 1) := by decide +kernel
theorem dX10_areSlatesBy_67 : decode cX10_areSlatesBy 67 = .ok (.iload_n 3, 1) := by decide +kernel
theorem dX10_areSlatesBy_68 : decode cX10_areSlatesBy 68 = .ok (.imul, 1) := by decide +kernel
theorem dX10_areSlatesBy_69 : decode cX10_areSlatesBy 69 = .ok (.iload 4, 2) := by decide +kernel
theorem dX10_areSlatesBy_71 : decode cX10_areSlatesBy 71 = .ok (.iadd, 1) := by decide +kernel
theorem dX10_areSlatesBy_72 : decode cX10_areSlatesBy 72 = .ok (.if_icmp .eq 5, 3) := by decide +kernel
theorem dX10_areSlatesBy_75 : decode cX10_areSlatesBy 75 = .ok (.iconst 0, 1) := by decide +kernel
theorem dX10_areSlatesBy_76 : decode cX10_areSlatesBy 76 = .ok (.ireturn, 1) := by decide +kernel
theorem dX10_areSlatesBy_77 : decode cX10_areSlatesBy 77 = .ok (.iinc 2 1, 3) := by decide +kernel
theorem dX10_areSlatesBy_80 : decode cX10_areSlatesBy 80 = .ok (.goto (-78), 3) := by decide +kernel
theorem dX10_areSlatesBy_83 : decode cX10_areSlatesBy 83 = .ok (.iconst 1, 1) := by decide +kernel
theorem dX10_areSlatesBy_84 : decode cX10_areSlatesBy 84 = .ok (.ireturn, 1) := by decide +kernel
theorem dX10_odds_0 : decode cX10_odds 0 = .ok (.iload_n 1, 1) := by decide +kernel
theorem dX10_odds_1 : decode cX10_odds 1 = .ok (.iconst 1, 1) := by decide +kernel
theorem dX10_odds_2 : decode cX10_odds 2 = .ok (.bipush 30, 2) := by decide +kernel
theorem dX10_odds_4 : decode cX10_odds 4 = .ok (.invokestatic 71, 3) := by decide +kernel
theorem dX10_odds_7 : decode cX10_odds 7 = .ok (.ifCond .ne 12, 3) := by decide +kernel
theorem dX10_odds_10 : decode cX10_odds 10 = .ok (.iload_n 2, 1) := by decide +kernel
theorem dX10_odds_11 : decode cX10_odds 11 = .ok (.iconst 0, 1) := by decide +kernel
theorem dX10_odds_12 : decode cX10_odds 12 = .ok (.iconst 1, 1) := by decide +kernel
theorem dX10_odds_13 : decode cX10_odds 13 = .ok (.invokestatic 71, 3) := by decide +kernel
theorem dX10_odds_16 : decode cX10_odds 16 = .ok (.ifCond .eq 7, 3) := by decide +kernel
theorem dX10_odds_19 : decode cX10_odds 19 = .ok (.ldc2_w 162, 3) := by decide +kernel
theorem dX10_odds_22 : decode cX10_odds 22 = .ok (.lreturn, 1) := by decide +kernel
theorem dX10_odds_23 : decode cX10_odds 23 = .ok (.iconst 0, 1) := by decide +kernel
theorem dX10_odds_24 : decode cX10_odds 24 = .ok (.istore_n 3, 1) := by decide +kernel
theorem dX10_odds_25 : decode cX10_odds 25 = .ok (.iconst 0, 1) := by decide +kernel
theorem dX10_odds_26 : decode cX10_odds 26 = .ok (.istore 4, 2) := by decide +kernel
theorem dX10_odds_28 : decode cX10_odds 28 = .ok (.iload 4, 2) := by decide +kernel
theorem dX10_odds_30 : decode cX10_odds 30 = .ok (.aload_n 0, 1) := by decide +kernel
theorem dX10_odds_31 : decode cX10_odds 31 = .ok (.getfield 12, 3) := by decide +kernel
theorem dX10_odds_34 : decode cX10_odds 34 = .ok (.getfield 110, 3) := by decide +kernel
theorem dX10_odds_37 : decode cX10_odds 37 = .ok (.invokevirtual 89, 3) := by decide +kernel
theorem dX10_odds_40 : decode cX10_odds 40 = .ok (.if_icmp .ge 38, 3) := by decide +kernel
theorem dX10_odds_43 : decode cX10_odds 43 = .ok (.aload_n 0, 1) := by decide +kernel
theorem dX10_odds_44 : decode cX10_odds 44 = .ok (.getfield 12, 3) := by decide +kernel
theorem dX10_odds_47 : decode cX10_odds 47 = .ok (.iload 4, 2) := by decide +kernel
theorem dX10_odds_49 : decode cX10_odds 49 = .ok (.invokevirtual 117, 3) := by decide +kernel
theorem dX10_odds_52 : decode cX10_odds 52 = .ok (.iload_n 1, 1) := by decide +kernel
theorem dX10_odds_53 : decode cX10_odds 53 = .ok (.if_icmp .lt 19, 3) := by decide +kernel
theorem dX10_odds_56 : decode cX10_odds 56 = .ok (.iload_n 3, 1) := by decide +kernel
theorem dX10_odds_57 : decode cX10_odds 57 = .ok (.aload_n 0, 1) := by decide +kernel
theorem dX10_odds_58 : decode cX10_odds 58 = .ok (.getfield 12, 3) := by decide +kernel
theorem dX10_odds_61 : decode cX10_odds 61 = .ok (.getfield 110, 3) := by decide +kernel
theorem dX10_odds_64 : decode cX10_odds 64 = .ok (.iload 4, 2) := by decide +kernel
theorem dX10_odds_66 : decode cX10_odds 66 = .ok (.iconst 3, 1) := by decide +kernel
theorem dX10_odds_67 : decode cX10_odds 67 = .ok (.invokevirtual 125, 3) := by decide +kernel
theorem dX10_odds_70 : decode cX10_odds 70 = .ok (.iadd, 1) := by decide +kernel
theorem dX10_odds_71 : decode cX10_odds 71 = .ok (.istore_n 3, 1) := by decide +kernel
theorem dX10_odds_72 : decode cX10_odds 72 = .ok (.iinc 4 1, 3) := by decide +kernel
theorem dX10_odds_75 : decode cX10_odds 75 = .ok (.goto (-47), 3) := by decide +kernel
theorem dX10_odds_78 : decode cX10_odds 78 = .ok (.iload_n 3, 1) := by decide +kernel
theorem dX10_odds_79 : decode cX10_odds 79 = .ok (.aload_n 0, 1) := by decide +kernel
theorem dX10_odds_80 : decode cX10_odds 80 = .ok (.invokevirtual 215, 3) := by decide +kernel
theorem dX10_odds_83 : decode cX10_odds 83 = .ok (.iload_n 2, 1) := by decide +kernel
theorem dX10_odds_84 : decode cX10_odds 84 = .ok (.invokestatic 167, 3) := by decide +kernel
theorem dX10_odds_87 : decode cX10_odds 87 = .ok (.lreturn, 1) := by decide +kernel
theorem dX10_mean_0 : decode cX10_mean 0 = .ok (.iload_n 1, 1) := by decide +kernel
theorem dX10_mean_1 : decode cX10_mean 1 = .ok (.iconst 0, 1) := by decide +kernel
theorem dX10_mean_2 : decode cX10_mean 2 = .ok (.iconst 1, 1) := by decide +kernel
theorem dX10_mean_3 : decode cX10_mean 3 = .ok (.invokestatic 71, 3) := by decide +kernel
theorem dX10_mean_6 : decode cX10_mean 6 = .ok (.ifCond .eq 7, 3) := by decide +kernel
theorem dX10_mean_9 : decode cX10_mean 9 = .ok (.ldc2_w 162, 3) := by decide +kernel
theorem dX10_mean_12 : decode cX10_mean 12 = .ok (.lreturn, 1) := by decide +kernel
theorem dX10_mean_13 : decode cX10_mean 13 = .ok (.aload_n 0, 1) := by decide +kernel
theorem dX10_mean_14 : decode cX10_mean 14 = .ok (.getfield 50, 3) := by decide +kernel
theorem dX10_mean_17 : decode cX10_mean 17 = .ok (.invokevirtual 137, 3) := by decide +kernel
theorem dX10_mean_20 : decode cX10_mean 20 = .ok (.aload_n 0, 1) := by decide +kernel
theorem dX10_mean_21 : decode cX10_mean 21 = .ok (.getfield 50, 3) := by decide +kernel
theorem dX10_mean_24 : decode cX10_mean 24 = .ok (.invokevirtual 140, 3) := by decide +kernel
theorem dX10_mean_27 : decode cX10_mean 27 = .ok (.aload_n 0, 1) := by decide +kernel
theorem dX10_mean_28 : decode cX10_mean 28 = .ok (.invokevirtual 215, 3) := by decide +kernel
theorem dX10_mean_31 : decode cX10_mean 31 = .ok (.iload_n 1, 1) := by decide +kernel
theorem dX10_mean_32 : decode cX10_mean 32 = .ok (.invokestatic 167, 3) := by decide +kernel
theorem dX10_mean_35 : decode cX10_mean 35 = .ok (.lreturn, 1) := by decide +kernel
theorem dX10_coinsInPurse_0 : decode cX10_coinsInPurse 0 = .ok (.iconst 0, 1) := by decide +kernel
theorem dX10_coinsInPurse_1 : decode cX10_coinsInPurse 1 = .ok (.istore_n 1, 1) := by decide +kernel
theorem dX10_coinsInPurse_2 : decode cX10_coinsInPurse 2 = .ok (.iconst 0, 1) := by decide +kernel
theorem dX10_coinsInPurse_3 : decode cX10_coinsInPurse 3 = .ok (.istore_n 2, 1) := by decide +kernel
theorem dX10_coinsInPurse_4 : decode cX10_coinsInPurse 4 = .ok (.iload_n 2, 1) := by decide +kernel
theorem dX10_coinsInPurse_5 : decode cX10_coinsInPurse 5 = .ok (.aload_n 0, 1) := by decide +kernel
theorem dX10_coinsInPurse_6 : decode cX10_coinsInPurse 6 = .ok (.getfield 12, 3) := by decide +kernel
theorem dX10_coinsInPurse_9 : decode cX10_coinsInPurse 9 = .ok (.getfield 110, 3) := by decide +kernel
theorem dX10_coinsInPurse_12 : decode cX10_coinsInPurse 12 = .ok (.invokevirtual 89, 3) := by decide +kernel
theorem dX10_coinsInPurse_15 : decode cX10_coinsInPurse 15 = .ok (.if_icmp .ge 24, 3) := by decide +kernel
theorem dX10_coinsInPurse_18 : decode cX10_coinsInPurse 18 = .ok (.iload_n 1, 1) := by decide +kernel
theorem dX10_coinsInPurse_19 : decode cX10_coinsInPurse 19 = .ok (.aload_n 0, 1) := by decide +kernel
theorem dX10_coinsInPurse_20 : decode cX10_coinsInPurse 20 = .ok (.getfield 12, 3) := by decide +kernel
theorem dX10_coinsInPurse_23 : decode cX10_coinsInPurse 23 = .ok (.getfield 110, 3) := by decide +kernel
theorem dX10_coinsInPurse_26 : decode cX10_coinsInPurse 26 = .ok (.iload_n 2, 1) := by decide +kernel
theorem dX10_coinsInPurse_27 : decode cX10_coinsInPurse 27 = .ok (.iconst 3, 1) := by decide +kernel
theorem dX10_coinsInPurse_28 : decode cX10_coinsInPurse 28 = .ok (.invokevirtual 125, 3) := by decide +kernel
theorem dX10_coinsInPurse_31 : decode cX10_coinsInPurse 31 = .ok (.iadd, 1) := by decide +kernel
theorem dX10_coinsInPurse_32 : decode cX10_coinsInPurse 32 = .ok (.istore_n 1, 1) := by decide +kernel
theorem dX10_coinsInPurse_33 : decode cX10_coinsInPurse 33 = .ok (.iinc 2 1, 3) := by decide +kernel
theorem dX10_coinsInPurse_36 : decode cX10_coinsInPurse 36 = .ok (.goto (-32), 3) := by decide +kernel
theorem dX10_coinsInPurse_39 : decode cX10_coinsInPurse 39 = .ok (.iload_n 1, 1) := by decide +kernel
theorem dX10_coinsInPurse_40 : decode cX10_coinsInPurse 40 = .ok (.ireturn, 1) := by decide +kernel
theorem dX10_lasting_0 : decode cX10_lasting 0 = .ok (.aload_n 0, 1) := by decide +kernel
theorem dX10_lasting_1 : decode cX10_lasting 1 = .ok (.getfield 12, 3) := by decide +kernel
theorem dX10_lasting_4 : decode cX10_lasting 4 = .ok (.getfield 110, 3) := by decide +kernel
theorem dX10_lasting_7 : decode cX10_lasting 7 = .ok (.iload_n 1, 1) := by decide +kernel
theorem dX10_lasting_8 : decode cX10_lasting 8 = .ok (.invokevirtual 113, 3) := by decide +kernel
theorem dX10_lasting_11 : decode cX10_lasting 11 = .ok (.ifCond .ne 5, 3) := by decide +kernel
theorem dX10_lasting_14 : decode cX10_lasting 14 = .ok (.iconst (-1), 1) := by decide +kernel
theorem dX10_lasting_15 : decode cX10_lasting 15 = .ok (.ireturn, 1) := by decide +kernel
theorem dX10_lasting_16 : decode cX10_lasting 16 = .ok (.aload_n 0, 1) := by decide +kernel
theorem dX10_lasting_17 : decode cX10_lasting 17 = .ok (.getfield 12, 3) := by decide +kernel
theorem dX10_lasting_20 : decode cX10_lasting 20 = .ok (.getfield 110, 3) := by decide +kernel
theorem dX10_lasting_23 : decode cX10_lasting 23 = .ok (.iload_n 1, 1) := by decide +kernel
theorem dX10_lasting_24 : decode cX10_lasting 24 = .ok (.iconst 2, 1) := by decide +kernel
theorem dX10_lasting_25 : decode cX10_lasting 25 = .ok (.invokevirtual 125, 3) := by decide +kernel
theorem dX10_lasting_28 : decode cX10_lasting 28 = .ok (.istore_n 2, 1) := by decide +kernel
theorem dX10_lasting_29 : decode cX10_lasting 29 = .ok (.aload_n 0, 1) := by decide +kernel
theorem dX10_lasting_30 : decode cX10_lasting 30 = .ok (.getfield 12, 3) := by decide +kernel
theorem dX10_lasting_33 : decode cX10_lasting 33 = .ok (.getfield 110, 3) := by decide +kernel
theorem dX10_lasting_36 : decode cX10_lasting 36 = .ok (.iload_n 1, 1) := by decide +kernel
theorem dX10_lasting_37 : decode cX10_lasting 37 = .ok (.iconst 3, 1) := by decide +kernel
theorem dX10_lasting_38 : decode cX10_lasting 38 = .ok (.invokevirtual 125, 3) := by decide +kernel
theorem dX10_lasting_41 : decode cX10_lasting 41 = .ok (.istore_n 3, 1) := by decide +kernel
theorem dX10_lasting_42 : decode cX10_lasting 42 = .ok (.aload_n 0, 1) := by decide +kernel
theorem dX10_lasting_43 : decode cX10_lasting 43 = .ok (.getfield 12, 3) := by decide +kernel
theorem dX10_lasting_46 : decode cX10_lasting 46 = .ok (.iload_n 1, 1) := by decide +kernel
theorem dX10_lasting_47 : decode cX10_lasting 47 = .ok (.invokevirtual 117, 3) := by decide +kernel
theorem dX10_lasting_50 : decode cX10_lasting 50 = .ok (.istore 4, 2) := by decide +kernel
theorem dX10_lasting_52 : decode cX10_lasting 52 = .ok (.iconst 0, 1) := by decide +kernel
theorem dX10_lasting_53 : decode cX10_lasting 53 = .ok (.istore 5, 2) := by decide +kernel
theorem dX10_lasting_55 : decode cX10_lasting 55 = .ok (.iload 5, 2) := by decide +kernel
theorem dX10_lasting_57 : decode cX10_lasting 57 = .ok (.bipush 99, 2) := by decide +kernel
theorem dX10_lasting_59 : decode cX10_lasting 59 = .ok (.if_icmp .gt 37, 3) := by decide +kernel
theorem dX10_lasting_62 : decode cX10_lasting 62 = .ok (.aload_n 0, 1) := by decide +kernel
theorem dX10_lasting_63 : decode cX10_lasting 63 = .ok (.getfield 12, 3) := by decide +kernel
theorem dX10_lasting_66 : decode cX10_lasting 66 = .ok (.iload_n 1, 1) := by decide +kernel
theorem dX10_lasting_67 : decode cX10_lasting 67 = .ok (.iload_n 2, 1) := by decide +kernel
theorem dX10_lasting_68 : decode cX10_lasting 68 = .ok (.iload_n 3, 1) := by decide +kernel
theorem dX10_lasting_69 : decode cX10_lasting 69 = .ok (.aload_n 0, 1) := by decide +kernel
theorem dX10_lasting_70 : decode cX10_lasting 70 = .ok (.getfield 12, 3) := by decide +kernel
theorem dX10_lasting_73 : decode cX10_lasting 73 = .ok (.getfield 128, 3) := by decide +kernel
theorem dX10_lasting_76 : decode cX10_lasting 76 = .ok (.iload 5, 2) := by decide +kernel
theorem dX10_lasting_78 : decode cX10_lasting 78 = .ok (.iadd, 1) := by decide +kernel
theorem dX10_lasting_79 : decode cX10_lasting 79 = .ok (.invokevirtual 218, 3) := by decide +kernel
theorem dX10_lasting_82 : decode cX10_lasting 82 = .ok (.iload 4, 2) := by decide +kernel
theorem dX10_lasting_84 : decode cX10_lasting 84 = .ok (.if_icmp .ge 6, 3) := by decide +kernel
theorem dX10_lasting_87 : decode cX10_lasting 87 = .ok (.iload 5, 2) := by decide +kernel
theorem dX10_lasting_89 : decode cX10_lasting 89 = .ok (.ireturn, 1) := by decide +kernel
theorem dX10_lasting_90 : decode cX10_lasting 90 = .ok (.iinc 5 1, 3) := by decide +kernel
theorem dX10_lasting_93 : decode cX10_lasting 93 = .ok (.goto (-38), 3) := by decide +kernel
theorem dX10_lasting_96 : decode cX10_lasting 96 = .ok (.bipush (-5), 2) := by decide +kernel
theorem dX10_lasting_98 : decode cX10_lasting 98 = .ok (.ireturn, 1) := by decide +kernel
theorem dX10_plan_0 : decode cX10_plan 0 = .ok (.iload_n 1, 1) := by decide +kernel
theorem dX10_plan_1 : decode cX10_plan 1 = .ok (.iconst (-1), 1) := by decide +kernel
theorem dX10_plan_2 : decode cX10_plan 2 = .ok (.if_icmp .ne 15, 3) := by decide +kernel
theorem dX10_plan_5 : decode cX10_plan 5 = .ok (.aload_n 0, 1) := by decide +kernel
theorem dX10_plan_6 : decode cX10_plan 6 = .ok (.getfield 12, 3) := by decide +kernel
theorem dX10_plan_9 : decode cX10_plan 9 = .ok (.getfield 222, 3) := by decide +kernel
theorem dX10_plan_12 : decode cX10_plan 12 = .ok (.invokevirtual 100, 3) := by decide +kernel
theorem dX10_plan_15 : decode cX10_plan 15 = .ok (.iconst 0, 1) := by decide +kernel
theorem dX10_plan_16 : decode cX10_plan 16 = .ok (.ireturn, 1) := by decide +kernel
theorem dX10_plan_17 : decode cX10_plan 17 = .ok (.iload_n 1, 1) := by decide +kernel
theorem dX10_plan_18 : decode cX10_plan 18 = .ok (.iconst 0, 1) := by decide +kernel
theorem dX10_plan_19 : decode cX10_plan 19 = .ok (.bipush 99, 2) := by decide +kernel
theorem dX10_plan_21 : decode cX10_plan 21 = .ok (.invokestatic 71, 3) := by decide +kernel
theorem dX10_plan_24 : decode cX10_plan 24 = .ok (.ifCond .eq 6, 3) := by decide +kernel
theorem dX10_plan_27 : decode cX10_plan 27 = .ok (.bipush (-2), 2) := by decide +kernel
theorem dX10_plan_29 : decode cX10_plan 29 = .ok (.ireturn, 1) := by decide +kernel
theorem dX10_plan_30 : decode cX10_plan 30 = .ok (.aload_n 0, 1) := by decide +kernel
theorem dX10_plan_31 : decode cX10_plan 31 = .ok (.getfield 12, 3) := by decide +kernel
theorem dX10_plan_34 : decode cX10_plan 34 = .ok (.getfield 222, 3) := by decide +kernel
theorem dX10_plan_37 : decode cX10_plan 37 = .ok (.invokevirtual 75, 3) := by decide +kernel
theorem dX10_plan_40 : decode cX10_plan 40 = .ok (.ifCond .eq 6, 3) := by decide +kernel
theorem dX10_plan_43 : decode cX10_plan 43 = .ok (.bipush (-4), 2) := by decide +kernel
theorem dX10_plan_45 : decode cX10_plan 45 = .ok (.ireturn, 1) := by decide +kernel
theorem dX10_plan_46 : decode cX10_plan 46 = .ok (.aload_n 0, 1) := by decide +kernel
theorem dX10_plan_47 : decode cX10_plan 47 = .ok (.getfield 12, 3) := by decide +kernel
theorem dX10_plan_50 : decode cX10_plan 50 = .ok (.getfield 222, 3) := by decide +kernel
theorem dX10_plan_53 : decode cX10_plan 53 = .ok (.aload_n 0, 1) := by decide +kernel
theorem dX10_plan_54 : decode cX10_plan 54 = .ok (.getfield 12, 3) := by decide +kernel
theorem dX10_plan_57 : decode cX10_plan 57 = .ok (.getfield 222, 3) := by decide +kernel
theorem dX10_plan_60 : decode cX10_plan 60 = .ok (.invokevirtual 81, 3) := by decide +kernel
theorem dX10_plan_63 : decode cX10_plan 63 = .ok (.iconst 0, 1) := by decide +kernel
theorem dX10_plan_64 : decode cX10_plan 64 = .ok (.iload_n 1, 1) := by decide +kernel
theorem dX10_plan_65 : decode cX10_plan 65 = .ok (.invokevirtual 85, 3) := by decide +kernel
theorem dX10_plan_68 : decode cX10_plan 68 = .ok (.pop, 1) := by decide +kernel
theorem dX10_plan_69 : decode cX10_plan 69 = .ok (.aload_n 0, 1) := by decide +kernel
theorem dX10_plan_70 : decode cX10_plan 70 = .ok (.getfield 12, 3) := by decide +kernel
theorem dX10_plan_73 : decode cX10_plan 73 = .ok (.getfield 222, 3) := by decide +kernel
theorem dX10_plan_76 : decode cX10_plan 76 = .ok (.invokevirtual 89, 3) := by decide +kernel
theorem dX10_plan_79 : decode cX10_plan 79 = .ok (.ireturn, 1) := by decide +kernel
theorem dX10_made_0 : decode cX10_made 0 = .ok (.iload_n 1, 1) := by decide +kernel
theorem dX10_made_1 : decode cX10_made 1 = .ok (.iconst 0, 1) := by decide +kernel
theorem dX10_made_2 : decode cX10_made 2 = .ok (.iconst 1, 1) := by decide +kernel
theorem dX10_made_3 : decode cX10_made 3 = .ok (.invokestatic 71, 3) := by decide +kernel
theorem dX10_made_6 : decode cX10_made 6 = .ok (.ifCond .eq 5, 3) := by decide +kernel
theorem dX10_made_9 : decode cX10_made 9 = .ok (.iconst (-1), 1) := by decide +kernel
theorem dX10_made_10 : decode cX10_made 10 = .ok (.ireturn, 1) := by decide +kernel
theorem dX10_made_11 : decode cX10_made 11 = .ok (.aload_n 0, 1) := by decide +kernel
theorem dX10_made_12 : decode cX10_made 12 = .ok (.getfield 50, 3) := by decide +kernel
theorem dX10_made_15 : decode cX10_made 15 = .ok (.invokevirtual 137, 3) := by decide +kernel
theorem dX10_made_18 : decode cX10_made 18 = .ok (.aload_n 0, 1) := by decide +kernel
theorem dX10_made_19 : decode cX10_made 19 = .ok (.getfield 50, 3) := by decide +kernel
theorem dX10_made_22 : decode cX10_made 22 = .ok (.invokevirtual 225, 3) := by decide +kernel
theorem dX10_made_25 : decode cX10_made 25 = .ok (.istore_n 2, 1) := by decide +kernel
theorem dX10_made_26 : decode cX10_made 26 = .ok (.iload_n 1, 1) := by decide +kernel
theorem dX10_made_27 : decode cX10_made 27 = .ok (.ifCond .ne 7, 3) := by decide +kernel
theorem dX10_made_30 : decode cX10_made 30 = .ok (.iload_n 2, 1) := by decide +kernel
theorem dX10_made_31 : decode cX10_made 31 = .ok (.goto 10, 3) := by decide +kernel
theorem dX10_made_34 : decode cX10_made 34 = .ok (.aload_n 0, 1) := by decide +kernel
theorem dX10_made_35 : decode cX10_made 35 = .ok (.getfield 50, 3) := by decide +kernel
theorem dX10_made_38 : decode cX10_made 38 = .ok (.invokevirtual 140, 3) := by decide +kernel
theorem dX10_made_41 : decode cX10_made 41 = .ok (.ireturn, 1) := by decide +kernel
theorem dX10_book_0 : decode cX10_book 0 = .ok (.iload_n 1, 1) := by decide +kernel
theorem dX10_book_1 : decode cX10_book 1 = .ok (.iconst (-1), 1) := by decide +kernel
theorem dX10_book_2 : decode cX10_book 2 = .ok (.if_icmp .ne 15, 3) := by decide +kernel
theorem dX10_book_5 : decode cX10_book 5 = .ok (.aload_n 0, 1) := by decide +kernel
theorem dX10_book_6 : decode cX10_book 6 = .ok (.getfield 12, 3) := by decide +kernel
theorem dX10_book_9 : decode cX10_book 9 = .ok (.getfield 228, 3) := by decide +kernel
theorem dX10_book_12 : decode cX10_book 12 = .ok (.invokevirtual 100, 3) := by decide +kernel
theorem dX10_book_15 : decode cX10_book 15 = .ok (.iconst 0, 1) := by decide +kernel
theorem dX10_book_16 : decode cX10_book 16 = .ok (.ireturn, 1) := by decide +kernel
theorem dX10_book_17 : decode cX10_book 17 = .ok (.aload_n 0, 1) := by decide +kernel
theorem dX10_book_18 : decode cX10_book 18 = .ok (.getfield 12, 3) := by decide +kernel
theorem dX10_book_21 : decode cX10_book 21 = .ok (.getfield 110, 3) := by decide +kernel
theorem dX10_book_24 : decode cX10_book 24 = .ok (.iload_n 1, 1) := by decide +kernel
theorem dX10_book_25 : decode cX10_book 25 = .ok (.invokevirtual 113, 3) := by decide +kernel
theorem dX10_book_28 : decode cX10_book 28 = .ok (.ifCond .ne 5, 3) := by decide +kernel
theorem dX10_book_31 : decode cX10_book 31 = .ok (.iconst (-1), 1) := by decide +kernel
theorem dX10_book_32 : decode cX10_book 32 = .ok (.ireturn, 1) := by decide +kernel
theorem dX10_book_33 : decode cX10_book 33 = .ok (.iload_n 2, 1) := by decide +kernel
theorem dX10_book_34 : decode cX10_book 34 = .ok (.iconst 1, 1) := by decide +kernel
theorem dX10_book_35 : decode cX10_book 35 = .ok (.bipush 99, 2) := by decide +kernel
theorem dX10_book_37 : decode cX10_book 37 = .ok (.invokestatic 71, 3) := by decide +kernel
theorem dX10_book_40 : decode cX10_book 40 = .ok (.ifCond .eq 6, 3) := by decide +kernel
theorem dX10_book_43 : decode cX10_book 43 = .ok (.bipush (-2), 2) := by decide +kernel
theorem dX10_book_45 : decode cX10_book 45 = .ok (.ireturn, 1) := by decide +kernel
theorem dX10_book_46 : decode cX10_book 46 = .ok (.aload_n 0, 1) := by decide +kernel
theorem dX10_book_47 : decode cX10_book 47 = .ok (.getfield 12, 3) := by decide +kernel
theorem dX10_book_50 : decode cX10_book 50 = .ok (.getfield 228, 3) := by decide +kernel
theorem dX10_book_53 : decode cX10_book 53 = .ok (.invokevirtual 75, 3) := by decide +kernel
theorem dX10_book_56 : decode cX10_book 56 = .ok (.ifCond .eq 6, 3) := by decide +kernel
theorem dX10_book_59 : decode cX10_book 59 = .ok (.bipush (-4), 2) := by decide +kernel
theorem dX10_book_61 : decode cX10_book 61 = .ok (.ireturn, 1) := by decide +kernel
theorem dX10_book_62 : decode cX10_book 62 = .ok (.aload_n 0, 1) := by decide +kernel
theorem dX10_book_63 : decode cX10_book 63 = .ok (.getfield 12, 3) := by decide +kernel
theorem dX10_book_66 : decode cX10_book 66 = .ok (.getfield 228, 3) := by decide +kernel
theorem dX10_book_69 : decode cX10_book 69 = .ok (.invokevirtual 81, 3) := by decide +kernel
theorem dX10_book_72 : decode cX10_book 72 = .ok (.istore_n 3, 1) := by decide +kernel
theorem dX10_book_73 : decode cX10_book 73 = .ok (.aload_n 0, 1) := by decide +kernel
theorem dX10_book_74 : decode cX10_book 74 = .ok (.getfield 12, 3) := by decide +kernel
theorem dX10_book_77 : decode cX10_book 77 = .ok (.getfield 228, 3) := by decide +kernel
theorem dX10_book_80 : decode cX10_book 80 = .ok (.iload_n 3, 1) := by decide +kernel
theorem dX10_book_81 : decode cX10_book 81 = .ok (.iconst 0, 1) := by decide +kernel
theorem dX10_book_82 : decode cX10_book 82 = .ok (.iload_n 1, 1) := by decide +kernel
theorem dX10_book_83 : decode cX10_book 83 = .ok (.invokevirtual 85, 3) := by decide +kernel
theorem dX10_book_86 : decode cX10_book 86 = .ok (.pop, 1) := by decide +kernel
theorem dX10_book_87 : decode cX10_book 87 = .ok (.aload_n 0, 1) := by decide +kernel
theorem dX10_book_88 : decode cX10_book 88 = .ok (.getfield 12, 3) := by decide +kernel
theorem dX10_book_91 : decode cX10_book 91 = .ok (.getfield 228, 3) := by decide +kernel
theorem dX10_book_94 : decode cX10_book 94 = .ok (.iload_n 3, 1) := by decide +kernel
theorem dX10_book_95 : decode cX10_book 95 = .ok (.iconst 1, 1) := by decide +kernel
theorem dX10_book_96 : decode cX10_book 96 = .ok (.iload_n 2, 1) := by decide +kernel
theorem dX10_book_97 : decode cX10_book 97 = .ok (.invokevirtual 85, 3) := by decide +kernel
theorem dX10_book_100 : decode cX10_book 100 = .ok (.pop, 1) := by decide +kernel
theorem dX10_book_101 : decode cX10_book 101 = .ok (.aload_n 0, 1) := by decide +kernel
theorem dX10_book_102 : decode cX10_book 102 = .ok (.getfield 12, 3) := by decide +kernel
theorem dX10_book_105 : decode cX10_book 105 = .ok (.getfield 228, 3) := by decide +kernel
theorem dX10_book_108 : decode cX10_book 108 = .ok (.invokevirtual 89, 3) := by decide +kernel
theorem dX10_book_111 : decode cX10_book 111 = .ok (.ireturn, 1) := by decide +kernel
theorem dX10_looked_0 : decode cX10_looked 0 = .ok (.iconst 0, 1) := by decide +kernel
theorem dX10_looked_1 : decode cX10_looked 1 = .ok (.istore_n 1, 1) := by decide +kernel
theorem dX10_looked_2 : decode cX10_looked 2 = .ok (.iload_n 1, 1) := by decide +kernel
theorem dX10_looked_3 : decode cX10_looked 3 = .ok (.aload_n 0, 1) := by decide +kernel
theorem dX10_looked_4 : decode cX10_looked 4 = .ok (.getfield 12, 3) := by decide +kernel
theorem dX10_looked_7 : decode cX10_looked 7 = .ok (.getfield 228, 3) := by decide +kernel
theorem dX10_looked_10 : decode cX10_looked 10 = .ok (.invokevirtual 89, 3) := by decide +kernel
theorem dX10_looked_13 : decode cX10_looked 13 = .ok (.if_icmp .ge 45, 3) := by decide +kernel
theorem dX10_looked_16 : decode cX10_looked 16 = .ok (.aload_n 0, 1) := by decide +kernel
theorem dX10_looked_17 : decode cX10_looked 17 = .ok (.getfield 12, 3) := by decide +kernel
theorem dX10_looked_20 : decode cX10_looked 20 = .ok (.aload_n 0, 1) := by decide +kernel
theorem dX10_looked_21 : decode cX10_looked 21 = .ok (.getfield 12, 3) := by decide +kernel
theorem dX10_looked_24 : decode cX10_looked 24 = .ok (.getfield 228, 3) := by decide +kernel
theorem dX10_looked_27 : decode cX10_looked 27 = .ok (.iload_n 1, 1) := by decide +kernel
theorem dX10_looked_28 : decode cX10_looked 28 = .ok (.iconst 0, 1) := by decide +kernel
theorem dX10_looked_29 : decode cX10_looked 29 = .ok (.invokevirtual 125, 3) := by decide +kernel
theorem dX10_looked_32 : decode cX10_looked 32 = .ok (.invokevirtual 117, 3) := by decide +kernel
theorem dX10_looked_35 : decode cX10_looked 35 = .ok (.aload_n 0, 1) := by decide +kernel
theorem dX10_looked_36 : decode cX10_looked 36 = .ok (.getfield 12, 3) := by decide +kernel
theorem dX10_looked_39 : decode cX10_looked 39 = .ok (.getfield 228, 3) := by decide +kernel
theorem dX10_looked_42 : decode cX10_looked 42 = .ok (.iload_n 1, 1) := by decide +kernel
theorem dX10_looked_43 : decode cX10_looked 43 = .ok (.iconst 1, 1) := by decide +kernel
theorem dX10_looked_44 : decode cX10_looked 44 = .ok (.invokevirtual 125, 3) := by decide +kernel
theorem dX10_looked_47 : decode cX10_looked 47 = .ok (.if_icmp .eq 5, 3) := by decide +kernel
theorem dX10_looked_50 : decode cX10_looked 50 = .ok (.iload_n 1, 1) := by decide +kernel
theorem dX10_looked_51 : decode cX10_looked 51 = .ok (.ireturn, 1) := by decide +kernel
theorem dX10_looked_52 : decode cX10_looked 52 = .ok (.iinc 1 1, 3) := by decide +kernel
theorem dX10_looked_55 : decode cX10_looked 55 = .ok (.goto (-53), 3) := by decide +kernel
theorem dX10_looked_58 : decode cX10_looked 58 = .ok (.bipush (-5), 2) := by decide +kernel
theorem dX10_looked_60 : decode cX10_looked 60 = .ok (.ireturn, 1) := by decide +kernel
theorem dX10_act_0 : decode cX10_act 0 = .ok (.aload_n 0, 1) := by decide +kernel
theorem dX10_act_1 : decode cX10_act 1 = .ok (.getfield 67, 3) := by decide +kernel
theorem dX10_act_4 : decode cX10_act 4 = .ok (.invokevirtual 231, 3) := by decide +kernel
theorem dX10_act_7 : decode cX10_act 7 = .ok (.aload_n 0, 1) := by decide +kernel
theorem dX10_act_8 : decode cX10_act 8 = .ok (.getfield 12, 3) := by decide +kernel
theorem dX10_act_11 : decode cX10_act 11 = .ok (.getfield 110, 3) := by decide +kernel
theorem dX10_act_14 : decode cX10_act 14 = .ok (.iload_n 1, 1) := by decide +kernel
theorem dX10_act_15 : decode cX10_act 15 = .ok (.invokevirtual 113, 3) := by decide +kernel
theorem dX10_act_18 : decode cX10_act 18 = .ok (.ifCond .eq 12, 3) := by decide +kernel
theorem dX10_act_21 : decode cX10_act 21 = .ok (.iload_n 2, 1) := by decide +kernel
theorem dX10_act_22 : decode cX10_act 22 = .ok (.iconst 0, 1) := by decide +kernel
theorem dX10_act_23 : decode cX10_act 23 = .ok (.iconst 2, 1) := by decide +kernel
theorem dX10_act_24 : decode cX10_act 24 = .ok (.invokestatic 71, 3) := by decide +kernel
theorem dX10_act_27 : decode cX10_act 27 = .ok (.ifCond .eq 5, 3) := by decide +kernel
theorem dX10_act_30 : decode cX10_act 30 = .ok (.iconst 0, 1) := by decide +kernel
theorem dX10_act_31 : decode cX10_act 31 = .ok (.ireturn, 1) := by decide +kernel
theorem dX10_act_32 : decode cX10_act 32 = .ok (.aload_n 0, 1) := by decide +kernel
theorem dX10_act_33 : decode cX10_act 33 = .ok (.getfield 67, 3) := by decide +kernel
theorem dX10_act_36 : decode cX10_act 36 = .ok (.iload_n 1, 1) := by decide +kernel
theorem dX10_act_37 : decode cX10_act 37 = .ok (.aload_n 0, 1) := by decide +kernel
theorem dX10_act_38 : decode cX10_act 38 = .ok (.getfield 12, 3) := by decide +kernel
theorem dX10_act_41 : decode cX10_act 41 = .ok (.getfield 110, 3) := by decide +kernel
theorem dX10_act_44 : decode cX10_act 44 = .ok (.iload_n 1, 1) := by decide +kernel
theorem dX10_act_45 : decode cX10_act 45 = .ok (.iconst 0, 1) := by decide +kernel
theorem dX10_act_46 : decode cX10_act 46 = .ok (.invokevirtual 125, 3) := by decide +kernel
theorem dX10_act_49 : decode cX10_act 49 = .ok (.aload_n 0, 1) := by decide +kernel
theorem dX10_act_50 : decode cX10_act 50 = .ok (.getfield 12, 3) := by decide +kernel
theorem dX10_act_53 : decode cX10_act 53 = .ok (.getfield 110, 3) := by decide +kernel
theorem dX10_act_56 : decode cX10_act 56 = .ok (.iload_n 1, 1) := by decide +kernel
theorem dX10_act_57 : decode cX10_act 57 = .ok (.iconst 1, 1) := by decide +kernel
theorem dX10_act_58 : decode cX10_act 58 = .ok (.invokevirtual 125, 3) := by decide +kernel
theorem dX10_act_61 : decode cX10_act 61 = .ok (.invokevirtual 234, 3) := by decide +kernel
theorem dX10_act_64 : decode cX10_act 64 = .ok (.aload_n 0, 1) := by decide +kernel
theorem dX10_act_65 : decode cX10_act 65 = .ok (.getfield 67, 3) := by decide +kernel
theorem dX10_act_68 : decode cX10_act 68 = .ok (.iload_n 2, 1) := by decide +kernel
theorem dX10_act_69 : decode cX10_act 69 = .ok (.iload_n 3, 1) := by decide +kernel
theorem dX10_act_70 : decode cX10_act 70 = .ok (.invokevirtual 238, 3) := by decide +kernel
theorem dX10_act_73 : decode cX10_act 73 = .ok (.ireturn, 1) := by decide +kernel
theorem dX10_trace_0 : decode cX10_trace 0 = .ok (.aload_n 0, 1) := by decide +kernel
theorem dX10_trace_1 : decode cX10_trace 1 = .ok (.getfield 67, 3) := by decide +kernel
theorem dX10_trace_4 : decode cX10_trace 4 = .ok (.iload_n 1, 1) := by decide +kernel
theorem dX10_trace_5 : decode cX10_trace 5 = .ok (.invokevirtual 241, 3) := by decide +kernel
theorem dX10_trace_8 : decode cX10_trace 8 = .ok (.ireturn, 1) := by decide +kernel
theorem dX10_as_0 : decode cX10_as 0 = .ok (.aload_n 0, 1) := by decide +kernel
theorem dX10_as_1 : decode cX10_as 1 = .ok (.getfield 12, 3) := by decide +kernel
theorem dX10_as_4 : decode cX10_as 4 = .ok (.getfield 110, 3) := by decide +kernel
theorem dX10_as_7 : decode cX10_as 7 = .ok (.iload_n 1, 1) := by decide +kernel
theorem dX10_as_8 : decode cX10_as 8 = .ok (.invokevirtual 113, 3) := by decide +kernel
theorem dX10_as_11 : decode cX10_as 11 = .ok (.ifCond .eq 13, 3) := by decide +kernel
theorem dX10_as_14 : decode cX10_as 14 = .ok (.iload_n 2, 1) := by decide +kernel
theorem dX10_as_15 : decode cX10_as 15 = .ok (.iconst 0, 1) := by decide +kernel
theorem dX10_as_16 : decode cX10_as 16 = .ok (.bipush 6, 2) := by decide +kernel
theorem dX10_as_18 : decode cX10_as 18 = .ok (.invokestatic 71, 3) := by decide +kernel
theorem dX10_as_21 : decode cX10_as 21 = .ok (.ifCond .eq 5, 3) := by decide +kernel
theorem dX10_as_24 : decode cX10_as 24 = .ok (.iconst (-1), 1) := by decide +kernel
theorem dX10_as_25 : decode cX10_as 25 = .ok (.ireturn, 1) := by decide +kernel
theorem dX10_as_26 : decode cX10_as 26 = .ok (.aload_n 0, 1) := by decide +kernel
theorem dX10_as_27 : decode cX10_as 27 = .ok (.getfield 12, 3) := by decide +kernel
theorem dX10_as_30 : decode cX10_as 30 = .ok (.getfield 110, 3) := by decide +kernel
theorem dX10_as_33 : decode cX10_as 33 = .ok (.iload_n 1, 1) := by decide +kernel
theorem dX10_as_34 : decode cX10_as 34 = .ok (.iconst 0, 1) := by decide +kernel
theorem dX10_as_35 : decode cX10_as 35 = .ok (.invokevirtual 125, 3) := by decide +kernel
theorem dX10_as_38 : decode cX10_as 38 = .ok (.istore_n 3, 1) := by decide +kernel
theorem dX10_as_39 : decode cX10_as 39 = .ok (.iconst 0, 1) := by decide +kernel
theorem dX10_as_40 : decode cX10_as 40 = .ok (.istore 4, 2) := by decide +kernel
theorem dX10_as_42 : decode cX10_as 42 = .ok (.iload 4, 2) := by decide +kernel
theorem dX10_as_44 : decode cX10_as 44 = .ok (.getstatic 244, 3) := by decide +kernel
theorem dX10_as_47 : decode cX10_as 47 = .ok (.arraylength, 1) := by decide +kernel
theorem dX10_as_48 : decode cX10_as 48 = .ok (.if_icmp .ge 32, 3) := by decide +kernel
theorem dX10_as_51 : decode cX10_as 51 = .ok (.iload_n 3, 1) := by decide +kernel
theorem dX10_as_52 : decode cX10_as 52 = .ok (.iload_n 2, 1) := by decide +kernel
theorem dX10_as_53 : decode cX10_as 53 = .ok (.if_icmp .ne 16, 3) := by decide +kernel
theorem dX10_as_56 : decode cX10_as 56 = .ok (.aload_n 0, 1) := by decide +kernel
theorem dX10_as_57 : decode cX10_as 57 = .ok (.getfield 12, 3) := by decide +kernel
theorem dX10_as_60 : decode cX10_as 60 = .ok (.getfield 110, 3) := by decide +kernel
theorem dX10_as_63 : decode cX10_as 63 = .ok (.iload_n 1, 1) := by decide +kernel
theorem dX10_as_64 : decode cX10_as 64 = .ok (.iconst 1, 1) := by decide +kernel
theorem dX10_as_65 : decode cX10_as 65 = .ok (.invokevirtual 125, 3) := by decide +kernel
theorem dX10_as_68 : decode cX10_as 68 = .ok (.ireturn, 1) := by decide +kernel
theorem dX10_as_69 : decode cX10_as 69 = .ok (.iload_n 3, 1) := by decide +kernel
theorem dX10_as_70 : decode cX10_as 70 = .ok (.invokestatic 248, 3) := by decide +kernel
theorem dX10_as_73 : decode cX10_as 73 = .ok (.istore_n 3, 1) := by decide +kernel
theorem dX10_as_74 : decode cX10_as 74 = .ok (.iinc 4 1, 3) := by decide +kernel
theorem dX10_as_77 : decode cX10_as 77 = .ok (.goto (-35), 3) := by decide +kernel
theorem dX10_as_80 : decode cX10_as 80 = .ok (.bipush (-6), 2) := by decide +kernel
theorem dX10_as_82 : decode cX10_as 82 = .ok (.ireturn, 1) := by decide +kernel
theorem dX10_image_0 : decode cX10_image 0 = .ok (.aload_n 0, 1) := by decide +kernel
theorem dX10_image_1 : decode cX10_image 1 = .ok (.getfield 18, 3) := by decide +kernel
theorem dX10_image_4 : decode cX10_image 4 = .ok (.aload_n 0, 1) := by decide +kernel
theorem dX10_image_5 : decode cX10_image 5 = .ok (.getfield 12, 3) := by decide +kernel
theorem dX10_image_8 : decode cX10_image 8 = .ok (.invokevirtual 251, 3) := by decide +kernel
theorem dX10_image_11 : decode cX10_image 11 = .ok (.aload_n 0, 1) := by decide +kernel
theorem dX10_image_12 : decode cX10_image 12 = .ok (.iconst 1, 1) := by decide +kernel
theorem dX10_image_13 : decode cX10_image 13 = .ok (.putfield 21, 3) := by decide +kernel
theorem dX10_image_16 : decode cX10_image 16 = .ok (.aload_n 0, 1) := by decide +kernel
theorem dX10_image_17 : decode cX10_image 17 = .ok (.getfield 12, 3) := by decide +kernel
theorem dX10_image_20 : decode cX10_image 20 = .ok (.getfield 110, 3) := by decide +kernel
theorem dX10_image_23 : decode cX10_image 23 = .ok (.invokevirtual 89, 3) := by decide +kernel
theorem dX10_image_26 : decode cX10_image 26 = .ok (.ireturn, 1) := by decide +kernel
theorem dX10_undo_0 : decode cX10_undo 0 = .ok (.aload_n 0, 1) := by decide +kernel
theorem dX10_undo_1 : decode cX10_undo 1 = .ok (.getfield 21, 3) := by decide +kernel
theorem dX10_undo_4 : decode cX10_undo 4 = .ok (.ifCond .ne 6, 3) := by decide +kernel
theorem dX10_undo_7 : decode cX10_undo 7 = .ok (.bipush (-3), 2) := by decide +kernel
theorem dX10_undo_9 : decode cX10_undo 9 = .ok (.ireturn, 1) := by decide +kernel
theorem dX10_undo_10 : decode cX10_undo 10 = .ok (.aload_n 0, 1) := by decide +kernel
theorem dX10_undo_11 : decode cX10_undo 11 = .ok (.getfield 12, 3) := by decide +kernel
theorem dX10_undo_14 : decode cX10_undo 14 = .ok (.aload_n 0, 1) := by decide +kernel
theorem dX10_undo_15 : decode cX10_undo 15 = .ok (.getfield 18, 3) := by decide +kernel
theorem dX10_undo_18 : decode cX10_undo 18 = .ok (.invokevirtual 251, 3) := by decide +kernel
theorem dX10_undo_21 : decode cX10_undo 21 = .ok (.aload_n 0, 1) := by decide +kernel
theorem dX10_undo_22 : decode cX10_undo 22 = .ok (.getfield 12, 3) := by decide +kernel
theorem dX10_undo_25 : decode cX10_undo 25 = .ok (.getfield 110, 3) := by decide +kernel
theorem dX10_undo_28 : decode cX10_undo 28 = .ok (.invokevirtual 89, 3) := by decide +kernel
theorem dX10_undo_31 : decode cX10_undo 31 = .ok (.ireturn, 1) := by decide +kernel
theorem dX10_count_0 : decode cX10_count 0 = .ok (.iload_n 1, 1) := by decide +kernel
theorem dX10_count_1 : decode cX10_count 1 = .ok (.tableswitch 144 0 8 #[51, 62, 73, 81, 92, 103, 114, 125, 136], 51) := by decide +kernel
theorem dX10_count_52 : decode cX10_count 52 = .ok (.aload_n 0, 1) := by decide +kernel
theorem dX10_count_53 : decode cX10_count 53 = .ok (.getfield 12, 3) := by decide +kernel
theorem dX10_count_56 : decode cX10_count 56 = .ok (.getfield 110, 3) := by decide +kernel
theorem dX10_count_59 : decode cX10_count 59 = .ok (.invokevirtual 89, 3) := by decide +kernel
theorem dX10_count_62 : decode cX10_count 62 = .ok (.ireturn, 1) := by decide +kernel
theorem dX10_count_63 : decode cX10_count 63 = .ok (.aload_n 0, 1) := by decide +kernel
theorem dX10_count_64 : decode cX10_count 64 = .ok (.getfield 12, 3) := by decide +kernel
theorem dX10_count_67 : decode cX10_count 67 = .ok (.getfield 56, 3) := by decide +kernel
theorem dX10_count_70 : decode cX10_count 70 = .ok (.invokevirtual 89, 3) := by decide +kernel
theorem dX10_count_73 : decode cX10_count 73 = .ok (.ireturn, 1) := by decide +kernel
theorem dX10_count_74 : decode cX10_count 74 = .ok (.aload_n 0, 1) := by decide +kernel
theorem dX10_count_75 : decode cX10_count 75 = .ok (.getfield 12, 3) := by decide +kernel
theorem dX10_count_78 : decode cX10_count 78 = .ok (.getfield 92, 3) := by decide +kernel
theorem dX10_count_81 : decode cX10_count 81 = .ok (.ireturn, 1) := by decide +kernel
theorem dX10_count_82 : decode cX10_count 82 = .ok (.aload_n 0, 1) := by decide +kernel
theorem dX10_count_83 : decode cX10_count 83 = .ok (.getfield 12, 3) := by decide +kernel
theorem dX10_count_86 : decode cX10_count 86 = .ok (.getfield 143, 3) := by decide +kernel
theorem dX10_count_89 : decode cX10_count 89 = .ok (.invokevirtual 89, 3) := by decide +kernel
theorem dX10_count_92 : decode cX10_count 92 = .ok (.ireturn, 1) := by decide +kernel
theorem dX10_count_93 : decode cX10_count 93 = .ok (.aload_n 0, 1) := by decide +kernel
theorem dX10_count_94 : decode cX10_count 94 = .ok (.getfield 12, 3) := by decide +kernel
theorem dX10_count_97 : decode cX10_count 97 = .ok (.getfield 209, 3) := by decide +kernel
theorem dX10_count_100 : decode cX10_count 100 = .ok (.invokevirtual 89, 3) := by decide +kernel
theorem dX10_count_103 : decode cX10_count 103 = .ok (.ireturn, 1) := by decide +kernel
theorem dX10_count_104 : decode cX10_count 104 = .ok (.aload_n 0, 1) := by decide +kernel
theorem dX10_count_105 : decode cX10_count 105 = .ok (.getfield 12, 3) := by decide +kernel
theorem dX10_count_108 : decode cX10_count 108 = .ok (.getfield 222, 3) := by decide +kernel
theorem dX10_count_111 : decode cX10_count 111 = .ok (.invokevirtual 89, 3) := by decide +kernel
theorem dX10_count_114 : decode cX10_count 114 = .ok (.ireturn, 1) := by decide +kernel
theorem dX10_count_115 : decode cX10_count 115 = .ok (.aload_n 0, 1) := by decide +kernel
theorem dX10_count_116 : decode cX10_count 116 = .ok (.getfield 12, 3) := by decide +kernel
theorem dX10_count_119 : decode cX10_count 119 = .ok (.getfield 228, 3) := by decide +kernel
theorem dX10_count_122 : decode cX10_count 122 = .ok (.invokevirtual 89, 3) := by decide +kernel
theorem dX10_count_125 : decode cX10_count 125 = .ok (.ireturn, 1) := by decide +kernel
theorem dX10_count_126 : decode cX10_count 126 = .ok (.aload_n 0, 1) := by decide +kernel
theorem dX10_count_127 : decode cX10_count 127 = .ok (.getfield 12, 3) := by decide +kernel
theorem dX10_count_130 : decode cX10_count 130 = .ok (.getfield 27, 3) := by decide +kernel
theorem dX10_count_133 : decode cX10_count 133 = .ok (.invokevirtual 89, 3) := by decide +kernel
theorem dX10_count_136 : decode cX10_count 136 = .ok (.ireturn, 1) := by decide +kernel
theorem dX10_count_137 : decode cX10_count 137 = .ok (.aload_n 0, 1) := by decide +kernel
theorem dX10_count_138 : decode cX10_count 138 = .ok (.getfield 67, 3) := by decide +kernel
theorem dX10_count_141 : decode cX10_count 141 = .ok (.invokevirtual 254, 3) := by decide +kernel
theorem dX10_count_144 : decode cX10_count 144 = .ok (.ireturn, 1) := by decide +kernel
theorem dX10_count_145 : decode cX10_count 145 = .ok (.iconst (-1), 1) := by decide +kernel
theorem dX10_count_146 : decode cX10_count 146 = .ok (.ireturn, 1) := by decide +kernel
theorem dX10_isOutside_0 : decode cX10_isOutside 0 = .ok (.iload_n 0, 1) := by decide +kernel
theorem dX10_isOutside_1 : decode cX10_isOutside 1 = .ok (.iload_n 1, 1) := by decide +kernel
theorem dX10_isOutside_2 : decode cX10_isOutside 2 = .ok (.if_icmp .lt 8, 3) := by decide +kernel
theorem dX10_isOutside_5 : decode cX10_isOutside 5 = .ok (.iload_n 0, 1) := by decide +kernel
theorem dX10_isOutside_6 : decode cX10_isOutside 6 = .ok (.iload_n 2, 1) := by decide +kernel
theorem dX10_isOutside_7 : decode cX10_isOutside 7 = .ok (.if_icmp .le 7, 3) := by decide +kernel
theorem dX10_isOutside_10 : decode cX10_isOutside 10 = .ok (.iconst 1, 1) := by decide +kernel
theorem dX10_isOutside_11 : decode cX10_isOutside 11 = .ok (.goto 4, 3) := by decide +kernel
theorem dX10_isOutside_14 : decode cX10_isOutside 14 = .ok (.iconst 0, 1) := by decide +kernel
theorem dX10_isOutside_15 : decode cX10_isOutside 15 = .ok (.ireturn, 1) := by decide +kernel
theorem dX10_kindAbove_0 : decode cX10_kindAbove 0 = .ok (.iload_n 0, 1) := by decide +kernel
theorem dX10_kindAbove_1 : decode cX10_kindAbove 1 = .ok (.ifCond .lt 19, 3) := by decide +kernel
theorem dX10_kindAbove_4 : decode cX10_kindAbove 4 = .ok (.iload_n 0, 1) := by decide +kernel
theorem dX10_kindAbove_5 : decode cX10_kindAbove 5 = .ok (.getstatic 244, 3) := by decide +kernel
theorem dX10_kindAbove_8 : decode cX10_kindAbove 8 = .ok (.arraylength, 1) := by decide +kernel
theorem dX10_kindAbove_9 : decode cX10_kindAbove 9 = .ok (.if_icmp .ge 11, 3) := by decide +kernel
theorem dX10_kindAbove_12 : decode cX10_kindAbove 12 = .ok (.getstatic 244, 3) := by decide +kernel
theorem dX10_kindAbove_15 : decode cX10_kindAbove 15 = .ok (.iload_n 0, 1) := by decide +kernel
theorem dX10_kindAbove_16 : decode cX10_kindAbove 16 = .ok (.iaload, 1) := by decide +kernel
theorem dX10_kindAbove_17 : decode cX10_kindAbove 17 = .ok (.goto 4, 3) := by decide +kernel
theorem dX10_kindAbove_20 : decode cX10_kindAbove 20 = .ok (.iconst (-1), 1) := by decide +kernel
theorem dX10_kindAbove_21 : decode cX10_kindAbove 21 = .ok (.ireturn, 1) := by decide +kernel
theorem dX10_fraction_0 : decode cX10_fraction 0 = .ok (.iload_n 0, 1) := by decide +kernel
theorem dX10_fraction_1 : decode cX10_fraction 1 = .ok (.iload_n 1, 1) := by decide +kernel
theorem dX10_fraction_2 : decode cX10_fraction 2 = .ok (.invokestatic 257, 3) := by decide +kernel
theorem dX10_fraction_5 : decode cX10_fraction 5 = .ok (.istore_n 3, 1) := by decide +kernel
theorem dX10_fraction_6 : decode cX10_fraction 6 = .ok (.iload_n 1, 1) := by decide +kernel
theorem dX10_fraction_7 : decode cX10_fraction 7 = .ok (.ifCond .le 7, 3) := by decide +kernel
theorem dX10_fraction_10 : decode cX10_fraction 10 = .ok (.iload_n 3, 1) := by decide +kernel
theorem dX10_fraction_11 : decode cX10_fraction 11 = .ok (.ifCond .gt 7, 3) := by decide +kernel
theorem dX10_fraction_14 : decode cX10_fraction 14 = .ok (.ldc2_w 162, 3) := by decide +kernel
theorem dX10_fraction_17 : decode cX10_fraction 17 = .ok (.lreturn, 1) := by decide +kernel
theorem dX10_fraction_18 : decode cX10_fraction 18 = .ok (.iload_n 2, 1) := by decide +kernel
theorem dX10_fraction_19 : decode cX10_fraction 19 = .ok (.ifCond .ne 7, 3) := by decide +kernel
theorem dX10_fraction_22 : decode cX10_fraction 22 = .ok (.iload_n 0, 1) := by decide +kernel
theorem dX10_fraction_23 : decode cX10_fraction 23 = .ok (.goto 4, 3) := by decide +kernel
theorem dX10_fraction_26 : decode cX10_fraction 26 = .ok (.iload_n 1, 1) := by decide +kernel
theorem dX10_fraction_27 : decode cX10_fraction 27 = .ok (.iload_n 3, 1) := by decide +kernel
theorem dX10_fraction_28 : decode cX10_fraction 28 = .ok (.idiv, 1) := by decide +kernel
theorem dX10_fraction_29 : decode cX10_fraction 29 = .ok (.i2l, 1) := by decide +kernel
theorem dX10_fraction_30 : decode cX10_fraction 30 = .ok (.lreturn, 1) := by decide +kernel
theorem dX10_commonDivisor_0 : decode cX10_commonDivisor 0 = .ok (.iload_n 0, 1) := by decide +kernel
theorem dX10_commonDivisor_1 : decode cX10_commonDivisor 1 = .ok (.iload_n 1, 1) := by decide +kernel
theorem dX10_commonDivisor_2 : decode cX10_commonDivisor 2 = .ok (.invokestatic 260, 3) := by decide +kernel
theorem dX10_commonDivisor_5 : decode cX10_commonDivisor 5 = .ok (.istore_n 2, 1) := by decide +kernel
theorem dX10_commonDivisor_6 : decode cX10_commonDivisor 6 = .ok (.iload_n 0, 1) := by decide +kernel
theorem dX10_commonDivisor_7 : decode cX10_commonDivisor 7 = .ok (.iload_n 1, 1) := by decide +kernel
theorem dX10_commonDivisor_8 : decode cX10_commonDivisor 8 = .ok (.invokestatic 265, 3) := by decide +kernel
theorem dX10_commonDivisor_11 : decode cX10_commonDivisor 11 = .ok (.istore_n 3, 1) := by decide +kernel
theorem dX10_commonDivisor_12 : decode cX10_commonDivisor 12 = .ok (.iconst 0, 1) := by decide +kernel
theorem dX10_commonDivisor_13 : decode cX10_commonDivisor 13 = .ok (.istore 4, 2) := by decide +kernel
theorem dX10_commonDivisor_15 : decode cX10_commonDivisor 15 = .ok (.iload 4, 2) := by decide +kernel
theorem dX10_commonDivisor_17 : decode cX10_commonDivisor 17 = .ok (.bipush 100, 2) := by decide +kernel
theorem dX10_commonDivisor_19 : decode cX10_commonDivisor 19 = .ok (.if_icmp .ge 23, 3) := by decide +kernel
theorem dX10_commonDivisor_22 : decode cX10_commonDivisor 22 = .ok (.iload_n 3, 1) := by decide +kernel
theorem dX10_commonDivisor_23 : decode cX10_commonDivisor 23 = .ok (.ifCond .le 19, 3) := by decide +kernel
theorem dX10_commonDivisor_26 : decode cX10_commonDivisor 26 = .ok (.iload_n 2, 1) := by decide +kernel
theorem dX10_commonDivisor_27 : decode cX10_commonDivisor 27 = .ok (.iload_n 3, 1) := by decide +kernel
theorem dX10_commonDivisor_28 : decode cX10_commonDivisor 28 = .ok (.irem, 1) := by decide +kernel
theorem dX10_commonDivisor_29 : decode cX10_commonDivisor 29 = .ok (.istore 5, 2) := by decide +kernel
theorem dX10_commonDivisor_31 : decode cX10_commonDivisor 31 = .ok (.iload_n 3, 1) := by decide +kernel
theorem dX10_commonDivisor_32 : decode cX10_commonDivisor 32 = .ok (.istore_n 2, 1) := by decide +kernel
theorem dX10_commonDivisor_33 : decode cX10_commonDivisor 33 = .ok (.iload 5, 2) := by decide +kernel
theorem dX10_commonDivisor_35 : decode cX10_commonDivisor 35 = .ok (.istore_n 3, 1) := by decide +kernel
theorem dX10_commonDivisor_36 : decode cX10_commonDivisor 36 = .ok (.iinc 4 1, 3) := by decide +kernel
theorem dX10_commonDivisor_39 : decode cX10_commonDivisor 39 = .ok (.goto (-24), 3) := by decide +kernel
theorem dX10_commonDivisor_42 : decode cX10_commonDivisor 42 = .ok (.iload_n 2, 1) := by decide +kernel
theorem dX10_commonDivisor_43 : decode cX10_commonDivisor 43 = .ok (.ireturn, 1) := by decide +kernel
theorem dX11_init_0 : decode cX11_init 0 = .ok (.aload_n 0, 1) := by decide +kernel
theorem dX11_init_1 : decode cX11_init 1 = .ok (.invokespecial 3, 3) := by decide +kernel
theorem dX11_init_4 : decode cX11_init 4 = .ok (.aload_n 0, 1) := by decide +kernel
theorem dX11_init_5 : decode cX11_init 5 = .ok (.sipush 932, 3) := by decide +kernel
theorem dX11_init_8 : decode cX11_init 8 = .ok (.newarray .int, 2) := by decide +kernel
theorem dX11_init_10 : decode cX11_init 10 = .ok (.putfield 9, 3) := by decide +kernel
theorem dX11_init_13 : decode cX11_init 13 = .ok (.aload_n 0, 1) := by decide +kernel
theorem dX11_init_14 : decode cX11_init 14 = .ok (.sipush 932, 3) := by decide +kernel
theorem dX11_init_17 : decode cX11_init 17 = .ok (.newarray .int, 2) := by decide +kernel
theorem dX11_init_19 : decode cX11_init 19 = .ok (.putfield 15, 3) := by decide +kernel
theorem dX11_init_22 : decode cX11_init 22 = .ok (.aload_n 0, 1) := by decide +kernel
theorem dX11_init_23 : decode cX11_init 23 = .ok (.bipush 6, 2) := by decide +kernel
theorem dX11_init_25 : decode cX11_init 25 = .ok (.newarray .int, 2) := by decide +kernel
theorem dX11_init_27 : decode cX11_init 27 = .ok (.putfield 18, 3) := by decide +kernel
theorem dX11_init_30 : decode cX11_init 30 = .ok (.aload_n 0, 1) := by decide +kernel
theorem dX11_init_31 : decode cX11_init 31 = .ok (.bipush 64, 2) := by decide +kernel
theorem dX11_init_33 : decode cX11_init 33 = .ok (.newarray .boolean, 2) := by decide +kernel
theorem dX11_init_35 : decode cX11_init 35 = .ok (.putfield 21, 3) := by decide +kernel
theorem dX11_init_38 : decode cX11_init 38 = .ok (.aload_n 0, 1) := by decide +kernel
theorem dX11_init_39 : decode cX11_init 39 = .ok (.iconst 4, 1) := by decide +kernel
theorem dX11_init_40 : decode cX11_init 40 = .ok (.newarray .int, 2) := by decide +kernel
theorem dX11_init_42 : decode cX11_init 42 = .ok (.putfield 25, 3) := by decide +kernel
theorem dX11_init_45 : decode cX11_init 45 = .ok (.aload_n 0, 1) := by decide +kernel
theorem dX11_init_46 : decode cX11_init 46 = .ok (.bipush 40, 2) := by decide +kernel
theorem dX11_init_48 : decode cX11_init 48 = .ok (.newarray .int, 2) := by decide +kernel
theorem dX11_init_50 : decode cX11_init 50 = .ok (.putfield 28, 3) := by decide +kernel
theorem dX11_init_53 : decode cX11_init 53 = .ok (.aload_n 0, 1) := by decide +kernel
theorem dX11_init_54 : decode cX11_init 54 = .ok (.iconst 4, 1) := by decide +kernel
theorem dX11_init_55 : decode cX11_init 55 = .ok (.newarray .int, 2) := by decide +kernel
theorem dX11_init_57 : decode cX11_init 57 = .ok (.putfield 31, 3) := by decide +kernel
theorem dX11_init_60 : decode cX11_init 60 = .ok (.aload_n 0, 1) := by decide +kernel
theorem dX11_init_61 : decode cX11_init 61 = .ok (.bipush 40, 2) := by decide +kernel
theorem dX11_init_63 : decode cX11_init 63 = .ok (.newarray .int, 2) := by decide +kernel
theorem dX11_init_65 : decode cX11_init 65 = .ok (.putfield 34, 3) := by decide +kernel
theorem dX11_init_68 : decode cX11_init 68 = .ok (.aload_n 0, 1) := by decide +kernel
theorem dX11_init_69 : decode cX11_init 69 = .ok (.iconst 4, 1) := by decide +kernel
theorem dX11_init_70 : decode cX11_init 70 = .ok (.newarray .int, 2) := by decide +kernel
theorem dX11_init_72 : decode cX11_init 72 = .ok (.putfield 37, 3) := by decide +kernel
theorem dX11_init_75 : decode cX11_init 75 = .ok (.aload_n 0, 1) := by decide +kernel
theorem dX11_init_76 : decode cX11_init 76 = .ok (.iconst 4, 1) := by decide +kernel
theorem dX11_init_77 : decode cX11_init 77 = .ok (.newarray .int, 2) := by decide +kernel
theorem dX11_init_79 : decode cX11_init 79 = .ok (.putfield 40, 3) := by decide +kernel
theorem dX11_init_82 : decode cX11_init 82 = .ok (.aload_n 0, 1) := by decide +kernel
theorem dX11_init_83 : decode cX11_init 83 = .ok (.iconst 4, 1) := by decide +kernel
theorem dX11_init_84 : decode cX11_init 84 = .ok (.newarray .int, 2) := by decide +kernel
theorem dX11_init_86 : decode cX11_init 86 = .ok (.putfield 43, 3) := by decide +kernel
theorem dX11_init_89 : decode cX11_init 89 = .ok (.aload_n 0, 1) := by decide +kernel
theorem dX11_init_90 : decode cX11_init 90 = .ok (.iconst 4, 1) := by decide +kernel
theorem dX11_init_91 : decode cX11_init 91 = .ok (.newarray .int, 2) := by decide +kernel
theorem dX11_init_93 : decode cX11_init 93 = .ok (.putfield 46, 3) := by decide +kernel
theorem dX11_init_96 : decode cX11_init 96 = .ok (.aload_n 0, 1) := by decide +kernel
theorem dX11_init_97 : decode cX11_init 97 = .ok (.bipush 100, 2) := by decide +kernel
theorem dX11_init_99 : decode cX11_init 99 = .ok (.newarray .boolean, 2) := by decide +kernel
theorem dX11_init_101 : decode cX11_init 101 = .ok (.putfield 49, 3) := by decide +kernel
theorem dX11_init_104 : decode cX11_init 104 = .ok (.aload_n 0, 1) := by decide +kernel
theorem dX11_init_105 : decode cX11_init 105 = .ok (.iconst 5, 1) := by decide +kernel
theorem dX11_init_106 : decode cX11_init 106 = .ok (.newarray .int, 2) := by decide +kernel
theorem dX11_init_108 : decode cX11_init 108 = .ok (.putfield 52, 3) := by decide +kernel
theorem dX11_init_111 : decode cX11_init 111 = .ok (.aload_n 0, 1) := by decide +kernel
theorem dX11_init_112 : decode cX11_init 112 = .ok (.iconst 5, 1) := by decide +kernel
theorem dX11_init_113 : decode cX11_init 113 = .ok (.newarray .int, 2) := by decide +kernel
theorem dX11_init_115 : decode cX11_init 115 = .ok (.putfield 55, 3) := by decide +kernel
theorem dX11_init_118 : decode cX11_init 118 = .ok (.aload_n 0, 1) := by decide +kernel
theorem dX11_init_119 : decode cX11_init 119 = .ok (.bipush 20, 2) := by decide +kernel
theorem dX11_init_121 : decode cX11_init 121 = .ok (.newarray .int, 2) := by decide +kernel
theorem dX11_init_123 : decode cX11_init 123 = .ok (.putfield 58, 3) := by decide +kernel
theorem dX11_init_126 : decode cX11_init 126 = .ok (.aload_n 0, 1) := by decide +kernel
theorem dX11_init_127 : decode cX11_init 127 = .ok (.getfield 9, 3) := by decide +kernel
theorem dX11_init_130 : decode cX11_init 130 = .ok (.bipush 8, 2) := by decide +kernel
theorem dX11_init_132 : decode cX11_init 132 = .ok (.iconst (-1), 1) := by decide +kernel
theorem dX11_init_133 : decode cX11_init 133 = .ok (.iastore, 1) := by decide +kernel
theorem dX11_init_134 : decode cX11_init 134 = .ok (.return_, 1) := by decide +kernel
theorem dX11_in_0 : decode cX11_in 0 = .ok (.iload_n 0, 1) := by decide +kernel
theorem dX11_in_1 : decode cX11_in 1 = .ok (.iload_n 1, 1) := by decide +kernel
theorem dX11_in_2 : decode cX11_in 2 = .ok (.if_icmp .lt 12, 3) := by decide +kernel
theorem dX11_in_5 : decode cX11_in 5 = .ok (.iload_n 0, 1) := by decide +kernel
theorem dX11_in_6 : decode cX11_in 6 = .ok (.iload_n 2, 1) := by decide +kernel
theorem dX11_in_7 : decode cX11_in 7 = .ok (.if_icmp .gt 7, 3) := by decide +kernel
theorem dX11_in_10 : decode cX11_in 10 = .ok (.iconst 1, 1) := by decide +kernel
theorem dX11_in_11 : decode cX11_in 11 = .ok (.goto 4, 3) := by decide +kernel
theorem dX11_in_14 : decode cX11_in 14 = .ok (.iconst 0, 1) := by decide +kernel
theorem dX11_in_15 : decode cX11_in 15 = .ok (.ireturn, 1) := by decide +kernel
theorem dX11_one_0 : decode cX11_one 0 = .ok (.iload_n 0, 1) := by decide +kernel
theorem dX11_one_1 : decode cX11_one 1 = .ok (.iconst 1, 1) := by decide +kernel
theorem dX11_one_2 : decode cX11_one 2 = .ok (.if_icmp .ge 7, 3) := by decide +kernel
theorem dX11_one_5 : decode cX11_one 5 = .ok (.iconst 1, 1) := by decide +kernel
theorem dX11_one_6 : decode cX11_one 6 = .ok (.goto 4, 3) := by decide +kernel
theorem dX11_one_9 : decode cX11_one 9 = .ok (.iload_n 0, 1) := by decide +kernel
theorem dX11_one_10 : decode cX11_one 10 = .ok (.ireturn, 1) := by decide +kernel
theorem dX11_isCoin_0 : decode cX11_isCoin 0 = .ok (.iload_n 1, 1) := by decide +kernel
theorem dX11_isCoin_1 : decode cX11_isCoin 1 = .ok (.iconst 0, 1) := by decide +kernel
theorem dX11_isCoin_2 : decode cX11_isCoin 2 = .ok (.aload_n 0, 1) := by decide +kernel
theorem dX11_isCoin_3 : decode cX11_isCoin 3 = .ok (.getfield 9, 3) := by decide +kernel
theorem dX11_isCoin_6 : decode cX11_isCoin 6 = .ok (.iconst 0, 1) := by decide +kernel
theorem dX11_isCoin_7 : decode cX11_isCoin 7 = .ok (.iaload, 1) := by decide +kernel
theorem dX11_isCoin_8 : decode cX11_isCoin 8 = .ok (.iconst 1, 1) := by decide +kernel
theorem dX11_isCoin_9 : decode cX11_isCoin 9 = .ok (.isub, 1) := by decide +kernel
theorem dX11_isCoin_10 : decode cX11_isCoin 10 = .ok (.invokestatic 65, 3) := by decide +kernel
theorem dX11_isCoin_13 : decode cX11_isCoin 13 = .ok (.ireturn, 1) := by decide +kernel
theorem dX11_feed_0 : decode cX11_feed 0 = .ok (.iload_n 1, 1) := by decide +kernel
theorem dX11_feed_1 : decode cX11_feed 1 = .ok (.iconst 0, 1) := by decide +kernel
theorem dX11_feed_2 : decode cX11_feed 2 = .ok (.bipush 127, 2) := by decide +kernel
theorem dX11_feed_4 : decode cX11_feed 4 = .ok (.invokestatic 65, 3) := by decide +kernel
theorem dX11_feed_7 : decode cX11_feed 7 = .ok (.ifCond .ne 6, 3) := by decide +kernel
theorem dX11_feed_10 : decode cX11_feed 10 = .ok (.bipush (-2), 2) := by decide +kernel
theorem dX11_feed_12 : decode cX11_feed 12 = .ok (.ireturn, 1) := by decide +kernel
theorem dX11_feed_13 : decode cX11_feed 13 = .ok (.aload_n 0, 1) := by decide +kernel
theorem dX11_feed_14 : decode cX11_feed 14 = .ok (.getfield 9, 3) := by decide +kernel
theorem dX11_feed_17 : decode cX11_feed 17 = .ok (.bipush 7, 2) := by decide +kernel
theorem dX11_feed_19 : decode cX11_feed 19 = .ok (.iaload, 1) := by decide +kernel
theorem dX11_feed_20 : decode cX11_feed 20 = .ok (.bipush 100, 2) := by decide +kernel
theorem dX11_feed_22 : decode cX11_feed 22 = .ok (.if_icmp .ne 6, 3) := by decide +kernel
theorem dX11_feed_25 : decode cX11_feed 25 = .ok (.bipush (-4), 2) := by decide +kernel
theorem dX11_feed_27 : decode cX11_feed 27 = .ok (.ireturn, 1) := by decide +kernel
theorem dX11_feed_28 : decode cX11_feed 28 = .ok (.aload_n 0, 1) := by decide +kernel
theorem dX11_feed_29 : decode cX11_feed 29 = .ok (.getfield 9, 3) := by decide +kernel
theorem dX11_feed_32 : decode cX11_feed 32 = .ok (.bipush 117, 2) := by decide +kernel
theorem dX11_feed_34 : decode cX11_feed 34 = .ok (.aload_n 0, 1) := by decide +kernel
theorem dX11_feed_35 : decode cX11_feed 35 = .ok (.getfield 9, 3) := by decide +kernel
theorem dX11_feed_38 : decode cX11_feed 38 = .ok (.bipush 7, 2) := by decide +kernel
theorem dX11_feed_40 : decode cX11_feed 40 = .ok (.iaload, 1) := by decide +kernel
theorem dX11_feed_41 : decode cX11_feed 41 = .ok (.iadd, 1) := by decide +kernel
theorem dX11_feed_42 : decode cX11_feed 42 = .ok (.iload_n 1, 1) := by decide +kernel
theorem dX11_feed_43 : decode cX11_feed 43 = .ok (.iastore, 1) := by decide +kernel
theorem dX11_feed_44 : decode cX11_feed 44 = .ok (.aload_n 0, 1) := by decide +kernel
theorem dX11_feed_45 : decode cX11_feed 45 = .ok (.getfield 9, 3) := by decide +kernel
theorem dX11_feed_48 : decode cX11_feed 48 = .ok (.bipush 7, 2) := by decide +kernel
theorem dX11_feed_50 : decode cX11_feed 50 = .ok (.dup2, 1) := by decide +kernel
theorem dX11_feed_51 : decode cX11_feed 51 = .ok (.iaload, 1) := by decide +kernel
theorem dX11_feed_52 : decode cX11_feed 52 = .ok (.iconst 1, 1) := by decide +kernel
theorem dX11_feed_53 : decode cX11_feed 53 = .ok (.iadd, 1) := by decide +kernel
theorem dX11_feed_54 : decode cX11_feed 54 = .ok (.iastore, 1) := by decide +kernel
theorem dX11_feed_55 : decode cX11_feed 55 = .ok (.aload_n 0, 1) := by decide +kernel
theorem dX11_feed_56 : decode cX11_feed 56 = .ok (.getfield 9, 3) := by decide +kernel
theorem dX11_feed_59 : decode cX11_feed 59 = .ok (.bipush 7, 2) := by decide +kernel
theorem dX11_feed_61 : decode cX11_feed 61 = .ok (.iaload, 1) := by decide +kernel
theorem dX11_feed_62 : decode cX11_feed 62 = .ok (.ireturn, 1) := by decide +kernel
theorem dX11_here_0 : decode cX11_here 0 = .ok (.aload_n 0, 1) := by decide +kernel
theorem dX11_here_1 : decode cX11_here 1 = .ok (.getfield 69, 3) := by decide +kernel
theorem dX11_here_4 : decode cX11_here 4 = .ok (.aload_n 0, 1) := by decide +kernel
theorem dX11_here_5 : decode cX11_here 5 = .ok (.getfield 72, 3) := by decide +kernel
theorem dX11_here_8 : decode cX11_here 8 = .ok (.if_icmp .ge 18, 3) := by decide +kernel
theorem dX11_here_11 : decode cX11_here 11 = .ok (.aload_n 0, 1) := by decide +kernel
theorem dX11_here_12 : decode cX11_here 12 = .ok (.getfield 9, 3) := by decide +kernel
theorem dX11_here_15 : decode cX11_here 15 = .ok (.bipush 117, 2) := by decide +kernel
theorem dX11_here_17 : decode cX11_here 17 = .ok (.aload_n 0, 1) := by decide +kernel
theorem dX11_here_18 : decode cX11_here 18 = .ok (.getfield 69, 3) := by decide +kernel
theorem dX11_here_21 : decode cX11_here 21 = .ok (.iadd, 1) := by decide +kernel
theorem dX11_here_22 : decode cX11_here 22 = .ok (.iaload, 1) := by decide +kernel
theorem dX11_here_23 : decode cX11_here 23 = .ok (.goto 4, 3) := by decide +kernel
theorem dX11_here_26 : decode cX11_here 26 = .ok (.iconst (-1), 1) := by decide +kernel
theorem dX11_here_27 : decode cX11_here 27 = .ok (.ireturn, 1) := by decide +kernel
theorem dX11_must_0 : decode cX11_must 0 = .ok (.aload_n 0, 1) := by decide +kernel
theorem dX11_must_1 : decode cX11_must 1 = .ok (.aload_n 0, 1) := by decide +kernel
theorem dX11_must_2 : decode cX11_must 2 = .ok (.getfield 75, 3) := by decide +kernel
theorem dX11_must_5 : decode cX11_must 5 = .ok (.ifCond .ne 11, 3) := by decide +kernel
theorem dX11_must_8 : decode cX11_must 8 = .ok (.aload_n 0, 1) := by decide +kernel
theorem dX11_must_9 : decode cX11_must 9 = .ok (.invokevirtual 79, 3) := by decide +kernel
theorem dX11_must_12 : decode cX11_must 12 = .ok (.iload_n 1, 1) := by decide +kernel
theorem dX11_must_13 : decode cX11_must 13 = .ok (.if_icmp .eq 7, 3) := by decide +kernel
theorem dX11_must_16 : decode cX11_must 16 = .ok (.iconst 1, 1) := by decide +kernel
theorem dX11_must_17 : decode cX11_must 17 = .ok (.goto 4, 3) := by decide +kernel
theorem dX11_must_20 : decode cX11_must 20 = .ok (.iconst 0, 1) := by decide +kernel
theorem dX11_must_21 : decode cX11_must 21 = .ok (.putfield 75, 3) := by decide +kernel
theorem dX11_must_24 : decode cX11_must 24 = .ok (.aload_n 0, 1) := by decide +kernel
theorem dX11_must_25 : decode cX11_must 25 = .ok (.dup, 1) := by decide +kernel
theorem dX11_must_26 : decode cX11_must 26 = .ok (.getfield 69, 3) := by decide +kernel
theorem dX11_must_29 : decode cX11_must 29 = .ok (.aload_n 0, 1) := by decide +kernel
theorem dX11_must_30 : decode cX11_must 30 = .ok (.getfield 75, 3) := by decide +kernel
theorem dX11_must_33 : decode cX11_must 33 = .ok (.ifCond .eq 7, 3) := by decide +kernel
theorem dX11_must_36 : decode cX11_must 36 = .ok (.iconst 0, 1) := by decide +kernel
theorem dX11_must_37 : decode cX11_must 37 = .ok (.goto 4, 3) := by decide +kernel
theorem dX11_must_40 : decode cX11_must 40 = .ok (.iconst 1, 1) := by decide +kernel
theorem dX11_must_41 : decode cX11_must 41 = .ok (.iadd, 1) := by decide +kernel
theorem dX11_must_42 : decode cX11_must 42 = .ok (.putfield 69, 3) := by decide +kernel
theorem dX11_must_45 : decode cX11_must 45 = .ok (.return_, 1) := by decide +kernel
theorem dX11_spells_0 : decode cX11_spells 0 = .ok (.iconst 0, 1) := by decide +kernel
theorem dX11_spells_1 : decode cX11_spells 1 = .ok (.istore_n 2, 1) := by decide +kernel
theorem dX11_spells_2 : decode cX11_spells 2 = .ok (.iload_n 2, 1) := by decide +kernel
theorem dX11_spells_3 : decode cX11_spells 3 = .ok (.aload_n 1, 1) := by decide +kernel
theorem dX11_spells_4 : decode cX11_spells 4 = .ok (.invokevirtual 83, 3) := by decide +kernel
theorem dX11_spells_7 : decode cX11_spells 7 = .ok (.if_icmp .ge 18, 3) := by decide +kernel
theorem dX11_spells_10 : decode cX11_spells 10 = .ok (.aload_n 0, 1) := by decide +kernel
theorem dX11_spells_11 : decode cX11_spells 11 = .ok (.aload_n 1, 1) := by decide +kernel
theorem dX11_spells_12 : decode cX11_spells 12 = .ok (.iload_n 2, 1) := by decide +kernel
theorem dX11_spells_13 : decode cX11_spells 13 = .ok (.invokevirtual 88, 3) := by decide +kernel
theorem dX11_spells_16 : decode cX11_spells 16 = .ok (.invokevirtual 92, 3) := by decide +kernel
theorem dX11_spells_19 : decode cX11_spells 19 = .ok (.iinc 2 1, 3) := by decide +kernel
theorem dX11_spells_22 : decode cX11_spells 22 = .ok (.goto (-20), 3) := by decide +kernel
theorem dX11_spells_25 : decode cX11_spells 25 = .ok (.return_, 1) := by decide +kernel
theorem dX11_figures_0 : decode cX11_figures 0 = .ok (.aload_n 0, 1) := by decide +kernel
theorem dX11_figures_1 : decode cX11_figures 1 = .ok (.aload_n 0, 1) := by decide +kernel
theorem dX11_figures_2 : decode cX11_figures 2 = .ok (.getfield 75, 3) := by decide +kernel
theorem dX11_figures_5 : decode cX11_figures 5 = .ok (.ifCond .ne 17, 3) := by decide +kernel
theorem dX11_figures_8 : decode cX11_figures 8 = .ok (.aload_n 0, 1) := by decide +kernel
theorem dX11_figures_9 : decode cX11_figures 9 = .ok (.invokevirtual 79, 3) := by decide +kernel
theorem dX11_figures_12 : decode cX11_figures 12 = .ok (.bipush 48, 2) := by decide +kernel
theorem dX11_figures_14 : decode cX11_figures 14 = .ok (.bipush 57, 2) := by decide +kernel
theorem dX11_figures_16 : decode cX11_figures 16 = .ok (.invokestatic 65, 3) := by decide +kernel
theorem dX11_figures_19 : decode cX11_figures 19 = .ok (.ifCond .ne 7, 3) := by decide +kernel
theorem dX11_figures_22 : decode cX11_figures 22 = .ok (.iconst 1, 1) := by decide +kernel
theorem dX11_figures_23 : decode cX11_figures 23 = .ok (.goto 4, 3) := by decide +kernel
theorem dX11_figures_26 : decode cX11_figures 26 = .ok (.iconst 0, 1) := by decide +kernel
theorem dX11_figures_27 : decode cX11_figures 27 = .ok (.putfield 75, 3) := by decide +kernel
theorem dX11_figures_30 : decode cX11_figures 30 = .ok (.iconst 0, 1) := by decide +kernel
theorem dX11_figures_31 : decode cX11_figures 31 = .ok (.istore_n 1, 1) := by decide +kernel
theorem dX11_figures_32 : decode cX11_figures 32 = .ok (.iconst 0, 1) := by decide +kernel
theorem dX11_figures_33 : decode cX11_figures 33 = .ok (.istore_n 2, 1) := by decide +kernel
theorem dX11_figures_34 : decode cX11_figures 34 = .ok (.iload_n 2, 1) := by decide +kernel
theorem dX11_figures_35 : decode cX11_figures 35 = .ok (.iconst 2, 1) := by decide +kernel
theorem dX11_figures_36 : decode cX11_figures 36 = .ok (.if_icmp .ge 61, 3) := by decide +kernel
theorem dX11_figures_39 : decode cX11_figures 39 = .ok (.aload_n 0, 1) := by decide +kernel
theorem dX11_figures_40 : decode cX11_figures 40 = .ok (.getfield 75, 3) := by decide +kernel
theorem dX11_figures_43 : decode cX11_figures 43 = .ok (.ifCond .ne 54, 3) := by decide +kernel
theorem dX11_figures_46 : decode cX11_figures 46 = .ok (.aload_n 0, 1) := by decide +kernel
theorem dX11_figures_47 : decode cX11_figures 47 = .ok (.invokevirtual 79, 3) := by decide +kernel
theorem dX11_figures_50 : decode cX11_figures 50 = .ok (.bipush 48, 2) := by decide +kernel
theorem dX11_figures_52 : decode cX11_figures 52 = .ok (.bipush 57, 2) := by decide +kernel
theorem dX11_figures_54 : decode cX11_figures 54 = .ok (.invokestatic 65, 3) := by decide +kernel
theorem dX11_figures_57 : decode cX11_figures 57 = .ok (.ifCond .eq 40, 3) := by decide +kernel
theorem dX11_figures_60 : decode cX11_figures 60 = .ok (.iload_n 2, 1) := by decide +kernel
theorem dX11_figures_61 : decode cX11_figures 61 = .ok (.ifCond .eq 7, 3) := by decide +kernel
theorem dX11_figures_64 : decode cX11_figures 64 = .ok (.iload_n 1, 1) := by decide +kernel
theorem dX11_figures_65 : decode cX11_figures 65 = .ok (.ifCond .le 32, 3) := by decide +kernel
theorem dX11_figures_68 : decode cX11_figures 68 = .ok (.bipush 10, 2) := by decide +kernel
theorem dX11_figures_70 : decode cX11_figures 70 = .ok (.iload_n 1, 1) := by decide +kernel
theorem dX11_figures_71 : decode cX11_figures 71 = .ok (.imul, 1) := by decide +kernel
theorem dX11_figures_72 : decode cX11_figures 72 = .ok (.aload_n 0, 1) := by decide +kernel
theorem dX11_figures_73 : decode cX11_figures 73 = .ok (.invokevirtual 79, 3) := by decide +kernel
theorem dX11_figures_76 : decode cX11_figures 76 = .ok (.iadd, 1) := by decide +kernel
theorem dX11_figures_77 : decode cX11_figures 77 = .ok (.bipush 48, 2) := by decide +kernel
theorem dX11_figures_79 : decode cX11_figures 79 = .ok (.isub, 1) := by decide +kernel
theorem dX11_figures_80 : decode cX11_figures 80 = .ok (.istore_n 1, 1) := by decide +kernel
theorem dX11_figures_81 : decode cX11_figures 81 = .ok (.aload_n 0, 1) := by decide +kernel
theorem dX11_figures_82 : decode cX11_figures 82 = .ok (.dup, 1) := by decide +kernel
theorem dX11_figures_83 : decode cX11_figures 83 = .ok (.getfield 69, 3) := by decide +kernel
theorem dX11_figures_86 : decode cX11_figures 86 = .ok (.iconst 1, 1) := by decide +kernel
theorem dX11_figures_87 : decode cX11_figures 87 = .ok (.iadd, 1) := by decide +kernel
theorem dX11_figures_88 : decode cX11_figures 88 = .ok (.putfield 69, 3) := by decide +kernel
theorem dX11_figures_91 : decode cX11_figures 91 = .ok (.iinc 2 1, 3) := by decide +kernel
theorem dX11_figures_94 : decode cX11_figures 94 = .ok (.goto (-60), 3) := by decide +kernel
theorem dX11_figures_97 : decode cX11_figures 97 = .ok (.iload_n 1, 1) := by decide +kernel
theorem dX11_figures_98 : decode cX11_figures 98 = .ok (.ireturn, 1) := by decide +kernel
theorem dX11_among_0 : decode cX11_among 0 = .ok (.iconst 0, 1) := by decide +kernel
theorem dX11_among_1 : decode cX11_among 1 = .ok (.istore_n 2, 1) := by decide +kernel
theorem dX11_among_2 : decode cX11_among 2 = .ok (.iload_n 2, 1) := by decide +kernel
theorem dX11_among_3 : decode cX11_among 3 = .ok (.aload_n 1, 1) := by decide +kernel
theorem dX11_among_4 : decode cX11_among 4 = .ok (.invokevirtual 83, 3) := by decide +kernel
theorem dX11_among_7 : decode cX11_among 7 = .ok (.if_icmp .ge 33, 3) := by decide +kernel
theorem dX11_among_10 : decode cX11_among 10 = .ok (.aload_n 0, 1) := by decide +kernel
theorem dX11_among_11 : decode cX11_among 11 = .ok (.invokevirtual 79, 3) := by decide +kernel
theorem dX11_among_14 : decode cX11_among 14 = .ok (.aload_n 1, 1) := by decide +kernel
theorem dX11_among_15 : decode cX11_among 15 = .ok (.iload_n 2, 1) := by decide +kernel
theorem dX11_among_16 : decode cX11_among 16 = .ok (.invokevirtual 88, 3) := by decide +kernel
theorem dX11_among_19 : decode cX11_among 19 = .ok (.if_icmp .ne 15, 3) := by decide +kernel
theorem dX11_among_22 : decode cX11_among 22 = .ok (.aload_n 0, 1) := by decide +kernel
theorem dX11_among_23 : decode cX11_among 23 = .ok (.dup, 1) := by decide +kernel
theorem dX11_among_24 : decode cX11_among 24 = .ok (.getfield 69, 3) := by decide +kernel
theorem dX11_among_27 : decode cX11_among 27 = .ok (.iconst 1, 1) := by decide +kernel
theorem dX11_among_28 : decode cX11_among 28 = .ok (.iadd, 1) := by decide +kernel
theorem dX11_among_29 : decode cX11_among 29 = .ok (.putfield 69, 3) := by decide +kernel
theorem dX11_among_32 : decode cX11_among 32 = .ok (.iload_n 2, 1) := by decide +kernel
theorem dX11_among_33 : decode cX11_among 33 = .ok (.ireturn, 1) := by decide +kernel
theorem dX11_among_34 : decode cX11_among 34 = .ok (.iinc 2 1, 3) := by decide +kernel
theorem dX11_among_37 : decode cX11_among 37 = .ok (.goto (-35), 3) := by decide +kernel
theorem dX11_among_40 : decode cX11_among 40 = .ok (.iconst (-1), 1) := by decide +kernel
theorem dX11_among_41 : decode cX11_among 41 = .ok (.ireturn, 1) := by decide +kernel
theorem dX11_emits_0 : decode cX11_emits 0 = .ok (.aload_n 0, 1) := by decide +kernel
theorem dX11_emits_1 : decode cX11_emits 1 = .ok (.getfield 75, 3) := by decide +kernel
theorem dX11_emits_4 : decode cX11_emits 4 = .ok (.ifCond .ne 52, 3) := by decide +kernel
theorem dX11_emits_7 : decode cX11_emits 7 = .ok (.aload_n 0, 1) := by decide +kernel
theorem dX11_emits_8 : decode cX11_emits 8 = .ok (.getfield 9, 3) := by decide +kernel
theorem dX11_emits_11 : decode cX11_emits 11 = .ok (.sipush 232, 3) := by decide +kernel
theorem dX11_emits_14 : decode cX11_emits 14 = .ok (.sipush 140, 3) := by decide +kernel
theorem dX11_emits_17 : decode cX11_emits 17 = .ok (.aload_n 0, 1) := by decide +kernel
theorem dX11_emits_18 : decode cX11_emits 18 = .ok (.getfield 96, 3) := by decide +kernel
theorem dX11_emits_21 : decode cX11_emits 21 = .ok (.imul, 1) := by decide +kernel
theorem dX11_emits_22 : decode cX11_emits 22 = .ok (.iadd, 1) := by decide +kernel
theorem dX11_emits_23 : decode cX11_emits 23 = .ok (.aload_n 0, 1) := by decide +kernel
theorem dX11_emits_24 : decode cX11_emits 24 = .ok (.getfield 9, 3) := by decide +kernel
theorem dX11_emits_27 : decode cX11_emits 27 = .ok (.sipush 227, 3) := by decide +kernel
theorem dX11_emits_30 : decode cX11_emits 30 = .ok (.aload_n 0, 1) := by decide +kernel
theorem dX11_emits_31 : decode cX11_emits 31 = .ok (.getfield 96, 3) := by decide +kernel
theorem dX11_emits_34 : decode cX11_emits 34 = .ok (.iadd, 1) := by decide +kernel
theorem dX11_emits_35 : decode cX11_emits 35 = .ok (.iaload, 1) := by decide +kernel
theorem dX11_emits_36 : decode cX11_emits 36 = .ok (.iadd, 1) := by decide +kernel
theorem dX11_emits_37 : decode cX11_emits 37 = .ok (.iload_n 1, 1) := by decide +kernel
theorem dX11_emits_38 : decode cX11_emits 38 = .ok (.iastore, 1) := by decide +kernel
theorem dX11_emits_39 : decode cX11_emits 39 = .ok (.aload_n 0, 1) := by decide +kernel
theorem dX11_emits_40 : decode cX11_emits 40 = .ok (.getfield 9, 3) := by decide +kernel
theorem dX11_emits_43 : decode cX11_emits 43 = .ok (.sipush 227, 3) := by decide +kernel
theorem dX11_emits_46 : decode cX11_emits 46 = .ok (.aload_n 0, 1) := by decide +kernel
theorem dX11_emits_47 : decode cX11_emits 47 = .ok (.getfield 96, 3) := by decide +kernel
theorem dX11_emits_50 : decode cX11_emits 50 = .ok (.iadd, 1) := by decide +kernel
theorem dX11_emits_51 : decode cX11_emits 51 = .ok (.dup2, 1) := by decide +kernel
theorem dX11_emits_52 : decode cX11_emits 52 = .ok (.iaload, 1) := by decide +kernel
theorem dX11_emits_53 : decode cX11_emits 53 = .ok (.iconst 1, 1) := by decide +kernel
theorem dX11_emits_54 : decode cX11_emits 54 = .ok (.iadd, 1) := by decide +kernel
theorem dX11_emits_55 : decode cX11_emits 55 = .ok (.iastore, 1) := by decide +kernel
theorem dX11_emits_56 : decode cX11_emits 56 = .ok (.return_, 1) := by decide +kernel
theorem dX11_factor_0 : decode cX11_factor 0 = .ok (.aload_n 0, 1) := by decide +kernel
theorem dX11_factor_1 : decode cX11_factor 1 = .ok (.getfield 75, 3) := by decide +kernel
theorem dX11_factor_4 : decode cX11_factor 4 = .ok (.ifCond .eq 4, 3) := by decide +kernel
theorem dX11_factor_7 : decode cX11_factor 7 = .ok (.return_, 1) := by decide +kernel
theorem dX11_factor_8 : decode cX11_factor 8 = .ok (.aload_n 0, 1) := by decide +kernel
theorem dX11_factor_9 : decode cX11_factor 9 = .ok (.invokevirtual 79, 3) := by decide +kernel
theorem dX11_factor_12 : decode cX11_factor 12 = .ok (.istore_n 1, 1) := by decide +kernel
theorem dX11_factor_13 : decode cX11_factor 13 = .ok (.iload_n 1, 1) := by decide +kernel
theorem dX11_factor_14 : decode cX11_factor 14 = .ok (.bipush 33, 2) := by decide +kernel
theorem dX11_factor_16 : decode cX11_factor 16 = .ok (.if_icmp .eq 9, 3) := by decide +kernel
theorem dX11_factor_19 : decode cX11_factor 19 = .ok (.iload_n 1, 1) := by decide +kernel
theorem dX11_factor_20 : decode cX11_factor 20 = .ok (.bipush 40, 2) := by decide +kernel
theorem dX11_factor_22 : decode cX11_factor 22 = .ok (.if_icmp .ne 90, 3) := by decide +kernel
theorem dX11_factor_25 : decode cX11_factor 25 = .ok (.aload_n 0, 1) := by decide +kernel
theorem dX11_factor_26 : decode cX11_factor 26 = .ok (.aload_n 0, 1) := by decide +kernel
theorem dX11_factor_27 : decode cX11_factor 27 = .ok (.getfield 99, 3) := by decide +kernel
theorem dX11_factor_30 : decode cX11_factor 30 = .ok (.iconst 5, 1) := by decide +kernel
theorem dX11_factor_31 : decode cX11_factor 31 = .ok (.if_icmp .ne 7, 3) := by decide +kernel
theorem dX11_factor_34 : decode cX11_factor 34 = .ok (.iconst 1, 1) := by decide +kernel
theorem dX11_factor_35 : decode cX11_factor 35 = .ok (.goto 4, 3) := by decide +kernel
theorem dX11_factor_38 : decode cX11_factor 38 = .ok (.iconst 0, 1) := by decide +kernel
theorem dX11_factor_39 : decode cX11_factor 39 = .ok (.putfield 75, 3) := by decide +kernel
theorem dX11_factor_42 : decode cX11_factor 42 = .ok (.aload_n 0, 1) := by decide +kernel
theorem dX11_factor_43 : decode cX11_factor 43 = .ok (.dup, 1) := by decide +kernel
theorem dX11_factor_44 : decode cX11_factor 44 = .ok (.getfield 99, 3) := by decide +kernel
theorem dX11_factor_47 : decode cX11_factor 47 = .ok (.iconst 1, 1) := by decide +kernel
theorem dX11_factor_48 : decode cX11_factor 48 = .ok (.iadd, 1) := by decide +kernel
theorem dX11_factor_49 : decode cX11_factor 49 = .ok (.putfield 99, 3) := by decide +kernel
theorem dX11_factor_52 : decode cX11_factor 52 = .ok (.aload_n 0, 1) := by decide +kernel
theorem dX11_factor_53 : decode cX11_factor 53 = .ok (.dup, 1) := by decide +kernel
theorem dX11_factor_54 : decode cX11_factor 54 = .ok (.getfield 69, 3) := by decide +kernel
theorem dX11_factor_57 : decode cX11_factor 57 = .ok (.aload_n 0, 1) := by decide +kernel
theorem dX11_factor_58 : decode cX11_factor 58 = .ok (.getfield 75, 3) := by decide +kernel
theorem dX11_factor_61 : decode cX11_factor 61 = .ok (.ifCond .eq 7, 3) := by decide +kernel
theorem dX11_factor_64 : decode cX11_factor 64 = .ok (.iconst 0, 1) := by decide +kernel
theorem dX11_factor_65 : decode cX11_factor 65 = .ok (.goto 4, 3) := by decide +kernel
theorem dX11_factor_68 : decode cX11_factor 68 = .ok (.iconst 1, 1) := by decide +kernel
theorem dX11_factor_69 : decode cX11_factor 69 = .ok (.iadd, 1) := by decide +kernel
theorem dX11_factor_70 : decode cX11_factor 70 = .ok (.putfield 69, 3) := by decide +kernel
theorem dX11_factor_73 : decode cX11_factor 73 = .ok (.iload_n 1, 1) := by decide +kernel
theorem dX11_factor_74 : decode cX11_factor 74 = .ok (.bipush 33, 2) := by decide +kernel
theorem dX11_factor_76 : decode cX11_factor 76 = .ok (.if_icmp .ne 15, 3) := by decide +kernel
theorem dX11_factor_79 : decode cX11_factor 79 = .ok (.aload_n 0, 1) := by decide +kernel
theorem dX11_factor_80 : decode cX11_factor 80 = .ok (.invokevirtual 102, 3) := by decide +kernel
theorem dX11_factor_83 : decode cX11_factor 83 = .ok (.aload_n 0, 1) := by decide +kernel
theorem dX11_factor_84 : decode cX11_factor 84 = .ok (.iconst (-1), 1) := by decide +kernel
theorem dX11_factor_85 : decode cX11_factor 85 = .ok (.invokevirtual 105, 3) := by decide +kernel
theorem dX11_factor_88 : decode cX11_factor 88 = .ok (.goto 13, 3) := by decide +kernel
theorem dX11_factor_91 : decode cX11_factor 91 = .ok (.aload_n 0, 1) := by decide +kernel
theorem dX11_factor_92 : decode cX11_factor 92 = .ok (.invokevirtual 108, 3) := by decide +kernel
theorem dX11_factor_95 : decode cX11_factor 95 = .ok (.aload_n 0, 1) := by decide +kernel
theorem dX11_factor_96 : decode cX11_factor 96 = .ok (.bipush 41, 2) := by decide +kernel
theorem dX11_factor_98 : decode cX11_factor 98 = .ok (.invokevirtual 92, 3) := by decide +kernel
theorem dX11_factor_101 : decode cX11_factor 101 = .ok (.aload_n 0, 1) := by decide +kernel
theorem dX11_factor_102 : decode cX11_factor 102 = .ok (.dup, 1) := by decide +kernel
theorem dX11_factor_103 : decode cX11_factor 103 = .ok (.getfield 99, 3) := by decide +kernel
theorem dX11_factor_106 : decode cX11_factor 106 = .ok (.iconst 1, 1) := by decide +kernel
theorem dX11_factor_107 : decode cX11_factor 107 = .ok (.isub, 1) := by decide +kernel
theorem dX11_factor_108 : decode cX11_factor 108 = .ok (.putfield 99, 3) := by decide +kernel
theorem dX11_factor_111 : decode cX11_factor 111 = .ok (.return_, 1) := by decide +kernel
theorem dX11_factor_112 : decode cX11_factor 112 = .ok (.aload_n 0, 1) := by decide +kernel
theorem dX11_factor_113 : decode cX11_factor 113 = .ok (.ldc 111, 2) := by decide +kernel
theorem dX11_factor_115 : decode cX11_factor 115 = .ok (.invokevirtual 113, 3) := by decide +kernel
theorem dX11_factor_118 : decode cX11_factor 118 = .ok (.istore_n 2, 1) := by decide +kernel
theorem dX11_factor_119 : decode cX11_factor 119 = .ok (.aload_n 0, 1) := by decide +kernel
theorem dX11_factor_120 : decode cX11_factor 120 = .ok (.iload_n 2, 1) := by decide +kernel
theorem dX11_factor_121 : decode cX11_factor 121 = .ok (.iconst (-1), 1) := by decide +kernel
theorem dX11_factor_122 : decode cX11_factor 122 = .ok (.if_icmp .ne 7, 3) := by decide +kernel
theorem dX11_factor_125 : decode cX11_factor 125 = .ok (.iconst 1, 1) := by decide +kernel
theorem dX11_factor_126 : decode cX11_factor 126 = .ok (.goto 4, 3) := by decide +kernel
theorem dX11_factor_129 : decode cX11_factor 129 = .ok (.iconst 0, 1) := by decide +kernel
theorem dX11_factor_130 : decode cX11_factor 130 = .ok (.putfield 75, 3) := by decide +kernel
theorem dX11_factor_133 : decode cX11_factor 133 = .ok (.aload_n 0, 1) := by decide +kernel
theorem dX11_factor_134 : decode cX11_factor 134 = .ok (.getfield 75, 3) := by decide +kernel
theorem dX11_factor_137 : decode cX11_factor 137 = .ok (.ifCond .eq 7, 3) := by decide +kernel
theorem dX11_factor_140 : decode cX11_factor 140 = .ok (.iconst 0, 1) := by decide +kernel
theorem dX11_factor_141 : decode cX11_factor 141 = .ok (.goto 9, 3) := by decide +kernel
theorem dX11_factor_144 : decode cX11_factor 144 = .ok (.aload_n 0, 1) := by decide +kernel
theorem dX11_factor_145 : decode cX11_factor 145 = .ok (.ldc 117, 2) := by decide +kernel
theorem dX11_factor_147 : decode cX11_factor 147 = .ok (.invokevirtual 113, 3) := by decide +kernel
theorem dX11_factor_150 : decode cX11_factor 150 = .ok (.istore_n 3, 1) := by decide +kernel
theorem dX11_factor_151 : decode cX11_factor 151 = .ok (.aload_n 0, 1) := by decide +kernel
theorem dX11_factor_152 : decode cX11_factor 152 = .ok (.aload_n 0, 1) := by decide +kernel
theorem dX11_factor_153 : decode cX11_factor 153 = .ok (.getfield 75, 3) := by decide +kernel
theorem dX11_factor_156 : decode cX11_factor 156 = .ok (.ifCond .ne 8, 3) := by decide +kernel
theorem dX11_factor_159 : decode cX11_factor 159 = .ok (.iload_n 3, 1) := by decide +kernel
theorem dX11_factor_160 : decode cX11_factor 160 = .ok (.iconst (-1), 1) := by decide +kernel
theorem dX11_factor_161 : decode cX11_factor 161 = .ok (.if_icmp .ne 7, 3) := by decide +kernel
theorem dX11_factor_164 : decode cX11_factor 164 = .ok (.iconst 1, 1) := by decide +kernel
theorem dX11_factor_165 : decode cX11_factor 165 = .ok (.goto 4, 3) := by decide +kernel
theorem dX11_factor_168 : decode cX11_factor 168 = .ok (.iconst 0, 1) := by decide +kernel
theorem dX11_factor_169 : decode cX11_factor 169 = .ok (.putfield 75, 3) := by decide +kernel
theorem dX11_factor_172 : decode cX11_factor 172 = .ok (.aload_n 0, 1) := by decide +kernel
theorem dX11_factor_173 : decode cX11_factor 173 = .ok (.invokevirtual 119, 3) := by decide +kernel
theorem dX11_factor_176 : decode cX11_factor 176 = .ok (.istore 4, 2) := by decide +kernel
theorem dX11_factor_178 : decode cX11_factor 178 = .ok (.aload_n 0, 1) := by decide +kernel
theorem dX11_factor_179 : decode cX11_factor 179 = .ok (.iload_n 2, 1) := by decide +kernel
theorem dX11_factor_180 : decode cX11_factor 180 = .ok (.bipush 8, 2) := by decide +kernel
theorem dX11_factor_182 : decode cX11_factor 182 = .ok (.iload_n 3, 1) := by decide +kernel
theorem dX11_factor_183 : decode cX11_factor 183 = .ok (.imul, 1) := by decide +kernel
theorem dX11_factor_184 : decode cX11_factor 184 = .ok (.iadd, 1) := by decide +kernel
theorem dX11_factor_185 : decode cX11_factor 185 = .ok (.bipush 32, 2) := by decide +kernel
theorem dX11_factor_187 : decode cX11_factor 187 = .ok (.iload 4, 2) := by decide +kernel
theorem dX11_factor_189 : decode cX11_factor 189 = .ok (.imul, 1) := by decide +kernel
theorem dX11_factor_190 : decode cX11_factor 190 = .ok (.iadd, 1) := by decide +kernel
theorem dX11_factor_191 : decode cX11_factor 191 = .ok (.invokevirtual 105, 3) := by decide +kernel
theorem dX11_factor_194 : decode cX11_factor 194 = .ok (.return_, 1) := by decide +kernel
theorem dX11_every_0 : decode cX11_every 0 = .ok (.aload_n 0, 1) := by decide +kernel
theorem dX11_every_1 : decode cX11_every 1 = .ok (.invokevirtual 102, 3) := by decide +kernel
theorem dX11_every_4 : decode cX11_every 4 = .ok (.aload_n 0, 1) := by decide +kernel
theorem dX11_every_5 : decode cX11_every 5 = .ok (.getfield 75, 3) := by decide +kernel
theorem dX11_every_8 : decode cX11_every 8 = .ok (.ifCond .ne 35, 3) := by decide +kernel
theorem dX11_every_11 : decode cX11_every 11 = .ok (.aload_n 0, 1) := by decide +kernel
theorem dX11_every_12 : decode cX11_every 12 = .ok (.invokevirtual 79, 3) := by decide +kernel
theorem dX11_every_15 : decode cX11_every 15 = .ok (.bipush 38, 2) := by decide +kernel
theorem dX11_every_17 : decode cX11_every 17 = .ok (.if_icmp .ne 26, 3) := by decide +kernel
theorem dX11_every_20 : decode cX11_every 20 = .ok (.aload_n 0, 1) := by decide +kernel
theorem dX11_every_21 : decode cX11_every 21 = .ok (.dup, 1) := by decide +kernel
theorem dX11_every_22 : decode cX11_every 22 = .ok (.getfield 69, 3) := by decide +kernel
theorem dX11_every_25 : decode cX11_every 25 = .ok (.iconst 1, 1) := by decide +kernel
theorem dX11_every_26 : decode cX11_every 26 = .ok (.iadd, 1) := by decide +kernel
theorem dX11_every_27 : decode cX11_every 27 = .ok (.putfield 69, 3) := by decide +kernel
theorem dX11_every_30 : decode cX11_every 30 = .ok (.aload_n 0, 1) := by decide +kernel
theorem dX11_every_31 : decode cX11_every 31 = .ok (.invokevirtual 102, 3) := by decide +kernel
theorem dX11_every_34 : decode cX11_every 34 = .ok (.aload_n 0, 1) := by decide +kernel
theorem dX11_every_35 : decode cX11_every 35 = .ok (.bipush (-2), 2) := by decide +kernel
theorem dX11_every_37 : decode cX11_every 37 = .ok (.invokevirtual 105, 3) := by decide +kernel
theorem dX11_every_40 : decode cX11_every 40 = .ok (.goto (-36), 3) := by decide +kernel
theorem dX11_every_43 : decode cX11_every 43 = .ok (.return_, 1) := by decide +kernel
theorem dX11_some_0 : decode cX11_some 0 = .ok (.aload_n 0, 1) := by decide +kernel
theorem dX11_some_1 : decode cX11_some 1 = .ok (.invokevirtual 122, 3) := by decide +kernel
theorem dX11_some_4 : decode cX11_some 4 = .ok (.aload_n 0, 1) := by decide +kernel
theorem dX11_some_5 : decode cX11_some 5 = .ok (.getfield 75, 3) := by decide +kernel
theorem dX11_some_8 : decode cX11_some 8 = .ok (.ifCond .ne 35, 3) := by decide +kernel
theorem dX11_some_11 : decode cX11_some 11 = .ok (.aload_n 0, 1) := by decide +kernel
theorem dX11_some_12 : decode cX11_some 12 = .ok (.invokevirtual 79, 3) := by decide +kernel
theorem dX11_some_15 : decode cX11_some 15 = .ok (.bipush 124, 2) := by decide +kernel
theorem dX11_some_17 : decode cX11_some 17 = .ok (.if_icmp .ne 26, 3) := by decide +kernel
theorem dX11_some_20 : decode cX11_some 20 = .ok (.aload_n 0, 1) := by decide +kernel
theorem dX11_some_21 : decode cX11_some 21 = .ok (.dup, 1) := by decide +kernel
theorem dX11_some_22 : decode cX11_some 22 = .ok (.getfield 69, 3) := by decide +kernel
theorem dX11_some_25 : decode cX11_some 25 = .ok (.iconst 1, 1) := by decide +kernel
theorem dX11_some_26 : decode cX11_some 26 = .ok (.iadd, 1) := by decide +kernel
theorem dX11_some_27 : decode cX11_some 27 = .ok (.putfield 69, 3) := by decide +kernel
theorem dX11_some_30 : decode cX11_some 30 = .ok (.aload_n 0, 1) := by decide +kernel
theorem dX11_some_31 : decode cX11_some 31 = .ok (.invokevirtual 122, 3) := by decide +kernel
theorem dX11_some_34 : decode cX11_some 34 = .ok (.aload_n 0, 1) := by decide +kernel
theorem dX11_some_35 : decode cX11_some 35 = .ok (.bipush (-3), 2) := by decide +kernel
theorem dX11_some_37 : decode cX11_some 37 = .ok (.invokevirtual 105, 3) := by decide +kernel
theorem dX11_some_40 : decode cX11_some 40 = .ok (.goto (-36), 3) := by decide +kernel
theorem dX11_some_43 : decode cX11_some 43 = .ok (.return_, 1) := by decide +kernel
theorem dX11_much_0 : decode cX11_much 0 = .ok (.aload_n 0, 1) := by decide +kernel
theorem dX11_much_1 : decode cX11_much 1 = .ok (.aload_n 2, 1) := by decide +kernel
theorem dX11_much_2 : decode cX11_much 2 = .ok (.invokevirtual 125, 3) := by decide +kernel
theorem dX11_much_5 : decode cX11_much 5 = .ok (.aload_n 0, 1) := by decide +kernel
theorem dX11_much_6 : decode cX11_much 6 = .ok (.invokevirtual 119, 3) := by decide +kernel
theorem dX11_much_9 : decode cX11_much 9 = .ok (.istore_n 3, 1) := by decide +kernel
theorem dX11_much_10 : decode cX11_much 10 = .ok (.aload_n 0, 1) := by decide +kernel
theorem dX11_much_11 : decode cX11_much 11 = .ok (.bipush 32, 2) := by decide +kernel
theorem dX11_much_13 : decode cX11_much 13 = .ok (.invokevirtual 92, 3) := by decide +kernel
theorem dX11_much_16 : decode cX11_much 16 = .ok (.aload_n 0, 1) := by decide +kernel
theorem dX11_much_17 : decode cX11_much 17 = .ok (.invokevirtual 108, 3) := by decide +kernel
theorem dX11_much_20 : decode cX11_much 20 = .ok (.aload_n 0, 1) := by decide +kernel
theorem dX11_much_21 : decode cX11_much 21 = .ok (.iload_n 1, 1) := by decide +kernel
theorem dX11_much_22 : decode cX11_much 22 = .ok (.iload_n 3, 1) := by decide +kernel
theorem dX11_much_23 : decode cX11_much 23 = .ok (.isub, 1) := by decide +kernel
theorem dX11_much_24 : decode cX11_much 24 = .ok (.invokevirtual 105, 3) := by decide +kernel
theorem dX11_much_27 : decode cX11_much 27 = .ok (.return_, 1) := by decide +kernel
theorem dX11_tellsHere_0 : decode cX11_tellsHere 0 = .ok (.aload_n 0, 1) := by decide +kernel
theorem dX11_tellsHere_1 : decode cX11_tellsHere 1 = .ok (.aload_n 2, 1) := by decide +kernel
theorem dX11_tellsHere_2 : decode cX11_tellsHere 2 = .ok (.invokevirtual 125, 3) := by decide +kernel
theorem dX11_tellsHere_5 : decode cX11_tellsHere 5 = .ok (.aload_n 0, 1) := by decide +kernel
theorem dX11_tellsHere_6 : decode cX11_tellsHere 6 = .ok (.invokevirtual 119, 3) := by decide +kernel
theorem dX11_tellsHere_9 : decode cX11_tellsHere 9 = .ok (.istore_n 3, 1) := by decide +kernel
theorem dX11_tellsHere_10 : decode cX11_tellsHere 10 = .ok (.aload_n 0, 1) := by decide +kernel
theorem dX11_tellsHere_11 : decode cX11_tellsHere 11 = .ok (.getfield 75, 3) := by decide +kernel
theorem dX11_tellsHere_14 : decode cX11_tellsHere 14 = .ok (.ifCond .ne 15, 3) := by decide +kernel
theorem dX11_tellsHere_17 : decode cX11_tellsHere 17 = .ok (.aload_n 0, 1) := by decide +kernel
theorem dX11_tellsHere_18 : decode cX11_tellsHere 18 = .ok (.getfield 9, 3) := by decide +kernel
theorem dX11_tellsHere_21 : decode cX11_tellsHere 21 = .ok (.iload_n 1, 1) := by decide +kernel
theorem dX11_tellsHere_22 : decode cX11_tellsHere 22 = .ok (.aload_n 0, 1) := by decide +kernel
theorem dX11_tellsHere_23 : decode cX11_tellsHere 23 = .ok (.getfield 96, 3) := by decide +kernel
theorem dX11_tellsHere_26 : decode cX11_tellsHere 26 = .ok (.iadd, 1) := by decide +kernel
theorem dX11_tellsHere_27 : decode cX11_tellsHere 27 = .ok (.iload_n 3, 1) := by decide +kernel
theorem dX11_tellsHere_28 : decode cX11_tellsHere 28 = .ok (.iastore, 1) := by decide +kernel
theorem dX11_tellsHere_29 : decode cX11_tellsHere 29 = .ok (.return_, 1) := by decide +kernel
theorem dX11_clauseHere_0 : decode cX11_clauseHere 0 = .ok (.aload_n 0, 1) := by decide +kernel
theorem dX11_clauseHere_1 : decode cX11_clauseHere 1 = .ok (.invokevirtual 79, 3) := by decide +kernel
theorem dX11_clauseHere_4 : decode cX11_clauseHere 4 = .ok (.lookupswitch 91 #[(99, 56), (100, 68), (109, 79), (116, 44)], 44) := by decide +kernel
theorem dX11_clauseHere_48 : decode cX11_clauseHere 48 = .ok (.aload_n 0, 1) := by decide +kernel
theorem dX11_clauseHere_49 : decode cX11_clauseHere 49 = .ok (.sipush 217, 3) := by decide +kernel
theorem dX11_clauseHere_52 : decode cX11_clauseHere 52 = .ok (.ldc 129, 2) := by decide +kernel
theorem dX11_clauseHere_54 : decode cX11_clauseHere 54 = .ok (.invokevirtual 131, 3) := by decide +kernel
theorem dX11_clauseHere_57 : decode cX11_clauseHere 57 = .ok (.goto 43, 3) := by decide +kernel
theorem dX11_clauseHere_60 : decode cX11_clauseHere 60 = .ok (.aload_n 0, 1) := by decide +kernel
theorem dX11_clauseHere_61 : decode cX11_clauseHere 61 = .ok (.sipush 222, 3) := by decide +kernel
theorem dX11_clauseHere_64 : decode cX11_clauseHere 64 = .ok (.ldc 135, 2) := by decide +kernel
theorem dX11_clauseHere_66 : decode cX11_clauseHere 66 = .ok (.invokevirtual 131, 3) := by decide +kernel
theorem dX11_clauseHere_69 : decode cX11_clauseHere 69 = .ok (.goto 31, 3) := by decide +kernel
theorem dX11_clauseHere_72 : decode cX11_clauseHere 72 = .ok (.aload_n 0, 1) := by decide +kernel
theorem dX11_clauseHere_73 : decode cX11_clauseHere 73 = .ok (.bipush (-10), 2) := by decide +kernel
theorem dX11_clauseHere_75 : decode cX11_clauseHere 75 = .ok (.ldc 137, 2) := by decide +kernel
theorem dX11_clauseHere_77 : decode cX11_clauseHere 77 = .ok (.invokevirtual 139, 3) := by decide +kernel
theorem dX11_clauseHere_80 : decode cX11_clauseHere 80 = .ok (.goto 20, 3) := by decide +kernel
theorem dX11_clauseHere_83 : decode cX11_clauseHere 83 = .ok (.aload_n 0, 1) := by decide +kernel
theorem dX11_clauseHere_84 : decode cX11_clauseHere 84 = .ok (.sipush (-200), 3) := by decide +kernel
theorem dX11_clauseHere_87 : decode cX11_clauseHere 87 = .ok (.ldc 142, 2) := by decide +kernel
theorem dX11_clauseHere_89 : decode cX11_clauseHere 89 = .ok (.invokevirtual 139, 3) := by decide +kernel
theorem dX11_clauseHere_92 : decode cX11_clauseHere 92 = .ok (.goto 8, 3) := by decide +kernel
theorem dX11_clauseHere_95 : decode cX11_clauseHere 95 = .ok (.aload_n 0, 1) := by decide +kernel
theorem dX11_clauseHere_96 : decode cX11_clauseHere 96 = .ok (.iconst 1, 1) := by decide +kernel
theorem dX11_clauseHere_97 : decode cX11_clauseHere 97 = .ok (.putfield 75, 3) := by decide +kernel
theorem dX11_clauseHere_100 : decode cX11_clauseHere 100 = .ok (.return_, 1) := by decide +kernel
theorem dX11_land_0 : decode cX11_land 0 = .ok (.aload_n 0, 1) := by decide +kernel
theorem dX11_land_1 : decode cX11_land 1 = .ok (.getfield 9, 3) := by decide +kernel
theorem dX11_land_4 : decode cX11_land 4 = .ok (.iconst 2, 1) := by decide +kernel
theorem dX11_land_5 : decode cX11_land 5 = .ok (.iaload, 1) := by decide +kernel
theorem dX11_land_6 : decode cX11_land 6 = .ok (.iconst 5, 1) := by decide +kernel
theorem dX11_land_7 : decode cX11_land 7 = .ok (.if_icmp .ne 6, 3) := by decide +kernel
theorem dX11_land_10 : decode cX11_land 10 = .ok (.bipush (-4), 2) := by decide +kernel
theorem dX11_land_12 : decode cX11_land 12 = .ok (.ireturn, 1) := by decide +kernel
theorem dX11_land_13 : decode cX11_land 13 = .ok (.aload_n 0, 1) := by decide +kernel
theorem dX11_land_14 : decode cX11_land 14 = .ok (.aload_n 0, 1) := by decide +kernel
theorem dX11_land_15 : decode cX11_land 15 = .ok (.getfield 9, 3) := by decide +kernel
theorem dX11_land_18 : decode cX11_land 18 = .ok (.iconst 2, 1) := by decide +kernel
theorem dX11_land_19 : decode cX11_land 19 = .ok (.iaload, 1) := by decide +kernel
theorem dX11_land_20 : decode cX11_land 20 = .ok (.putfield 96, 3) := by decide +kernel
theorem dX11_land_23 : decode cX11_land 23 = .ok (.aload_n 0, 1) := by decide +kernel
theorem dX11_land_24 : decode cX11_land 24 = .ok (.aload_n 0, 1) := by decide +kernel
theorem dX11_land_25 : decode cX11_land 25 = .ok (.getfield 9, 3) := by decide +kernel
theorem dX11_land_28 : decode cX11_land 28 = .ok (.bipush 7, 2) := by decide +kernel
theorem dX11_land_30 : decode cX11_land 30 = .ok (.iaload, 1) := by decide +kernel
theorem dX11_land_31 : decode cX11_land 31 = .ok (.putfield 72, 3) := by decide +kernel
theorem dX11_land_34 : decode cX11_land 34 = .ok (.aload_n 0, 1) := by decide +kernel
theorem dX11_land_35 : decode cX11_land 35 = .ok (.getfield 9, 3) := by decide +kernel
theorem dX11_land_38 : decode cX11_land 38 = .ok (.bipush 7, 2) := by decide +kernel
theorem dX11_land_40 : decode cX11_land 40 = .ok (.iconst 0, 1) := by decide +kernel
theorem dX11_land_41 : decode cX11_land 41 = .ok (.iastore, 1) := by decide +kernel
theorem dX11_land_42 : decode cX11_land 42 = .ok (.aload_n 0, 1) := by decide +kernel
theorem dX11_land_43 : decode cX11_land 43 = .ok (.getfield 9, 3) := by decide +kernel
theorem dX11_land_46 : decode cX11_land 46 = .ok (.sipush 217, 3) := by decide +kernel
theorem dX11_land_49 : decode cX11_land 49 = .ok (.aload_n 0, 1) := by decide +kernel
theorem dX11_land_50 : decode cX11_land 50 = .ok (.getfield 96, 3) := by decide +kernel
theorem dX11_land_53 : decode cX11_land 53 = .ok (.iadd, 1) := by decide +kernel
theorem dX11_land_54 : decode cX11_land 54 = .ok (.bipush 9, 2) := by decide +kernel
theorem dX11_land_56 : decode cX11_land 56 = .ok (.iastore, 1) := by decide +kernel
theorem dX11_land_57 : decode cX11_land 57 = .ok (.aload_n 0, 1) := by decide +kernel
theorem dX11_land_58 : decode cX11_land 58 = .ok (.getfield 9, 3) := by decide +kernel
theorem dX11_land_61 : decode cX11_land 61 = .ok (.sipush 222, 3) := by decide +kernel
theorem dX11_land_64 : decode cX11_land 64 = .ok (.aload_n 0, 1) := by decide +kernel
theorem dX11_land_65 : decode cX11_land 65 = .ok (.getfield 96, 3) := by decide +kernel
theorem dX11_land_68 : decode cX11_land 68 = .ok (.iadd, 1) := by decide +kernel
theorem dX11_land_69 : decode cX11_land 69 = .ok (.iconst 0, 1) := by decide +kernel
theorem dX11_land_70 : decode cX11_land 70 = .ok (.iastore, 1) := by decide +kernel
theorem dX11_land_71 : decode cX11_land 71 = .ok (.aload_n 0, 1) := by decide +kernel
theorem dX11_land_72 : decode cX11_land 72 = .ok (.getfield 9, 3) := by decide +kernel
theorem dX11_land_75 : decode cX11_land 75 = .ok (.sipush 227, 3) := by decide +kernel
theorem dX11_land_78 : decode cX11_land 78 = .ok (.aload_n 0, 1) := by decide +kernel
theorem dX11_land_79 : decode cX11_land 79 = .ok (.getfield 96, 3) := by decide +kernel
theorem dX11_land_82 : decode cX11_land 82 = .ok (.iadd, 1) := by decide +kernel
theorem dX11_land_83 : decode cX11_land 83 = .ok (.iconst 0, 1) := by decide +kernel
theorem dX11_land_84 : decode cX11_land 84 = .ok (.iastore, 1) := by decide +kernel
theorem dX11_land_85 : decode cX11_land 85 = .ok (.aload_n 0, 1) := by decide +kernel
theorem dX11_land_86 : decode cX11_land 86 = .ok (.iconst 0, 1) := by decide +kernel
theorem dX11_land_87 : decode cX11_land 87 = .ok (.putfield 69, 3) := by decide +kernel
theorem dX11_land_90 : decode cX11_land 90 = .ok (.aload_n 0, 1) := by decide +kernel
theorem dX11_land_91 : decode cX11_land 91 = .ok (.iconst 0, 1) := by decide +kernel
theorem dX11_land_92 : decode cX11_land 92 = .ok (.putfield 75, 3) := by decide +kernel
theorem dX11_land_95 : decode cX11_land 95 = .ok (.aload_n 0, 1) := by decide +kernel
theorem dX11_land_96 : decode cX11_land 96 = .ok (.iconst 0, 1) := by decide +kernel
theorem dX11_land_97 : decode cX11_land 97 = .ok (.putfield 99, 3) := by decide +kernel
theorem dX11_land_100 : decode cX11_land 100 = .ok (.iconst 1, 1) := by decide +kernel
theorem dX11_land_101 : decode cX11_land 101 = .ok (.istore_n 1, 1) := by decide +kernel
theorem dX11_land_102 : decode cX11_land 102 = .ok (.aload_n 0, 1) := by decide +kernel
theorem dX11_land_103 : decode cX11_land 103 = .ok (.invokevirtual 144, 3) := by decide +kernel
theorem dX11_land_106 : decode cX11_land 106 = .ok (.aload_n 0, 1) := by decide +kernel
theorem dX11_land_107 : decode cX11_land 107 = .ok (.getfield 75, 3) := by decide +kernel
theorem dX11_land_110 : decode cX11_land 110 = .ok (.ifCond .ne 38, 3) := by decide +kernel
theorem dX11_land_113 : decode cX11_land 113 = .ok (.iload_n 1, 1) := by decide +kernel
theorem dX11_land_114 : decode cX11_land 114 = .ok (.bipush 10, 2) := by decide +kernel
theorem dX11_land_116 : decode cX11_land 116 = .ok (.if_icmp .ge 32, 3) := by decide +kernel
theorem dX11_land_119 : decode cX11_land 119 = .ok (.aload_n 0, 1) := by decide +kernel
theorem dX11_land_120 : decode cX11_land 120 = .ok (.invokevirtual 79, 3) := by decide +kernel
theorem dX11_land_123 : decode cX11_land 123 = .ok (.bipush 59, 2) := by decide +kernel
theorem dX11_land_125 : decode cX11_land 125 = .ok (.if_icmp .ne 23, 3) := by decide +kernel
theorem dX11_land_128 : decode cX11_land 128 = .ok (.aload_n 0, 1) := by decide +kernel
theorem dX11_land_129 : decode cX11_land 129 = .ok (.dup, 1) := by decide +kernel
theorem dX11_land_130 : decode cX11_land 130 = .ok (.getfield 69, 3) := by decide +kernel
theorem dX11_land_133 : decode cX11_land 133 = .ok (.iconst 1, 1) := by decide +kernel
theorem dX11_land_134 : decode cX11_land 134 = .ok (.iadd, 1) := by decide +kernel
theorem dX11_land_135 : decode cX11_land 135 = .ok (.putfield 69, 3) := by decide +kernel
theorem dX11_land_138 : decode cX11_land 138 = .ok (.aload_n 0, 1) := by decide +kernel
theorem dX11_land_139 : decode cX11_land 139 = .ok (.invokevirtual 144, 3) := by decide +kernel
theorem dX11_land_142 : decode cX11_land 142 = .ok (.iinc 1 1, 3) := by decide +kernel
theorem dX11_land_145 : decode cX11_land 145 = .ok (.goto (-39), 3) := by decide +kernel
theorem dX11_land_148 : decode cX11_land 148 = .ok (.aload_n 0, 1) := by decide +kernel
theorem dX11_land_149 : decode cX11_land 149 = .ok (.getfield 75, 3) := by decide +kernel
theorem dX11_land_152 : decode cX11_land 152 = .ok (.ifCond .ne 14, 3) := by decide +kernel
theorem dX11_land_155 : decode cX11_land 155 = .ok (.aload_n 0, 1) := by decide +kernel
theorem dX11_land_156 : decode cX11_land 156 = .ok (.getfield 69, 3) := by decide +kernel
theorem dX11_land_159 : decode cX11_land 159 = .ok (.aload_n 0, 1) := by decide +kernel
theorem dX11_land_160 : decode cX11_land 160 = .ok (.getfield 72, 3) := by decide +kernel
theorem dX11_land_163 : decode cX11_land 163 = .ok (.if_icmp .eq 11, 3) := by decide +kernel
theorem dX11_land_166 : decode cX11_land 166 = .ok (.bipush (-10), 2) := by decide +kernel
theorem dX11_land_168 : decode cX11_land 168 = .ok (.aload_n 0, 1) := by decide +kernel
theorem dX11_land_169 : decode cX11_land 169 = .ok (.getfield 69, 3) := by decide +kernel
theorem dX11_land_172 : decode cX11_land 172 = .ok (.isub, 1) := by decide +kernel
theorem dX11_land_173 : decode cX11_land 173 = .ok (.ireturn, 1) := by decide +kernel
theorem dX11_land_174 : decode cX11_land 174 = .ok (.aload_n 0, 1) := by decide +kernel
theorem dX11_land_175 : decode cX11_land 175 = .ok (.getfield 9, 3) := by decide +kernel
theorem dX11_land_178 : decode cX11_land 178 = .ok (.iconst 2, 1) := by decide +kernel
theorem dX11_land_179 : decode cX11_land 179 = .ok (.dup2, 1) := by decide +kernel
theorem dX11_land_180 : decode cX11_land 180 = .ok (.iaload, 1) := by decide +kernel
theorem dX11_land_181 : decode cX11_land 181 = .ok (.iconst 1, 1) := by decide +kernel
theorem dX11_land_182 : decode cX11_land 182 = .ok (.iadd, 1) := by decide +kernel
theorem dX11_land_183 : decode cX11_land 183 = .ok (.iastore, 1) := by decide +kernel
theorem dX11_land_184 : decode cX11_land 184 = .ok (.aload_n 0, 1) := by decide +kernel
theorem dX11_land_185 : decode cX11_land 185 = .ok (.getfield 9, 3) := by decide +kernel
theorem dX11_land_188 : decode cX11_land 188 = .ok (.bipush 8, 2) := by decide +kernel
theorem dX11_land_190 : decode cX11_land 190 = .ok (.aload_n 0, 1) := by decide +kernel
theorem dX11_land_191 : decode cX11_land 191 = .ok (.getfield 96, 3) := by decide +kernel
theorem dX11_land_194 : decode cX11_land 194 = .ok (.iastore, 1) := by decide +kernel
theorem dX11_land_195 : decode cX11_land 195 = .ok (.aload_n 0, 1) := by decide +kernel
theorem dX11_land_196 : decode cX11_land 196 = .ok (.getfield 96, 3) := by decide +kernel
theorem dX11_land_199 : decode cX11_land 199 = .ok (.ireturn, 1) := by decide +kernel
theorem dX11_tellsOf_0 : decode cX11_tellsOf 0 = .ok (.aload_n 0, 1) := by decide +kernel
theorem dX11_tellsOf_1 : decode cX11_tellsOf 1 = .ok (.getfield 9, 3) := by decide +kernel
theorem dX11_tellsOf_4 : decode cX11_tellsOf 4 = .ok (.bipush 8, 2) := by decide +kernel
theorem dX11_tellsOf_6 : decode cX11_tellsOf 6 = .ok (.iaload, 1) := by decide +kernel
theorem dX11_tellsOf_7 : decode cX11_tellsOf 7 = .ok (.iconst (-1), 1) := by decide +kernel
theorem dX11_tellsOf_8 : decode cX11_tellsOf 8 = .ok (.if_icmp .ne 7, 3) := by decide +kernel
theorem dX11_tellsOf_11 : decode cX11_tellsOf 11 = .ok (.iload_n 2, 1) := by decide +kernel
theorem dX11_tellsOf_12 : decode cX11_tellsOf 12 = .ok (.goto 17, 3) := by decide +kernel
theorem dX11_tellsOf_15 : decode cX11_tellsOf 15 = .ok (.aload_n 0, 1) := by decide +kernel
theorem dX11_tellsOf_16 : decode cX11_tellsOf 16 = .ok (.getfield 9, 3) := by decide +kernel
theorem dX11_tellsOf_19 : decode cX11_tellsOf 19 = .ok (.iload_n 1, 1) := by decide +kernel
theorem dX11_tellsOf_20 : decode cX11_tellsOf 20 = .ok (.aload_n 0, 1) := by decide +kernel
theorem dX11_tellsOf_21 : decode cX11_tellsOf 21 = .ok (.getfield 9, 3) := by decide +kernel
theorem dX11_tellsOf_24 : decode cX11_tellsOf 24 = .ok (.bipush 8, 2) := by decide +kernel
theorem dX11_tellsOf_26 : decode cX11_tellsOf 26 = .ok (.iaload, 1) := by decide +kernel
theorem dX11_tellsOf_27 : decode cX11_tellsOf 27 = .ok (.iadd, 1) := by decide +kernel
theorem dX11_tellsOf_28 : decode cX11_tellsOf 28 = .ok (.iaload, 1) := by decide +kernel
theorem dX11_tellsOf_29 : decode cX11_tellsOf 29 = .ok (.ireturn, 1) := by decide +kernel
theorem dX11_topNow_0 : decode cX11_topNow 0 = .ok (.aload_n 0, 1) := by decide +kernel
theorem dX11_topNow_1 : decode cX11_topNow 1 = .ok (.sipush 217, 3) := by decide +kernel
theorem dX11_topNow_4 : decode cX11_topNow 4 = .ok (.bipush 9, 2) := by decide +kernel
theorem dX11_topNow_6 : decode cX11_topNow 6 = .ok (.invokevirtual 147, 3) := by decide +kernel
theorem dX11_topNow_9 : decode cX11_topNow 9 = .ok (.istore_n 1, 1) := by decide +kernel
theorem dX11_topNow_10 : decode cX11_topNow 10 = .ok (.iload_n 1, 1) := by decide +kernel
theorem dX11_topNow_11 : decode cX11_topNow 11 = .ok (.iconst 1, 1) := by decide +kernel
theorem dX11_topNow_12 : decode cX11_topNow 12 = .ok (.if_icmp .ge 7, 3) := by decide +kernel
theorem dX11_topNow_15 : decode cX11_topNow 15 = .ok (.iconst 1, 1) := by decide +kernel
theorem dX11_topNow_16 : decode cX11_topNow 16 = .ok (.goto 15, 3) := by decide +kernel
theorem dX11_topNow_19 : decode cX11_topNow 19 = .ok (.iload_n 1, 1) := by decide +kernel
theorem dX11_topNow_20 : decode cX11_topNow 20 = .ok (.bipush 9, 2) := by decide +kernel
theorem dX11_topNow_22 : decode cX11_topNow 22 = .ok (.if_icmp .le 8, 3) := by decide +kernel
theorem dX11_topNow_25 : decode cX11_topNow 25 = .ok (.bipush 9, 2) := by decide +kernel
theorem dX11_topNow_27 : decode cX11_topNow 27 = .ok (.goto 4, 3) := by decide +kernel
theorem dX11_topNow_30 : decode cX11_topNow 30 = .ok (.iload_n 1, 1) := by decide +kernel
theorem dX11_topNow_31 : decode cX11_topNow 31 = .ok (.ireturn, 1) := by decide +kernel
theorem dX11_cheatNow_0 : decode cX11_cheatNow 0 = .ok (.aload_n 0, 1) := by decide +kernel
theorem dX11_cheatNow_1 : decode cX11_cheatNow 1 = .ok (.sipush 222, 3) := by decide +kernel
theorem dX11_cheatNow_4 : decode cX11_cheatNow 4 = .ok (.iconst 0, 1) := by decide +kernel
theorem dX11_cheatNow_5 : decode cX11_cheatNow 5 = .ok (.invokevirtual 147, 3) := by decide +kernel
theorem dX11_cheatNow_8 : decode cX11_cheatNow 8 = .ok (.ireturn, 1) := by decide +kernel
theorem dX11_looks_0 : decode cX11_looks 0 = .ok (.aload_n 0, 1) := by decide +kernel
theorem dX11_looks_1 : decode cX11_looks 1 = .ok (.getfield 18, 3) := by decide +kernel
theorem dX11_looks_4 : decode cX11_looks 4 = .ok (.iconst 0, 1) := by decide +kernel
theorem dX11_looks_5 : decode cX11_looks 5 = .ok (.iload_n 1, 1) := by decide +kernel
theorem dX11_looks_6 : decode cX11_looks 6 = .ok (.iastore, 1) := by decide +kernel
theorem dX11_looks_7 : decode cX11_looks 7 = .ok (.aload_n 0, 1) := by decide +kernel
theorem dX11_looks_8 : decode cX11_looks 8 = .ok (.getfield 18, 3) := by decide +kernel
theorem dX11_looks_11 : decode cX11_looks 11 = .ok (.iconst 1, 1) := by decide +kernel
theorem dX11_looks_12 : decode cX11_looks 12 = .ok (.aload_n 0, 1) := by decide +kernel
theorem dX11_looks_13 : decode cX11_looks 13 = .ok (.getfield 9, 3) := by decide +kernel
theorem dX11_looks_16 : decode cX11_looks 16 = .ok (.bipush 10, 2) := by decide +kernel
theorem dX11_looks_18 : decode cX11_looks 18 = .ok (.iload_n 1, 1) := by decide +kernel
theorem dX11_looks_19 : decode cX11_looks 19 = .ok (.iadd, 1) := by decide +kernel
theorem dX11_looks_20 : decode cX11_looks 20 = .ok (.iaload, 1) := by decide +kernel
theorem dX11_looks_21 : decode cX11_looks 21 = .ok (.iastore, 1) := by decide +kernel
theorem dX11_looks_22 : decode cX11_looks 22 = .ok (.aload_n 0, 1) := by decide +kernel
theorem dX11_looks_23 : decode cX11_looks 23 = .ok (.getfield 18, 3) := by decide +kernel
theorem dX11_looks_26 : decode cX11_looks 26 = .ok (.iconst 2, 1) := by decide +kernel
theorem dX11_looks_27 : decode cX11_looks 27 = .ok (.aload_n 0, 1) := by decide +kernel
theorem dX11_looks_28 : decode cX11_looks 28 = .ok (.getfield 9, 3) := by decide +kernel
theorem dX11_looks_31 : decode cX11_looks 31 = .ok (.bipush 14, 2) := by decide +kernel
theorem dX11_looks_33 : decode cX11_looks 33 = .ok (.iload_n 1, 1) := by decide +kernel
theorem dX11_looks_34 : decode cX11_looks 34 = .ok (.iadd, 1) := by decide +kernel
theorem dX11_looks_35 : decode cX11_looks 35 = .ok (.iaload, 1) := by decide +kernel
theorem dX11_looks_36 : decode cX11_looks 36 = .ok (.iastore, 1) := by decide +kernel
theorem dX11_looks_37 : decode cX11_looks 37 = .ok (.aload_n 0, 1) := by decide +kernel
theorem dX11_looks_38 : decode cX11_looks 38 = .ok (.getfield 18, 3) := by decide +kernel
theorem dX11_looks_41 : decode cX11_looks 41 = .ok (.iconst 3, 1) := by decide +kernel
theorem dX11_looks_42 : decode cX11_looks 42 = .ok (.iload_n 2, 1) := by decide +kernel
theorem dX11_looks_43 : decode cX11_looks 43 = .ok (.iastore, 1) := by decide +kernel
theorem dX11_looks_44 : decode cX11_looks 44 = .ok (.aload_n 0, 1) := by decide +kernel
theorem dX11_looks_45 : decode cX11_looks 45 = .ok (.getfield 18, 3) := by decide +kernel
theorem dX11_looks_48 : decode cX11_looks 48 = .ok (.iconst 4, 1) := by decide +kernel
theorem dX11_looks_49 : decode cX11_looks 49 = .ok (.aload_n 0, 1) := by decide +kernel
theorem dX11_looks_50 : decode cX11_looks 50 = .ok (.getfield 9, 3) := by decide +kernel
theorem dX11_looks_53 : decode cX11_looks 53 = .ok (.bipush 9, 2) := by decide +kernel
theorem dX11_looks_55 : decode cX11_looks 55 = .ok (.iaload, 1) := by decide +kernel
theorem dX11_looks_56 : decode cX11_looks 56 = .ok (.bipush 10, 2) := by decide +kernel
theorem dX11_looks_58 : decode cX11_looks 58 = .ok (.irem, 1) := by decide +kernel
theorem dX11_looks_59 : decode cX11_looks 59 = .ok (.iastore, 1) := by decide +kernel
theorem dX11_looks_60 : decode cX11_looks 60 = .ok (.aload_n 0, 1) := by decide +kernel
theorem dX11_looks_61 : decode cX11_looks 61 = .ok (.getfield 18, 3) := by decide +kernel
theorem dX11_looks_64 : decode cX11_looks 64 = .ok (.iconst 5, 1) := by decide +kernel
theorem dX11_looks_65 : decode cX11_looks 65 = .ok (.aload_n 0, 1) := by decide +kernel
theorem dX11_looks_66 : decode cX11_looks 66 = .ok (.getfield 9, 3) := by decide +kernel
theorem dX11_looks_69 : decode cX11_looks 69 = .ok (.bipush 22, 2) := by decide +kernel
theorem dX11_looks_71 : decode cX11_looks 71 = .ok (.iload_n 1, 1) := by decide +kernel
theorem dX11_looks_72 : decode cX11_looks 72 = .ok (.iadd, 1) := by decide +kernel
theorem dX11_looks_73 : decode cX11_looks 73 = .ok (.iaload, 1) := by decide +kernel
theorem dX11_looks_74 : decode cX11_looks 74 = .ok (.iastore, 1) := by decide +kernel
theorem dX11_looks_75 : decode cX11_looks 75 = .ok (.iconst 0, 1) := by decide +kernel
theorem dX11_looks_76 : decode cX11_looks 76 = .ok (.istore_n 3, 1) := by decide +kernel
theorem dX11_looks_77 : decode cX11_looks 77 = .ok (.aload_n 0, 1) := by decide +kernel
theorem dX11_looks_78 : decode cX11_looks 78 = .ok (.sipush 227, 3) := by decide +kernel
theorem dX11_looks_81 : decode cX11_looks 81 = .ok (.iconst 0, 1) := by decide +kernel
theorem dX11_looks_82 : decode cX11_looks 82 = .ok (.invokevirtual 147, 3) := by decide +kernel
theorem dX11_looks_85 : decode cX11_looks 85 = .ok (.istore 4, 2) := by decide +kernel
theorem dX11_looks_87 : decode cX11_looks 87 = .ok (.sipush 232, 3) := by decide +kernel
theorem dX11_looks_90 : decode cX11_looks 90 = .ok (.sipush 140, 3) := by decide +kernel
theorem dX11_looks_93 : decode cX11_looks 93 = .ok (.aload_n 0, 1) := by decide +kernel
theorem dX11_looks_94 : decode cX11_looks 94 = .ok (.getfield 9, 3) := by decide +kernel
theorem dX11_looks_97 : decode cX11_looks 97 = .ok (.bipush 8, 2) := by decide +kernel
theorem dX11_looks_99 : decode cX11_looks 99 = .ok (.iaload, 1) := by decide +kernel
theorem dX11_looks_100 : decode cX11_looks 100 = .ok (.imul, 1) := by decide +kernel
theorem dX11_looks_101 : decode cX11_looks 101 = .ok (.iadd, 1) := by decide +kernel
theorem dX11_looks_102 : decode cX11_looks 102 = .ok (.istore 5, 2) := by decide +kernel
theorem dX11_looks_104 : decode cX11_looks 104 = .ok (.iconst 0, 1) := by decide +kernel
theorem dX11_looks_105 : decode cX11_looks 105 = .ok (.istore 6, 2) := by decide +kernel
theorem dX11_looks_107 : decode cX11_looks 107 = .ok (.iload 5, 2) := by decide +kernel
theorem dX11_looks_109 : decode cX11_looks 109 = .ok (.istore 7, 2) := by decide +kernel
theorem dX11_looks_111 : decode cX11_looks 111 = .ok (.iload 7, 2) := by decide +kernel
theorem dX11_looks_113 : decode cX11_looks 113 = .ok (.iload 5, 2) := by decide +kernel
theorem dX11_looks_115 : decode cX11_looks 115 = .ok (.iload 4, 2) := by decide +kernel
theorem dX11_looks_117 : decode cX11_looks 117 = .ok (.iadd, 1) := by decide +kernel
theorem dX11_looks_118 : decode cX11_looks 118 = .ok (.if_icmp .ge 300, 3) := by decide +kernel
theorem dX11_looks_121 : decode cX11_looks 121 = .ok (.aload_n 0, 1) := by decide +kernel
theorem dX11_looks_122 : decode cX11_looks 122 = .ok (.getfield 9, 3) := by decide +kernel
theorem dX11_looks_125 : decode cX11_looks 125 = .ok (.iload 7, 2) := by decide +kernel
theorem dX11_looks_127 : decode cX11_looks 127 = .ok (.iaload, 1) := by decide +kernel
theorem dX11_looks_128 : decode cX11_looks 128 = .ok (.istore 8, 2) := by decide +kernel
theorem dX11_looks_130 : decode cX11_looks 130 = .ok (.iload 8, 2) := by decide +kernel
theorem dX11_looks_132 : decode cX11_looks 132 = .ok (.ifCond .lt 97, 3) := by decide +kernel
theorem dX11_looks_135 : decode cX11_looks 135 = .ok (.aload_n 0, 1) := by decide +kernel
theorem dX11_looks_136 : decode cX11_looks 136 = .ok (.getfield 18, 3) := by decide +kernel
theorem dX11_looks_139 : decode cX11_looks 139 = .ok (.iload 8, 2) := by decide +kernel
theorem dX11_looks_141 : decode cX11_looks 141 = .ok (.bipush 8, 2) := by decide +kernel
theorem dX11_looks_143 : decode cX11_looks 143 = .ok (.irem, 1) := by decide +kernel
theorem dX11_looks_144 : decode cX11_looks 144 = .ok (.iaload, 1) := by decide +kernel
theorem dX11_looks_145 : decode cX11_looks 145 = .ok (.istore 9, 2) := by decide +kernel
theorem dX11_looks_147 : decode cX11_looks 147 = .ok (.iload 8, 2) := by decide +kernel
theorem dX11_looks_149 : decode cX11_looks 149 = .ok (.bipush 8, 2) := by decide +kernel
theorem dX11_looks_151 : decode cX11_looks 151 = .ok (.idiv, 1) := by decide +kernel
theorem dX11_looks_152 : decode cX11_looks 152 = .ok (.iconst 4, 1) := by decide +kernel
theorem dX11_looks_153 : decode cX11_looks 153 = .ok (.irem, 1) := by decide +kernel
theorem dX11_looks_154 : decode cX11_looks 154 = .ok (.istore 10, 2) := by decide +kernel
theorem dX11_looks_156 : decode cX11_looks 156 = .ok (.iload 8, 2) := by decide +kernel
theorem dX11_looks_158 : decode cX11_looks 158 = .ok (.bipush 32, 2) := by decide +kernel
theorem dX11_looks_160 : decode cX11_looks 160 = .ok (.idiv, 1) := by decide +kernel
theorem dX11_looks_161 : decode cX11_looks 161 = .ok (.istore 11, 2) := by decide +kernel
theorem dX11_looks_163 : decode cX11_looks 163 = .ok (.aload_n 0, 1) := by decide +kernel
theorem dX11_looks_164 : decode cX11_looks 164 = .ok (.getfield 21, 3) := by decide +kernel
theorem dX11_looks_167 : decode cX11_looks 167 = .ok (.iload 6, 2) := by decide +kernel
theorem dX11_looks_169 : decode cX11_looks 169 = .ok (.iload 10, 2) := by decide +kernel
theorem dX11_looks_171 : decode cX11_looks 171 = .ok (.ifCond .ne 18, 3) := by decide +kernel
theorem dX11_looks_174 : decode cX11_looks 174 = .ok (.iload 9, 2) := by decide +kernel
theorem dX11_looks_176 : decode cX11_looks 176 = .ok (.iload 11, 2) := by decide +kernel
theorem dX11_looks_178 : decode cX11_looks 178 = .ok (.if_icmp .ge 7, 3) := by decide +kernel
theorem dX11_looks_181 : decode cX11_looks 181 = .ok (.iconst 1, 1) := by decide +kernel
theorem dX11_looks_182 : decode cX11_looks 182 = .ok (.goto 40, 3) := by decide +kernel
theorem dX11_looks_185 : decode cX11_looks 185 = .ok (.iconst 0, 1) := by decide +kernel
theorem dX11_looks_186 : decode cX11_looks 186 = .ok (.goto 36, 3) := by decide +kernel
theorem dX11_looks_189 : decode cX11_looks 189 = .ok (.iload 10, 2) := by decide +kernel
theorem dX11_looks_191 : decode cX11_looks 191 = .ok (.iconst 1, 1) := by decide +kernel
theorem dX11_looks_192 : decode cX11_looks 192 = .ok (.if_icmp .ne 18, 3) := by decide +kernel
theorem dX11_looks_195 : decode cX11_looks 195 = .ok (.iload 9, 2) := by decide +kernel
theorem dX11_looks_197 : decode cX11_looks 197 = .ok (.iload 11, 2) := by decide +kernel
theorem dX11_looks_199 : decode cX11_looks 199 = .ok (.if_icmp .ne 7, 3) := by decide +kernel
theorem dX11_looks_202 : decode cX11_looks 202 = .ok (.iconst 1, 1) := by decide +kernel
theorem dX11_looks_203 : decode cX11_looks 203 = .ok (.goto 19, 3) := by decide +kernel
theorem dX11_looks_206 : decode cX11_looks 206 = .ok (.iconst 0, 1) := by decide +kernel
theorem dX11_looks_207 : decode cX11_looks 207 = .ok (.goto 15, 3) := by decide +kernel
theorem dX11_looks_210 : decode cX11_looks 210 = .ok (.iload 9, 2) := by decide +kernel
theorem dX11_looks_212 : decode cX11_looks 212 = .ok (.iload 11, 2) := by decide +kernel
theorem dX11_looks_214 : decode cX11_looks 214 = .ok (.if_icmp .le 7, 3) := by decide +kernel
theorem dX11_looks_217 : decode cX11_looks 217 = .ok (.iconst 1, 1) := by decide +kernel
theorem dX11_looks_218 : decode cX11_looks 218 = .ok (.goto 4, 3) := by decide +kernel
theorem dX11_looks_221 : decode cX11_looks 221 = .ok (.iconst 0, 1) := by decide +kernel
theorem dX11_looks_222 : decode cX11_looks 222 = .ok (.bastore, 1) := by decide +kernel
theorem dX11_looks_223 : decode cX11_looks 223 = .ok (.iinc 6 1, 3) := by decide +kernel
theorem dX11_looks_226 : decode cX11_looks 226 = .ok (.goto 186, 3) := by decide +kernel
theorem dX11_looks_229 : decode cX11_looks 229 = .ok (.iload 8, 2) := by decide +kernel
theorem dX11_looks_231 : decode cX11_looks 231 = .ok (.iconst (-1), 1) := by decide +kernel
theorem dX11_looks_232 : decode cX11_looks 232 = .ok (.if_icmp .ne 32, 3) := by decide +kernel
theorem dX11_looks_235 : decode cX11_looks 235 = .ok (.aload_n 0, 1) := by decide +kernel
theorem dX11_looks_236 : decode cX11_looks 236 = .ok (.getfield 21, 3) := by decide +kernel
theorem dX11_looks_239 : decode cX11_looks 239 = .ok (.iload 6, 2) := by decide +kernel
theorem dX11_looks_241 : decode cX11_looks 241 = .ok (.iconst 1, 1) := by decide +kernel
theorem dX11_looks_242 : decode cX11_looks 242 = .ok (.isub, 1) := by decide +kernel
theorem dX11_looks_243 : decode cX11_looks 243 = .ok (.aload_n 0, 1) := by decide +kernel
theorem dX11_looks_244 : decode cX11_looks 244 = .ok (.getfield 21, 3) := by decide +kernel
theorem dX11_looks_247 : decode cX11_looks 247 = .ok (.iload 6, 2) := by decide +kernel
theorem dX11_looks_249 : decode cX11_looks 249 = .ok (.iconst 1, 1) := by decide +kernel
theorem dX11_looks_250 : decode cX11_looks 250 = .ok (.isub, 1) := by decide +kernel
theorem dX11_looks_251 : decode cX11_looks 251 = .ok (.baload, 1) := by decide +kernel
theorem dX11_looks_252 : decode cX11_looks 252 = .ok (.ifCond .ne 7, 3) := by decide +kernel
theorem dX11_looks_255 : decode cX11_looks 255 = .ok (.iconst 1, 1) := by decide +kernel
theorem dX11_looks_256 : decode cX11_looks 256 = .ok (.goto 4, 3) := by decide +kernel
theorem dX11_looks_259 : decode cX11_looks 259 = .ok (.iconst 0, 1) := by decide +kernel
theorem dX11_looks_260 : decode cX11_looks 260 = .ok (.bastore, 1) := by decide +kernel
theorem dX11_looks_261 : decode cX11_looks 261 = .ok (.goto 151, 3) := by decide +kernel
theorem dX11_looks_264 : decode cX11_looks 264 = .ok (.iload 8, 2) := by decide +kernel
theorem dX11_looks_266 : decode cX11_looks 266 = .ok (.bipush (-10), 2) := by decide +kernel
theorem dX11_looks_268 : decode cX11_looks 268 = .ok (.if_icmp .le 82, 3) := by decide +kernel
theorem dX11_looks_271 : decode cX11_looks 271 = .ok (.iinc 6 (-1), 3) := by decide +kernel
theorem dX11_looks_274 : decode cX11_looks 274 = .ok (.aload_n 0, 1) := by decide +kernel
theorem dX11_looks_275 : decode cX11_looks 275 = .ok (.getfield 21, 3) := by decide +kernel
theorem dX11_looks_278 : decode cX11_looks 278 = .ok (.iload 6, 2) := by decide +kernel
theorem dX11_looks_280 : decode cX11_looks 280 = .ok (.iconst 1, 1) := by decide +kernel
theorem dX11_looks_281 : decode cX11_looks 281 = .ok (.isub, 1) := by decide +kernel
theorem dX11_looks_282 : decode cX11_looks 282 = .ok (.iload 8, 2) := by decide +kernel
theorem dX11_looks_284 : decode cX11_looks 284 = .ok (.bipush (-2), 2) := by decide +kernel
theorem dX11_looks_286 : decode cX11_looks 286 = .ok (.if_icmp .ne 33, 3) := by decide +kernel
theorem dX11_looks_289 : decode cX11_looks 289 = .ok (.aload_n 0, 1) := by decide +kernel
theorem dX11_looks_290 : decode cX11_looks 290 = .ok (.getfield 21, 3) := by decide +kernel
theorem dX11_looks_293 : decode cX11_looks 293 = .ok (.iload 6, 2) := by decide +kernel
theorem dX11_looks_295 : decode cX11_looks 295 = .ok (.iconst 1, 1) := by decide +kernel
theorem dX11_looks_296 : decode cX11_looks 296 = .ok (.isub, 1) := by decide +kernel
theorem dX11_looks_297 : decode cX11_looks 297 = .ok (.baload, 1) := by decide +kernel
theorem dX11_looks_298 : decode cX11_looks 298 = .ok (.ifCond .eq 17, 3) := by decide +kernel
theorem dX11_looks_301 : decode cX11_looks 301 = .ok (.aload_n 0, 1) := by decide +kernel
theorem dX11_looks_302 : decode cX11_looks 302 = .ok (.getfield 21, 3) := by decide +kernel
theorem dX11_looks_305 : decode cX11_looks 305 = .ok (.iload 6, 2) := by decide +kernel
theorem dX11_looks_307 : decode cX11_looks 307 = .ok (.baload, 1) := by decide +kernel
theorem dX11_looks_308 : decode cX11_looks 308 = .ok (.ifCond .eq 7, 3) := by decide +kernel
theorem dX11_looks_311 : decode cX11_looks 311 = .ok (.iconst 1, 1) := by decide +kernel
theorem dX11_looks_312 : decode cX11_looks 312 = .ok (.goto 34, 3) := by decide +kernel
theorem dX11_looks_315 : decode cX11_looks 315 = .ok (.iconst 0, 1) := by decide +kernel
theorem dX11_looks_316 : decode cX11_looks 316 = .ok (.goto 30, 3) := by decide +kernel
theorem dX11_looks_319 : decode cX11_looks 319 = .ok (.aload_n 0, 1) := by decide +kernel
theorem dX11_looks_320 : decode cX11_looks 320 = .ok (.getfield 21, 3) := by decide +kernel
theorem dX11_looks_323 : decode cX11_looks 323 = .ok (.iload 6, 2) := by decide +kernel
theorem dX11_looks_325 : decode cX11_looks 325 = .ok (.iconst 1, 1) := by decide +kernel
theorem dX11_looks_326 : decode cX11_looks 326 = .ok (.isub, 1) := by decide +kernel
theorem dX11_looks_327 : decode cX11_looks 327 = .ok (.baload, 1) := by decide +kernel
theorem dX11_looks_328 : decode cX11_looks 328 = .ok (.ifCond .ne 13, 3) := by decide +kernel
theorem dX11_looks_331 : decode cX11_looks 331 = .ok (.aload_n 0, 1) := by decide +kernel
theorem dX11_looks_332 : decode cX11_looks 332 = .ok (.getfield 21, 3) := by decide +kernel
theorem dX11_looks_335 : decode cX11_looks 335 = .ok (.iload 6, 2) := by decide +kernel
theorem dX11_looks_337 : decode cX11_looks 337 = .ok (.baload, 1) := by decide +kernel
theorem dX11_looks_338 : decode cX11_looks 338 = .ok (.ifCond .eq 7, 3) := by decide +kernel
theorem dX11_looks_341 : decode cX11_looks 341 = .ok (.iconst 1, 1) := by decide +kernel
theorem dX11_looks_342 : decode cX11_looks 342 = .ok (.goto 4, 3) := by decide +kernel
theorem dX11_looks_345 : decode cX11_looks 345 = .ok (.iconst 0, 1) := by decide +kernel
theorem dX11_looks_346 : decode cX11_looks 346 = .ok (.bastore, 1) := by decide +kernel
theorem dX11_looks_347 : decode cX11_looks 347 = .ok (.goto 65, 3) := by decide +kernel
theorem dX11_looks_350 : decode cX11_looks 350 = .ok (.iconst 0, 1) := by decide +kernel
theorem dX11_looks_351 : decode cX11_looks 351 = .ok (.istore 6, 2) := by decide +kernel
theorem dX11_looks_353 : decode cX11_looks 353 = .ok (.aload_n 0, 1) := by decide +kernel
theorem dX11_looks_354 : decode cX11_looks 354 = .ok (.getfield 21, 3) := by decide +kernel
theorem dX11_looks_357 : decode cX11_looks 357 = .ok (.iconst 0, 1) := by decide +kernel
theorem dX11_looks_358 : decode cX11_looks 358 = .ok (.baload, 1) := by decide +kernel
theorem dX11_looks_359 : decode cX11_looks 359 = .ok (.istore 9, 2) := by decide +kernel
theorem dX11_looks_361 : decode cX11_looks 361 = .ok (.iload_n 3, 1) := by decide +kernel
theorem dX11_looks_362 : decode cX11_looks 362 = .ok (.iload 9, 2) := by decide +kernel
theorem dX11_looks_364 : decode cX11_looks 364 = .ok (.ifCond .eq 19, 3) := by decide +kernel
theorem dX11_looks_367 : decode cX11_looks 367 = .ok (.iload 8, 2) := by decide +kernel
theorem dX11_looks_369 : decode cX11_looks 369 = .ok (.sipush (-200), 3) := by decide +kernel
theorem dX11_looks_372 : decode cX11_looks 372 = .ok (.if_icmp .le 11, 3) := by decide +kernel
theorem dX11_looks_375 : decode cX11_looks 375 = .ok (.bipush (-10), 2) := by decide +kernel
theorem dX11_looks_377 : decode cX11_looks 377 = .ok (.iload 8, 2) := by decide +kernel
theorem dX11_looks_379 : decode cX11_looks 379 = .ok (.isub, 1) := by decide +kernel
theorem dX11_looks_380 : decode cX11_looks 380 = .ok (.goto 4, 3) := by decide +kernel
theorem dX11_looks_383 : decode cX11_looks 383 = .ok (.iconst 0, 1) := by decide +kernel
theorem dX11_looks_384 : decode cX11_looks 384 = .ok (.iadd, 1) := by decide +kernel
theorem dX11_looks_385 : decode cX11_looks 385 = .ok (.istore_n 3, 1) := by decide +kernel
theorem dX11_looks_386 : decode cX11_looks 386 = .ok (.iload_n 3, 1) := by decide +kernel
theorem dX11_looks_387 : decode cX11_looks 387 = .ok (.iload 9, 2) := by decide +kernel
theorem dX11_looks_389 : decode cX11_looks 389 = .ok (.ifCond .eq 20, 3) := by decide +kernel
theorem dX11_looks_392 : decode cX11_looks 392 = .ok (.iload 8, 2) := by decide +kernel
theorem dX11_looks_394 : decode cX11_looks 394 = .ok (.sipush (-200), 3) := by decide +kernel
theorem dX11_looks_397 : decode cX11_looks 397 = .ok (.if_icmp .gt 12, 3) := by decide +kernel
theorem dX11_looks_400 : decode cX11_looks 400 = .ok (.sipush (-200), 3) := by decide +kernel
theorem dX11_looks_403 : decode cX11_looks 403 = .ok (.iload 8, 2) := by decide +kernel
theorem dX11_looks_405 : decode cX11_looks 405 = .ok (.isub, 1) := by decide +kernel
theorem dX11_looks_406 : decode cX11_looks 406 = .ok (.goto 4, 3) := by decide +kernel
theorem dX11_looks_409 : decode cX11_looks 409 = .ok (.iconst 0, 1) := by decide +kernel
theorem dX11_looks_410 : decode cX11_looks 410 = .ok (.isub, 1) := by decide +kernel
theorem dX11_looks_411 : decode cX11_looks 411 = .ok (.istore_n 3, 1) := by decide +kernel
theorem dX11_looks_412 : decode cX11_looks 412 = .ok (.iinc 7 1, 3) := by decide +kernel
theorem dX11_looks_415 : decode cX11_looks 415 = .ok (.goto (-304), 3) := by decide +kernel
theorem dX11_looks_418 : decode cX11_looks 418 = .ok (.iload_n 3, 1) := by decide +kernel
theorem dX11_looks_419 : decode cX11_looks 419 = .ok (.ireturn, 1) := by decide +kernel
theorem dX11_worthOf_0 : decode cX11_worthOf 0 = .ok (.iload_n 2, 1) := by decide +kernel
theorem dX11_worthOf_1 : decode cX11_worthOf 1 = .ok (.aload_n 0, 1) := by decide +kernel
theorem dX11_worthOf_2 : decode cX11_worthOf 2 = .ok (.iload_n 1, 1) := by decide +kernel
theorem dX11_worthOf_3 : decode cX11_worthOf 3 = .ok (.iload_n 2, 1) := by decide +kernel
theorem dX11_worthOf_4 : decode cX11_worthOf 4 = .ok (.invokevirtual 151, 3) := by decide +kernel
theorem dX11_worthOf_7 : decode cX11_worthOf 7 = .ok (.iadd, 1) := by decide +kernel
theorem dX11_worthOf_8 : decode cX11_worthOf 8 = .ok (.invokestatic 154, 3) := by decide +kernel
theorem dX11_worthOf_11 : decode cX11_worthOf 11 = .ok (.istore_n 3, 1) := by decide +kernel
theorem dX11_worthOf_12 : decode cX11_worthOf 12 = .ok (.aload_n 0, 1) := by decide +kernel
theorem dX11_worthOf_13 : decode cX11_worthOf 13 = .ok (.getfield 9, 3) := by decide +kernel
theorem dX11_worthOf_16 : decode cX11_worthOf 16 = .ok (.bipush 10, 2) := by decide +kernel
theorem dX11_worthOf_18 : decode cX11_worthOf 18 = .ok (.iload_n 1, 1) := by decide +kernel
theorem dX11_worthOf_19 : decode cX11_worthOf 19 = .ok (.iadd, 1) := by decide +kernel
theorem dX11_worthOf_20 : decode cX11_worthOf 20 = .ok (.iaload, 1) := by decide +kernel
theorem dX11_worthOf_21 : decode cX11_worthOf 21 = .ok (.tableswitch 155 1 6 #[39, 53, 60, 76, 95, 117], 39) := by decide +kernel
theorem dX11_worthOf_60 : decode cX11_worthOf 60 = .ok (.iload_n 3, 1) := by decide +kernel
theorem dX11_worthOf_61 : decode cX11_worthOf 61 = .ok (.aload_n 0, 1) := by decide +kernel
theorem dX11_worthOf_62 : decode cX11_worthOf 62 = .ok (.getfield 9, 3) := by decide +kernel
theorem dX11_worthOf_65 : decode cX11_worthOf 65 = .ok (.bipush 14, 2) := by decide +kernel
theorem dX11_worthOf_67 : decode cX11_worthOf 67 = .ok (.iload_n 1, 1) := by decide +kernel
theorem dX11_worthOf_68 : decode cX11_worthOf 68 = .ok (.iadd, 1) := by decide +kernel
theorem dX11_worthOf_69 : decode cX11_worthOf 69 = .ok (.iaload, 1) := by decide +kernel
theorem dX11_worthOf_70 : decode cX11_worthOf 70 = .ok (.iconst 3, 1) := by decide +kernel
theorem dX11_worthOf_71 : decode cX11_worthOf 71 = .ok (.idiv, 1) := by decide +kernel
theorem dX11_worthOf_72 : decode cX11_worthOf 72 = .ok (.iadd, 1) := by decide +kernel
theorem dX11_worthOf_73 : decode cX11_worthOf 73 = .ok (.ireturn, 1) := by decide +kernel
theorem dX11_worthOf_74 : decode cX11_worthOf 74 = .ok (.iload_n 3, 1) := by decide +kernel
theorem dX11_worthOf_75 : decode cX11_worthOf 75 = .ok (.iconst 1, 1) := by decide +kernel
theorem dX11_worthOf_76 : decode cX11_worthOf 76 = .ok (.isub, 1) := by decide +kernel
theorem dX11_worthOf_77 : decode cX11_worthOf 77 = .ok (.invokestatic 154, 3) := by decide +kernel
theorem dX11_worthOf_80 : decode cX11_worthOf 80 = .ok (.ireturn, 1) := by decide +kernel
theorem dX11_worthOf_81 : decode cX11_worthOf 81 = .ok (.iload_n 3, 1) := by decide +kernel
theorem dX11_worthOf_82 : decode cX11_worthOf 82 = .ok (.aload_n 0, 1) := by decide +kernel
theorem dX11_worthOf_83 : decode cX11_worthOf 83 = .ok (.getfield 9, 3) := by decide +kernel
theorem dX11_worthOf_86 : decode cX11_worthOf 86 = .ok (.bipush 9, 2) := by decide +kernel
theorem dX11_worthOf_88 : decode cX11_worthOf 88 = .ok (.iaload, 1) := by decide +kernel
theorem dX11_worthOf_89 : decode cX11_worthOf 89 = .ok (.bipush 10, 2) := by decide +kernel
theorem dX11_worthOf_91 : decode cX11_worthOf 91 = .ok (.idiv, 1) := by decide +kernel
theorem dX11_worthOf_92 : decode cX11_worthOf 92 = .ok (.isub, 1) := by decide +kernel
theorem dX11_worthOf_93 : decode cX11_worthOf 93 = .ok (.invokestatic 154, 3) := by decide +kernel
theorem dX11_worthOf_96 : decode cX11_worthOf 96 = .ok (.ireturn, 1) := by decide +kernel
theorem dX11_worthOf_97 : decode cX11_worthOf 97 = .ok (.iload_n 3, 1) := by decide +kernel
theorem dX11_worthOf_98 : decode cX11_worthOf 98 = .ok (.aload_n 0, 1) := by decide +kernel
theorem dX11_worthOf_99 : decode cX11_worthOf 99 = .ok (.getfield 9, 3) := by decide +kernel
theorem dX11_worthOf_102 : decode cX11_worthOf 102 = .ok (.bipush 14, 2) := by decide +kernel
theorem dX11_worthOf_104 : decode cX11_worthOf 104 = .ok (.iload_n 1, 1) := by decide +kernel
theorem dX11_worthOf_105 : decode cX11_worthOf 105 = .ok (.iadd, 1) := by decide +kernel
theorem dX11_worthOf_106 : decode cX11_worthOf 106 = .ok (.iaload, 1) := by decide +kernel
theorem dX11_worthOf_107 : decode cX11_worthOf 107 = .ok (.iconst 3, 1) := by decide +kernel
theorem dX11_worthOf_108 : decode cX11_worthOf 108 = .ok (.idiv, 1) := by decide +kernel
theorem dX11_worthOf_109 : decode cX11_worthOf 109 = .ok (.iadd, 1) := by decide +kernel
theorem dX11_worthOf_110 : decode cX11_worthOf 110 = .ok (.iconst 2, 1) := by decide +kernel
theorem dX11_worthOf_111 : decode cX11_worthOf 111 = .ok (.isub, 1) := by decide +kernel
theorem dX11_worthOf_112 : decode cX11_worthOf 112 = .ok (.invokestatic 154, 3) := by decide +kernel
theorem dX11_worthOf_115 : decode cX11_worthOf 115 = .ok (.ireturn, 1) := by decide +kernel
theorem dX11_worthOf_116 : decode cX11_worthOf 116 = .ok (.aload_n 0, 1) := by decide +kernel
theorem dX11_worthOf_117 : decode cX11_worthOf 117 = .ok (.getfield 9, 3) := by decide +kernel
theorem dX11_worthOf_120 : decode cX11_worthOf 120 = .ok (.bipush 9, 2) := by decide +kernel
theorem dX11_worthOf_122 : decode cX11_worthOf 122 = .ok (.iaload, 1) := by decide +kernel
theorem dX11_worthOf_123 : decode cX11_worthOf 123 = .ok (.iconst 5, 1) := by decide +kernel
theorem dX11_worthOf_124 : decode cX11_worthOf 124 = .ok (.if_icmp .lt 7, 3) := by decide +kernel
theorem dX11_worthOf_127 : decode cX11_worthOf 127 = .ok (.iconst 1, 1) := by decide +kernel
theorem dX11_worthOf_128 : decode cX11_worthOf 128 = .ok (.goto 9, 3) := by decide +kernel
theorem dX11_worthOf_131 : decode cX11_worthOf 131 = .ok (.iload_n 3, 1) := by decide +kernel
theorem dX11_worthOf_132 : decode cX11_worthOf 132 = .ok (.iconst 1, 1) := by decide +kernel
theorem dX11_worthOf_133 : decode cX11_worthOf 133 = .ok (.isub, 1) := by decide +kernel
theorem dX11_worthOf_134 : decode cX11_worthOf 134 = .ok (.invokestatic 154, 3) := by decide +kernel
theorem dX11_worthOf_137 : decode cX11_worthOf 137 = .ok (.ireturn, 1) := by decide +kernel
theorem dX11_worthOf_138 : decode cX11_worthOf 138 = .ok (.iload_n 3, 1) := by decide +kernel
theorem dX11_worthOf_139 : decode cX11_worthOf 139 = .ok (.aload_n 0, 1) := by decide +kernel
theorem dX11_worthOf_140 : decode cX11_worthOf 140 = .ok (.getfield 9, 3) := by decide +kernel
theorem dX11_worthOf_143 : decode cX11_worthOf 143 = .ok (.bipush 9, 2) := by decide +kernel
theorem dX11_worthOf_145 : decode cX11_worthOf 145 = .ok (.iaload, 1) := by decide +kernel
theorem dX11_worthOf_146 : decode cX11_worthOf 146 = .ok (.bipush 10, 2) := by decide +kernel
theorem dX11_worthOf_148 : decode cX11_worthOf 148 = .ok (.idiv, 1) := by decide +kernel
theorem dX11_worthOf_149 : decode cX11_worthOf 149 = .ok (.isub, 1) := by decide +kernel
theorem dX11_worthOf_150 : decode cX11_worthOf 150 = .ok (.invokestatic 154, 3) := by decide +kernel
theorem dX11_worthOf_153 : decode cX11_worthOf 153 = .ok (.aload_n 0, 1) := by decide +kernel
theorem dX11_worthOf_154 : decode cX11_worthOf 154 = .ok (.getfield 9, 3) := by decide +kernel
theorem dX11_worthOf_157 : decode cX11_worthOf 157 = .ok (.bipush 26, 2) := by decide +kernel
theorem dX11_worthOf_159 : decode cX11_worthOf 159 = .ok (.iconst 4, 1) := by decide +kernel
theorem dX11_worthOf_160 : decode cX11_worthOf 160 = .ok (.iload_n 1, 1) := by decide +kernel
theorem dX11_worthOf_161 : decode cX11_worthOf 161 = .ok (.imul, 1) := by decide +kernel
theorem dX11_worthOf_162 : decode cX11_worthOf 162 = .ok (.iadd, 1) := by decide +kernel
theorem dX11_worthOf_163 : decode cX11_worthOf 163 = .ok (.aload_n 0, 1) := by decide +kernel
theorem dX11_worthOf_164 : decode cX11_worthOf 164 = .ok (.getfield 9, 3) := by decide +kernel
theorem dX11_worthOf_167 : decode cX11_worthOf 167 = .ok (.bipush 9, 2) := by decide +kernel
theorem dX11_worthOf_169 : decode cX11_worthOf 169 = .ok (.iaload, 1) := by decide +kernel
theorem dX11_worthOf_170 : decode cX11_worthOf 170 = .ok (.iconst 4, 1) := by decide +kernel
theorem dX11_worthOf_171 : decode cX11_worthOf 171 = .ok (.irem, 1) := by decide +kernel
theorem dX11_worthOf_172 : decode cX11_worthOf 172 = .ok (.iadd, 1) := by decide +kernel
theorem dX11_worthOf_173 : decode cX11_worthOf 173 = .ok (.iaload, 1) := by decide +kernel
theorem dX11_worthOf_174 : decode cX11_worthOf 174 = .ok (.iadd, 1) := by decide +kernel
theorem dX11_worthOf_175 : decode cX11_worthOf 175 = .ok (.ireturn, 1) := by decide +kernel
theorem dX11_worthOf_176 : decode cX11_worthOf 176 = .ok (.iload_n 3, 1) := by decide +kernel
theorem dX11_worthOf_177 : decode cX11_worthOf 177 = .ok (.ireturn, 1) := by decide +kernel
theorem dX11_looksForWorths_0 : decode cX11_looksForWorths 0 = .ok (.iconst 0, 1) := by decide +kernel
theorem dX11_looksForWorths_1 : decode cX11_looksForWorths 1 = .ok (.istore_n 1, 1) := by decide +kernel
theorem dX11_looksForWorths_2 : decode cX11_looksForWorths 2 = .ok (.iload_n 1, 1) := by decide +kernel
theorem dX11_looksForWorths_3 : decode cX11_looksForWorths 3 = .ok (.iconst 4, 1) := by decide +kernel
theorem dX11_looksForWorths_4 : decode cX11_looksForWorths 4 = .ok (.if_icmp .ge 43, 3) := by decide +kernel
theorem dX11_looksForWorths_7 : decode cX11_looksForWorths 7 = .ok (.aload_n 0, 1) := by decide +kernel
theorem dX11_looksForWorths_8 : decode cX11_looksForWorths 8 = .ok (.getfield 25, 3) := by decide +kernel
theorem dX11_looksForWorths_11 : decode cX11_looksForWorths 11 = .ok (.iload_n 1, 1) := by decide +kernel
theorem dX11_looksForWorths_12 : decode cX11_looksForWorths 12 = .ok (.iload_n 1, 1) := by decide +kernel
theorem dX11_looksForWorths_13 : decode cX11_looksForWorths 13 = .ok (.aload_n 0, 1) := by decide +kernel
theorem dX11_looksForWorths_14 : decode cX11_looksForWorths 14 = .ok (.getfield 9, 3) := by decide +kernel
theorem dX11_looksForWorths_17 : decode cX11_looksForWorths 17 = .ok (.iconst 0, 1) := by decide +kernel
theorem dX11_looksForWorths_18 : decode cX11_looksForWorths 18 = .ok (.iaload, 1) := by decide +kernel
theorem dX11_looksForWorths_19 : decode cX11_looksForWorths 19 = .ok (.if_icmp .ge 20, 3) := by decide +kernel
theorem dX11_looksForWorths_22 : decode cX11_looksForWorths 22 = .ok (.aload_n 0, 1) := by decide +kernel
theorem dX11_looksForWorths_23 : decode cX11_looksForWorths 23 = .ok (.iload_n 1, 1) := by decide +kernel
theorem dX11_looksForWorths_24 : decode cX11_looksForWorths 24 = .ok (.aload_n 0, 1) := by decide +kernel
theorem dX11_looksForWorths_25 : decode cX11_looksForWorths 25 = .ok (.getfield 9, 3) := by decide +kernel
theorem dX11_looksForWorths_28 : decode cX11_looksForWorths 28 = .ok (.bipush 18, 2) := by decide +kernel
theorem dX11_looksForWorths_30 : decode cX11_looksForWorths 30 = .ok (.iload_n 1, 1) := by decide +kernel
theorem dX11_looksForWorths_31 : decode cX11_looksForWorths 31 = .ok (.iadd, 1) := by decide +kernel
theorem dX11_looksForWorths_32 : decode cX11_looksForWorths 32 = .ok (.iaload, 1) := by decide +kernel
theorem dX11_looksForWorths_33 : decode cX11_looksForWorths 33 = .ok (.invokevirtual 158, 3) := by decide +kernel
theorem dX11_looksForWorths_36 : decode cX11_looksForWorths 36 = .ok (.goto 4, 3) := by decide +kernel
theorem dX11_looksForWorths_39 : decode cX11_looksForWorths 39 = .ok (.iconst 0, 1) := by decide +kernel
theorem dX11_looksForWorths_40 : decode cX11_looksForWorths 40 = .ok (.iastore, 1) := by decide +kernel
theorem dX11_looksForWorths_41 : decode cX11_looksForWorths 41 = .ok (.iinc 1 1, 3) := by decide +kernel
theorem dX11_looksForWorths_44 : decode cX11_looksForWorths 44 = .ok (.goto (-42), 3) := by decide +kernel
theorem dX11_looksForWorths_47 : decode cX11_looksForWorths 47 = .ok (.return_, 1) := by decide +kernel
theorem dX11_looksForAll_0 : decode cX11_looksForAll 0 = .ok (.iconst 0, 1) := by decide +kernel
theorem dX11_looksForAll_1 : decode cX11_looksForAll 1 = .ok (.istore_n 1, 1) := by decide +kernel
theorem dX11_looksForAll_2 : decode cX11_looksForAll 2 = .ok (.iload_n 1, 1) := by decide +kernel
theorem dX11_looksForAll_3 : decode cX11_looksForAll 3 = .ok (.aload_n 0, 1) := by decide +kernel
theorem dX11_looksForAll_4 : decode cX11_looksForAll 4 = .ok (.getfield 9, 3) := by decide +kernel
theorem dX11_looksForAll_7 : decode cX11_looksForAll 7 = .ok (.iconst 0, 1) := by decide +kernel
theorem dX11_looksForAll_8 : decode cX11_looksForAll 8 = .ok (.iaload, 1) := by decide +kernel
theorem dX11_looksForAll_9 : decode cX11_looksForAll 9 = .ok (.if_icmp .ge 40, 3) := by decide +kernel
theorem dX11_looksForAll_12 : decode cX11_looksForAll 12 = .ok (.iconst 1, 1) := by decide +kernel
theorem dX11_looksForAll_13 : decode cX11_looksForAll 13 = .ok (.istore_n 2, 1) := by decide +kernel
theorem dX11_looksForAll_14 : decode cX11_looksForAll 14 = .ok (.iload_n 2, 1) := by decide +kernel
theorem dX11_looksForAll_15 : decode cX11_looksForAll 15 = .ok (.bipush 10, 2) := by decide +kernel
theorem dX11_looksForAll_17 : decode cX11_looksForAll 17 = .ok (.if_icmp .ge 26, 3) := by decide +kernel
theorem dX11_looksForAll_20 : decode cX11_looksForAll 20 = .ok (.aload_n 0, 1) := by decide +kernel
theorem dX11_looksForAll_21 : decode cX11_looksForAll 21 = .ok (.getfield 28, 3) := by decide +kernel
theorem dX11_looksForAll_24 : decode cX11_looksForAll 24 = .ok (.bipush 10, 2) := by decide +kernel
theorem dX11_looksForAll_26 : decode cX11_looksForAll 26 = .ok (.iload_n 1, 1) := by decide +kernel
theorem dX11_looksForAll_27 : decode cX11_looksForAll 27 = .ok (.imul, 1) := by decide +kernel
theorem dX11_looksForAll_28 : decode cX11_looksForAll 28 = .ok (.iload_n 2, 1) := by decide +kernel
theorem dX11_looksForAll_29 : decode cX11_looksForAll 29 = .ok (.iadd, 1) := by decide +kernel
theorem dX11_looksForAll_30 : decode cX11_looksForAll 30 = .ok (.aload_n 0, 1) := by decide +kernel
theorem dX11_looksForAll_31 : decode cX11_looksForAll 31 = .ok (.iload_n 1, 1) := by decide +kernel
theorem dX11_looksForAll_32 : decode cX11_looksForAll 32 = .ok (.iload_n 2, 1) := by decide +kernel
theorem dX11_looksForAll_33 : decode cX11_looksForAll 33 = .ok (.invokevirtual 158, 3) := by decide +kernel
theorem dX11_looksForAll_36 : decode cX11_looksForAll 36 = .ok (.iastore, 1) := by decide +kernel
theorem dX11_looksForAll_37 : decode cX11_looksForAll 37 = .ok (.iinc 2 1, 3) := by decide +kernel
theorem dX11_looksForAll_40 : decode cX11_looksForAll 40 = .ok (.goto (-26), 3) := by decide +kernel
theorem dX11_looksForAll_43 : decode cX11_looksForAll 43 = .ok (.iinc 1 1, 3) := by decide +kernel
theorem dX11_looksForAll_46 : decode cX11_looksForAll 46 = .ok (.goto (-44), 3) := by decide +kernel
theorem dX11_looksForAll_49 : decode cX11_looksForAll 49 = .ok (.return_, 1) := by decide +kernel
theorem dX11_coin_0 : decode cX11_coin 0 = .ok (.iload_n 1, 1) := by decide +kernel
theorem dX11_coin_1 : decode cX11_coin 1 = .ok (.iconst 0, 1) := by decide +kernel
theorem dX11_coin_2 : decode cX11_coin 2 = .ok (.bipush 6, 2) := by decide +kernel
theorem dX11_coin_4 : decode cX11_coin 4 = .ok (.invokestatic 65, 3) := by decide +kernel
theorem dX11_coin_7 : decode cX11_coin 7 = .ok (.ifCond .ne 5, 3) := by decide +kernel
theorem dX11_coin_10 : decode cX11_coin 10 = .ok (.iconst (-1), 1) := by decide +kernel
theorem dX11_coin_11 : decode cX11_coin 11 = .ok (.ireturn, 1) := by decide +kernel
theorem dX11_coin_12 : decode cX11_coin 12 = .ok (.iload_n 2, 1) := by decide +kernel
theorem dX11_coin_13 : decode cX11_coin 13 = .ok (.iconst 0, 1) := by decide +kernel
theorem dX11_coin_14 : decode cX11_coin 14 = .ok (.bipush 9, 2) := by decide +kernel
theorem dX11_coin_16 : decode cX11_coin 16 = .ok (.invokestatic 65, 3) := by decide +kernel
theorem dX11_coin_19 : decode cX11_coin 19 = .ok (.ifCond .eq 24, 3) := by decide +kernel
theorem dX11_coin_22 : decode cX11_coin 22 = .ok (.iload_n 3, 1) := by decide +kernel
theorem dX11_coin_23 : decode cX11_coin 23 = .ok (.iconst 1, 1) := by decide +kernel
theorem dX11_coin_24 : decode cX11_coin 24 = .ok (.bipush 9, 2) := by decide +kernel
theorem dX11_coin_26 : decode cX11_coin 26 = .ok (.invokestatic 65, 3) := by decide +kernel
theorem dX11_coin_29 : decode cX11_coin 29 = .ok (.ifCond .eq 14, 3) := by decide +kernel
theorem dX11_coin_32 : decode cX11_coin 32 = .ok (.iload 4, 2) := by decide +kernel
theorem dX11_coin_34 : decode cX11_coin 34 = .ok (.iconst 0, 1) := by decide +kernel
theorem dX11_coin_35 : decode cX11_coin 35 = .ok (.bipush 9, 2) := by decide +kernel
theorem dX11_coin_37 : decode cX11_coin 37 = .ok (.invokestatic 65, 3) := by decide +kernel
theorem dX11_coin_40 : decode cX11_coin 40 = .ok (.ifCond .ne 6, 3) := by decide +kernel
theorem dX11_coin_43 : decode cX11_coin 43 = .ok (.bipush (-2), 2) := by decide +kernel
theorem dX11_coin_45 : decode cX11_coin 45 = .ok (.ireturn, 1) := by decide +kernel
theorem dX11_coin_46 : decode cX11_coin 46 = .ok (.aload_n 0, 1) := by decide +kernel
theorem dX11_coin_47 : decode cX11_coin 47 = .ok (.getfield 9, 3) := by decide +kernel
theorem dX11_coin_50 : decode cX11_coin 50 = .ok (.iconst 0, 1) := by decide +kernel
theorem dX11_coin_51 : decode cX11_coin 51 = .ok (.iaload, 1) := by decide +kernel
theorem dX11_coin_52 : decode cX11_coin 52 = .ok (.iconst 4, 1) := by decide +kernel
theorem dX11_coin_53 : decode cX11_coin 53 = .ok (.if_icmp .ne 6, 3) := by decide +kernel
theorem dX11_coin_56 : decode cX11_coin 56 = .ok (.bipush (-4), 2) := by decide +kernel
theorem dX11_coin_58 : decode cX11_coin 58 = .ok (.ireturn, 1) := by decide +kernel
theorem dX11_coin_59 : decode cX11_coin 59 = .ok (.aload_n 0, 1) := by decide +kernel
theorem dX11_coin_60 : decode cX11_coin 60 = .ok (.getfield 9, 3) := by decide +kernel
theorem dX11_coin_63 : decode cX11_coin 63 = .ok (.iconst 0, 1) := by decide +kernel
theorem dX11_coin_64 : decode cX11_coin 64 = .ok (.iaload, 1) := by decide +kernel
theorem dX11_coin_65 : decode cX11_coin 65 = .ok (.istore 5, 2) := by decide +kernel
theorem dX11_coin_67 : decode cX11_coin 67 = .ok (.aload_n 0, 1) := by decide +kernel
theorem dX11_coin_68 : decode cX11_coin 68 = .ok (.getfield 9, 3) := by decide +kernel
theorem dX11_coin_71 : decode cX11_coin 71 = .ok (.bipush 10, 2) := by decide +kernel
theorem dX11_coin_73 : decode cX11_coin 73 = .ok (.iload 5, 2) := by decide +kernel
theorem dX11_coin_75 : decode cX11_coin 75 = .ok (.iadd, 1) := by decide +kernel
theorem dX11_coin_76 : decode cX11_coin 76 = .ok (.iload_n 1, 1) := by decide +kernel
theorem dX11_coin_77 : decode cX11_coin 77 = .ok (.iastore, 1) := by decide +kernel
theorem dX11_coin_78 : decode cX11_coin 78 = .ok (.aload_n 0, 1) := by decide +kernel
theorem dX11_coin_79 : decode cX11_coin 79 = .ok (.getfield 9, 3) := by decide +kernel
theorem dX11_coin_82 : decode cX11_coin 82 = .ok (.bipush 14, 2) := by decide +kernel
theorem dX11_coin_84 : decode cX11_coin 84 = .ok (.iload 5, 2) := by decide +kernel
theorem dX11_coin_86 : decode cX11_coin 86 = .ok (.iadd, 1) := by decide +kernel
theorem dX11_coin_87 : decode cX11_coin 87 = .ok (.iload_n 2, 1) := by decide +kernel
theorem dX11_coin_88 : decode cX11_coin 88 = .ok (.iastore, 1) := by decide +kernel
theorem dX11_coin_89 : decode cX11_coin 89 = .ok (.aload_n 0, 1) := by decide +kernel
theorem dX11_coin_90 : decode cX11_coin 90 = .ok (.getfield 9, 3) := by decide +kernel
theorem dX11_coin_93 : decode cX11_coin 93 = .ok (.bipush 18, 2) := by decide +kernel
theorem dX11_coin_95 : decode cX11_coin 95 = .ok (.iload 5, 2) := by decide +kernel
theorem dX11_coin_97 : decode cX11_coin 97 = .ok (.iadd, 1) := by decide +kernel
theorem dX11_coin_98 : decode cX11_coin 98 = .ok (.iload_n 3, 1) := by decide +kernel
theorem dX11_coin_99 : decode cX11_coin 99 = .ok (.iastore, 1) := by decide +kernel
theorem dX11_coin_100 : decode cX11_coin 100 = .ok (.aload_n 0, 1) := by decide +kernel
theorem dX11_coin_101 : decode cX11_coin 101 = .ok (.getfield 9, 3) := by decide +kernel
theorem dX11_coin_104 : decode cX11_coin 104 = .ok (.bipush 22, 2) := by decide +kernel
theorem dX11_coin_106 : decode cX11_coin 106 = .ok (.iload 5, 2) := by decide +kernel
theorem dX11_coin_108 : decode cX11_coin 108 = .ok (.iadd, 1) := by decide +kernel
theorem dX11_coin_109 : decode cX11_coin 109 = .ok (.iload 4, 2) := by decide +kernel
theorem dX11_coin_111 : decode cX11_coin 111 = .ok (.iastore, 1) := by decide +kernel
theorem dX11_coin_112 : decode cX11_coin 112 = .ok (.iconst 0, 1) := by decide +kernel
theorem dX11_coin_113 : decode cX11_coin 113 = .ok (.istore 6, 2) := by decide +kernel
theorem dX11_coin_115 : decode cX11_coin 115 = .ok (.iload 6, 2) := by decide +kernel
theorem dX11_coin_117 : decode cX11_coin 117 = .ok (.iconst 4, 1) := by decide +kernel
theorem dX11_coin_118 : decode cX11_coin 118 = .ok (.if_icmp .ge 25, 3) := by decide +kernel
theorem dX11_coin_121 : decode cX11_coin 121 = .ok (.aload_n 0, 1) := by decide +kernel
theorem dX11_coin_122 : decode cX11_coin 122 = .ok (.getfield 9, 3) := by decide +kernel
theorem dX11_coin_125 : decode cX11_coin 125 = .ok (.bipush 26, 2) := by decide +kernel
theorem dX11_coin_127 : decode cX11_coin 127 = .ok (.iconst 4, 1) := by decide +kernel
theorem dX11_coin_128 : decode cX11_coin 128 = .ok (.iload 5, 2) := by decide +kernel
theorem dX11_coin_130 : decode cX11_coin 130 = .ok (.imul, 1) := by decide +kernel
theorem dX11_coin_131 : decode cX11_coin 131 = .ok (.iadd, 1) := by decide +kernel
theorem dX11_coin_132 : decode cX11_coin 132 = .ok (.iload 6, 2) := by decide +kernel
theorem dX11_coin_134 : decode cX11_coin 134 = .ok (.iadd, 1) := by decide +kernel
theorem dX11_coin_135 : decode cX11_coin 135 = .ok (.iconst 0, 1) := by decide +kernel
theorem dX11_coin_136 : decode cX11_coin 136 = .ok (.iastore, 1) := by decide +kernel
theorem dX11_coin_137 : decode cX11_coin 137 = .ok (.iinc 6 1, 3) := by decide +kernel
theorem dX11_coin_140 : decode cX11_coin 140 = .ok (.goto (-25), 3) := by decide +kernel
theorem dX11_coin_143 : decode cX11_coin 143 = .ok (.aload_n 0, 1) := by decide +kernel
theorem dX11_coin_144 : decode cX11_coin 144 = .ok (.getfield 9, 3) := by decide +kernel
theorem dX11_coin_147 : decode cX11_coin 147 = .ok (.iconst 0, 1) := by decide +kernel
theorem dX11_coin_148 : decode cX11_coin 148 = .ok (.dup2, 1) := by decide +kernel
theorem dX11_coin_149 : decode cX11_coin 149 = .ok (.iaload, 1) := by decide +kernel
theorem dX11_coin_150 : decode cX11_coin 150 = .ok (.iconst 1, 1) := by decide +kernel
theorem dX11_coin_151 : decode cX11_coin 151 = .ok (.iadd, 1) := by decide +kernel
theorem dX11_coin_152 : decode cX11_coin 152 = .ok (.iastore, 1) := by decide +kernel
theorem dX11_coin_153 : decode cX11_coin 153 = .ok (.iload 5, 2) := by decide +kernel
theorem dX11_coin_155 : decode cX11_coin 155 = .ok (.ireturn, 1) := by decide +kernel
theorem dX11_of_0 : decode cX11_of 0 = .ok (.aload_n 0, 1) := by decide +kernel
theorem dX11_of_1 : decode cX11_of 1 = .ok (.iload_n 1, 1) := by decide +kernel
theorem dX11_of_2 : decode cX11_of 2 = .ok (.invokevirtual 161, 3) := by decide +kernel
theorem dX11_of_5 : decode cX11_of 5 = .ok (.ifCond .eq 23, 3) := by decide +kernel
theorem dX11_of_8 : decode cX11_of 8 = .ok (.iload_n 2, 1) := by decide +kernel
theorem dX11_of_9 : decode cX11_of 9 = .ok (.iconst 0, 1) := by decide +kernel
theorem dX11_of_10 : decode cX11_of 10 = .ok (.iconst 4, 1) := by decide +kernel
theorem dX11_of_11 : decode cX11_of 11 = .ok (.invokestatic 65, 3) := by decide +kernel
theorem dX11_of_14 : decode cX11_of 14 = .ok (.ifCond .ne 16, 3) := by decide +kernel
theorem dX11_of_17 : decode cX11_of 17 = .ok (.iload_n 2, 1) := by decide +kernel
theorem dX11_of_18 : decode cX11_of 18 = .ok (.bipush 11, 2) := by decide +kernel
theorem dX11_of_20 : decode cX11_of 20 = .ok (.bipush 19, 2) := by decide +kernel
theorem dX11_of_22 : decode cX11_of 22 = .ok (.invokestatic 65, 3) := by decide +kernel
theorem dX11_of_25 : decode cX11_of 25 = .ok (.ifCond .ne 5, 3) := by decide +kernel
theorem dX11_of_28 : decode cX11_of 28 = .ok (.iconst (-1), 1) := by decide +kernel
theorem dX11_of_29 : decode cX11_of 29 = .ok (.ireturn, 1) := by decide +kernel
theorem dX11_of_30 : decode cX11_of 30 = .ok (.iload_n 2, 1) := by decide +kernel
theorem dX11_of_31 : decode cX11_of 31 = .ok (.iconst 4, 1) := by decide +kernel
theorem dX11_of_32 : decode cX11_of 32 = .ok (.if_icmp .ge 19, 3) := by decide +kernel
theorem dX11_of_35 : decode cX11_of 35 = .ok (.aload_n 0, 1) := by decide +kernel
theorem dX11_of_36 : decode cX11_of 36 = .ok (.getfield 9, 3) := by decide +kernel
theorem dX11_of_39 : decode cX11_of 39 = .ok (.bipush 10, 2) := by decide +kernel
theorem dX11_of_41 : decode cX11_of 41 = .ok (.iconst 4, 1) := by decide +kernel
theorem dX11_of_42 : decode cX11_of 42 = .ok (.iload_n 2, 1) := by decide +kernel
theorem dX11_of_43 : decode cX11_of 43 = .ok (.imul, 1) := by decide +kernel
theorem dX11_of_44 : decode cX11_of 44 = .ok (.iadd, 1) := by decide +kernel
theorem dX11_of_45 : decode cX11_of 45 = .ok (.iload_n 1, 1) := by decide +kernel
theorem dX11_of_46 : decode cX11_of 46 = .ok (.iadd, 1) := by decide +kernel
theorem dX11_of_47 : decode cX11_of 47 = .ok (.iaload, 1) := by decide +kernel
theorem dX11_of_48 : decode cX11_of 48 = .ok (.goto 29, 3) := by decide +kernel
theorem dX11_of_51 : decode cX11_of 51 = .ok (.aload_n 0, 1) := by decide +kernel
theorem dX11_of_52 : decode cX11_of 52 = .ok (.iload_n 1, 1) := by decide +kernel
theorem dX11_of_53 : decode cX11_of 53 = .ok (.iload_n 2, 1) := by decide +kernel
theorem dX11_of_54 : decode cX11_of 54 = .ok (.iconst 4, 1) := by decide +kernel
theorem dX11_of_55 : decode cX11_of 55 = .ok (.if_icmp .ne 15, 3) := by decide +kernel
theorem dX11_of_58 : decode cX11_of 58 = .ok (.aload_n 0, 1) := by decide +kernel
theorem dX11_of_59 : decode cX11_of 59 = .ok (.getfield 9, 3) := by decide +kernel
theorem dX11_of_62 : decode cX11_of 62 = .ok (.bipush 18, 2) := by decide +kernel
theorem dX11_of_64 : decode cX11_of 64 = .ok (.iload_n 1, 1) := by decide +kernel
theorem dX11_of_65 : decode cX11_of 65 = .ok (.iadd, 1) := by decide +kernel
theorem dX11_of_66 : decode cX11_of 66 = .ok (.iaload, 1) := by decide +kernel
theorem dX11_of_67 : decode cX11_of 67 = .ok (.goto 7, 3) := by decide +kernel
theorem dX11_of_70 : decode cX11_of 70 = .ok (.iload_n 2, 1) := by decide +kernel
theorem dX11_of_71 : decode cX11_of 71 = .ok (.bipush 10, 2) := by decide +kernel
theorem dX11_of_73 : decode cX11_of 73 = .ok (.isub, 1) := by decide +kernel
theorem dX11_of_74 : decode cX11_of 74 = .ok (.invokevirtual 158, 3) := by decide +kernel
theorem dX11_of_77 : decode cX11_of 77 = .ok (.ireturn, 1) := by decide +kernel
theorem dX11_row_0 : decode cX11_row 0 = .ok (.aload_n 0, 1) := by decide +kernel
theorem dX11_row_1 : decode cX11_row 1 = .ok (.iload_n 1, 1) := by decide +kernel
theorem dX11_row_2 : decode cX11_row 2 = .ok (.invokevirtual 161, 3) := by decide +kernel
theorem dX11_row_5 : decode cX11_row 5 = .ok (.ifCond .eq 12, 3) := by decide +kernel
theorem dX11_row_8 : decode cX11_row 8 = .ok (.iload_n 2, 1) := by decide +kernel
theorem dX11_row_9 : decode cX11_row 9 = .ok (.iconst 0, 1) := by decide +kernel
theorem dX11_row_10 : decode cX11_row 10 = .ok (.iconst 3, 1) := by decide +kernel
theorem dX11_row_11 : decode cX11_row 11 = .ok (.invokestatic 65, 3) := by decide +kernel
theorem dX11_row_14 : decode cX11_row 14 = .ok (.ifCond .ne 5, 3) := by decide +kernel
theorem dX11_row_17 : decode cX11_row 17 = .ok (.iconst (-1), 1) := by decide +kernel
theorem dX11_row_18 : decode cX11_row 18 = .ok (.ireturn, 1) := by decide +kernel
theorem dX11_row_19 : decode cX11_row 19 = .ok (.iload_n 3, 1) := by decide +kernel
theorem dX11_row_20 : decode cX11_row 20 = .ok (.iconst 0, 1) := by decide +kernel
theorem dX11_row_21 : decode cX11_row 21 = .ok (.bipush 9, 2) := by decide +kernel
theorem dX11_row_23 : decode cX11_row 23 = .ok (.invokestatic 65, 3) := by decide +kernel
theorem dX11_row_26 : decode cX11_row 26 = .ok (.ifCond .ne 6, 3) := by decide +kernel
theorem dX11_row_29 : decode cX11_row 29 = .ok (.bipush (-2), 2) := by decide +kernel
theorem dX11_row_31 : decode cX11_row 31 = .ok (.ireturn, 1) := by decide +kernel
theorem dX11_row_32 : decode cX11_row 32 = .ok (.aload_n 0, 1) := by decide +kernel
theorem dX11_row_33 : decode cX11_row 33 = .ok (.getfield 9, 3) := by decide +kernel
theorem dX11_row_36 : decode cX11_row 36 = .ok (.bipush 10, 2) := by decide +kernel
theorem dX11_row_38 : decode cX11_row 38 = .ok (.iload_n 1, 1) := by decide +kernel
theorem dX11_row_39 : decode cX11_row 39 = .ok (.iadd, 1) := by decide +kernel
theorem dX11_row_40 : decode cX11_row 40 = .ok (.iaload, 1) := by decide +kernel
theorem dX11_row_41 : decode cX11_row 41 = .ok (.bipush 6, 2) := by decide +kernel
theorem dX11_row_43 : decode cX11_row 43 = .ok (.if_icmp .eq 6, 3) := by decide +kernel
theorem dX11_row_46 : decode cX11_row 46 = .ok (.bipush (-3), 2) := by decide +kernel
theorem dX11_row_48 : decode cX11_row 48 = .ok (.ireturn, 1) := by decide +kernel
theorem dX11_row_49 : decode cX11_row 49 = .ok (.aload_n 0, 1) := by decide +kernel
theorem dX11_row_50 : decode cX11_row 50 = .ok (.getfield 9, 3) := by decide +kernel
theorem dX11_row_53 : decode cX11_row 53 = .ok (.bipush 26, 2) := by decide +kernel
theorem dX11_row_55 : decode cX11_row 55 = .ok (.iconst 4, 1) := by decide +kernel
theorem dX11_row_56 : decode cX11_row 56 = .ok (.iload_n 1, 1) := by decide +kernel
theorem dX11_row_57 : decode cX11_row 57 = .ok (.imul, 1) := by decide +kernel
theorem dX11_row_58 : decode cX11_row 58 = .ok (.iadd, 1) := by decide +kernel
theorem dX11_row_59 : decode cX11_row 59 = .ok (.iload_n 2, 1) := by decide +kernel
theorem dX11_row_60 : decode cX11_row 60 = .ok (.iadd, 1) := by decide +kernel
theorem dX11_row_61 : decode cX11_row 61 = .ok (.iaload, 1) := by decide +kernel
theorem dX11_row_62 : decode cX11_row 62 = .ok (.istore 4, 2) := by decide +kernel
theorem dX11_row_64 : decode cX11_row 64 = .ok (.aload_n 0, 1) := by decide +kernel
theorem dX11_row_65 : decode cX11_row 65 = .ok (.getfield 9, 3) := by decide +kernel
theorem dX11_row_68 : decode cX11_row 68 = .ok (.bipush 26, 2) := by decide +kernel
theorem dX11_row_70 : decode cX11_row 70 = .ok (.iconst 4, 1) := by decide +kernel
theorem dX11_row_71 : decode cX11_row 71 = .ok (.iload_n 1, 1) := by decide +kernel
theorem dX11_row_72 : decode cX11_row 72 = .ok (.imul, 1) := by decide +kernel
theorem dX11_row_73 : decode cX11_row 73 = .ok (.iadd, 1) := by decide +kernel
theorem dX11_row_74 : decode cX11_row 74 = .ok (.iload_n 2, 1) := by decide +kernel
theorem dX11_row_75 : decode cX11_row 75 = .ok (.iadd, 1) := by decide +kernel
theorem dX11_row_76 : decode cX11_row 76 = .ok (.iload_n 3, 1) := by decide +kernel
theorem dX11_row_77 : decode cX11_row 77 = .ok (.iastore, 1) := by decide +kernel
theorem dX11_row_78 : decode cX11_row 78 = .ok (.iload 4, 2) := by decide +kernel
theorem dX11_row_80 : decode cX11_row 80 = .ok (.ireturn, 1) := by decide +kernel
theorem dX11_set_0 : decode cX11_set 0 = .ok (.aload_n 0, 1) := by decide +kernel
theorem dX11_set_1 : decode cX11_set 1 = .ok (.iload_n 1, 1) := by decide +kernel
theorem dX11_set_2 : decode cX11_set 2 = .ok (.invokevirtual 161, 3) := by decide +kernel
theorem dX11_set_5 : decode cX11_set 5 = .ok (.ifCond .eq 12, 3) := by decide +kernel
theorem dX11_set_8 : decode cX11_set 8 = .ok (.iload_n 2, 1) := by decide +kernel
theorem dX11_set_9 : decode cX11_set 9 = .ok (.iconst 0, 1) := by decide +kernel
theorem dX11_set_10 : decode cX11_set 10 = .ok (.iconst 1, 1) := by decide +kernel
theorem dX11_set_11 : decode cX11_set 11 = .ok (.invokestatic 65, 3) := by decide +kernel
theorem dX11_set_14 : decode cX11_set 14 = .ok (.ifCond .ne 5, 3) := by decide +kernel
theorem dX11_set_17 : decode cX11_set 17 = .ok (.iconst (-1), 1) := by decide +kernel
theorem dX11_set_18 : decode cX11_set 18 = .ok (.ireturn, 1) := by decide +kernel
theorem dX11_set_19 : decode cX11_set 19 = .ok (.iload_n 3, 1) := by decide +kernel
theorem dX11_set_20 : decode cX11_set 20 = .ok (.iconst 1, 1) := by decide +kernel
theorem dX11_set_21 : decode cX11_set 21 = .ok (.iload_n 2, 1) := by decide +kernel
theorem dX11_set_22 : decode cX11_set 22 = .ok (.isub, 1) := by decide +kernel
theorem dX11_set_23 : decode cX11_set 23 = .ok (.bipush 9, 2) := by decide +kernel
theorem dX11_set_25 : decode cX11_set 25 = .ok (.invokestatic 65, 3) := by decide +kernel
theorem dX11_set_28 : decode cX11_set 28 = .ok (.ifCond .ne 6, 3) := by decide +kernel
theorem dX11_set_31 : decode cX11_set 31 = .ok (.bipush (-2), 2) := by decide +kernel
theorem dX11_set_33 : decode cX11_set 33 = .ok (.ireturn, 1) := by decide +kernel
theorem dX11_set_34 : decode cX11_set 34 = .ok (.iload_n 2, 1) := by decide +kernel
theorem dX11_set_35 : decode cX11_set 35 = .ok (.ifCond .ne 10, 3) := by decide +kernel
theorem dX11_set_38 : decode cX11_set 38 = .ok (.bipush 18, 2) := by decide +kernel
theorem dX11_set_40 : decode cX11_set 40 = .ok (.iload_n 1, 1) := by decide +kernel
theorem dX11_set_41 : decode cX11_set 41 = .ok (.iadd, 1) := by decide +kernel
theorem dX11_set_42 : decode cX11_set 42 = .ok (.goto 7, 3) := by decide +kernel
theorem dX11_set_45 : decode cX11_set 45 = .ok (.bipush 22, 2) := by decide +kernel
theorem dX11_set_47 : decode cX11_set 47 = .ok (.iload_n 1, 1) := by decide +kernel
theorem dX11_set_48 : decode cX11_set 48 = .ok (.iadd, 1) := by decide +kernel
theorem dX11_set_49 : decode cX11_set 49 = .ok (.istore 4, 2) := by decide +kernel
theorem dX11_set_51 : decode cX11_set 51 = .ok (.aload_n 0, 1) := by decide +kernel
theorem dX11_set_52 : decode cX11_set 52 = .ok (.getfield 9, 3) := by decide +kernel
theorem dX11_set_55 : decode cX11_set 55 = .ok (.iload 4, 2) := by decide +kernel
theorem dX11_set_57 : decode cX11_set 57 = .ok (.iaload, 1) := by decide +kernel
theorem dX11_set_58 : decode cX11_set 58 = .ok (.istore 5, 2) := by decide +kernel
theorem dX11_set_60 : decode cX11_set 60 = .ok (.aload_n 0, 1) := by decide +kernel
theorem dX11_set_61 : decode cX11_set 61 = .ok (.getfield 9, 3) := by decide +kernel
theorem dX11_set_64 : decode cX11_set 64 = .ok (.iload 4, 2) := by decide +kernel
theorem dX11_set_66 : decode cX11_set 66 = .ok (.iload_n 3, 1) := by decide +kernel
theorem dX11_set_67 : decode cX11_set 67 = .ok (.iastore, 1) := by decide +kernel
theorem dX11_set_68 : decode cX11_set 68 = .ok (.iload 5, 2) := by decide +kernel
theorem dX11_set_70 : decode cX11_set 70 = .ok (.ireturn, 1) := by decide +kernel
theorem dX11_ware_0 : decode cX11_ware 0 = .ok (.iload_n 1, 1) := by decide +kernel
theorem dX11_ware_1 : decode cX11_ware 1 = .ok (.iconst 1, 1) := by decide +kernel
theorem dX11_ware_2 : decode cX11_ware 2 = .ok (.bipush 60, 2) := by decide +kernel
theorem dX11_ware_4 : decode cX11_ware 4 = .ok (.invokestatic 65, 3) := by decide +kernel
theorem dX11_ware_7 : decode cX11_ware 7 = .ok (.ifCond .ne 6, 3) := by decide +kernel
theorem dX11_ware_10 : decode cX11_ware 10 = .ok (.bipush (-2), 2) := by decide +kernel
theorem dX11_ware_12 : decode cX11_ware 12 = .ok (.ireturn, 1) := by decide +kernel
theorem dX11_ware_13 : decode cX11_ware 13 = .ok (.aload_n 0, 1) := by decide +kernel
theorem dX11_ware_14 : decode cX11_ware 14 = .ok (.getfield 9, 3) := by decide +kernel
theorem dX11_ware_17 : decode cX11_ware 17 = .ok (.iconst 1, 1) := by decide +kernel
theorem dX11_ware_18 : decode cX11_ware 18 = .ok (.iaload, 1) := by decide +kernel
theorem dX11_ware_19 : decode cX11_ware 19 = .ok (.iconst 5, 1) := by decide +kernel
theorem dX11_ware_20 : decode cX11_ware 20 = .ok (.if_icmp .ne 6, 3) := by decide +kernel
theorem dX11_ware_23 : decode cX11_ware 23 = .ok (.bipush (-4), 2) := by decide +kernel
theorem dX11_ware_25 : decode cX11_ware 25 = .ok (.ireturn, 1) := by decide +kernel
theorem dX11_ware_26 : decode cX11_ware 26 = .ok (.aload_n 0, 1) := by decide +kernel
theorem dX11_ware_27 : decode cX11_ware 27 = .ok (.getfield 9, 3) := by decide +kernel
theorem dX11_ware_30 : decode cX11_ware 30 = .ok (.bipush 42, 2) := by decide +kernel
theorem dX11_ware_32 : decode cX11_ware 32 = .ok (.aload_n 0, 1) := by decide +kernel
theorem dX11_ware_33 : decode cX11_ware 33 = .ok (.getfield 9, 3) := by decide +kernel
theorem dX11_ware_36 : decode cX11_ware 36 = .ok (.iconst 1, 1) := by decide +kernel
theorem dX11_ware_37 : decode cX11_ware 37 = .ok (.iaload, 1) := by decide +kernel
theorem dX11_ware_38 : decode cX11_ware 38 = .ok (.iadd, 1) := by decide +kernel
theorem dX11_ware_39 : decode cX11_ware 39 = .ok (.iload_n 1, 1) := by decide +kernel
theorem dX11_ware_40 : decode cX11_ware 40 = .ok (.iastore, 1) := by decide +kernel
theorem dX11_ware_41 : decode cX11_ware 41 = .ok (.aload_n 0, 1) := by decide +kernel
theorem dX11_ware_42 : decode cX11_ware 42 = .ok (.getfield 9, 3) := by decide +kernel
theorem dX11_ware_45 : decode cX11_ware 45 = .ok (.iconst 1, 1) := by decide +kernel
theorem dX11_ware_46 : decode cX11_ware 46 = .ok (.dup2, 1) := by decide +kernel
theorem dX11_ware_47 : decode cX11_ware 47 = .ok (.iaload, 1) := by decide +kernel
theorem dX11_ware_48 : decode cX11_ware 48 = .ok (.iconst 1, 1) := by decide +kernel
theorem dX11_ware_49 : decode cX11_ware 49 = .ok (.iadd, 1) := by decide +kernel
theorem dX11_ware_50 : decode cX11_ware 50 = .ok (.iastore, 1) := by decide +kernel
theorem dX11_ware_51 : decode cX11_ware 51 = .ok (.aload_n 0, 1) := by decide +kernel
theorem dX11_ware_52 : decode cX11_ware 52 = .ok (.getfield 9, 3) := by decide +kernel
theorem dX11_ware_55 : decode cX11_ware 55 = .ok (.iconst 1, 1) := by decide +kernel
theorem dX11_ware_56 : decode cX11_ware 56 = .ok (.iaload, 1) := by decide +kernel
theorem dX11_ware_57 : decode cX11_ware 57 = .ok (.iconst 1, 1) := by decide +kernel
theorem dX11_ware_58 : decode cX11_ware 58 = .ok (.isub, 1) := by decide +kernel
theorem dX11_ware_59 : decode cX11_ware 59 = .ok (.ireturn, 1) := by decide +kernel
theorem dX11_pass_0 : decode cX11_pass 0 = .ok (.iload_n 1, 1) := by decide +kernel
theorem dX11_pass_1 : decode cX11_pass 1 = .ok (.iconst 0, 1) := by decide +kernel
theorem dX11_pass_2 : decode cX11_pass 2 = .ok (.bipush 60, 2) := by decide +kernel
theorem dX11_pass_4 : decode cX11_pass 4 = .ok (.invokestatic 65, 3) := by decide +kernel
theorem dX11_pass_7 : decode cX11_pass 7 = .ok (.ifCond .ne 6, 3) := by decide +kernel
theorem dX11_pass_10 : decode cX11_pass 10 = .ok (.bipush (-2), 2) := by decide +kernel
theorem dX11_pass_12 : decode cX11_pass 12 = .ok (.ireturn, 1) := by decide +kernel
theorem dX11_pass_13 : decode cX11_pass 13 = .ok (.aload_n 0, 1) := by decide +kernel
theorem dX11_pass_14 : decode cX11_pass 14 = .ok (.getfield 9, 3) := by decide +kernel
theorem dX11_pass_17 : decode cX11_pass 17 = .ok (.bipush 9, 2) := by decide +kernel
theorem dX11_pass_19 : decode cX11_pass 19 = .ok (.iaload, 1) := by decide +kernel
theorem dX11_pass_20 : decode cX11_pass 20 = .ok (.iload_n 1, 1) := by decide +kernel
theorem dX11_pass_21 : decode cX11_pass 21 = .ok (.iadd, 1) := by decide +kernel
theorem dX11_pass_22 : decode cX11_pass 22 = .ok (.sipush 9999, 3) := by decide +kernel
theorem dX11_pass_25 : decode cX11_pass 25 = .ok (.if_icmp .le 6, 3) := by decide +kernel
theorem dX11_pass_28 : decode cX11_pass 28 = .ok (.bipush (-3), 2) := by decide +kernel
theorem dX11_pass_30 : decode cX11_pass 30 = .ok (.ireturn, 1) := by decide +kernel
theorem dX11_pass_31 : decode cX11_pass 31 = .ok (.aload_n 0, 1) := by decide +kernel
theorem dX11_pass_32 : decode cX11_pass 32 = .ok (.getfield 9, 3) := by decide +kernel
theorem dX11_pass_35 : decode cX11_pass 35 = .ok (.bipush 9, 2) := by decide +kernel
theorem dX11_pass_37 : decode cX11_pass 37 = .ok (.dup2, 1) := by decide +kernel
theorem dX11_pass_38 : decode cX11_pass 38 = .ok (.iaload, 1) := by decide +kernel
theorem dX11_pass_39 : decode cX11_pass 39 = .ok (.iload_n 1, 1) := by decide +kernel
theorem dX11_pass_40 : decode cX11_pass 40 = .ok (.iadd, 1) := by decide +kernel
theorem dX11_pass_41 : decode cX11_pass 41 = .ok (.iastore, 1) := by decide +kernel
theorem dX11_pass_42 : decode cX11_pass 42 = .ok (.aload_n 0, 1) := by decide +kernel
theorem dX11_pass_43 : decode cX11_pass 43 = .ok (.getfield 9, 3) := by decide +kernel
theorem dX11_pass_46 : decode cX11_pass 46 = .ok (.bipush 9, 2) := by decide +kernel
theorem dX11_pass_48 : decode cX11_pass 48 = .ok (.iaload, 1) := by decide +kernel
theorem dX11_pass_49 : decode cX11_pass 49 = .ok (.ireturn, 1) := by decide +kernel
theorem dX11_rich_0 : decode cX11_rich 0 = .ok (.aload_n 0, 1) := by decide +kernel
theorem dX11_rich_1 : decode cX11_rich 1 = .ok (.invokevirtual 165, 3) := by decide +kernel
theorem dX11_rich_4 : decode cX11_rich 4 = .ok (.iconst 0, 1) := by decide +kernel
theorem dX11_rich_5 : decode cX11_rich 5 = .ok (.istore_n 1, 1) := by decide +kernel
theorem dX11_rich_6 : decode cX11_rich 6 = .ok (.iconst 0, 1) := by decide +kernel
theorem dX11_rich_7 : decode cX11_rich 7 = .ok (.istore_n 2, 1) := by decide +kernel
theorem dX11_rich_8 : decode cX11_rich 8 = .ok (.iload_n 2, 1) := by decide +kernel
theorem dX11_rich_9 : decode cX11_rich 9 = .ok (.aload_n 0, 1) := by decide +kernel
theorem dX11_rich_10 : decode cX11_rich 10 = .ok (.getfield 9, 3) := by decide +kernel
theorem dX11_rich_13 : decode cX11_rich 13 = .ok (.iconst 0, 1) := by decide +kernel
theorem dX11_rich_14 : decode cX11_rich 14 = .ok (.iaload, 1) := by decide +kernel
theorem dX11_rich_15 : decode cX11_rich 15 = .ok (.if_icmp .ge 28, 3) := by decide +kernel
theorem dX11_rich_18 : decode cX11_rich 18 = .ok (.iload_n 1, 1) := by decide +kernel
theorem dX11_rich_19 : decode cX11_rich 19 = .ok (.aload_n 0, 1) := by decide +kernel
theorem dX11_rich_20 : decode cX11_rich 20 = .ok (.getfield 9, 3) := by decide +kernel
theorem dX11_rich_23 : decode cX11_rich 23 = .ok (.bipush 22, 2) := by decide +kernel
theorem dX11_rich_25 : decode cX11_rich 25 = .ok (.iload_n 2, 1) := by decide +kernel
theorem dX11_rich_26 : decode cX11_rich 26 = .ok (.iadd, 1) := by decide +kernel
theorem dX11_rich_27 : decode cX11_rich 27 = .ok (.iaload, 1) := by decide +kernel
theorem dX11_rich_28 : decode cX11_rich 28 = .ok (.aload_n 0, 1) := by decide +kernel
theorem dX11_rich_29 : decode cX11_rich 29 = .ok (.getfield 25, 3) := by decide +kernel
theorem dX11_rich_32 : decode cX11_rich 32 = .ok (.iload_n 2, 1) := by decide +kernel
theorem dX11_rich_33 : decode cX11_rich 33 = .ok (.iaload, 1) := by decide +kernel
theorem dX11_rich_34 : decode cX11_rich 34 = .ok (.imul, 1) := by decide +kernel
theorem dX11_rich_35 : decode cX11_rich 35 = .ok (.iadd, 1) := by decide +kernel
theorem dX11_rich_36 : decode cX11_rich 36 = .ok (.istore_n 1, 1) := by decide +kernel
theorem dX11_rich_37 : decode cX11_rich 37 = .ok (.iinc 2 1, 3) := by decide +kernel
theorem dX11_rich_40 : decode cX11_rich 40 = .ok (.goto (-32), 3) := by decide +kernel
theorem dX11_rich_43 : decode cX11_rich 43 = .ok (.iload_n 1, 1) := by decide +kernel
theorem dX11_rich_44 : decode cX11_rich 44 = .ok (.ireturn, 1) := by decide +kernel
theorem dX11_told_0 : decode cX11_told 0 = .ok (.iload_n 1, 1) := by decide +kernel
theorem dX11_told_1 : decode cX11_told 1 = .ok (.bipush 10, 2) := by decide +kernel
theorem dX11_told_3 : decode cX11_told 3 = .ok (.isub, 1) := by decide +kernel
theorem dX11_told_4 : decode cX11_told 4 = .ok (.iconst 0, 1) := by decide +kernel
theorem dX11_told_5 : decode cX11_told 5 = .ok (.aload_n 0, 1) := by decide +kernel
theorem dX11_told_6 : decode cX11_told 6 = .ok (.getfield 9, 3) := by decide +kernel
theorem dX11_told_9 : decode cX11_told 9 = .ok (.iconst 1, 1) := by decide +kernel
theorem dX11_told_10 : decode cX11_told 10 = .ok (.iaload, 1) := by decide +kernel
theorem dX11_told_11 : decode cX11_told 11 = .ok (.iconst 1, 1) := by decide +kernel
theorem dX11_told_12 : decode cX11_told 12 = .ok (.isub, 1) := by decide +kernel
theorem dX11_told_13 : decode cX11_told 13 = .ok (.invokestatic 65, 3) := by decide +kernel
theorem dX11_told_16 : decode cX11_told 16 = .ok (.ifCond .eq 16, 3) := by decide +kernel
theorem dX11_told_19 : decode cX11_told 19 = .ok (.aload_n 0, 1) := by decide +kernel
theorem dX11_told_20 : decode cX11_told 20 = .ok (.getfield 9, 3) := by decide +kernel
theorem dX11_told_23 : decode cX11_told 23 = .ok (.bipush 42, 2) := by decide +kernel
theorem dX11_told_25 : decode cX11_told 25 = .ok (.iload_n 1, 1) := by decide +kernel
theorem dX11_told_26 : decode cX11_told 26 = .ok (.iadd, 1) := by decide +kernel
theorem dX11_told_27 : decode cX11_told 27 = .ok (.bipush 10, 2) := by decide +kernel
theorem dX11_told_29 : decode cX11_told 29 = .ok (.isub, 1) := by decide +kernel
theorem dX11_told_30 : decode cX11_told 30 = .ok (.iaload, 1) := by decide +kernel
theorem dX11_told_31 : decode cX11_told 31 = .ok (.ireturn, 1) := by decide +kernel
theorem dX11_told_32 : decode cX11_told 32 = .ok (.iload_n 1, 1) := by decide +kernel
theorem dX11_told_33 : decode cX11_told 33 = .ok (.ifCond .ne 13, 3) := by decide +kernel
theorem dX11_told_36 : decode cX11_told 36 = .ok (.aload_n 0, 1) := by decide +kernel
theorem dX11_told_37 : decode cX11_told 37 = .ok (.getfield 9, 3) := by decide +kernel
theorem dX11_told_40 : decode cX11_told 40 = .ok (.bipush 9, 2) := by decide +kernel
theorem dX11_told_42 : decode cX11_told 42 = .ok (.iaload, 1) := by decide +kernel
theorem dX11_told_43 : decode cX11_told 43 = .ok (.goto 40, 3) := by decide +kernel
theorem dX11_told_46 : decode cX11_told 46 = .ok (.iload_n 1, 1) := by decide +kernel
theorem dX11_told_47 : decode cX11_told 47 = .ok (.iconst 1, 1) := by decide +kernel
theorem dX11_told_48 : decode cX11_told 48 = .ok (.if_icmp .ne 10, 3) := by decide +kernel
theorem dX11_told_51 : decode cX11_told 51 = .ok (.aload_n 0, 1) := by decide +kernel
theorem dX11_told_52 : decode cX11_told 52 = .ok (.invokevirtual 168, 3) := by decide +kernel
theorem dX11_told_55 : decode cX11_told 55 = .ok (.goto 28, 3) := by decide +kernel
theorem dX11_told_58 : decode cX11_told 58 = .ok (.iload_n 1, 1) := by decide +kernel
theorem dX11_told_59 : decode cX11_told 59 = .ok (.iconst 2, 1) := by decide +kernel
theorem dX11_told_60 : decode cX11_told 60 = .ok (.if_icmp .ne 10, 3) := by decide +kernel
theorem dX11_told_63 : decode cX11_told 63 = .ok (.aload_n 0, 1) := by decide +kernel
theorem dX11_told_64 : decode cX11_told 64 = .ok (.invokevirtual 171, 3) := by decide +kernel
theorem dX11_told_67 : decode cX11_told 67 = .ok (.goto 16, 3) := by decide +kernel
theorem dX11_told_70 : decode cX11_told 70 = .ok (.iload_n 1, 1) := by decide +kernel
theorem dX11_told_71 : decode cX11_told 71 = .ok (.iconst 3, 1) := by decide +kernel
theorem dX11_told_72 : decode cX11_told 72 = .ok (.if_icmp .ne 10, 3) := by decide +kernel
theorem dX11_told_75 : decode cX11_told 75 = .ok (.aload_n 0, 1) := by decide +kernel
theorem dX11_told_76 : decode cX11_told 76 = .ok (.invokevirtual 174, 3) := by decide +kernel
theorem dX11_told_79 : decode cX11_told 79 = .ok (.goto 4, 3) := by decide +kernel
theorem dX11_told_82 : decode cX11_told 82 = .ok (.iconst (-1), 1) := by decide +kernel
theorem dX11_told_83 : decode cX11_told 83 = .ok (.ireturn, 1) := by decide +kernel
theorem dX11_buy_0 : decode cX11_buy 0 = .ok (.iload_n 1, 1) := by decide +kernel
theorem dX11_buy_1 : decode cX11_buy 1 = .ok (.iconst (-1), 1) := by decide +kernel
theorem dX11_buy_2 : decode cX11_buy 2 = .ok (.if_icmp .ne 12, 3) := by decide +kernel
theorem dX11_buy_5 : decode cX11_buy 5 = .ok (.aload_n 0, 1) := by decide +kernel
theorem dX11_buy_6 : decode cX11_buy 6 = .ok (.getfield 9, 3) := by decide +kernel
theorem dX11_buy_9 : decode cX11_buy 9 = .ok (.iconst 3, 1) := by decide +kernel
theorem dX11_buy_10 : decode cX11_buy 10 = .ok (.iconst 0, 1) := by decide +kernel
theorem dX11_buy_11 : decode cX11_buy 11 = .ok (.iastore, 1) := by decide +kernel
theorem dX11_buy_12 : decode cX11_buy 12 = .ok (.iconst 0, 1) := by decide +kernel
theorem dX11_buy_13 : decode cX11_buy 13 = .ok (.ireturn, 1) := by decide +kernel
theorem dX11_buy_14 : decode cX11_buy 14 = .ok (.bipush 53, 2) := by decide +kernel
theorem dX11_buy_16 : decode cX11_buy 16 = .ok (.iconst 4, 1) := by decide +kernel
theorem dX11_buy_17 : decode cX11_buy 17 = .ok (.aload_n 0, 1) := by decide +kernel
theorem dX11_buy_18 : decode cX11_buy 18 = .ok (.getfield 9, 3) := by decide +kernel
theorem dX11_buy_21 : decode cX11_buy 21 = .ok (.iconst 3, 1) := by decide +kernel
theorem dX11_buy_22 : decode cX11_buy 22 = .ok (.iaload, 1) := by decide +kernel
theorem dX11_buy_23 : decode cX11_buy 23 = .ok (.bipush 6, 2) := by decide +kernel
theorem dX11_buy_25 : decode cX11_buy 25 = .ok (.irem, 1) := by decide +kernel
theorem dX11_buy_26 : decode cX11_buy 26 = .ok (.imul, 1) := by decide +kernel
theorem dX11_buy_27 : decode cX11_buy 27 = .ok (.iadd, 1) := by decide +kernel
theorem dX11_buy_28 : decode cX11_buy 28 = .ok (.istore 6, 2) := by decide +kernel
theorem dX11_buy_30 : decode cX11_buy 30 = .ok (.iload_n 1, 1) := by decide +kernel
theorem dX11_buy_31 : decode cX11_buy 31 = .ok (.iconst 0, 1) := by decide +kernel
theorem dX11_buy_32 : decode cX11_buy 32 = .ok (.bipush 99, 2) := by decide +kernel
theorem dX11_buy_34 : decode cX11_buy 34 = .ok (.invokestatic 65, 3) := by decide +kernel
theorem dX11_buy_37 : decode cX11_buy 37 = .ok (.istore 7, 2) := by decide +kernel
theorem dX11_buy_39 : decode cX11_buy 39 = .ok (.iconst 0, 1) := by decide +kernel
theorem dX11_buy_40 : decode cX11_buy 40 = .ok (.istore 8, 2) := by decide +kernel
theorem dX11_buy_42 : decode cX11_buy 42 = .ok (.iload 8, 2) := by decide +kernel
theorem dX11_buy_44 : decode cX11_buy 44 = .ok (.iconst 4, 1) := by decide +kernel
theorem dX11_buy_45 : decode cX11_buy 45 = .ok (.if_icmp .ge 80, 3) := by decide +kernel
theorem dX11_buy_48 : decode cX11_buy 48 = .ok (.iload 8, 2) := by decide +kernel
theorem dX11_buy_50 : decode cX11_buy 50 = .ok (.ifCond .ne 7, 3) := by decide +kernel
theorem dX11_buy_53 : decode cX11_buy 53 = .ok (.iload_n 2, 1) := by decide +kernel
theorem dX11_buy_54 : decode cX11_buy 54 = .ok (.goto 26, 3) := by decide +kernel
theorem dX11_buy_57 : decode cX11_buy 57 = .ok (.iload 8, 2) := by decide +kernel
theorem dX11_buy_59 : decode cX11_buy 59 = .ok (.iconst 1, 1) := by decide +kernel
theorem dX11_buy_60 : decode cX11_buy 60 = .ok (.if_icmp .ne 7, 3) := by decide +kernel
theorem dX11_buy_63 : decode cX11_buy 63 = .ok (.iload_n 3, 1) := by decide +kernel
theorem dX11_buy_64 : decode cX11_buy 64 = .ok (.goto 16, 3) := by decide +kernel
theorem dX11_buy_67 : decode cX11_buy 67 = .ok (.iload 8, 2) := by decide +kernel
theorem dX11_buy_69 : decode cX11_buy 69 = .ok (.iconst 2, 1) := by decide +kernel
theorem dX11_buy_70 : decode cX11_buy 70 = .ok (.if_icmp .ne 8, 3) := by decide +kernel
theorem dX11_buy_73 : decode cX11_buy 73 = .ok (.iload 4, 2) := by decide +kernel
theorem dX11_buy_75 : decode cX11_buy 75 = .ok (.goto 5, 3) := by decide +kernel
theorem dX11_buy_78 : decode cX11_buy 78 = .ok (.iload 5, 2) := by decide +kernel
theorem dX11_buy_80 : decode cX11_buy 80 = .ok (.istore 9, 2) := by decide +kernel
theorem dX11_buy_82 : decode cX11_buy 82 = .ok (.iload 7, 2) := by decide +kernel
theorem dX11_buy_84 : decode cX11_buy 84 = .ok (.ifCond .eq 32, 3) := by decide +kernel
theorem dX11_buy_87 : decode cX11_buy 87 = .ok (.iload 9, 2) := by decide +kernel
theorem dX11_buy_89 : decode cX11_buy 89 = .ok (.bipush (-4), 2) := by decide +kernel
theorem dX11_buy_91 : decode cX11_buy 91 = .ok (.iconst 4, 1) := by decide +kernel
theorem dX11_buy_92 : decode cX11_buy 92 = .ok (.invokestatic 65, 3) := by decide +kernel
theorem dX11_buy_95 : decode cX11_buy 95 = .ok (.ifCond .eq 21, 3) := by decide +kernel
theorem dX11_buy_98 : decode cX11_buy 98 = .ok (.iload 9, 2) := by decide +kernel
theorem dX11_buy_100 : decode cX11_buy 100 = .ok (.ifCond .eq 12, 3) := by decide +kernel
theorem dX11_buy_103 : decode cX11_buy 103 = .ok (.aload_n 0, 1) := by decide +kernel
theorem dX11_buy_104 : decode cX11_buy 104 = .ok (.iload 8, 2) := by decide +kernel
theorem dX11_buy_106 : decode cX11_buy 106 = .ok (.invokevirtual 161, 3) := by decide +kernel
theorem dX11_buy_109 : decode cX11_buy 109 = .ok (.ifCond .eq 7, 3) := by decide +kernel
theorem dX11_buy_112 : decode cX11_buy 112 = .ok (.iconst 1, 1) := by decide +kernel
theorem dX11_buy_113 : decode cX11_buy 113 = .ok (.goto 4, 3) := by decide +kernel
theorem dX11_buy_116 : decode cX11_buy 116 = .ok (.iconst 0, 1) := by decide +kernel
theorem dX11_buy_117 : decode cX11_buy 117 = .ok (.istore 7, 2) := by decide +kernel
theorem dX11_buy_119 : decode cX11_buy 119 = .ok (.iinc 8 1, 3) := by decide +kernel
theorem dX11_buy_122 : decode cX11_buy 122 = .ok (.goto (-80), 3) := by decide +kernel
theorem dX11_buy_125 : decode cX11_buy 125 = .ok (.iload 7, 2) := by decide +kernel
theorem dX11_buy_127 : decode cX11_buy 127 = .ok (.ifCond .ne 6, 3) := by decide +kernel
theorem dX11_buy_130 : decode cX11_buy 130 = .ok (.bipush (-2), 2) := by decide +kernel
theorem dX11_buy_132 : decode cX11_buy 132 = .ok (.ireturn, 1) := by decide +kernel
theorem dX11_buy_133 : decode cX11_buy 133 = .ok (.aload_n 0, 1) := by decide +kernel
theorem dX11_buy_134 : decode cX11_buy 134 = .ok (.getfield 9, 3) := by decide +kernel
theorem dX11_buy_137 : decode cX11_buy 137 = .ok (.iconst 3, 1) := by decide +kernel
theorem dX11_buy_138 : decode cX11_buy 138 = .ok (.iaload, 1) := by decide +kernel
theorem dX11_buy_139 : decode cX11_buy 139 = .ok (.bipush 6, 2) := by decide +kernel
theorem dX11_buy_141 : decode cX11_buy 141 = .ok (.if_icmp .ne 6, 3) := by decide +kernel
theorem dX11_buy_144 : decode cX11_buy 144 = .ok (.bipush (-4), 2) := by decide +kernel
theorem dX11_buy_146 : decode cX11_buy 146 = .ok (.ireturn, 1) := by decide +kernel
theorem dX11_buy_147 : decode cX11_buy 147 = .ok (.aload_n 0, 1) := by decide +kernel
theorem dX11_buy_148 : decode cX11_buy 148 = .ok (.getfield 9, 3) := by decide +kernel
theorem dX11_buy_151 : decode cX11_buy 151 = .ok (.bipush 47, 2) := by decide +kernel
theorem dX11_buy_153 : decode cX11_buy 153 = .ok (.aload_n 0, 1) := by decide +kernel
theorem dX11_buy_154 : decode cX11_buy 154 = .ok (.getfield 9, 3) := by decide +kernel
theorem dX11_buy_157 : decode cX11_buy 157 = .ok (.iconst 3, 1) := by decide +kernel
theorem dX11_buy_158 : decode cX11_buy 158 = .ok (.iaload, 1) := by decide +kernel
theorem dX11_buy_159 : decode cX11_buy 159 = .ok (.iadd, 1) := by decide +kernel
theorem dX11_buy_160 : decode cX11_buy 160 = .ok (.iload_n 1, 1) := by decide +kernel
theorem dX11_buy_161 : decode cX11_buy 161 = .ok (.iastore, 1) := by decide +kernel
theorem dX11_buy_162 : decode cX11_buy 162 = .ok (.aload_n 0, 1) := by decide +kernel
theorem dX11_buy_163 : decode cX11_buy 163 = .ok (.getfield 9, 3) := by decide +kernel
theorem dX11_buy_166 : decode cX11_buy 166 = .ok (.iload 6, 2) := by decide +kernel
theorem dX11_buy_168 : decode cX11_buy 168 = .ok (.iload_n 2, 1) := by decide +kernel
theorem dX11_buy_169 : decode cX11_buy 169 = .ok (.iastore, 1) := by decide +kernel
theorem dX11_buy_170 : decode cX11_buy 170 = .ok (.aload_n 0, 1) := by decide +kernel
theorem dX11_buy_171 : decode cX11_buy 171 = .ok (.getfield 9, 3) := by decide +kernel
theorem dX11_buy_174 : decode cX11_buy 174 = .ok (.iload 6, 2) := by decide +kernel
theorem dX11_buy_176 : decode cX11_buy 176 = .ok (.iconst 1, 1) := by decide +kernel
theorem dX11_buy_177 : decode cX11_buy 177 = .ok (.iadd, 1) := by decide +kernel
theorem dX11_buy_178 : decode cX11_buy 178 = .ok (.iload_n 3, 1) := by decide +kernel
theorem dX11_buy_179 : decode cX11_buy 179 = .ok (.iastore, 1) := by decide +kernel
theorem dX11_buy_180 : decode cX11_buy 180 = .ok (.aload_n 0, 1) := by decide +kernel
theorem dX11_buy_181 : decode cX11_buy 181 = .ok (.getfield 9, 3) := by decide +kernel
theorem dX11_buy_184 : decode cX11_buy 184 = .ok (.iload 6, 2) := by decide +kernel
theorem dX11_buy_186 : decode cX11_buy 186 = .ok (.iconst 2, 1) := by decide +kernel
theorem dX11_buy_187 : decode cX11_buy 187 = .ok (.iadd, 1) := by decide +kernel
theorem dX11_buy_188 : decode cX11_buy 188 = .ok (.iload 4, 2) := by decide +kernel
theorem dX11_buy_190 : decode cX11_buy 190 = .ok (.iastore, 1) := by decide +kernel
theorem dX11_buy_191 : decode cX11_buy 191 = .ok (.aload_n 0, 1) := by decide +kernel
theorem dX11_buy_192 : decode cX11_buy 192 = .ok (.getfield 9, 3) := by decide +kernel
theorem dX11_buy_195 : decode cX11_buy 195 = .ok (.iload 6, 2) := by decide +kernel
theorem dX11_buy_197 : decode cX11_buy 197 = .ok (.iconst 3, 1) := by decide +kernel
theorem dX11_buy_198 : decode cX11_buy 198 = .ok (.iadd, 1) := by decide +kernel
theorem dX11_buy_199 : decode cX11_buy 199 = .ok (.iload 5, 2) := by decide +kernel
theorem dX11_buy_201 : decode cX11_buy 201 = .ok (.iastore, 1) := by decide +kernel
theorem dX11_buy_202 : decode cX11_buy 202 = .ok (.aload_n 0, 1) := by decide +kernel
theorem dX11_buy_203 : decode cX11_buy 203 = .ok (.getfield 9, 3) := by decide +kernel
theorem dX11_buy_206 : decode cX11_buy 206 = .ok (.iconst 3, 1) := by decide +kernel
theorem dX11_buy_207 : decode cX11_buy 207 = .ok (.dup2, 1) := by decide +kernel
theorem dX11_buy_208 : decode cX11_buy 208 = .ok (.iaload, 1) := by decide +kernel
theorem dX11_buy_209 : decode cX11_buy 209 = .ok (.iconst 1, 1) := by decide +kernel
theorem dX11_buy_210 : decode cX11_buy 210 = .ok (.iadd, 1) := by decide +kernel
theorem dX11_buy_211 : decode cX11_buy 211 = .ok (.iastore, 1) := by decide +kernel
theorem dX11_buy_212 : decode cX11_buy 212 = .ok (.aload_n 0, 1) := by decide +kernel
theorem dX11_buy_213 : decode cX11_buy 213 = .ok (.getfield 9, 3) := by decide +kernel
theorem dX11_buy_216 : decode cX11_buy 216 = .ok (.iconst 3, 1) := by decide +kernel
theorem dX11_buy_217 : decode cX11_buy 217 = .ok (.iaload, 1) := by decide +kernel
theorem dX11_buy_218 : decode cX11_buy 218 = .ok (.ireturn, 1) := by decide +kernel
theorem dX11_sumBy_0 : decode cX11_sumBy 0 = .ok (.iconst 0, 1) := by decide +kernel
theorem dX11_sumBy_1 : decode cX11_sumBy 1 = .ok (.istore_n 2, 1) := by decide +kernel
theorem dX11_sumBy_2 : decode cX11_sumBy 2 = .ok (.iconst 0, 1) := by decide +kernel
theorem dX11_sumBy_3 : decode cX11_sumBy 3 = .ok (.istore_n 3, 1) := by decide +kernel
theorem dX11_sumBy_4 : decode cX11_sumBy 4 = .ok (.iload_n 3, 1) := by decide +kernel
theorem dX11_sumBy_5 : decode cX11_sumBy 5 = .ok (.aload_n 0, 1) := by decide +kernel
theorem dX11_sumBy_6 : decode cX11_sumBy 6 = .ok (.getfield 9, 3) := by decide +kernel
theorem dX11_sumBy_9 : decode cX11_sumBy 9 = .ok (.iconst 0, 1) := by decide +kernel
theorem dX11_sumBy_10 : decode cX11_sumBy 10 = .ok (.iaload, 1) := by decide +kernel
theorem dX11_sumBy_11 : decode cX11_sumBy 11 = .ok (.if_icmp .ge 42, 3) := by decide +kernel
theorem dX11_sumBy_14 : decode cX11_sumBy 14 = .ok (.iload_n 2, 1) := by decide +kernel
theorem dX11_sumBy_15 : decode cX11_sumBy 15 = .ok (.aload_n 0, 1) := by decide +kernel
theorem dX11_sumBy_16 : decode cX11_sumBy 16 = .ok (.getfield 9, 3) := by decide +kernel
theorem dX11_sumBy_19 : decode cX11_sumBy 19 = .ok (.bipush 53, 2) := by decide +kernel
theorem dX11_sumBy_21 : decode cX11_sumBy 21 = .ok (.iconst 4, 1) := by decide +kernel
theorem dX11_sumBy_22 : decode cX11_sumBy 22 = .ok (.iload_n 1, 1) := by decide +kernel
theorem dX11_sumBy_23 : decode cX11_sumBy 23 = .ok (.imul, 1) := by decide +kernel
theorem dX11_sumBy_24 : decode cX11_sumBy 24 = .ok (.iadd, 1) := by decide +kernel
theorem dX11_sumBy_25 : decode cX11_sumBy 25 = .ok (.iload_n 3, 1) := by decide +kernel
theorem dX11_sumBy_26 : decode cX11_sumBy 26 = .ok (.iadd, 1) := by decide +kernel
theorem dX11_sumBy_27 : decode cX11_sumBy 27 = .ok (.iaload, 1) := by decide +kernel
theorem dX11_sumBy_28 : decode cX11_sumBy 28 = .ok (.aload_n 0, 1) := by decide +kernel
theorem dX11_sumBy_29 : decode cX11_sumBy 29 = .ok (.getfield 28, 3) := by decide +kernel
theorem dX11_sumBy_32 : decode cX11_sumBy 32 = .ok (.bipush 10, 2) := by decide +kernel
theorem dX11_sumBy_34 : decode cX11_sumBy 34 = .ok (.iload_n 3, 1) := by decide +kernel
theorem dX11_sumBy_35 : decode cX11_sumBy 35 = .ok (.imul, 1) := by decide +kernel
theorem dX11_sumBy_36 : decode cX11_sumBy 36 = .ok (.aload_n 0, 1) := by decide +kernel
theorem dX11_sumBy_37 : decode cX11_sumBy 37 = .ok (.getfield 31, 3) := by decide +kernel
theorem dX11_sumBy_40 : decode cX11_sumBy 40 = .ok (.iload_n 3, 1) := by decide +kernel
theorem dX11_sumBy_41 : decode cX11_sumBy 41 = .ok (.iaload, 1) := by decide +kernel
theorem dX11_sumBy_42 : decode cX11_sumBy 42 = .ok (.iadd, 1) := by decide +kernel
theorem dX11_sumBy_43 : decode cX11_sumBy 43 = .ok (.iaload, 1) := by decide +kernel
theorem dX11_sumBy_44 : decode cX11_sumBy 44 = .ok (.imul, 1) := by decide +kernel
theorem dX11_sumBy_45 : decode cX11_sumBy 45 = .ok (.iadd, 1) := by decide +kernel
theorem dX11_sumBy_46 : decode cX11_sumBy 46 = .ok (.istore_n 2, 1) := by decide +kernel
theorem dX11_sumBy_47 : decode cX11_sumBy 47 = .ok (.iinc 3 1, 3) := by decide +kernel
theorem dX11_sumBy_50 : decode cX11_sumBy 50 = .ok (.goto (-46), 3) := by decide +kernel
theorem dX11_sumBy_53 : decode cX11_sumBy 53 = .ok (.iload_n 2, 1) := by decide +kernel
theorem dX11_sumBy_54 : decode cX11_sumBy 54 = .ok (.ireturn, 1) := by decide +kernel
theorem dX11_cheatBy_0 : decode cX11_cheatBy 0 = .ok (.iconst 0, 1) := by decide +kernel
theorem dX11_cheatBy_1 : decode cX11_cheatBy 1 = .ok (.istore_n 2, 1) := by decide +kernel
theorem dX11_cheatBy_2 : decode cX11_cheatBy 2 = .ok (.iconst 0, 1) := by decide +kernel
theorem dX11_cheatBy_3 : decode cX11_cheatBy 3 = .ok (.istore_n 3, 1) := by decide +kernel
theorem dX11_cheatBy_4 : decode cX11_cheatBy 4 = .ok (.iload_n 3, 1) := by decide +kernel
theorem dX11_cheatBy_5 : decode cX11_cheatBy 5 = .ok (.iload_n 1, 1) := by decide +kernel
theorem dX11_cheatBy_6 : decode cX11_cheatBy 6 = .ok (.if_icmp .ge 49, 3) := by decide +kernel
theorem dX11_cheatBy_9 : decode cX11_cheatBy 9 = .ok (.aload_n 0, 1) := by decide +kernel
theorem dX11_cheatBy_10 : decode cX11_cheatBy 10 = .ok (.iload_n 3, 1) := by decide +kernel
theorem dX11_cheatBy_11 : decode cX11_cheatBy 11 = .ok (.invokevirtual 177, 3) := by decide +kernel
theorem dX11_cheatBy_14 : decode cX11_cheatBy 14 = .ok (.aload_n 0, 1) := by decide +kernel
theorem dX11_cheatBy_15 : decode cX11_cheatBy 15 = .ok (.getfield 9, 3) := by decide +kernel
theorem dX11_cheatBy_18 : decode cX11_cheatBy 18 = .ok (.bipush 47, 2) := by decide +kernel
theorem dX11_cheatBy_20 : decode cX11_cheatBy 20 = .ok (.iload_n 3, 1) := by decide +kernel
theorem dX11_cheatBy_21 : decode cX11_cheatBy 21 = .ok (.iadd, 1) := by decide +kernel
theorem dX11_cheatBy_22 : decode cX11_cheatBy 22 = .ok (.iaload, 1) := by decide +kernel
theorem dX11_cheatBy_23 : decode cX11_cheatBy 23 = .ok (.isub, 1) := by decide +kernel
theorem dX11_cheatBy_24 : decode cX11_cheatBy 24 = .ok (.istore 4, 2) := by decide +kernel
theorem dX11_cheatBy_26 : decode cX11_cheatBy 26 = .ok (.iload 4, 2) := by decide +kernel
theorem dX11_cheatBy_28 : decode cX11_cheatBy 28 = .ok (.ifCond .ge 8, 3) := by decide +kernel
theorem dX11_cheatBy_31 : decode cX11_cheatBy 31 = .ok (.ldc 180, 2) := by decide +kernel
theorem dX11_cheatBy_33 : decode cX11_cheatBy 33 = .ok (.goto 15, 3) := by decide +kernel
theorem dX11_cheatBy_36 : decode cX11_cheatBy 36 = .ok (.iload 4, 2) := by decide +kernel
theorem dX11_cheatBy_38 : decode cX11_cheatBy 38 = .ok (.iload_n 2, 1) := by decide +kernel
theorem dX11_cheatBy_39 : decode cX11_cheatBy 39 = .ok (.if_icmp .le 8, 3) := by decide +kernel
theorem dX11_cheatBy_42 : decode cX11_cheatBy 42 = .ok (.iload 4, 2) := by decide +kernel
theorem dX11_cheatBy_44 : decode cX11_cheatBy 44 = .ok (.goto 4, 3) := by decide +kernel
theorem dX11_cheatBy_47 : decode cX11_cheatBy 47 = .ok (.iload_n 2, 1) := by decide +kernel
theorem dX11_cheatBy_48 : decode cX11_cheatBy 48 = .ok (.istore_n 2, 1) := by decide +kernel
theorem dX11_cheatBy_49 : decode cX11_cheatBy 49 = .ok (.iinc 3 1, 3) := by decide +kernel
theorem dX11_cheatBy_52 : decode cX11_cheatBy 52 = .ok (.goto (-48), 3) := by decide +kernel
theorem dX11_cheatBy_55 : decode cX11_cheatBy 55 = .ok (.iload_n 2, 1) := by decide +kernel
theorem dX11_cheatBy_56 : decode cX11_cheatBy 56 = .ok (.ireturn, 1) := by decide +kernel
theorem dX11_guesses_0 : decode cX11_guesses 0 = .ok (.iconst 1, 1) := by decide +kernel
theorem dX11_guesses_1 : decode cX11_guesses 1 = .ok (.istore_n 1, 1) := by decide +kernel
theorem dX11_guesses_2 : decode cX11_guesses 2 = .ok (.iconst 0, 1) := by decide +kernel
theorem dX11_guesses_3 : decode cX11_guesses 3 = .ok (.istore_n 2, 1) := by decide +kernel
theorem dX11_guesses_4 : decode cX11_guesses 4 = .ok (.iload_n 2, 1) := by decide +kernel
theorem dX11_guesses_5 : decode cX11_guesses 5 = .ok (.aload_n 0, 1) := by decide +kernel
theorem dX11_guesses_6 : decode cX11_guesses 6 = .ok (.getfield 9, 3) := by decide +kernel
theorem dX11_guesses_9 : decode cX11_guesses 9 = .ok (.iconst 0, 1) := by decide +kernel
theorem dX11_guesses_10 : decode cX11_guesses 10 = .ok (.iaload, 1) := by decide +kernel
theorem dX11_guesses_11 : decode cX11_guesses 11 = .ok (.if_icmp .ge 16, 3) := by decide +kernel
theorem dX11_guesses_14 : decode cX11_guesses 14 = .ok (.iload_n 1, 1) := by decide +kernel
theorem dX11_guesses_15 : decode cX11_guesses 15 = .ok (.aload_n 0, 1) := by decide +kernel
theorem dX11_guesses_16 : decode cX11_guesses 16 = .ok (.invokevirtual 168, 3) := by decide +kernel
theorem dX11_guesses_19 : decode cX11_guesses 19 = .ok (.imul, 1) := by decide +kernel
theorem dX11_guesses_20 : decode cX11_guesses 20 = .ok (.istore_n 1, 1) := by decide +kernel
theorem dX11_guesses_21 : decode cX11_guesses 21 = .ok (.iinc 2 1, 3) := by decide +kernel
theorem dX11_guesses_24 : decode cX11_guesses 24 = .ok (.goto (-20), 3) := by decide +kernel
theorem dX11_guesses_27 : decode cX11_guesses 27 = .ok (.iload_n 1, 1) := by decide +kernel
theorem dX11_guesses_28 : decode cX11_guesses 28 = .ok (.ireturn, 1) := by decide +kernel
theorem dX11_tellsGuess_0 : decode cX11_tellsGuess 0 = .ok (.iload_n 1, 1) := by decide +kernel
theorem dX11_tellsGuess_1 : decode cX11_tellsGuess 1 = .ok (.istore_n 2, 1) := by decide +kernel
theorem dX11_tellsGuess_2 : decode cX11_tellsGuess 2 = .ok (.aload_n 0, 1) := by decide +kernel
theorem dX11_tellsGuess_3 : decode cX11_tellsGuess 3 = .ok (.invokevirtual 168, 3) := by decide +kernel
theorem dX11_tellsGuess_6 : decode cX11_tellsGuess 6 = .ok (.istore_n 3, 1) := by decide +kernel
theorem dX11_tellsGuess_7 : decode cX11_tellsGuess 7 = .ok (.iconst 0, 1) := by decide +kernel
theorem dX11_tellsGuess_8 : decode cX11_tellsGuess 8 = .ok (.istore 4, 2) := by decide +kernel
theorem dX11_tellsGuess_10 : decode cX11_tellsGuess 10 = .ok (.iload 4, 2) := by decide +kernel
theorem dX11_tellsGuess_12 : decode cX11_tellsGuess 12 = .ok (.aload_n 0, 1) := by decide +kernel
theorem dX11_tellsGuess_13 : decode cX11_tellsGuess 13 = .ok (.getfield 9, 3) := by decide +kernel
theorem dX11_tellsGuess_16 : decode cX11_tellsGuess 16 = .ok (.iconst 0, 1) := by decide +kernel
theorem dX11_tellsGuess_17 : decode cX11_tellsGuess 17 = .ok (.iaload, 1) := by decide +kernel
theorem dX11_tellsGuess_18 : decode cX11_tellsGuess 18 = .ok (.if_icmp .ge 25, 3) := by decide +kernel
theorem dX11_tellsGuess_21 : decode cX11_tellsGuess 21 = .ok (.aload_n 0, 1) := by decide +kernel
theorem dX11_tellsGuess_22 : decode cX11_tellsGuess 22 = .ok (.getfield 31, 3) := by decide +kernel
theorem dX11_tellsGuess_25 : decode cX11_tellsGuess 25 = .ok (.iload 4, 2) := by decide +kernel
theorem dX11_tellsGuess_27 : decode cX11_tellsGuess 27 = .ok (.iconst 1, 1) := by decide +kernel
theorem dX11_tellsGuess_28 : decode cX11_tellsGuess 28 = .ok (.iload_n 2, 1) := by decide +kernel
theorem dX11_tellsGuess_29 : decode cX11_tellsGuess 29 = .ok (.iload_n 3, 1) := by decide +kernel
theorem dX11_tellsGuess_30 : decode cX11_tellsGuess 30 = .ok (.irem, 1) := by decide +kernel
theorem dX11_tellsGuess_31 : decode cX11_tellsGuess 31 = .ok (.iadd, 1) := by decide +kernel
theorem dX11_tellsGuess_32 : decode cX11_tellsGuess 32 = .ok (.iastore, 1) := by decide +kernel
theorem dX11_tellsGuess_33 : decode cX11_tellsGuess 33 = .ok (.iload_n 2, 1) := by decide +kernel
theorem dX11_tellsGuess_34 : decode cX11_tellsGuess 34 = .ok (.iload_n 3, 1) := by decide +kernel
theorem dX11_tellsGuess_35 : decode cX11_tellsGuess 35 = .ok (.idiv, 1) := by decide +kernel
theorem dX11_tellsGuess_36 : decode cX11_tellsGuess 36 = .ok (.istore_n 2, 1) := by decide +kernel
theorem dX11_tellsGuess_37 : decode cX11_tellsGuess 37 = .ok (.iinc 4 1, 3) := by decide +kernel
theorem dX11_tellsGuess_40 : decode cX11_tellsGuess 40 = .ok (.goto (-30), 3) := by decide +kernel
theorem dX11_tellsGuess_43 : decode cX11_tellsGuess 43 = .ok (.return_, 1) := by decide +kernel
theorem dX11_looksForLeft_0 : decode cX11_looksForLeft 0 = .ok (.aload_n 0, 1) := by decide +kernel
theorem dX11_looksForLeft_1 : decode cX11_looksForLeft 1 = .ok (.invokevirtual 181, 3) := by decide +kernel
theorem dX11_looksForLeft_4 : decode cX11_looksForLeft 4 = .ok (.aload_n 0, 1) := by decide +kernel
theorem dX11_looksForLeft_5 : decode cX11_looksForLeft 5 = .ok (.iconst 0, 1) := by decide +kernel
theorem dX11_looksForLeft_6 : decode cX11_looksForLeft 6 = .ok (.putfield 184, 3) := by decide +kernel
theorem dX11_looksForLeft_9 : decode cX11_looksForLeft 9 = .ok (.aload_n 0, 1) := by decide +kernel
theorem dX11_looksForLeft_10 : decode cX11_looksForLeft 10 = .ok (.ldc 180, 2) := by decide +kernel
theorem dX11_looksForLeft_12 : decode cX11_looksForLeft 12 = .ok (.putfield 187, 3) := by decide +kernel
theorem dX11_looksForLeft_15 : decode cX11_looksForLeft 15 = .ok (.iconst 0, 1) := by decide +kernel
theorem dX11_looksForLeft_16 : decode cX11_looksForLeft 16 = .ok (.istore_n 2, 1) := by decide +kernel
theorem dX11_looksForLeft_17 : decode cX11_looksForLeft 17 = .ok (.iload_n 2, 1) := by decide +kernel
theorem dX11_looksForLeft_18 : decode cX11_looksForLeft 18 = .ok (.bipush 40, 2) := by decide +kernel
theorem dX11_looksForLeft_20 : decode cX11_looksForLeft 20 = .ok (.if_icmp .ge 16, 3) := by decide +kernel
theorem dX11_looksForLeft_23 : decode cX11_looksForLeft 23 = .ok (.aload_n 0, 1) := by decide +kernel
theorem dX11_looksForLeft_24 : decode cX11_looksForLeft 24 = .ok (.getfield 34, 3) := by decide +kernel
theorem dX11_looksForLeft_27 : decode cX11_looksForLeft 27 = .ok (.iload_n 2, 1) := by decide +kernel
theorem dX11_looksForLeft_28 : decode cX11_looksForLeft 28 = .ok (.iconst 0, 1) := by decide +kernel
theorem dX11_looksForLeft_29 : decode cX11_looksForLeft 29 = .ok (.iastore, 1) := by decide +kernel
theorem dX11_looksForLeft_30 : decode cX11_looksForLeft 30 = .ok (.iinc 2 1, 3) := by decide +kernel
theorem dX11_looksForLeft_33 : decode cX11_looksForLeft 33 = .ok (.goto (-16), 3) := by decide +kernel
theorem dX11_looksForLeft_36 : decode cX11_looksForLeft 36 = .ok (.aload_n 0, 1) := by decide +kernel
theorem dX11_looksForLeft_37 : decode cX11_looksForLeft 37 = .ok (.invokevirtual 190, 3) := by decide +kernel
theorem dX11_looksForLeft_40 : decode cX11_looksForLeft 40 = .ok (.istore_n 2, 1) := by decide +kernel
theorem dX11_looksForLeft_41 : decode cX11_looksForLeft 41 = .ok (.iconst 0, 1) := by decide +kernel
theorem dX11_looksForLeft_42 : decode cX11_looksForLeft 42 = .ok (.istore_n 3, 1) := by decide +kernel
theorem dX11_looksForLeft_43 : decode cX11_looksForLeft 43 = .ok (.iload_n 3, 1) := by decide +kernel
theorem dX11_looksForLeft_44 : decode cX11_looksForLeft 44 = .ok (.iload_n 2, 1) := by decide +kernel
theorem dX11_looksForLeft_45 : decode cX11_looksForLeft 45 = .ok (.if_icmp .ge 104, 3) := by decide +kernel
theorem dX11_looksForLeft_48 : decode cX11_looksForLeft 48 = .ok (.aload_n 0, 1) := by decide +kernel
theorem dX11_looksForLeft_49 : decode cX11_looksForLeft 49 = .ok (.iload_n 3, 1) := by decide +kernel
theorem dX11_looksForLeft_50 : decode cX11_looksForLeft 50 = .ok (.invokevirtual 193, 3) := by decide +kernel
theorem dX11_looksForLeft_53 : decode cX11_looksForLeft 53 = .ok (.aload_n 0, 1) := by decide +kernel
theorem dX11_looksForLeft_54 : decode cX11_looksForLeft 54 = .ok (.iload_n 1, 1) := by decide +kernel
theorem dX11_looksForLeft_55 : decode cX11_looksForLeft 55 = .ok (.invokevirtual 196, 3) := by decide +kernel
theorem dX11_looksForLeft_58 : decode cX11_looksForLeft 58 = .ok (.istore 4, 2) := by decide +kernel
theorem dX11_looksForLeft_60 : decode cX11_looksForLeft 60 = .ok (.aload_n 0, 1) := by decide +kernel
theorem dX11_looksForLeft_61 : decode cX11_looksForLeft 61 = .ok (.iload 4, 2) := by decide +kernel
theorem dX11_looksForLeft_63 : decode cX11_looksForLeft 63 = .ok (.aload_n 0, 1) := by decide +kernel
theorem dX11_looksForLeft_64 : decode cX11_looksForLeft 64 = .ok (.getfield 187, 3) := by decide +kernel
theorem dX11_looksForLeft_67 : decode cX11_looksForLeft 67 = .ok (.if_icmp .ge 8, 3) := by decide +kernel
theorem dX11_looksForLeft_70 : decode cX11_looksForLeft 70 = .ok (.iload 4, 2) := by decide +kernel
theorem dX11_looksForLeft_72 : decode cX11_looksForLeft 72 = .ok (.goto 7, 3) := by decide +kernel
theorem dX11_looksForLeft_75 : decode cX11_looksForLeft 75 = .ok (.aload_n 0, 1) := by decide +kernel
theorem dX11_looksForLeft_76 : decode cX11_looksForLeft 76 = .ok (.getfield 187, 3) := by decide +kernel
theorem dX11_looksForLeft_79 : decode cX11_looksForLeft 79 = .ok (.putfield 187, 3) := by decide +kernel
theorem dX11_looksForLeft_82 : decode cX11_looksForLeft 82 = .ok (.iload 4, 2) := by decide +kernel
theorem dX11_looksForLeft_84 : decode cX11_looksForLeft 84 = .ok (.aload_n 0, 1) := by decide +kernel
theorem dX11_looksForLeft_85 : decode cX11_looksForLeft 85 = .ok (.invokevirtual 171, 3) := by decide +kernel
theorem dX11_looksForLeft_88 : decode cX11_looksForLeft 88 = .ok (.if_icmp .gt 55, 3) := by decide +kernel
theorem dX11_looksForLeft_91 : decode cX11_looksForLeft 91 = .ok (.aload_n 0, 1) := by decide +kernel
theorem dX11_looksForLeft_92 : decode cX11_looksForLeft 92 = .ok (.dup, 1) := by decide +kernel
theorem dX11_looksForLeft_93 : decode cX11_looksForLeft 93 = .ok (.getfield 184, 3) := by decide +kernel
theorem dX11_looksForLeft_96 : decode cX11_looksForLeft 96 = .ok (.iconst 1, 1) := by decide +kernel
theorem dX11_looksForLeft_97 : decode cX11_looksForLeft 97 = .ok (.iadd, 1) := by decide +kernel
theorem dX11_looksForLeft_98 : decode cX11_looksForLeft 98 = .ok (.putfield 184, 3) := by decide +kernel
theorem dX11_looksForLeft_101 : decode cX11_looksForLeft 101 = .ok (.iconst 0, 1) := by decide +kernel
theorem dX11_looksForLeft_102 : decode cX11_looksForLeft 102 = .ok (.istore 5, 2) := by decide +kernel
theorem dX11_looksForLeft_104 : decode cX11_looksForLeft 104 = .ok (.iload 5, 2) := by decide +kernel
theorem dX11_looksForLeft_106 : decode cX11_looksForLeft 106 = .ok (.aload_n 0, 1) := by decide +kernel
theorem dX11_looksForLeft_107 : decode cX11_looksForLeft 107 = .ok (.getfield 9, 3) := by decide +kernel
theorem dX11_looksForLeft_110 : decode cX11_looksForLeft 110 = .ok (.iconst 0, 1) := by decide +kernel
theorem dX11_looksForLeft_111 : decode cX11_looksForLeft 111 = .ok (.iaload, 1) := by decide +kernel
theorem dX11_looksForLeft_112 : decode cX11_looksForLeft 112 = .ok (.if_icmp .ge 31, 3) := by decide +kernel
theorem dX11_looksForLeft_115 : decode cX11_looksForLeft 115 = .ok (.aload_n 0, 1) := by decide +kernel
theorem dX11_looksForLeft_116 : decode cX11_looksForLeft 116 = .ok (.getfield 34, 3) := by decide +kernel
theorem dX11_looksForLeft_119 : decode cX11_looksForLeft 119 = .ok (.bipush 10, 2) := by decide +kernel
theorem dX11_looksForLeft_121 : decode cX11_looksForLeft 121 = .ok (.iload 5, 2) := by decide +kernel
theorem dX11_looksForLeft_123 : decode cX11_looksForLeft 123 = .ok (.imul, 1) := by decide +kernel
theorem dX11_looksForLeft_124 : decode cX11_looksForLeft 124 = .ok (.aload_n 0, 1) := by decide +kernel
theorem dX11_looksForLeft_125 : decode cX11_looksForLeft 125 = .ok (.getfield 31, 3) := by decide +kernel
theorem dX11_looksForLeft_128 : decode cX11_looksForLeft 128 = .ok (.iload 5, 2) := by decide +kernel
theorem dX11_looksForLeft_130 : decode cX11_looksForLeft 130 = .ok (.iaload, 1) := by decide +kernel
theorem dX11_looksForLeft_131 : decode cX11_looksForLeft 131 = .ok (.iadd, 1) := by decide +kernel
theorem dX11_looksForLeft_132 : decode cX11_looksForLeft 132 = .ok (.dup2, 1) := by decide +kernel
theorem dX11_looksForLeft_133 : decode cX11_looksForLeft 133 = .ok (.iaload, 1) := by decide +kernel
theorem dX11_looksForLeft_134 : decode cX11_looksForLeft 134 = .ok (.iconst 1, 1) := by decide +kernel
theorem dX11_looksForLeft_135 : decode cX11_looksForLeft 135 = .ok (.iadd, 1) := by decide +kernel
theorem dX11_looksForLeft_136 : decode cX11_looksForLeft 136 = .ok (.iastore, 1) := by decide +kernel
theorem dX11_looksForLeft_137 : decode cX11_looksForLeft 137 = .ok (.iinc 5 1, 3) := by decide +kernel
theorem dX11_looksForLeft_140 : decode cX11_looksForLeft 140 = .ok (.goto (-36), 3) := by decide +kernel
theorem dX11_looksForLeft_143 : decode cX11_looksForLeft 143 = .ok (.iinc 3 1, 3) := by decide +kernel
theorem dX11_looksForLeft_146 : decode cX11_looksForLeft 146 = .ok (.goto (-103), 3) := by decide +kernel
theorem dX11_looksForLeft_149 : decode cX11_looksForLeft 149 = .ok (.return_, 1) := by decide +kernel
theorem dX11_looksForLeftNow_0 : decode cX11_looksForLeftNow 0 = .ok (.aload_n 0, 1) := by decide +kernel
theorem dX11_looksForLeftNow_1 : decode cX11_looksForLeftNow 1 = .ok (.aload_n 0, 1) := by decide +kernel
theorem dX11_looksForLeftNow_2 : decode cX11_looksForLeftNow 2 = .ok (.getfield 9, 3) := by decide +kernel
theorem dX11_looksForLeftNow_5 : decode cX11_looksForLeftNow 5 = .ok (.iconst 3, 1) := by decide +kernel
theorem dX11_looksForLeftNow_6 : decode cX11_looksForLeftNow 6 = .ok (.iaload, 1) := by decide +kernel
theorem dX11_looksForLeftNow_7 : decode cX11_looksForLeftNow 7 = .ok (.invokevirtual 199, 3) := by decide +kernel
theorem dX11_looksForLeftNow_10 : decode cX11_looksForLeftNow 10 = .ok (.return_, 1) := by decide +kernel
theorem dX11_left_0 : decode cX11_left 0 = .ok (.aload_n 0, 1) := by decide +kernel
theorem dX11_left_1 : decode cX11_left 1 = .ok (.invokevirtual 202, 3) := by decide +kernel
theorem dX11_left_4 : decode cX11_left 4 = .ok (.aload_n 0, 1) := by decide +kernel
theorem dX11_left_5 : decode cX11_left 5 = .ok (.getfield 184, 3) := by decide +kernel
theorem dX11_left_8 : decode cX11_left 8 = .ok (.ireturn, 1) := by decide +kernel
theorem dX11_lowOf_0 : decode cX11_lowOf 0 = .ok (.iconst 1, 1) := by decide +kernel
theorem dX11_lowOf_1 : decode cX11_lowOf 1 = .ok (.istore_n 2, 1) := by decide +kernel
theorem dX11_lowOf_2 : decode cX11_lowOf 2 = .ok (.iload_n 2, 1) := by decide +kernel
theorem dX11_lowOf_3 : decode cX11_lowOf 3 = .ok (.bipush 10, 2) := by decide +kernel
theorem dX11_lowOf_5 : decode cX11_lowOf 5 = .ok (.if_icmp .ge 25, 3) := by decide +kernel
theorem dX11_lowOf_8 : decode cX11_lowOf 8 = .ok (.aload_n 0, 1) := by decide +kernel
theorem dX11_lowOf_9 : decode cX11_lowOf 9 = .ok (.getfield 34, 3) := by decide +kernel
theorem dX11_lowOf_12 : decode cX11_lowOf 12 = .ok (.bipush 10, 2) := by decide +kernel
theorem dX11_lowOf_14 : decode cX11_lowOf 14 = .ok (.iload_n 1, 1) := by decide +kernel
theorem dX11_lowOf_15 : decode cX11_lowOf 15 = .ok (.imul, 1) := by decide +kernel
theorem dX11_lowOf_16 : decode cX11_lowOf 16 = .ok (.iload_n 2, 1) := by decide +kernel
theorem dX11_lowOf_17 : decode cX11_lowOf 17 = .ok (.iadd, 1) := by decide +kernel
theorem dX11_lowOf_18 : decode cX11_lowOf 18 = .ok (.iaload, 1) := by decide +kernel
theorem dX11_lowOf_19 : decode cX11_lowOf 19 = .ok (.ifCond .le 5, 3) := by decide +kernel
theorem dX11_lowOf_22 : decode cX11_lowOf 22 = .ok (.iload_n 2, 1) := by decide +kernel
theorem dX11_lowOf_23 : decode cX11_lowOf 23 = .ok (.ireturn, 1) := by decide +kernel
theorem dX11_lowOf_24 : decode cX11_lowOf 24 = .ok (.iinc 2 1, 3) := by decide +kernel
theorem dX11_lowOf_27 : decode cX11_lowOf 27 = .ok (.goto (-25), 3) := by decide +kernel
theorem dX11_lowOf_30 : decode cX11_lowOf 30 = .ok (.bipush (-5), 2) := by decide +kernel
theorem dX11_lowOf_32 : decode cX11_lowOf 32 = .ok (.ireturn, 1) := by decide +kernel
theorem dX11_highOf_0 : decode cX11_highOf 0 = .ok (.bipush 9, 2) := by decide +kernel
theorem dX11_highOf_2 : decode cX11_highOf 2 = .ok (.istore_n 2, 1) := by decide +kernel
theorem dX11_highOf_3 : decode cX11_highOf 3 = .ok (.iload_n 2, 1) := by decide +kernel
theorem dX11_highOf_4 : decode cX11_highOf 4 = .ok (.ifCond .le 25, 3) := by decide +kernel
theorem dX11_highOf_7 : decode cX11_highOf 7 = .ok (.aload_n 0, 1) := by decide +kernel
theorem dX11_highOf_8 : decode cX11_highOf 8 = .ok (.getfield 34, 3) := by decide +kernel
theorem dX11_highOf_11 : decode cX11_highOf 11 = .ok (.bipush 10, 2) := by decide +kernel
theorem dX11_highOf_13 : decode cX11_highOf 13 = .ok (.iload_n 1, 1) := by decide +kernel
theorem dX11_highOf_14 : decode cX11_highOf 14 = .ok (.imul, 1) := by decide +kernel
theorem dX11_highOf_15 : decode cX11_highOf 15 = .ok (.iload_n 2, 1) := by decide +kernel
theorem dX11_highOf_16 : decode cX11_highOf 16 = .ok (.iadd, 1) := by decide +kernel
theorem dX11_highOf_17 : decode cX11_highOf 17 = .ok (.iaload, 1) := by decide +kernel
theorem dX11_highOf_18 : decode cX11_highOf 18 = .ok (.ifCond .le 5, 3) := by decide +kernel
theorem dX11_highOf_21 : decode cX11_highOf 21 = .ok (.iload_n 2, 1) := by decide +kernel
theorem dX11_highOf_22 : decode cX11_highOf 22 = .ok (.ireturn, 1) := by decide +kernel
theorem dX11_highOf_23 : decode cX11_highOf 23 = .ok (.iinc 2 (-1), 3) := by decide +kernel
theorem dX11_highOf_26 : decode cX11_highOf 26 = .ok (.goto (-23), 3) := by decide +kernel
theorem dX11_highOf_29 : decode cX11_highOf 29 = .ok (.bipush (-5), 2) := by decide +kernel
theorem dX11_highOf_31 : decode cX11_highOf 31 = .ok (.ireturn, 1) := by decide +kernel
theorem dX11_range_0 : decode cX11_range 0 = .ok (.aload_n 0, 1) := by decide +kernel
theorem dX11_range_1 : decode cX11_range 1 = .ok (.iload_n 1, 1) := by decide +kernel
theorem dX11_range_2 : decode cX11_range 2 = .ok (.invokevirtual 161, 3) := by decide +kernel
theorem dX11_range_5 : decode cX11_range 5 = .ok (.ifCond .eq 12, 3) := by decide +kernel
theorem dX11_range_8 : decode cX11_range 8 = .ok (.iload_n 2, 1) := by decide +kernel
theorem dX11_range_9 : decode cX11_range 9 = .ok (.iconst 0, 1) := by decide +kernel
theorem dX11_range_10 : decode cX11_range 10 = .ok (.iconst 1, 1) := by decide +kernel
theorem dX11_range_11 : decode cX11_range 11 = .ok (.invokestatic 65, 3) := by decide +kernel
theorem dX11_range_14 : decode cX11_range 14 = .ok (.ifCond .ne 5, 3) := by decide +kernel
theorem dX11_range_17 : decode cX11_range 17 = .ok (.iconst (-1), 1) := by decide +kernel
theorem dX11_range_18 : decode cX11_range 18 = .ok (.ireturn, 1) := by decide +kernel
theorem dX11_range_19 : decode cX11_range 19 = .ok (.aload_n 0, 1) := by decide +kernel
theorem dX11_range_20 : decode cX11_range 20 = .ok (.invokevirtual 202, 3) := by decide +kernel
theorem dX11_range_23 : decode cX11_range 23 = .ok (.iload_n 2, 1) := by decide +kernel
theorem dX11_range_24 : decode cX11_range 24 = .ok (.ifCond .ne 11, 3) := by decide +kernel
theorem dX11_range_27 : decode cX11_range 27 = .ok (.aload_n 0, 1) := by decide +kernel
theorem dX11_range_28 : decode cX11_range 28 = .ok (.iload_n 1, 1) := by decide +kernel
theorem dX11_range_29 : decode cX11_range 29 = .ok (.invokevirtual 205, 3) := by decide +kernel
theorem dX11_range_32 : decode cX11_range 32 = .ok (.goto 8, 3) := by decide +kernel
theorem dX11_range_35 : decode cX11_range 35 = .ok (.aload_n 0, 1) := by decide +kernel
theorem dX11_range_36 : decode cX11_range 36 = .ok (.iload_n 1, 1) := by decide +kernel
theorem dX11_range_37 : decode cX11_range 37 = .ok (.invokevirtual 208, 3) := by decide +kernel
theorem dX11_range_40 : decode cX11_range 40 = .ok (.ireturn, 1) := by decide +kernel
theorem dX11_known_0 : decode cX11_known 0 = .ok (.aload_n 0, 1) := by decide +kernel
theorem dX11_known_1 : decode cX11_known 1 = .ok (.invokevirtual 202, 3) := by decide +kernel
theorem dX11_known_4 : decode cX11_known 4 = .ok (.iconst 0, 1) := by decide +kernel
theorem dX11_known_5 : decode cX11_known 5 = .ok (.istore_n 1, 1) := by decide +kernel
theorem dX11_known_6 : decode cX11_known 6 = .ok (.iconst 0, 1) := by decide +kernel
theorem dX11_known_7 : decode cX11_known 7 = .ok (.istore_n 2, 1) := by decide +kernel
theorem dX11_known_8 : decode cX11_known 8 = .ok (.iload_n 2, 1) := by decide +kernel
theorem dX11_known_9 : decode cX11_known 9 = .ok (.aload_n 0, 1) := by decide +kernel
theorem dX11_known_10 : decode cX11_known 10 = .ok (.getfield 9, 3) := by decide +kernel
theorem dX11_known_13 : decode cX11_known 13 = .ok (.iconst 0, 1) := by decide +kernel
theorem dX11_known_14 : decode cX11_known 14 = .ok (.iaload, 1) := by decide +kernel
theorem dX11_known_15 : decode cX11_known 15 = .ok (.if_icmp .ge 39, 3) := by decide +kernel
theorem dX11_known_18 : decode cX11_known 18 = .ok (.iload_n 1, 1) := by decide +kernel
theorem dX11_known_19 : decode cX11_known 19 = .ok (.aload_n 0, 1) := by decide +kernel
theorem dX11_known_20 : decode cX11_known 20 = .ok (.getfield 184, 3) := by decide +kernel
theorem dX11_known_23 : decode cX11_known 23 = .ok (.ifCond .le 22, 3) := by decide +kernel
theorem dX11_known_26 : decode cX11_known 26 = .ok (.aload_n 0, 1) := by decide +kernel
theorem dX11_known_27 : decode cX11_known 27 = .ok (.iload_n 2, 1) := by decide +kernel
theorem dX11_known_28 : decode cX11_known 28 = .ok (.invokevirtual 205, 3) := by decide +kernel
theorem dX11_known_31 : decode cX11_known 31 = .ok (.aload_n 0, 1) := by decide +kernel
theorem dX11_known_32 : decode cX11_known 32 = .ok (.iload_n 2, 1) := by decide +kernel
theorem dX11_known_33 : decode cX11_known 33 = .ok (.invokevirtual 208, 3) := by decide +kernel
theorem dX11_known_36 : decode cX11_known 36 = .ok (.if_icmp .ne 9, 3) := by decide +kernel
theorem dX11_known_39 : decode cX11_known 39 = .ok (.iconst 1, 1) := by decide +kernel
theorem dX11_known_40 : decode cX11_known 40 = .ok (.iload_n 2, 1) := by decide +kernel
theorem dX11_known_41 : decode cX11_known 41 = .ok (.ishl, 1) := by decide +kernel
theorem dX11_known_42 : decode cX11_known 42 = .ok (.goto 4, 3) := by decide +kernel
theorem dX11_known_45 : decode cX11_known 45 = .ok (.iconst 0, 1) := by decide +kernel
theorem dX11_known_46 : decode cX11_known 46 = .ok (.ior, 1) := by decide +kernel
theorem dX11_known_47 : decode cX11_known 47 = .ok (.istore_n 1, 1) := by decide +kernel
theorem dX11_known_48 : decode cX11_known 48 = .ok (.iinc 2 1, 3) := by decide +kernel
theorem dX11_known_51 : decode cX11_known 51 = .ok (.goto (-43), 3) := by decide +kernel
theorem dX11_known_54 : decode cX11_known 54 = .ok (.iload_n 1, 1) := by decide +kernel
theorem dX11_known_55 : decode cX11_known 55 = .ok (.ireturn, 1) := by decide +kernel
theorem dX11_lowest_0 : decode cX11_lowest 0 = .ok (.lload_n 0, 1) := by decide +kernel
theorem dX11_lowest_1 : decode cX11_lowest 1 = .ok (.lstore 5, 2) := by decide +kernel
theorem dX11_lowest_3 : decode cX11_lowest 3 = .ok (.lload_n 2, 1) := by decide +kernel
theorem dX11_lowest_4 : decode cX11_lowest 4 = .ok (.lstore 7, 2) := by decide +kernel
theorem dX11_lowest_6 : decode cX11_lowest 6 = .ok (.lload 7, 2) := by decide +kernel
theorem dX11_lowest_8 : decode cX11_lowest 8 = .ok (.lconst 0, 1) := by decide +kernel
theorem dX11_lowest_9 : decode cX11_lowest 9 = .ok (.lcmp, 1) := by decide +kernel
theorem dX11_lowest_10 : decode cX11_lowest 10 = .ok (.ifCond .eq 21, 3) := by decide +kernel
theorem dX11_lowest_13 : decode cX11_lowest 13 = .ok (.lload 5, 2) := by decide +kernel
theorem dX11_lowest_15 : decode cX11_lowest 15 = .ok (.lload 7, 2) := by decide +kernel
theorem dX11_lowest_17 : decode cX11_lowest 17 = .ok (.lrem, 1) := by decide +kernel
theorem dX11_lowest_18 : decode cX11_lowest 18 = .ok (.lstore 9, 2) := by decide +kernel
theorem dX11_lowest_20 : decode cX11_lowest 20 = .ok (.lload 7, 2) := by decide +kernel
theorem dX11_lowest_22 : decode cX11_lowest 22 = .ok (.lstore 5, 2) := by decide +kernel
theorem dX11_lowest_24 : decode cX11_lowest 24 = .ok (.lload 9, 2) := by decide +kernel
theorem dX11_lowest_26 : decode cX11_lowest 26 = .ok (.lstore 7, 2) := by decide +kernel
theorem dX11_lowest_28 : decode cX11_lowest 28 = .ok (.goto (-22), 3) := by decide +kernel
theorem dX11_lowest_31 : decode cX11_lowest 31 = .ok (.iload 4, 2) := by decide +kernel
theorem dX11_lowest_33 : decode cX11_lowest 33 = .ok (.ifCond .ne 7, 3) := by decide +kernel
theorem dX11_lowest_36 : decode cX11_lowest 36 = .ok (.lload_n 0, 1) := by decide +kernel
theorem dX11_lowest_37 : decode cX11_lowest 37 = .ok (.goto 4, 3) := by decide +kernel
theorem dX11_lowest_40 : decode cX11_lowest 40 = .ok (.lload_n 2, 1) := by decide +kernel
theorem dX11_lowest_41 : decode cX11_lowest 41 = .ok (.lload 5, 2) := by decide +kernel
theorem dX11_lowest_43 : decode cX11_lowest 43 = .ok (.ldiv, 1) := by decide +kernel
theorem dX11_lowest_44 : decode cX11_lowest 44 = .ok (.lreturn, 1) := by decide +kernel
theorem dX11_likely_0 : decode cX11_likely 0 = .ok (.aload_n 0, 1) := by decide +kernel
theorem dX11_likely_1 : decode cX11_likely 1 = .ok (.iload_n 1, 1) := by decide +kernel
theorem dX11_likely_2 : decode cX11_likely 2 = .ok (.invokevirtual 161, 3) := by decide +kernel
theorem dX11_likely_5 : decode cX11_likely 5 = .ok (.ifCond .eq 22, 3) := by decide +kernel
theorem dX11_likely_8 : decode cX11_likely 8 = .ok (.iload_n 2, 1) := by decide +kernel
theorem dX11_likely_9 : decode cX11_likely 9 = .ok (.iconst 1, 1) := by decide +kernel
theorem dX11_likely_10 : decode cX11_likely 10 = .ok (.bipush 9, 2) := by decide +kernel
theorem dX11_likely_12 : decode cX11_likely 12 = .ok (.invokestatic 65, 3) := by decide +kernel
theorem dX11_likely_15 : decode cX11_likely 15 = .ok (.ifCond .eq 12, 3) := by decide +kernel
theorem dX11_likely_18 : decode cX11_likely 18 = .ok (.iload_n 3, 1) := by decide +kernel
theorem dX11_likely_19 : decode cX11_likely 19 = .ok (.iconst 0, 1) := by decide +kernel
theorem dX11_likely_20 : decode cX11_likely 20 = .ok (.iconst 1, 1) := by decide +kernel
theorem dX11_likely_21 : decode cX11_likely 21 = .ok (.invokestatic 65, 3) := by decide +kernel
theorem dX11_likely_24 : decode cX11_likely 24 = .ok (.ifCond .ne 7, 3) := by decide +kernel
theorem dX11_likely_27 : decode cX11_likely 27 = .ok (.ldc2_w 211, 3) := by decide +kernel
theorem dX11_likely_30 : decode cX11_likely 30 = .ok (.lreturn, 1) := by decide +kernel
theorem dX11_likely_31 : decode cX11_likely 31 = .ok (.aload_n 0, 1) := by decide +kernel
theorem dX11_likely_32 : decode cX11_likely 32 = .ok (.invokevirtual 202, 3) := by decide +kernel
theorem dX11_likely_35 : decode cX11_likely 35 = .ok (.aload_n 0, 1) := by decide +kernel
theorem dX11_likely_36 : decode cX11_likely 36 = .ok (.getfield 184, 3) := by decide +kernel
theorem dX11_likely_39 : decode cX11_likely 39 = .ok (.ifCond .ne 9, 3) := by decide +kernel
theorem dX11_likely_42 : decode cX11_likely 42 = .ok (.ldc2_w 211, 3) := by decide +kernel
theorem dX11_likely_45 : decode cX11_likely 45 = .ok (.goto 24, 3) := by decide +kernel
theorem dX11_likely_48 : decode cX11_likely 48 = .ok (.aload_n 0, 1) := by decide +kernel
theorem dX11_likely_49 : decode cX11_likely 49 = .ok (.getfield 34, 3) := by decide +kernel
theorem dX11_likely_52 : decode cX11_likely 52 = .ok (.bipush 10, 2) := by decide +kernel
theorem dX11_likely_54 : decode cX11_likely 54 = .ok (.iload_n 1, 1) := by decide +kernel
theorem dX11_likely_55 : decode cX11_likely 55 = .ok (.imul, 1) := by decide +kernel
theorem dX11_likely_56 : decode cX11_likely 56 = .ok (.iload_n 2, 1) := by decide +kernel
theorem dX11_likely_57 : decode cX11_likely 57 = .ok (.iadd, 1) := by decide +kernel
theorem dX11_likely_58 : decode cX11_likely 58 = .ok (.iaload, 1) := by decide +kernel
theorem dX11_likely_59 : decode cX11_likely 59 = .ok (.i2l, 1) := by decide +kernel
theorem dX11_likely_60 : decode cX11_likely 60 = .ok (.aload_n 0, 1) := by decide +kernel
theorem dX11_likely_61 : decode cX11_likely 61 = .ok (.getfield 184, 3) := by decide +kernel
theorem dX11_likely_64 : decode cX11_likely 64 = .ok (.i2l, 1) := by decide +kernel
theorem dX11_likely_65 : decode cX11_likely 65 = .ok (.iload_n 3, 1) := by decide +kernel
theorem dX11_likely_66 : decode cX11_likely 66 = .ok (.invokestatic 213, 3) := by decide +kernel
theorem dX11_likely_69 : decode cX11_likely 69 = .ok (.lreturn, 1) := by decide +kernel
theorem dX11_weighs_0 : decode cX11_weighs 0 = .ok (.aload_n 0, 1) := by decide +kernel
theorem dX11_weighs_1 : decode cX11_weighs 1 = .ok (.iconst 0, 1) := by decide +kernel
theorem dX11_weighs_2 : decode cX11_weighs 2 = .ok (.putfield 217, 3) := by decide +kernel
theorem dX11_weighs_5 : decode cX11_weighs 5 = .ok (.aload_n 0, 1) := by decide +kernel
theorem dX11_weighs_6 : decode cX11_weighs 6 = .ok (.iconst 0, 1) := by decide +kernel
theorem dX11_weighs_7 : decode cX11_weighs 7 = .ok (.putfield 220, 3) := by decide +kernel
theorem dX11_weighs_10 : decode cX11_weighs 10 = .ok (.aload_n 0, 1) := by decide +kernel
theorem dX11_weighs_11 : decode cX11_weighs 11 = .ok (.iconst 0, 1) := by decide +kernel
theorem dX11_weighs_12 : decode cX11_weighs 12 = .ok (.putfield 223, 3) := by decide +kernel
theorem dX11_weighs_15 : decode cX11_weighs 15 = .ok (.aload_n 0, 1) := by decide +kernel
theorem dX11_weighs_16 : decode cX11_weighs 16 = .ok (.invokevirtual 190, 3) := by decide +kernel
theorem dX11_weighs_19 : decode cX11_weighs 19 = .ok (.istore_n 3, 1) := by decide +kernel
theorem dX11_weighs_20 : decode cX11_weighs 20 = .ok (.iconst 0, 1) := by decide +kernel
theorem dX11_weighs_21 : decode cX11_weighs 21 = .ok (.istore 4, 2) := by decide +kernel
theorem dX11_weighs_23 : decode cX11_weighs 23 = .ok (.iload 4, 2) := by decide +kernel
theorem dX11_weighs_25 : decode cX11_weighs 25 = .ok (.iload_n 3, 1) := by decide +kernel
theorem dX11_weighs_26 : decode cX11_weighs 26 = .ok (.if_icmp .ge 124, 3) := by decide +kernel
theorem dX11_weighs_29 : decode cX11_weighs 29 = .ok (.aload_n 0, 1) := by decide +kernel
theorem dX11_weighs_30 : decode cX11_weighs 30 = .ok (.iload 4, 2) := by decide +kernel
theorem dX11_weighs_32 : decode cX11_weighs 32 = .ok (.invokevirtual 193, 3) := by decide +kernel
theorem dX11_weighs_35 : decode cX11_weighs 35 = .ok (.aload_n 0, 1) := by decide +kernel
theorem dX11_weighs_36 : decode cX11_weighs 36 = .ok (.aload_n 0, 1) := by decide +kernel
theorem dX11_weighs_37 : decode cX11_weighs 37 = .ok (.getfield 9, 3) := by decide +kernel
theorem dX11_weighs_40 : decode cX11_weighs 40 = .ok (.iconst 3, 1) := by decide +kernel
theorem dX11_weighs_41 : decode cX11_weighs 41 = .ok (.iaload, 1) := by decide +kernel
theorem dX11_weighs_42 : decode cX11_weighs 42 = .ok (.invokevirtual 196, 3) := by decide +kernel
theorem dX11_weighs_45 : decode cX11_weighs 45 = .ok (.aload_n 0, 1) := by decide +kernel
theorem dX11_weighs_46 : decode cX11_weighs 46 = .ok (.invokevirtual 171, 3) := by decide +kernel
theorem dX11_weighs_49 : decode cX11_weighs 49 = .ok (.if_icmp .gt 95, 3) := by decide +kernel
theorem dX11_weighs_52 : decode cX11_weighs 52 = .ok (.aload_n 0, 1) := by decide +kernel
theorem dX11_weighs_53 : decode cX11_weighs 53 = .ok (.getfield 28, 3) := by decide +kernel
theorem dX11_weighs_56 : decode cX11_weighs 56 = .ok (.bipush 10, 2) := by decide +kernel
theorem dX11_weighs_58 : decode cX11_weighs 58 = .ok (.iload_n 1, 1) := by decide +kernel
theorem dX11_weighs_59 : decode cX11_weighs 59 = .ok (.imul, 1) := by decide +kernel
theorem dX11_weighs_60 : decode cX11_weighs 60 = .ok (.aload_n 0, 1) := by decide +kernel
theorem dX11_weighs_61 : decode cX11_weighs 61 = .ok (.getfield 31, 3) := by decide +kernel
theorem dX11_weighs_64 : decode cX11_weighs 64 = .ok (.iload_n 1, 1) := by decide +kernel
theorem dX11_weighs_65 : decode cX11_weighs 65 = .ok (.iaload, 1) := by decide +kernel
theorem dX11_weighs_66 : decode cX11_weighs 66 = .ok (.iadd, 1) := by decide +kernel
theorem dX11_weighs_67 : decode cX11_weighs 67 = .ok (.iaload, 1) := by decide +kernel
theorem dX11_weighs_68 : decode cX11_weighs 68 = .ok (.aload_n 0, 1) := by decide +kernel
theorem dX11_weighs_69 : decode cX11_weighs 69 = .ok (.getfield 28, 3) := by decide +kernel
theorem dX11_weighs_72 : decode cX11_weighs 72 = .ok (.bipush 10, 2) := by decide +kernel
theorem dX11_weighs_74 : decode cX11_weighs 74 = .ok (.iload_n 2, 1) := by decide +kernel
theorem dX11_weighs_75 : decode cX11_weighs 75 = .ok (.imul, 1) := by decide +kernel
theorem dX11_weighs_76 : decode cX11_weighs 76 = .ok (.aload_n 0, 1) := by decide +kernel
theorem dX11_weighs_77 : decode cX11_weighs 77 = .ok (.getfield 31, 3) := by decide +kernel
theorem dX11_weighs_80 : decode cX11_weighs 80 = .ok (.iload_n 2, 1) := by decide +kernel
theorem dX11_weighs_81 : decode cX11_weighs 81 = .ok (.iaload, 1) := by decide +kernel
theorem dX11_weighs_82 : decode cX11_weighs 82 = .ok (.iadd, 1) := by decide +kernel
theorem dX11_weighs_83 : decode cX11_weighs 83 = .ok (.iaload, 1) := by decide +kernel
theorem dX11_weighs_84 : decode cX11_weighs 84 = .ok (.isub, 1) := by decide +kernel
theorem dX11_weighs_85 : decode cX11_weighs 85 = .ok (.istore 5, 2) := by decide +kernel
theorem dX11_weighs_87 : decode cX11_weighs 87 = .ok (.aload_n 0, 1) := by decide +kernel
theorem dX11_weighs_88 : decode cX11_weighs 88 = .ok (.dup, 1) := by decide +kernel
theorem dX11_weighs_89 : decode cX11_weighs 89 = .ok (.getfield 217, 3) := by decide +kernel
theorem dX11_weighs_92 : decode cX11_weighs 92 = .ok (.iload 5, 2) := by decide +kernel
theorem dX11_weighs_94 : decode cX11_weighs 94 = .ok (.ifCond .le 7, 3) := by decide +kernel
theorem dX11_weighs_97 : decode cX11_weighs 97 = .ok (.iconst 1, 1) := by decide +kernel
theorem dX11_weighs_98 : decode cX11_weighs 98 = .ok (.goto 4, 3) := by decide +kernel
theorem dX11_weighs_101 : decode cX11_weighs 101 = .ok (.iconst 0, 1) := by decide +kernel
theorem dX11_weighs_102 : decode cX11_weighs 102 = .ok (.iadd, 1) := by decide +kernel
theorem dX11_weighs_103 : decode cX11_weighs 103 = .ok (.putfield 217, 3) := by decide +kernel
theorem dX11_weighs_106 : decode cX11_weighs 106 = .ok (.aload_n 0, 1) := by decide +kernel
theorem dX11_weighs_107 : decode cX11_weighs 107 = .ok (.dup, 1) := by decide +kernel
theorem dX11_weighs_108 : decode cX11_weighs 108 = .ok (.getfield 220, 3) := by decide +kernel
theorem dX11_weighs_111 : decode cX11_weighs 111 = .ok (.iload 5, 2) := by decide +kernel
theorem dX11_weighs_113 : decode cX11_weighs 113 = .ok (.ifCond .ge 7, 3) := by decide +kernel
theorem dX11_weighs_116 : decode cX11_weighs 116 = .ok (.iconst 1, 1) := by decide +kernel
theorem dX11_weighs_117 : decode cX11_weighs 117 = .ok (.goto 4, 3) := by decide +kernel
theorem dX11_weighs_120 : decode cX11_weighs 120 = .ok (.iconst 0, 1) := by decide +kernel
theorem dX11_weighs_121 : decode cX11_weighs 121 = .ok (.iadd, 1) := by decide +kernel
theorem dX11_weighs_122 : decode cX11_weighs 122 = .ok (.putfield 220, 3) := by decide +kernel
theorem dX11_weighs_125 : decode cX11_weighs 125 = .ok (.aload_n 0, 1) := by decide +kernel
theorem dX11_weighs_126 : decode cX11_weighs 126 = .ok (.dup, 1) := by decide +kernel
theorem dX11_weighs_127 : decode cX11_weighs 127 = .ok (.getfield 223, 3) := by decide +kernel
theorem dX11_weighs_130 : decode cX11_weighs 130 = .ok (.iload 5, 2) := by decide +kernel
theorem dX11_weighs_132 : decode cX11_weighs 132 = .ok (.ifCond .ne 7, 3) := by decide +kernel
theorem dX11_weighs_135 : decode cX11_weighs 135 = .ok (.iconst 1, 1) := by decide +kernel
theorem dX11_weighs_136 : decode cX11_weighs 136 = .ok (.goto 4, 3) := by decide +kernel
theorem dX11_weighs_139 : decode cX11_weighs 139 = .ok (.iconst 0, 1) := by decide +kernel
theorem dX11_weighs_140 : decode cX11_weighs 140 = .ok (.iadd, 1) := by decide +kernel
theorem dX11_weighs_141 : decode cX11_weighs 141 = .ok (.putfield 223, 3) := by decide +kernel
theorem dX11_weighs_144 : decode cX11_weighs 144 = .ok (.iinc 4 1, 3) := by decide +kernel
theorem dX11_weighs_147 : decode cX11_weighs 147 = .ok (.goto (-124), 3) := by decide +kernel
theorem dX11_weighs_150 : decode cX11_weighs 150 = .ok (.return_, 1) := by decide +kernel
theorem dX11_alike_0 : decode cX11_alike 0 = .ok (.aload_n 0, 1) := by decide +kernel
theorem dX11_alike_1 : decode cX11_alike 1 = .ok (.iload_n 1, 1) := by decide +kernel
theorem dX11_alike_2 : decode cX11_alike 2 = .ok (.invokevirtual 161, 3) := by decide +kernel
theorem dX11_alike_5 : decode cX11_alike 5 = .ok (.ifCond .eq 11, 3) := by decide +kernel
theorem dX11_alike_8 : decode cX11_alike 8 = .ok (.aload_n 0, 1) := by decide +kernel
theorem dX11_alike_9 : decode cX11_alike 9 = .ok (.iload_n 2, 1) := by decide +kernel
theorem dX11_alike_10 : decode cX11_alike 10 = .ok (.invokevirtual 161, 3) := by decide +kernel
theorem dX11_alike_13 : decode cX11_alike 13 = .ok (.ifCond .ne 5, 3) := by decide +kernel
theorem dX11_alike_16 : decode cX11_alike 16 = .ok (.iconst (-1), 1) := by decide +kernel
theorem dX11_alike_17 : decode cX11_alike 17 = .ok (.ireturn, 1) := by decide +kernel
theorem dX11_alike_18 : decode cX11_alike 18 = .ok (.iload_n 1, 1) := by decide +kernel
theorem dX11_alike_19 : decode cX11_alike 19 = .ok (.iload_n 2, 1) := by decide +kernel
theorem dX11_alike_20 : decode cX11_alike 20 = .ok (.if_icmp .ne 6, 3) := by decide +kernel
theorem dX11_alike_23 : decode cX11_alike 23 = .ok (.bipush (-2), 2) := by decide +kernel
theorem dX11_alike_25 : decode cX11_alike 25 = .ok (.ireturn, 1) := by decide +kernel
theorem dX11_alike_26 : decode cX11_alike 26 = .ok (.aload_n 0, 1) := by decide +kernel
theorem dX11_alike_27 : decode cX11_alike 27 = .ok (.invokevirtual 181, 3) := by decide +kernel
theorem dX11_alike_30 : decode cX11_alike 30 = .ok (.aload_n 0, 1) := by decide +kernel
theorem dX11_alike_31 : decode cX11_alike 31 = .ok (.iload_n 1, 1) := by decide +kernel
theorem dX11_alike_32 : decode cX11_alike 32 = .ok (.iload_n 2, 1) := by decide +kernel
theorem dX11_alike_33 : decode cX11_alike 33 = .ok (.invokevirtual 226, 3) := by decide +kernel
theorem dX11_alike_36 : decode cX11_alike 36 = .ok (.aload_n 0, 1) := by decide +kernel
theorem dX11_alike_37 : decode cX11_alike 37 = .ok (.getfield 223, 3) := by decide +kernel
theorem dX11_alike_40 : decode cX11_alike 40 = .ok (.ifCond .le 21, 3) := by decide +kernel
theorem dX11_alike_43 : decode cX11_alike 43 = .ok (.aload_n 0, 1) := by decide +kernel
theorem dX11_alike_44 : decode cX11_alike 44 = .ok (.getfield 217, 3) := by decide +kernel
theorem dX11_alike_47 : decode cX11_alike 47 = .ok (.ifCond .ne 14, 3) := by decide +kernel
theorem dX11_alike_50 : decode cX11_alike 50 = .ok (.aload_n 0, 1) := by decide +kernel
theorem dX11_alike_51 : decode cX11_alike 51 = .ok (.getfield 220, 3) := by decide +kernel
theorem dX11_alike_54 : decode cX11_alike 54 = .ok (.ifCond .ne 7, 3) := by decide +kernel
theorem dX11_alike_57 : decode cX11_alike 57 = .ok (.iconst 1, 1) := by decide +kernel
theorem dX11_alike_58 : decode cX11_alike 58 = .ok (.goto 4, 3) := by decide +kernel
theorem dX11_alike_61 : decode cX11_alike 61 = .ok (.iconst 0, 1) := by decide +kernel
theorem dX11_alike_62 : decode cX11_alike 62 = .ok (.ireturn, 1) := by decide +kernel
theorem dX11_wrong_0 : decode cX11_wrong 0 = .ok (.iconst 0, 1) := by decide +kernel
theorem dX11_wrong_1 : decode cX11_wrong 1 = .ok (.istore_n 1, 1) := by decide +kernel
theorem dX11_wrong_2 : decode cX11_wrong 2 = .ok (.iload_n 1, 1) := by decide +kernel
theorem dX11_wrong_3 : decode cX11_wrong 3 = .ok (.aload_n 0, 1) := by decide +kernel
theorem dX11_wrong_4 : decode cX11_wrong 4 = .ok (.getfield 9, 3) := by decide +kernel
theorem dX11_wrong_7 : decode cX11_wrong 7 = .ok (.iconst 3, 1) := by decide +kernel
theorem dX11_wrong_8 : decode cX11_wrong 8 = .ok (.iaload, 1) := by decide +kernel
theorem dX11_wrong_9 : decode cX11_wrong 9 = .ok (.if_icmp .ge 25, 3) := by decide +kernel
theorem dX11_wrong_12 : decode cX11_wrong 12 = .ok (.aload_n 0, 1) := by decide +kernel
theorem dX11_wrong_13 : decode cX11_wrong 13 = .ok (.iload_n 1, 1) := by decide +kernel
theorem dX11_wrong_14 : decode cX11_wrong 14 = .ok (.iconst 1, 1) := by decide +kernel
theorem dX11_wrong_15 : decode cX11_wrong 15 = .ok (.iadd, 1) := by decide +kernel
theorem dX11_wrong_16 : decode cX11_wrong 16 = .ok (.invokevirtual 199, 3) := by decide +kernel
theorem dX11_wrong_19 : decode cX11_wrong 19 = .ok (.aload_n 0, 1) := by decide +kernel
theorem dX11_wrong_20 : decode cX11_wrong 20 = .ok (.getfield 184, 3) := by decide +kernel
theorem dX11_wrong_23 : decode cX11_wrong 23 = .ok (.ifCond .ne 5, 3) := by decide +kernel
theorem dX11_wrong_26 : decode cX11_wrong 26 = .ok (.iload_n 1, 1) := by decide +kernel
theorem dX11_wrong_27 : decode cX11_wrong 27 = .ok (.ireturn, 1) := by decide +kernel
theorem dX11_wrong_28 : decode cX11_wrong 28 = .ok (.iinc 1 1, 3) := by decide +kernel
theorem dX11_wrong_31 : decode cX11_wrong 31 = .ok (.goto (-29), 3) := by decide +kernel
theorem dX11_wrong_34 : decode cX11_wrong 34 = .ok (.bipush (-5), 2) := by decide +kernel
theorem dX11_wrong_36 : decode cX11_wrong 36 = .ok (.ireturn, 1) := by decide +kernel
theorem dX11_cheated_0 : decode cX11_cheated 0 = .ok (.aload_n 0, 1) := by decide +kernel
theorem dX11_cheated_1 : decode cX11_cheated 1 = .ok (.invokevirtual 202, 3) := by decide +kernel
theorem dX11_cheated_4 : decode cX11_cheated 4 = .ok (.aload_n 0, 1) := by decide +kernel
theorem dX11_cheated_5 : decode cX11_cheated 5 = .ok (.getfield 187, 3) := by decide +kernel
theorem dX11_cheated_8 : decode cX11_cheated 8 = .ok (.bipush 60, 2) := by decide +kernel
theorem dX11_cheated_10 : decode cX11_cheated 10 = .ok (.if_icmp .le 8, 3) := by decide +kernel
theorem dX11_cheated_13 : decode cX11_cheated 13 = .ok (.bipush (-5), 2) := by decide +kernel
theorem dX11_cheated_15 : decode cX11_cheated 15 = .ok (.goto 7, 3) := by decide +kernel
theorem dX11_cheated_18 : decode cX11_cheated 18 = .ok (.aload_n 0, 1) := by decide +kernel
theorem dX11_cheated_19 : decode cX11_cheated 19 = .ok (.getfield 187, 3) := by decide +kernel
theorem dX11_cheated_22 : decode cX11_cheated 22 = .ok (.ireturn, 1) := by decide +kernel
theorem dX11_worst_0 : decode cX11_worst 0 = .ok (.aload_n 0, 1) := by decide +kernel
theorem dX11_worst_1 : decode cX11_worst 1 = .ok (.getfield 217, 3) := by decide +kernel
theorem dX11_worst_4 : decode cX11_worst 4 = .ok (.aload_n 0, 1) := by decide +kernel
theorem dX11_worst_5 : decode cX11_worst 5 = .ok (.getfield 220, 3) := by decide +kernel
theorem dX11_worst_8 : decode cX11_worst 8 = .ok (.if_icmp .le 10, 3) := by decide +kernel
theorem dX11_worst_11 : decode cX11_worst 11 = .ok (.aload_n 0, 1) := by decide +kernel
theorem dX11_worst_12 : decode cX11_worst 12 = .ok (.getfield 217, 3) := by decide +kernel
theorem dX11_worst_15 : decode cX11_worst 15 = .ok (.goto 7, 3) := by decide +kernel
theorem dX11_worst_18 : decode cX11_worst 18 = .ok (.aload_n 0, 1) := by decide +kernel
theorem dX11_worst_19 : decode cX11_worst 19 = .ok (.getfield 220, 3) := by decide +kernel
theorem dX11_worst_22 : decode cX11_worst 22 = .ok (.istore_n 1, 1) := by decide +kernel
theorem dX11_worst_23 : decode cX11_worst 23 = .ok (.aload_n 0, 1) := by decide +kernel
theorem dX11_worst_24 : decode cX11_worst 24 = .ok (.getfield 223, 3) := by decide +kernel
theorem dX11_worst_27 : decode cX11_worst 27 = .ok (.iload_n 1, 1) := by decide +kernel
theorem dX11_worst_28 : decode cX11_worst 28 = .ok (.if_icmp .le 10, 3) := by decide +kernel
theorem dX11_worst_31 : decode cX11_worst 31 = .ok (.aload_n 0, 1) := by decide +kernel
theorem dX11_worst_32 : decode cX11_worst 32 = .ok (.getfield 223, 3) := by decide +kernel
theorem dX11_worst_35 : decode cX11_worst 35 = .ok (.goto 4, 3) := by decide +kernel
theorem dX11_worst_38 : decode cX11_worst 38 = .ok (.iload_n 1, 1) := by decide +kernel
theorem dX11_worst_39 : decode cX11_worst 39 = .ok (.ireturn, 1) := by decide +kernel
theorem dX11_hold_0 : decode cX11_hold 0 = .ok (.iload_n 1, 1) := by decide +kernel
theorem dX11_hold_1 : decode cX11_hold 1 = .ok (.iconst 0, 1) := by decide +kernel
theorem dX11_hold_2 : decode cX11_hold 2 = .ok (.iconst 1, 1) := by decide +kernel
theorem dX11_hold_3 : decode cX11_hold 3 = .ok (.invokestatic 65, 3) := by decide +kernel
theorem dX11_hold_6 : decode cX11_hold 6 = .ok (.ifCond .ne 5, 3) := by decide +kernel
theorem dX11_hold_9 : decode cX11_hold 9 = .ok (.iconst (-1), 1) := by decide +kernel
theorem dX11_hold_10 : decode cX11_hold 10 = .ok (.ireturn, 1) := by decide +kernel
theorem dX11_hold_11 : decode cX11_hold 11 = .ok (.aload_n 0, 1) := by decide +kernel
theorem dX11_hold_12 : decode cX11_hold 12 = .ok (.invokevirtual 202, 3) := by decide +kernel
theorem dX11_hold_15 : decode cX11_hold 15 = .ok (.bipush (-5), 2) := by decide +kernel
theorem dX11_hold_17 : decode cX11_hold 17 = .ok (.istore_n 2, 1) := by decide +kernel
theorem dX11_hold_18 : decode cX11_hold 18 = .ok (.bipush (-5), 2) := by decide +kernel
theorem dX11_hold_20 : decode cX11_hold 20 = .ok (.istore_n 3, 1) := by decide +kernel
theorem dX11_hold_21 : decode cX11_hold 21 = .ok (.iconst 0, 1) := by decide +kernel
theorem dX11_hold_22 : decode cX11_hold 22 = .ok (.istore 4, 2) := by decide +kernel
theorem dX11_hold_24 : decode cX11_hold 24 = .ok (.iload 4, 2) := by decide +kernel
theorem dX11_hold_26 : decode cX11_hold 26 = .ok (.aload_n 0, 1) := by decide +kernel
theorem dX11_hold_27 : decode cX11_hold 27 = .ok (.getfield 9, 3) := by decide +kernel
theorem dX11_hold_30 : decode cX11_hold 30 = .ok (.iconst 0, 1) := by decide +kernel
theorem dX11_hold_31 : decode cX11_hold 31 = .ok (.iaload, 1) := by decide +kernel
theorem dX11_hold_32 : decode cX11_hold 32 = .ok (.if_icmp .ge 75, 3) := by decide +kernel
theorem dX11_hold_35 : decode cX11_hold 35 = .ok (.iload 4, 2) := by decide +kernel
theorem dX11_hold_37 : decode cX11_hold 37 = .ok (.iconst 1, 1) := by decide +kernel
theorem dX11_hold_38 : decode cX11_hold 38 = .ok (.iadd, 1) := by decide +kernel
theorem dX11_hold_39 : decode cX11_hold 39 = .ok (.istore 5, 2) := by decide +kernel
theorem dX11_hold_41 : decode cX11_hold 41 = .ok (.iload 5, 2) := by decide +kernel
theorem dX11_hold_43 : decode cX11_hold 43 = .ok (.aload_n 0, 1) := by decide +kernel
theorem dX11_hold_44 : decode cX11_hold 44 = .ok (.getfield 9, 3) := by decide +kernel
theorem dX11_hold_47 : decode cX11_hold 47 = .ok (.iconst 0, 1) := by decide +kernel
theorem dX11_hold_48 : decode cX11_hold 48 = .ok (.iaload, 1) := by decide +kernel
theorem dX11_hold_49 : decode cX11_hold 49 = .ok (.if_icmp .ge 52, 3) := by decide +kernel
theorem dX11_hold_52 : decode cX11_hold 52 = .ok (.aload_n 0, 1) := by decide +kernel
theorem dX11_hold_53 : decode cX11_hold 53 = .ok (.getfield 184, 3) := by decide +kernel
theorem dX11_hold_56 : decode cX11_hold 56 = .ok (.ifCond .le 45, 3) := by decide +kernel
theorem dX11_hold_59 : decode cX11_hold 59 = .ok (.aload_n 0, 1) := by decide +kernel
theorem dX11_hold_60 : decode cX11_hold 60 = .ok (.iload 4, 2) := by decide +kernel
theorem dX11_hold_62 : decode cX11_hold 62 = .ok (.iload 5, 2) := by decide +kernel
theorem dX11_hold_64 : decode cX11_hold 64 = .ok (.invokevirtual 226, 3) := by decide +kernel
theorem dX11_hold_67 : decode cX11_hold 67 = .ok (.iload_n 2, 1) := by decide +kernel
theorem dX11_hold_68 : decode cX11_hold 68 = .ok (.bipush (-5), 2) := by decide +kernel
theorem dX11_hold_70 : decode cX11_hold 70 = .ok (.if_icmp .eq 11, 3) := by decide +kernel
theorem dX11_hold_73 : decode cX11_hold 73 = .ok (.aload_n 0, 1) := by decide +kernel
theorem dX11_hold_74 : decode cX11_hold 74 = .ok (.invokevirtual 230, 3) := by decide +kernel
theorem dX11_hold_77 : decode cX11_hold 77 = .ok (.iload_n 3, 1) := by decide +kernel
theorem dX11_hold_78 : decode cX11_hold 78 = .ok (.if_icmp .ge 17, 3) := by decide +kernel
theorem dX11_hold_81 : decode cX11_hold 81 = .ok (.bipush 10, 2) := by decide +kernel
theorem dX11_hold_83 : decode cX11_hold 83 = .ok (.iload 4, 2) := by decide +kernel
theorem dX11_hold_85 : decode cX11_hold 85 = .ok (.imul, 1) := by decide +kernel
theorem dX11_hold_86 : decode cX11_hold 86 = .ok (.iload 5, 2) := by decide +kernel
theorem dX11_hold_88 : decode cX11_hold 88 = .ok (.iadd, 1) := by decide +kernel
theorem dX11_hold_89 : decode cX11_hold 89 = .ok (.istore_n 2, 1) := by decide +kernel
theorem dX11_hold_90 : decode cX11_hold 90 = .ok (.aload_n 0, 1) := by decide +kernel
theorem dX11_hold_91 : decode cX11_hold 91 = .ok (.invokevirtual 230, 3) := by decide +kernel
theorem dX11_hold_94 : decode cX11_hold 94 = .ok (.istore_n 3, 1) := by decide +kernel
theorem dX11_hold_95 : decode cX11_hold 95 = .ok (.iinc 5 1, 3) := by decide +kernel
theorem dX11_hold_98 : decode cX11_hold 98 = .ok (.goto (-57), 3) := by decide +kernel
theorem dX11_hold_101 : decode cX11_hold 101 = .ok (.iinc 4 1, 3) := by decide +kernel
theorem dX11_hold_104 : decode cX11_hold 104 = .ok (.goto (-80), 3) := by decide +kernel
theorem dX11_hold_107 : decode cX11_hold 107 = .ok (.iload_n 1, 1) := by decide +kernel
theorem dX11_hold_108 : decode cX11_hold 108 = .ok (.ifCond .ne 7, 3) := by decide +kernel
theorem dX11_hold_111 : decode cX11_hold 111 = .ok (.iload_n 2, 1) := by decide +kernel
theorem dX11_hold_112 : decode cX11_hold 112 = .ok (.goto 4, 3) := by decide +kernel
theorem dX11_hold_115 : decode cX11_hold 115 = .ok (.iload_n 3, 1) := by decide +kernel
theorem dX11_hold_116 : decode cX11_hold 116 = .ok (.ireturn, 1) := by decide +kernel
theorem dX11_pursed_0 : decode cX11_pursed 0 = .ok (.iconst 0, 1) := by decide +kernel
theorem dX11_pursed_1 : decode cX11_pursed 1 = .ok (.istore_n 1, 1) := by decide +kernel
theorem dX11_pursed_2 : decode cX11_pursed 2 = .ok (.iload_n 1, 1) := by decide +kernel
theorem dX11_pursed_3 : decode cX11_pursed 3 = .ok (.iconst 4, 1) := by decide +kernel
theorem dX11_pursed_4 : decode cX11_pursed 4 = .ok (.if_icmp .ge 38, 3) := by decide +kernel
theorem dX11_pursed_7 : decode cX11_pursed 7 = .ok (.aload_n 0, 1) := by decide +kernel
theorem dX11_pursed_8 : decode cX11_pursed 8 = .ok (.getfield 37, 3) := by decide +kernel
theorem dX11_pursed_11 : decode cX11_pursed 11 = .ok (.iload_n 1, 1) := by decide +kernel
theorem dX11_pursed_12 : decode cX11_pursed 12 = .ok (.iload_n 1, 1) := by decide +kernel
theorem dX11_pursed_13 : decode cX11_pursed 13 = .ok (.aload_n 0, 1) := by decide +kernel
theorem dX11_pursed_14 : decode cX11_pursed 14 = .ok (.getfield 9, 3) := by decide +kernel
theorem dX11_pursed_17 : decode cX11_pursed 17 = .ok (.iconst 0, 1) := by decide +kernel
theorem dX11_pursed_18 : decode cX11_pursed 18 = .ok (.iaload, 1) := by decide +kernel
theorem dX11_pursed_19 : decode cX11_pursed 19 = .ok (.if_icmp .ge 15, 3) := by decide +kernel
theorem dX11_pursed_22 : decode cX11_pursed 22 = .ok (.aload_n 0, 1) := by decide +kernel
theorem dX11_pursed_23 : decode cX11_pursed 23 = .ok (.getfield 9, 3) := by decide +kernel
theorem dX11_pursed_26 : decode cX11_pursed 26 = .ok (.bipush 22, 2) := by decide +kernel
theorem dX11_pursed_28 : decode cX11_pursed 28 = .ok (.iload_n 1, 1) := by decide +kernel
theorem dX11_pursed_29 : decode cX11_pursed 29 = .ok (.iadd, 1) := by decide +kernel
theorem dX11_pursed_30 : decode cX11_pursed 30 = .ok (.iaload, 1) := by decide +kernel
theorem dX11_pursed_31 : decode cX11_pursed 31 = .ok (.goto 4, 3) := by decide +kernel
theorem dX11_pursed_34 : decode cX11_pursed 34 = .ok (.iconst 0, 1) := by decide +kernel
theorem dX11_pursed_35 : decode cX11_pursed 35 = .ok (.iastore, 1) := by decide +kernel
theorem dX11_pursed_36 : decode cX11_pursed 36 = .ok (.iinc 1 1, 3) := by decide +kernel
theorem dX11_pursed_39 : decode cX11_pursed 39 = .ok (.goto (-37), 3) := by decide +kernel
theorem dX11_pursed_42 : decode cX11_pursed 42 = .ok (.return_, 1) := by decide +kernel
theorem dX11_paysFrom_0 : decode cX11_paysFrom 0 = .ok (.iload_n 1, 1) := by decide +kernel
theorem dX11_paysFrom_1 : decode cX11_paysFrom 1 = .ok (.iconst 4, 1) := by decide +kernel
theorem dX11_paysFrom_2 : decode cX11_paysFrom 2 = .ok (.if_icmp .ne 60, 3) := by decide +kernel
theorem dX11_paysFrom_5 : decode cX11_paysFrom 5 = .ok (.iload_n 2, 1) := by decide +kernel
theorem dX11_paysFrom_6 : decode cX11_paysFrom 6 = .ok (.ifCond .ne 55, 3) := by decide +kernel
theorem dX11_paysFrom_9 : decode cX11_paysFrom 9 = .ok (.aload_n 0, 1) := by decide +kernel
theorem dX11_paysFrom_10 : decode cX11_paysFrom 10 = .ok (.dup, 1) := by decide +kernel
theorem dX11_paysFrom_11 : decode cX11_paysFrom 11 = .ok (.getfield 233, 3) := by decide +kernel
theorem dX11_paysFrom_14 : decode cX11_paysFrom 14 = .ok (.iconst 1, 1) := by decide +kernel
theorem dX11_paysFrom_15 : decode cX11_paysFrom 15 = .ok (.iadd, 1) := by decide +kernel
theorem dX11_paysFrom_16 : decode cX11_paysFrom 16 = .ok (.putfield 233, 3) := by decide +kernel
theorem dX11_paysFrom_19 : decode cX11_paysFrom 19 = .ok (.iload_n 3, 1) := by decide +kernel
theorem dX11_paysFrom_20 : decode cX11_paysFrom 20 = .ok (.aload_n 0, 1) := by decide +kernel
theorem dX11_paysFrom_21 : decode cX11_paysFrom 21 = .ok (.getfield 236, 3) := by decide +kernel
theorem dX11_paysFrom_24 : decode cX11_paysFrom 24 = .ok (.if_icmp .ge 37, 3) := by decide +kernel
theorem dX11_paysFrom_27 : decode cX11_paysFrom 27 = .ok (.aload_n 0, 1) := by decide +kernel
theorem dX11_paysFrom_28 : decode cX11_paysFrom 28 = .ok (.iload_n 3, 1) := by decide +kernel
theorem dX11_paysFrom_29 : decode cX11_paysFrom 29 = .ok (.putfield 236, 3) := by decide +kernel
theorem dX11_paysFrom_32 : decode cX11_paysFrom 32 = .ok (.iconst 0, 1) := by decide +kernel
theorem dX11_paysFrom_33 : decode cX11_paysFrom 33 = .ok (.istore 5, 2) := by decide +kernel
theorem dX11_paysFrom_35 : decode cX11_paysFrom 35 = .ok (.iload 5, 2) := by decide +kernel
theorem dX11_paysFrom_37 : decode cX11_paysFrom 37 = .ok (.iconst 4, 1) := by decide +kernel
theorem dX11_paysFrom_38 : decode cX11_paysFrom 38 = .ok (.if_icmp .ge 23, 3) := by decide +kernel
theorem dX11_paysFrom_41 : decode cX11_paysFrom 41 = .ok (.aload_n 0, 1) := by decide +kernel
theorem dX11_paysFrom_42 : decode cX11_paysFrom 42 = .ok (.getfield 43, 3) := by decide +kernel
theorem dX11_paysFrom_45 : decode cX11_paysFrom 45 = .ok (.iload 5, 2) := by decide +kernel
theorem dX11_paysFrom_47 : decode cX11_paysFrom 47 = .ok (.aload_n 0, 1) := by decide +kernel
theorem dX11_paysFrom_48 : decode cX11_paysFrom 48 = .ok (.getfield 40, 3) := by decide +kernel
theorem dX11_paysFrom_51 : decode cX11_paysFrom 51 = .ok (.iload 5, 2) := by decide +kernel
theorem dX11_paysFrom_53 : decode cX11_paysFrom 53 = .ok (.iaload, 1) := by decide +kernel
theorem dX11_paysFrom_54 : decode cX11_paysFrom 54 = .ok (.iastore, 1) := by decide +kernel
theorem dX11_paysFrom_55 : decode cX11_paysFrom 55 = .ok (.iinc 5 1, 3) := by decide +kernel
theorem dX11_paysFrom_58 : decode cX11_paysFrom 58 = .ok (.goto (-23), 3) := by decide +kernel
theorem dX11_paysFrom_61 : decode cX11_paysFrom 61 = .ok (.return_, 1) := by decide +kernel
theorem dX11_paysFrom_62 : decode cX11_paysFrom 62 = .ok (.iload_n 1, 1) := by decide +kernel
theorem dX11_paysFrom_63 : decode cX11_paysFrom 63 = .ok (.aload_n 0, 1) := by decide +kernel
theorem dX11_paysFrom_64 : decode cX11_paysFrom 64 = .ok (.getfield 9, 3) := by decide +kernel
theorem dX11_paysFrom_67 : decode cX11_paysFrom 67 = .ok (.iconst 0, 1) := by decide +kernel
theorem dX11_paysFrom_68 : decode cX11_paysFrom 68 = .ok (.iaload, 1) := by decide +kernel
theorem dX11_paysFrom_69 : decode cX11_paysFrom 69 = .ok (.if_icmp .ge 9, 3) := by decide +kernel
theorem dX11_paysFrom_72 : decode cX11_paysFrom 72 = .ok (.iload 4, 2) := by decide +kernel
theorem dX11_paysFrom_74 : decode cX11_paysFrom 74 = .ok (.ineg, 1) := by decide +kernel
theorem dX11_paysFrom_75 : decode cX11_paysFrom 75 = .ok (.goto 4, 3) := by decide +kernel
theorem dX11_paysFrom_78 : decode cX11_paysFrom 78 = .ok (.iconst 0, 1) := by decide +kernel
theorem dX11_paysFrom_79 : decode cX11_paysFrom 79 = .ok (.istore 5, 2) := by decide +kernel
theorem dX11_paysFrom_81 : decode cX11_paysFrom 81 = .ok (.iload 5, 2) := by decide +kernel
theorem dX11_paysFrom_83 : decode cX11_paysFrom 83 = .ok (.aload_n 0, 1) := by decide +kernel
theorem dX11_paysFrom_84 : decode cX11_paysFrom 84 = .ok (.getfield 37, 3) := by decide +kernel
theorem dX11_paysFrom_87 : decode cX11_paysFrom 87 = .ok (.iload_n 1, 1) := by decide +kernel
theorem dX11_paysFrom_88 : decode cX11_paysFrom 88 = .ok (.iaload, 1) := by decide +kernel
theorem dX11_paysFrom_89 : decode cX11_paysFrom 89 = .ok (.if_icmp .gt 52, 3) := by decide +kernel
theorem dX11_paysFrom_92 : decode cX11_paysFrom 92 = .ok (.aload_n 0, 1) := by decide +kernel
theorem dX11_paysFrom_93 : decode cX11_paysFrom 93 = .ok (.getfield 40, 3) := by decide +kernel
theorem dX11_paysFrom_96 : decode cX11_paysFrom 96 = .ok (.iload_n 1, 1) := by decide +kernel
theorem dX11_paysFrom_97 : decode cX11_paysFrom 97 = .ok (.iload 5, 2) := by decide +kernel
theorem dX11_paysFrom_99 : decode cX11_paysFrom 99 = .ok (.iastore, 1) := by decide +kernel
theorem dX11_paysFrom_100 : decode cX11_paysFrom 100 = .ok (.aload_n 0, 1) := by decide +kernel
theorem dX11_paysFrom_101 : decode cX11_paysFrom 101 = .ok (.iload_n 1, 1) := by decide +kernel
theorem dX11_paysFrom_102 : decode cX11_paysFrom 102 = .ok (.iconst 1, 1) := by decide +kernel
theorem dX11_paysFrom_103 : decode cX11_paysFrom 103 = .ok (.iadd, 1) := by decide +kernel
theorem dX11_paysFrom_104 : decode cX11_paysFrom 104 = .ok (.iload_n 2, 1) := by decide +kernel
theorem dX11_paysFrom_105 : decode cX11_paysFrom 105 = .ok (.iload 5, 2) := by decide +kernel
theorem dX11_paysFrom_107 : decode cX11_paysFrom 107 = .ok (.aload_n 0, 1) := by decide +kernel
theorem dX11_paysFrom_108 : decode cX11_paysFrom 108 = .ok (.getfield 25, 3) := by decide +kernel
theorem dX11_paysFrom_111 : decode cX11_paysFrom 111 = .ok (.iload_n 1, 1) := by decide +kernel
theorem dX11_paysFrom_112 : decode cX11_paysFrom 112 = .ok (.iaload, 1) := by decide +kernel
theorem dX11_paysFrom_113 : decode cX11_paysFrom 113 = .ok (.imul, 1) := by decide +kernel
theorem dX11_paysFrom_114 : decode cX11_paysFrom 114 = .ok (.isub, 1) := by decide +kernel
theorem dX11_paysFrom_115 : decode cX11_paysFrom 115 = .ok (.iload_n 3, 1) := by decide +kernel
theorem dX11_paysFrom_116 : decode cX11_paysFrom 116 = .ok (.iload 5, 2) := by decide +kernel
theorem dX11_paysFrom_118 : decode cX11_paysFrom 118 = .ok (.ifCond .ge 9, 3) := by decide +kernel
theorem dX11_paysFrom_121 : decode cX11_paysFrom 121 = .ok (.iload 5, 2) := by decide +kernel
theorem dX11_paysFrom_123 : decode cX11_paysFrom 123 = .ok (.ineg, 1) := by decide +kernel
theorem dX11_paysFrom_124 : decode cX11_paysFrom 124 = .ok (.goto 5, 3) := by decide +kernel
theorem dX11_paysFrom_127 : decode cX11_paysFrom 127 = .ok (.iload 5, 2) := by decide +kernel
theorem dX11_paysFrom_129 : decode cX11_paysFrom 129 = .ok (.iadd, 1) := by decide +kernel
theorem dX11_paysFrom_130 : decode cX11_paysFrom 130 = .ok (.iload 4, 2) := by decide +kernel
theorem dX11_paysFrom_132 : decode cX11_paysFrom 132 = .ok (.invokevirtual 239, 3) := by decide +kernel
theorem dX11_paysFrom_135 : decode cX11_paysFrom 135 = .ok (.iinc 5 1, 3) := by decide +kernel
theorem dX11_paysFrom_138 : decode cX11_paysFrom 138 = .ok (.goto (-57), 3) := by decide +kernel
theorem dX11_paysFrom_141 : decode cX11_paysFrom 141 = .ok (.return_, 1) := by decide +kernel
theorem dX11_pays_0 : decode cX11_pays 0 = .ok (.aload_n 0, 1) := by decide +kernel
theorem dX11_pays_1 : decode cX11_pays 1 = .ok (.ldc 180, 2) := by decide +kernel
theorem dX11_pays_3 : decode cX11_pays 3 = .ok (.putfield 236, 3) := by decide +kernel
theorem dX11_pays_6 : decode cX11_pays 6 = .ok (.aload_n 0, 1) := by decide +kernel
theorem dX11_pays_7 : decode cX11_pays 7 = .ok (.iconst 0, 1) := by decide +kernel
theorem dX11_pays_8 : decode cX11_pays 8 = .ok (.putfield 233, 3) := by decide +kernel
theorem dX11_pays_11 : decode cX11_pays 11 = .ok (.aload_n 0, 1) := by decide +kernel
theorem dX11_pays_12 : decode cX11_pays 12 = .ok (.iconst 0, 1) := by decide +kernel
theorem dX11_pays_13 : decode cX11_pays 13 = .ok (.iload_n 1, 1) := by decide +kernel
theorem dX11_pays_14 : decode cX11_pays 14 = .ok (.iconst 0, 1) := by decide +kernel
theorem dX11_pays_15 : decode cX11_pays 15 = .ok (.iload_n 2, 1) := by decide +kernel
theorem dX11_pays_16 : decode cX11_pays 16 = .ok (.invokevirtual 239, 3) := by decide +kernel
theorem dX11_pays_19 : decode cX11_pays 19 = .ok (.return_, 1) := by decide +kernel
theorem dX11_paysNow_0 : decode cX11_paysNow 0 = .ok (.aload_n 0, 1) := by decide +kernel
theorem dX11_paysNow_1 : decode cX11_paysNow 1 = .ok (.invokevirtual 165, 3) := by decide +kernel
theorem dX11_paysNow_4 : decode cX11_paysNow 4 = .ok (.aload_n 0, 1) := by decide +kernel
theorem dX11_paysNow_5 : decode cX11_paysNow 5 = .ok (.invokevirtual 243, 3) := by decide +kernel
theorem dX11_paysNow_8 : decode cX11_paysNow 8 = .ok (.aload_n 0, 1) := by decide +kernel
theorem dX11_paysNow_9 : decode cX11_paysNow 9 = .ok (.iload_n 1, 1) := by decide +kernel
theorem dX11_paysNow_10 : decode cX11_paysNow 10 = .ok (.iload_n 2, 1) := by decide +kernel
theorem dX11_paysNow_11 : decode cX11_paysNow 11 = .ok (.invokevirtual 246, 3) := by decide +kernel
theorem dX11_paysNow_14 : decode cX11_paysNow 14 = .ok (.return_, 1) := by decide +kernel
theorem dX11_pay_0 : decode cX11_pay 0 = .ok (.iload_n 2, 1) := by decide +kernel
theorem dX11_pay_1 : decode cX11_pay 1 = .ok (.iconst (-1), 1) := by decide +kernel
theorem dX11_pay_2 : decode cX11_pay 2 = .ok (.iconst 3, 1) := by decide +kernel
theorem dX11_pay_3 : decode cX11_pay 3 = .ok (.invokestatic 65, 3) := by decide +kernel
theorem dX11_pay_6 : decode cX11_pay 6 = .ok (.ifCond .ne 5, 3) := by decide +kernel
theorem dX11_pay_9 : decode cX11_pay 9 = .ok (.iconst (-1), 1) := by decide +kernel
theorem dX11_pay_10 : decode cX11_pay 10 = .ok (.ireturn, 1) := by decide +kernel
theorem dX11_pay_11 : decode cX11_pay 11 = .ok (.iload_n 1, 1) := by decide +kernel
theorem dX11_pay_12 : decode cX11_pay 12 = .ok (.iconst 0, 1) := by decide +kernel
theorem dX11_pay_13 : decode cX11_pay 13 = .ok (.bipush 99, 2) := by decide +kernel
theorem dX11_pay_15 : decode cX11_pay 15 = .ok (.invokestatic 65, 3) := by decide +kernel
theorem dX11_pay_18 : decode cX11_pay 18 = .ok (.ifCond .ne 6, 3) := by decide +kernel
theorem dX11_pay_21 : decode cX11_pay 21 = .ok (.bipush (-2), 2) := by decide +kernel
theorem dX11_pay_23 : decode cX11_pay 23 = .ok (.ireturn, 1) := by decide +kernel
theorem dX11_pay_24 : decode cX11_pay 24 = .ok (.aload_n 0, 1) := by decide +kernel
theorem dX11_pay_25 : decode cX11_pay 25 = .ok (.iload_n 1, 1) := by decide +kernel
theorem dX11_pay_26 : decode cX11_pay 26 = .ok (.iconst 0, 1) := by decide +kernel
theorem dX11_pay_27 : decode cX11_pay 27 = .ok (.invokevirtual 249, 3) := by decide +kernel
theorem dX11_pay_30 : decode cX11_pay 30 = .ok (.aload_n 0, 1) := by decide +kernel
theorem dX11_pay_31 : decode cX11_pay 31 = .ok (.getfield 236, 3) := by decide +kernel
theorem dX11_pay_34 : decode cX11_pay 34 = .ok (.ldc 180, 2) := by decide +kernel
theorem dX11_pay_36 : decode cX11_pay 36 = .ok (.if_icmp .eq 13, 3) := by decide +kernel
theorem dX11_pay_39 : decode cX11_pay 39 = .ok (.iload_n 2, 1) := by decide +kernel
theorem dX11_pay_40 : decode cX11_pay 40 = .ok (.aload_n 0, 1) := by decide +kernel
theorem dX11_pay_41 : decode cX11_pay 41 = .ok (.getfield 9, 3) := by decide +kernel
theorem dX11_pay_44 : decode cX11_pay 44 = .ok (.iconst 0, 1) := by decide +kernel
theorem dX11_pay_45 : decode cX11_pay 45 = .ok (.iaload, 1) := by decide +kernel
theorem dX11_pay_46 : decode cX11_pay 46 = .ok (.if_icmp .lt 6, 3) := by decide +kernel
theorem dX11_pay_49 : decode cX11_pay 49 = .ok (.bipush (-5), 2) := by decide +kernel
theorem dX11_pay_51 : decode cX11_pay 51 = .ok (.ireturn, 1) := by decide +kernel
theorem dX11_pay_52 : decode cX11_pay 52 = .ok (.iload_n 2, 1) := by decide +kernel
theorem dX11_pay_53 : decode cX11_pay 53 = .ok (.iconst (-1), 1) := by decide +kernel
theorem dX11_pay_54 : decode cX11_pay 54 = .ok (.if_icmp .ne 10, 3) := by decide +kernel
theorem dX11_pay_57 : decode cX11_pay 57 = .ok (.aload_n 0, 1) := by decide +kernel
theorem dX11_pay_58 : decode cX11_pay 58 = .ok (.getfield 236, 3) := by decide +kernel
theorem dX11_pay_61 : decode cX11_pay 61 = .ok (.goto 9, 3) := by decide +kernel
theorem dX11_pay_64 : decode cX11_pay 64 = .ok (.aload_n 0, 1) := by decide +kernel
theorem dX11_pay_65 : decode cX11_pay 65 = .ok (.getfield 43, 3) := by decide +kernel
theorem dX11_pay_68 : decode cX11_pay 68 = .ok (.iload_n 2, 1) := by decide +kernel
theorem dX11_pay_69 : decode cX11_pay 69 = .ok (.iaload, 1) := by decide +kernel
theorem dX11_pay_70 : decode cX11_pay 70 = .ok (.ireturn, 1) := by decide +kernel
theorem dX11_ways_0 : decode cX11_ways 0 = .ok (.iload_n 1, 1) := by decide +kernel
theorem dX11_ways_1 : decode cX11_ways 1 = .ok (.iconst 0, 1) := by decide +kernel
theorem dX11_ways_2 : decode cX11_ways 2 = .ok (.bipush 99, 2) := by decide +kernel
theorem dX11_ways_4 : decode cX11_ways 4 = .ok (.invokestatic 65, 3) := by decide +kernel
theorem dX11_ways_7 : decode cX11_ways 7 = .ok (.ifCond .ne 6, 3) := by decide +kernel
theorem dX11_ways_10 : decode cX11_ways 10 = .ok (.bipush (-2), 2) := by decide +kernel
theorem dX11_ways_12 : decode cX11_ways 12 = .ok (.ireturn, 1) := by decide +kernel
theorem dX11_ways_13 : decode cX11_ways 13 = .ok (.aload_n 0, 1) := by decide +kernel
theorem dX11_ways_14 : decode cX11_ways 14 = .ok (.iload_n 1, 1) := by decide +kernel
theorem dX11_ways_15 : decode cX11_ways 15 = .ok (.iconst 0, 1) := by decide +kernel
theorem dX11_ways_16 : decode cX11_ways 16 = .ok (.invokevirtual 249, 3) := by decide +kernel
theorem dX11_ways_19 : decode cX11_ways 19 = .ok (.aload_n 0, 1) := by decide +kernel
theorem dX11_ways_20 : decode cX11_ways 20 = .ok (.getfield 233, 3) := by decide +kernel
theorem dX11_ways_23 : decode cX11_ways 23 = .ok (.ireturn, 1) := by decide +kernel
theorem dX11_change_0 : decode cX11_change 0 = .ok (.iload_n 1, 1) := by decide +kernel
theorem dX11_change_1 : decode cX11_change 1 = .ok (.iconst 0, 1) := by decide +kernel
theorem dX11_change_2 : decode cX11_change 2 = .ok (.bipush 99, 2) := by decide +kernel
theorem dX11_change_4 : decode cX11_change 4 = .ok (.invokestatic 65, 3) := by decide +kernel
theorem dX11_change_7 : decode cX11_change 7 = .ok (.ifCond .ne 6, 3) := by decide +kernel
theorem dX11_change_10 : decode cX11_change 10 = .ok (.bipush (-2), 2) := by decide +kernel
theorem dX11_change_12 : decode cX11_change 12 = .ok (.ireturn, 1) := by decide +kernel
theorem dX11_change_13 : decode cX11_change 13 = .ok (.aload_n 0, 1) := by decide +kernel
theorem dX11_change_14 : decode cX11_change 14 = .ok (.iload_n 1, 1) := by decide +kernel
theorem dX11_change_15 : decode cX11_change 15 = .ok (.iconst 3, 1) := by decide +kernel
theorem dX11_change_16 : decode cX11_change 16 = .ok (.invokevirtual 249, 3) := by decide +kernel
theorem dX11_change_19 : decode cX11_change 19 = .ok (.aload_n 0, 1) := by decide +kernel
theorem dX11_change_20 : decode cX11_change 20 = .ok (.getfield 236, 3) := by decide +kernel
theorem dX11_change_23 : decode cX11_change 23 = .ok (.ldc 180, 2) := by decide +kernel
theorem dX11_change_25 : decode cX11_change 25 = .ok (.if_icmp .ne 8, 3) := by decide +kernel
theorem dX11_change_28 : decode cX11_change 28 = .ok (.bipush (-5), 2) := by decide +kernel
theorem dX11_change_30 : decode cX11_change 30 = .ok (.goto 7, 3) := by decide +kernel
theorem dX11_change_33 : decode cX11_change 33 = .ok (.aload_n 0, 1) := by decide +kernel
theorem dX11_change_34 : decode cX11_change 34 = .ok (.getfield 236, 3) := by decide +kernel
theorem dX11_change_37 : decode cX11_change 37 = .ok (.ireturn, 1) := by decide +kernel
theorem dX11_looksForSums_0 : decode cX11_looksForSums 0 = .ok (.iconst 0, 1) := by decide +kernel
theorem dX11_looksForSums_1 : decode cX11_looksForSums 1 = .ok (.istore_n 1, 1) := by decide +kernel
theorem dX11_looksForSums_2 : decode cX11_looksForSums 2 = .ok (.iload_n 1, 1) := by decide +kernel
theorem dX11_looksForSums_3 : decode cX11_looksForSums 3 = .ok (.bipush 100, 2) := by decide +kernel
theorem dX11_looksForSums_5 : decode cX11_looksForSums 5 = .ok (.if_icmp .ge 24, 3) := by decide +kernel
theorem dX11_looksForSums_8 : decode cX11_looksForSums 8 = .ok (.aload_n 0, 1) := by decide +kernel
theorem dX11_looksForSums_9 : decode cX11_looksForSums 9 = .ok (.getfield 49, 3) := by decide +kernel
theorem dX11_looksForSums_12 : decode cX11_looksForSums 12 = .ok (.iload_n 1, 1) := by decide +kernel
theorem dX11_looksForSums_13 : decode cX11_looksForSums 13 = .ok (.iload_n 1, 1) := by decide +kernel
theorem dX11_looksForSums_14 : decode cX11_looksForSums 14 = .ok (.ifCond .ne 7, 3) := by decide +kernel
theorem dX11_looksForSums_17 : decode cX11_looksForSums 17 = .ok (.iconst 1, 1) := by decide +kernel
theorem dX11_looksForSums_18 : decode cX11_looksForSums 18 = .ok (.goto 4, 3) := by decide +kernel
theorem dX11_looksForSums_21 : decode cX11_looksForSums 21 = .ok (.iconst 0, 1) := by decide +kernel
theorem dX11_looksForSums_22 : decode cX11_looksForSums 22 = .ok (.bastore, 1) := by decide +kernel
theorem dX11_looksForSums_23 : decode cX11_looksForSums 23 = .ok (.iinc 1 1, 3) := by decide +kernel
theorem dX11_looksForSums_26 : decode cX11_looksForSums 26 = .ok (.goto (-24), 3) := by decide +kernel
theorem dX11_looksForSums_29 : decode cX11_looksForSums 29 = .ok (.iconst 0, 1) := by decide +kernel
theorem dX11_looksForSums_30 : decode cX11_looksForSums 30 = .ok (.istore_n 1, 1) := by decide +kernel
theorem dX11_looksForSums_31 : decode cX11_looksForSums 31 = .ok (.iload_n 1, 1) := by decide +kernel
theorem dX11_looksForSums_32 : decode cX11_looksForSums 32 = .ok (.iconst 4, 1) := by decide +kernel
theorem dX11_looksForSums_33 : decode cX11_looksForSums 33 = .ok (.if_icmp .ge 82, 3) := by decide +kernel
theorem dX11_looksForSums_36 : decode cX11_looksForSums 36 = .ok (.iconst 0, 1) := by decide +kernel
theorem dX11_looksForSums_37 : decode cX11_looksForSums 37 = .ok (.istore_n 2, 1) := by decide +kernel
theorem dX11_looksForSums_38 : decode cX11_looksForSums 38 = .ok (.iload_n 2, 1) := by decide +kernel
theorem dX11_looksForSums_39 : decode cX11_looksForSums 39 = .ok (.aload_n 0, 1) := by decide +kernel
theorem dX11_looksForSums_40 : decode cX11_looksForSums 40 = .ok (.getfield 37, 3) := by decide +kernel
theorem dX11_looksForSums_43 : decode cX11_looksForSums 43 = .ok (.iload_n 1, 1) := by decide +kernel
theorem dX11_looksForSums_44 : decode cX11_looksForSums 44 = .ok (.iaload, 1) := by decide +kernel
theorem dX11_looksForSums_45 : decode cX11_looksForSums 45 = .ok (.if_icmp .ge 64, 3) := by decide +kernel
theorem dX11_looksForSums_48 : decode cX11_looksForSums 48 = .ok (.bipush 99, 2) := by decide +kernel
theorem dX11_looksForSums_50 : decode cX11_looksForSums 50 = .ok (.istore_n 3, 1) := by decide +kernel
theorem dX11_looksForSums_51 : decode cX11_looksForSums 51 = .ok (.iload_n 3, 1) := by decide +kernel
theorem dX11_looksForSums_52 : decode cX11_looksForSums 52 = .ok (.aload_n 0, 1) := by decide +kernel
theorem dX11_looksForSums_53 : decode cX11_looksForSums 53 = .ok (.getfield 25, 3) := by decide +kernel
theorem dX11_looksForSums_56 : decode cX11_looksForSums 56 = .ok (.iload_n 1, 1) := by decide +kernel
theorem dX11_looksForSums_57 : decode cX11_looksForSums 57 = .ok (.iaload, 1) := by decide +kernel
theorem dX11_looksForSums_58 : decode cX11_looksForSums 58 = .ok (.if_icmp .lt 45, 3) := by decide +kernel
theorem dX11_looksForSums_61 : decode cX11_looksForSums 61 = .ok (.aload_n 0, 1) := by decide +kernel
theorem dX11_looksForSums_62 : decode cX11_looksForSums 62 = .ok (.getfield 49, 3) := by decide +kernel
theorem dX11_looksForSums_65 : decode cX11_looksForSums 65 = .ok (.iload_n 3, 1) := by decide +kernel
theorem dX11_looksForSums_66 : decode cX11_looksForSums 66 = .ok (.aload_n 0, 1) := by decide +kernel
theorem dX11_looksForSums_67 : decode cX11_looksForSums 67 = .ok (.getfield 49, 3) := by decide +kernel
theorem dX11_looksForSums_70 : decode cX11_looksForSums 70 = .ok (.iload_n 3, 1) := by decide +kernel
theorem dX11_looksForSums_71 : decode cX11_looksForSums 71 = .ok (.baload, 1) := by decide +kernel
theorem dX11_looksForSums_72 : decode cX11_looksForSums 72 = .ok (.ifCond .ne 19, 3) := by decide +kernel
theorem dX11_looksForSums_75 : decode cX11_looksForSums 75 = .ok (.aload_n 0, 1) := by decide +kernel
theorem dX11_looksForSums_76 : decode cX11_looksForSums 76 = .ok (.getfield 49, 3) := by decide +kernel
theorem dX11_looksForSums_79 : decode cX11_looksForSums 79 = .ok (.iload_n 3, 1) := by decide +kernel
theorem dX11_looksForSums_80 : decode cX11_looksForSums 80 = .ok (.aload_n 0, 1) := by decide +kernel
theorem dX11_looksForSums_81 : decode cX11_looksForSums 81 = .ok (.getfield 25, 3) := by decide +kernel
theorem dX11_looksForSums_84 : decode cX11_looksForSums 84 = .ok (.iload_n 1, 1) := by decide +kernel
theorem dX11_looksForSums_85 : decode cX11_looksForSums 85 = .ok (.iaload, 1) := by decide +kernel
theorem dX11_looksForSums_86 : decode cX11_looksForSums 86 = .ok (.isub, 1) := by decide +kernel
theorem dX11_looksForSums_87 : decode cX11_looksForSums 87 = .ok (.baload, 1) := by decide +kernel
theorem dX11_looksForSums_88 : decode cX11_looksForSums 88 = .ok (.ifCond .eq 7, 3) := by decide +kernel
theorem dX11_looksForSums_91 : decode cX11_looksForSums 91 = .ok (.iconst 1, 1) := by decide +kernel
theorem dX11_looksForSums_92 : decode cX11_looksForSums 92 = .ok (.goto 4, 3) := by decide +kernel
theorem dX11_looksForSums_95 : decode cX11_looksForSums 95 = .ok (.iconst 0, 1) := by decide +kernel
theorem dX11_looksForSums_96 : decode cX11_looksForSums 96 = .ok (.bastore, 1) := by decide +kernel
theorem dX11_looksForSums_97 : decode cX11_looksForSums 97 = .ok (.iinc 3 (-1), 3) := by decide +kernel
theorem dX11_looksForSums_100 : decode cX11_looksForSums 100 = .ok (.goto (-49), 3) := by decide +kernel
theorem dX11_looksForSums_103 : decode cX11_looksForSums 103 = .ok (.iinc 2 1, 3) := by decide +kernel
theorem dX11_looksForSums_106 : decode cX11_looksForSums 106 = .ok (.goto (-68), 3) := by decide +kernel
theorem dX11_looksForSums_109 : decode cX11_looksForSums 109 = .ok (.iinc 1 1, 3) := by decide +kernel
theorem dX11_looksForSums_112 : decode cX11_looksForSums 112 = .ok (.goto (-81), 3) := by decide +kernel
theorem dX11_looksForSums_115 : decode cX11_looksForSums 115 = .ok (.return_, 1) := by decide +kernel
theorem dX11_firstMissing_0 : decode cX11_firstMissing 0 = .ok (.iconst 1, 1) := by decide +kernel
theorem dX11_firstMissing_1 : decode cX11_firstMissing 1 = .ok (.istore_n 1, 1) := by decide +kernel
theorem dX11_firstMissing_2 : decode cX11_firstMissing 2 = .ok (.iload_n 1, 1) := by decide +kernel
theorem dX11_firstMissing_3 : decode cX11_firstMissing 3 = .ok (.bipush 100, 2) := by decide +kernel
theorem dX11_firstMissing_5 : decode cX11_firstMissing 5 = .ok (.if_icmp .ge 20, 3) := by decide +kernel
theorem dX11_firstMissing_8 : decode cX11_firstMissing 8 = .ok (.aload_n 0, 1) := by decide +kernel
theorem dX11_firstMissing_9 : decode cX11_firstMissing 9 = .ok (.getfield 49, 3) := by decide +kernel
theorem dX11_firstMissing_12 : decode cX11_firstMissing 12 = .ok (.iload_n 1, 1) := by decide +kernel
theorem dX11_firstMissing_13 : decode cX11_firstMissing 13 = .ok (.baload, 1) := by decide +kernel
theorem dX11_firstMissing_14 : decode cX11_firstMissing 14 = .ok (.ifCond .ne 5, 3) := by decide +kernel
theorem dX11_firstMissing_17 : decode cX11_firstMissing 17 = .ok (.iload_n 1, 1) := by decide +kernel
theorem dX11_firstMissing_18 : decode cX11_firstMissing 18 = .ok (.ireturn, 1) := by decide +kernel
theorem dX11_firstMissing_19 : decode cX11_firstMissing 19 = .ok (.iinc 1 1, 3) := by decide +kernel
theorem dX11_firstMissing_22 : decode cX11_firstMissing 22 = .ok (.goto (-20), 3) := by decide +kernel
theorem dX11_firstMissing_25 : decode cX11_firstMissing 25 = .ok (.bipush (-5), 2) := by decide +kernel
theorem dX11_firstMissing_27 : decode cX11_firstMissing 27 = .ok (.ireturn, 1) := by decide +kernel
theorem dX11_never_0 : decode cX11_never 0 = .ok (.aload_n 0, 1) := by decide +kernel
theorem dX11_never_1 : decode cX11_never 1 = .ok (.invokevirtual 165, 3) := by decide +kernel
theorem dX11_never_4 : decode cX11_never 4 = .ok (.aload_n 0, 1) := by decide +kernel
theorem dX11_never_5 : decode cX11_never 5 = .ok (.invokevirtual 243, 3) := by decide +kernel
theorem dX11_never_8 : decode cX11_never 8 = .ok (.aload_n 0, 1) := by decide +kernel
theorem dX11_never_9 : decode cX11_never 9 = .ok (.invokevirtual 252, 3) := by decide +kernel
theorem dX11_never_12 : decode cX11_never 12 = .ok (.aload_n 0, 1) := by decide +kernel
theorem dX11_never_13 : decode cX11_never 13 = .ok (.invokevirtual 255, 3) := by decide +kernel
theorem dX11_never_16 : decode cX11_never 16 = .ok (.ireturn, 1) := by decide +kernel
theorem dX11_spreads_0 : decode cX11_spreads 0 = .ok (.lload_n 0, 1) := by decide +kernel
theorem dX11_spreads_1 : decode cX11_spreads 1 = .ok (.lstore 4, 2) := by decide +kernel
theorem dX11_spreads_3 : decode cX11_spreads 3 = .ok (.iconst 0, 1) := by decide +kernel
theorem dX11_spreads_4 : decode cX11_spreads 4 = .ok (.istore 6, 2) := by decide +kernel
theorem dX11_spreads_6 : decode cX11_spreads 6 = .ok (.iload 6, 2) := by decide +kernel
theorem dX11_spreads_8 : decode cX11_spreads 8 = .ok (.iload_n 3, 1) := by decide +kernel
theorem dX11_spreads_9 : decode cX11_spreads 9 = .ok (.if_icmp .ge 28, 3) := by decide +kernel
theorem dX11_spreads_12 : decode cX11_spreads 12 = .ok (.iload_n 2, 1) := by decide +kernel
theorem dX11_spreads_13 : decode cX11_spreads 13 = .ok (.bipush 31, 2) := by decide +kernel
theorem dX11_spreads_15 : decode cX11_spreads 15 = .ok (.if_icmp .ge 22, 3) := by decide +kernel
theorem dX11_spreads_18 : decode cX11_spreads 18 = .ok (.lload 4, 2) := by decide +kernel
theorem dX11_spreads_20 : decode cX11_spreads 20 = .ok (.lload 4, 2) := by decide +kernel
theorem dX11_spreads_22 : decode cX11_spreads 22 = .ok (.iload_n 2, 1) := by decide +kernel
theorem dX11_spreads_23 : decode cX11_spreads 23 = .ok (.lshl, 1) := by decide +kernel
theorem dX11_spreads_24 : decode cX11_spreads 24 = .ok (.ldc2_w 258, 3) := by decide +kernel
theorem dX11_spreads_27 : decode cX11_spreads 27 = .ok (.land, 1) := by decide +kernel
theorem dX11_spreads_28 : decode cX11_spreads 28 = .ok (.lor, 1) := by decide +kernel
theorem dX11_spreads_29 : decode cX11_spreads 29 = .ok (.lstore 4, 2) := by decide +kernel
theorem dX11_spreads_31 : decode cX11_spreads 31 = .ok (.iinc 6 1, 3) := by decide +kernel
theorem dX11_spreads_34 : decode cX11_spreads 34 = .ok (.goto (-28), 3) := by decide +kernel
theorem dX11_spreads_37 : decode cX11_spreads 37 = .ok (.lload 4, 2) := by decide +kernel
theorem dX11_spreads_39 : decode cX11_spreads 39 = .ok (.lreturn, 1) := by decide +kernel
theorem dX11_carriesFrom_0 : decode cX11_carriesFrom 0 = .ok (.iload_n 1, 1) := by decide +kernel
theorem dX11_carriesFrom_1 : decode cX11_carriesFrom 1 = .ok (.iconst 4, 1) := by decide +kernel
theorem dX11_carriesFrom_2 : decode cX11_carriesFrom 2 = .ok (.if_icmp .ne 58, 3) := by decide +kernel
theorem dX11_carriesFrom_5 : decode cX11_carriesFrom 5 = .ok (.lload_n 2, 1) := by decide +kernel
theorem dX11_carriesFrom_6 : decode cX11_carriesFrom 6 = .ok (.lload 5, 2) := by decide +kernel
theorem dX11_carriesFrom_8 : decode cX11_carriesFrom 8 = .ok (.land, 1) := by decide +kernel
theorem dX11_carriesFrom_9 : decode cX11_carriesFrom 9 = .ok (.lload 5, 2) := by decide +kernel
theorem dX11_carriesFrom_11 : decode cX11_carriesFrom 11 = .ok (.lcmp, 1) := by decide +kernel
theorem dX11_carriesFrom_12 : decode cX11_carriesFrom 12 = .ok (.ifCond .ne 47, 3) := by decide +kernel
theorem dX11_carriesFrom_15 : decode cX11_carriesFrom 15 = .ok (.iload 4, 2) := by decide +kernel
theorem dX11_carriesFrom_17 : decode cX11_carriesFrom 17 = .ok (.aload_n 0, 1) := by decide +kernel
theorem dX11_carriesFrom_18 : decode cX11_carriesFrom 18 = .ok (.getfield 236, 3) := by decide +kernel
theorem dX11_carriesFrom_21 : decode cX11_carriesFrom 21 = .ok (.if_icmp .ge 38, 3) := by decide +kernel
theorem dX11_carriesFrom_24 : decode cX11_carriesFrom 24 = .ok (.aload_n 0, 1) := by decide +kernel
theorem dX11_carriesFrom_25 : decode cX11_carriesFrom 25 = .ok (.iload 4, 2) := by decide +kernel
theorem dX11_carriesFrom_27 : decode cX11_carriesFrom 27 = .ok (.putfield 236, 3) := by decide +kernel
theorem dX11_carriesFrom_30 : decode cX11_carriesFrom 30 = .ok (.iconst 0, 1) := by decide +kernel
theorem dX11_carriesFrom_31 : decode cX11_carriesFrom 31 = .ok (.istore 7, 2) := by decide +kernel
theorem dX11_carriesFrom_33 : decode cX11_carriesFrom 33 = .ok (.iload 7, 2) := by decide +kernel
theorem dX11_carriesFrom_35 : decode cX11_carriesFrom 35 = .ok (.iconst 4, 1) := by decide +kernel
theorem dX11_carriesFrom_36 : decode cX11_carriesFrom 36 = .ok (.if_icmp .ge 23, 3) := by decide +kernel
theorem dX11_carriesFrom_39 : decode cX11_carriesFrom 39 = .ok (.aload_n 0, 1) := by decide +kernel
theorem dX11_carriesFrom_40 : decode cX11_carriesFrom 40 = .ok (.getfield 43, 3) := by decide +kernel
theorem dX11_carriesFrom_43 : decode cX11_carriesFrom 43 = .ok (.iload 7, 2) := by decide +kernel
theorem dX11_carriesFrom_45 : decode cX11_carriesFrom 45 = .ok (.aload_n 0, 1) := by decide +kernel
theorem dX11_carriesFrom_46 : decode cX11_carriesFrom 46 = .ok (.getfield 40, 3) := by decide +kernel
theorem dX11_carriesFrom_49 : decode cX11_carriesFrom 49 = .ok (.iload 7, 2) := by decide +kernel
theorem dX11_carriesFrom_51 : decode cX11_carriesFrom 51 = .ok (.iaload, 1) := by decide +kernel
theorem dX11_carriesFrom_52 : decode cX11_carriesFrom 52 = .ok (.iastore, 1) := by decide +kernel
theorem dX11_carriesFrom_53 : decode cX11_carriesFrom 53 = .ok (.iinc 7 1, 3) := by decide +kernel
theorem dX11_carriesFrom_56 : decode cX11_carriesFrom 56 = .ok (.goto (-23), 3) := by decide +kernel
theorem dX11_carriesFrom_59 : decode cX11_carriesFrom 59 = .ok (.return_, 1) := by decide +kernel
theorem dX11_carriesFrom_60 : decode cX11_carriesFrom 60 = .ok (.iconst 0, 1) := by decide +kernel
theorem dX11_carriesFrom_61 : decode cX11_carriesFrom 61 = .ok (.istore 7, 2) := by decide +kernel
theorem dX11_carriesFrom_63 : decode cX11_carriesFrom 63 = .ok (.iload 7, 2) := by decide +kernel
theorem dX11_carriesFrom_65 : decode cX11_carriesFrom 65 = .ok (.iload_n 1, 1) := by decide +kernel
theorem dX11_carriesFrom_66 : decode cX11_carriesFrom 66 = .ok (.aload_n 0, 1) := by decide +kernel
theorem dX11_carriesFrom_67 : decode cX11_carriesFrom 67 = .ok (.getfield 9, 3) := by decide +kernel
theorem dX11_carriesFrom_70 : decode cX11_carriesFrom 70 = .ok (.iconst 0, 1) := by decide +kernel
theorem dX11_carriesFrom_71 : decode cX11_carriesFrom 71 = .ok (.iaload, 1) := by decide +kernel
theorem dX11_carriesFrom_72 : decode cX11_carriesFrom 72 = .ok (.if_icmp .ge 8, 3) := by decide +kernel
theorem dX11_carriesFrom_75 : decode cX11_carriesFrom 75 = .ok (.bipush 6, 2) := by decide +kernel
theorem dX11_carriesFrom_77 : decode cX11_carriesFrom 77 = .ok (.goto 4, 3) := by decide +kernel
theorem dX11_carriesFrom_80 : decode cX11_carriesFrom 80 = .ok (.iconst 0, 1) := by decide +kernel
theorem dX11_carriesFrom_81 : decode cX11_carriesFrom 81 = .ok (.if_icmp .gt 43, 3) := by decide +kernel
theorem dX11_carriesFrom_84 : decode cX11_carriesFrom 84 = .ok (.aload_n 0, 1) := by decide +kernel
theorem dX11_carriesFrom_85 : decode cX11_carriesFrom 85 = .ok (.getfield 40, 3) := by decide +kernel
theorem dX11_carriesFrom_88 : decode cX11_carriesFrom 88 = .ok (.iload_n 1, 1) := by decide +kernel
theorem dX11_carriesFrom_89 : decode cX11_carriesFrom 89 = .ok (.iload 7, 2) := by decide +kernel
theorem dX11_carriesFrom_91 : decode cX11_carriesFrom 91 = .ok (.iastore, 1) := by decide +kernel
theorem dX11_carriesFrom_92 : decode cX11_carriesFrom 92 = .ok (.aload_n 0, 1) := by decide +kernel
theorem dX11_carriesFrom_93 : decode cX11_carriesFrom 93 = .ok (.iload_n 1, 1) := by decide +kernel
theorem dX11_carriesFrom_94 : decode cX11_carriesFrom 94 = .ok (.iconst 1, 1) := by decide +kernel
theorem dX11_carriesFrom_95 : decode cX11_carriesFrom 95 = .ok (.iadd, 1) := by decide +kernel
theorem dX11_carriesFrom_96 : decode cX11_carriesFrom 96 = .ok (.lload_n 2, 1) := by decide +kernel
theorem dX11_carriesFrom_97 : decode cX11_carriesFrom 97 = .ok (.aload_n 0, 1) := by decide +kernel
theorem dX11_carriesFrom_98 : decode cX11_carriesFrom 98 = .ok (.getfield 25, 3) := by decide +kernel
theorem dX11_carriesFrom_101 : decode cX11_carriesFrom 101 = .ok (.iload_n 1, 1) := by decide +kernel
theorem dX11_carriesFrom_102 : decode cX11_carriesFrom 102 = .ok (.iaload, 1) := by decide +kernel
theorem dX11_carriesFrom_103 : decode cX11_carriesFrom 103 = .ok (.iload 7, 2) := by decide +kernel
theorem dX11_carriesFrom_105 : decode cX11_carriesFrom 105 = .ok (.invokestatic 260, 3) := by decide +kernel
theorem dX11_carriesFrom_108 : decode cX11_carriesFrom 108 = .ok (.iload 4, 2) := by decide +kernel
theorem dX11_carriesFrom_110 : decode cX11_carriesFrom 110 = .ok (.iload 7, 2) := by decide +kernel
theorem dX11_carriesFrom_112 : decode cX11_carriesFrom 112 = .ok (.iadd, 1) := by decide +kernel
theorem dX11_carriesFrom_113 : decode cX11_carriesFrom 113 = .ok (.lload 5, 2) := by decide +kernel
theorem dX11_carriesFrom_115 : decode cX11_carriesFrom 115 = .ok (.invokevirtual 264, 3) := by decide +kernel
theorem dX11_carriesFrom_118 : decode cX11_carriesFrom 118 = .ok (.iinc 7 1, 3) := by decide +kernel
theorem dX11_carriesFrom_121 : decode cX11_carriesFrom 121 = .ok (.goto (-58), 3) := by decide +kernel
theorem dX11_carriesFrom_124 : decode cX11_carriesFrom 124 = .ok (.return_, 1) := by decide +kernel
theorem dX11_carry_0 : decode cX11_carry 0 = .ok (.iload_n 2, 1) := by decide +kernel
theorem dX11_carry_1 : decode cX11_carry 1 = .ok (.iconst (-1), 1) := by decide +kernel
theorem dX11_carry_2 : decode cX11_carry 2 = .ok (.iconst 3, 1) := by decide +kernel
theorem dX11_carry_3 : decode cX11_carry 3 = .ok (.invokestatic 65, 3) := by decide +kernel
theorem dX11_carry_6 : decode cX11_carry 6 = .ok (.ifCond .ne 5, 3) := by decide +kernel
theorem dX11_carry_9 : decode cX11_carry 9 = .ok (.iconst (-1), 1) := by decide +kernel
theorem dX11_carry_10 : decode cX11_carry 10 = .ok (.ireturn, 1) := by decide +kernel
theorem dX11_carry_11 : decode cX11_carry 11 = .ok (.iload_n 1, 1) := by decide +kernel
theorem dX11_carry_12 : decode cX11_carry 12 = .ok (.iconst 1, 1) := by decide +kernel
theorem dX11_carry_13 : decode cX11_carry 13 = .ok (.bipush 30, 2) := by decide +kernel
theorem dX11_carry_15 : decode cX11_carry 15 = .ok (.invokestatic 65, 3) := by decide +kernel
theorem dX11_carry_18 : decode cX11_carry 18 = .ok (.ifCond .ne 6, 3) := by decide +kernel
theorem dX11_carry_21 : decode cX11_carry 21 = .ok (.bipush (-2), 2) := by decide +kernel
theorem dX11_carry_23 : decode cX11_carry 23 = .ok (.ireturn, 1) := by decide +kernel
theorem dX11_carry_24 : decode cX11_carry 24 = .ok (.aload_n 0, 1) := by decide +kernel
theorem dX11_carry_25 : decode cX11_carry 25 = .ok (.invokevirtual 165, 3) := by decide +kernel
theorem dX11_carry_28 : decode cX11_carry 28 = .ok (.aload_n 0, 1) := by decide +kernel
theorem dX11_carry_29 : decode cX11_carry 29 = .ok (.ldc 180, 2) := by decide +kernel
theorem dX11_carry_31 : decode cX11_carry 31 = .ok (.putfield 236, 3) := by decide +kernel
theorem dX11_carry_34 : decode cX11_carry 34 = .ok (.aload_n 0, 1) := by decide +kernel
theorem dX11_carry_35 : decode cX11_carry 35 = .ok (.iconst 0, 1) := by decide +kernel
theorem dX11_carry_36 : decode cX11_carry 36 = .ok (.lconst 1, 1) := by decide +kernel
theorem dX11_carry_37 : decode cX11_carry 37 = .ok (.iconst 0, 1) := by decide +kernel
theorem dX11_carry_38 : decode cX11_carry 38 = .ok (.lconst 1, 1) := by decide +kernel
theorem dX11_carry_39 : decode cX11_carry 39 = .ok (.iload_n 1, 1) := by decide +kernel
theorem dX11_carry_40 : decode cX11_carry 40 = .ok (.iconst 1, 1) := by decide +kernel
theorem dX11_carry_41 : decode cX11_carry 41 = .ok (.iadd, 1) := by decide +kernel
theorem dX11_carry_42 : decode cX11_carry 42 = .ok (.lshl, 1) := by decide +kernel
theorem dX11_carry_43 : decode cX11_carry 43 = .ok (.lconst 1, 1) := by decide +kernel
theorem dX11_carry_44 : decode cX11_carry 44 = .ok (.lsub, 1) := by decide +kernel
theorem dX11_carry_45 : decode cX11_carry 45 = .ok (.invokevirtual 264, 3) := by decide +kernel
theorem dX11_carry_48 : decode cX11_carry 48 = .ok (.aload_n 0, 1) := by decide +kernel
theorem dX11_carry_49 : decode cX11_carry 49 = .ok (.getfield 236, 3) := by decide +kernel
theorem dX11_carry_52 : decode cX11_carry 52 = .ok (.ldc 180, 2) := by decide +kernel
theorem dX11_carry_54 : decode cX11_carry 54 = .ok (.if_icmp .eq 13, 3) := by decide +kernel
theorem dX11_carry_57 : decode cX11_carry 57 = .ok (.iload_n 2, 1) := by decide +kernel
theorem dX11_carry_58 : decode cX11_carry 58 = .ok (.aload_n 0, 1) := by decide +kernel
theorem dX11_carry_59 : decode cX11_carry 59 = .ok (.getfield 9, 3) := by decide +kernel
theorem dX11_carry_62 : decode cX11_carry 62 = .ok (.iconst 0, 1) := by decide +kernel
theorem dX11_carry_63 : decode cX11_carry 63 = .ok (.iaload, 1) := by decide +kernel
theorem dX11_carry_64 : decode cX11_carry 64 = .ok (.if_icmp .lt 6, 3) := by decide +kernel
theorem dX11_carry_67 : decode cX11_carry 67 = .ok (.bipush (-5), 2) := by decide +kernel
theorem dX11_carry_69 : decode cX11_carry 69 = .ok (.ireturn, 1) := by decide +kernel
theorem dX11_carry_70 : decode cX11_carry 70 = .ok (.iload_n 2, 1) := by decide +kernel
theorem dX11_carry_71 : decode cX11_carry 71 = .ok (.iconst (-1), 1) := by decide +kernel
theorem dX11_carry_72 : decode cX11_carry 72 = .ok (.if_icmp .ne 10, 3) := by decide +kernel
theorem dX11_carry_75 : decode cX11_carry 75 = .ok (.aload_n 0, 1) := by decide +kernel
theorem dX11_carry_76 : decode cX11_carry 76 = .ok (.getfield 236, 3) := by decide +kernel
theorem dX11_carry_79 : decode cX11_carry 79 = .ok (.goto 9, 3) := by decide +kernel
theorem dX11_carry_82 : decode cX11_carry 82 = .ok (.aload_n 0, 1) := by decide +kernel
theorem dX11_carry_83 : decode cX11_carry 83 = .ok (.getfield 43, 3) := by decide +kernel
theorem dX11_carry_86 : decode cX11_carry 86 = .ok (.iload_n 2, 1) := by decide +kernel
theorem dX11_carry_87 : decode cX11_carry 87 = .ok (.iaload, 1) := by decide +kernel
theorem dX11_carry_88 : decode cX11_carry 88 = .ok (.ireturn, 1) := by decide +kernel
theorem dX11_rate_0 : decode cX11_rate 0 = .ok (.aload_n 0, 1) := by decide +kernel
theorem dX11_rate_1 : decode cX11_rate 1 = .ok (.iload_n 1, 1) := by decide +kernel
theorem dX11_rate_2 : decode cX11_rate 2 = .ok (.invokevirtual 161, 3) := by decide +kernel
theorem dX11_rate_5 : decode cX11_rate 5 = .ok (.ifCond .eq 20, 3) := by decide +kernel
theorem dX11_rate_8 : decode cX11_rate 8 = .ok (.aload_n 0, 1) := by decide +kernel
theorem dX11_rate_9 : decode cX11_rate 9 = .ok (.iload_n 2, 1) := by decide +kernel
theorem dX11_rate_10 : decode cX11_rate 10 = .ok (.invokevirtual 161, 3) := by decide +kernel
theorem dX11_rate_13 : decode cX11_rate 13 = .ok (.ifCond .eq 12, 3) := by decide +kernel
theorem dX11_rate_16 : decode cX11_rate 16 = .ok (.iload_n 3, 1) := by decide +kernel
theorem dX11_rate_17 : decode cX11_rate 17 = .ok (.iconst 0, 1) := by decide +kernel
theorem dX11_rate_18 : decode cX11_rate 18 = .ok (.iconst 1, 1) := by decide +kernel
theorem dX11_rate_19 : decode cX11_rate 19 = .ok (.invokestatic 65, 3) := by decide +kernel
theorem dX11_rate_22 : decode cX11_rate 22 = .ok (.ifCond .ne 7, 3) := by decide +kernel
theorem dX11_rate_25 : decode cX11_rate 25 = .ok (.ldc2_w 211, 3) := by decide +kernel
theorem dX11_rate_28 : decode cX11_rate 28 = .ok (.lreturn, 1) := by decide +kernel
theorem dX11_rate_29 : decode cX11_rate 29 = .ok (.aload_n 0, 1) := by decide +kernel
theorem dX11_rate_30 : decode cX11_rate 30 = .ok (.iload_n 1, 1) := by decide +kernel
theorem dX11_rate_31 : decode cX11_rate 31 = .ok (.aload_n 0, 1) := by decide +kernel
theorem dX11_rate_32 : decode cX11_rate 32 = .ok (.getfield 9, 3) := by decide +kernel
theorem dX11_rate_35 : decode cX11_rate 35 = .ok (.bipush 18, 2) := by decide +kernel
theorem dX11_rate_37 : decode cX11_rate 37 = .ok (.iload_n 1, 1) := by decide +kernel
theorem dX11_rate_38 : decode cX11_rate 38 = .ok (.iadd, 1) := by decide +kernel
theorem dX11_rate_39 : decode cX11_rate 39 = .ok (.iaload, 1) := by decide +kernel
theorem dX11_rate_40 : decode cX11_rate 40 = .ok (.invokevirtual 158, 3) := by decide +kernel
theorem dX11_rate_43 : decode cX11_rate 43 = .ok (.i2l, 1) := by decide +kernel
theorem dX11_rate_44 : decode cX11_rate 44 = .ok (.aload_n 0, 1) := by decide +kernel
theorem dX11_rate_45 : decode cX11_rate 45 = .ok (.iload_n 2, 1) := by decide +kernel
theorem dX11_rate_46 : decode cX11_rate 46 = .ok (.aload_n 0, 1) := by decide +kernel
theorem dX11_rate_47 : decode cX11_rate 47 = .ok (.getfield 9, 3) := by decide +kernel
theorem dX11_rate_50 : decode cX11_rate 50 = .ok (.bipush 18, 2) := by decide +kernel
theorem dX11_rate_52 : decode cX11_rate 52 = .ok (.iload_n 2, 1) := by decide +kernel
theorem dX11_rate_53 : decode cX11_rate 53 = .ok (.iadd, 1) := by decide +kernel
theorem dX11_rate_54 : decode cX11_rate 54 = .ok (.iaload, 1) := by decide +kernel
theorem dX11_rate_55 : decode cX11_rate 55 = .ok (.invokevirtual 158, 3) := by decide +kernel
theorem dX11_rate_58 : decode cX11_rate 58 = .ok (.i2l, 1) := by decide +kernel
theorem dX11_rate_59 : decode cX11_rate 59 = .ok (.iload_n 3, 1) := by decide +kernel
theorem dX11_rate_60 : decode cX11_rate 60 = .ok (.invokestatic 213, 3) := by decide +kernel
theorem dX11_rate_63 : decode cX11_rate 63 = .ok (.lreturn, 1) := by decide +kernel
theorem dX11_bagsFrom_0 : decode cX11_bagsFrom 0 = .ok (.iload_n 1, 1) := by decide +kernel
theorem dX11_bagsFrom_1 : decode cX11_bagsFrom 1 = .ok (.aload_n 0, 1) := by decide +kernel
theorem dX11_bagsFrom_2 : decode cX11_bagsFrom 2 = .ok (.getfield 9, 3) := by decide +kernel
theorem dX11_bagsFrom_5 : decode cX11_bagsFrom 5 = .ok (.iconst 1, 1) := by decide +kernel
theorem dX11_bagsFrom_6 : decode cX11_bagsFrom 6 = .ok (.iaload, 1) := by decide +kernel
theorem dX11_bagsFrom_7 : decode cX11_bagsFrom 7 = .ok (.if_icmp .ne 54, 3) := by decide +kernel
theorem dX11_bagsFrom_10 : decode cX11_bagsFrom 10 = .ok (.iload_n 2, 1) := by decide +kernel
theorem dX11_bagsFrom_11 : decode cX11_bagsFrom 11 = .ok (.ifCond .ne 49, 3) := by decide +kernel
theorem dX11_bagsFrom_14 : decode cX11_bagsFrom 14 = .ok (.iconst 0, 1) := by decide +kernel
theorem dX11_bagsFrom_15 : decode cX11_bagsFrom 15 = .ok (.istore 4, 2) := by decide +kernel
theorem dX11_bagsFrom_17 : decode cX11_bagsFrom 17 = .ok (.iload 4, 2) := by decide +kernel
theorem dX11_bagsFrom_19 : decode cX11_bagsFrom 19 = .ok (.iconst 5, 1) := by decide +kernel
theorem dX11_bagsFrom_20 : decode cX11_bagsFrom 20 = .ok (.if_icmp .ge 30, 3) := by decide +kernel
theorem dX11_bagsFrom_23 : decode cX11_bagsFrom 23 = .ok (.aload_n 0, 1) := by decide +kernel
theorem dX11_bagsFrom_24 : decode cX11_bagsFrom 24 = .ok (.getfield 233, 3) := by decide +kernel
theorem dX11_bagsFrom_27 : decode cX11_bagsFrom 27 = .ok (.ifCond .ne 23, 3) := by decide +kernel
theorem dX11_bagsFrom_30 : decode cX11_bagsFrom 30 = .ok (.aload_n 0, 1) := by decide +kernel
theorem dX11_bagsFrom_31 : decode cX11_bagsFrom 31 = .ok (.getfield 55, 3) := by decide +kernel
theorem dX11_bagsFrom_34 : decode cX11_bagsFrom 34 = .ok (.iload 4, 2) := by decide +kernel
theorem dX11_bagsFrom_36 : decode cX11_bagsFrom 36 = .ok (.aload_n 0, 1) := by decide +kernel
theorem dX11_bagsFrom_37 : decode cX11_bagsFrom 37 = .ok (.getfield 52, 3) := by decide +kernel
theorem dX11_bagsFrom_40 : decode cX11_bagsFrom 40 = .ok (.iload 4, 2) := by decide +kernel
theorem dX11_bagsFrom_42 : decode cX11_bagsFrom 42 = .ok (.iaload, 1) := by decide +kernel
theorem dX11_bagsFrom_43 : decode cX11_bagsFrom 43 = .ok (.iastore, 1) := by decide +kernel
theorem dX11_bagsFrom_44 : decode cX11_bagsFrom 44 = .ok (.iinc 4 1, 3) := by decide +kernel
theorem dX11_bagsFrom_47 : decode cX11_bagsFrom 47 = .ok (.goto (-30), 3) := by decide +kernel
theorem dX11_bagsFrom_50 : decode cX11_bagsFrom 50 = .ok (.aload_n 0, 1) := by decide +kernel
theorem dX11_bagsFrom_51 : decode cX11_bagsFrom 51 = .ok (.dup, 1) := by decide +kernel
theorem dX11_bagsFrom_52 : decode cX11_bagsFrom 52 = .ok (.getfield 233, 3) := by decide +kernel
theorem dX11_bagsFrom_55 : decode cX11_bagsFrom 55 = .ok (.iconst 1, 1) := by decide +kernel
theorem dX11_bagsFrom_56 : decode cX11_bagsFrom 56 = .ok (.iadd, 1) := by decide +kernel
theorem dX11_bagsFrom_57 : decode cX11_bagsFrom 57 = .ok (.putfield 233, 3) := by decide +kernel
theorem dX11_bagsFrom_60 : decode cX11_bagsFrom 60 = .ok (.return_, 1) := by decide +kernel
theorem dX11_bagsFrom_61 : decode cX11_bagsFrom 61 = .ok (.iload_n 3, 1) := by decide +kernel
theorem dX11_bagsFrom_62 : decode cX11_bagsFrom 62 = .ok (.istore 4, 2) := by decide +kernel
theorem dX11_bagsFrom_64 : decode cX11_bagsFrom 64 = .ok (.iload 4, 2) := by decide +kernel
theorem dX11_bagsFrom_66 : decode cX11_bagsFrom 66 = .ok (.ifCond .lt 58, 3) := by decide +kernel
theorem dX11_bagsFrom_69 : decode cX11_bagsFrom 69 = .ok (.aload_n 0, 1) := by decide +kernel
theorem dX11_bagsFrom_70 : decode cX11_bagsFrom 70 = .ok (.getfield 52, 3) := by decide +kernel
theorem dX11_bagsFrom_73 : decode cX11_bagsFrom 73 = .ok (.iload_n 1, 1) := by decide +kernel
theorem dX11_bagsFrom_74 : decode cX11_bagsFrom 74 = .ok (.iload 4, 2) := by decide +kernel
theorem dX11_bagsFrom_76 : decode cX11_bagsFrom 76 = .ok (.iastore, 1) := by decide +kernel
theorem dX11_bagsFrom_77 : decode cX11_bagsFrom 77 = .ok (.iload 4, 2) := by decide +kernel
theorem dX11_bagsFrom_79 : decode cX11_bagsFrom 79 = .ok (.aload_n 0, 1) := by decide +kernel
theorem dX11_bagsFrom_80 : decode cX11_bagsFrom 80 = .ok (.getfield 9, 3) := by decide +kernel
theorem dX11_bagsFrom_83 : decode cX11_bagsFrom 83 = .ok (.bipush 42, 2) := by decide +kernel
theorem dX11_bagsFrom_85 : decode cX11_bagsFrom 85 = .ok (.iload_n 1, 1) := by decide +kernel
theorem dX11_bagsFrom_86 : decode cX11_bagsFrom 86 = .ok (.iadd, 1) := by decide +kernel
theorem dX11_bagsFrom_87 : decode cX11_bagsFrom 87 = .ok (.iaload, 1) := by decide +kernel
theorem dX11_bagsFrom_88 : decode cX11_bagsFrom 88 = .ok (.imul, 1) := by decide +kernel
theorem dX11_bagsFrom_89 : decode cX11_bagsFrom 89 = .ok (.iload_n 2, 1) := by decide +kernel
theorem dX11_bagsFrom_90 : decode cX11_bagsFrom 90 = .ok (.if_icmp .gt 28, 3) := by decide +kernel
theorem dX11_bagsFrom_93 : decode cX11_bagsFrom 93 = .ok (.aload_n 0, 1) := by decide +kernel
theorem dX11_bagsFrom_94 : decode cX11_bagsFrom 94 = .ok (.iload_n 1, 1) := by decide +kernel
theorem dX11_bagsFrom_95 : decode cX11_bagsFrom 95 = .ok (.iconst 1, 1) := by decide +kernel
theorem dX11_bagsFrom_96 : decode cX11_bagsFrom 96 = .ok (.iadd, 1) := by decide +kernel
theorem dX11_bagsFrom_97 : decode cX11_bagsFrom 97 = .ok (.iload_n 2, 1) := by decide +kernel
theorem dX11_bagsFrom_98 : decode cX11_bagsFrom 98 = .ok (.iload 4, 2) := by decide +kernel
theorem dX11_bagsFrom_100 : decode cX11_bagsFrom 100 = .ok (.aload_n 0, 1) := by decide +kernel
theorem dX11_bagsFrom_101 : decode cX11_bagsFrom 101 = .ok (.getfield 9, 3) := by decide +kernel
theorem dX11_bagsFrom_104 : decode cX11_bagsFrom 104 = .ok (.bipush 42, 2) := by decide +kernel
theorem dX11_bagsFrom_106 : decode cX11_bagsFrom 106 = .ok (.iload_n 1, 1) := by decide +kernel
theorem dX11_bagsFrom_107 : decode cX11_bagsFrom 107 = .ok (.iadd, 1) := by decide +kernel
theorem dX11_bagsFrom_108 : decode cX11_bagsFrom 108 = .ok (.iaload, 1) := by decide +kernel
theorem dX11_bagsFrom_109 : decode cX11_bagsFrom 109 = .ok (.imul, 1) := by decide +kernel
theorem dX11_bagsFrom_110 : decode cX11_bagsFrom 110 = .ok (.isub, 1) := by decide +kernel
theorem dX11_bagsFrom_111 : decode cX11_bagsFrom 111 = .ok (.iload_n 3, 1) := by decide +kernel
theorem dX11_bagsFrom_112 : decode cX11_bagsFrom 112 = .ok (.iload 4, 2) := by decide +kernel
theorem dX11_bagsFrom_114 : decode cX11_bagsFrom 114 = .ok (.isub, 1) := by decide +kernel
theorem dX11_bagsFrom_115 : decode cX11_bagsFrom 115 = .ok (.invokevirtual 268, 3) := by decide +kernel
theorem dX11_bagsFrom_118 : decode cX11_bagsFrom 118 = .ok (.iinc 4 (-1), 3) := by decide +kernel
theorem dX11_bagsFrom_121 : decode cX11_bagsFrom 121 = .ok (.goto (-57), 3) := by decide +kernel
theorem dX11_bagsFrom_124 : decode cX11_bagsFrom 124 = .ok (.return_, 1) := by decide +kernel
theorem dX11_bought_0 : decode cX11_bought 0 = .ok (.iload_n 2, 1) := by decide +kernel
theorem dX11_bought_1 : decode cX11_bought 1 = .ok (.iconst (-1), 1) := by decide +kernel
theorem dX11_bought_2 : decode cX11_bought 2 = .ok (.iconst 4, 1) := by decide +kernel
theorem dX11_bought_3 : decode cX11_bought 3 = .ok (.invokestatic 65, 3) := by decide +kernel
theorem dX11_bought_6 : decode cX11_bought 6 = .ok (.ifCond .ne 5, 3) := by decide +kernel
theorem dX11_bought_9 : decode cX11_bought 9 = .ok (.iconst (-1), 1) := by decide +kernel
theorem dX11_bought_10 : decode cX11_bought 10 = .ok (.ireturn, 1) := by decide +kernel
theorem dX11_bought_11 : decode cX11_bought 11 = .ok (.iload_n 1, 1) := by decide +kernel
theorem dX11_bought_12 : decode cX11_bought 12 = .ok (.iconst 0, 1) := by decide +kernel
theorem dX11_bought_13 : decode cX11_bought 13 = .ok (.bipush 99, 2) := by decide +kernel
theorem dX11_bought_15 : decode cX11_bought 15 = .ok (.invokestatic 65, 3) := by decide +kernel
theorem dX11_bought_18 : decode cX11_bought 18 = .ok (.ifCond .ne 6, 3) := by decide +kernel
theorem dX11_bought_21 : decode cX11_bought 21 = .ok (.bipush (-2), 2) := by decide +kernel
theorem dX11_bought_23 : decode cX11_bought 23 = .ok (.ireturn, 1) := by decide +kernel
theorem dX11_bought_24 : decode cX11_bought 24 = .ok (.aload_n 0, 1) := by decide +kernel
theorem dX11_bought_25 : decode cX11_bought 25 = .ok (.iconst 0, 1) := by decide +kernel
theorem dX11_bought_26 : decode cX11_bought 26 = .ok (.putfield 233, 3) := by decide +kernel
theorem dX11_bought_29 : decode cX11_bought 29 = .ok (.aload_n 0, 1) := by decide +kernel
theorem dX11_bought_30 : decode cX11_bought 30 = .ok (.iconst 0, 1) := by decide +kernel
theorem dX11_bought_31 : decode cX11_bought 31 = .ok (.iload_n 1, 1) := by decide +kernel
theorem dX11_bought_32 : decode cX11_bought 32 = .ok (.iconst 4, 1) := by decide +kernel
theorem dX11_bought_33 : decode cX11_bought 33 = .ok (.invokevirtual 268, 3) := by decide +kernel
theorem dX11_bought_36 : decode cX11_bought 36 = .ok (.iload_n 2, 1) := by decide +kernel
theorem dX11_bought_37 : decode cX11_bought 37 = .ok (.iconst (-1), 1) := by decide +kernel
theorem dX11_bought_38 : decode cX11_bought 38 = .ok (.if_icmp .ne 8, 3) := by decide +kernel
theorem dX11_bought_41 : decode cX11_bought 41 = .ok (.aload_n 0, 1) := by decide +kernel
theorem dX11_bought_42 : decode cX11_bought 42 = .ok (.getfield 233, 3) := by decide +kernel
theorem dX11_bought_45 : decode cX11_bought 45 = .ok (.ireturn, 1) := by decide +kernel
theorem dX11_bought_46 : decode cX11_bought 46 = .ok (.aload_n 0, 1) := by decide +kernel
theorem dX11_bought_47 : decode cX11_bought 47 = .ok (.getfield 233, 3) := by decide +kernel
theorem dX11_bought_50 : decode cX11_bought 50 = .ok (.ifCond .eq 13, 3) := by decide +kernel
theorem dX11_bought_53 : decode cX11_bought 53 = .ok (.iload_n 2, 1) := by decide +kernel
theorem dX11_bought_54 : decode cX11_bought 54 = .ok (.aload_n 0, 1) := by decide +kernel
theorem dX11_bought_55 : decode cX11_bought 55 = .ok (.getfield 9, 3) := by decide +kernel
theorem dX11_bought_58 : decode cX11_bought 58 = .ok (.iconst 1, 1) := by decide +kernel
theorem dX11_bought_59 : decode cX11_bought 59 = .ok (.iaload, 1) := by decide +kernel
theorem dX11_bought_60 : decode cX11_bought 60 = .ok (.if_icmp .lt 8, 3) := by decide +kernel
theorem dX11_bought_63 : decode cX11_bought 63 = .ok (.bipush (-5), 2) := by decide +kernel
theorem dX11_bought_65 : decode cX11_bought 65 = .ok (.goto 9, 3) := by decide +kernel
theorem dX11_bought_68 : decode cX11_bought 68 = .ok (.aload_n 0, 1) := by decide +kernel
theorem dX11_bought_69 : decode cX11_bought 69 = .ok (.getfield 55, 3) := by decide +kernel
theorem dX11_bought_72 : decode cX11_bought 72 = .ok (.iload_n 2, 1) := by decide +kernel
theorem dX11_bought_73 : decode cX11_bought 73 = .ok (.iaload, 1) := by decide +kernel
theorem dX11_bought_74 : decode cX11_bought 74 = .ok (.ireturn, 1) := by decide +kernel
theorem dX11_slate_0 : decode cX11_slate 0 = .ok (.iload_n 1, 1) := by decide +kernel
theorem dX11_slate_1 : decode cX11_slate 1 = .ok (.iconst (-1), 1) := by decide +kernel
theorem dX11_slate_2 : decode cX11_slate 2 = .ok (.if_icmp .ne 12, 3) := by decide +kernel
theorem dX11_slate_5 : decode cX11_slate 5 = .ok (.aload_n 0, 1) := by decide +kernel
theorem dX11_slate_6 : decode cX11_slate 6 = .ok (.getfield 9, 3) := by decide +kernel
theorem dX11_slate_9 : decode cX11_slate 9 = .ok (.iconst 4, 1) := by decide +kernel
theorem dX11_slate_10 : decode cX11_slate 10 = .ok (.iconst 0, 1) := by decide +kernel
theorem dX11_slate_11 : decode cX11_slate 11 = .ok (.iastore, 1) := by decide +kernel
theorem dX11_slate_12 : decode cX11_slate 12 = .ok (.iconst 0, 1) := by decide +kernel
theorem dX11_slate_13 : decode cX11_slate 13 = .ok (.ireturn, 1) := by decide +kernel
theorem dX11_slate_14 : decode cX11_slate 14 = .ok (.iload_n 1, 1) := by decide +kernel
theorem dX11_slate_15 : decode cX11_slate 15 = .ok (.iconst 0, 1) := by decide +kernel
theorem dX11_slate_16 : decode cX11_slate 16 = .ok (.bipush 19, 2) := by decide +kernel
theorem dX11_slate_18 : decode cX11_slate 18 = .ok (.invokestatic 65, 3) := by decide +kernel
theorem dX11_slate_21 : decode cX11_slate 21 = .ok (.ifCond .eq 24, 3) := by decide +kernel
theorem dX11_slate_24 : decode cX11_slate 24 = .ok (.iload_n 2, 1) := by decide +kernel
theorem dX11_slate_25 : decode cX11_slate 25 = .ok (.iconst 0, 1) := by decide +kernel
theorem dX11_slate_26 : decode cX11_slate 26 = .ok (.bipush 19, 2) := by decide +kernel
theorem dX11_slate_28 : decode cX11_slate 28 = .ok (.invokestatic 65, 3) := by decide +kernel
theorem dX11_slate_31 : decode cX11_slate 31 = .ok (.ifCond .eq 14, 3) := by decide +kernel
theorem dX11_slate_34 : decode cX11_slate 34 = .ok (.iload_n 3, 1) := by decide +kernel
theorem dX11_slate_35 : decode cX11_slate 35 = .ok (.iconst 0, 1) := by decide +kernel
theorem dX11_slate_36 : decode cX11_slate 36 = .ok (.sipush 399, 3) := by decide +kernel
theorem dX11_slate_39 : decode cX11_slate 39 = .ok (.invokestatic 65, 3) := by decide +kernel
theorem dX11_slate_42 : decode cX11_slate 42 = .ok (.ifCond .ne 6, 3) := by decide +kernel
theorem dX11_slate_45 : decode cX11_slate 45 = .ok (.bipush (-2), 2) := by decide +kernel
theorem dX11_slate_47 : decode cX11_slate 47 = .ok (.ireturn, 1) := by decide +kernel
theorem dX11_slate_48 : decode cX11_slate 48 = .ok (.aload_n 0, 1) := by decide +kernel
theorem dX11_slate_49 : decode cX11_slate 49 = .ok (.getfield 9, 3) := by decide +kernel
theorem dX11_slate_52 : decode cX11_slate 52 = .ok (.iconst 4, 1) := by decide +kernel
theorem dX11_slate_53 : decode cX11_slate 53 = .ok (.iaload, 1) := by decide +kernel
theorem dX11_slate_54 : decode cX11_slate 54 = .ok (.bipush 6, 2) := by decide +kernel
theorem dX11_slate_56 : decode cX11_slate 56 = .ok (.if_icmp .ne 6, 3) := by decide +kernel
theorem dX11_slate_59 : decode cX11_slate 59 = .ok (.bipush (-4), 2) := by decide +kernel
theorem dX11_slate_61 : decode cX11_slate 61 = .ok (.ireturn, 1) := by decide +kernel
theorem dX11_slate_62 : decode cX11_slate 62 = .ok (.aload_n 0, 1) := by decide +kernel
theorem dX11_slate_63 : decode cX11_slate 63 = .ok (.getfield 9, 3) := by decide +kernel
theorem dX11_slate_66 : decode cX11_slate 66 = .ok (.bipush 77, 2) := by decide +kernel
theorem dX11_slate_68 : decode cX11_slate 68 = .ok (.aload_n 0, 1) := by decide +kernel
theorem dX11_slate_69 : decode cX11_slate 69 = .ok (.getfield 9, 3) := by decide +kernel
theorem dX11_slate_72 : decode cX11_slate 72 = .ok (.iconst 4, 1) := by decide +kernel
theorem dX11_slate_73 : decode cX11_slate 73 = .ok (.iaload, 1) := by decide +kernel
theorem dX11_slate_74 : decode cX11_slate 74 = .ok (.iadd, 1) := by decide +kernel
theorem dX11_slate_75 : decode cX11_slate 75 = .ok (.iload_n 1, 1) := by decide +kernel
theorem dX11_slate_76 : decode cX11_slate 76 = .ok (.iastore, 1) := by decide +kernel
theorem dX11_slate_77 : decode cX11_slate 77 = .ok (.aload_n 0, 1) := by decide +kernel
theorem dX11_slate_78 : decode cX11_slate 78 = .ok (.getfield 9, 3) := by decide +kernel
theorem dX11_slate_81 : decode cX11_slate 81 = .ok (.bipush 83, 2) := by decide +kernel
theorem dX11_slate_83 : decode cX11_slate 83 = .ok (.aload_n 0, 1) := by decide +kernel
theorem dX11_slate_84 : decode cX11_slate 84 = .ok (.getfield 9, 3) := by decide +kernel
theorem dX11_slate_87 : decode cX11_slate 87 = .ok (.iconst 4, 1) := by decide +kernel
theorem dX11_slate_88 : decode cX11_slate 88 = .ok (.iaload, 1) := by decide +kernel
theorem dX11_slate_89 : decode cX11_slate 89 = .ok (.iadd, 1) := by decide +kernel
theorem dX11_slate_90 : decode cX11_slate 90 = .ok (.iload_n 2, 1) := by decide +kernel
theorem dX11_slate_91 : decode cX11_slate 91 = .ok (.iastore, 1) := by decide +kernel
theorem dX11_slate_92 : decode cX11_slate 92 = .ok (.aload_n 0, 1) := by decide +kernel
theorem dX11_slate_93 : decode cX11_slate 93 = .ok (.getfield 9, 3) := by decide +kernel
theorem dX11_slate_96 : decode cX11_slate 96 = .ok (.bipush 89, 2) := by decide +kernel
theorem dX11_slate_98 : decode cX11_slate 98 = .ok (.aload_n 0, 1) := by decide +kernel
theorem dX11_slate_99 : decode cX11_slate 99 = .ok (.getfield 9, 3) := by decide +kernel
theorem dX11_slate_102 : decode cX11_slate 102 = .ok (.iconst 4, 1) := by decide +kernel
theorem dX11_slate_103 : decode cX11_slate 103 = .ok (.iaload, 1) := by decide +kernel
theorem dX11_slate_104 : decode cX11_slate 104 = .ok (.iadd, 1) := by decide +kernel
theorem dX11_slate_105 : decode cX11_slate 105 = .ok (.iload_n 3, 1) := by decide +kernel
theorem dX11_slate_106 : decode cX11_slate 106 = .ok (.iastore, 1) := by decide +kernel
theorem dX11_slate_107 : decode cX11_slate 107 = .ok (.aload_n 0, 1) := by decide +kernel
theorem dX11_slate_108 : decode cX11_slate 108 = .ok (.getfield 9, 3) := by decide +kernel
theorem dX11_slate_111 : decode cX11_slate 111 = .ok (.iconst 4, 1) := by decide +kernel
theorem dX11_slate_112 : decode cX11_slate 112 = .ok (.dup2, 1) := by decide +kernel
theorem dX11_slate_113 : decode cX11_slate 113 = .ok (.iaload, 1) := by decide +kernel
theorem dX11_slate_114 : decode cX11_slate 114 = .ok (.iconst 1, 1) := by decide +kernel
theorem dX11_slate_115 : decode cX11_slate 115 = .ok (.iadd, 1) := by decide +kernel
theorem dX11_slate_116 : decode cX11_slate 116 = .ok (.iastore, 1) := by decide +kernel
theorem dX11_slate_117 : decode cX11_slate 117 = .ok (.aload_n 0, 1) := by decide +kernel
theorem dX11_slate_118 : decode cX11_slate 118 = .ok (.getfield 9, 3) := by decide +kernel
theorem dX11_slate_121 : decode cX11_slate 121 = .ok (.iconst 4, 1) := by decide +kernel
theorem dX11_slate_122 : decode cX11_slate 122 = .ok (.iaload, 1) := by decide +kernel
theorem dX11_slate_123 : decode cX11_slate 123 = .ok (.ireturn, 1) := by decide +kernel
theorem dX11_areRight_0 : decode cX11_areRight 0 = .ok (.iconst 1, 1) := by decide +kernel
theorem dX11_areRight_1 : decode cX11_areRight 1 = .ok (.istore_n 2, 1) := by decide +kernel
theorem dX11_areRight_2 : decode cX11_areRight 2 = .ok (.iconst 0, 1) := by decide +kernel
theorem dX11_areRight_3 : decode cX11_areRight 3 = .ok (.istore_n 3, 1) := by decide +kernel
theorem dX11_areRight_4 : decode cX11_areRight 4 = .ok (.iload_n 3, 1) := by decide +kernel
theorem dX11_areRight_5 : decode cX11_areRight 5 = .ok (.aload_n 0, 1) := by decide +kernel
theorem dX11_areRight_6 : decode cX11_areRight 6 = .ok (.getfield 9, 3) := by decide +kernel
theorem dX11_areRight_9 : decode cX11_areRight 9 = .ok (.iconst 4, 1) := by decide +kernel
theorem dX11_areRight_10 : decode cX11_areRight 10 = .ok (.iaload, 1) := by decide +kernel
theorem dX11_areRight_11 : decode cX11_areRight 11 = .ok (.if_icmp .ge 72, 3) := by decide +kernel
theorem dX11_areRight_14 : decode cX11_areRight 14 = .ok (.aload_n 0, 1) := by decide +kernel
theorem dX11_areRight_15 : decode cX11_areRight 15 = .ok (.getfield 9, 3) := by decide +kernel
theorem dX11_areRight_18 : decode cX11_areRight 18 = .ok (.bipush 77, 2) := by decide +kernel
theorem dX11_areRight_20 : decode cX11_areRight 20 = .ok (.iload_n 3, 1) := by decide +kernel
theorem dX11_areRight_21 : decode cX11_areRight 21 = .ok (.iadd, 1) := by decide +kernel
theorem dX11_areRight_22 : decode cX11_areRight 22 = .ok (.iaload, 1) := by decide +kernel
theorem dX11_areRight_23 : decode cX11_areRight 23 = .ok (.istore 4, 2) := by decide +kernel
theorem dX11_areRight_25 : decode cX11_areRight 25 = .ok (.aload_n 0, 1) := by decide +kernel
theorem dX11_areRight_26 : decode cX11_areRight 26 = .ok (.getfield 9, 3) := by decide +kernel
theorem dX11_areRight_29 : decode cX11_areRight 29 = .ok (.bipush 83, 2) := by decide +kernel
theorem dX11_areRight_31 : decode cX11_areRight 31 = .ok (.iload_n 3, 1) := by decide +kernel
theorem dX11_areRight_32 : decode cX11_areRight 32 = .ok (.iadd, 1) := by decide +kernel
theorem dX11_areRight_33 : decode cX11_areRight 33 = .ok (.iaload, 1) := by decide +kernel
theorem dX11_areRight_34 : decode cX11_areRight 34 = .ok (.istore 5, 2) := by decide +kernel
theorem dX11_areRight_36 : decode cX11_areRight 36 = .ok (.iload_n 2, 1) := by decide +kernel
theorem dX11_areRight_37 : decode cX11_areRight 37 = .ok (.ifCond .eq 38, 3) := by decide +kernel
theorem dX11_areRight_40 : decode cX11_areRight 40 = .ok (.iload 4, 2) := by decide +kernel
theorem dX11_areRight_42 : decode cX11_areRight 42 = .ok (.iload_n 1, 1) := by decide +kernel
theorem dX11_areRight_43 : decode cX11_areRight 43 = .ok (.if_icmp .ge 32, 3) := by decide +kernel
theorem dX11_areRight_46 : decode cX11_areRight 46 = .ok (.iload 5, 2) := by decide +kernel
theorem dX11_areRight_48 : decode cX11_areRight 48 = .ok (.iload_n 1, 1) := by decide +kernel
theorem dX11_areRight_49 : decode cX11_areRight 49 = .ok (.if_icmp .ge 26, 3) := by decide +kernel
theorem dX11_areRight_52 : decode cX11_areRight 52 = .ok (.aload_n 0, 1) := by decide +kernel
theorem dX11_areRight_53 : decode cX11_areRight 53 = .ok (.getfield 9, 3) := by decide +kernel
theorem dX11_areRight_56 : decode cX11_areRight 56 = .ok (.bipush 89, 2) := by decide +kernel
theorem dX11_areRight_58 : decode cX11_areRight 58 = .ok (.iload_n 3, 1) := by decide +kernel
theorem dX11_areRight_59 : decode cX11_areRight 59 = .ok (.iadd, 1) := by decide +kernel
theorem dX11_areRight_60 : decode cX11_areRight 60 = .ok (.iaload, 1) := by decide +kernel
theorem dX11_areRight_61 : decode cX11_areRight 61 = .ok (.iload_n 1, 1) := by decide +kernel
theorem dX11_areRight_62 : decode cX11_areRight 62 = .ok (.iload 4, 2) := by decide +kernel
theorem dX11_areRight_64 : decode cX11_areRight 64 = .ok (.imul, 1) := by decide +kernel
theorem dX11_areRight_65 : decode cX11_areRight 65 = .ok (.iload 5, 2) := by decide +kernel
theorem dX11_areRight_67 : decode cX11_areRight 67 = .ok (.iadd, 1) := by decide +kernel
theorem dX11_areRight_68 : decode cX11_areRight 68 = .ok (.if_icmp .ne 7, 3) := by decide +kernel
theorem dX11_areRight_71 : decode cX11_areRight 71 = .ok (.iconst 1, 1) := by decide +kernel
theorem dX11_areRight_72 : decode cX11_areRight 72 = .ok (.goto 4, 3) := by decide +kernel
theorem dX11_areRight_75 : decode cX11_areRight 75 = .ok (.iconst 0, 1) := by decide +kernel
theorem dX11_areRight_76 : decode cX11_areRight 76 = .ok (.istore_n 2, 1) := by decide +kernel
theorem dX11_areRight_77 : decode cX11_areRight 77 = .ok (.iinc 3 1, 3) := by decide +kernel
theorem dX11_areRight_80 : decode cX11_areRight 80 = .ok (.goto (-76), 3) := by decide +kernel
theorem dX11_areRight_83 : decode cX11_areRight 83 = .ok (.iload_n 2, 1) := by decide +kernel
theorem dX11_areRight_84 : decode cX11_areRight 84 = .ok (.ireturn, 1) := by decide +kernel
theorem dX11_counts_0 : decode cX11_counts 0 = .ok (.iload_n 1, 1) := by decide +kernel
theorem dX11_counts_1 : decode cX11_counts 1 = .ok (.iconst 0, 1) := by decide +kernel
theorem dX11_counts_2 : decode cX11_counts 2 = .ok (.iconst 1, 1) := by decide +kernel
theorem dX11_counts_3 : decode cX11_counts 3 = .ok (.invokestatic 65, 3) := by decide +kernel
theorem dX11_counts_6 : decode cX11_counts 6 = .ok (.ifCond .ne 5, 3) := by decide +kernel
theorem dX11_counts_9 : decode cX11_counts 9 = .ok (.iconst (-1), 1) := by decide +kernel
theorem dX11_counts_10 : decode cX11_counts 10 = .ok (.ireturn, 1) := by decide +kernel
theorem dX11_counts_11 : decode cX11_counts 11 = .ok (.iconst 0, 1) := by decide +kernel
theorem dX11_counts_12 : decode cX11_counts 12 = .ok (.istore_n 2, 1) := by decide +kernel
theorem dX11_counts_13 : decode cX11_counts 13 = .ok (.bipush (-5), 2) := by decide +kernel
theorem dX11_counts_15 : decode cX11_counts 15 = .ok (.istore_n 3, 1) := by decide +kernel
theorem dX11_counts_16 : decode cX11_counts 16 = .ok (.bipush 20, 2) := by decide +kernel
theorem dX11_counts_18 : decode cX11_counts 18 = .ok (.istore 4, 2) := by decide +kernel
theorem dX11_counts_20 : decode cX11_counts 20 = .ok (.iload 4, 2) := by decide +kernel
theorem dX11_counts_22 : decode cX11_counts 22 = .ok (.iconst 1, 1) := by decide +kernel
theorem dX11_counts_23 : decode cX11_counts 23 = .ok (.if_icmp .le 42, 3) := by decide +kernel
theorem dX11_counts_26 : decode cX11_counts 26 = .ok (.aload_n 0, 1) := by decide +kernel
theorem dX11_counts_27 : decode cX11_counts 27 = .ok (.iload 4, 2) := by decide +kernel
theorem dX11_counts_29 : decode cX11_counts 29 = .ok (.invokevirtual 272, 3) := by decide +kernel
theorem dX11_counts_32 : decode cX11_counts 32 = .ok (.istore 5, 2) := by decide +kernel
theorem dX11_counts_34 : decode cX11_counts 34 = .ok (.iload_n 2, 1) := by decide +kernel
theorem dX11_counts_35 : decode cX11_counts 35 = .ok (.iload 5, 2) := by decide +kernel
theorem dX11_counts_37 : decode cX11_counts 37 = .ok (.ifCond .eq 7, 3) := by decide +kernel
theorem dX11_counts_40 : decode cX11_counts 40 = .ok (.iconst 1, 1) := by decide +kernel
theorem dX11_counts_41 : decode cX11_counts 41 = .ok (.goto 4, 3) := by decide +kernel
theorem dX11_counts_44 : decode cX11_counts 44 = .ok (.iconst 0, 1) := by decide +kernel
theorem dX11_counts_45 : decode cX11_counts 45 = .ok (.iadd, 1) := by decide +kernel
theorem dX11_counts_46 : decode cX11_counts 46 = .ok (.istore_n 2, 1) := by decide +kernel
theorem dX11_counts_47 : decode cX11_counts 47 = .ok (.iload 5, 2) := by decide +kernel
theorem dX11_counts_49 : decode cX11_counts 49 = .ok (.ifCond .eq 8, 3) := by decide +kernel
theorem dX11_counts_52 : decode cX11_counts 52 = .ok (.iload 4, 2) := by decide +kernel
theorem dX11_counts_54 : decode cX11_counts 54 = .ok (.goto 4, 3) := by decide +kernel
theorem dX11_counts_57 : decode cX11_counts 57 = .ok (.iload_n 3, 1) := by decide +kernel
theorem dX11_counts_58 : decode cX11_counts 58 = .ok (.istore_n 3, 1) := by decide +kernel
theorem dX11_counts_59 : decode cX11_counts 59 = .ok (.iinc 4 (-1), 3) := by decide +kernel
theorem dX11_counts_62 : decode cX11_counts 62 = .ok (.goto (-42), 3) := by decide +kernel
theorem dX11_counts_65 : decode cX11_counts 65 = .ok (.iload_n 1, 1) := by decide +kernel
theorem dX11_counts_66 : decode cX11_counts 66 = .ok (.ifCond .ne 7, 3) := by decide +kernel
theorem dX11_counts_69 : decode cX11_counts 69 = .ok (.iload_n 2, 1) := by decide +kernel
theorem dX11_counts_70 : decode cX11_counts 70 = .ok (.goto 4, 3) := by decide +kernel
theorem dX11_counts_73 : decode cX11_counts 73 = .ok (.iload_n 3, 1) := by decide +kernel
theorem dX11_counts_74 : decode cX11_counts 74 = .ok (.ireturn, 1) := by decide +kernel
theorem dX11_purseMany_0 : decode cX11_purseMany 0 = .ok (.iconst 0, 1) := by decide +kernel
theorem dX11_purseMany_1 : decode cX11_purseMany 1 = .ok (.istore_n 1, 1) := by decide +kernel
theorem dX11_purseMany_2 : decode cX11_purseMany 2 = .ok (.iconst 0, 1) := by decide +kernel
theorem dX11_purseMany_3 : decode cX11_purseMany 3 = .ok (.istore_n 2, 1) := by decide +kernel
theorem dX11_purseMany_4 : decode cX11_purseMany 4 = .ok (.iload_n 2, 1) := by decide +kernel
theorem dX11_purseMany_5 : decode cX11_purseMany 5 = .ok (.aload_n 0, 1) := by decide +kernel
theorem dX11_purseMany_6 : decode cX11_purseMany 6 = .ok (.getfield 9, 3) := by decide +kernel
theorem dX11_purseMany_9 : decode cX11_purseMany 9 = .ok (.iconst 0, 1) := by decide +kernel
theorem dX11_purseMany_10 : decode cX11_purseMany 10 = .ok (.iaload, 1) := by decide +kernel
theorem dX11_purseMany_11 : decode cX11_purseMany 11 = .ok (.if_icmp .ge 21, 3) := by decide +kernel
theorem dX11_purseMany_14 : decode cX11_purseMany 14 = .ok (.iload_n 1, 1) := by decide +kernel
theorem dX11_purseMany_15 : decode cX11_purseMany 15 = .ok (.aload_n 0, 1) := by decide +kernel
theorem dX11_purseMany_16 : decode cX11_purseMany 16 = .ok (.getfield 9, 3) := by decide +kernel
theorem dX11_purseMany_19 : decode cX11_purseMany 19 = .ok (.bipush 22, 2) := by decide +kernel
theorem dX11_purseMany_21 : decode cX11_purseMany 21 = .ok (.iload_n 2, 1) := by decide +kernel
theorem dX11_purseMany_22 : decode cX11_purseMany 22 = .ok (.iadd, 1) := by decide +kernel
theorem dX11_purseMany_23 : decode cX11_purseMany 23 = .ok (.iaload, 1) := by decide +kernel
theorem dX11_purseMany_24 : decode cX11_purseMany 24 = .ok (.iadd, 1) := by decide +kernel
theorem dX11_purseMany_25 : decode cX11_purseMany 25 = .ok (.istore_n 1, 1) := by decide +kernel
theorem dX11_purseMany_26 : decode cX11_purseMany 26 = .ok (.iinc 2 1, 3) := by decide +kernel
theorem dX11_purseMany_29 : decode cX11_purseMany 29 = .ok (.goto (-25), 3) := by decide +kernel
theorem dX11_purseMany_32 : decode cX11_purseMany 32 = .ok (.iload_n 1, 1) := by decide +kernel
theorem dX11_purseMany_33 : decode cX11_purseMany 33 = .ok (.ireturn, 1) := by decide +kernel
theorem dX11_odds_0 : decode cX11_odds 0 = .ok (.iload_n 1, 1) := by decide +kernel
theorem dX11_odds_1 : decode cX11_odds 1 = .ok (.iconst 1, 1) := by decide +kernel
theorem dX11_odds_2 : decode cX11_odds 2 = .ok (.bipush 30, 2) := by decide +kernel
theorem dX11_odds_4 : decode cX11_odds 4 = .ok (.invokestatic 65, 3) := by decide +kernel
theorem dX11_odds_7 : decode cX11_odds 7 = .ok (.ifCond .eq 19, 3) := by decide +kernel
theorem dX11_odds_10 : decode cX11_odds 10 = .ok (.iload_n 2, 1) := by decide +kernel
theorem dX11_odds_11 : decode cX11_odds 11 = .ok (.iconst 0, 1) := by decide +kernel
theorem dX11_odds_12 : decode cX11_odds 12 = .ok (.iconst 1, 1) := by decide +kernel
theorem dX11_odds_13 : decode cX11_odds 13 = .ok (.invokestatic 65, 3) := by decide +kernel
theorem dX11_odds_16 : decode cX11_odds 16 = .ok (.ifCond .eq 10, 3) := by decide +kernel
theorem dX11_odds_19 : decode cX11_odds 19 = .ok (.aload_n 0, 1) := by decide +kernel
theorem dX11_odds_20 : decode cX11_odds 20 = .ok (.invokevirtual 275, 3) := by decide +kernel
theorem dX11_odds_23 : decode cX11_odds 23 = .ok (.ifCond .ne 7, 3) := by decide +kernel
theorem dX11_odds_26 : decode cX11_odds 26 = .ok (.ldc2_w 211, 3) := by decide +kernel
theorem dX11_odds_29 : decode cX11_odds 29 = .ok (.lreturn, 1) := by decide +kernel
theorem dX11_odds_30 : decode cX11_odds 30 = .ok (.aload_n 0, 1) := by decide +kernel
theorem dX11_odds_31 : decode cX11_odds 31 = .ok (.invokevirtual 165, 3) := by decide +kernel
theorem dX11_odds_34 : decode cX11_odds 34 = .ok (.lconst 0, 1) := by decide +kernel
theorem dX11_odds_35 : decode cX11_odds 35 = .ok (.lstore_n 3, 1) := by decide +kernel
theorem dX11_odds_36 : decode cX11_odds 36 = .ok (.iconst 0, 1) := by decide +kernel
theorem dX11_odds_37 : decode cX11_odds 37 = .ok (.istore 5, 2) := by decide +kernel
theorem dX11_odds_39 : decode cX11_odds 39 = .ok (.iload 5, 2) := by decide +kernel
theorem dX11_odds_41 : decode cX11_odds 41 = .ok (.aload_n 0, 1) := by decide +kernel
theorem dX11_odds_42 : decode cX11_odds 42 = .ok (.getfield 9, 3) := by decide +kernel
theorem dX11_odds_45 : decode cX11_odds 45 = .ok (.iconst 0, 1) := by decide +kernel
theorem dX11_odds_46 : decode cX11_odds 46 = .ok (.iaload, 1) := by decide +kernel
theorem dX11_odds_47 : decode cX11_odds 47 = .ok (.if_icmp .ge 38, 3) := by decide +kernel
theorem dX11_odds_50 : decode cX11_odds 50 = .ok (.lload_n 3, 1) := by decide +kernel
theorem dX11_odds_51 : decode cX11_odds 51 = .ok (.aload_n 0, 1) := by decide +kernel
theorem dX11_odds_52 : decode cX11_odds 52 = .ok (.getfield 25, 3) := by decide +kernel
theorem dX11_odds_55 : decode cX11_odds 55 = .ok (.iload 5, 2) := by decide +kernel
theorem dX11_odds_57 : decode cX11_odds 57 = .ok (.iaload, 1) := by decide +kernel
theorem dX11_odds_58 : decode cX11_odds 58 = .ok (.iload_n 1, 1) := by decide +kernel
theorem dX11_odds_59 : decode cX11_odds 59 = .ok (.if_icmp .lt 17, 3) := by decide +kernel
theorem dX11_odds_62 : decode cX11_odds 62 = .ok (.aload_n 0, 1) := by decide +kernel
theorem dX11_odds_63 : decode cX11_odds 63 = .ok (.getfield 9, 3) := by decide +kernel
theorem dX11_odds_66 : decode cX11_odds 66 = .ok (.bipush 22, 2) := by decide +kernel
theorem dX11_odds_68 : decode cX11_odds 68 = .ok (.iload 5, 2) := by decide +kernel
theorem dX11_odds_70 : decode cX11_odds 70 = .ok (.iadd, 1) := by decide +kernel
theorem dX11_odds_71 : decode cX11_odds 71 = .ok (.iaload, 1) := by decide +kernel
theorem dX11_odds_72 : decode cX11_odds 72 = .ok (.i2l, 1) := by decide +kernel
theorem dX11_odds_73 : decode cX11_odds 73 = .ok (.goto 4, 3) := by decide +kernel
theorem dX11_odds_76 : decode cX11_odds 76 = .ok (.lconst 0, 1) := by decide +kernel
theorem dX11_odds_77 : decode cX11_odds 77 = .ok (.ladd, 1) := by decide +kernel
theorem dX11_odds_78 : decode cX11_odds 78 = .ok (.lstore_n 3, 1) := by decide +kernel
theorem dX11_odds_79 : decode cX11_odds 79 = .ok (.iinc 5 1, 3) := by decide +kernel
theorem dX11_odds_82 : decode cX11_odds 82 = .ok (.goto (-43), 3) := by decide +kernel
theorem dX11_odds_85 : decode cX11_odds 85 = .ok (.lload_n 3, 1) := by decide +kernel
theorem dX11_odds_86 : decode cX11_odds 86 = .ok (.aload_n 0, 1) := by decide +kernel
theorem dX11_odds_87 : decode cX11_odds 87 = .ok (.invokevirtual 275, 3) := by decide +kernel
theorem dX11_odds_90 : decode cX11_odds 90 = .ok (.i2l, 1) := by decide +kernel
theorem dX11_odds_91 : decode cX11_odds 91 = .ok (.iload_n 2, 1) := by decide +kernel
theorem dX11_odds_92 : decode cX11_odds 92 = .ok (.invokestatic 213, 3) := by decide +kernel
theorem dX11_odds_95 : decode cX11_odds 95 = .ok (.lreturn, 1) := by decide +kernel
theorem dX11_mean_0 : decode cX11_mean 0 = .ok (.iload_n 1, 1) := by decide +kernel
theorem dX11_mean_1 : decode cX11_mean 1 = .ok (.iconst 0, 1) := by decide +kernel
theorem dX11_mean_2 : decode cX11_mean 2 = .ok (.iconst 1, 1) := by decide +kernel
theorem dX11_mean_3 : decode cX11_mean 3 = .ok (.invokestatic 65, 3) := by decide +kernel
theorem dX11_mean_6 : decode cX11_mean 6 = .ok (.ifCond .eq 10, 3) := by decide +kernel
theorem dX11_mean_9 : decode cX11_mean 9 = .ok (.aload_n 0, 1) := by decide +kernel
theorem dX11_mean_10 : decode cX11_mean 10 = .ok (.invokevirtual 275, 3) := by decide +kernel
theorem dX11_mean_13 : decode cX11_mean 13 = .ok (.ifCond .ne 7, 3) := by decide +kernel
theorem dX11_mean_16 : decode cX11_mean 16 = .ok (.ldc2_w 211, 3) := by decide +kernel
theorem dX11_mean_19 : decode cX11_mean 19 = .ok (.lreturn, 1) := by decide +kernel
theorem dX11_mean_20 : decode cX11_mean 20 = .ok (.aload_n 0, 1) := by decide +kernel
theorem dX11_mean_21 : decode cX11_mean 21 = .ok (.invokevirtual 174, 3) := by decide +kernel
theorem dX11_mean_24 : decode cX11_mean 24 = .ok (.i2l, 1) := by decide +kernel
theorem dX11_mean_25 : decode cX11_mean 25 = .ok (.aload_n 0, 1) := by decide +kernel
theorem dX11_mean_26 : decode cX11_mean 26 = .ok (.invokevirtual 275, 3) := by decide +kernel
theorem dX11_mean_29 : decode cX11_mean 29 = .ok (.i2l, 1) := by decide +kernel
theorem dX11_mean_30 : decode cX11_mean 30 = .ok (.iload_n 1, 1) := by decide +kernel
theorem dX11_mean_31 : decode cX11_mean 31 = .ok (.invokestatic 213, 3) := by decide +kernel
theorem dX11_mean_34 : decode cX11_mean 34 = .ok (.lreturn, 1) := by decide +kernel
theorem dX11_lasting_0 : decode cX11_lasting 0 = .ok (.aload_n 0, 1) := by decide +kernel
theorem dX11_lasting_1 : decode cX11_lasting 1 = .ok (.iload_n 1, 1) := by decide +kernel
theorem dX11_lasting_2 : decode cX11_lasting 2 = .ok (.invokevirtual 161, 3) := by decide +kernel
theorem dX11_lasting_5 : decode cX11_lasting 5 = .ok (.ifCond .ne 5, 3) := by decide +kernel
theorem dX11_lasting_8 : decode cX11_lasting 8 = .ok (.iconst (-1), 1) := by decide +kernel
theorem dX11_lasting_9 : decode cX11_lasting 9 = .ok (.ireturn, 1) := by decide +kernel
theorem dX11_lasting_10 : decode cX11_lasting 10 = .ok (.aload_n 0, 1) := by decide +kernel
theorem dX11_lasting_11 : decode cX11_lasting 11 = .ok (.getfield 9, 3) := by decide +kernel
theorem dX11_lasting_14 : decode cX11_lasting 14 = .ok (.bipush 9, 2) := by decide +kernel
theorem dX11_lasting_16 : decode cX11_lasting 16 = .ok (.iaload, 1) := by decide +kernel
theorem dX11_lasting_17 : decode cX11_lasting 17 = .ok (.istore_n 2, 1) := by decide +kernel
theorem dX11_lasting_18 : decode cX11_lasting 18 = .ok (.aload_n 0, 1) := by decide +kernel
theorem dX11_lasting_19 : decode cX11_lasting 19 = .ok (.iload_n 1, 1) := by decide +kernel
theorem dX11_lasting_20 : decode cX11_lasting 20 = .ok (.aload_n 0, 1) := by decide +kernel
theorem dX11_lasting_21 : decode cX11_lasting 21 = .ok (.getfield 9, 3) := by decide +kernel
theorem dX11_lasting_24 : decode cX11_lasting 24 = .ok (.bipush 18, 2) := by decide +kernel
theorem dX11_lasting_26 : decode cX11_lasting 26 = .ok (.iload_n 1, 1) := by decide +kernel
theorem dX11_lasting_27 : decode cX11_lasting 27 = .ok (.iadd, 1) := by decide +kernel
theorem dX11_lasting_28 : decode cX11_lasting 28 = .ok (.iaload, 1) := by decide +kernel
theorem dX11_lasting_29 : decode cX11_lasting 29 = .ok (.invokevirtual 158, 3) := by decide +kernel
theorem dX11_lasting_32 : decode cX11_lasting 32 = .ok (.istore_n 3, 1) := by decide +kernel
theorem dX11_lasting_33 : decode cX11_lasting 33 = .ok (.bipush (-5), 2) := by decide +kernel
theorem dX11_lasting_35 : decode cX11_lasting 35 = .ok (.istore 4, 2) := by decide +kernel
theorem dX11_lasting_37 : decode cX11_lasting 37 = .ok (.iconst 0, 1) := by decide +kernel
theorem dX11_lasting_38 : decode cX11_lasting 38 = .ok (.istore 5, 2) := by decide +kernel
theorem dX11_lasting_40 : decode cX11_lasting 40 = .ok (.iload 5, 2) := by decide +kernel
theorem dX11_lasting_42 : decode cX11_lasting 42 = .ok (.bipush 100, 2) := by decide +kernel
theorem dX11_lasting_44 : decode cX11_lasting 44 = .ok (.if_icmp .ge 54, 3) := by decide +kernel
theorem dX11_lasting_47 : decode cX11_lasting 47 = .ok (.iload 4, 2) := by decide +kernel
theorem dX11_lasting_49 : decode cX11_lasting 49 = .ok (.bipush (-5), 2) := by decide +kernel
theorem dX11_lasting_51 : decode cX11_lasting 51 = .ok (.if_icmp .ne 47, 3) := by decide +kernel
theorem dX11_lasting_54 : decode cX11_lasting 54 = .ok (.aload_n 0, 1) := by decide +kernel
theorem dX11_lasting_55 : decode cX11_lasting 55 = .ok (.getfield 9, 3) := by decide +kernel
theorem dX11_lasting_58 : decode cX11_lasting 58 = .ok (.bipush 9, 2) := by decide +kernel
theorem dX11_lasting_60 : decode cX11_lasting 60 = .ok (.iload_n 2, 1) := by decide +kernel
theorem dX11_lasting_61 : decode cX11_lasting 61 = .ok (.iload 5, 2) := by decide +kernel
theorem dX11_lasting_63 : decode cX11_lasting 63 = .ok (.iadd, 1) := by decide +kernel
theorem dX11_lasting_64 : decode cX11_lasting 64 = .ok (.iastore, 1) := by decide +kernel
theorem dX11_lasting_65 : decode cX11_lasting 65 = .ok (.aload_n 0, 1) := by decide +kernel
theorem dX11_lasting_66 : decode cX11_lasting 66 = .ok (.iload_n 1, 1) := by decide +kernel
theorem dX11_lasting_67 : decode cX11_lasting 67 = .ok (.aload_n 0, 1) := by decide +kernel
theorem dX11_lasting_68 : decode cX11_lasting 68 = .ok (.getfield 9, 3) := by decide +kernel
theorem dX11_lasting_71 : decode cX11_lasting 71 = .ok (.bipush 18, 2) := by decide +kernel
theorem dX11_lasting_73 : decode cX11_lasting 73 = .ok (.iload_n 1, 1) := by decide +kernel
theorem dX11_lasting_74 : decode cX11_lasting 74 = .ok (.iadd, 1) := by decide +kernel
theorem dX11_lasting_75 : decode cX11_lasting 75 = .ok (.iaload, 1) := by decide +kernel
theorem dX11_lasting_76 : decode cX11_lasting 76 = .ok (.invokevirtual 158, 3) := by decide +kernel
theorem dX11_lasting_79 : decode cX11_lasting 79 = .ok (.iload_n 3, 1) := by decide +kernel
theorem dX11_lasting_80 : decode cX11_lasting 80 = .ok (.if_icmp .ge 8, 3) := by decide +kernel
theorem dX11_lasting_83 : decode cX11_lasting 83 = .ok (.iload 5, 2) := by decide +kernel
theorem dX11_lasting_85 : decode cX11_lasting 85 = .ok (.goto 5, 3) := by decide +kernel
theorem dX11_lasting_88 : decode cX11_lasting 88 = .ok (.bipush (-5), 2) := by decide +kernel
theorem dX11_lasting_90 : decode cX11_lasting 90 = .ok (.istore 4, 2) := by decide +kernel
theorem dX11_lasting_92 : decode cX11_lasting 92 = .ok (.iinc 5 1, 3) := by decide +kernel
theorem dX11_lasting_95 : decode cX11_lasting 95 = .ok (.goto (-55), 3) := by decide +kernel
theorem dX11_lasting_98 : decode cX11_lasting 98 = .ok (.aload_n 0, 1) := by decide +kernel
theorem dX11_lasting_99 : decode cX11_lasting 99 = .ok (.getfield 9, 3) := by decide +kernel
theorem dX11_lasting_102 : decode cX11_lasting 102 = .ok (.bipush 9, 2) := by decide +kernel
theorem dX11_lasting_104 : decode cX11_lasting 104 = .ok (.iload_n 2, 1) := by decide +kernel
theorem dX11_lasting_105 : decode cX11_lasting 105 = .ok (.iastore, 1) := by decide +kernel
theorem dX11_lasting_106 : decode cX11_lasting 106 = .ok (.iload 4, 2) := by decide +kernel
theorem dX11_lasting_108 : decode cX11_lasting 108 = .ok (.ireturn, 1) := by decide +kernel
theorem dX11_plan_0 : decode cX11_plan 0 = .ok (.iload_n 1, 1) := by decide +kernel
theorem dX11_plan_1 : decode cX11_plan 1 = .ok (.iconst (-1), 1) := by decide +kernel
theorem dX11_plan_2 : decode cX11_plan 2 = .ok (.if_icmp .ne 12, 3) := by decide +kernel
theorem dX11_plan_5 : decode cX11_plan 5 = .ok (.aload_n 0, 1) := by decide +kernel
theorem dX11_plan_6 : decode cX11_plan 6 = .ok (.getfield 9, 3) := by decide +kernel
theorem dX11_plan_9 : decode cX11_plan 9 = .ok (.iconst 5, 1) := by decide +kernel
theorem dX11_plan_10 : decode cX11_plan 10 = .ok (.iconst 0, 1) := by decide +kernel
theorem dX11_plan_11 : decode cX11_plan 11 = .ok (.iastore, 1) := by decide +kernel
theorem dX11_plan_12 : decode cX11_plan 12 = .ok (.iconst 0, 1) := by decide +kernel
theorem dX11_plan_13 : decode cX11_plan 13 = .ok (.ireturn, 1) := by decide +kernel
theorem dX11_plan_14 : decode cX11_plan 14 = .ok (.iload_n 1, 1) := by decide +kernel
theorem dX11_plan_15 : decode cX11_plan 15 = .ok (.iconst 0, 1) := by decide +kernel
theorem dX11_plan_16 : decode cX11_plan 16 = .ok (.bipush 99, 2) := by decide +kernel
theorem dX11_plan_18 : decode cX11_plan 18 = .ok (.invokestatic 65, 3) := by decide +kernel
theorem dX11_plan_21 : decode cX11_plan 21 = .ok (.ifCond .ne 6, 3) := by decide +kernel
theorem dX11_plan_24 : decode cX11_plan 24 = .ok (.bipush (-2), 2) := by decide +kernel
theorem dX11_plan_26 : decode cX11_plan 26 = .ok (.ireturn, 1) := by decide +kernel
theorem dX11_plan_27 : decode cX11_plan 27 = .ok (.aload_n 0, 1) := by decide +kernel
theorem dX11_plan_28 : decode cX11_plan 28 = .ok (.getfield 9, 3) := by decide +kernel
theorem dX11_plan_31 : decode cX11_plan 31 = .ok (.iconst 5, 1) := by decide +kernel
theorem dX11_plan_32 : decode cX11_plan 32 = .ok (.iaload, 1) := by decide +kernel
theorem dX11_plan_33 : decode cX11_plan 33 = .ok (.bipush 6, 2) := by decide +kernel
theorem dX11_plan_35 : decode cX11_plan 35 = .ok (.if_icmp .ne 6, 3) := by decide +kernel
theorem dX11_plan_38 : decode cX11_plan 38 = .ok (.bipush (-4), 2) := by decide +kernel
theorem dX11_plan_40 : decode cX11_plan 40 = .ok (.ireturn, 1) := by decide +kernel
theorem dX11_plan_41 : decode cX11_plan 41 = .ok (.aload_n 0, 1) := by decide +kernel
theorem dX11_plan_42 : decode cX11_plan 42 = .ok (.getfield 9, 3) := by decide +kernel
theorem dX11_plan_45 : decode cX11_plan 45 = .ok (.bipush 95, 2) := by decide +kernel
theorem dX11_plan_47 : decode cX11_plan 47 = .ok (.aload_n 0, 1) := by decide +kernel
theorem dX11_plan_48 : decode cX11_plan 48 = .ok (.getfield 9, 3) := by decide +kernel
theorem dX11_plan_51 : decode cX11_plan 51 = .ok (.iconst 5, 1) := by decide +kernel
theorem dX11_plan_52 : decode cX11_plan 52 = .ok (.iaload, 1) := by decide +kernel
theorem dX11_plan_53 : decode cX11_plan 53 = .ok (.iadd, 1) := by decide +kernel
theorem dX11_plan_54 : decode cX11_plan 54 = .ok (.iload_n 1, 1) := by decide +kernel
theorem dX11_plan_55 : decode cX11_plan 55 = .ok (.iastore, 1) := by decide +kernel
theorem dX11_plan_56 : decode cX11_plan 56 = .ok (.aload_n 0, 1) := by decide +kernel
theorem dX11_plan_57 : decode cX11_plan 57 = .ok (.getfield 9, 3) := by decide +kernel
theorem dX11_plan_60 : decode cX11_plan 60 = .ok (.iconst 5, 1) := by decide +kernel
theorem dX11_plan_61 : decode cX11_plan 61 = .ok (.dup2, 1) := by decide +kernel
theorem dX11_plan_62 : decode cX11_plan 62 = .ok (.iaload, 1) := by decide +kernel
theorem dX11_plan_63 : decode cX11_plan 63 = .ok (.iconst 1, 1) := by decide +kernel
theorem dX11_plan_64 : decode cX11_plan 64 = .ok (.iadd, 1) := by decide +kernel
theorem dX11_plan_65 : decode cX11_plan 65 = .ok (.iastore, 1) := by decide +kernel
theorem dX11_plan_66 : decode cX11_plan 66 = .ok (.aload_n 0, 1) := by decide +kernel
theorem dX11_plan_67 : decode cX11_plan 67 = .ok (.getfield 9, 3) := by decide +kernel
theorem dX11_plan_70 : decode cX11_plan 70 = .ok (.iconst 5, 1) := by decide +kernel
theorem dX11_plan_71 : decode cX11_plan 71 = .ok (.iaload, 1) := by decide +kernel
theorem dX11_plan_72 : decode cX11_plan 72 = .ok (.ireturn, 1) := by decide +kernel
theorem dX11_made_0 : decode cX11_made 0 = .ok (.iload_n 1, 1) := by decide +kernel
theorem dX11_made_1 : decode cX11_made 1 = .ok (.iconst 0, 1) := by decide +kernel
theorem dX11_made_2 : decode cX11_made 2 = .ok (.iconst 1, 1) := by decide +kernel
theorem dX11_made_3 : decode cX11_made 3 = .ok (.invokestatic 65, 3) := by decide +kernel
theorem dX11_made_6 : decode cX11_made 6 = .ok (.ifCond .ne 5, 3) := by decide +kernel
theorem dX11_made_9 : decode cX11_made 9 = .ok (.iconst (-1), 1) := by decide +kernel
theorem dX11_made_10 : decode cX11_made 10 = .ok (.ireturn, 1) := by decide +kernel
theorem dX11_made_11 : decode cX11_made 11 = .ok (.iconst 0, 1) := by decide +kernel
theorem dX11_made_12 : decode cX11_made 12 = .ok (.istore_n 2, 1) := by decide +kernel
theorem dX11_made_13 : decode cX11_made 13 = .ok (.iload_n 2, 1) := by decide +kernel
theorem dX11_made_14 : decode cX11_made 14 = .ok (.iconst 4, 1) := by decide +kernel
theorem dX11_made_15 : decode cX11_made 15 = .ok (.if_icmp .ge 24, 3) := by decide +kernel
theorem dX11_made_18 : decode cX11_made 18 = .ok (.aload_n 0, 1) := by decide +kernel
theorem dX11_made_19 : decode cX11_made 19 = .ok (.getfield 46, 3) := by decide +kernel
theorem dX11_made_22 : decode cX11_made 22 = .ok (.iload_n 2, 1) := by decide +kernel
theorem dX11_made_23 : decode cX11_made 23 = .ok (.aload_n 0, 1) := by decide +kernel
theorem dX11_made_24 : decode cX11_made 24 = .ok (.getfield 9, 3) := by decide +kernel
theorem dX11_made_27 : decode cX11_made 27 = .ok (.bipush 22, 2) := by decide +kernel
theorem dX11_made_29 : decode cX11_made 29 = .ok (.iload_n 2, 1) := by decide +kernel
theorem dX11_made_30 : decode cX11_made 30 = .ok (.iadd, 1) := by decide +kernel
theorem dX11_made_31 : decode cX11_made 31 = .ok (.iaload, 1) := by decide +kernel
theorem dX11_made_32 : decode cX11_made 32 = .ok (.iastore, 1) := by decide +kernel
theorem dX11_made_33 : decode cX11_made 33 = .ok (.iinc 2 1, 3) := by decide +kernel
theorem dX11_made_36 : decode cX11_made 36 = .ok (.goto (-23), 3) := by decide +kernel
theorem dX11_made_39 : decode cX11_made 39 = .ok (.iconst 0, 1) := by decide +kernel
theorem dX11_made_40 : decode cX11_made 40 = .ok (.istore_n 2, 1) := by decide +kernel
theorem dX11_made_41 : decode cX11_made 41 = .ok (.iconst 1, 1) := by decide +kernel
theorem dX11_made_42 : decode cX11_made 42 = .ok (.istore_n 3, 1) := by decide +kernel
theorem dX11_made_43 : decode cX11_made 43 = .ok (.iconst 0, 1) := by decide +kernel
theorem dX11_made_44 : decode cX11_made 44 = .ok (.istore 4, 2) := by decide +kernel
theorem dX11_made_46 : decode cX11_made 46 = .ok (.iload 4, 2) := by decide +kernel
theorem dX11_made_48 : decode cX11_made 48 = .ok (.aload_n 0, 1) := by decide +kernel
theorem dX11_made_49 : decode cX11_made 49 = .ok (.getfield 9, 3) := by decide +kernel
theorem dX11_made_52 : decode cX11_made 52 = .ok (.iconst 5, 1) := by decide +kernel
theorem dX11_made_53 : decode cX11_made 53 = .ok (.iaload, 1) := by decide +kernel
theorem dX11_made_54 : decode cX11_made 54 = .ok (.if_icmp .ge 99, 3) := by decide +kernel
theorem dX11_made_57 : decode cX11_made 57 = .ok (.iload_n 3, 1) := by decide +kernel
theorem dX11_made_58 : decode cX11_made 58 = .ok (.ifCond .eq 95, 3) := by decide +kernel
theorem dX11_made_61 : decode cX11_made 61 = .ok (.aload_n 0, 1) := by decide +kernel
theorem dX11_made_62 : decode cX11_made 62 = .ok (.aload_n 0, 1) := by decide +kernel
theorem dX11_made_63 : decode cX11_made 63 = .ok (.getfield 9, 3) := by decide +kernel
theorem dX11_made_66 : decode cX11_made 66 = .ok (.bipush 95, 2) := by decide +kernel
theorem dX11_made_68 : decode cX11_made 68 = .ok (.iload 4, 2) := by decide +kernel
theorem dX11_made_70 : decode cX11_made 70 = .ok (.iadd, 1) := by decide +kernel
theorem dX11_made_71 : decode cX11_made 71 = .ok (.iaload, 1) := by decide +kernel
theorem dX11_made_72 : decode cX11_made 72 = .ok (.iconst 0, 1) := by decide +kernel
theorem dX11_made_73 : decode cX11_made 73 = .ok (.invokevirtual 249, 3) := by decide +kernel
theorem dX11_made_76 : decode cX11_made 76 = .ok (.aload_n 0, 1) := by decide +kernel
theorem dX11_made_77 : decode cX11_made 77 = .ok (.getfield 236, 3) := by decide +kernel
theorem dX11_made_80 : decode cX11_made 80 = .ok (.ldc 180, 2) := by decide +kernel
theorem dX11_made_82 : decode cX11_made 82 = .ok (.if_icmp .ge 7, 3) := by decide +kernel
theorem dX11_made_85 : decode cX11_made 85 = .ok (.iconst 1, 1) := by decide +kernel
theorem dX11_made_86 : decode cX11_made 86 = .ok (.goto 4, 3) := by decide +kernel
theorem dX11_made_89 : decode cX11_made 89 = .ok (.iconst 0, 1) := by decide +kernel
theorem dX11_made_90 : decode cX11_made 90 = .ok (.istore_n 3, 1) := by decide +kernel
theorem dX11_made_91 : decode cX11_made 91 = .ok (.iload_n 2, 1) := by decide +kernel
theorem dX11_made_92 : decode cX11_made 92 = .ok (.iload_n 3, 1) := by decide +kernel
theorem dX11_made_93 : decode cX11_made 93 = .ok (.ifCond .eq 7, 3) := by decide +kernel
theorem dX11_made_96 : decode cX11_made 96 = .ok (.iconst 1, 1) := by decide +kernel
theorem dX11_made_97 : decode cX11_made 97 = .ok (.goto 4, 3) := by decide +kernel
theorem dX11_made_100 : decode cX11_made 100 = .ok (.iconst 0, 1) := by decide +kernel
theorem dX11_made_101 : decode cX11_made 101 = .ok (.iadd, 1) := by decide +kernel
theorem dX11_made_102 : decode cX11_made 102 = .ok (.istore_n 2, 1) := by decide +kernel
theorem dX11_made_103 : decode cX11_made 103 = .ok (.iconst 0, 1) := by decide +kernel
theorem dX11_made_104 : decode cX11_made 104 = .ok (.istore 5, 2) := by decide +kernel
theorem dX11_made_106 : decode cX11_made 106 = .ok (.iload 5, 2) := by decide +kernel
theorem dX11_made_108 : decode cX11_made 108 = .ok (.aload_n 0, 1) := by decide +kernel
theorem dX11_made_109 : decode cX11_made 109 = .ok (.getfield 9, 3) := by decide +kernel
theorem dX11_made_112 : decode cX11_made 112 = .ok (.iconst 0, 1) := by decide +kernel
theorem dX11_made_113 : decode cX11_made 113 = .ok (.iaload, 1) := by decide +kernel
theorem dX11_made_114 : decode cX11_made 114 = .ok (.if_icmp .ge 33, 3) := by decide +kernel
theorem dX11_made_117 : decode cX11_made 117 = .ok (.iload_n 3, 1) := by decide +kernel
theorem dX11_made_118 : decode cX11_made 118 = .ok (.ifCond .eq 29, 3) := by decide +kernel
theorem dX11_made_121 : decode cX11_made 121 = .ok (.aload_n 0, 1) := by decide +kernel
theorem dX11_made_122 : decode cX11_made 122 = .ok (.getfield 9, 3) := by decide +kernel
theorem dX11_made_125 : decode cX11_made 125 = .ok (.bipush 22, 2) := by decide +kernel
theorem dX11_made_127 : decode cX11_made 127 = .ok (.iload 5, 2) := by decide +kernel
theorem dX11_made_129 : decode cX11_made 129 = .ok (.iadd, 1) := by decide +kernel
theorem dX11_made_130 : decode cX11_made 130 = .ok (.dup2, 1) := by decide +kernel
theorem dX11_made_131 : decode cX11_made 131 = .ok (.iaload, 1) := by decide +kernel
theorem dX11_made_132 : decode cX11_made 132 = .ok (.aload_n 0, 1) := by decide +kernel
theorem dX11_made_133 : decode cX11_made 133 = .ok (.getfield 43, 3) := by decide +kernel
theorem dX11_made_136 : decode cX11_made 136 = .ok (.iload 5, 2) := by decide +kernel
theorem dX11_made_138 : decode cX11_made 138 = .ok (.iaload, 1) := by decide +kernel
theorem dX11_made_139 : decode cX11_made 139 = .ok (.isub, 1) := by decide +kernel
theorem dX11_made_140 : decode cX11_made 140 = .ok (.iastore, 1) := by decide +kernel
theorem dX11_made_141 : decode cX11_made 141 = .ok (.iinc 5 1, 3) := by decide +kernel
theorem dX11_made_144 : decode cX11_made 144 = .ok (.goto (-38), 3) := by decide +kernel
theorem dX11_made_147 : decode cX11_made 147 = .ok (.iinc 4 1, 3) := by decide +kernel
theorem dX11_made_150 : decode cX11_made 150 = .ok (.goto (-104), 3) := by decide +kernel
theorem dX11_made_153 : decode cX11_made 153 = .ok (.aload_n 0, 1) := by decide +kernel
theorem dX11_made_154 : decode cX11_made 154 = .ok (.invokevirtual 174, 3) := by decide +kernel
theorem dX11_made_157 : decode cX11_made 157 = .ok (.istore 4, 2) := by decide +kernel
theorem dX11_made_159 : decode cX11_made 159 = .ok (.iconst 0, 1) := by decide +kernel
theorem dX11_made_160 : decode cX11_made 160 = .ok (.istore 5, 2) := by decide +kernel
theorem dX11_made_162 : decode cX11_made 162 = .ok (.iload 5, 2) := by decide +kernel
theorem dX11_made_164 : decode cX11_made 164 = .ok (.iconst 4, 1) := by decide +kernel
theorem dX11_made_165 : decode cX11_made 165 = .ok (.if_icmp .ge 26, 3) := by decide +kernel
theorem dX11_made_168 : decode cX11_made 168 = .ok (.aload_n 0, 1) := by decide +kernel
theorem dX11_made_169 : decode cX11_made 169 = .ok (.getfield 9, 3) := by decide +kernel
theorem dX11_made_172 : decode cX11_made 172 = .ok (.bipush 22, 2) := by decide +kernel
theorem dX11_made_174 : decode cX11_made 174 = .ok (.iload 5, 2) := by decide +kernel
theorem dX11_made_176 : decode cX11_made 176 = .ok (.iadd, 1) := by decide +kernel
theorem dX11_made_177 : decode cX11_made 177 = .ok (.aload_n 0, 1) := by decide +kernel
theorem dX11_made_178 : decode cX11_made 178 = .ok (.getfield 46, 3) := by decide +kernel
theorem dX11_made_181 : decode cX11_made 181 = .ok (.iload 5, 2) := by decide +kernel
theorem dX11_made_183 : decode cX11_made 183 = .ok (.iaload, 1) := by decide +kernel
theorem dX11_made_184 : decode cX11_made 184 = .ok (.iastore, 1) := by decide +kernel
theorem dX11_made_185 : decode cX11_made 185 = .ok (.iinc 5 1, 3) := by decide +kernel
theorem dX11_made_188 : decode cX11_made 188 = .ok (.goto (-26), 3) := by decide +kernel
theorem dX11_made_191 : decode cX11_made 191 = .ok (.iload_n 1, 1) := by decide +kernel
theorem dX11_made_192 : decode cX11_made 192 = .ok (.ifCond .ne 7, 3) := by decide +kernel
theorem dX11_made_195 : decode cX11_made 195 = .ok (.iload_n 2, 1) := by decide +kernel
theorem dX11_made_196 : decode cX11_made 196 = .ok (.goto 5, 3) := by decide +kernel
theorem dX11_made_199 : decode cX11_made 199 = .ok (.iload 4, 2) := by decide +kernel
theorem dX11_made_201 : decode cX11_made 201 = .ok (.ireturn, 1) := by decide +kernel
theorem dX11_book_0 : decode cX11_book 0 = .ok (.iload_n 1, 1) := by decide +kernel
theorem dX11_book_1 : decode cX11_book 1 = .ok (.iconst (-1), 1) := by decide +kernel
theorem dX11_book_2 : decode cX11_book 2 = .ok (.if_icmp .ne 13, 3) := by decide +kernel
theorem dX11_book_5 : decode cX11_book 5 = .ok (.aload_n 0, 1) := by decide +kernel
theorem dX11_book_6 : decode cX11_book 6 = .ok (.getfield 9, 3) := by decide +kernel
theorem dX11_book_9 : decode cX11_book 9 = .ok (.bipush 6, 2) := by decide +kernel
theorem dX11_book_11 : decode cX11_book 11 = .ok (.iconst 0, 1) := by decide +kernel
theorem dX11_book_12 : decode cX11_book 12 = .ok (.iastore, 1) := by decide +kernel
theorem dX11_book_13 : decode cX11_book 13 = .ok (.iconst 0, 1) := by decide +kernel
theorem dX11_book_14 : decode cX11_book 14 = .ok (.ireturn, 1) := by decide +kernel
theorem dX11_book_15 : decode cX11_book 15 = .ok (.aload_n 0, 1) := by decide +kernel
theorem dX11_book_16 : decode cX11_book 16 = .ok (.iload_n 1, 1) := by decide +kernel
theorem dX11_book_17 : decode cX11_book 17 = .ok (.invokevirtual 161, 3) := by decide +kernel
theorem dX11_book_20 : decode cX11_book 20 = .ok (.ifCond .ne 5, 3) := by decide +kernel
theorem dX11_book_23 : decode cX11_book 23 = .ok (.iconst (-1), 1) := by decide +kernel
theorem dX11_book_24 : decode cX11_book 24 = .ok (.ireturn, 1) := by decide +kernel
theorem dX11_book_25 : decode cX11_book 25 = .ok (.iload_n 2, 1) := by decide +kernel
theorem dX11_book_26 : decode cX11_book 26 = .ok (.iconst 1, 1) := by decide +kernel
theorem dX11_book_27 : decode cX11_book 27 = .ok (.bipush 99, 2) := by decide +kernel
theorem dX11_book_29 : decode cX11_book 29 = .ok (.invokestatic 65, 3) := by decide +kernel
theorem dX11_book_32 : decode cX11_book 32 = .ok (.ifCond .ne 6, 3) := by decide +kernel
theorem dX11_book_35 : decode cX11_book 35 = .ok (.bipush (-2), 2) := by decide +kernel
theorem dX11_book_37 : decode cX11_book 37 = .ok (.ireturn, 1) := by decide +kernel
theorem dX11_book_38 : decode cX11_book 38 = .ok (.aload_n 0, 1) := by decide +kernel
theorem dX11_book_39 : decode cX11_book 39 = .ok (.getfield 9, 3) := by decide +kernel
theorem dX11_book_42 : decode cX11_book 42 = .ok (.bipush 6, 2) := by decide +kernel
theorem dX11_book_44 : decode cX11_book 44 = .ok (.iaload, 1) := by decide +kernel
theorem dX11_book_45 : decode cX11_book 45 = .ok (.bipush 8, 2) := by decide +kernel
theorem dX11_book_47 : decode cX11_book 47 = .ok (.if_icmp .ne 6, 3) := by decide +kernel
theorem dX11_book_50 : decode cX11_book 50 = .ok (.bipush (-4), 2) := by decide +kernel
theorem dX11_book_52 : decode cX11_book 52 = .ok (.ireturn, 1) := by decide +kernel
theorem dX11_book_53 : decode cX11_book 53 = .ok (.aload_n 0, 1) := by decide +kernel
theorem dX11_book_54 : decode cX11_book 54 = .ok (.getfield 9, 3) := by decide +kernel
theorem dX11_book_57 : decode cX11_book 57 = .ok (.bipush 101, 2) := by decide +kernel
theorem dX11_book_59 : decode cX11_book 59 = .ok (.aload_n 0, 1) := by decide +kernel
theorem dX11_book_60 : decode cX11_book 60 = .ok (.getfield 9, 3) := by decide +kernel
theorem dX11_book_63 : decode cX11_book 63 = .ok (.bipush 6, 2) := by decide +kernel
theorem dX11_book_65 : decode cX11_book 65 = .ok (.iaload, 1) := by decide +kernel
theorem dX11_book_66 : decode cX11_book 66 = .ok (.iadd, 1) := by decide +kernel
theorem dX11_book_67 : decode cX11_book 67 = .ok (.iload_n 1, 1) := by decide +kernel
theorem dX11_book_68 : decode cX11_book 68 = .ok (.iastore, 1) := by decide +kernel
theorem dX11_book_69 : decode cX11_book 69 = .ok (.aload_n 0, 1) := by decide +kernel
theorem dX11_book_70 : decode cX11_book 70 = .ok (.getfield 9, 3) := by decide +kernel
theorem dX11_book_73 : decode cX11_book 73 = .ok (.bipush 109, 2) := by decide +kernel
theorem dX11_book_75 : decode cX11_book 75 = .ok (.aload_n 0, 1) := by decide +kernel
theorem dX11_book_76 : decode cX11_book 76 = .ok (.getfield 9, 3) := by decide +kernel
theorem dX11_book_79 : decode cX11_book 79 = .ok (.bipush 6, 2) := by decide +kernel
theorem dX11_book_81 : decode cX11_book 81 = .ok (.iaload, 1) := by decide +kernel
theorem dX11_book_82 : decode cX11_book 82 = .ok (.iadd, 1) := by decide +kernel
theorem dX11_book_83 : decode cX11_book 83 = .ok (.iload_n 2, 1) := by decide +kernel
theorem dX11_book_84 : decode cX11_book 84 = .ok (.iastore, 1) := by decide +kernel
theorem dX11_book_85 : decode cX11_book 85 = .ok (.aload_n 0, 1) := by decide +kernel
theorem dX11_book_86 : decode cX11_book 86 = .ok (.getfield 9, 3) := by decide +kernel
theorem dX11_book_89 : decode cX11_book 89 = .ok (.bipush 6, 2) := by decide +kernel
theorem dX11_book_91 : decode cX11_book 91 = .ok (.dup2, 1) := by decide +kernel
theorem dX11_book_92 : decode cX11_book 92 = .ok (.iaload, 1) := by decide +kernel
theorem dX11_book_93 : decode cX11_book 93 = .ok (.iconst 1, 1) := by decide +kernel
theorem dX11_book_94 : decode cX11_book 94 = .ok (.iadd, 1) := by decide +kernel
theorem dX11_book_95 : decode cX11_book 95 = .ok (.iastore, 1) := by decide +kernel
theorem dX11_book_96 : decode cX11_book 96 = .ok (.aload_n 0, 1) := by decide +kernel
theorem dX11_book_97 : decode cX11_book 97 = .ok (.getfield 9, 3) := by decide +kernel
theorem dX11_book_100 : decode cX11_book 100 = .ok (.bipush 6, 2) := by decide +kernel
theorem dX11_book_102 : decode cX11_book 102 = .ok (.iaload, 1) := by decide +kernel
theorem dX11_book_103 : decode cX11_book 103 = .ok (.ireturn, 1) := by decide +kernel
theorem dX11_looked_0 : decode cX11_looked 0 = .ok (.aload_n 0, 1) := by decide +kernel
theorem dX11_looked_1 : decode cX11_looked 1 = .ok (.invokevirtual 165, 3) := by decide +kernel
theorem dX11_looked_4 : decode cX11_looked 4 = .ok (.iconst 0, 1) := by decide +kernel
theorem dX11_looked_5 : decode cX11_looked 5 = .ok (.istore_n 1, 1) := by decide +kernel
theorem dX11_looked_6 : decode cX11_looked 6 = .ok (.iload_n 1, 1) := by decide +kernel
theorem dX11_looked_7 : decode cX11_looked 7 = .ok (.aload_n 0, 1) := by decide +kernel
theorem dX11_looked_8 : decode cX11_looked 8 = .ok (.getfield 9, 3) := by decide +kernel
theorem dX11_looked_11 : decode cX11_looked 11 = .ok (.bipush 6, 2) := by decide +kernel
theorem dX11_looked_13 : decode cX11_looked 13 = .ok (.iaload, 1) := by decide +kernel
theorem dX11_looked_14 : decode cX11_looked 14 = .ok (.if_icmp .ge 37, 3) := by decide +kernel
theorem dX11_looked_17 : decode cX11_looked 17 = .ok (.aload_n 0, 1) := by decide +kernel
theorem dX11_looked_18 : decode cX11_looked 18 = .ok (.getfield 25, 3) := by decide +kernel
theorem dX11_looked_21 : decode cX11_looked 21 = .ok (.aload_n 0, 1) := by decide +kernel
theorem dX11_looked_22 : decode cX11_looked 22 = .ok (.getfield 9, 3) := by decide +kernel
theorem dX11_looked_25 : decode cX11_looked 25 = .ok (.bipush 101, 2) := by decide +kernel
theorem dX11_looked_27 : decode cX11_looked 27 = .ok (.iload_n 1, 1) := by decide +kernel
theorem dX11_looked_28 : decode cX11_looked 28 = .ok (.iadd, 1) := by decide +kernel
theorem dX11_looked_29 : decode cX11_looked 29 = .ok (.iaload, 1) := by decide +kernel
theorem dX11_looked_30 : decode cX11_looked 30 = .ok (.iaload, 1) := by decide +kernel
theorem dX11_looked_31 : decode cX11_looked 31 = .ok (.aload_n 0, 1) := by decide +kernel
theorem dX11_looked_32 : decode cX11_looked 32 = .ok (.getfield 9, 3) := by decide +kernel
theorem dX11_looked_35 : decode cX11_looked 35 = .ok (.bipush 109, 2) := by decide +kernel
theorem dX11_looked_37 : decode cX11_looked 37 = .ok (.iload_n 1, 1) := by decide +kernel
theorem dX11_looked_38 : decode cX11_looked 38 = .ok (.iadd, 1) := by decide +kernel
theorem dX11_looked_39 : decode cX11_looked 39 = .ok (.iaload, 1) := by decide +kernel
theorem dX11_looked_40 : decode cX11_looked 40 = .ok (.if_icmp .eq 5, 3) := by decide +kernel
theorem dX11_looked_43 : decode cX11_looked 43 = .ok (.iload_n 1, 1) := by decide +kernel
theorem dX11_looked_44 : decode cX11_looked 44 = .ok (.ireturn, 1) := by decide +kernel
theorem dX11_looked_45 : decode cX11_looked 45 = .ok (.iinc 1 1, 3) := by decide +kernel
theorem dX11_looked_48 : decode cX11_looked 48 = .ok (.goto (-42), 3) := by decide +kernel
theorem dX11_looked_51 : decode cX11_looked 51 = .ok (.bipush (-5), 2) := by decide +kernel
theorem dX11_looked_53 : decode cX11_looked 53 = .ok (.ireturn, 1) := by decide +kernel
theorem dX11_ranBody_0 : decode cX11_ranBody 0 = .ok (.aload_n 0, 1) := by decide +kernel
theorem dX11_ranBody_1 : decode cX11_ranBody 1 = .ok (.getfield 278, 3) := by decide +kernel
theorem dX11_ranBody_4 : decode cX11_ranBody 4 = .ok (.bipush 20, 2) := by decide +kernel
theorem dX11_ranBody_6 : decode cX11_ranBody 6 = .ok (.if_icmp .ge 13, 3) := by decide +kernel
theorem dX11_ranBody_9 : decode cX11_ranBody 9 = .ok (.aload_n 0, 1) := by decide +kernel
theorem dX11_ranBody_10 : decode cX11_ranBody 10 = .ok (.getfield 58, 3) := by decide +kernel
theorem dX11_ranBody_13 : decode cX11_ranBody 13 = .ok (.aload_n 0, 1) := by decide +kernel
theorem dX11_ranBody_14 : decode cX11_ranBody 14 = .ok (.getfield 278, 3) := by decide +kernel
theorem dX11_ranBody_17 : decode cX11_ranBody 17 = .ok (.iload_n 1, 1) := by decide +kernel
theorem dX11_ranBody_18 : decode cX11_ranBody 18 = .ok (.iastore, 1) := by decide +kernel
theorem dX11_ranBody_19 : decode cX11_ranBody 19 = .ok (.aload_n 0, 1) := by decide +kernel
theorem dX11_ranBody_20 : decode cX11_ranBody 20 = .ok (.dup, 1) := by decide +kernel
theorem dX11_ranBody_21 : decode cX11_ranBody 21 = .ok (.getfield 278, 3) := by decide +kernel
theorem dX11_ranBody_24 : decode cX11_ranBody 24 = .ok (.iconst 1, 1) := by decide +kernel
theorem dX11_ranBody_25 : decode cX11_ranBody 25 = .ok (.iadd, 1) := by decide +kernel
theorem dX11_ranBody_26 : decode cX11_ranBody 26 = .ok (.putfield 278, 3) := by decide +kernel
theorem dX11_ranBody_29 : decode cX11_ranBody 29 = .ok (.return_, 1) := by decide +kernel
theorem dX11_isUnder_0 : decode cX11_isUnder 0 = .ok (.iload_n 1, 1) := by decide +kernel
theorem dX11_isUnder_1 : decode cX11_isUnder 1 = .ok (.ifCond .eq 24, 3) := by decide +kernel
theorem dX11_isUnder_4 : decode cX11_isUnder 4 = .ok (.iload_n 1, 1) := by decide +kernel
theorem dX11_isUnder_5 : decode cX11_isUnder 5 = .ok (.iload_n 0, 1) := by decide +kernel
theorem dX11_isUnder_6 : decode cX11_isUnder 6 = .ok (.if_icmp .eq 19, 3) := by decide +kernel
theorem dX11_isUnder_9 : decode cX11_isUnder 9 = .ok (.iload_n 1, 1) := by decide +kernel
theorem dX11_isUnder_10 : decode cX11_isUnder 10 = .ok (.ifCond .le 19, 3) := by decide +kernel
theorem dX11_isUnder_13 : decode cX11_isUnder 13 = .ok (.iload_n 1, 1) := by decide +kernel
theorem dX11_isUnder_14 : decode cX11_isUnder 14 = .ok (.iconst 4, 1) := by decide +kernel
theorem dX11_isUnder_15 : decode cX11_isUnder 15 = .ok (.if_icmp .ge 14, 3) := by decide +kernel
theorem dX11_isUnder_18 : decode cX11_isUnder 18 = .ok (.iload_n 0, 1) := by decide +kernel
theorem dX11_isUnder_19 : decode cX11_isUnder 19 = .ok (.iload_n 1, 1) := by decide +kernel
theorem dX11_isUnder_20 : decode cX11_isUnder 20 = .ok (.iconst 3, 1) := by decide +kernel
theorem dX11_isUnder_21 : decode cX11_isUnder 21 = .ok (.iadd, 1) := by decide +kernel
theorem dX11_isUnder_22 : decode cX11_isUnder 22 = .ok (.if_icmp .ne 7, 3) := by decide +kernel
theorem dX11_isUnder_25 : decode cX11_isUnder 25 = .ok (.iconst 1, 1) := by decide +kernel
theorem dX11_isUnder_26 : decode cX11_isUnder 26 = .ok (.goto 4, 3) := by decide +kernel
theorem dX11_isUnder_29 : decode cX11_isUnder 29 = .ok (.iconst 0, 1) := by decide +kernel
theorem dX11_isUnder_30 : decode cX11_isUnder 30 = .ok (.ireturn, 1) := by decide +kernel
theorem dX11_plainShows_0 : decode cX11_plainShows 0 = .ok (.aload_n 0, 1) := by decide +kernel
theorem dX11_plainShows_1 : decode cX11_plainShows 1 = .ok (.iconst 1, 1) := by decide +kernel
theorem dX11_plainShows_2 : decode cX11_plainShows 2 = .ok (.invokevirtual 281, 3) := by decide +kernel
theorem dX11_plainShows_5 : decode cX11_plainShows 5 = .ok (.iload_n 1, 1) := by decide +kernel
theorem dX11_plainShows_6 : decode cX11_plainShows 6 = .ok (.aload_n 0, 1) := by decide +kernel
theorem dX11_plainShows_7 : decode cX11_plainShows 7 = .ok (.getfield 284, 3) := by decide +kernel
theorem dX11_plainShows_10 : decode cX11_plainShows 10 = .ok (.iadd, 1) := by decide +kernel
theorem dX11_plainShows_11 : decode cX11_plainShows 11 = .ok (.ireturn, 1) := by decide +kernel
theorem dX11_showsActs_0 : decode cX11_showsActs 0 = .ok (.aload_n 0, 1) := by decide +kernel
theorem dX11_showsActs_1 : decode cX11_showsActs 1 = .ok (.getfield 287, 3) := by decide +kernel
theorem dX11_showsActs_4 : decode cX11_showsActs 4 = .ok (.iconst 1, 1) := by decide +kernel
theorem dX11_showsActs_5 : decode cX11_showsActs 5 = .ok (.invokestatic 290, 3) := by decide +kernel
theorem dX11_showsActs_8 : decode cX11_showsActs 8 = .ok (.ifCond .eq 17, 3) := by decide +kernel
theorem dX11_showsActs_11 : decode cX11_showsActs 11 = .ok (.aload_n 0, 1) := by decide +kernel
theorem dX11_showsActs_12 : decode cX11_showsActs 12 = .ok (.bipush 11, 2) := by decide +kernel
theorem dX11_showsActs_14 : decode cX11_showsActs 14 = .ok (.invokevirtual 281, 3) := by decide +kernel
theorem dX11_showsActs_17 : decode cX11_showsActs 17 = .ok (.aload_n 0, 1) := by decide +kernel
theorem dX11_showsActs_18 : decode cX11_showsActs 18 = .ok (.iload_n 1, 1) := by decide +kernel
theorem dX11_showsActs_19 : decode cX11_showsActs 19 = .ok (.iconst 3, 1) := by decide +kernel
theorem dX11_showsActs_20 : decode cX11_showsActs 20 = .ok (.imul, 1) := by decide +kernel
theorem dX11_showsActs_21 : decode cX11_showsActs 21 = .ok (.invokevirtual 294, 3) := by decide +kernel
theorem dX11_showsActs_24 : decode cX11_showsActs 24 = .ok (.ireturn, 1) := by decide +kernel
theorem dX11_showsActs_25 : decode cX11_showsActs 25 = .ok (.aload_n 0, 1) := by decide +kernel
theorem dX11_showsActs_26 : decode cX11_showsActs 26 = .ok (.getfield 287, 3) := by decide +kernel
theorem dX11_showsActs_29 : decode cX11_showsActs 29 = .ok (.iconst 5, 1) := by decide +kernel
theorem dX11_showsActs_30 : decode cX11_showsActs 30 = .ok (.if_icmp .ne 20, 3) := by decide +kernel
theorem dX11_showsActs_33 : decode cX11_showsActs 33 = .ok (.aload_n 0, 1) := by decide +kernel
theorem dX11_showsActs_34 : decode cX11_showsActs 34 = .ok (.bipush 51, 2) := by decide +kernel
theorem dX11_showsActs_36 : decode cX11_showsActs 36 = .ok (.invokevirtual 281, 3) := by decide +kernel
theorem dX11_showsActs_39 : decode cX11_showsActs 39 = .ok (.aload_n 0, 1) := by decide +kernel
theorem dX11_showsActs_40 : decode cX11_showsActs 40 = .ok (.iload_n 1, 1) := by decide +kernel
theorem dX11_showsActs_41 : decode cX11_showsActs 41 = .ok (.invokevirtual 294, 3) := by decide +kernel
theorem dX11_showsActs_44 : decode cX11_showsActs 44 = .ok (.aload_n 0, 1) := by decide +kernel
theorem dX11_showsActs_45 : decode cX11_showsActs 45 = .ok (.getfield 284, 3) := by decide +kernel
theorem dX11_showsActs_48 : decode cX11_showsActs 48 = .ok (.ixor, 1) := by decide +kernel
theorem dX11_showsActs_49 : decode cX11_showsActs 49 = .ok (.ireturn, 1) := by decide +kernel
theorem dX11_showsActs_50 : decode cX11_showsActs 50 = .ok (.aload_n 0, 1) := by decide +kernel
theorem dX11_showsActs_51 : decode cX11_showsActs 51 = .ok (.iload_n 1, 1) := by decide +kernel
theorem dX11_showsActs_52 : decode cX11_showsActs 52 = .ok (.invokevirtual 294, 3) := by decide +kernel
theorem dX11_showsActs_55 : decode cX11_showsActs 55 = .ok (.ireturn, 1) := by decide +kernel
theorem dX11_plainPays_0 : decode cX11_plainPays 0 = .ok (.aload_n 0, 1) := by decide +kernel
theorem dX11_plainPays_1 : decode cX11_plainPays 1 = .ok (.iconst 2, 1) := by decide +kernel
theorem dX11_plainPays_2 : decode cX11_plainPays 2 = .ok (.invokevirtual 281, 3) := by decide +kernel
theorem dX11_plainPays_5 : decode cX11_plainPays 5 = .ok (.aload_n 0, 1) := by decide +kernel
theorem dX11_plainPays_6 : decode cX11_plainPays 6 = .ok (.iload_n 1, 1) := by decide +kernel
theorem dX11_plainPays_7 : decode cX11_plainPays 7 = .ok (.invokevirtual 297, 3) := by decide +kernel
theorem dX11_plainPays_10 : decode cX11_plainPays 10 = .ok (.aload_n 0, 1) := by decide +kernel
theorem dX11_plainPays_11 : decode cX11_plainPays 11 = .ok (.getfield 300, 3) := by decide +kernel
theorem dX11_plainPays_14 : decode cX11_plainPays 14 = .ok (.isub, 1) := by decide +kernel
theorem dX11_plainPays_15 : decode cX11_plainPays 15 = .ok (.ireturn, 1) := by decide +kernel
theorem dX11_paysActs_0 : decode cX11_paysActs 0 = .ok (.aload_n 0, 1) := by decide +kernel
theorem dX11_paysActs_1 : decode cX11_paysActs 1 = .ok (.getfield 287, 3) := by decide +kernel
theorem dX11_paysActs_4 : decode cX11_paysActs 4 = .ok (.iconst 2, 1) := by decide +kernel
theorem dX11_paysActs_5 : decode cX11_paysActs 5 = .ok (.invokestatic 290, 3) := by decide +kernel
theorem dX11_paysActs_8 : decode cX11_paysActs 8 = .ok (.ifCond .eq 16, 3) := by decide +kernel
theorem dX11_paysActs_11 : decode cX11_paysActs 11 = .ok (.aload_n 0, 1) := by decide +kernel
theorem dX11_paysActs_12 : decode cX11_paysActs 12 = .ok (.bipush 21, 2) := by decide +kernel
theorem dX11_paysActs_14 : decode cX11_paysActs 14 = .ok (.invokevirtual 281, 3) := by decide +kernel
theorem dX11_paysActs_17 : decode cX11_paysActs 17 = .ok (.aload_n 0, 1) := by decide +kernel
theorem dX11_paysActs_18 : decode cX11_paysActs 18 = .ok (.iload_n 1, 1) := by decide +kernel
theorem dX11_paysActs_19 : decode cX11_paysActs 19 = .ok (.invokevirtual 303, 3) := by decide +kernel
theorem dX11_paysActs_22 : decode cX11_paysActs 22 = .ok (.ineg, 1) := by decide +kernel
theorem dX11_paysActs_23 : decode cX11_paysActs 23 = .ok (.ireturn, 1) := by decide +kernel
theorem dX11_paysActs_24 : decode cX11_paysActs 24 = .ok (.aload_n 0, 1) := by decide +kernel
theorem dX11_paysActs_25 : decode cX11_paysActs 25 = .ok (.getfield 287, 3) := by decide +kernel
theorem dX11_paysActs_28 : decode cX11_paysActs 28 = .ok (.bipush 6, 2) := by decide +kernel
theorem dX11_paysActs_30 : decode cX11_paysActs 30 = .ok (.if_icmp .ne 20, 3) := by decide +kernel
theorem dX11_paysActs_33 : decode cX11_paysActs 33 = .ok (.aload_n 0, 1) := by decide +kernel
theorem dX11_paysActs_34 : decode cX11_paysActs 34 = .ok (.bipush 61, 2) := by decide +kernel
theorem dX11_paysActs_36 : decode cX11_paysActs 36 = .ok (.invokevirtual 281, 3) := by decide +kernel
theorem dX11_paysActs_39 : decode cX11_paysActs 39 = .ok (.aload_n 0, 1) := by decide +kernel
theorem dX11_paysActs_40 : decode cX11_paysActs 40 = .ok (.iload_n 1, 1) := by decide +kernel
theorem dX11_paysActs_41 : decode cX11_paysActs 41 = .ok (.invokevirtual 303, 3) := by decide +kernel
theorem dX11_paysActs_44 : decode cX11_paysActs 44 = .ok (.aload_n 0, 1) := by decide +kernel
theorem dX11_paysActs_45 : decode cX11_paysActs 45 = .ok (.getfield 300, 3) := by decide +kernel
theorem dX11_paysActs_48 : decode cX11_paysActs 48 = .ok (.iadd, 1) := by decide +kernel
theorem dX11_paysActs_49 : decode cX11_paysActs 49 = .ok (.ireturn, 1) := by decide +kernel
theorem dX11_paysActs_50 : decode cX11_paysActs 50 = .ok (.aload_n 0, 1) := by decide +kernel
theorem dX11_paysActs_51 : decode cX11_paysActs 51 = .ok (.iload_n 1, 1) := by decide +kernel
theorem dX11_paysActs_52 : decode cX11_paysActs 52 = .ok (.invokevirtual 303, 3) := by decide +kernel
theorem dX11_paysActs_55 : decode cX11_paysActs 55 = .ok (.ireturn, 1) := by decide +kernel
theorem dX11_plainTells_0 : decode cX11_plainTells 0 = .ok (.aload_n 0, 1) := by decide +kernel
theorem dX11_plainTells_1 : decode cX11_plainTells 1 = .ok (.iconst 3, 1) := by decide +kernel
theorem dX11_plainTells_2 : decode cX11_plainTells 2 = .ok (.invokevirtual 281, 3) := by decide +kernel
theorem dX11_plainTells_5 : decode cX11_plainTells 5 = .ok (.aload_n 0, 1) := by decide +kernel
theorem dX11_plainTells_6 : decode cX11_plainTells 6 = .ok (.iload_n 1, 1) := by decide +kernel
theorem dX11_plainTells_7 : decode cX11_plainTells 7 = .ok (.invokevirtual 306, 3) := by decide +kernel
theorem dX11_plainTells_10 : decode cX11_plainTells 10 = .ok (.iconst 2, 1) := by decide +kernel
theorem dX11_plainTells_11 : decode cX11_plainTells 11 = .ok (.imul, 1) := by decide +kernel
theorem dX11_plainTells_12 : decode cX11_plainTells 12 = .ok (.ireturn, 1) := by decide +kernel
theorem dX11_tellsActs_0 : decode cX11_tellsActs 0 = .ok (.aload_n 0, 1) := by decide +kernel
theorem dX11_tellsActs_1 : decode cX11_tellsActs 1 = .ok (.getfield 287, 3) := by decide +kernel
theorem dX11_tellsActs_4 : decode cX11_tellsActs 4 = .ok (.iconst 3, 1) := by decide +kernel
theorem dX11_tellsActs_5 : decode cX11_tellsActs 5 = .ok (.invokestatic 290, 3) := by decide +kernel
theorem dX11_tellsActs_8 : decode cX11_tellsActs 8 = .ok (.ifCond .eq 18, 3) := by decide +kernel
theorem dX11_tellsActs_11 : decode cX11_tellsActs 11 = .ok (.aload_n 0, 1) := by decide +kernel
theorem dX11_tellsActs_12 : decode cX11_tellsActs 12 = .ok (.bipush 31, 2) := by decide +kernel
theorem dX11_tellsActs_14 : decode cX11_tellsActs 14 = .ok (.invokevirtual 281, 3) := by decide +kernel
theorem dX11_tellsActs_17 : decode cX11_tellsActs 17 = .ok (.aload_n 0, 1) := by decide +kernel
theorem dX11_tellsActs_18 : decode cX11_tellsActs 18 = .ok (.iload_n 1, 1) := by decide +kernel
theorem dX11_tellsActs_19 : decode cX11_tellsActs 19 = .ok (.invokevirtual 309, 3) := by decide +kernel
theorem dX11_tellsActs_22 : decode cX11_tellsActs 22 = .ok (.bipush 7, 2) := by decide +kernel
theorem dX11_tellsActs_24 : decode cX11_tellsActs 24 = .ok (.ixor, 1) := by decide +kernel
theorem dX11_tellsActs_25 : decode cX11_tellsActs 25 = .ok (.ireturn, 1) := by decide +kernel
theorem dX11_tellsActs_26 : decode cX11_tellsActs 26 = .ok (.aload_n 0, 1) := by decide +kernel
theorem dX11_tellsActs_27 : decode cX11_tellsActs 27 = .ok (.getfield 287, 3) := by decide +kernel
theorem dX11_tellsActs_30 : decode cX11_tellsActs 30 = .ok (.iconst 4, 1) := by decide +kernel
theorem dX11_tellsActs_31 : decode cX11_tellsActs 31 = .ok (.if_icmp .ne 25, 3) := by decide +kernel
theorem dX11_tellsActs_34 : decode cX11_tellsActs 34 = .ok (.aload_n 0, 1) := by decide +kernel
theorem dX11_tellsActs_35 : decode cX11_tellsActs 35 = .ok (.bipush 41, 2) := by decide +kernel
theorem dX11_tellsActs_37 : decode cX11_tellsActs 37 = .ok (.invokevirtual 281, 3) := by decide +kernel
theorem dX11_tellsActs_40 : decode cX11_tellsActs 40 = .ok (.aload_n 0, 1) := by decide +kernel
theorem dX11_tellsActs_41 : decode cX11_tellsActs 41 = .ok (.iload_n 1, 1) := by decide +kernel
theorem dX11_tellsActs_42 : decode cX11_tellsActs 42 = .ok (.iconst 1, 1) := by decide +kernel
theorem dX11_tellsActs_43 : decode cX11_tellsActs 43 = .ok (.isub, 1) := by decide +kernel
theorem dX11_tellsActs_44 : decode cX11_tellsActs 44 = .ok (.invokevirtual 309, 3) := by decide +kernel
theorem dX11_tellsActs_47 : decode cX11_tellsActs 47 = .ok (.istore_n 2, 1) := by decide +kernel
theorem dX11_tellsActs_48 : decode cX11_tellsActs 48 = .ok (.iload_n 2, 1) := by decide +kernel
theorem dX11_tellsActs_49 : decode cX11_tellsActs 49 = .ok (.aload_n 0, 1) := by decide +kernel
theorem dX11_tellsActs_50 : decode cX11_tellsActs 50 = .ok (.iconst 2, 1) := by decide +kernel
theorem dX11_tellsActs_51 : decode cX11_tellsActs 51 = .ok (.invokevirtual 297, 3) := by decide +kernel
theorem dX11_tellsActs_54 : decode cX11_tellsActs 54 = .ok (.iadd, 1) := by decide +kernel
theorem dX11_tellsActs_55 : decode cX11_tellsActs 55 = .ok (.ireturn, 1) := by decide +kernel
theorem dX11_tellsActs_56 : decode cX11_tellsActs 56 = .ok (.aload_n 0, 1) := by decide +kernel
theorem dX11_tellsActs_57 : decode cX11_tellsActs 57 = .ok (.iload_n 1, 1) := by decide +kernel
theorem dX11_tellsActs_58 : decode cX11_tellsActs 58 = .ok (.invokevirtual 309, 3) := by decide +kernel
theorem dX11_tellsActs_61 : decode cX11_tellsActs 61 = .ok (.ireturn, 1) := by decide +kernel
theorem dX11_act_0 : decode cX11_act 0 = .ok (.aload_n 0, 1) := by decide +kernel
theorem dX11_act_1 : decode cX11_act 1 = .ok (.iconst 0, 1) := by decide +kernel
theorem dX11_act_2 : decode cX11_act 2 = .ok (.putfield 278, 3) := by decide +kernel
theorem dX11_act_5 : decode cX11_act 5 = .ok (.aload_n 0, 1) := by decide +kernel
theorem dX11_act_6 : decode cX11_act 6 = .ok (.iload_n 1, 1) := by decide +kernel
theorem dX11_act_7 : decode cX11_act 7 = .ok (.invokevirtual 161, 3) := by decide +kernel
theorem dX11_act_10 : decode cX11_act 10 = .ok (.ifCond .eq 12, 3) := by decide +kernel
theorem dX11_act_13 : decode cX11_act 13 = .ok (.iload_n 2, 1) := by decide +kernel
theorem dX11_act_14 : decode cX11_act 14 = .ok (.iconst 0, 1) := by decide +kernel
theorem dX11_act_15 : decode cX11_act 15 = .ok (.iconst 2, 1) := by decide +kernel
theorem dX11_act_16 : decode cX11_act 16 = .ok (.invokestatic 65, 3) := by decide +kernel
theorem dX11_act_19 : decode cX11_act 19 = .ok (.ifCond .ne 5, 3) := by decide +kernel
theorem dX11_act_22 : decode cX11_act 22 = .ok (.iconst 0, 1) := by decide +kernel
theorem dX11_act_23 : decode cX11_act 23 = .ok (.ireturn, 1) := by decide +kernel
theorem dX11_act_24 : decode cX11_act 24 = .ok (.aload_n 0, 1) := by decide +kernel
theorem dX11_act_25 : decode cX11_act 25 = .ok (.aload_n 0, 1) := by decide +kernel
theorem dX11_act_26 : decode cX11_act 26 = .ok (.getfield 9, 3) := by decide +kernel
theorem dX11_act_29 : decode cX11_act 29 = .ok (.bipush 10, 2) := by decide +kernel
theorem dX11_act_31 : decode cX11_act 31 = .ok (.iload_n 1, 1) := by decide +kernel
theorem dX11_act_32 : decode cX11_act 32 = .ok (.iadd, 1) := by decide +kernel
theorem dX11_act_33 : decode cX11_act 33 = .ok (.iaload, 1) := by decide +kernel
theorem dX11_act_34 : decode cX11_act 34 = .ok (.putfield 287, 3) := by decide +kernel
theorem dX11_act_37 : decode cX11_act 37 = .ok (.aload_n 0, 1) := by decide +kernel
theorem dX11_act_38 : decode cX11_act 38 = .ok (.iload_n 1, 1) := by decide +kernel
theorem dX11_act_39 : decode cX11_act 39 = .ok (.putfield 284, 3) := by decide +kernel
theorem dX11_act_42 : decode cX11_act 42 = .ok (.aload_n 0, 1) := by decide +kernel
theorem dX11_act_43 : decode cX11_act 43 = .ok (.aload_n 0, 1) := by decide +kernel
theorem dX11_act_44 : decode cX11_act 44 = .ok (.getfield 9, 3) := by decide +kernel
theorem dX11_act_47 : decode cX11_act 47 = .ok (.bipush 14, 2) := by decide +kernel
theorem dX11_act_49 : decode cX11_act 49 = .ok (.iload_n 1, 1) := by decide +kernel
theorem dX11_act_50 : decode cX11_act 50 = .ok (.iadd, 1) := by decide +kernel
theorem dX11_act_51 : decode cX11_act 51 = .ok (.iaload, 1) := by decide +kernel
theorem dX11_act_52 : decode cX11_act 52 = .ok (.putfield 300, 3) := by decide +kernel
theorem dX11_act_55 : decode cX11_act 55 = .ok (.iload_n 2, 1) := by decide +kernel
theorem dX11_act_56 : decode cX11_act 56 = .ok (.ifCond .ne 11, 3) := by decide +kernel
theorem dX11_act_59 : decode cX11_act 59 = .ok (.aload_n 0, 1) := by decide +kernel
theorem dX11_act_60 : decode cX11_act 60 = .ok (.iload_n 3, 1) := by decide +kernel
theorem dX11_act_61 : decode cX11_act 61 = .ok (.invokevirtual 297, 3) := by decide +kernel
theorem dX11_act_64 : decode cX11_act 64 = .ok (.goto 21, 3) := by decide +kernel
theorem dX11_act_67 : decode cX11_act 67 = .ok (.iload_n 2, 1) := by decide +kernel
theorem dX11_act_68 : decode cX11_act 68 = .ok (.iconst 1, 1) := by decide +kernel
theorem dX11_act_69 : decode cX11_act 69 = .ok (.if_icmp .ne 11, 3) := by decide +kernel
theorem dX11_act_72 : decode cX11_act 72 = .ok (.aload_n 0, 1) := by decide +kernel
theorem dX11_act_73 : decode cX11_act 73 = .ok (.iload_n 3, 1) := by decide +kernel
theorem dX11_act_74 : decode cX11_act 74 = .ok (.invokevirtual 306, 3) := by decide +kernel
theorem dX11_act_77 : decode cX11_act 77 = .ok (.goto 8, 3) := by decide +kernel
theorem dX11_act_80 : decode cX11_act 80 = .ok (.aload_n 0, 1) := by decide +kernel
theorem dX11_act_81 : decode cX11_act 81 = .ok (.iload_n 3, 1) := by decide +kernel
theorem dX11_act_82 : decode cX11_act 82 = .ok (.invokevirtual 312, 3) := by decide +kernel
theorem dX11_act_85 : decode cX11_act 85 = .ok (.ireturn, 1) := by decide +kernel
theorem dX11_trace_0 : decode cX11_trace 0 = .ok (.iload_n 1, 1) := by decide +kernel
theorem dX11_trace_1 : decode cX11_trace 1 = .ok (.iconst 0, 1) := by decide +kernel
theorem dX11_trace_2 : decode cX11_trace 2 = .ok (.aload_n 0, 1) := by decide +kernel
theorem dX11_trace_3 : decode cX11_trace 3 = .ok (.getfield 278, 3) := by decide +kernel
theorem dX11_trace_6 : decode cX11_trace 6 = .ok (.bipush 20, 2) := by decide +kernel
theorem dX11_trace_8 : decode cX11_trace 8 = .ok (.if_icmp .ge 10, 3) := by decide +kernel
theorem dX11_trace_11 : decode cX11_trace 11 = .ok (.aload_n 0, 1) := by decide +kernel
theorem dX11_trace_12 : decode cX11_trace 12 = .ok (.getfield 278, 3) := by decide +kernel
theorem dX11_trace_15 : decode cX11_trace 15 = .ok (.goto 5, 3) := by decide +kernel
theorem dX11_trace_18 : decode cX11_trace 18 = .ok (.bipush 20, 2) := by decide +kernel
theorem dX11_trace_20 : decode cX11_trace 20 = .ok (.iconst 1, 1) := by decide +kernel
theorem dX11_trace_21 : decode cX11_trace 21 = .ok (.isub, 1) := by decide +kernel
theorem dX11_trace_22 : decode cX11_trace 22 = .ok (.invokestatic 65, 3) := by decide +kernel
theorem dX11_trace_25 : decode cX11_trace 25 = .ok (.ifCond .eq 12, 3) := by decide +kernel
theorem dX11_trace_28 : decode cX11_trace 28 = .ok (.aload_n 0, 1) := by decide +kernel
theorem dX11_trace_29 : decode cX11_trace 29 = .ok (.getfield 58, 3) := by decide +kernel
theorem dX11_trace_32 : decode cX11_trace 32 = .ok (.iload_n 1, 1) := by decide +kernel
theorem dX11_trace_33 : decode cX11_trace 33 = .ok (.iaload, 1) := by decide +kernel
theorem dX11_trace_34 : decode cX11_trace 34 = .ok (.goto 4, 3) := by decide +kernel
theorem dX11_trace_37 : decode cX11_trace 37 = .ok (.iconst (-1), 1) := by decide +kernel
theorem dX11_trace_38 : decode cX11_trace 38 = .ok (.ireturn, 1) := by decide +kernel
theorem dX11_as_0 : decode cX11_as 0 = .ok (.aload_n 0, 1) := by decide +kernel
theorem dX11_as_1 : decode cX11_as 1 = .ok (.iload_n 1, 1) := by decide +kernel
theorem dX11_as_2 : decode cX11_as 2 = .ok (.invokevirtual 161, 3) := by decide +kernel
theorem dX11_as_5 : decode cX11_as 5 = .ok (.ifCond .eq 13, 3) := by decide +kernel
theorem dX11_as_8 : decode cX11_as 8 = .ok (.iload_n 2, 1) := by decide +kernel
theorem dX11_as_9 : decode cX11_as 9 = .ok (.iconst 0, 1) := by decide +kernel
theorem dX11_as_10 : decode cX11_as 10 = .ok (.bipush 6, 2) := by decide +kernel
theorem dX11_as_12 : decode cX11_as 12 = .ok (.invokestatic 65, 3) := by decide +kernel
theorem dX11_as_15 : decode cX11_as 15 = .ok (.ifCond .ne 5, 3) := by decide +kernel
theorem dX11_as_18 : decode cX11_as 18 = .ok (.iconst (-1), 1) := by decide +kernel
theorem dX11_as_19 : decode cX11_as 19 = .ok (.ireturn, 1) := by decide +kernel
theorem dX11_as_20 : decode cX11_as 20 = .ok (.aload_n 0, 1) := by decide +kernel
theorem dX11_as_21 : decode cX11_as 21 = .ok (.getfield 9, 3) := by decide +kernel
theorem dX11_as_24 : decode cX11_as 24 = .ok (.bipush 10, 2) := by decide +kernel
theorem dX11_as_26 : decode cX11_as 26 = .ok (.iload_n 1, 1) := by decide +kernel
theorem dX11_as_27 : decode cX11_as 27 = .ok (.iadd, 1) := by decide +kernel
theorem dX11_as_28 : decode cX11_as 28 = .ok (.iaload, 1) := by decide +kernel
theorem dX11_as_29 : decode cX11_as 29 = .ok (.iload_n 2, 1) := by decide +kernel
theorem dX11_as_30 : decode cX11_as 30 = .ok (.invokestatic 290, 3) := by decide +kernel
theorem dX11_as_33 : decode cX11_as 33 = .ok (.ifCond .eq 15, 3) := by decide +kernel
theorem dX11_as_36 : decode cX11_as 36 = .ok (.aload_n 0, 1) := by decide +kernel
theorem dX11_as_37 : decode cX11_as 37 = .ok (.getfield 9, 3) := by decide +kernel
theorem dX11_as_40 : decode cX11_as 40 = .ok (.bipush 14, 2) := by decide +kernel
theorem dX11_as_42 : decode cX11_as 42 = .ok (.iload_n 1, 1) := by decide +kernel
theorem dX11_as_43 : decode cX11_as 43 = .ok (.iadd, 1) := by decide +kernel
theorem dX11_as_44 : decode cX11_as 44 = .ok (.iaload, 1) := by decide +kernel
theorem dX11_as_45 : decode cX11_as 45 = .ok (.goto 5, 3) := by decide +kernel
theorem dX11_as_48 : decode cX11_as 48 = .ok (.bipush (-6), 2) := by decide +kernel
theorem dX11_as_50 : decode cX11_as 50 = .ok (.ireturn, 1) := by decide +kernel
theorem dX11_image_0 : decode cX11_image 0 = .ok (.iconst 0, 1) := by decide +kernel
theorem dX11_image_1 : decode cX11_image 1 = .ok (.istore_n 1, 1) := by decide +kernel
theorem dX11_image_2 : decode cX11_image 2 = .ok (.iload_n 1, 1) := by decide +kernel
theorem dX11_image_3 : decode cX11_image 3 = .ok (.sipush 932, 3) := by decide +kernel
theorem dX11_image_6 : decode cX11_image 6 = .ok (.if_icmp .ge 21, 3) := by decide +kernel
theorem dX11_image_9 : decode cX11_image 9 = .ok (.aload_n 0, 1) := by decide +kernel
theorem dX11_image_10 : decode cX11_image 10 = .ok (.getfield 15, 3) := by decide +kernel
theorem dX11_image_13 : decode cX11_image 13 = .ok (.iload_n 1, 1) := by decide +kernel
theorem dX11_image_14 : decode cX11_image 14 = .ok (.aload_n 0, 1) := by decide +kernel
theorem dX11_image_15 : decode cX11_image 15 = .ok (.getfield 9, 3) := by decide +kernel
theorem dX11_image_18 : decode cX11_image 18 = .ok (.iload_n 1, 1) := by decide +kernel
theorem dX11_image_19 : decode cX11_image 19 = .ok (.iaload, 1) := by decide +kernel
theorem dX11_image_20 : decode cX11_image 20 = .ok (.iastore, 1) := by decide +kernel
theorem dX11_image_21 : decode cX11_image 21 = .ok (.iinc 1 1, 3) := by decide +kernel
theorem dX11_image_24 : decode cX11_image 24 = .ok (.goto (-22), 3) := by decide +kernel
theorem dX11_image_27 : decode cX11_image 27 = .ok (.aload_n 0, 1) := by decide +kernel
theorem dX11_image_28 : decode cX11_image 28 = .ok (.iconst 1, 1) := by decide +kernel
theorem dX11_image_29 : decode cX11_image 29 = .ok (.putfield 315, 3) := by decide +kernel
theorem dX11_image_32 : decode cX11_image 32 = .ok (.aload_n 0, 1) := by decide +kernel
theorem dX11_image_33 : decode cX11_image 33 = .ok (.getfield 9, 3) := by decide +kernel
theorem dX11_image_36 : decode cX11_image 36 = .ok (.iconst 0, 1) := by decide +kernel
theorem dX11_image_37 : decode cX11_image 37 = .ok (.iaload, 1) := by decide +kernel
theorem dX11_image_38 : decode cX11_image 38 = .ok (.ireturn, 1) := by decide +kernel
theorem dX11_undo_0 : decode cX11_undo 0 = .ok (.aload_n 0, 1) := by decide +kernel
theorem dX11_undo_1 : decode cX11_undo 1 = .ok (.getfield 315, 3) := by decide +kernel
theorem dX11_undo_4 : decode cX11_undo 4 = .ok (.ifCond .ne 6, 3) := by decide +kernel
theorem dX11_undo_7 : decode cX11_undo 7 = .ok (.bipush (-3), 2) := by decide +kernel
theorem dX11_undo_9 : decode cX11_undo 9 = .ok (.ireturn, 1) := by decide +kernel
theorem dX11_undo_10 : decode cX11_undo 10 = .ok (.iconst 0, 1) := by decide +kernel
theorem dX11_undo_11 : decode cX11_undo 11 = .ok (.istore_n 1, 1) := by decide +kernel
theorem dX11_undo_12 : decode cX11_undo 12 = .ok (.iload_n 1, 1) := by decide +kernel
theorem dX11_undo_13 : decode cX11_undo 13 = .ok (.sipush 932, 3) := by decide +kernel
theorem dX11_undo_16 : decode cX11_undo 16 = .ok (.if_icmp .ge 21, 3) := by decide +kernel
theorem dX11_undo_19 : decode cX11_undo 19 = .ok (.aload_n 0, 1) := by decide +kernel
theorem dX11_undo_20 : decode cX11_undo 20 = .ok (.getfield 9, 3) := by decide +kernel
theorem dX11_undo_23 : decode cX11_undo 23 = .ok (.iload_n 1, 1) := by decide +kernel
theorem dX11_undo_24 : decode cX11_undo 24 = .ok (.aload_n 0, 1) := by decide +kernel
theorem dX11_undo_25 : decode cX11_undo 25 = .ok (.getfield 15, 3) := by decide +kernel
theorem dX11_undo_28 : decode cX11_undo 28 = .ok (.iload_n 1, 1) := by decide +kernel
theorem dX11_undo_29 : decode cX11_undo 29 = .ok (.iaload, 1) := by decide +kernel
theorem dX11_undo_30 : decode cX11_undo 30 = .ok (.iastore, 1) := by decide +kernel
theorem dX11_undo_31 : decode cX11_undo 31 = .ok (.iinc 1 1, 3) := by decide +kernel
theorem dX11_undo_34 : decode cX11_undo 34 = .ok (.goto (-22), 3) := by decide +kernel
theorem dX11_undo_37 : decode cX11_undo 37 = .ok (.aload_n 0, 1) := by decide +kernel
theorem dX11_undo_38 : decode cX11_undo 38 = .ok (.getfield 9, 3) := by decide +kernel
theorem dX11_undo_41 : decode cX11_undo 41 = .ok (.iconst 0, 1) := by decide +kernel
theorem dX11_undo_42 : decode cX11_undo 42 = .ok (.iaload, 1) := by decide +kernel
theorem dX11_undo_43 : decode cX11_undo 43 = .ok (.ireturn, 1) := by decide +kernel
theorem dX11_count_0 : decode cX11_count 0 = .ok (.iload_n 1, 1) := by decide +kernel
theorem dX11_count_1 : decode cX11_count 1 = .ok (.bipush 8, 2) := by decide +kernel
theorem dX11_count_3 : decode cX11_count 3 = .ok (.if_icmp .ne 10, 3) := by decide +kernel
theorem dX11_count_6 : decode cX11_count 6 = .ok (.aload_n 0, 1) := by decide +kernel
theorem dX11_count_7 : decode cX11_count 7 = .ok (.getfield 278, 3) := by decide +kernel
theorem dX11_count_10 : decode cX11_count 10 = .ok (.goto 25, 3) := by decide +kernel
theorem dX11_count_13 : decode cX11_count 13 = .ok (.iload_n 1, 1) := by decide +kernel
theorem dX11_count_14 : decode cX11_count 14 = .ok (.iconst 0, 1) := by decide +kernel
theorem dX11_count_15 : decode cX11_count 15 = .ok (.bipush 7, 2) := by decide +kernel
theorem dX11_count_17 : decode cX11_count 17 = .ok (.invokestatic 65, 3) := by decide +kernel
theorem dX11_count_20 : decode cX11_count 20 = .ok (.ifCond .eq 14, 3) := by decide +kernel
theorem dX11_count_23 : decode cX11_count 23 = .ok (.aload_n 0, 1) := by decide +kernel
theorem dX11_count_24 : decode cX11_count 24 = .ok (.getfield 9, 3) := by decide +kernel
theorem dX11_count_27 : decode cX11_count 27 = .ok (.iconst 0, 1) := by decide +kernel
theorem dX11_count_28 : decode cX11_count 28 = .ok (.iload_n 1, 1) := by decide +kernel
theorem dX11_count_29 : decode cX11_count 29 = .ok (.iadd, 1) := by decide +kernel
theorem dX11_count_30 : decode cX11_count 30 = .ok (.iaload, 1) := by decide +kernel
theorem dX11_count_31 : decode cX11_count 31 = .ok (.goto 4, 3) := by decide +kernel
theorem dX11_count_34 : decode cX11_count 34 = .ok (.iconst (-1), 1) := by decide +kernel
theorem dX11_count_35 : decode cX11_count 35 = .ok (.ireturn, 1) := by decide +kernel
theorem dJ11_isValidCodePoint_9a6ad_0 : decode cJ11_isValidCodePoint_9a6ad 0 = .ok (.iload_n 0, 1) := by decide +kernel
theorem dJ11_isValidCodePoint_9a6ad_1 : decode cJ11_isValidCodePoint_9a6ad 1 = .ok (.bipush 16, 2) := by decide +kernel
theorem dJ11_isValidCodePoint_9a6ad_3 : decode cJ11_isValidCodePoint_9a6ad 3 = .ok (.iushr, 1) := by decide +kernel
theorem dJ11_isValidCodePoint_9a6ad_4 : decode cJ11_isValidCodePoint_9a6ad 4 = .ok (.istore_n 1, 1) := by decide +kernel
theorem dJ11_isValidCodePoint_9a6ad_5 : decode cJ11_isValidCodePoint_9a6ad 5 = .ok (.iload_n 1, 1) := by decide +kernel
theorem dJ11_isValidCodePoint_9a6ad_6 : decode cJ11_isValidCodePoint_9a6ad 6 = .ok (.bipush 17, 2) := by decide +kernel
theorem dJ11_isValidCodePoint_9a6ad_8 : decode cJ11_isValidCodePoint_9a6ad 8 = .ok (.if_icmp .ge 7, 3) := by decide +kernel
theorem dJ11_isValidCodePoint_9a6ad_11 : decode cJ11_isValidCodePoint_9a6ad 11 = .ok (.iconst 1, 1) := by decide +kernel
theorem dJ11_isValidCodePoint_9a6ad_12 : decode cJ11_isValidCodePoint_9a6ad 12 = .ok (.goto 4, 3) := by decide +kernel
theorem dJ11_isValidCodePoint_9a6ad_15 : decode cJ11_isValidCodePoint_9a6ad 15 = .ok (.iconst 0, 1) := by decide +kernel
theorem dJ11_isValidCodePoint_9a6ad_16 : decode cJ11_isValidCodePoint_9a6ad 16 = .ok (.ireturn, 1) := by decide +kernel
theorem dJ11_highSurrogate_5068e_0 : decode cJ11_highSurrogate_5068e 0 = .ok (.iload_n 0, 1) := by decide +kernel
theorem dJ11_highSurrogate_5068e_1 : decode cJ11_highSurrogate_5068e 1 = .ok (.bipush 10, 2) := by decide +kernel
theorem dJ11_highSurrogate_5068e_3 : decode cJ11_highSurrogate_5068e 3 = .ok (.iushr, 1) := by decide +kernel
theorem dJ11_highSurrogate_5068e_4 : decode cJ11_highSurrogate_5068e 4 = .ok (.ldc 110, 2) := by decide +kernel
theorem dJ11_highSurrogate_5068e_6 : decode cJ11_highSurrogate_5068e 6 = .ok (.iadd, 1) := by decide +kernel
theorem dJ11_highSurrogate_5068e_7 : decode cJ11_highSurrogate_5068e 7 = .ok (.i2c, 1) := by decide +kernel
theorem dJ11_highSurrogate_5068e_8 : decode cJ11_highSurrogate_5068e 8 = .ok (.ireturn, 1) := by decide +kernel
theorem dJ11_lowSurrogate_5068e_0 : decode cJ11_lowSurrogate_5068e 0 = .ok (.iload_n 0, 1) := by decide +kernel
theorem dJ11_lowSurrogate_5068e_1 : decode cJ11_lowSurrogate_5068e 1 = .ok (.sipush 1023, 3) := by decide +kernel
theorem dJ11_lowSurrogate_5068e_4 : decode cJ11_lowSurrogate_5068e 4 = .ok (.iand, 1) := by decide +kernel
theorem dJ11_lowSurrogate_5068e_5 : decode cJ11_lowSurrogate_5068e 5 = .ok (.ldc 76, 2) := by decide +kernel
theorem dJ11_lowSurrogate_5068e_7 : decode cJ11_lowSurrogate_5068e 7 = .ok (.iadd, 1) := by decide +kernel
theorem dJ11_lowSurrogate_5068e_8 : decode cJ11_lowSurrogate_5068e 8 = .ok (.i2c, 1) := by decide +kernel
theorem dJ11_lowSurrogate_5068e_9 : decode cJ11_lowSurrogate_5068e 9 = .ok (.ireturn, 1) := by decide +kernel
theorem dJ6_compare_7cf53_0 : decode cJ6_compare_7cf53 0 = .ok (.iload_n 0, 1) := by decide +kernel
theorem dJ6_compare_7cf53_1 : decode cJ6_compare_7cf53 1 = .ok (.iload_n 1, 1) := by decide +kernel
theorem dJ6_compare_7cf53_2 : decode cJ6_compare_7cf53 2 = .ok (.if_icmp .ge 7, 3) := by decide +kernel
theorem dJ6_compare_7cf53_5 : decode cJ6_compare_7cf53 5 = .ok (.iconst (-1), 1) := by decide +kernel
theorem dJ6_compare_7cf53_6 : decode cJ6_compare_7cf53 6 = .ok (.goto 13, 3) := by decide +kernel
theorem dJ6_compare_7cf53_9 : decode cJ6_compare_7cf53 9 = .ok (.iload_n 0, 1) := by decide +kernel
theorem dJ6_compare_7cf53_10 : decode cJ6_compare_7cf53 10 = .ok (.iload_n 1, 1) := by decide +kernel
theorem dJ6_compare_7cf53_11 : decode cJ6_compare_7cf53 11 = .ok (.if_icmp .ne 7, 3) := by decide +kernel
theorem dJ6_compare_7cf53_14 : decode cJ6_compare_7cf53 14 = .ok (.iconst 0, 1) := by decide +kernel
theorem dJ6_compare_7cf53_15 : decode cJ6_compare_7cf53 15 = .ok (.goto 4, 3) := by decide +kernel
theorem dJ6_compare_7cf53_18 : decode cJ6_compare_7cf53 18 = .ok (.iconst 1, 1) := by decide +kernel
theorem dJ6_compare_7cf53_19 : decode cJ6_compare_7cf53 19 = .ok (.ireturn, 1) := by decide +kernel
theorem dJ9_abs_0f7a4_0 : decode cJ9_abs_0f7a4 0 = .ok (.iload_n 0, 1) := by decide +kernel
theorem dJ9_abs_0f7a4_1 : decode cJ9_abs_0f7a4 1 = .ok (.ifCond .ge 8, 3) := by decide +kernel
theorem dJ9_abs_0f7a4_4 : decode cJ9_abs_0f7a4 4 = .ok (.iload_n 0, 1) := by decide +kernel
theorem dJ9_abs_0f7a4_5 : decode cJ9_abs_0f7a4 5 = .ok (.ineg, 1) := by decide +kernel
theorem dJ9_abs_0f7a4_6 : decode cJ9_abs_0f7a4 6 = .ok (.goto 4, 3) := by decide +kernel
theorem dJ9_abs_0f7a4_9 : decode cJ9_abs_0f7a4 9 = .ok (.iload_n 0, 1) := by decide +kernel
theorem dJ9_abs_0f7a4_10 : decode cJ9_abs_0f7a4 10 = .ok (.ireturn, 1) := by decide +kernel
theorem dJ9_max_7cf53_0 : decode cJ9_max_7cf53 0 = .ok (.iload_n 0, 1) := by decide +kernel
theorem dJ9_max_7cf53_1 : decode cJ9_max_7cf53 1 = .ok (.iload_n 1, 1) := by decide +kernel
theorem dJ9_max_7cf53_2 : decode cJ9_max_7cf53 2 = .ok (.if_icmp .lt 7, 3) := by decide +kernel
theorem dJ9_max_7cf53_5 : decode cJ9_max_7cf53 5 = .ok (.iload_n 0, 1) := by decide +kernel
theorem dJ9_max_7cf53_6 : decode cJ9_max_7cf53 6 = .ok (.goto 4, 3) := by decide +kernel
theorem dJ9_max_7cf53_9 : decode cJ9_max_7cf53 9 = .ok (.iload_n 1, 1) := by decide +kernel
theorem dJ9_max_7cf53_10 : decode cJ9_max_7cf53 10 = .ok (.ireturn, 1) := by decide +kernel
theorem dJ9_min_7cf53_0 : decode cJ9_min_7cf53 0 = .ok (.iload_n 0, 1) := by decide +kernel
theorem dJ9_min_7cf53_1 : decode cJ9_min_7cf53 1 = .ok (.iload_n 1, 1) := by decide +kernel
theorem dJ9_min_7cf53_2 : decode cJ9_min_7cf53 2 = .ok (.if_icmp .gt 7, 3) := by decide +kernel
theorem dJ9_min_7cf53_5 : decode cJ9_min_7cf53 5 = .ok (.iload_n 0, 1) := by decide +kernel
theorem dJ9_min_7cf53_6 : decode cJ9_min_7cf53 6 = .ok (.goto 4, 3) := by decide +kernel
theorem dJ9_min_7cf53_9 : decode cJ9_min_7cf53 9 = .ok (.iload_n 1, 1) := by decide +kernel
theorem dJ9_min_7cf53_10 : decode cJ9_min_7cf53 10 = .ok (.ireturn, 1) := by decide +kernel
theorem dJ0_length_8abf5_0 : decode cJ0_length_8abf5 0 = .ok (.aload_n 0, 1) := by decide +kernel
theorem dJ0_length_8abf5_1 : decode cJ0_length_8abf5 1 = .ok (.getfield 9, 3) := by decide +kernel
theorem dJ0_length_8abf5_4 : decode cJ0_length_8abf5 4 = .ok (.arraylength, 1) := by decide +kernel
theorem dJ0_length_8abf5_5 : decode cJ0_length_8abf5 5 = .ok (.aload_n 0, 1) := by decide +kernel
theorem dJ0_length_8abf5_6 : decode cJ0_length_8abf5 6 = .ok (.invokevirtual 335, 3) := by decide +kernel
theorem dJ0_length_8abf5_9 : decode cJ0_length_8abf5 9 = .ok (.ishr, 1) := by decide +kernel
theorem dJ0_length_8abf5_10 : decode cJ0_length_8abf5 10 = .ok (.ireturn, 1) := by decide +kernel
theorem dJ0_charAt_5068e_0 : decode cJ0_charAt_5068e 0 = .ok (.aload_n 0, 1) := by decide +kernel
theorem dJ0_charAt_5068e_1 : decode cJ0_charAt_5068e 1 = .ok (.invokevirtual 492, 3) := by decide +kernel
theorem dJ0_charAt_5068e_4 : decode cJ0_charAt_5068e 4 = .ok (.ifCond .eq 12, 3) := by decide +kernel
theorem dJ0_charAt_5068e_7 : decode cJ0_charAt_5068e 7 = .ok (.aload_n 0, 1) := by decide +kernel
theorem dJ0_charAt_5068e_8 : decode cJ0_charAt_5068e 8 = .ok (.getfield 9, 3) := by decide +kernel
theorem dJ0_charAt_5068e_11 : decode cJ0_charAt_5068e 11 = .ok (.iload_n 1, 1) := by decide +kernel
theorem dJ0_charAt_5068e_12 : decode cJ0_charAt_5068e 12 = .ok (.invokestatic 495, 3) := by decide +kernel
theorem dJ0_charAt_5068e_15 : decode cJ0_charAt_5068e 15 = .ok (.ireturn, 1) := by decide +kernel
theorem dJ0_charAt_5068e_16 : decode cJ0_charAt_5068e 16 = .ok (.aload_n 0, 1) := by decide +kernel
theorem dJ0_charAt_5068e_17 : decode cJ0_charAt_5068e 17 = .ok (.getfield 9, 3) := by decide +kernel
theorem dJ0_charAt_5068e_20 : decode cJ0_charAt_5068e 20 = .ok (.iload_n 1, 1) := by decide +kernel
theorem dJ0_charAt_5068e_21 : decode cJ0_charAt_5068e 21 = .ok (.invokestatic 498, 3) := by decide +kernel
theorem dJ0_charAt_5068e_24 : decode cJ0_charAt_5068e 24 = .ok (.ireturn, 1) := by decide +kernel
theorem dJ0_indexOf_0f7a4_0 : decode cJ0_indexOf_0f7a4 0 = .ok (.aload_n 0, 1) := by decide +kernel
theorem dJ0_indexOf_0f7a4_1 : decode cJ0_indexOf_0f7a4 1 = .ok (.iload_n 1, 1) := by decide +kernel
theorem dJ0_indexOf_0f7a4_2 : decode cJ0_indexOf_0f7a4 2 = .ok (.iconst 0, 1) := by decide +kernel
theorem dJ0_indexOf_0f7a4_3 : decode cJ0_indexOf_0f7a4 3 = .ok (.invokevirtual 633, 3) := by decide +kernel
theorem dJ0_indexOf_0f7a4_6 : decode cJ0_indexOf_0f7a4 6 = .ok (.ireturn, 1) := by decide +kernel
theorem dJ0_indexOf_7cf53_0 : decode cJ0_indexOf_7cf53 0 = .ok (.aload_n 0, 1) := by decide +kernel
theorem dJ0_indexOf_7cf53_1 : decode cJ0_indexOf_7cf53 1 = .ok (.invokevirtual 492, 3) := by decide +kernel
theorem dJ0_indexOf_7cf53_4 : decode cJ0_indexOf_7cf53 4 = .ok (.ifCond .eq 19, 3) := by decide +kernel
theorem dJ0_indexOf_7cf53_7 : decode cJ0_indexOf_7cf53 7 = .ok (.aload_n 0, 1) := by decide +kernel
theorem dJ0_indexOf_7cf53_8 : decode cJ0_indexOf_7cf53 8 = .ok (.getfield 9, 3) := by decide +kernel
theorem dJ0_indexOf_7cf53_11 : decode cJ0_indexOf_7cf53 11 = .ok (.iload_n 1, 1) := by decide +kernel
theorem dJ0_indexOf_7cf53_12 : decode cJ0_indexOf_7cf53 12 = .ok (.iload_n 2, 1) := by decide +kernel
theorem dJ0_indexOf_7cf53_13 : decode cJ0_indexOf_7cf53 13 = .ok (.aload_n 0, 1) := by decide +kernel
theorem dJ0_indexOf_7cf53_14 : decode cJ0_indexOf_7cf53 14 = .ok (.invokevirtual 505, 3) := by decide +kernel
theorem dJ0_indexOf_7cf53_17 : decode cJ0_indexOf_7cf53 17 = .ok (.invokestatic 637, 3) := by decide +kernel
theorem dJ0_indexOf_7cf53_20 : decode cJ0_indexOf_7cf53 20 = .ok (.goto 16, 3) := by decide +kernel
theorem dJ0_indexOf_7cf53_23 : decode cJ0_indexOf_7cf53 23 = .ok (.aload_n 0, 1) := by decide +kernel
theorem dJ0_indexOf_7cf53_24 : decode cJ0_indexOf_7cf53 24 = .ok (.getfield 9, 3) := by decide +kernel
theorem dJ0_indexOf_7cf53_27 : decode cJ0_indexOf_7cf53 27 = .ok (.iload_n 1, 1) := by decide +kernel
theorem dJ0_indexOf_7cf53_28 : decode cJ0_indexOf_7cf53 28 = .ok (.iload_n 2, 1) := by decide +kernel
theorem dJ0_indexOf_7cf53_29 : decode cJ0_indexOf_7cf53 29 = .ok (.aload_n 0, 1) := by decide +kernel
theorem dJ0_indexOf_7cf53_30 : decode cJ0_indexOf_7cf53 30 = .ok (.invokevirtual 505, 3) := by decide +kernel
theorem dJ0_indexOf_7cf53_33 : decode cJ0_indexOf_7cf53 33 = .ok (.invokestatic 640, 3) := by decide +kernel
theorem dJ0_indexOf_7cf53_36 : decode cJ0_indexOf_7cf53 36 = .ok (.ireturn, 1) := by decide +kernel
theorem dJ0_coder_7d493_0 : decode cJ0_coder_7d493 0 = .ok (.getstatic 38, 3) := by decide +kernel
theorem dJ0_coder_7d493_3 : decode cJ0_coder_7d493 3 = .ok (.ifCond .eq 10, 3) := by decide +kernel
theorem dJ0_coder_7d493_6 : decode cJ0_coder_7d493 6 = .ok (.aload_n 0, 1) := by decide +kernel
theorem dJ0_coder_7d493_7 : decode cJ0_coder_7d493 7 = .ok (.getfield 15, 3) := by decide +kernel
theorem dJ0_coder_7d493_10 : decode cJ0_coder_7d493 10 = .ok (.goto 4, 3) := by decide +kernel
theorem dJ0_coder_7d493_13 : decode cJ0_coder_7d493 13 = .ok (.iconst 1, 1) := by decide +kernel
theorem dJ0_coder_7d493_14 : decode cJ0_coder_7d493 14 = .ok (.ireturn, 1) := by decide +kernel
theorem dJ0_isLatin1_aae02_0 : decode cJ0_isLatin1_aae02 0 = .ok (.getstatic 38, 3) := by decide +kernel
theorem dJ0_isLatin1_aae02_3 : decode cJ0_isLatin1_aae02 3 = .ok (.ifCond .eq 14, 3) := by decide +kernel
theorem dJ0_isLatin1_aae02_6 : decode cJ0_isLatin1_aae02 6 = .ok (.aload_n 0, 1) := by decide +kernel
theorem dJ0_isLatin1_aae02_7 : decode cJ0_isLatin1_aae02 7 = .ok (.getfield 15, 3) := by decide +kernel
theorem dJ0_isLatin1_aae02_10 : decode cJ0_isLatin1_aae02 10 = .ok (.ifCond .ne 7, 3) := by decide +kernel
theorem dJ0_isLatin1_aae02_13 : decode cJ0_isLatin1_aae02 13 = .ok (.iconst 1, 1) := by decide +kernel
theorem dJ0_isLatin1_aae02_14 : decode cJ0_isLatin1_aae02 14 = .ok (.goto 4, 3) := by decide +kernel
theorem dJ0_isLatin1_aae02_17 : decode cJ0_isLatin1_aae02 17 = .ok (.iconst 0, 1) := by decide +kernel
theorem dJ0_isLatin1_aae02_18 : decode cJ0_isLatin1_aae02 18 = .ok (.ireturn, 1) := by decide +kernel
theorem dJ0_checkIndex_df160_0 : decode cJ0_checkIndex_df160 0 = .ok (.iload_n 0, 1) := by decide +kernel
theorem dJ0_checkIndex_df160_1 : decode cJ0_checkIndex_df160 1 = .ok (.iload_n 1, 1) := by decide +kernel
theorem dJ0_checkIndex_df160_2 : decode cJ0_checkIndex_df160 2 = .ok (.getstatic 1053, 3) := by decide +kernel
theorem dJ0_checkIndex_df160_5 : decode cJ0_checkIndex_df160 5 = .ok (.invokestatic 1059, 3) := by decide +kernel
theorem dJ0_checkIndex_df160_8 : decode cJ0_checkIndex_df160 8 = .ok (.pop, 1) := by decide +kernel
theorem dJ0_checkIndex_df160_9 : decode cJ0_checkIndex_df160 9 = .ok (.return_, 1) := by decide +kernel
theorem dJ0_checkBoundsBeginEnd_23922_0 : decode cJ0_checkBoundsBeginEnd_23922 0 = .ok (.iload_n 0, 1) := by decide +kernel
theorem dJ0_checkBoundsBeginEnd_23922_1 : decode cJ0_checkBoundsBeginEnd_23922 1 = .ok (.iload_n 1, 1) := by decide +kernel
theorem dJ0_checkBoundsBeginEnd_23922_2 : decode cJ0_checkBoundsBeginEnd_23922 2 = .ok (.iload_n 2, 1) := by decide +kernel
theorem dJ0_checkBoundsBeginEnd_23922_3 : decode cJ0_checkBoundsBeginEnd_23922 3 = .ok (.getstatic 1053, 3) := by decide +kernel
theorem dJ0_checkBoundsBeginEnd_23922_6 : decode cJ0_checkBoundsBeginEnd_23922 6 = .ok (.invokestatic 1062, 3) := by decide +kernel
theorem dJ0_checkBoundsBeginEnd_23922_9 : decode cJ0_checkBoundsBeginEnd_23922 9 = .ok (.pop, 1) := by decide +kernel
theorem dJ0_checkBoundsBeginEnd_23922_10 : decode cJ0_checkBoundsBeginEnd_23922 10 = .ok (.return_, 1) := by decide +kernel
theorem dJ1_charAt_3b067_0 : decode cJ1_charAt_3b067 0 = .ok (.iload_n 1, 1) := by decide +kernel
theorem dJ1_charAt_3b067_1 : decode cJ1_charAt_3b067 1 = .ok (.aload_n 0, 1) := by decide +kernel
theorem dJ1_charAt_3b067_2 : decode cJ1_charAt_3b067 2 = .ok (.arraylength, 1) := by decide +kernel
theorem dJ1_charAt_3b067_3 : decode cJ1_charAt_3b067 3 = .ok (.invokestatic 9, 3) := by decide +kernel
theorem dJ1_charAt_3b067_6 : decode cJ1_charAt_3b067 6 = .ok (.aload_n 0, 1) := by decide +kernel
theorem dJ1_charAt_3b067_7 : decode cJ1_charAt_3b067 7 = .ok (.iload_n 1, 1) := by decide +kernel
theorem dJ1_charAt_3b067_8 : decode cJ1_charAt_3b067 8 = .ok (.baload, 1) := by decide +kernel
theorem dJ1_charAt_3b067_9 : decode cJ1_charAt_3b067 9 = .ok (.sipush 255, 3) := by decide +kernel
theorem dJ1_charAt_3b067_12 : decode cJ1_charAt_3b067 12 = .ok (.iand, 1) := by decide +kernel
theorem dJ1_charAt_3b067_13 : decode cJ1_charAt_3b067 13 = .ok (.i2c, 1) := by decide +kernel
theorem dJ1_charAt_3b067_14 : decode cJ1_charAt_3b067 14 = .ok (.ireturn, 1) := by decide +kernel
theorem dJ1_canEncode_9a6ad_0 : decode cJ1_canEncode_9a6ad 0 = .ok (.iload_n 0, 1) := by decide +kernel
theorem dJ1_canEncode_9a6ad_1 : decode cJ1_canEncode_9a6ad 1 = .ok (.ifCond .lt 14, 3) := by decide +kernel
theorem dJ1_canEncode_9a6ad_4 : decode cJ1_canEncode_9a6ad 4 = .ok (.iload_n 0, 1) := by decide +kernel
theorem dJ1_canEncode_9a6ad_5 : decode cJ1_canEncode_9a6ad 5 = .ok (.sipush 255, 3) := by decide +kernel
theorem dJ1_canEncode_9a6ad_8 : decode cJ1_canEncode_9a6ad 8 = .ok (.if_icmp .gt 7, 3) := by decide +kernel
theorem dJ1_canEncode_9a6ad_11 : decode cJ1_canEncode_9a6ad 11 = .ok (.iconst 1, 1) := by decide +kernel
theorem dJ1_canEncode_9a6ad_12 : decode cJ1_canEncode_9a6ad 12 = .ok (.goto 4, 3) := by decide +kernel
theorem dJ1_canEncode_9a6ad_15 : decode cJ1_canEncode_9a6ad 15 = .ok (.iconst 0, 1) := by decide +kernel
theorem dJ1_canEncode_9a6ad_16 : decode cJ1_canEncode_9a6ad 16 = .ok (.ireturn, 1) := by decide +kernel
theorem dJ1_indexOf_4cfef_0 : decode cJ1_indexOf_4cfef 0 = .ok (.iload_n 1, 1) := by decide +kernel
theorem dJ1_indexOf_4cfef_1 : decode cJ1_indexOf_4cfef 1 = .ok (.invokestatic 88, 3) := by decide +kernel
theorem dJ1_indexOf_4cfef_4 : decode cJ1_indexOf_4cfef 4 = .ok (.ifCond .ne 5, 3) := by decide +kernel
theorem dJ1_indexOf_4cfef_7 : decode cJ1_indexOf_4cfef 7 = .ok (.iconst (-1), 1) := by decide +kernel
theorem dJ1_indexOf_4cfef_8 : decode cJ1_indexOf_4cfef 8 = .ok (.ireturn, 1) := by decide +kernel
theorem dJ1_indexOf_4cfef_9 : decode cJ1_indexOf_4cfef 9 = .ok (.iload_n 2, 1) := by decide +kernel
theorem dJ1_indexOf_4cfef_10 : decode cJ1_indexOf_4cfef 10 = .ok (.iconst 0, 1) := by decide +kernel
theorem dJ1_indexOf_4cfef_11 : decode cJ1_indexOf_4cfef 11 = .ok (.invokestatic 92, 3) := by decide +kernel
theorem dJ1_indexOf_4cfef_14 : decode cJ1_indexOf_4cfef 14 = .ok (.istore_n 2, 1) := by decide +kernel
theorem dJ1_indexOf_4cfef_15 : decode cJ1_indexOf_4cfef 15 = .ok (.iload_n 3, 1) := by decide +kernel
theorem dJ1_indexOf_4cfef_16 : decode cJ1_indexOf_4cfef 16 = .ok (.aload_n 0, 1) := by decide +kernel
theorem dJ1_indexOf_4cfef_17 : decode cJ1_indexOf_4cfef 17 = .ok (.arraylength, 1) := by decide +kernel
theorem dJ1_indexOf_4cfef_18 : decode cJ1_indexOf_4cfef 18 = .ok (.invokestatic 38, 3) := by decide +kernel
theorem dJ1_indexOf_4cfef_21 : decode cJ1_indexOf_4cfef 21 = .ok (.istore_n 3, 1) := by decide +kernel
theorem dJ1_indexOf_4cfef_22 : decode cJ1_indexOf_4cfef 22 = .ok (.iload_n 2, 1) := by decide +kernel
theorem dJ1_indexOf_4cfef_23 : decode cJ1_indexOf_4cfef 23 = .ok (.iload_n 3, 1) := by decide +kernel
theorem dJ1_indexOf_4cfef_24 : decode cJ1_indexOf_4cfef 24 = .ok (.if_icmp .lt 5, 3) := by decide +kernel
theorem dJ1_indexOf_4cfef_27 : decode cJ1_indexOf_4cfef 27 = .ok (.iconst (-1), 1) := by decide +kernel
theorem dJ1_indexOf_4cfef_28 : decode cJ1_indexOf_4cfef 28 = .ok (.ireturn, 1) := by decide +kernel
theorem dJ1_indexOf_4cfef_29 : decode cJ1_indexOf_4cfef 29 = .ok (.aload_n 0, 1) := by decide +kernel
theorem dJ1_indexOf_4cfef_30 : decode cJ1_indexOf_4cfef 30 = .ok (.iload_n 1, 1) := by decide +kernel
theorem dJ1_indexOf_4cfef_31 : decode cJ1_indexOf_4cfef 31 = .ok (.iload_n 2, 1) := by decide +kernel
theorem dJ1_indexOf_4cfef_32 : decode cJ1_indexOf_4cfef 32 = .ok (.iload_n 3, 1) := by decide +kernel
theorem dJ1_indexOf_4cfef_33 : decode cJ1_indexOf_4cfef 33 = .ok (.invokestatic 95, 3) := by decide +kernel
theorem dJ1_indexOf_4cfef_36 : decode cJ1_indexOf_4cfef 36 = .ok (.ireturn, 1) := by decide +kernel
theorem dJ1_indexOfChar_4cfef_0 : decode cJ1_indexOfChar_4cfef 0 = .ok (.iload_n 1, 1) := by decide +kernel
theorem dJ1_indexOfChar_4cfef_1 : decode cJ1_indexOfChar_4cfef 1 = .ok (.i2b, 1) := by decide +kernel
theorem dJ1_indexOfChar_4cfef_2 : decode cJ1_indexOfChar_4cfef 2 = .ok (.istore 4, 2) := by decide +kernel
theorem dJ1_indexOfChar_4cfef_4 : decode cJ1_indexOfChar_4cfef 4 = .ok (.iload_n 2, 1) := by decide +kernel
theorem dJ1_indexOfChar_4cfef_5 : decode cJ1_indexOfChar_4cfef 5 = .ok (.istore 5, 2) := by decide +kernel
theorem dJ1_indexOfChar_4cfef_7 : decode cJ1_indexOfChar_4cfef 7 = .ok (.iload 5, 2) := by decide +kernel
theorem dJ1_indexOfChar_4cfef_9 : decode cJ1_indexOfChar_4cfef 9 = .ok (.iload_n 3, 1) := by decide +kernel
theorem dJ1_indexOfChar_4cfef_10 : decode cJ1_indexOfChar_4cfef 10 = .ok (.if_icmp .ge 21, 3) := by decide +kernel
theorem dJ1_indexOfChar_4cfef_13 : decode cJ1_indexOfChar_4cfef 13 = .ok (.aload_n 0, 1) := by decide +kernel
theorem dJ1_indexOfChar_4cfef_14 : decode cJ1_indexOfChar_4cfef 14 = .ok (.iload 5, 2) := by decide +kernel
theorem dJ1_indexOfChar_4cfef_16 : decode cJ1_indexOfChar_4cfef 16 = .ok (.baload, 1) := by decide +kernel
theorem dJ1_indexOfChar_4cfef_17 : decode cJ1_indexOfChar_4cfef 17 = .ok (.iload 4, 2) := by decide +kernel
theorem dJ1_indexOfChar_4cfef_19 : decode cJ1_indexOfChar_4cfef 19 = .ok (.if_icmp .ne 6, 3) := by decide +kernel
theorem dJ1_indexOfChar_4cfef_22 : decode cJ1_indexOfChar_4cfef 22 = .ok (.iload 5, 2) := by decide +kernel
theorem dJ1_indexOfChar_4cfef_24 : decode cJ1_indexOfChar_4cfef 24 = .ok (.ireturn, 1) := by decide +kernel
theorem dJ1_indexOfChar_4cfef_25 : decode cJ1_indexOfChar_4cfef 25 = .ok (.iinc 5 1, 3) := by decide +kernel
theorem dJ1_indexOfChar_4cfef_28 : decode cJ1_indexOfChar_4cfef 28 = .ok (.goto (-21), 3) := by decide +kernel
theorem dJ1_indexOfChar_4cfef_31 : decode cJ1_indexOfChar_4cfef 31 = .ok (.iconst (-1), 1) := by decide +kernel
theorem dJ1_indexOfChar_4cfef_32 : decode cJ1_indexOfChar_4cfef 32 = .ok (.ireturn, 1) := by decide +kernel
theorem dJ2_getChar_3b067_0 : decode cJ2_getChar_3b067 0 = .ok (.getstatic 44, 3) := by decide +kernel
theorem dJ2_getChar_3b067_3 : decode cJ2_getChar_3b067 3 = .ok (.ifCond .ne 25, 3) := by decide +kernel
theorem dJ2_getChar_3b067_6 : decode cJ2_getChar_3b067 6 = .ok (.iload_n 1, 1) := by decide +kernel
theorem dJ2_getChar_3b067_7 : decode cJ2_getChar_3b067 7 = .ok (.ifCond .lt 11, 3) := by decide +kernel
theorem dJ2_getChar_3b067_10 : decode cJ2_getChar_3b067 10 = .ok (.iload_n 1, 1) := by decide +kernel
theorem dJ2_getChar_3b067_11 : decode cJ2_getChar_3b067 11 = .ok (.aload_n 0, 1) := by decide +kernel
theorem dJ2_getChar_3b067_12 : decode cJ2_getChar_3b067 12 = .ok (.invokestatic 48, 3) := by decide +kernel
theorem dJ2_getChar_3b067_15 : decode cJ2_getChar_3b067 15 = .ok (.if_icmp .lt 13, 3) := by decide +kernel
theorem dJ2_getChar_3b067_18 : decode cJ2_getChar_3b067 18 = .ok (.new 52, 3) := by decide +kernel
theorem dJ2_getChar_3b067_21 : decode cJ2_getChar_3b067 21 = .ok (.dup, 1) := by decide +kernel
theorem dJ2_getChar_3b067_22 : decode cJ2_getChar_3b067 22 = .ok (.ldc 54, 2) := by decide +kernel
theorem dJ2_getChar_3b067_24 : decode cJ2_getChar_3b067 24 = .ok (.invokespecial 56, 3) := by decide +kernel
theorem dJ2_getChar_3b067_27 : decode cJ2_getChar_3b067 27 = .ok (.athrow, 1) := by decide +kernel
theorem dJ2_getChar_3b067_28 : decode cJ2_getChar_3b067 28 = .ok (.iload_n 1, 1) := by decide +kernel
theorem dJ2_getChar_3b067_29 : decode cJ2_getChar_3b067 29 = .ok (.iconst 1, 1) := by decide +kernel
theorem dJ2_getChar_3b067_30 : decode cJ2_getChar_3b067 30 = .ok (.ishl, 1) := by decide +kernel
theorem dJ2_getChar_3b067_31 : decode cJ2_getChar_3b067 31 = .ok (.istore_n 1, 1) := by decide +kernel
theorem dJ2_getChar_3b067_32 : decode cJ2_getChar_3b067 32 = .ok (.aload_n 0, 1) := by decide +kernel
theorem dJ2_getChar_3b067_33 : decode cJ2_getChar_3b067 33 = .ok (.iload_n 1, 1) := by decide +kernel
theorem dJ2_getChar_3b067_34 : decode cJ2_getChar_3b067 34 = .ok (.iinc 1 1, 3) := by decide +kernel
theorem dJ2_getChar_3b067_37 : decode cJ2_getChar_3b067 37 = .ok (.baload, 1) := by decide +kernel
theorem dJ2_getChar_3b067_38 : decode cJ2_getChar_3b067 38 = .ok (.sipush 255, 3) := by decide +kernel
theorem dJ2_getChar_3b067_41 : decode cJ2_getChar_3b067 41 = .ok (.iand, 1) := by decide +kernel
theorem dJ2_getChar_3b067_42 : decode cJ2_getChar_3b067 42 = .ok (.getstatic 59, 3) := by decide +kernel
theorem dJ2_getChar_3b067_45 : decode cJ2_getChar_3b067 45 = .ok (.ishl, 1) := by decide +kernel
theorem dJ2_getChar_3b067_46 : decode cJ2_getChar_3b067 46 = .ok (.aload_n 0, 1) := by decide +kernel
theorem dJ2_getChar_3b067_47 : decode cJ2_getChar_3b067 47 = .ok (.iload_n 1, 1) := by decide +kernel
theorem dJ2_getChar_3b067_48 : decode cJ2_getChar_3b067 48 = .ok (.baload, 1) := by decide +kernel
theorem dJ2_getChar_3b067_49 : decode cJ2_getChar_3b067 49 = .ok (.sipush 255, 3) := by decide +kernel
theorem dJ2_getChar_3b067_52 : decode cJ2_getChar_3b067 52 = .ok (.iand, 1) := by decide +kernel
theorem dJ2_getChar_3b067_53 : decode cJ2_getChar_3b067 53 = .ok (.getstatic 63, 3) := by decide +kernel
theorem dJ2_getChar_3b067_56 : decode cJ2_getChar_3b067 56 = .ok (.ishl, 1) := by decide +kernel
theorem dJ2_getChar_3b067_57 : decode cJ2_getChar_3b067 57 = .ok (.ior, 1) := by decide +kernel
theorem dJ2_getChar_3b067_58 : decode cJ2_getChar_3b067 58 = .ok (.i2c, 1) := by decide +kernel
theorem dJ2_getChar_3b067_59 : decode cJ2_getChar_3b067 59 = .ok (.ireturn, 1) := by decide +kernel
theorem dJ2_length_9d52b_0 : decode cJ2_length_9d52b 0 = .ok (.aload_n 0, 1) := by decide +kernel
theorem dJ2_length_9d52b_1 : decode cJ2_length_9d52b 1 = .ok (.arraylength, 1) := by decide +kernel
theorem dJ2_length_9d52b_2 : decode cJ2_length_9d52b 2 = .ok (.iconst 1, 1) := by decide +kernel
theorem dJ2_length_9d52b_3 : decode cJ2_length_9d52b 3 = .ok (.ishr, 1) := by decide +kernel
theorem dJ2_length_9d52b_4 : decode cJ2_length_9d52b 4 = .ok (.ireturn, 1) := by decide +kernel
theorem dJ2_indexOf_4cfef_0 : decode cJ2_indexOf_4cfef 0 = .ok (.iload_n 2, 1) := by decide +kernel
theorem dJ2_indexOf_4cfef_1 : decode cJ2_indexOf_4cfef 1 = .ok (.iconst 0, 1) := by decide +kernel
theorem dJ2_indexOf_4cfef_2 : decode cJ2_indexOf_4cfef 2 = .ok (.invokestatic 224, 3) := by decide +kernel
theorem dJ2_indexOf_4cfef_5 : decode cJ2_indexOf_4cfef 5 = .ok (.istore_n 2, 1) := by decide +kernel
theorem dJ2_indexOf_4cfef_6 : decode cJ2_indexOf_4cfef 6 = .ok (.iload_n 3, 1) := by decide +kernel
theorem dJ2_indexOf_4cfef_7 : decode cJ2_indexOf_4cfef 7 = .ok (.aload_n 0, 1) := by decide +kernel
theorem dJ2_indexOf_4cfef_8 : decode cJ2_indexOf_4cfef 8 = .ok (.arraylength, 1) := by decide +kernel
theorem dJ2_indexOf_4cfef_9 : decode cJ2_indexOf_4cfef 9 = .ok (.iconst 1, 1) := by decide +kernel
theorem dJ2_indexOf_4cfef_10 : decode cJ2_indexOf_4cfef 10 = .ok (.ishr, 1) := by decide +kernel
theorem dJ2_indexOf_4cfef_11 : decode cJ2_indexOf_4cfef 11 = .ok (.invokestatic 183, 3) := by decide +kernel
theorem dJ2_indexOf_4cfef_14 : decode cJ2_indexOf_4cfef 14 = .ok (.istore_n 3, 1) := by decide +kernel
theorem dJ2_indexOf_4cfef_15 : decode cJ2_indexOf_4cfef 15 = .ok (.iload_n 2, 1) := by decide +kernel
theorem dJ2_indexOf_4cfef_16 : decode cJ2_indexOf_4cfef 16 = .ok (.iload_n 3, 1) := by decide +kernel
theorem dJ2_indexOf_4cfef_17 : decode cJ2_indexOf_4cfef 17 = .ok (.if_icmp .lt 5, 3) := by decide +kernel
theorem dJ2_indexOf_4cfef_20 : decode cJ2_indexOf_4cfef 20 = .ok (.iconst (-1), 1) := by decide +kernel
theorem dJ2_indexOf_4cfef_21 : decode cJ2_indexOf_4cfef 21 = .ok (.ireturn, 1) := by decide +kernel
theorem dJ2_indexOf_4cfef_22 : decode cJ2_indexOf_4cfef 22 = .ok (.iload_n 1, 1) := by decide +kernel
theorem dJ2_indexOf_4cfef_23 : decode cJ2_indexOf_4cfef 23 = .ok (.ldc 227, 2) := by decide +kernel
theorem dJ2_indexOf_4cfef_25 : decode cJ2_indexOf_4cfef 25 = .ok (.if_icmp .ge 11, 3) := by decide +kernel
theorem dJ2_indexOf_4cfef_28 : decode cJ2_indexOf_4cfef 28 = .ok (.aload_n 0, 1) := by decide +kernel
theorem dJ2_indexOf_4cfef_29 : decode cJ2_indexOf_4cfef 29 = .ok (.iload_n 1, 1) := by decide +kernel
theorem dJ2_indexOf_4cfef_30 : decode cJ2_indexOf_4cfef 30 = .ok (.iload_n 2, 1) := by decide +kernel
theorem dJ2_indexOf_4cfef_31 : decode cJ2_indexOf_4cfef 31 = .ok (.iload_n 3, 1) := by decide +kernel
theorem dJ2_indexOf_4cfef_32 : decode cJ2_indexOf_4cfef 32 = .ok (.invokestatic 228, 3) := by decide +kernel
theorem dJ2_indexOf_4cfef_35 : decode cJ2_indexOf_4cfef 35 = .ok (.ireturn, 1) := by decide +kernel
theorem dJ2_indexOf_4cfef_36 : decode cJ2_indexOf_4cfef 36 = .ok (.aload_n 0, 1) := by decide +kernel
theorem dJ2_indexOf_4cfef_37 : decode cJ2_indexOf_4cfef 37 = .ok (.iload_n 1, 1) := by decide +kernel
theorem dJ2_indexOf_4cfef_38 : decode cJ2_indexOf_4cfef 38 = .ok (.iload_n 2, 1) := by decide +kernel
theorem dJ2_indexOf_4cfef_39 : decode cJ2_indexOf_4cfef 39 = .ok (.iload_n 3, 1) := by decide +kernel
theorem dJ2_indexOf_4cfef_40 : decode cJ2_indexOf_4cfef 40 = .ok (.invokestatic 232, 3) := by decide +kernel
theorem dJ2_indexOf_4cfef_43 : decode cJ2_indexOf_4cfef 43 = .ok (.ireturn, 1) := by decide +kernel
theorem dJ2_indexOfChar_4cfef_0 : decode cJ2_indexOfChar_4cfef 0 = .ok (.iload_n 2, 1) := by decide +kernel
theorem dJ2_indexOfChar_4cfef_1 : decode cJ2_indexOfChar_4cfef 1 = .ok (.iload_n 3, 1) := by decide +kernel
theorem dJ2_indexOfChar_4cfef_2 : decode cJ2_indexOfChar_4cfef 2 = .ok (.aload_n 0, 1) := by decide +kernel
theorem dJ2_indexOfChar_4cfef_3 : decode cJ2_indexOfChar_4cfef 3 = .ok (.invokestatic 96, 3) := by decide +kernel
theorem dJ2_indexOfChar_4cfef_6 : decode cJ2_indexOfChar_4cfef 6 = .ok (.aload_n 0, 1) := by decide +kernel
theorem dJ2_indexOfChar_4cfef_7 : decode cJ2_indexOfChar_4cfef 7 = .ok (.iload_n 1, 1) := by decide +kernel
theorem dJ2_indexOfChar_4cfef_8 : decode cJ2_indexOfChar_4cfef 8 = .ok (.iload_n 2, 1) := by decide +kernel
theorem dJ2_indexOfChar_4cfef_9 : decode cJ2_indexOfChar_4cfef 9 = .ok (.iload_n 3, 1) := by decide +kernel
theorem dJ2_indexOfChar_4cfef_10 : decode cJ2_indexOfChar_4cfef 10 = .ok (.invokestatic 244, 3) := by decide +kernel
theorem dJ2_indexOfChar_4cfef_13 : decode cJ2_indexOfChar_4cfef 13 = .ok (.ireturn, 1) := by decide +kernel
theorem dJ2_indexOfCharUnsafe_4cfef_0 : decode cJ2_indexOfCharUnsafe_4cfef 0 = .ok (.iload_n 2, 1) := by decide +kernel
theorem dJ2_indexOfCharUnsafe_4cfef_1 : decode cJ2_indexOfCharUnsafe_4cfef 1 = .ok (.istore 4, 2) := by decide +kernel
theorem dJ2_indexOfCharUnsafe_4cfef_3 : decode cJ2_indexOfCharUnsafe_4cfef 3 = .ok (.iload 4, 2) := by decide +kernel
theorem dJ2_indexOfCharUnsafe_4cfef_5 : decode cJ2_indexOfCharUnsafe_4cfef 5 = .ok (.iload_n 3, 1) := by decide +kernel
theorem dJ2_indexOfCharUnsafe_4cfef_6 : decode cJ2_indexOfCharUnsafe_4cfef 6 = .ok (.if_icmp .ge 22, 3) := by decide +kernel
theorem dJ2_indexOfCharUnsafe_4cfef_9 : decode cJ2_indexOfCharUnsafe_4cfef 9 = .ok (.aload_n 0, 1) := by decide +kernel
theorem dJ2_indexOfCharUnsafe_4cfef_10 : decode cJ2_indexOfCharUnsafe_4cfef 10 = .ok (.iload 4, 2) := by decide +kernel
theorem dJ2_indexOfCharUnsafe_4cfef_12 : decode cJ2_indexOfCharUnsafe_4cfef 12 = .ok (.invokestatic 71, 3) := by decide +kernel
theorem dJ2_indexOfCharUnsafe_4cfef_15 : decode cJ2_indexOfCharUnsafe_4cfef 15 = .ok (.iload_n 1, 1) := by decide +kernel
theorem dJ2_indexOfCharUnsafe_4cfef_16 : decode cJ2_indexOfCharUnsafe_4cfef 16 = .ok (.if_icmp .ne 6, 3) := by decide +kernel
theorem dJ2_indexOfCharUnsafe_4cfef_19 : decode cJ2_indexOfCharUnsafe_4cfef 19 = .ok (.iload 4, 2) := by decide +kernel
theorem dJ2_indexOfCharUnsafe_4cfef_21 : decode cJ2_indexOfCharUnsafe_4cfef 21 = .ok (.ireturn, 1) := by decide +kernel
theorem dJ2_indexOfCharUnsafe_4cfef_22 : decode cJ2_indexOfCharUnsafe_4cfef 22 = .ok (.iinc 4 1, 3) := by decide +kernel
theorem dJ2_indexOfCharUnsafe_4cfef_25 : decode cJ2_indexOfCharUnsafe_4cfef 25 = .ok (.goto (-22), 3) := by decide +kernel
theorem dJ2_indexOfCharUnsafe_4cfef_28 : decode cJ2_indexOfCharUnsafe_4cfef 28 = .ok (.iconst (-1), 1) := by decide +kernel
theorem dJ2_indexOfCharUnsafe_4cfef_29 : decode cJ2_indexOfCharUnsafe_4cfef 29 = .ok (.ireturn, 1) := by decide +kernel
theorem dJ2_indexOfSupplementary_4cfef_0 : decode cJ2_indexOfSupplementary_4cfef 0 = .ok (.iload_n 1, 1) := by decide +kernel
theorem dJ2_indexOfSupplementary_4cfef_1 : decode cJ2_indexOfSupplementary_4cfef 1 = .ok (.invokestatic 164, 3) := by decide +kernel
theorem dJ2_indexOfSupplementary_4cfef_4 : decode cJ2_indexOfSupplementary_4cfef 4 = .ok (.ifCond .eq 65, 3) := by decide +kernel
theorem dJ2_indexOfSupplementary_4cfef_7 : decode cJ2_indexOfSupplementary_4cfef 7 = .ok (.iload_n 1, 1) := by decide +kernel
theorem dJ2_indexOfSupplementary_4cfef_8 : decode cJ2_indexOfSupplementary_4cfef 8 = .ok (.invokestatic 157, 3) := by decide +kernel
theorem dJ2_indexOfSupplementary_4cfef_11 : decode cJ2_indexOfSupplementary_4cfef 11 = .ok (.istore 4, 2) := by decide +kernel
theorem dJ2_indexOfSupplementary_4cfef_13 : decode cJ2_indexOfSupplementary_4cfef 13 = .ok (.iload_n 1, 1) := by decide +kernel
theorem dJ2_indexOfSupplementary_4cfef_14 : decode cJ2_indexOfSupplementary_4cfef 14 = .ok (.invokestatic 161, 3) := by decide +kernel
theorem dJ2_indexOfSupplementary_4cfef_17 : decode cJ2_indexOfSupplementary_4cfef 17 = .ok (.istore 5, 2) := by decide +kernel
theorem dJ2_indexOfSupplementary_4cfef_19 : decode cJ2_indexOfSupplementary_4cfef 19 = .ok (.iload_n 2, 1) := by decide +kernel
theorem dJ2_indexOfSupplementary_4cfef_20 : decode cJ2_indexOfSupplementary_4cfef 20 = .ok (.iload_n 3, 1) := by decide +kernel
theorem dJ2_indexOfSupplementary_4cfef_21 : decode cJ2_indexOfSupplementary_4cfef 21 = .ok (.aload_n 0, 1) := by decide +kernel
theorem dJ2_indexOfSupplementary_4cfef_22 : decode cJ2_indexOfSupplementary_4cfef 22 = .ok (.invokestatic 96, 3) := by decide +kernel
theorem dJ2_indexOfSupplementary_4cfef_25 : decode cJ2_indexOfSupplementary_4cfef 25 = .ok (.iload_n 2, 1) := by decide +kernel
theorem dJ2_indexOfSupplementary_4cfef_26 : decode cJ2_indexOfSupplementary_4cfef 26 = .ok (.istore 6, 2) := by decide +kernel
theorem dJ2_indexOfSupplementary_4cfef_28 : decode cJ2_indexOfSupplementary_4cfef 28 = .ok (.iload 6, 2) := by decide +kernel
theorem dJ2_indexOfSupplementary_4cfef_30 : decode cJ2_indexOfSupplementary_4cfef 30 = .ok (.iload_n 3, 1) := by decide +kernel
theorem dJ2_indexOfSupplementary_4cfef_31 : decode cJ2_indexOfSupplementary_4cfef 31 = .ok (.iconst 1, 1) := by decide +kernel
theorem dJ2_indexOfSupplementary_4cfef_32 : decode cJ2_indexOfSupplementary_4cfef 32 = .ok (.isub, 1) := by decide +kernel
theorem dJ2_indexOfSupplementary_4cfef_33 : decode cJ2_indexOfSupplementary_4cfef 33 = .ok (.if_icmp .ge 36, 3) := by decide +kernel
theorem dJ2_indexOfSupplementary_4cfef_36 : decode cJ2_indexOfSupplementary_4cfef 36 = .ok (.aload_n 0, 1) := by decide +kernel
theorem dJ2_indexOfSupplementary_4cfef_37 : decode cJ2_indexOfSupplementary_4cfef 37 = .ok (.iload 6, 2) := by decide +kernel
theorem dJ2_indexOfSupplementary_4cfef_39 : decode cJ2_indexOfSupplementary_4cfef 39 = .ok (.invokestatic 71, 3) := by decide +kernel
theorem dJ2_indexOfSupplementary_4cfef_42 : decode cJ2_indexOfSupplementary_4cfef 42 = .ok (.iload 4, 2) := by decide +kernel
theorem dJ2_indexOfSupplementary_4cfef_44 : decode cJ2_indexOfSupplementary_4cfef 44 = .ok (.if_icmp .ne 19, 3) := by decide +kernel
theorem dJ2_indexOfSupplementary_4cfef_47 : decode cJ2_indexOfSupplementary_4cfef 47 = .ok (.aload_n 0, 1) := by decide +kernel
theorem dJ2_indexOfSupplementary_4cfef_48 : decode cJ2_indexOfSupplementary_4cfef 48 = .ok (.iload 6, 2) := by decide +kernel
theorem dJ2_indexOfSupplementary_4cfef_50 : decode cJ2_indexOfSupplementary_4cfef 50 = .ok (.iconst 1, 1) := by decide +kernel
theorem dJ2_indexOfSupplementary_4cfef_51 : decode cJ2_indexOfSupplementary_4cfef 51 = .ok (.iadd, 1) := by decide +kernel
theorem dJ2_indexOfSupplementary_4cfef_52 : decode cJ2_indexOfSupplementary_4cfef 52 = .ok (.invokestatic 71, 3) := by decide +kernel
theorem dJ2_indexOfSupplementary_4cfef_55 : decode cJ2_indexOfSupplementary_4cfef 55 = .ok (.iload 5, 2) := by decide +kernel
theorem dJ2_indexOfSupplementary_4cfef_57 : decode cJ2_indexOfSupplementary_4cfef 57 = .ok (.if_icmp .ne 6, 3) := by decide +kernel
theorem dJ2_indexOfSupplementary_4cfef_60 : decode cJ2_indexOfSupplementary_4cfef 60 = .ok (.iload 6, 2) := by decide +kernel
theorem dJ2_indexOfSupplementary_4cfef_62 : decode cJ2_indexOfSupplementary_4cfef 62 = .ok (.ireturn, 1) := by decide +kernel
theorem dJ2_indexOfSupplementary_4cfef_63 : decode cJ2_indexOfSupplementary_4cfef 63 = .ok (.iinc 6 1, 3) := by decide +kernel
theorem dJ2_indexOfSupplementary_4cfef_66 : decode cJ2_indexOfSupplementary_4cfef 66 = .ok (.goto (-38), 3) := by decide +kernel
theorem dJ2_indexOfSupplementary_4cfef_69 : decode cJ2_indexOfSupplementary_4cfef 69 = .ok (.iconst (-1), 1) := by decide +kernel
theorem dJ2_indexOfSupplementary_4cfef_70 : decode cJ2_indexOfSupplementary_4cfef 70 = .ok (.ireturn, 1) := by decide +kernel
theorem dJ2_charAt_3b067_0 : decode cJ2_charAt_3b067 0 = .ok (.iload_n 1, 1) := by decide +kernel
theorem dJ2_charAt_3b067_1 : decode cJ2_charAt_3b067 1 = .ok (.aload_n 0, 1) := by decide +kernel
theorem dJ2_charAt_3b067_2 : decode cJ2_charAt_3b067 2 = .ok (.invokestatic 67, 3) := by decide +kernel
theorem dJ2_charAt_3b067_5 : decode cJ2_charAt_3b067 5 = .ok (.aload_n 0, 1) := by decide +kernel
theorem dJ2_charAt_3b067_6 : decode cJ2_charAt_3b067 6 = .ok (.iload_n 1, 1) := by decide +kernel
theorem dJ2_charAt_3b067_7 : decode cJ2_charAt_3b067 7 = .ok (.invokestatic 71, 3) := by decide +kernel
theorem dJ2_charAt_3b067_10 : decode cJ2_charAt_3b067 10 = .ok (.ireturn, 1) := by decide +kernel
theorem dJ2_checkIndex_2214a_0 : decode cJ2_checkIndex_2214a 0 = .ok (.iload_n 0, 1) := by decide +kernel
theorem dJ2_checkIndex_2214a_1 : decode cJ2_checkIndex_2214a 1 = .ok (.aload_n 1, 1) := by decide +kernel
theorem dJ2_checkIndex_2214a_2 : decode cJ2_checkIndex_2214a 2 = .ok (.invokestatic 48, 3) := by decide +kernel
theorem dJ2_checkIndex_2214a_5 : decode cJ2_checkIndex_2214a 5 = .ok (.invokestatic 414, 3) := by decide +kernel
theorem dJ2_checkIndex_2214a_8 : decode cJ2_checkIndex_2214a 8 = .ok (.return_, 1) := by decide +kernel
theorem dJ2_checkBoundsBeginEnd_d044e_0 : decode cJ2_checkBoundsBeginEnd_d044e 0 = .ok (.iload_n 0, 1) := by decide +kernel
theorem dJ2_checkBoundsBeginEnd_d044e_1 : decode cJ2_checkBoundsBeginEnd_d044e 1 = .ok (.iload_n 1, 1) := by decide +kernel
theorem dJ2_checkBoundsBeginEnd_d044e_2 : decode cJ2_checkBoundsBeginEnd_d044e 2 = .ok (.aload_n 2, 1) := by decide +kernel
theorem dJ2_checkBoundsBeginEnd_d044e_3 : decode cJ2_checkBoundsBeginEnd_d044e 3 = .ok (.invokestatic 48, 3) := by decide +kernel
theorem dJ2_checkBoundsBeginEnd_d044e_6 : decode cJ2_checkBoundsBeginEnd_d044e 6 = .ok (.invokestatic 241, 3) := by decide +kernel
theorem dJ2_checkBoundsBeginEnd_d044e_9 : decode cJ2_checkBoundsBeginEnd_d044e 9 = .ok (.return_, 1) := by decide +kernel
theorem dJ7_fill_53178_0 : decode cJ7_fill_53178 0 = .ok (.iconst 0, 1) := by decide +kernel
theorem dJ7_fill_53178_1 : decode cJ7_fill_53178 1 = .ok (.istore_n 2, 1) := by decide +kernel
theorem dJ7_fill_53178_2 : decode cJ7_fill_53178 2 = .ok (.aload_n 0, 1) := by decide +kernel
theorem dJ7_fill_53178_3 : decode cJ7_fill_53178 3 = .ok (.arraylength, 1) := by decide +kernel
theorem dJ7_fill_53178_4 : decode cJ7_fill_53178 4 = .ok (.istore_n 3, 1) := by decide +kernel
theorem dJ7_fill_53178_5 : decode cJ7_fill_53178 5 = .ok (.iload_n 2, 1) := by decide +kernel
theorem dJ7_fill_53178_6 : decode cJ7_fill_53178 6 = .ok (.iload_n 3, 1) := by decide +kernel
theorem dJ7_fill_53178_7 : decode cJ7_fill_53178 7 = .ok (.if_icmp .ge 13, 3) := by decide +kernel
theorem dJ7_fill_53178_10 : decode cJ7_fill_53178 10 = .ok (.aload_n 0, 1) := by decide +kernel
theorem dJ7_fill_53178_11 : decode cJ7_fill_53178 11 = .ok (.iload_n 2, 1) := by decide +kernel
theorem dJ7_fill_53178_12 : decode cJ7_fill_53178 12 = .ok (.iload_n 1, 1) := by decide +kernel
theorem dJ7_fill_53178_13 : decode cJ7_fill_53178 13 = .ok (.iastore, 1) := by decide +kernel
theorem dJ7_fill_53178_14 : decode cJ7_fill_53178 14 = .ok (.iinc 2 1, 3) := by decide +kernel
theorem dJ7_fill_53178_17 : decode cJ7_fill_53178 17 = .ok (.goto (-12), 3) := by decide +kernel
theorem dJ7_fill_53178_20 : decode cJ7_fill_53178 20 = .ok (.return_, 1) := by decide +kernel
theorem dJ7_copyOf_59c91_0 : decode cJ7_copyOf_59c91 0 = .ok (.iload_n 1, 1) := by decide +kernel
theorem dJ7_copyOf_59c91_1 : decode cJ7_copyOf_59c91 1 = .ok (.aload_n 0, 1) := by decide +kernel
theorem dJ7_copyOf_59c91_2 : decode cJ7_copyOf_59c91 2 = .ok (.arraylength, 1) := by decide +kernel
theorem dJ7_copyOf_59c91_3 : decode cJ7_copyOf_59c91 3 = .ok (.if_icmp .ne 11, 3) := by decide +kernel
theorem dJ7_copyOf_59c91_6 : decode cJ7_copyOf_59c91 6 = .ok (.aload_n 0, 1) := by decide +kernel
theorem dJ7_copyOf_59c91_7 : decode cJ7_copyOf_59c91 7 = .ok (.invokevirtual 316, 3) := by decide +kernel
theorem dJ7_copyOf_59c91_10 : decode cJ7_copyOf_59c91 10 = .ok (.checkcast 317, 3) := by decide +kernel
theorem dJ7_copyOf_59c91_13 : decode cJ7_copyOf_59c91 13 = .ok (.areturn, 1) := by decide +kernel
theorem dJ7_copyOf_59c91_14 : decode cJ7_copyOf_59c91 14 = .ok (.iload_n 1, 1) := by decide +kernel
theorem dJ7_copyOf_59c91_15 : decode cJ7_copyOf_59c91 15 = .ok (.newarray .int, 2) := by decide +kernel
theorem dJ7_copyOf_59c91_17 : decode cJ7_copyOf_59c91 17 = .ok (.astore_n 2, 1) := by decide +kernel
theorem dJ7_copyOf_59c91_18 : decode cJ7_copyOf_59c91 18 = .ok (.aload_n 0, 1) := by decide +kernel
theorem dJ7_copyOf_59c91_19 : decode cJ7_copyOf_59c91 19 = .ok (.iconst 0, 1) := by decide +kernel
theorem dJ7_copyOf_59c91_20 : decode cJ7_copyOf_59c91 20 = .ok (.aload_n 2, 1) := by decide +kernel
theorem dJ7_copyOf_59c91_21 : decode cJ7_copyOf_59c91 21 = .ok (.iconst 0, 1) := by decide +kernel
theorem dJ7_copyOf_59c91_22 : decode cJ7_copyOf_59c91 22 = .ok (.aload_n 0, 1) := by decide +kernel
theorem dJ7_copyOf_59c91_23 : decode cJ7_copyOf_59c91 23 = .ok (.arraylength, 1) := by decide +kernel
theorem dJ7_copyOf_59c91_24 : decode cJ7_copyOf_59c91 24 = .ok (.iload_n 1, 1) := by decide +kernel
theorem dJ7_copyOf_59c91_25 : decode cJ7_copyOf_59c91 25 = .ok (.invokestatic 304, 3) := by decide +kernel
theorem dJ7_copyOf_59c91_28 : decode cJ7_copyOf_59c91 28 = .ok (.invokestatic 150, 3) := by decide +kernel
theorem dJ7_copyOf_59c91_31 : decode cJ7_copyOf_59c91 31 = .ok (.aload_n 2, 1) := by decide +kernel
theorem dJ7_copyOf_59c91_32 : decode cJ7_copyOf_59c91 32 = .ok (.areturn, 1) := by decide +kernel
theorem dJ3_checkIndex_8e157_0 : decode cJ3_checkIndex_8e157 0 = .ok (.iload_n 0, 1) := by decide +kernel
theorem dJ3_checkIndex_8e157_1 : decode cJ3_checkIndex_8e157 1 = .ok (.ifCond .lt 8, 3) := by decide +kernel
theorem dJ3_checkIndex_8e157_4 : decode cJ3_checkIndex_8e157 4 = .ok (.iload_n 0, 1) := by decide +kernel
theorem dJ3_checkIndex_8e157_5 : decode cJ3_checkIndex_8e157 5 = .ok (.iload_n 1, 1) := by decide +kernel
theorem dJ3_checkIndex_8e157_6 : decode cJ3_checkIndex_8e157 6 = .ok (.if_icmp .lt 10, 3) := by decide +kernel
theorem dJ3_checkIndex_8e157_9 : decode cJ3_checkIndex_8e157 9 = .ok (.aload_n 2, 1) := by decide +kernel
theorem dJ3_checkIndex_8e157_10 : decode cJ3_checkIndex_8e157 10 = .ok (.iload_n 0, 1) := by decide +kernel
theorem dJ3_checkIndex_8e157_11 : decode cJ3_checkIndex_8e157 11 = .ok (.iload_n 1, 1) := by decide +kernel
theorem dJ3_checkIndex_8e157_12 : decode cJ3_checkIndex_8e157 12 = .ok (.invokestatic 95, 3) := by decide +kernel
theorem dJ3_checkIndex_8e157_15 : decode cJ3_checkIndex_8e157 15 = .ok (.athrow, 1) := by decide +kernel
theorem dJ3_checkIndex_8e157_16 : decode cJ3_checkIndex_8e157 16 = .ok (.iload_n 0, 1) := by decide +kernel
theorem dJ3_checkIndex_8e157_17 : decode cJ3_checkIndex_8e157 17 = .ok (.ireturn, 1) := by decide +kernel
theorem dJ3_checkFromToIndex_8c36e_0 : decode cJ3_checkFromToIndex_8c36e 0 = .ok (.iload_n 0, 1) := by decide +kernel
theorem dJ3_checkFromToIndex_8c36e_1 : decode cJ3_checkFromToIndex_8c36e 1 = .ok (.ifCond .lt 13, 3) := by decide +kernel
theorem dJ3_checkFromToIndex_8c36e_4 : decode cJ3_checkFromToIndex_8c36e 4 = .ok (.iload_n 0, 1) := by decide +kernel
theorem dJ3_checkFromToIndex_8c36e_5 : decode cJ3_checkFromToIndex_8c36e 5 = .ok (.iload_n 1, 1) := by decide +kernel
theorem dJ3_checkFromToIndex_8c36e_6 : decode cJ3_checkFromToIndex_8c36e 6 = .ok (.if_icmp .gt 8, 3) := by decide +kernel
theorem dJ3_checkFromToIndex_8c36e_9 : decode cJ3_checkFromToIndex_8c36e 9 = .ok (.iload_n 1, 1) := by decide +kernel
theorem dJ3_checkFromToIndex_8c36e_10 : decode cJ3_checkFromToIndex_8c36e 10 = .ok (.iload_n 2, 1) := by decide +kernel
theorem dJ3_checkFromToIndex_8c36e_11 : decode cJ3_checkFromToIndex_8c36e 11 = .ok (.if_icmp .le 11, 3) := by decide +kernel
theorem dJ3_checkFromToIndex_8c36e_14 : decode cJ3_checkFromToIndex_8c36e 14 = .ok (.aload_n 3, 1) := by decide +kernel
theorem dJ3_checkFromToIndex_8c36e_15 : decode cJ3_checkFromToIndex_8c36e 15 = .ok (.iload_n 0, 1) := by decide +kernel
theorem dJ3_checkFromToIndex_8c36e_16 : decode cJ3_checkFromToIndex_8c36e 16 = .ok (.iload_n 1, 1) := by decide +kernel
theorem dJ3_checkFromToIndex_8c36e_17 : decode cJ3_checkFromToIndex_8c36e 17 = .ok (.iload_n 2, 1) := by decide +kernel
theorem dJ3_checkFromToIndex_8c36e_18 : decode cJ3_checkFromToIndex_8c36e 18 = .ok (.invokestatic 99, 3) := by decide +kernel
theorem dJ3_checkFromToIndex_8c36e_21 : decode cJ3_checkFromToIndex_8c36e 21 = .ok (.athrow, 1) := by decide +kernel
theorem dJ3_checkFromToIndex_8c36e_22 : decode cJ3_checkFromToIndex_8c36e 22 = .ok (.iload_n 0, 1) := by decide +kernel
theorem dJ3_checkFromToIndex_8c36e_23 : decode cJ3_checkFromToIndex_8c36e 23 = .ok (.ireturn, 1) := by decide +kernel
theorem dL_law_0 : decode cL_law 0 = .ok (.new 7, 3) := by decide +kernel
theorem dL_law_3 : decode cL_law 3 = .ok (.dup, 1) := by decide +kernel
theorem dL_law_4 : decode cL_law 4 = .ok (.invokespecial 9, 3) := by decide +kernel
theorem dL_law_7 : decode cL_law 7 = .ok (.astore_n 1, 1) := by decide +kernel
theorem dL_law_8 : decode cL_law 8 = .ok (.new 10, 3) := by decide +kernel
theorem dL_law_11 : decode cL_law 11 = .ok (.dup, 1) := by decide +kernel
theorem dL_law_12 : decode cL_law 12 = .ok (.invokespecial 12, 3) := by decide +kernel
theorem dL_law_15 : decode cL_law 15 = .ok (.astore_n 2, 1) := by decide +kernel
theorem dL_law_16 : decode cL_law 16 = .ok (.iconst 0, 1) := by decide +kernel
theorem dL_law_17 : decode cL_law 17 = .ok (.istore_n 3, 1) := by decide +kernel
theorem dL_law_18 : decode cL_law 18 = .ok (.iload_n 3, 1) := by decide +kernel
theorem dL_law_19 : decode cL_law 19 = .ok (.aload_n 0, 1) := by decide +kernel
theorem dL_law_20 : decode cL_law 20 = .ok (.arraylength, 1) := by decide +kernel
theorem dL_law_21 : decode cL_law 21 = .ok (.bipush 6, 2) := by decide +kernel
theorem dL_law_23 : decode cL_law 23 = .ok (.isub, 1) := by decide +kernel
theorem dL_law_24 : decode cL_law 24 = .ok (.if_icmp .gt 1304, 3) := by decide +kernel
theorem dL_law_27 : decode cL_law 27 = .ok (.aload_n 0, 1) := by decide +kernel
theorem dL_law_28 : decode cL_law 28 = .ok (.iload_n 3, 1) := by decide +kernel
theorem dL_law_29 : decode cL_law 29 = .ok (.iaload, 1) := by decide +kernel
theorem dL_law_30 : decode cL_law 30 = .ok (.bipush 63, 2) := by decide +kernel
theorem dL_law_32 : decode cL_law 32 = .ok (.iand, 1) := by decide +kernel
theorem dL_law_33 : decode cL_law 33 = .ok (.tableswitch 1289 0 39 #[175, 198, 211, 264, 297, 340, 383, 406, 429, 452, 515, 528, 561, 574, 618, 651, 664, 677, 700, 733, 756, 779, 792, 825, 869, 902, 945, 968, 1002, 1026, 1049, 1072, 1095, 1128, 1141, 1184, 1207, 1240, 1253, 1266], 175) := by decide +kernel
theorem dL_law_208 : decode cL_law 208 = .ok (.aload_n 1, 1) := by decide +kernel
theorem dL_law_209 : decode cL_law 209 = .ok (.aload_n 0, 1) := by decide +kernel
theorem dL_law_210 : decode cL_law 210 = .ok (.iload_n 3, 1) := by decide +kernel
theorem dL_law_211 : decode cL_law 211 = .ok (.iconst 1, 1) := by decide +kernel
theorem dL_law_212 : decode cL_law 212 = .ok (.iadd, 1) := by decide +kernel
theorem dL_law_213 : decode cL_law 213 = .ok (.iaload, 1) := by decide +kernel
theorem dL_law_214 : decode cL_law 214 = .ok (.invokevirtual 13, 3) := by decide +kernel
theorem dL_law_217 : decode cL_law 217 = .ok (.aload_n 2, 1) := by decide +kernel
theorem dL_law_218 : decode cL_law 218 = .ok (.aload_n 0, 1) := by decide +kernel
theorem dL_law_219 : decode cL_law 219 = .ok (.iload_n 3, 1) := by decide +kernel
theorem dL_law_220 : decode cL_law 220 = .ok (.iconst 1, 1) := by decide +kernel
theorem dL_law_221 : decode cL_law 221 = .ok (.iadd, 1) := by decide +kernel
theorem dL_law_222 : decode cL_law 222 = .ok (.iaload, 1) := by decide +kernel
theorem dL_law_223 : decode cL_law 223 = .ok (.invokevirtual 17, 3) := by decide +kernel
theorem dL_law_226 : decode cL_law 226 = .ok (.if_icmp .eq 1096, 3) := by decide +kernel
theorem dL_law_229 : decode cL_law 229 = .ok (.iconst 0, 1) := by decide +kernel
theorem dL_law_230 : decode cL_law 230 = .ok (.ireturn, 1) := by decide +kernel
theorem dL_law_231 : decode cL_law 231 = .ok (.aload_n 1, 1) := by decide +kernel
theorem dL_law_232 : decode cL_law 232 = .ok (.invokevirtual 18, 3) := by decide +kernel
theorem dL_law_235 : decode cL_law 235 = .ok (.aload_n 2, 1) := by decide +kernel
theorem dL_law_236 : decode cL_law 236 = .ok (.invokevirtual 22, 3) := by decide +kernel
theorem dL_law_239 : decode cL_law 239 = .ok (.if_icmp .eq 1083, 3) := by decide +kernel
theorem dL_law_242 : decode cL_law 242 = .ok (.iconst 0, 1) := by decide +kernel
theorem dL_law_243 : decode cL_law 243 = .ok (.ireturn, 1) := by decide +kernel
theorem dL_law_244 : decode cL_law 244 = .ok (.aload_n 1, 1) := by decide +kernel
theorem dL_law_245 : decode cL_law 245 = .ok (.aload_n 0, 1) := by decide +kernel
theorem dL_law_246 : decode cL_law 246 = .ok (.iload_n 3, 1) := by decide +kernel
theorem dL_law_247 : decode cL_law 247 = .ok (.iconst 1, 1) := by decide +kernel
theorem dL_law_248 : decode cL_law 248 = .ok (.iadd, 1) := by decide +kernel
theorem dL_law_249 : decode cL_law 249 = .ok (.iaload, 1) := by decide +kernel
theorem dL_law_250 : decode cL_law 250 = .ok (.aload_n 0, 1) := by decide +kernel
theorem dL_law_251 : decode cL_law 251 = .ok (.iload_n 3, 1) := by decide +kernel
theorem dL_law_252 : decode cL_law 252 = .ok (.iconst 2, 1) := by decide +kernel
theorem dL_law_253 : decode cL_law 253 = .ok (.iadd, 1) := by decide +kernel
theorem dL_law_254 : decode cL_law 254 = .ok (.iaload, 1) := by decide +kernel
theorem dL_law_255 : decode cL_law 255 = .ok (.aload_n 0, 1) := by decide +kernel
theorem dL_law_256 : decode cL_law 256 = .ok (.iload_n 3, 1) := by decide +kernel
theorem dL_law_257 : decode cL_law 257 = .ok (.iconst 3, 1) := by decide +kernel
theorem dL_law_258 : decode cL_law 258 = .ok (.iadd, 1) := by decide +kernel
theorem dL_law_259 : decode cL_law 259 = .ok (.iaload, 1) := by decide +kernel
theorem dL_law_260 : decode cL_law 260 = .ok (.aload_n 0, 1) := by decide +kernel
theorem dL_law_261 : decode cL_law 261 = .ok (.iload_n 3, 1) := by decide +kernel
theorem dL_law_262 : decode cL_law 262 = .ok (.iconst 4, 1) := by decide +kernel
theorem dL_law_263 : decode cL_law 263 = .ok (.iadd, 1) := by decide +kernel
theorem dL_law_264 : decode cL_law 264 = .ok (.iaload, 1) := by decide +kernel
theorem dL_law_265 : decode cL_law 265 = .ok (.invokevirtual 23, 3) := by decide +kernel
theorem dL_law_268 : decode cL_law 268 = .ok (.aload_n 2, 1) := by decide +kernel
theorem dL_law_269 : decode cL_law 269 = .ok (.aload_n 0, 1) := by decide +kernel
theorem dL_law_270 : decode cL_law 270 = .ok (.iload_n 3, 1) := by decide +kernel
theorem dL_law_271 : decode cL_law 271 = .ok (.iconst 1, 1) := by decide +kernel
theorem dL_law_272 : decode cL_law 272 = .ok (.iadd, 1) := by decide +kernel
theorem dL_law_273 : decode cL_law 273 = .ok (.iaload, 1) := by decide +kernel
theorem dL_law_274 : decode cL_law 274 = .ok (.aload_n 0, 1) := by decide +kernel
theorem dL_law_275 : decode cL_law 275 = .ok (.iload_n 3, 1) := by decide +kernel
theorem dL_law_276 : decode cL_law 276 = .ok (.iconst 2, 1) := by decide +kernel
theorem dL_law_277 : decode cL_law 277 = .ok (.iadd, 1) := by decide +kernel
theorem dL_law_278 : decode cL_law 278 = .ok (.iaload, 1) := by decide +kernel
theorem dL_law_279 : decode cL_law 279 = .ok (.aload_n 0, 1) := by decide +kernel
theorem dL_law_280 : decode cL_law 280 = .ok (.iload_n 3, 1) := by decide +kernel
theorem dL_law_281 : decode cL_law 281 = .ok (.iconst 3, 1) := by decide +kernel
theorem dL_law_282 : decode cL_law 282 = .ok (.iadd, 1) := by decide +kernel
theorem dL_law_283 : decode cL_law 283 = .ok (.iaload, 1) := by decide +kernel
theorem dL_law_284 : decode cL_law 284 = .ok (.aload_n 0, 1) := by decide +kernel
theorem dL_law_285 : decode cL_law 285 = .ok (.iload_n 3, 1) := by decide +kernel
theorem dL_law_286 : decode cL_law 286 = .ok (.iconst 4, 1) := by decide +kernel
theorem dL_law_287 : decode cL_law 287 = .ok (.iadd, 1) := by decide +kernel
theorem dL_law_288 : decode cL_law 288 = .ok (.iaload, 1) := by decide +kernel
theorem dL_law_289 : decode cL_law 289 = .ok (.invokevirtual 27, 3) := by decide +kernel
theorem dL_law_292 : decode cL_law 292 = .ok (.if_icmp .eq 1030, 3) := by decide +kernel
theorem dL_law_295 : decode cL_law 295 = .ok (.iconst 0, 1) := by decide +kernel
theorem dL_law_296 : decode cL_law 296 = .ok (.ireturn, 1) := by decide +kernel
theorem dL_law_297 : decode cL_law 297 = .ok (.aload_n 1, 1) := by decide +kernel
theorem dL_law_298 : decode cL_law 298 = .ok (.aload_n 0, 1) := by decide +kernel
theorem dL_law_299 : decode cL_law 299 = .ok (.iload_n 3, 1) := by decide +kernel
theorem dL_law_300 : decode cL_law 300 = .ok (.iconst 1, 1) := by decide +kernel
theorem dL_law_301 : decode cL_law 301 = .ok (.iadd, 1) := by decide +kernel
theorem dL_law_302 : decode cL_law 302 = .ok (.iaload, 1) := by decide +kernel
theorem dL_law_303 : decode cL_law 303 = .ok (.aload_n 0, 1) := by decide +kernel
theorem dL_law_304 : decode cL_law 304 = .ok (.iload_n 3, 1) := by decide +kernel
theorem dL_law_305 : decode cL_law 305 = .ok (.iconst 2, 1) := by decide +kernel
theorem dL_law_306 : decode cL_law 306 = .ok (.iadd, 1) := by decide +kernel
theorem dL_law_307 : decode cL_law 307 = .ok (.iaload, 1) := by decide +kernel
theorem dL_law_308 : decode cL_law 308 = .ok (.invokevirtual 28, 3) := by decide +kernel
theorem dL_law_311 : decode cL_law 311 = .ok (.aload_n 2, 1) := by decide +kernel
theorem dL_law_312 : decode cL_law 312 = .ok (.aload_n 0, 1) := by decide +kernel
theorem dL_law_313 : decode cL_law 313 = .ok (.iload_n 3, 1) := by decide +kernel
theorem dL_law_314 : decode cL_law 314 = .ok (.iconst 1, 1) := by decide +kernel
theorem dL_law_315 : decode cL_law 315 = .ok (.iadd, 1) := by decide +kernel
theorem dL_law_316 : decode cL_law 316 = .ok (.iaload, 1) := by decide +kernel
theorem dL_law_317 : decode cL_law 317 = .ok (.aload_n 0, 1) := by decide +kernel
theorem dL_law_318 : decode cL_law 318 = .ok (.iload_n 3, 1) := by decide +kernel
theorem dL_law_319 : decode cL_law 319 = .ok (.iconst 2, 1) := by decide +kernel
theorem dL_law_320 : decode cL_law 320 = .ok (.iadd, 1) := by decide +kernel
theorem dL_law_321 : decode cL_law 321 = .ok (.iaload, 1) := by decide +kernel
theorem dL_law_322 : decode cL_law 322 = .ok (.invokevirtual 32, 3) := by decide +kernel
theorem dL_law_325 : decode cL_law 325 = .ok (.if_icmp .eq 997, 3) := by decide +kernel
theorem dL_law_328 : decode cL_law 328 = .ok (.iconst 0, 1) := by decide +kernel
theorem dL_law_329 : decode cL_law 329 = .ok (.ireturn, 1) := by decide +kernel
theorem dL_law_330 : decode cL_law 330 = .ok (.aload_n 1, 1) := by decide +kernel
theorem dL_law_331 : decode cL_law 331 = .ok (.aload_n 0, 1) := by decide +kernel
theorem dL_law_332 : decode cL_law 332 = .ok (.iload_n 3, 1) := by decide +kernel
theorem dL_law_333 : decode cL_law 333 = .ok (.iconst 1, 1) := by decide +kernel
theorem dL_law_334 : decode cL_law 334 = .ok (.iadd, 1) := by decide +kernel
theorem dL_law_335 : decode cL_law 335 = .ok (.iaload, 1) := by decide +kernel
theorem dL_law_336 : decode cL_law 336 = .ok (.aload_n 0, 1) := by decide +kernel
theorem dL_law_337 : decode cL_law 337 = .ok (.iload_n 3, 1) := by decide +kernel
theorem dL_law_338 : decode cL_law 338 = .ok (.iconst 2, 1) := by decide +kernel
theorem dL_law_339 : decode cL_law 339 = .ok (.iadd, 1) := by decide +kernel
theorem dL_law_340 : decode cL_law 340 = .ok (.iaload, 1) := by decide +kernel
theorem dL_law_341 : decode cL_law 341 = .ok (.aload_n 0, 1) := by decide +kernel
theorem dL_law_342 : decode cL_law 342 = .ok (.iload_n 3, 1) := by decide +kernel
theorem dL_law_343 : decode cL_law 343 = .ok (.iconst 3, 1) := by decide +kernel
theorem dL_law_344 : decode cL_law 344 = .ok (.iadd, 1) := by decide +kernel
theorem dL_law_345 : decode cL_law 345 = .ok (.iaload, 1) := by decide +kernel
theorem dL_law_346 : decode cL_law 346 = .ok (.invokevirtual 33, 3) := by decide +kernel
theorem dL_law_349 : decode cL_law 349 = .ok (.aload_n 2, 1) := by decide +kernel
theorem dL_law_350 : decode cL_law 350 = .ok (.aload_n 0, 1) := by decide +kernel
theorem dL_law_351 : decode cL_law 351 = .ok (.iload_n 3, 1) := by decide +kernel
theorem dL_law_352 : decode cL_law 352 = .ok (.iconst 1, 1) := by decide +kernel
theorem dL_law_353 : decode cL_law 353 = .ok (.iadd, 1) := by decide +kernel
theorem dL_law_354 : decode cL_law 354 = .ok (.iaload, 1) := by decide +kernel
theorem dL_law_355 : decode cL_law 355 = .ok (.aload_n 0, 1) := by decide +kernel
theorem dL_law_356 : decode cL_law 356 = .ok (.iload_n 3, 1) := by decide +kernel
theorem dL_law_357 : decode cL_law 357 = .ok (.iconst 2, 1) := by decide +kernel
theorem dL_law_358 : decode cL_law 358 = .ok (.iadd, 1) := by decide +kernel
theorem dL_law_359 : decode cL_law 359 = .ok (.iaload, 1) := by decide +kernel
theorem dL_law_360 : decode cL_law 360 = .ok (.aload_n 0, 1) := by decide +kernel
theorem dL_law_361 : decode cL_law 361 = .ok (.iload_n 3, 1) := by decide +kernel
theorem dL_law_362 : decode cL_law 362 = .ok (.iconst 3, 1) := by decide +kernel
theorem dL_law_363 : decode cL_law 363 = .ok (.iadd, 1) := by decide +kernel
theorem dL_law_364 : decode cL_law 364 = .ok (.iaload, 1) := by decide +kernel
theorem dL_law_365 : decode cL_law 365 = .ok (.invokevirtual 37, 3) := by decide +kernel
theorem dL_law_368 : decode cL_law 368 = .ok (.if_icmp .eq 954, 3) := by decide +kernel
theorem dL_law_371 : decode cL_law 371 = .ok (.iconst 0, 1) := by decide +kernel
theorem dL_law_372 : decode cL_law 372 = .ok (.ireturn, 1) := by decide +kernel
theorem dL_law_373 : decode cL_law 373 = .ok (.aload_n 1, 1) := by decide +kernel
theorem dL_law_374 : decode cL_law 374 = .ok (.aload_n 0, 1) := by decide +kernel
theorem dL_law_375 : decode cL_law 375 = .ok (.iload_n 3, 1) := by decide +kernel
theorem dL_law_376 : decode cL_law 376 = .ok (.iconst 1, 1) := by decide +kernel
theorem dL_law_377 : decode cL_law 377 = .ok (.iadd, 1) := by decide +kernel
theorem dL_law_378 : decode cL_law 378 = .ok (.iaload, 1) := by decide +kernel
theorem dL_law_379 : decode cL_law 379 = .ok (.aload_n 0, 1) := by decide +kernel
theorem dL_law_380 : decode cL_law 380 = .ok (.iload_n 3, 1) := by decide +kernel
theorem dL_law_381 : decode cL_law 381 = .ok (.iconst 2, 1) := by decide +kernel
theorem dL_law_382 : decode cL_law 382 = .ok (.iadd, 1) := by decide +kernel
theorem dL_law_383 : decode cL_law 383 = .ok (.iaload, 1) := by decide +kernel
theorem dL_law_384 : decode cL_law 384 = .ok (.aload_n 0, 1) := by decide +kernel
theorem dL_law_385 : decode cL_law 385 = .ok (.iload_n 3, 1) := by decide +kernel
theorem dL_law_386 : decode cL_law 386 = .ok (.iconst 3, 1) := by decide +kernel
theorem dL_law_387 : decode cL_law 387 = .ok (.iadd, 1) := by decide +kernel
theorem dL_law_388 : decode cL_law 388 = .ok (.iaload, 1) := by decide +kernel
theorem dL_law_389 : decode cL_law 389 = .ok (.invokevirtual 38, 3) := by decide +kernel
theorem dL_law_392 : decode cL_law 392 = .ok (.aload_n 2, 1) := by decide +kernel
theorem dL_law_393 : decode cL_law 393 = .ok (.aload_n 0, 1) := by decide +kernel
theorem dL_law_394 : decode cL_law 394 = .ok (.iload_n 3, 1) := by decide +kernel
theorem dL_law_395 : decode cL_law 395 = .ok (.iconst 1, 1) := by decide +kernel
theorem dL_law_396 : decode cL_law 396 = .ok (.iadd, 1) := by decide +kernel
theorem dL_law_397 : decode cL_law 397 = .ok (.iaload, 1) := by decide +kernel
theorem dL_law_398 : decode cL_law 398 = .ok (.aload_n 0, 1) := by decide +kernel
theorem dL_law_399 : decode cL_law 399 = .ok (.iload_n 3, 1) := by decide +kernel
theorem dL_law_400 : decode cL_law 400 = .ok (.iconst 2, 1) := by decide +kernel
theorem dL_law_401 : decode cL_law 401 = .ok (.iadd, 1) := by decide +kernel
theorem dL_law_402 : decode cL_law 402 = .ok (.iaload, 1) := by decide +kernel
theorem dL_law_403 : decode cL_law 403 = .ok (.aload_n 0, 1) := by decide +kernel
theorem dL_law_404 : decode cL_law 404 = .ok (.iload_n 3, 1) := by decide +kernel
theorem dL_law_405 : decode cL_law 405 = .ok (.iconst 3, 1) := by decide +kernel
theorem dL_law_406 : decode cL_law 406 = .ok (.iadd, 1) := by decide +kernel
theorem dL_law_407 : decode cL_law 407 = .ok (.iaload, 1) := by decide +kernel
theorem dL_law_408 : decode cL_law 408 = .ok (.invokevirtual 41, 3) := by decide +kernel
theorem dL_law_411 : decode cL_law 411 = .ok (.if_icmp .eq 911, 3) := by decide +kernel
theorem dL_law_414 : decode cL_law 414 = .ok (.iconst 0, 1) := by decide +kernel
theorem dL_law_415 : decode cL_law 415 = .ok (.ireturn, 1) := by decide +kernel
theorem dL_law_416 : decode cL_law 416 = .ok (.aload_n 1, 1) := by decide +kernel
theorem dL_law_417 : decode cL_law 417 = .ok (.aload_n 0, 1) := by decide +kernel
theorem dL_law_418 : decode cL_law 418 = .ok (.iload_n 3, 1) := by decide +kernel
theorem dL_law_419 : decode cL_law 419 = .ok (.iconst 1, 1) := by decide +kernel
theorem dL_law_420 : decode cL_law 420 = .ok (.iadd, 1) := by decide +kernel
theorem dL_law_421 : decode cL_law 421 = .ok (.iaload, 1) := by decide +kernel
theorem dL_law_422 : decode cL_law 422 = .ok (.invokevirtual 42, 3) := by decide +kernel
theorem dL_law_425 : decode cL_law 425 = .ok (.aload_n 2, 1) := by decide +kernel
theorem dL_law_426 : decode cL_law 426 = .ok (.aload_n 0, 1) := by decide +kernel
theorem dL_law_427 : decode cL_law 427 = .ok (.iload_n 3, 1) := by decide +kernel
theorem dL_law_428 : decode cL_law 428 = .ok (.iconst 1, 1) := by decide +kernel
theorem dL_law_429 : decode cL_law 429 = .ok (.iadd, 1) := by decide +kernel
theorem dL_law_430 : decode cL_law 430 = .ok (.iaload, 1) := by decide +kernel
theorem dL_law_431 : decode cL_law 431 = .ok (.invokevirtual 45, 3) := by decide +kernel
theorem dL_law_434 : decode cL_law 434 = .ok (.if_icmp .eq 888, 3) := by decide +kernel
theorem dL_law_437 : decode cL_law 437 = .ok (.iconst 0, 1) := by decide +kernel
theorem dL_law_438 : decode cL_law 438 = .ok (.ireturn, 1) := by decide +kernel
theorem dL_law_439 : decode cL_law 439 = .ok (.aload_n 1, 1) := by decide +kernel
theorem dL_law_440 : decode cL_law 440 = .ok (.aload_n 0, 1) := by decide +kernel
theorem dL_law_441 : decode cL_law 441 = .ok (.iload_n 3, 1) := by decide +kernel
theorem dL_law_442 : decode cL_law 442 = .ok (.iconst 1, 1) := by decide +kernel
theorem dL_law_443 : decode cL_law 443 = .ok (.iadd, 1) := by decide +kernel
theorem dL_law_444 : decode cL_law 444 = .ok (.iaload, 1) := by decide +kernel
theorem dL_law_445 : decode cL_law 445 = .ok (.invokevirtual 46, 3) := by decide +kernel
theorem dL_law_448 : decode cL_law 448 = .ok (.aload_n 2, 1) := by decide +kernel
theorem dL_law_449 : decode cL_law 449 = .ok (.aload_n 0, 1) := by decide +kernel
theorem dL_law_450 : decode cL_law 450 = .ok (.iload_n 3, 1) := by decide +kernel
theorem dL_law_451 : decode cL_law 451 = .ok (.iconst 1, 1) := by decide +kernel
theorem dL_law_452 : decode cL_law 452 = .ok (.iadd, 1) := by decide +kernel
theorem dL_law_453 : decode cL_law 453 = .ok (.iaload, 1) := by decide +kernel
theorem dL_law_454 : decode cL_law 454 = .ok (.invokevirtual 49, 3) := by decide +kernel
theorem dL_law_457 : decode cL_law 457 = .ok (.if_icmp .eq 865, 3) := by decide +kernel
theorem dL_law_460 : decode cL_law 460 = .ok (.iconst 0, 1) := by decide +kernel
theorem dL_law_461 : decode cL_law 461 = .ok (.ireturn, 1) := by decide +kernel
theorem dL_law_462 : decode cL_law 462 = .ok (.aload_n 1, 1) := by decide +kernel
theorem dL_law_463 : decode cL_law 463 = .ok (.aload_n 0, 1) := by decide +kernel
theorem dL_law_464 : decode cL_law 464 = .ok (.iload_n 3, 1) := by decide +kernel
theorem dL_law_465 : decode cL_law 465 = .ok (.iconst 1, 1) := by decide +kernel
theorem dL_law_466 : decode cL_law 466 = .ok (.iadd, 1) := by decide +kernel
theorem dL_law_467 : decode cL_law 467 = .ok (.iaload, 1) := by decide +kernel
theorem dL_law_468 : decode cL_law 468 = .ok (.invokevirtual 50, 3) := by decide +kernel
theorem dL_law_471 : decode cL_law 471 = .ok (.aload_n 2, 1) := by decide +kernel
theorem dL_law_472 : decode cL_law 472 = .ok (.aload_n 0, 1) := by decide +kernel
theorem dL_law_473 : decode cL_law 473 = .ok (.iload_n 3, 1) := by decide +kernel
theorem dL_law_474 : decode cL_law 474 = .ok (.iconst 1, 1) := by decide +kernel
theorem dL_law_475 : decode cL_law 475 = .ok (.iadd, 1) := by decide +kernel
theorem dL_law_476 : decode cL_law 476 = .ok (.iaload, 1) := by decide +kernel
theorem dL_law_477 : decode cL_law 477 = .ok (.invokevirtual 53, 3) := by decide +kernel
theorem dL_law_480 : decode cL_law 480 = .ok (.if_icmp .eq 842, 3) := by decide +kernel
theorem dL_law_483 : decode cL_law 483 = .ok (.iconst 0, 1) := by decide +kernel
theorem dL_law_484 : decode cL_law 484 = .ok (.ireturn, 1) := by decide +kernel
theorem dL_law_485 : decode cL_law 485 = .ok (.aload_n 1, 1) := by decide +kernel
theorem dL_law_486 : decode cL_law 486 = .ok (.aload_n 0, 1) := by decide +kernel
theorem dL_law_487 : decode cL_law 487 = .ok (.iload_n 3, 1) := by decide +kernel
theorem dL_law_488 : decode cL_law 488 = .ok (.iconst 1, 1) := by decide +kernel
theorem dL_law_489 : decode cL_law 489 = .ok (.iadd, 1) := by decide +kernel
theorem dL_law_490 : decode cL_law 490 = .ok (.iaload, 1) := by decide +kernel
theorem dL_law_491 : decode cL_law 491 = .ok (.aload_n 0, 1) := by decide +kernel
theorem dL_law_492 : decode cL_law 492 = .ok (.iload_n 3, 1) := by decide +kernel
theorem dL_law_493 : decode cL_law 493 = .ok (.iconst 2, 1) := by decide +kernel
theorem dL_law_494 : decode cL_law 494 = .ok (.iadd, 1) := by decide +kernel
theorem dL_law_495 : decode cL_law 495 = .ok (.iaload, 1) := by decide +kernel
theorem dL_law_496 : decode cL_law 496 = .ok (.aload_n 0, 1) := by decide +kernel
theorem dL_law_497 : decode cL_law 497 = .ok (.iload_n 3, 1) := by decide +kernel
theorem dL_law_498 : decode cL_law 498 = .ok (.iconst 3, 1) := by decide +kernel
theorem dL_law_499 : decode cL_law 499 = .ok (.iadd, 1) := by decide +kernel
theorem dL_law_500 : decode cL_law 500 = .ok (.iaload, 1) := by decide +kernel
theorem dL_law_501 : decode cL_law 501 = .ok (.aload_n 0, 1) := by decide +kernel
theorem dL_law_502 : decode cL_law 502 = .ok (.iload_n 3, 1) := by decide +kernel
theorem dL_law_503 : decode cL_law 503 = .ok (.iconst 4, 1) := by decide +kernel
theorem dL_law_504 : decode cL_law 504 = .ok (.iadd, 1) := by decide +kernel
theorem dL_law_505 : decode cL_law 505 = .ok (.iaload, 1) := by decide +kernel
theorem dL_law_506 : decode cL_law 506 = .ok (.aload_n 0, 1) := by decide +kernel
theorem dL_law_507 : decode cL_law 507 = .ok (.iload_n 3, 1) := by decide +kernel
theorem dL_law_508 : decode cL_law 508 = .ok (.iconst 5, 1) := by decide +kernel
theorem dL_law_509 : decode cL_law 509 = .ok (.iadd, 1) := by decide +kernel
theorem dL_law_510 : decode cL_law 510 = .ok (.iaload, 1) := by decide +kernel
theorem dL_law_511 : decode cL_law 511 = .ok (.invokevirtual 54, 3) := by decide +kernel
theorem dL_law_514 : decode cL_law 514 = .ok (.aload_n 2, 1) := by decide +kernel
theorem dL_law_515 : decode cL_law 515 = .ok (.aload_n 0, 1) := by decide +kernel
theorem dL_law_516 : decode cL_law 516 = .ok (.iload_n 3, 1) := by decide +kernel
theorem dL_law_517 : decode cL_law 517 = .ok (.iconst 1, 1) := by decide +kernel
theorem dL_law_518 : decode cL_law 518 = .ok (.iadd, 1) := by decide +kernel
theorem dL_law_519 : decode cL_law 519 = .ok (.iaload, 1) := by decide +kernel
theorem dL_law_520 : decode cL_law 520 = .ok (.aload_n 0, 1) := by decide +kernel
theorem dL_law_521 : decode cL_law 521 = .ok (.iload_n 3, 1) := by decide +kernel
theorem dL_law_522 : decode cL_law 522 = .ok (.iconst 2, 1) := by decide +kernel
theorem dL_law_523 : decode cL_law 523 = .ok (.iadd, 1) := by decide +kernel
theorem dL_law_524 : decode cL_law 524 = .ok (.iaload, 1) := by decide +kernel
theorem dL_law_525 : decode cL_law 525 = .ok (.aload_n 0, 1) := by decide +kernel
theorem dL_law_526 : decode cL_law 526 = .ok (.iload_n 3, 1) := by decide +kernel
theorem dL_law_527 : decode cL_law 527 = .ok (.iconst 3, 1) := by decide +kernel
theorem dL_law_528 : decode cL_law 528 = .ok (.iadd, 1) := by decide +kernel
theorem dL_law_529 : decode cL_law 529 = .ok (.iaload, 1) := by decide +kernel
theorem dL_law_530 : decode cL_law 530 = .ok (.aload_n 0, 1) := by decide +kernel
theorem dL_law_531 : decode cL_law 531 = .ok (.iload_n 3, 1) := by decide +kernel
theorem dL_law_532 : decode cL_law 532 = .ok (.iconst 4, 1) := by decide +kernel
theorem dL_law_533 : decode cL_law 533 = .ok (.iadd, 1) := by decide +kernel
theorem dL_law_534 : decode cL_law 534 = .ok (.iaload, 1) := by decide +kernel
theorem dL_law_535 : decode cL_law 535 = .ok (.aload_n 0, 1) := by decide +kernel
theorem dL_law_536 : decode cL_law 536 = .ok (.iload_n 3, 1) := by decide +kernel
theorem dL_law_537 : decode cL_law 537 = .ok (.iconst 5, 1) := by decide +kernel
theorem dL_law_538 : decode cL_law 538 = .ok (.iadd, 1) := by decide +kernel
theorem dL_law_539 : decode cL_law 539 = .ok (.iaload, 1) := by decide +kernel
theorem dL_law_540 : decode cL_law 540 = .ok (.invokevirtual 58, 3) := by decide +kernel
theorem dL_law_543 : decode cL_law 543 = .ok (.if_icmp .eq 779, 3) := by decide +kernel
theorem dL_law_546 : decode cL_law 546 = .ok (.iconst 0, 1) := by decide +kernel
theorem dL_law_547 : decode cL_law 547 = .ok (.ireturn, 1) := by decide +kernel
theorem dL_law_548 : decode cL_law 548 = .ok (.aload_n 1, 1) := by decide +kernel
theorem dL_law_549 : decode cL_law 549 = .ok (.invokevirtual 59, 3) := by decide +kernel
theorem dL_law_552 : decode cL_law 552 = .ok (.aload_n 2, 1) := by decide +kernel
theorem dL_law_553 : decode cL_law 553 = .ok (.invokevirtual 62, 3) := by decide +kernel
theorem dL_law_556 : decode cL_law 556 = .ok (.if_icmp .eq 766, 3) := by decide +kernel
theorem dL_law_559 : decode cL_law 559 = .ok (.iconst 0, 1) := by decide +kernel
theorem dL_law_560 : decode cL_law 560 = .ok (.ireturn, 1) := by decide +kernel
theorem dL_law_561 : decode cL_law 561 = .ok (.aload_n 1, 1) := by decide +kernel
theorem dL_law_562 : decode cL_law 562 = .ok (.aload_n 0, 1) := by decide +kernel
theorem dL_law_563 : decode cL_law 563 = .ok (.iload_n 3, 1) := by decide +kernel
theorem dL_law_564 : decode cL_law 564 = .ok (.iconst 1, 1) := by decide +kernel
theorem dL_law_565 : decode cL_law 565 = .ok (.iadd, 1) := by decide +kernel
theorem dL_law_566 : decode cL_law 566 = .ok (.iaload, 1) := by decide +kernel
theorem dL_law_567 : decode cL_law 567 = .ok (.aload_n 0, 1) := by decide +kernel
theorem dL_law_568 : decode cL_law 568 = .ok (.iload_n 3, 1) := by decide +kernel
theorem dL_law_569 : decode cL_law 569 = .ok (.iconst 2, 1) := by decide +kernel
theorem dL_law_570 : decode cL_law 570 = .ok (.iadd, 1) := by decide +kernel
theorem dL_law_571 : decode cL_law 571 = .ok (.iaload, 1) := by decide +kernel
theorem dL_law_572 : decode cL_law 572 = .ok (.invokevirtual 63, 3) := by decide +kernel
theorem dL_law_575 : decode cL_law 575 = .ok (.aload_n 2, 1) := by decide +kernel
theorem dL_law_576 : decode cL_law 576 = .ok (.aload_n 0, 1) := by decide +kernel
theorem dL_law_577 : decode cL_law 577 = .ok (.iload_n 3, 1) := by decide +kernel
theorem dL_law_578 : decode cL_law 578 = .ok (.iconst 1, 1) := by decide +kernel
theorem dL_law_579 : decode cL_law 579 = .ok (.iadd, 1) := by decide +kernel
theorem dL_law_580 : decode cL_law 580 = .ok (.iaload, 1) := by decide +kernel
theorem dL_law_581 : decode cL_law 581 = .ok (.aload_n 0, 1) := by decide +kernel
theorem dL_law_582 : decode cL_law 582 = .ok (.iload_n 3, 1) := by decide +kernel
theorem dL_law_583 : decode cL_law 583 = .ok (.iconst 2, 1) := by decide +kernel
theorem dL_law_584 : decode cL_law 584 = .ok (.iadd, 1) := by decide +kernel
theorem dL_law_585 : decode cL_law 585 = .ok (.iaload, 1) := by decide +kernel
theorem dL_law_586 : decode cL_law 586 = .ok (.invokevirtual 66, 3) := by decide +kernel
theorem dL_law_589 : decode cL_law 589 = .ok (.if_icmp .eq 733, 3) := by decide +kernel
theorem dL_law_592 : decode cL_law 592 = .ok (.iconst 0, 1) := by decide +kernel
theorem dL_law_593 : decode cL_law 593 = .ok (.ireturn, 1) := by decide +kernel
theorem dL_law_594 : decode cL_law 594 = .ok (.aload_n 1, 1) := by decide +kernel
theorem dL_law_595 : decode cL_law 595 = .ok (.invokevirtual 67, 3) := by decide +kernel
theorem dL_law_598 : decode cL_law 598 = .ok (.aload_n 2, 1) := by decide +kernel
theorem dL_law_599 : decode cL_law 599 = .ok (.invokevirtual 70, 3) := by decide +kernel
theorem dL_law_602 : decode cL_law 602 = .ok (.if_icmp .eq 720, 3) := by decide +kernel
theorem dL_law_605 : decode cL_law 605 = .ok (.iconst 0, 1) := by decide +kernel
theorem dL_law_606 : decode cL_law 606 = .ok (.ireturn, 1) := by decide +kernel
theorem dL_law_607 : decode cL_law 607 = .ok (.aload_n 1, 1) := by decide +kernel
theorem dL_law_608 : decode cL_law 608 = .ok (.aload_n 0, 1) := by decide +kernel
theorem dL_law_609 : decode cL_law 609 = .ok (.iload_n 3, 1) := by decide +kernel
theorem dL_law_610 : decode cL_law 610 = .ok (.iconst 1, 1) := by decide +kernel
theorem dL_law_611 : decode cL_law 611 = .ok (.iadd, 1) := by decide +kernel
theorem dL_law_612 : decode cL_law 612 = .ok (.iaload, 1) := by decide +kernel
theorem dL_law_613 : decode cL_law 613 = .ok (.aload_n 0, 1) := by decide +kernel
theorem dL_law_614 : decode cL_law 614 = .ok (.iload_n 3, 1) := by decide +kernel
theorem dL_law_615 : decode cL_law 615 = .ok (.iconst 2, 1) := by decide +kernel
theorem dL_law_616 : decode cL_law 616 = .ok (.iadd, 1) := by decide +kernel
theorem dL_law_617 : decode cL_law 617 = .ok (.iaload, 1) := by decide +kernel
theorem dL_law_618 : decode cL_law 618 = .ok (.aload_n 0, 1) := by decide +kernel
theorem dL_law_619 : decode cL_law 619 = .ok (.iload_n 3, 1) := by decide +kernel
theorem dL_law_620 : decode cL_law 620 = .ok (.iconst 3, 1) := by decide +kernel
theorem dL_law_621 : decode cL_law 621 = .ok (.iadd, 1) := by decide +kernel
theorem dL_law_622 : decode cL_law 622 = .ok (.iaload, 1) := by decide +kernel
theorem dL_law_623 : decode cL_law 623 = .ok (.invokevirtual 71, 3) := by decide +kernel
theorem dL_law_626 : decode cL_law 626 = .ok (.aload_n 2, 1) := by decide +kernel
theorem dL_law_627 : decode cL_law 627 = .ok (.aload_n 0, 1) := by decide +kernel
theorem dL_law_628 : decode cL_law 628 = .ok (.iload_n 3, 1) := by decide +kernel
theorem dL_law_629 : decode cL_law 629 = .ok (.iconst 1, 1) := by decide +kernel
theorem dL_law_630 : decode cL_law 630 = .ok (.iadd, 1) := by decide +kernel
theorem dL_law_631 : decode cL_law 631 = .ok (.iaload, 1) := by decide +kernel
theorem dL_law_632 : decode cL_law 632 = .ok (.aload_n 0, 1) := by decide +kernel
theorem dL_law_633 : decode cL_law 633 = .ok (.iload_n 3, 1) := by decide +kernel
theorem dL_law_634 : decode cL_law 634 = .ok (.iconst 2, 1) := by decide +kernel
theorem dL_law_635 : decode cL_law 635 = .ok (.iadd, 1) := by decide +kernel
theorem dL_law_636 : decode cL_law 636 = .ok (.iaload, 1) := by decide +kernel
theorem dL_law_637 : decode cL_law 637 = .ok (.aload_n 0, 1) := by decide +kernel
theorem dL_law_638 : decode cL_law 638 = .ok (.iload_n 3, 1) := by decide +kernel
theorem dL_law_639 : decode cL_law 639 = .ok (.iconst 3, 1) := by decide +kernel
theorem dL_law_640 : decode cL_law 640 = .ok (.iadd, 1) := by decide +kernel
theorem dL_law_641 : decode cL_law 641 = .ok (.iaload, 1) := by decide +kernel
theorem dL_law_642 : decode cL_law 642 = .ok (.invokevirtual 75, 3) := by decide +kernel
theorem dL_law_645 : decode cL_law 645 = .ok (.lcmp, 1) := by decide +kernel
theorem dL_law_646 : decode cL_law 646 = .ok (.ifCond .eq 676, 3) := by decide +kernel
theorem dL_law_649 : decode cL_law 649 = .ok (.iconst 0, 1) := by decide +kernel
theorem dL_law_650 : decode cL_law 650 = .ok (.ireturn, 1) := by decide +kernel
theorem dL_law_651 : decode cL_law 651 = .ok (.aload_n 1, 1) := by decide +kernel
theorem dL_law_652 : decode cL_law 652 = .ok (.aload_n 0, 1) := by decide +kernel
theorem dL_law_653 : decode cL_law 653 = .ok (.iload_n 3, 1) := by decide +kernel
theorem dL_law_654 : decode cL_law 654 = .ok (.iconst 1, 1) := by decide +kernel
theorem dL_law_655 : decode cL_law 655 = .ok (.iadd, 1) := by decide +kernel
theorem dL_law_656 : decode cL_law 656 = .ok (.iaload, 1) := by decide +kernel
theorem dL_law_657 : decode cL_law 657 = .ok (.aload_n 0, 1) := by decide +kernel
theorem dL_law_658 : decode cL_law 658 = .ok (.iload_n 3, 1) := by decide +kernel
theorem dL_law_659 : decode cL_law 659 = .ok (.iconst 2, 1) := by decide +kernel
theorem dL_law_660 : decode cL_law 660 = .ok (.iadd, 1) := by decide +kernel
theorem dL_law_661 : decode cL_law 661 = .ok (.iaload, 1) := by decide +kernel
theorem dL_law_662 : decode cL_law 662 = .ok (.invokevirtual 76, 3) := by decide +kernel
theorem dL_law_665 : decode cL_law 665 = .ok (.aload_n 2, 1) := by decide +kernel
theorem dL_law_666 : decode cL_law 666 = .ok (.aload_n 0, 1) := by decide +kernel
theorem dL_law_667 : decode cL_law 667 = .ok (.iload_n 3, 1) := by decide +kernel
theorem dL_law_668 : decode cL_law 668 = .ok (.iconst 1, 1) := by decide +kernel
theorem dL_law_669 : decode cL_law 669 = .ok (.iadd, 1) := by decide +kernel
theorem dL_law_670 : decode cL_law 670 = .ok (.iaload, 1) := by decide +kernel
theorem dL_law_671 : decode cL_law 671 = .ok (.aload_n 0, 1) := by decide +kernel
theorem dL_law_672 : decode cL_law 672 = .ok (.iload_n 3, 1) := by decide +kernel
theorem dL_law_673 : decode cL_law 673 = .ok (.iconst 2, 1) := by decide +kernel
theorem dL_law_674 : decode cL_law 674 = .ok (.iadd, 1) := by decide +kernel
theorem dL_law_675 : decode cL_law 675 = .ok (.iaload, 1) := by decide +kernel
theorem dL_law_676 : decode cL_law 676 = .ok (.invokevirtual 79, 3) := by decide +kernel
theorem dL_law_679 : decode cL_law 679 = .ok (.if_icmp .eq 643, 3) := by decide +kernel
theorem dL_law_682 : decode cL_law 682 = .ok (.iconst 0, 1) := by decide +kernel
theorem dL_law_683 : decode cL_law 683 = .ok (.ireturn, 1) := by decide +kernel
theorem dL_law_684 : decode cL_law 684 = .ok (.aload_n 1, 1) := by decide +kernel
theorem dL_law_685 : decode cL_law 685 = .ok (.invokevirtual 80, 3) := by decide +kernel
theorem dL_law_688 : decode cL_law 688 = .ok (.aload_n 2, 1) := by decide +kernel
theorem dL_law_689 : decode cL_law 689 = .ok (.invokevirtual 83, 3) := by decide +kernel
theorem dL_law_692 : decode cL_law 692 = .ok (.if_icmp .eq 630, 3) := by decide +kernel
theorem dL_law_695 : decode cL_law 695 = .ok (.iconst 0, 1) := by decide +kernel
theorem dL_law_696 : decode cL_law 696 = .ok (.ireturn, 1) := by decide +kernel
theorem dL_law_697 : decode cL_law 697 = .ok (.aload_n 1, 1) := by decide +kernel
theorem dL_law_698 : decode cL_law 698 = .ok (.invokevirtual 84, 3) := by decide +kernel
theorem dL_law_701 : decode cL_law 701 = .ok (.aload_n 2, 1) := by decide +kernel
theorem dL_law_702 : decode cL_law 702 = .ok (.invokevirtual 87, 3) := by decide +kernel
theorem dL_law_705 : decode cL_law 705 = .ok (.if_icmp .eq 617, 3) := by decide +kernel
theorem dL_law_708 : decode cL_law 708 = .ok (.iconst 0, 1) := by decide +kernel
theorem dL_law_709 : decode cL_law 709 = .ok (.ireturn, 1) := by decide +kernel
theorem dL_law_710 : decode cL_law 710 = .ok (.aload_n 1, 1) := by decide +kernel
theorem dL_law_711 : decode cL_law 711 = .ok (.aload_n 0, 1) := by decide +kernel
theorem dL_law_712 : decode cL_law 712 = .ok (.iload_n 3, 1) := by decide +kernel
theorem dL_law_713 : decode cL_law 713 = .ok (.iconst 1, 1) := by decide +kernel
theorem dL_law_714 : decode cL_law 714 = .ok (.iadd, 1) := by decide +kernel
theorem dL_law_715 : decode cL_law 715 = .ok (.iaload, 1) := by decide +kernel
theorem dL_law_716 : decode cL_law 716 = .ok (.invokevirtual 88, 3) := by decide +kernel
theorem dL_law_719 : decode cL_law 719 = .ok (.aload_n 2, 1) := by decide +kernel
theorem dL_law_720 : decode cL_law 720 = .ok (.aload_n 0, 1) := by decide +kernel
theorem dL_law_721 : decode cL_law 721 = .ok (.iload_n 3, 1) := by decide +kernel
theorem dL_law_722 : decode cL_law 722 = .ok (.iconst 1, 1) := by decide +kernel
theorem dL_law_723 : decode cL_law 723 = .ok (.iadd, 1) := by decide +kernel
theorem dL_law_724 : decode cL_law 724 = .ok (.iaload, 1) := by decide +kernel
theorem dL_law_725 : decode cL_law 725 = .ok (.invokevirtual 91, 3) := by decide +kernel
theorem dL_law_728 : decode cL_law 728 = .ok (.if_icmp .eq 594, 3) := by decide +kernel
theorem dL_law_731 : decode cL_law 731 = .ok (.iconst 0, 1) := by decide +kernel
theorem dL_law_732 : decode cL_law 732 = .ok (.ireturn, 1) := by decide +kernel
theorem dL_law_733 : decode cL_law 733 = .ok (.aload_n 1, 1) := by decide +kernel
theorem dL_law_734 : decode cL_law 734 = .ok (.aload_n 0, 1) := by decide +kernel
theorem dL_law_735 : decode cL_law 735 = .ok (.iload_n 3, 1) := by decide +kernel
theorem dL_law_736 : decode cL_law 736 = .ok (.iconst 1, 1) := by decide +kernel
theorem dL_law_737 : decode cL_law 737 = .ok (.iadd, 1) := by decide +kernel
theorem dL_law_738 : decode cL_law 738 = .ok (.iaload, 1) := by decide +kernel
theorem dL_law_739 : decode cL_law 739 = .ok (.aload_n 0, 1) := by decide +kernel
theorem dL_law_740 : decode cL_law 740 = .ok (.iload_n 3, 1) := by decide +kernel
theorem dL_law_741 : decode cL_law 741 = .ok (.iconst 2, 1) := by decide +kernel
theorem dL_law_742 : decode cL_law 742 = .ok (.iadd, 1) := by decide +kernel
theorem dL_law_743 : decode cL_law 743 = .ok (.iaload, 1) := by decide +kernel
theorem dL_law_744 : decode cL_law 744 = .ok (.invokevirtual 92, 3) := by decide +kernel
theorem dL_law_747 : decode cL_law 747 = .ok (.aload_n 2, 1) := by decide +kernel
theorem dL_law_748 : decode cL_law 748 = .ok (.aload_n 0, 1) := by decide +kernel
theorem dL_law_749 : decode cL_law 749 = .ok (.iload_n 3, 1) := by decide +kernel
theorem dL_law_750 : decode cL_law 750 = .ok (.iconst 1, 1) := by decide +kernel
theorem dL_law_751 : decode cL_law 751 = .ok (.iadd, 1) := by decide +kernel
theorem dL_law_752 : decode cL_law 752 = .ok (.iaload, 1) := by decide +kernel
theorem dL_law_753 : decode cL_law 753 = .ok (.aload_n 0, 1) := by decide +kernel
theorem dL_law_754 : decode cL_law 754 = .ok (.iload_n 3, 1) := by decide +kernel
theorem dL_law_755 : decode cL_law 755 = .ok (.iconst 2, 1) := by decide +kernel
theorem dL_law_756 : decode cL_law 756 = .ok (.iadd, 1) := by decide +kernel
theorem dL_law_757 : decode cL_law 757 = .ok (.iaload, 1) := by decide +kernel
theorem dL_law_758 : decode cL_law 758 = .ok (.invokevirtual 95, 3) := by decide +kernel
theorem dL_law_761 : decode cL_law 761 = .ok (.if_icmp .eq 561, 3) := by decide +kernel
theorem dL_law_764 : decode cL_law 764 = .ok (.iconst 0, 1) := by decide +kernel
theorem dL_law_765 : decode cL_law 765 = .ok (.ireturn, 1) := by decide +kernel
theorem dL_law_766 : decode cL_law 766 = .ok (.aload_n 1, 1) := by decide +kernel
theorem dL_law_767 : decode cL_law 767 = .ok (.aload_n 0, 1) := by decide +kernel
theorem dL_law_768 : decode cL_law 768 = .ok (.iload_n 3, 1) := by decide +kernel
theorem dL_law_769 : decode cL_law 769 = .ok (.iconst 1, 1) := by decide +kernel
theorem dL_law_770 : decode cL_law 770 = .ok (.iadd, 1) := by decide +kernel
theorem dL_law_771 : decode cL_law 771 = .ok (.iaload, 1) := by decide +kernel
theorem dL_law_772 : decode cL_law 772 = .ok (.invokevirtual 96, 3) := by decide +kernel
theorem dL_law_775 : decode cL_law 775 = .ok (.aload_n 2, 1) := by decide +kernel
theorem dL_law_776 : decode cL_law 776 = .ok (.aload_n 0, 1) := by decide +kernel
theorem dL_law_777 : decode cL_law 777 = .ok (.iload_n 3, 1) := by decide +kernel
theorem dL_law_778 : decode cL_law 778 = .ok (.iconst 1, 1) := by decide +kernel
theorem dL_law_779 : decode cL_law 779 = .ok (.iadd, 1) := by decide +kernel
theorem dL_law_780 : decode cL_law 780 = .ok (.iaload, 1) := by decide +kernel
theorem dL_law_781 : decode cL_law 781 = .ok (.invokevirtual 99, 3) := by decide +kernel
theorem dL_law_784 : decode cL_law 784 = .ok (.if_icmp .eq 538, 3) := by decide +kernel
theorem dL_law_787 : decode cL_law 787 = .ok (.iconst 0, 1) := by decide +kernel
theorem dL_law_788 : decode cL_law 788 = .ok (.ireturn, 1) := by decide +kernel
theorem dL_law_789 : decode cL_law 789 = .ok (.aload_n 1, 1) := by decide +kernel
theorem dL_law_790 : decode cL_law 790 = .ok (.aload_n 0, 1) := by decide +kernel
theorem dL_law_791 : decode cL_law 791 = .ok (.iload_n 3, 1) := by decide +kernel
theorem dL_law_792 : decode cL_law 792 = .ok (.iconst 1, 1) := by decide +kernel
theorem dL_law_793 : decode cL_law 793 = .ok (.iadd, 1) := by decide +kernel
theorem dL_law_794 : decode cL_law 794 = .ok (.iaload, 1) := by decide +kernel
theorem dL_law_795 : decode cL_law 795 = .ok (.invokevirtual 100, 3) := by decide +kernel
theorem dL_law_798 : decode cL_law 798 = .ok (.aload_n 2, 1) := by decide +kernel
theorem dL_law_799 : decode cL_law 799 = .ok (.aload_n 0, 1) := by decide +kernel
theorem dL_law_800 : decode cL_law 800 = .ok (.iload_n 3, 1) := by decide +kernel
theorem dL_law_801 : decode cL_law 801 = .ok (.iconst 1, 1) := by decide +kernel
theorem dL_law_802 : decode cL_law 802 = .ok (.iadd, 1) := by decide +kernel
theorem dL_law_803 : decode cL_law 803 = .ok (.iaload, 1) := by decide +kernel
theorem dL_law_804 : decode cL_law 804 = .ok (.invokevirtual 103, 3) := by decide +kernel
theorem dL_law_807 : decode cL_law 807 = .ok (.if_icmp .eq 515, 3) := by decide +kernel
theorem dL_law_810 : decode cL_law 810 = .ok (.iconst 0, 1) := by decide +kernel
theorem dL_law_811 : decode cL_law 811 = .ok (.ireturn, 1) := by decide +kernel
theorem dL_law_812 : decode cL_law 812 = .ok (.aload_n 1, 1) := by decide +kernel
theorem dL_law_813 : decode cL_law 813 = .ok (.invokevirtual 104, 3) := by decide +kernel
theorem dL_law_816 : decode cL_law 816 = .ok (.aload_n 2, 1) := by decide +kernel
theorem dL_law_817 : decode cL_law 817 = .ok (.invokevirtual 107, 3) := by decide +kernel
theorem dL_law_820 : decode cL_law 820 = .ok (.if_icmp .eq 502, 3) := by decide +kernel
theorem dL_law_823 : decode cL_law 823 = .ok (.iconst 0, 1) := by decide +kernel
theorem dL_law_824 : decode cL_law 824 = .ok (.ireturn, 1) := by decide +kernel
theorem dL_law_825 : decode cL_law 825 = .ok (.aload_n 1, 1) := by decide +kernel
theorem dL_law_826 : decode cL_law 826 = .ok (.aload_n 0, 1) := by decide +kernel
theorem dL_law_827 : decode cL_law 827 = .ok (.iload_n 3, 1) := by decide +kernel
theorem dL_law_828 : decode cL_law 828 = .ok (.iconst 1, 1) := by decide +kernel
theorem dL_law_829 : decode cL_law 829 = .ok (.iadd, 1) := by decide +kernel
theorem dL_law_830 : decode cL_law 830 = .ok (.iaload, 1) := by decide +kernel
theorem dL_law_831 : decode cL_law 831 = .ok (.aload_n 0, 1) := by decide +kernel
theorem dL_law_832 : decode cL_law 832 = .ok (.iload_n 3, 1) := by decide +kernel
theorem dL_law_833 : decode cL_law 833 = .ok (.iconst 2, 1) := by decide +kernel
theorem dL_law_834 : decode cL_law 834 = .ok (.iadd, 1) := by decide +kernel
theorem dL_law_835 : decode cL_law 835 = .ok (.iaload, 1) := by decide +kernel
theorem dL_law_836 : decode cL_law 836 = .ok (.invokevirtual 108, 3) := by decide +kernel
theorem dL_law_839 : decode cL_law 839 = .ok (.aload_n 2, 1) := by decide +kernel
theorem dL_law_840 : decode cL_law 840 = .ok (.aload_n 0, 1) := by decide +kernel
theorem dL_law_841 : decode cL_law 841 = .ok (.iload_n 3, 1) := by decide +kernel
theorem dL_law_842 : decode cL_law 842 = .ok (.iconst 1, 1) := by decide +kernel
theorem dL_law_843 : decode cL_law 843 = .ok (.iadd, 1) := by decide +kernel
theorem dL_law_844 : decode cL_law 844 = .ok (.iaload, 1) := by decide +kernel
theorem dL_law_845 : decode cL_law 845 = .ok (.aload_n 0, 1) := by decide +kernel
theorem dL_law_846 : decode cL_law 846 = .ok (.iload_n 3, 1) := by decide +kernel
theorem dL_law_847 : decode cL_law 847 = .ok (.iconst 2, 1) := by decide +kernel
theorem dL_law_848 : decode cL_law 848 = .ok (.iadd, 1) := by decide +kernel
theorem dL_law_849 : decode cL_law 849 = .ok (.iaload, 1) := by decide +kernel
theorem dL_law_850 : decode cL_law 850 = .ok (.invokevirtual 111, 3) := by decide +kernel
theorem dL_law_853 : decode cL_law 853 = .ok (.if_icmp .eq 469, 3) := by decide +kernel
theorem dL_law_856 : decode cL_law 856 = .ok (.iconst 0, 1) := by decide +kernel
theorem dL_law_857 : decode cL_law 857 = .ok (.ireturn, 1) := by decide +kernel
theorem dL_law_858 : decode cL_law 858 = .ok (.aload_n 1, 1) := by decide +kernel
theorem dL_law_859 : decode cL_law 859 = .ok (.aload_n 0, 1) := by decide +kernel
theorem dL_law_860 : decode cL_law 860 = .ok (.iload_n 3, 1) := by decide +kernel
theorem dL_law_861 : decode cL_law 861 = .ok (.iconst 1, 1) := by decide +kernel
theorem dL_law_862 : decode cL_law 862 = .ok (.iadd, 1) := by decide +kernel
theorem dL_law_863 : decode cL_law 863 = .ok (.iaload, 1) := by decide +kernel
theorem dL_law_864 : decode cL_law 864 = .ok (.aload_n 0, 1) := by decide +kernel
theorem dL_law_865 : decode cL_law 865 = .ok (.iload_n 3, 1) := by decide +kernel
theorem dL_law_866 : decode cL_law 866 = .ok (.iconst 2, 1) := by decide +kernel
theorem dL_law_867 : decode cL_law 867 = .ok (.iadd, 1) := by decide +kernel
theorem dL_law_868 : decode cL_law 868 = .ok (.iaload, 1) := by decide +kernel
theorem dL_law_869 : decode cL_law 869 = .ok (.aload_n 0, 1) := by decide +kernel
theorem dL_law_870 : decode cL_law 870 = .ok (.iload_n 3, 1) := by decide +kernel
theorem dL_law_871 : decode cL_law 871 = .ok (.iconst 3, 1) := by decide +kernel
theorem dL_law_872 : decode cL_law 872 = .ok (.iadd, 1) := by decide +kernel
theorem dL_law_873 : decode cL_law 873 = .ok (.iaload, 1) := by decide +kernel
theorem dL_law_874 : decode cL_law 874 = .ok (.invokevirtual 112, 3) := by decide +kernel
theorem dL_law_877 : decode cL_law 877 = .ok (.aload_n 2, 1) := by decide +kernel
theorem dL_law_878 : decode cL_law 878 = .ok (.aload_n 0, 1) := by decide +kernel
theorem dL_law_879 : decode cL_law 879 = .ok (.iload_n 3, 1) := by decide +kernel
theorem dL_law_880 : decode cL_law 880 = .ok (.iconst 1, 1) := by decide +kernel
theorem dL_law_881 : decode cL_law 881 = .ok (.iadd, 1) := by decide +kernel
theorem dL_law_882 : decode cL_law 882 = .ok (.iaload, 1) := by decide +kernel
theorem dL_law_883 : decode cL_law 883 = .ok (.aload_n 0, 1) := by decide +kernel
theorem dL_law_884 : decode cL_law 884 = .ok (.iload_n 3, 1) := by decide +kernel
theorem dL_law_885 : decode cL_law 885 = .ok (.iconst 2, 1) := by decide +kernel
theorem dL_law_886 : decode cL_law 886 = .ok (.iadd, 1) := by decide +kernel
theorem dL_law_887 : decode cL_law 887 = .ok (.iaload, 1) := by decide +kernel
theorem dL_law_888 : decode cL_law 888 = .ok (.aload_n 0, 1) := by decide +kernel
theorem dL_law_889 : decode cL_law 889 = .ok (.iload_n 3, 1) := by decide +kernel
theorem dL_law_890 : decode cL_law 890 = .ok (.iconst 3, 1) := by decide +kernel
theorem dL_law_891 : decode cL_law 891 = .ok (.iadd, 1) := by decide +kernel
theorem dL_law_892 : decode cL_law 892 = .ok (.iaload, 1) := by decide +kernel
theorem dL_law_893 : decode cL_law 893 = .ok (.invokevirtual 115, 3) := by decide +kernel
theorem dL_law_896 : decode cL_law 896 = .ok (.lcmp, 1) := by decide +kernel
theorem dL_law_897 : decode cL_law 897 = .ok (.ifCond .eq 425, 3) := by decide +kernel
theorem dL_law_900 : decode cL_law 900 = .ok (.iconst 0, 1) := by decide +kernel
theorem dL_law_901 : decode cL_law 901 = .ok (.ireturn, 1) := by decide +kernel
theorem dL_law_902 : decode cL_law 902 = .ok (.aload_n 1, 1) := by decide +kernel
theorem dL_law_903 : decode cL_law 903 = .ok (.aload_n 0, 1) := by decide +kernel
theorem dL_law_904 : decode cL_law 904 = .ok (.iload_n 3, 1) := by decide +kernel
theorem dL_law_905 : decode cL_law 905 = .ok (.iconst 1, 1) := by decide +kernel
theorem dL_law_906 : decode cL_law 906 = .ok (.iadd, 1) := by decide +kernel
theorem dL_law_907 : decode cL_law 907 = .ok (.iaload, 1) := by decide +kernel
theorem dL_law_908 : decode cL_law 908 = .ok (.aload_n 0, 1) := by decide +kernel
theorem dL_law_909 : decode cL_law 909 = .ok (.iload_n 3, 1) := by decide +kernel
theorem dL_law_910 : decode cL_law 910 = .ok (.iconst 2, 1) := by decide +kernel
theorem dL_law_911 : decode cL_law 911 = .ok (.iadd, 1) := by decide +kernel
theorem dL_law_912 : decode cL_law 912 = .ok (.iaload, 1) := by decide +kernel
theorem dL_law_913 : decode cL_law 913 = .ok (.invokevirtual 116, 3) := by decide +kernel
theorem dL_law_916 : decode cL_law 916 = .ok (.aload_n 2, 1) := by decide +kernel
theorem dL_law_917 : decode cL_law 917 = .ok (.aload_n 0, 1) := by decide +kernel
theorem dL_law_918 : decode cL_law 918 = .ok (.iload_n 3, 1) := by decide +kernel
theorem dL_law_919 : decode cL_law 919 = .ok (.iconst 1, 1) := by decide +kernel
theorem dL_law_920 : decode cL_law 920 = .ok (.iadd, 1) := by decide +kernel
theorem dL_law_921 : decode cL_law 921 = .ok (.iaload, 1) := by decide +kernel
theorem dL_law_922 : decode cL_law 922 = .ok (.aload_n 0, 1) := by decide +kernel
theorem dL_law_923 : decode cL_law 923 = .ok (.iload_n 3, 1) := by decide +kernel
theorem dL_law_924 : decode cL_law 924 = .ok (.iconst 2, 1) := by decide +kernel
theorem dL_law_925 : decode cL_law 925 = .ok (.iadd, 1) := by decide +kernel
theorem dL_law_926 : decode cL_law 926 = .ok (.iaload, 1) := by decide +kernel
theorem dL_law_927 : decode cL_law 927 = .ok (.invokevirtual 119, 3) := by decide +kernel
theorem dL_law_930 : decode cL_law 930 = .ok (.if_icmp .eq 392, 3) := by decide +kernel
theorem dL_law_933 : decode cL_law 933 = .ok (.iconst 0, 1) := by decide +kernel
theorem dL_law_934 : decode cL_law 934 = .ok (.ireturn, 1) := by decide +kernel
theorem dL_law_935 : decode cL_law 935 = .ok (.aload_n 1, 1) := by decide +kernel
theorem dL_law_936 : decode cL_law 936 = .ok (.aload_n 0, 1) := by decide +kernel
theorem dL_law_937 : decode cL_law 937 = .ok (.iload_n 3, 1) := by decide +kernel
theorem dL_law_938 : decode cL_law 938 = .ok (.iconst 1, 1) := by decide +kernel
theorem dL_law_939 : decode cL_law 939 = .ok (.iadd, 1) := by decide +kernel
theorem dL_law_940 : decode cL_law 940 = .ok (.iaload, 1) := by decide +kernel
theorem dL_law_941 : decode cL_law 941 = .ok (.aload_n 0, 1) := by decide +kernel
theorem dL_law_942 : decode cL_law 942 = .ok (.iload_n 3, 1) := by decide +kernel
theorem dL_law_943 : decode cL_law 943 = .ok (.iconst 2, 1) := by decide +kernel
theorem dL_law_944 : decode cL_law 944 = .ok (.iadd, 1) := by decide +kernel
theorem dL_law_945 : decode cL_law 945 = .ok (.iaload, 1) := by decide +kernel
theorem dL_law_946 : decode cL_law 946 = .ok (.aload_n 0, 1) := by decide +kernel
theorem dL_law_947 : decode cL_law 947 = .ok (.iload_n 3, 1) := by decide +kernel
theorem dL_law_948 : decode cL_law 948 = .ok (.iconst 3, 1) := by decide +kernel
theorem dL_law_949 : decode cL_law 949 = .ok (.iadd, 1) := by decide +kernel
theorem dL_law_950 : decode cL_law 950 = .ok (.iaload, 1) := by decide +kernel
theorem dL_law_951 : decode cL_law 951 = .ok (.invokevirtual 120, 3) := by decide +kernel
theorem dL_law_954 : decode cL_law 954 = .ok (.aload_n 2, 1) := by decide +kernel
theorem dL_law_955 : decode cL_law 955 = .ok (.aload_n 0, 1) := by decide +kernel
theorem dL_law_956 : decode cL_law 956 = .ok (.iload_n 3, 1) := by decide +kernel
theorem dL_law_957 : decode cL_law 957 = .ok (.iconst 1, 1) := by decide +kernel
theorem dL_law_958 : decode cL_law 958 = .ok (.iadd, 1) := by decide +kernel
theorem dL_law_959 : decode cL_law 959 = .ok (.iaload, 1) := by decide +kernel
theorem dL_law_960 : decode cL_law 960 = .ok (.aload_n 0, 1) := by decide +kernel
theorem dL_law_961 : decode cL_law 961 = .ok (.iload_n 3, 1) := by decide +kernel
theorem dL_law_962 : decode cL_law 962 = .ok (.iconst 2, 1) := by decide +kernel
theorem dL_law_963 : decode cL_law 963 = .ok (.iadd, 1) := by decide +kernel
theorem dL_law_964 : decode cL_law 964 = .ok (.iaload, 1) := by decide +kernel
theorem dL_law_965 : decode cL_law 965 = .ok (.aload_n 0, 1) := by decide +kernel
theorem dL_law_966 : decode cL_law 966 = .ok (.iload_n 3, 1) := by decide +kernel
theorem dL_law_967 : decode cL_law 967 = .ok (.iconst 3, 1) := by decide +kernel
theorem dL_law_968 : decode cL_law 968 = .ok (.iadd, 1) := by decide +kernel
theorem dL_law_969 : decode cL_law 969 = .ok (.iaload, 1) := by decide +kernel
theorem dL_law_970 : decode cL_law 970 = .ok (.invokevirtual 123, 3) := by decide +kernel
theorem dL_law_973 : decode cL_law 973 = .ok (.if_icmp .eq 349, 3) := by decide +kernel
theorem dL_law_976 : decode cL_law 976 = .ok (.iconst 0, 1) := by decide +kernel
theorem dL_law_977 : decode cL_law 977 = .ok (.ireturn, 1) := by decide +kernel
theorem dL_law_978 : decode cL_law 978 = .ok (.aload_n 1, 1) := by decide +kernel
theorem dL_law_979 : decode cL_law 979 = .ok (.aload_n 0, 1) := by decide +kernel
theorem dL_law_980 : decode cL_law 980 = .ok (.iload_n 3, 1) := by decide +kernel
theorem dL_law_981 : decode cL_law 981 = .ok (.iconst 1, 1) := by decide +kernel
theorem dL_law_982 : decode cL_law 982 = .ok (.iadd, 1) := by decide +kernel
theorem dL_law_983 : decode cL_law 983 = .ok (.iaload, 1) := by decide +kernel
theorem dL_law_984 : decode cL_law 984 = .ok (.invokevirtual 124, 3) := by decide +kernel
theorem dL_law_987 : decode cL_law 987 = .ok (.aload_n 2, 1) := by decide +kernel
theorem dL_law_988 : decode cL_law 988 = .ok (.aload_n 0, 1) := by decide +kernel
theorem dL_law_989 : decode cL_law 989 = .ok (.iload_n 3, 1) := by decide +kernel
theorem dL_law_990 : decode cL_law 990 = .ok (.iconst 1, 1) := by decide +kernel
theorem dL_law_991 : decode cL_law 991 = .ok (.iadd, 1) := by decide +kernel
theorem dL_law_992 : decode cL_law 992 = .ok (.iaload, 1) := by decide +kernel
theorem dL_law_993 : decode cL_law 993 = .ok (.invokevirtual 127, 3) := by decide +kernel
theorem dL_law_996 : decode cL_law 996 = .ok (.if_icmp .eq 326, 3) := by decide +kernel
theorem dL_law_999 : decode cL_law 999 = .ok (.iconst 0, 1) := by decide +kernel
theorem dL_law_1000 : decode cL_law 1000 = .ok (.ireturn, 1) := by decide +kernel
theorem dL_law_1001 : decode cL_law 1001 = .ok (.aload_n 1, 1) := by decide +kernel
theorem dL_law_1002 : decode cL_law 1002 = .ok (.aload_n 0, 1) := by decide +kernel
theorem dL_law_1003 : decode cL_law 1003 = .ok (.iload_n 3, 1) := by decide +kernel
theorem dL_law_1004 : decode cL_law 1004 = .ok (.iconst 1, 1) := by decide +kernel
theorem dL_law_1005 : decode cL_law 1005 = .ok (.iadd, 1) := by decide +kernel
theorem dL_law_1006 : decode cL_law 1006 = .ok (.iaload, 1) := by decide +kernel
theorem dL_law_1007 : decode cL_law 1007 = .ok (.aload_n 0, 1) := by decide +kernel
theorem dL_law_1008 : decode cL_law 1008 = .ok (.iload_n 3, 1) := by decide +kernel
theorem dL_law_1009 : decode cL_law 1009 = .ok (.iconst 2, 1) := by decide +kernel
theorem dL_law_1010 : decode cL_law 1010 = .ok (.iadd, 1) := by decide +kernel
theorem dL_law_1011 : decode cL_law 1011 = .ok (.iaload, 1) := by decide +kernel
theorem dL_law_1012 : decode cL_law 1012 = .ok (.invokevirtual 128, 3) := by decide +kernel
theorem dL_law_1015 : decode cL_law 1015 = .ok (.aload_n 2, 1) := by decide +kernel
theorem dL_law_1016 : decode cL_law 1016 = .ok (.aload_n 0, 1) := by decide +kernel
theorem dL_law_1017 : decode cL_law 1017 = .ok (.iload_n 3, 1) := by decide +kernel
theorem dL_law_1018 : decode cL_law 1018 = .ok (.iconst 1, 1) := by decide +kernel
theorem dL_law_1019 : decode cL_law 1019 = .ok (.iadd, 1) := by decide +kernel
theorem dL_law_1020 : decode cL_law 1020 = .ok (.iaload, 1) := by decide +kernel
theorem dL_law_1021 : decode cL_law 1021 = .ok (.aload_n 0, 1) := by decide +kernel
theorem dL_law_1022 : decode cL_law 1022 = .ok (.iload_n 3, 1) := by decide +kernel
theorem dL_law_1023 : decode cL_law 1023 = .ok (.iconst 2, 1) := by decide +kernel
theorem dL_law_1024 : decode cL_law 1024 = .ok (.iadd, 1) := by decide +kernel
theorem dL_law_1025 : decode cL_law 1025 = .ok (.iaload, 1) := by decide +kernel
theorem dL_law_1026 : decode cL_law 1026 = .ok (.invokevirtual 132, 3) := by decide +kernel
theorem dL_law_1029 : decode cL_law 1029 = .ok (.lcmp, 1) := by decide +kernel
theorem dL_law_1030 : decode cL_law 1030 = .ok (.ifCond .eq 292, 3) := by decide +kernel
theorem dL_law_1033 : decode cL_law 1033 = .ok (.iconst 0, 1) := by decide +kernel
theorem dL_law_1034 : decode cL_law 1034 = .ok (.ireturn, 1) := by decide +kernel
theorem dL_law_1035 : decode cL_law 1035 = .ok (.aload_n 1, 1) := by decide +kernel
theorem dL_law_1036 : decode cL_law 1036 = .ok (.aload_n 0, 1) := by decide +kernel
theorem dL_law_1037 : decode cL_law 1037 = .ok (.iload_n 3, 1) := by decide +kernel
theorem dL_law_1038 : decode cL_law 1038 = .ok (.iconst 1, 1) := by decide +kernel
theorem dL_law_1039 : decode cL_law 1039 = .ok (.iadd, 1) := by decide +kernel
theorem dL_law_1040 : decode cL_law 1040 = .ok (.iaload, 1) := by decide +kernel
theorem dL_law_1041 : decode cL_law 1041 = .ok (.invokevirtual 133, 3) := by decide +kernel
theorem dL_law_1044 : decode cL_law 1044 = .ok (.aload_n 2, 1) := by decide +kernel
theorem dL_law_1045 : decode cL_law 1045 = .ok (.aload_n 0, 1) := by decide +kernel
theorem dL_law_1046 : decode cL_law 1046 = .ok (.iload_n 3, 1) := by decide +kernel
theorem dL_law_1047 : decode cL_law 1047 = .ok (.iconst 1, 1) := by decide +kernel
theorem dL_law_1048 : decode cL_law 1048 = .ok (.iadd, 1) := by decide +kernel
theorem dL_law_1049 : decode cL_law 1049 = .ok (.iaload, 1) := by decide +kernel
theorem dL_law_1050 : decode cL_law 1050 = .ok (.invokevirtual 137, 3) := by decide +kernel
theorem dL_law_1053 : decode cL_law 1053 = .ok (.lcmp, 1) := by decide +kernel
theorem dL_law_1054 : decode cL_law 1054 = .ok (.ifCond .eq 268, 3) := by decide +kernel
theorem dL_law_1057 : decode cL_law 1057 = .ok (.iconst 0, 1) := by decide +kernel
theorem dL_law_1058 : decode cL_law 1058 = .ok (.ireturn, 1) := by decide +kernel
theorem dL_law_1059 : decode cL_law 1059 = .ok (.aload_n 1, 1) := by decide +kernel
theorem dL_law_1060 : decode cL_law 1060 = .ok (.aload_n 0, 1) := by decide +kernel
theorem dL_law_1061 : decode cL_law 1061 = .ok (.iload_n 3, 1) := by decide +kernel
theorem dL_law_1062 : decode cL_law 1062 = .ok (.iconst 1, 1) := by decide +kernel
theorem dL_law_1063 : decode cL_law 1063 = .ok (.iadd, 1) := by decide +kernel
theorem dL_law_1064 : decode cL_law 1064 = .ok (.iaload, 1) := by decide +kernel
theorem dL_law_1065 : decode cL_law 1065 = .ok (.invokevirtual 138, 3) := by decide +kernel
theorem dL_law_1068 : decode cL_law 1068 = .ok (.aload_n 2, 1) := by decide +kernel
theorem dL_law_1069 : decode cL_law 1069 = .ok (.aload_n 0, 1) := by decide +kernel
theorem dL_law_1070 : decode cL_law 1070 = .ok (.iload_n 3, 1) := by decide +kernel
theorem dL_law_1071 : decode cL_law 1071 = .ok (.iconst 1, 1) := by decide +kernel
theorem dL_law_1072 : decode cL_law 1072 = .ok (.iadd, 1) := by decide +kernel
theorem dL_law_1073 : decode cL_law 1073 = .ok (.iaload, 1) := by decide +kernel
theorem dL_law_1074 : decode cL_law 1074 = .ok (.invokevirtual 141, 3) := by decide +kernel
theorem dL_law_1077 : decode cL_law 1077 = .ok (.if_icmp .eq 245, 3) := by decide +kernel
theorem dL_law_1080 : decode cL_law 1080 = .ok (.iconst 0, 1) := by decide +kernel
theorem dL_law_1081 : decode cL_law 1081 = .ok (.ireturn, 1) := by decide +kernel
theorem dL_law_1082 : decode cL_law 1082 = .ok (.aload_n 1, 1) := by decide +kernel
theorem dL_law_1083 : decode cL_law 1083 = .ok (.aload_n 0, 1) := by decide +kernel
theorem dL_law_1084 : decode cL_law 1084 = .ok (.iload_n 3, 1) := by decide +kernel
theorem dL_law_1085 : decode cL_law 1085 = .ok (.iconst 1, 1) := by decide +kernel
theorem dL_law_1086 : decode cL_law 1086 = .ok (.iadd, 1) := by decide +kernel
theorem dL_law_1087 : decode cL_law 1087 = .ok (.iaload, 1) := by decide +kernel
theorem dL_law_1088 : decode cL_law 1088 = .ok (.invokevirtual 142, 3) := by decide +kernel
theorem dL_law_1091 : decode cL_law 1091 = .ok (.aload_n 2, 1) := by decide +kernel
theorem dL_law_1092 : decode cL_law 1092 = .ok (.aload_n 0, 1) := by decide +kernel
theorem dL_law_1093 : decode cL_law 1093 = .ok (.iload_n 3, 1) := by decide +kernel
theorem dL_law_1094 : decode cL_law 1094 = .ok (.iconst 1, 1) := by decide +kernel
theorem dL_law_1095 : decode cL_law 1095 = .ok (.iadd, 1) := by decide +kernel
theorem dL_law_1096 : decode cL_law 1096 = .ok (.iaload, 1) := by decide +kernel
theorem dL_law_1097 : decode cL_law 1097 = .ok (.invokevirtual 145, 3) := by decide +kernel
theorem dL_law_1100 : decode cL_law 1100 = .ok (.if_icmp .eq 222, 3) := by decide +kernel
theorem dL_law_1103 : decode cL_law 1103 = .ok (.iconst 0, 1) := by decide +kernel
theorem dL_law_1104 : decode cL_law 1104 = .ok (.ireturn, 1) := by decide +kernel
theorem dL_law_1105 : decode cL_law 1105 = .ok (.aload_n 1, 1) := by decide +kernel
theorem dL_law_1106 : decode cL_law 1106 = .ok (.aload_n 0, 1) := by decide +kernel
theorem dL_law_1107 : decode cL_law 1107 = .ok (.iload_n 3, 1) := by decide +kernel
theorem dL_law_1108 : decode cL_law 1108 = .ok (.iconst 1, 1) := by decide +kernel
theorem dL_law_1109 : decode cL_law 1109 = .ok (.iadd, 1) := by decide +kernel
theorem dL_law_1110 : decode cL_law 1110 = .ok (.iaload, 1) := by decide +kernel
theorem dL_law_1111 : decode cL_law 1111 = .ok (.invokevirtual 146, 3) := by decide +kernel
theorem dL_law_1114 : decode cL_law 1114 = .ok (.aload_n 2, 1) := by decide +kernel
theorem dL_law_1115 : decode cL_law 1115 = .ok (.aload_n 0, 1) := by decide +kernel
theorem dL_law_1116 : decode cL_law 1116 = .ok (.iload_n 3, 1) := by decide +kernel
theorem dL_law_1117 : decode cL_law 1117 = .ok (.iconst 1, 1) := by decide +kernel
theorem dL_law_1118 : decode cL_law 1118 = .ok (.iadd, 1) := by decide +kernel
theorem dL_law_1119 : decode cL_law 1119 = .ok (.iaload, 1) := by decide +kernel
theorem dL_law_1120 : decode cL_law 1120 = .ok (.invokevirtual 149, 3) := by decide +kernel
theorem dL_law_1123 : decode cL_law 1123 = .ok (.if_icmp .eq 199, 3) := by decide +kernel
theorem dL_law_1126 : decode cL_law 1126 = .ok (.iconst 0, 1) := by decide +kernel
theorem dL_law_1127 : decode cL_law 1127 = .ok (.ireturn, 1) := by decide +kernel
theorem dL_law_1128 : decode cL_law 1128 = .ok (.aload_n 1, 1) := by decide +kernel
theorem dL_law_1129 : decode cL_law 1129 = .ok (.aload_n 0, 1) := by decide +kernel
theorem dL_law_1130 : decode cL_law 1130 = .ok (.iload_n 3, 1) := by decide +kernel
theorem dL_law_1131 : decode cL_law 1131 = .ok (.iconst 1, 1) := by decide +kernel
theorem dL_law_1132 : decode cL_law 1132 = .ok (.iadd, 1) := by decide +kernel
theorem dL_law_1133 : decode cL_law 1133 = .ok (.iaload, 1) := by decide +kernel
theorem dL_law_1134 : decode cL_law 1134 = .ok (.aload_n 0, 1) := by decide +kernel
theorem dL_law_1135 : decode cL_law 1135 = .ok (.iload_n 3, 1) := by decide +kernel
theorem dL_law_1136 : decode cL_law 1136 = .ok (.iconst 2, 1) := by decide +kernel
theorem dL_law_1137 : decode cL_law 1137 = .ok (.iadd, 1) := by decide +kernel
theorem dL_law_1138 : decode cL_law 1138 = .ok (.iaload, 1) := by decide +kernel
theorem dL_law_1139 : decode cL_law 1139 = .ok (.invokevirtual 150, 3) := by decide +kernel
theorem dL_law_1142 : decode cL_law 1142 = .ok (.aload_n 2, 1) := by decide +kernel
theorem dL_law_1143 : decode cL_law 1143 = .ok (.aload_n 0, 1) := by decide +kernel
theorem dL_law_1144 : decode cL_law 1144 = .ok (.iload_n 3, 1) := by decide +kernel
theorem dL_law_1145 : decode cL_law 1145 = .ok (.iconst 1, 1) := by decide +kernel
theorem dL_law_1146 : decode cL_law 1146 = .ok (.iadd, 1) := by decide +kernel
theorem dL_law_1147 : decode cL_law 1147 = .ok (.iaload, 1) := by decide +kernel
theorem dL_law_1148 : decode cL_law 1148 = .ok (.aload_n 0, 1) := by decide +kernel
theorem dL_law_1149 : decode cL_law 1149 = .ok (.iload_n 3, 1) := by decide +kernel
theorem dL_law_1150 : decode cL_law 1150 = .ok (.iconst 2, 1) := by decide +kernel
theorem dL_law_1151 : decode cL_law 1151 = .ok (.iadd, 1) := by decide +kernel
theorem dL_law_1152 : decode cL_law 1152 = .ok (.iaload, 1) := by decide +kernel
theorem dL_law_1153 : decode cL_law 1153 = .ok (.invokevirtual 153, 3) := by decide +kernel
theorem dL_law_1156 : decode cL_law 1156 = .ok (.if_icmp .eq 166, 3) := by decide +kernel
theorem dL_law_1159 : decode cL_law 1159 = .ok (.iconst 0, 1) := by decide +kernel
theorem dL_law_1160 : decode cL_law 1160 = .ok (.ireturn, 1) := by decide +kernel
theorem dL_law_1161 : decode cL_law 1161 = .ok (.aload_n 1, 1) := by decide +kernel
theorem dL_law_1162 : decode cL_law 1162 = .ok (.invokevirtual 154, 3) := by decide +kernel
theorem dL_law_1165 : decode cL_law 1165 = .ok (.aload_n 2, 1) := by decide +kernel
theorem dL_law_1166 : decode cL_law 1166 = .ok (.invokevirtual 157, 3) := by decide +kernel
theorem dL_law_1169 : decode cL_law 1169 = .ok (.if_icmp .eq 153, 3) := by decide +kernel
theorem dL_law_1172 : decode cL_law 1172 = .ok (.iconst 0, 1) := by decide +kernel
theorem dL_law_1173 : decode cL_law 1173 = .ok (.ireturn, 1) := by decide +kernel
theorem dL_law_1174 : decode cL_law 1174 = .ok (.aload_n 1, 1) := by decide +kernel
theorem dL_law_1175 : decode cL_law 1175 = .ok (.aload_n 0, 1) := by decide +kernel
theorem dL_law_1176 : decode cL_law 1176 = .ok (.iload_n 3, 1) := by decide +kernel
theorem dL_law_1177 : decode cL_law 1177 = .ok (.iconst 1, 1) := by decide +kernel
theorem dL_law_1178 : decode cL_law 1178 = .ok (.iadd, 1) := by decide +kernel
theorem dL_law_1179 : decode cL_law 1179 = .ok (.iaload, 1) := by decide +kernel
theorem dL_law_1180 : decode cL_law 1180 = .ok (.aload_n 0, 1) := by decide +kernel
theorem dL_law_1181 : decode cL_law 1181 = .ok (.iload_n 3, 1) := by decide +kernel
theorem dL_law_1182 : decode cL_law 1182 = .ok (.iconst 2, 1) := by decide +kernel
theorem dL_law_1183 : decode cL_law 1183 = .ok (.iadd, 1) := by decide +kernel
theorem dL_law_1184 : decode cL_law 1184 = .ok (.iaload, 1) := by decide +kernel
theorem dL_law_1185 : decode cL_law 1185 = .ok (.aload_n 0, 1) := by decide +kernel
theorem dL_law_1186 : decode cL_law 1186 = .ok (.iload_n 3, 1) := by decide +kernel
theorem dL_law_1187 : decode cL_law 1187 = .ok (.iconst 3, 1) := by decide +kernel
theorem dL_law_1188 : decode cL_law 1188 = .ok (.iadd, 1) := by decide +kernel
theorem dL_law_1189 : decode cL_law 1189 = .ok (.iaload, 1) := by decide +kernel
theorem dL_law_1190 : decode cL_law 1190 = .ok (.invokevirtual 158, 3) := by decide +kernel
theorem dL_law_1193 : decode cL_law 1193 = .ok (.aload_n 2, 1) := by decide +kernel
theorem dL_law_1194 : decode cL_law 1194 = .ok (.aload_n 0, 1) := by decide +kernel
theorem dL_law_1195 : decode cL_law 1195 = .ok (.iload_n 3, 1) := by decide +kernel
theorem dL_law_1196 : decode cL_law 1196 = .ok (.iconst 1, 1) := by decide +kernel
theorem dL_law_1197 : decode cL_law 1197 = .ok (.iadd, 1) := by decide +kernel
theorem dL_law_1198 : decode cL_law 1198 = .ok (.iaload, 1) := by decide +kernel
theorem dL_law_1199 : decode cL_law 1199 = .ok (.aload_n 0, 1) := by decide +kernel
theorem dL_law_1200 : decode cL_law 1200 = .ok (.iload_n 3, 1) := by decide +kernel
theorem dL_law_1201 : decode cL_law 1201 = .ok (.iconst 2, 1) := by decide +kernel
theorem dL_law_1202 : decode cL_law 1202 = .ok (.iadd, 1) := by decide +kernel
theorem dL_law_1203 : decode cL_law 1203 = .ok (.iaload, 1) := by decide +kernel
theorem dL_law_1204 : decode cL_law 1204 = .ok (.aload_n 0, 1) := by decide +kernel
theorem dL_law_1205 : decode cL_law 1205 = .ok (.iload_n 3, 1) := by decide +kernel
theorem dL_law_1206 : decode cL_law 1206 = .ok (.iconst 3, 1) := by decide +kernel
theorem dL_law_1207 : decode cL_law 1207 = .ok (.iadd, 1) := by decide +kernel
theorem dL_law_1208 : decode cL_law 1208 = .ok (.iaload, 1) := by decide +kernel
theorem dL_law_1209 : decode cL_law 1209 = .ok (.invokevirtual 161, 3) := by decide +kernel
theorem dL_law_1212 : decode cL_law 1212 = .ok (.if_icmp .eq 110, 3) := by decide +kernel
theorem dL_law_1215 : decode cL_law 1215 = .ok (.iconst 0, 1) := by decide +kernel
theorem dL_law_1216 : decode cL_law 1216 = .ok (.ireturn, 1) := by decide +kernel
theorem dL_law_1217 : decode cL_law 1217 = .ok (.aload_n 1, 1) := by decide +kernel
theorem dL_law_1218 : decode cL_law 1218 = .ok (.aload_n 0, 1) := by decide +kernel
theorem dL_law_1219 : decode cL_law 1219 = .ok (.iload_n 3, 1) := by decide +kernel
theorem dL_law_1220 : decode cL_law 1220 = .ok (.iconst 1, 1) := by decide +kernel
theorem dL_law_1221 : decode cL_law 1221 = .ok (.iadd, 1) := by decide +kernel
theorem dL_law_1222 : decode cL_law 1222 = .ok (.iaload, 1) := by decide +kernel
theorem dL_law_1223 : decode cL_law 1223 = .ok (.invokevirtual 162, 3) := by decide +kernel
theorem dL_law_1226 : decode cL_law 1226 = .ok (.aload_n 2, 1) := by decide +kernel
theorem dL_law_1227 : decode cL_law 1227 = .ok (.aload_n 0, 1) := by decide +kernel
theorem dL_law_1228 : decode cL_law 1228 = .ok (.iload_n 3, 1) := by decide +kernel
theorem dL_law_1229 : decode cL_law 1229 = .ok (.iconst 1, 1) := by decide +kernel
theorem dL_law_1230 : decode cL_law 1230 = .ok (.iadd, 1) := by decide +kernel
theorem dL_law_1231 : decode cL_law 1231 = .ok (.iaload, 1) := by decide +kernel
theorem dL_law_1232 : decode cL_law 1232 = .ok (.invokevirtual 165, 3) := by decide +kernel
theorem dL_law_1235 : decode cL_law 1235 = .ok (.if_icmp .eq 87, 3) := by decide +kernel
theorem dL_law_1238 : decode cL_law 1238 = .ok (.iconst 0, 1) := by decide +kernel
theorem dL_law_1239 : decode cL_law 1239 = .ok (.ireturn, 1) := by decide +kernel
theorem dL_law_1240 : decode cL_law 1240 = .ok (.aload_n 1, 1) := by decide +kernel
theorem dL_law_1241 : decode cL_law 1241 = .ok (.aload_n 0, 1) := by decide +kernel
theorem dL_law_1242 : decode cL_law 1242 = .ok (.iload_n 3, 1) := by decide +kernel
theorem dL_law_1243 : decode cL_law 1243 = .ok (.iconst 1, 1) := by decide +kernel
theorem dL_law_1244 : decode cL_law 1244 = .ok (.iadd, 1) := by decide +kernel
theorem dL_law_1245 : decode cL_law 1245 = .ok (.iaload, 1) := by decide +kernel
theorem dL_law_1246 : decode cL_law 1246 = .ok (.aload_n 0, 1) := by decide +kernel
theorem dL_law_1247 : decode cL_law 1247 = .ok (.iload_n 3, 1) := by decide +kernel
theorem dL_law_1248 : decode cL_law 1248 = .ok (.iconst 2, 1) := by decide +kernel
theorem dL_law_1249 : decode cL_law 1249 = .ok (.iadd, 1) := by decide +kernel
theorem dL_law_1250 : decode cL_law 1250 = .ok (.iaload, 1) := by decide +kernel
theorem dL_law_1251 : decode cL_law 1251 = .ok (.invokevirtual 166, 3) := by decide +kernel
theorem dL_law_1254 : decode cL_law 1254 = .ok (.aload_n 2, 1) := by decide +kernel
theorem dL_law_1255 : decode cL_law 1255 = .ok (.aload_n 0, 1) := by decide +kernel
theorem dL_law_1256 : decode cL_law 1256 = .ok (.iload_n 3, 1) := by decide +kernel
theorem dL_law_1257 : decode cL_law 1257 = .ok (.iconst 1, 1) := by decide +kernel
theorem dL_law_1258 : decode cL_law 1258 = .ok (.iadd, 1) := by decide +kernel
theorem dL_law_1259 : decode cL_law 1259 = .ok (.iaload, 1) := by decide +kernel
theorem dL_law_1260 : decode cL_law 1260 = .ok (.aload_n 0, 1) := by decide +kernel
theorem dL_law_1261 : decode cL_law 1261 = .ok (.iload_n 3, 1) := by decide +kernel
theorem dL_law_1262 : decode cL_law 1262 = .ok (.iconst 2, 1) := by decide +kernel
theorem dL_law_1263 : decode cL_law 1263 = .ok (.iadd, 1) := by decide +kernel
theorem dL_law_1264 : decode cL_law 1264 = .ok (.iaload, 1) := by decide +kernel
theorem dL_law_1265 : decode cL_law 1265 = .ok (.invokevirtual 169, 3) := by decide +kernel
theorem dL_law_1268 : decode cL_law 1268 = .ok (.if_icmp .eq 54, 3) := by decide +kernel
theorem dL_law_1271 : decode cL_law 1271 = .ok (.iconst 0, 1) := by decide +kernel
theorem dL_law_1272 : decode cL_law 1272 = .ok (.ireturn, 1) := by decide +kernel
theorem dL_law_1273 : decode cL_law 1273 = .ok (.aload_n 1, 1) := by decide +kernel
theorem dL_law_1274 : decode cL_law 1274 = .ok (.invokevirtual 170, 3) := by decide +kernel
theorem dL_law_1277 : decode cL_law 1277 = .ok (.aload_n 2, 1) := by decide +kernel
theorem dL_law_1278 : decode cL_law 1278 = .ok (.invokevirtual 173, 3) := by decide +kernel
theorem dL_law_1281 : decode cL_law 1281 = .ok (.if_icmp .eq 41, 3) := by decide +kernel
theorem dL_law_1284 : decode cL_law 1284 = .ok (.iconst 0, 1) := by decide +kernel
theorem dL_law_1285 : decode cL_law 1285 = .ok (.ireturn, 1) := by decide +kernel
theorem dL_law_1286 : decode cL_law 1286 = .ok (.aload_n 1, 1) := by decide +kernel
theorem dL_law_1287 : decode cL_law 1287 = .ok (.invokevirtual 174, 3) := by decide +kernel
theorem dL_law_1290 : decode cL_law 1290 = .ok (.aload_n 2, 1) := by decide +kernel
theorem dL_law_1291 : decode cL_law 1291 = .ok (.invokevirtual 177, 3) := by decide +kernel
theorem dL_law_1294 : decode cL_law 1294 = .ok (.if_icmp .eq 28, 3) := by decide +kernel
theorem dL_law_1297 : decode cL_law 1297 = .ok (.iconst 0, 1) := by decide +kernel
theorem dL_law_1298 : decode cL_law 1298 = .ok (.ireturn, 1) := by decide +kernel
theorem dL_law_1299 : decode cL_law 1299 = .ok (.aload_n 1, 1) := by decide +kernel
theorem dL_law_1300 : decode cL_law 1300 = .ok (.aload_n 0, 1) := by decide +kernel
theorem dL_law_1301 : decode cL_law 1301 = .ok (.iload_n 3, 1) := by decide +kernel
theorem dL_law_1302 : decode cL_law 1302 = .ok (.iconst 1, 1) := by decide +kernel
theorem dL_law_1303 : decode cL_law 1303 = .ok (.iadd, 1) := by decide +kernel
theorem dL_law_1304 : decode cL_law 1304 = .ok (.iaload, 1) := by decide +kernel
theorem dL_law_1305 : decode cL_law 1305 = .ok (.invokevirtual 178, 3) := by decide +kernel
theorem dL_law_1308 : decode cL_law 1308 = .ok (.aload_n 2, 1) := by decide +kernel
theorem dL_law_1309 : decode cL_law 1309 = .ok (.aload_n 0, 1) := by decide +kernel
theorem dL_law_1310 : decode cL_law 1310 = .ok (.iload_n 3, 1) := by decide +kernel
theorem dL_law_1311 : decode cL_law 1311 = .ok (.iconst 1, 1) := by decide +kernel
theorem dL_law_1312 : decode cL_law 1312 = .ok (.iadd, 1) := by decide +kernel
theorem dL_law_1313 : decode cL_law 1313 = .ok (.iaload, 1) := by decide +kernel
theorem dL_law_1314 : decode cL_law 1314 = .ok (.invokevirtual 181, 3) := by decide +kernel
theorem dL_law_1317 : decode cL_law 1317 = .ok (.if_icmp .eq 5, 3) := by decide +kernel
theorem dL_law_1320 : decode cL_law 1320 = .ok (.iconst 0, 1) := by decide +kernel
theorem dL_law_1321 : decode cL_law 1321 = .ok (.ireturn, 1) := by decide +kernel
theorem dL_law_1322 : decode cL_law 1322 = .ok (.iinc 3 6, 3) := by decide +kernel
theorem dL_law_1325 : decode cL_law 1325 = .ok (.goto (-1307), 3) := by decide +kernel
theorem dL_law_1328 : decode cL_law 1328 = .ok (.iconst 1, 1) := by decide +kernel
theorem dL_law_1329 : decode cL_law 1329 = .ok (.ireturn, 1) := by decide +kernel
