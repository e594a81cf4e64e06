theorem dX0_init_0 : decode cX0_init 0 = .ok (.aload_n 0, 1) := by decide +kernel
theorem dX0_init_1 : decode cX0_init 1 = .ok (.invokespecial 3, 3) := by decide +kernel
theorem dX0_init_4 : decode cX0_init 4 = .ok (.aload_n 0, 1) := by decide +kernel
theorem dX0_init_5 : decode cX0_init 5 = .ok (.bipush 20, 2) := by decide +kernel
theorem dX0_init_7 : decode cX0_init 7 = .ok (.newarray .int, 2) := by decide +kernel
theorem dX0_init_9 : decode cX0_init 9 = .ok (.putfield 9, 3) := by decide +kernel
theorem dX0_init_12 : decode cX0_init 12 = .ok (.aload_n 0, 1) := by decide +kernel
theorem dX0_init_13 : decode cX0_init 13 = .ok (.iconst 0, 1) := by decide +kernel
theorem dX0_init_14 : decode cX0_init 14 = .ok (.putfield 15, 3) := by decide +kernel
theorem dX0_init_17 : decode cX0_init 17 = .ok (.aload_n 0, 1) := by decide +kernel
theorem dX0_init_18 : decode cX0_init 18 = .ok (.iconst 0, 1) := by decide +kernel
theorem dX0_init_19 : decode cX0_init 19 = .ok (.putfield 19, 3) := by decide +kernel
theorem dX0_init_22 : decode cX0_init 22 = .ok (.aload_n 0, 1) := by decide +kernel
theorem dX0_init_23 : decode cX0_init 23 = .ok (.iconst 0, 1) := by decide +kernel
theorem dX0_init_24 : decode cX0_init 24 = .ok (.putfield 22, 3) := by decide +kernel
theorem dX0_init_27 : decode cX0_init 27 = .ok (.aload_n 0, 1) := by decide +kernel
theorem dX0_init_28 : decode cX0_init 28 = .ok (.iconst 1, 1) := by decide +kernel
theorem dX0_init_29 : decode cX0_init 29 = .ok (.putfield 25, 3) := by decide +kernel
theorem dX0_init_32 : decode cX0_init 32 = .ok (.return_, 1) := by decide +kernel
theorem dX0_forget_0 : decode cX0_forget 0 = .ok (.aload_n 0, 1) := by decide +kernel
theorem dX0_forget_1 : decode cX0_forget 1 = .ok (.iconst 0, 1) := by decide +kernel
theorem dX0_forget_2 : decode cX0_forget 2 = .ok (.putfield 15, 3) := by decide +kernel
theorem dX0_forget_5 : decode cX0_forget 5 = .ok (.return_, 1) := by decide +kernel
theorem dX0_perform_0 : decode cX0_perform 0 = .ok (.aload_n 0, 1) := by decide +kernel
theorem dX0_perform_1 : decode cX0_perform 1 = .ok (.aload_n 1, 1) := by decide +kernel
theorem dX0_perform_2 : decode cX0_perform 2 = .ok (.getfield 28, 3) := by decide +kernel
theorem dX0_perform_5 : decode cX0_perform 5 = .ok (.iload_n 2, 1) := by decide +kernel
theorem dX0_perform_6 : decode cX0_perform 6 = .ok (.iaload, 1) := by decide +kernel
theorem dX0_perform_7 : decode cX0_perform 7 = .ok (.putfield 19, 3) := by decide +kernel
theorem dX0_perform_10 : decode cX0_perform 10 = .ok (.aload_n 0, 1) := by decide +kernel
theorem dX0_perform_11 : decode cX0_perform 11 = .ok (.iload_n 2, 1) := by decide +kernel
theorem dX0_perform_12 : decode cX0_perform 12 = .ok (.putfield 22, 3) := by decide +kernel
theorem dX0_perform_15 : decode cX0_perform 15 = .ok (.aload_n 0, 1) := by decide +kernel
theorem dX0_perform_16 : decode cX0_perform 16 = .ok (.aload_n 1, 1) := by decide +kernel
theorem dX0_perform_17 : decode cX0_perform 17 = .ok (.getfield 32, 3) := by decide +kernel
theorem dX0_perform_20 : decode cX0_perform 20 = .ok (.iload_n 2, 1) := by decide +kernel
theorem dX0_perform_21 : decode cX0_perform 21 = .ok (.iaload, 1) := by decide +kernel
theorem dX0_perform_22 : decode cX0_perform 22 = .ok (.putfield 25, 3) := by decide +kernel
theorem dX0_perform_25 : decode cX0_perform 25 = .ok (.aload_n 0, 1) := by decide +kernel
theorem dX0_perform_26 : decode cX0_perform 26 = .ok (.aload_n 0, 1) := by decide +kernel
theorem dX0_perform_27 : decode cX0_perform 27 = .ok (.getfield 19, 3) := by decide +kernel
theorem dX0_perform_30 : decode cX0_perform 30 = .ok (.iload_n 3, 1) := by decide +kernel
theorem dX0_perform_31 : decode cX0_perform 31 = .ok (.iload 4, 2) := by decide +kernel
theorem dX0_perform_33 : decode cX0_perform 33 = .ok (.iconst 0, 1) := by decide +kernel
theorem dX0_perform_34 : decode cX0_perform 34 = .ok (.invokevirtual 34, 3) := by decide +kernel
theorem dX0_perform_37 : decode cX0_perform 37 = .ok (.ireturn, 1) := by decide +kernel
theorem dX0_call_0 : decode cX0_call 0 = .ok (.iload_n 1, 1) := by decide +kernel
theorem dX0_call_1 : decode cX0_call 1 = .ok (.istore 5, 2) := by decide +kernel
theorem dX0_call_3 : decode cX0_call 3 = .ok (.iconst 0, 1) := by decide +kernel
theorem dX0_call_4 : decode cX0_call 4 = .ok (.istore 6, 2) := by decide +kernel
theorem dX0_call_6 : decode cX0_call 6 = .ok (.iload 6, 2) := by decide +kernel
theorem dX0_call_8 : decode cX0_call 8 = .ok (.bipush 7, 2) := by decide +kernel
theorem dX0_call_10 : decode cX0_call 10 = .ok (.if_icmp .ge 31, 3) := by decide +kernel
theorem dX0_call_13 : decode cX0_call 13 = .ok (.iload 5, 2) := by decide +kernel
theorem dX0_call_15 : decode cX0_call 15 = .ok (.iconst (-1), 1) := by decide +kernel
theorem dX0_call_16 : decode cX0_call 16 = .ok (.if_icmp .eq 25, 3) := by decide +kernel
theorem dX0_call_19 : decode cX0_call 19 = .ok (.iload 5, 2) := by decide +kernel
theorem dX0_call_21 : decode cX0_call 21 = .ok (.iload_n 2, 1) := by decide +kernel
theorem dX0_call_22 : decode cX0_call 22 = .ok (.invokestatic 38, 3) := by decide +kernel
theorem dX0_call_25 : decode cX0_call 25 = .ok (.ifCond .ne 16, 3) := by decide +kernel
theorem dX0_call_28 : decode cX0_call 28 = .ok (.iload 5, 2) := by decide +kernel
theorem dX0_call_30 : decode cX0_call 30 = .ok (.invokestatic 42, 3) := by decide +kernel
theorem dX0_call_33 : decode cX0_call 33 = .ok (.istore 5, 2) := by decide +kernel
theorem dX0_call_35 : decode cX0_call 35 = .ok (.iinc 6 1, 3) := by decide +kernel
theorem dX0_call_38 : decode cX0_call 38 = .ok (.goto (-32), 3) := by decide +kernel
theorem dX0_call_41 : decode cX0_call 41 = .ok (.iload 5, 2) := by decide +kernel
theorem dX0_call_43 : decode cX0_call 43 = .ok (.iconst (-1), 1) := by decide +kernel
theorem dX0_call_44 : decode cX0_call 44 = .ok (.if_icmp .eq 10, 3) := by decide +kernel
theorem dX0_call_47 : decode cX0_call 47 = .ok (.iload 4, 2) := by decide +kernel
theorem dX0_call_49 : decode cX0_call 49 = .ok (.bipush 20, 2) := by decide +kernel
theorem dX0_call_51 : decode cX0_call 51 = .ok (.if_icmp .lt 5, 3) := by decide +kernel
theorem dX0_call_54 : decode cX0_call 54 = .ok (.iconst 0, 1) := by decide +kernel
theorem dX0_call_55 : decode cX0_call 55 = .ok (.ireturn, 1) := by decide +kernel
theorem dX0_call_56 : decode cX0_call 56 = .ok (.aload_n 0, 1) := by decide +kernel
theorem dX0_call_57 : decode cX0_call 57 = .ok (.iload 5, 2) := by decide +kernel
theorem dX0_call_59 : decode cX0_call 59 = .ok (.iload_n 2, 1) := by decide +kernel
theorem dX0_call_60 : decode cX0_call 60 = .ok (.invokestatic 38, 3) := by decide +kernel
theorem dX0_call_63 : decode cX0_call 63 = .ok (.invokevirtual 46, 3) := by decide +kernel
theorem dX0_call_66 : decode cX0_call 66 = .ok (.aload_n 0, 1) := by decide +kernel
theorem dX0_call_67 : decode cX0_call 67 = .ok (.iload 5, 2) := by decide +kernel
theorem dX0_call_69 : decode cX0_call 69 = .ok (.iload_n 2, 1) := by decide +kernel
theorem dX0_call_70 : decode cX0_call 70 = .ok (.invokestatic 38, 3) := by decide +kernel
theorem dX0_call_73 : decode cX0_call 73 = .ok (.iload 5, 2) := by decide +kernel
theorem dX0_call_75 : decode cX0_call 75 = .ok (.invokestatic 42, 3) := by decide +kernel
theorem dX0_call_78 : decode cX0_call 78 = .ok (.iload_n 3, 1) := by decide +kernel
theorem dX0_call_79 : decode cX0_call 79 = .ok (.iload 4, 2) := by decide +kernel
theorem dX0_call_81 : decode cX0_call 81 = .ok (.iconst 1, 1) := by decide +kernel
theorem dX0_call_82 : decode cX0_call 82 = .ok (.iadd, 1) := by decide +kernel
theorem dX0_call_83 : decode cX0_call 83 = .ok (.invokevirtual 50, 3) := by decide +kernel
theorem dX0_call_86 : decode cX0_call 86 = .ok (.ireturn, 1) := by decide +kernel
theorem dX0_answerOf_0 : decode cX0_answerOf 0 = .ok (.iload_n 1, 1) := by decide +kernel
theorem dX0_answerOf_1 : decode cX0_answerOf 1 = .ok (.lookupswitch 256 #[(10, 99), (11, 106), (12, 121), (20, 152), (30, 167), (40, 179), (50, 191), (51, 206), (60, 217), (70, 229), (71, 241)], 99) := by decide +kernel
theorem dX0_answerOf_100 : decode cX0_answerOf 100 = .ok (.iload_n 3, 1) := by decide +kernel
theorem dX0_answerOf_101 : decode cX0_answerOf 101 = .ok (.aload_n 0, 1) := by decide +kernel
theorem dX0_answerOf_102 : decode cX0_answerOf 102 = .ok (.getfield 22, 3) := by decide +kernel
theorem dX0_answerOf_105 : decode cX0_answerOf 105 = .ok (.iadd, 1) := by decide +kernel
theorem dX0_answerOf_106 : decode cX0_answerOf 106 = .ok (.ireturn, 1) := by decide +kernel
theorem dX0_answerOf_107 : decode cX0_answerOf 107 = .ok (.aload_n 0, 1) := by decide +kernel
theorem dX0_answerOf_108 : decode cX0_answerOf 108 = .ok (.aload_n 0, 1) := by decide +kernel
theorem dX0_answerOf_109 : decode cX0_answerOf 109 = .ok (.getfield 19, 3) := by decide +kernel
theorem dX0_answerOf_112 : decode cX0_answerOf 112 = .ok (.iconst 0, 1) := by decide +kernel
theorem dX0_answerOf_113 : decode cX0_answerOf 113 = .ok (.iload_n 3, 1) := by decide +kernel
theorem dX0_answerOf_114 : decode cX0_answerOf 114 = .ok (.iload 4, 2) := by decide +kernel
theorem dX0_answerOf_116 : decode cX0_answerOf 116 = .ok (.invokevirtual 34, 3) := by decide +kernel
theorem dX0_answerOf_119 : decode cX0_answerOf 119 = .ok (.iconst 2, 1) := by decide +kernel
theorem dX0_answerOf_120 : decode cX0_answerOf 120 = .ok (.imul, 1) := by decide +kernel
theorem dX0_answerOf_121 : decode cX0_answerOf 121 = .ok (.ireturn, 1) := by decide +kernel
theorem dX0_answerOf_122 : decode cX0_answerOf 122 = .ok (.aload_n 0, 1) := by decide +kernel
theorem dX0_answerOf_123 : decode cX0_answerOf 123 = .ok (.aload_n 0, 1) := by decide +kernel
theorem dX0_answerOf_124 : decode cX0_answerOf 124 = .ok (.getfield 19, 3) := by decide +kernel
theorem dX0_answerOf_127 : decode cX0_answerOf 127 = .ok (.iconst 1, 1) := by decide +kernel
theorem dX0_answerOf_128 : decode cX0_answerOf 128 = .ok (.iload_n 3, 1) := by decide +kernel
theorem dX0_answerOf_129 : decode cX0_answerOf 129 = .ok (.iload 4, 2) := by decide +kernel
theorem dX0_answerOf_131 : decode cX0_answerOf 131 = .ok (.invokevirtual 34, 3) := by decide +kernel
theorem dX0_answerOf_134 : decode cX0_answerOf 134 = .ok (.aload_n 0, 1) := by decide +kernel
theorem dX0_answerOf_135 : decode cX0_answerOf 135 = .ok (.aload_n 0, 1) := by decide +kernel
theorem dX0_answerOf_136 : decode cX0_answerOf 136 = .ok (.getfield 19, 3) := by decide +kernel
theorem dX0_answerOf_139 : decode cX0_answerOf 139 = .ok (.iconst 0, 1) := by decide +kernel
theorem dX0_answerOf_140 : decode cX0_answerOf 140 = .ok (.iload_n 3, 1) := by decide +kernel
theorem dX0_answerOf_141 : decode cX0_answerOf 141 = .ok (.aload_n 0, 1) := by decide +kernel
theorem dX0_answerOf_142 : decode cX0_answerOf 142 = .ok (.getfield 25, 3) := by decide +kernel
theorem dX0_answerOf_145 : decode cX0_answerOf 145 = .ok (.isub, 1) := by decide +kernel
theorem dX0_answerOf_146 : decode cX0_answerOf 146 = .ok (.iload 4, 2) := by decide +kernel
theorem dX0_answerOf_148 : decode cX0_answerOf 148 = .ok (.invokevirtual 34, 3) := by decide +kernel
theorem dX0_answerOf_151 : decode cX0_answerOf 151 = .ok (.ixor, 1) := by decide +kernel
theorem dX0_answerOf_152 : decode cX0_answerOf 152 = .ok (.ireturn, 1) := by decide +kernel
theorem dX0_answerOf_153 : decode cX0_answerOf 153 = .ok (.aload_n 0, 1) := by decide +kernel
theorem dX0_answerOf_154 : decode cX0_answerOf 154 = .ok (.iload_n 2, 1) := by decide +kernel
theorem dX0_answerOf_155 : decode cX0_answerOf 155 = .ok (.iconst 1, 1) := by decide +kernel
theorem dX0_answerOf_156 : decode cX0_answerOf 156 = .ok (.iload_n 3, 1) := by decide +kernel
theorem dX0_answerOf_157 : decode cX0_answerOf 157 = .ok (.iload 4, 2) := by decide +kernel
theorem dX0_answerOf_159 : decode cX0_answerOf 159 = .ok (.invokevirtual 34, 3) := by decide +kernel
theorem dX0_answerOf_162 : decode cX0_answerOf 162 = .ok (.aload_n 0, 1) := by decide +kernel
theorem dX0_answerOf_163 : decode cX0_answerOf 163 = .ok (.getfield 25, 3) := by decide +kernel
theorem dX0_answerOf_166 : decode cX0_answerOf 166 = .ok (.iadd, 1) := by decide +kernel
theorem dX0_answerOf_167 : decode cX0_answerOf 167 = .ok (.ireturn, 1) := by decide +kernel
theorem dX0_answerOf_168 : decode cX0_answerOf 168 = .ok (.aload_n 0, 1) := by decide +kernel
theorem dX0_answerOf_169 : decode cX0_answerOf 169 = .ok (.iload_n 2, 1) := by decide +kernel
theorem dX0_answerOf_170 : decode cX0_answerOf 170 = .ok (.iconst 0, 1) := by decide +kernel
theorem dX0_answerOf_171 : decode cX0_answerOf 171 = .ok (.iload_n 3, 1) := by decide +kernel
theorem dX0_answerOf_172 : decode cX0_answerOf 172 = .ok (.iload 4, 2) := by decide +kernel
theorem dX0_answerOf_174 : decode cX0_answerOf 174 = .ok (.invokevirtual 34, 3) := by decide +kernel
theorem dX0_answerOf_177 : decode cX0_answerOf 177 = .ok (.iconst 3, 1) := by decide +kernel
theorem dX0_answerOf_178 : decode cX0_answerOf 178 = .ok (.imul, 1) := by decide +kernel
theorem dX0_answerOf_179 : decode cX0_answerOf 179 = .ok (.ireturn, 1) := by decide +kernel
theorem dX0_answerOf_180 : decode cX0_answerOf 180 = .ok (.aload_n 0, 1) := by decide +kernel
theorem dX0_answerOf_181 : decode cX0_answerOf 181 = .ok (.iload_n 2, 1) := by decide +kernel
theorem dX0_answerOf_182 : decode cX0_answerOf 182 = .ok (.iconst 0, 1) := by decide +kernel
theorem dX0_answerOf_183 : decode cX0_answerOf 183 = .ok (.iload_n 3, 1) := by decide +kernel
theorem dX0_answerOf_184 : decode cX0_answerOf 184 = .ok (.iconst 1, 1) := by decide +kernel
theorem dX0_answerOf_185 : decode cX0_answerOf 185 = .ok (.iadd, 1) := by decide +kernel
theorem dX0_answerOf_186 : decode cX0_answerOf 186 = .ok (.iload 4, 2) := by decide +kernel
theorem dX0_answerOf_188 : decode cX0_answerOf 188 = .ok (.invokevirtual 34, 3) := by decide +kernel
theorem dX0_answerOf_191 : decode cX0_answerOf 191 = .ok (.ireturn, 1) := by decide +kernel
theorem dX0_answerOf_192 : decode cX0_answerOf 192 = .ok (.aload_n 0, 1) := by decide +kernel
theorem dX0_answerOf_193 : decode cX0_answerOf 193 = .ok (.iload_n 2, 1) := by decide +kernel
theorem dX0_answerOf_194 : decode cX0_answerOf 194 = .ok (.iconst 2, 1) := by decide +kernel
theorem dX0_answerOf_195 : decode cX0_answerOf 195 = .ok (.iload_n 3, 1) := by decide +kernel
theorem dX0_answerOf_196 : decode cX0_answerOf 196 = .ok (.iload 4, 2) := by decide +kernel
theorem dX0_answerOf_198 : decode cX0_answerOf 198 = .ok (.invokevirtual 34, 3) := by decide +kernel
theorem dX0_answerOf_201 : decode cX0_answerOf 201 = .ok (.aload_n 0, 1) := by decide +kernel
theorem dX0_answerOf_202 : decode cX0_answerOf 202 = .ok (.getfield 22, 3) := by decide +kernel
theorem dX0_answerOf_205 : decode cX0_answerOf 205 = .ok (.isub, 1) := by decide +kernel
theorem dX0_answerOf_206 : decode cX0_answerOf 206 = .ok (.ireturn, 1) := by decide +kernel
theorem dX0_answerOf_207 : decode cX0_answerOf 207 = .ok (.aload_n 0, 1) := by decide +kernel
theorem dX0_answerOf_208 : decode cX0_answerOf 208 = .ok (.iload_n 2, 1) := by decide +kernel
theorem dX0_answerOf_209 : decode cX0_answerOf 209 = .ok (.iconst 1, 1) := by decide +kernel
theorem dX0_answerOf_210 : decode cX0_answerOf 210 = .ok (.iload_n 3, 1) := by decide +kernel
theorem dX0_answerOf_211 : decode cX0_answerOf 211 = .ok (.iload 4, 2) := by decide +kernel
theorem dX0_answerOf_213 : decode cX0_answerOf 213 = .ok (.invokevirtual 34, 3) := by decide +kernel
theorem dX0_answerOf_216 : decode cX0_answerOf 216 = .ok (.ineg, 1) := by decide +kernel
theorem dX0_answerOf_217 : decode cX0_answerOf 217 = .ok (.ireturn, 1) := by decide +kernel
theorem dX0_answerOf_218 : decode cX0_answerOf 218 = .ok (.aload_n 0, 1) := by decide +kernel
theorem dX0_answerOf_219 : decode cX0_answerOf 219 = .ok (.iload_n 2, 1) := by decide +kernel
theorem dX0_answerOf_220 : decode cX0_answerOf 220 = .ok (.iconst 2, 1) := by decide +kernel
theorem dX0_answerOf_221 : decode cX0_answerOf 221 = .ok (.iload_n 3, 1) := by decide +kernel
theorem dX0_answerOf_222 : decode cX0_answerOf 222 = .ok (.iload 4, 2) := by decide +kernel
theorem dX0_answerOf_224 : decode cX0_answerOf 224 = .ok (.invokevirtual 34, 3) := by decide +kernel
theorem dX0_answerOf_227 : decode cX0_answerOf 227 = .ok (.iconst 5, 1) := by decide +kernel
theorem dX0_answerOf_228 : decode cX0_answerOf 228 = .ok (.ixor, 1) := by decide +kernel
theorem dX0_answerOf_229 : decode cX0_answerOf 229 = .ok (.ireturn, 1) := by decide +kernel
theorem dX0_answerOf_230 : decode cX0_answerOf 230 = .ok (.aload_n 0, 1) := by decide +kernel
theorem dX0_answerOf_231 : decode cX0_answerOf 231 = .ok (.iload_n 2, 1) := by decide +kernel
theorem dX0_answerOf_232 : decode cX0_answerOf 232 = .ok (.iconst 1, 1) := by decide +kernel
theorem dX0_answerOf_233 : decode cX0_answerOf 233 = .ok (.iload_n 3, 1) := by decide +kernel
theorem dX0_answerOf_234 : decode cX0_answerOf 234 = .ok (.iload 4, 2) := by decide +kernel
theorem dX0_answerOf_236 : decode cX0_answerOf 236 = .ok (.invokevirtual 34, 3) := by decide +kernel
theorem dX0_answerOf_239 : decode cX0_answerOf 239 = .ok (.iconst 2, 1) := by decide +kernel
theorem dX0_answerOf_240 : decode cX0_answerOf 240 = .ok (.imul, 1) := by decide +kernel
theorem dX0_answerOf_241 : decode cX0_answerOf 241 = .ok (.ireturn, 1) := by decide +kernel
theorem dX0_answerOf_242 : decode cX0_answerOf 242 = .ok (.aload_n 0, 1) := by decide +kernel
theorem dX0_answerOf_243 : decode cX0_answerOf 243 = .ok (.iload_n 2, 1) := by decide +kernel
theorem dX0_answerOf_244 : decode cX0_answerOf 244 = .ok (.iconst 0, 1) := by decide +kernel
theorem dX0_answerOf_245 : decode cX0_answerOf 245 = .ok (.iload_n 3, 1) := by decide +kernel
theorem dX0_answerOf_246 : decode cX0_answerOf 246 = .ok (.aload_n 0, 1) := by decide +kernel
theorem dX0_answerOf_247 : decode cX0_answerOf 247 = .ok (.getfield 25, 3) := by decide +kernel
theorem dX0_answerOf_250 : decode cX0_answerOf 250 = .ok (.isub, 1) := by decide +kernel
theorem dX0_answerOf_251 : decode cX0_answerOf 251 = .ok (.iload 4, 2) := by decide +kernel
theorem dX0_answerOf_253 : decode cX0_answerOf 253 = .ok (.invokevirtual 34, 3) := by decide +kernel
theorem dX0_answerOf_256 : decode cX0_answerOf 256 = .ok (.ireturn, 1) := by decide +kernel
theorem dX0_answerOf_257 : decode cX0_answerOf 257 = .ok (.iconst 0, 1) := by decide +kernel
theorem dX0_answerOf_258 : decode cX0_answerOf 258 = .ok (.ireturn, 1) := by decide +kernel
theorem dX0_bodyOf_0 : decode cX0_bodyOf 0 = .ok (.iload_n 0, 1) := by decide +kernel
theorem dX0_bodyOf_1 : decode cX0_bodyOf 1 = .ok (.iconst 3, 1) := by decide +kernel
theorem dX0_bodyOf_2 : decode cX0_bodyOf 2 = .ok (.imul, 1) := by decide +kernel
theorem dX0_bodyOf_3 : decode cX0_bodyOf 3 = .ok (.iload_n 1, 1) := by decide +kernel
theorem dX0_bodyOf_4 : decode cX0_bodyOf 4 = .ok (.iadd, 1) := by decide +kernel
theorem dX0_bodyOf_5 : decode cX0_bodyOf 5 = .ok (.istore_n 2, 1) := by decide +kernel
theorem dX0_bodyOf_6 : decode cX0_bodyOf 6 = .ok (.iload_n 2, 1) := by decide +kernel
theorem dX0_bodyOf_7 : decode cX0_bodyOf 7 = .ok (.ifCond .lt 19, 3) := by decide +kernel
theorem dX0_bodyOf_10 : decode cX0_bodyOf 10 = .ok (.iload_n 2, 1) := by decide +kernel
theorem dX0_bodyOf_11 : decode cX0_bodyOf 11 = .ok (.getstatic 53, 3) := by decide +kernel
theorem dX0_bodyOf_14 : decode cX0_bodyOf 14 = .ok (.arraylength, 1) := by decide +kernel
theorem dX0_bodyOf_15 : decode cX0_bodyOf 15 = .ok (.if_icmp .ge 11, 3) := by decide +kernel
theorem dX0_bodyOf_18 : decode cX0_bodyOf 18 = .ok (.getstatic 53, 3) := by decide +kernel
theorem dX0_bodyOf_21 : decode cX0_bodyOf 21 = .ok (.iload_n 2, 1) := by decide +kernel
theorem dX0_bodyOf_22 : decode cX0_bodyOf 22 = .ok (.iaload, 1) := by decide +kernel
theorem dX0_bodyOf_23 : decode cX0_bodyOf 23 = .ok (.goto 4, 3) := by decide +kernel
theorem dX0_bodyOf_26 : decode cX0_bodyOf 26 = .ok (.iconst 0, 1) := by decide +kernel
theorem dX0_bodyOf_27 : decode cX0_bodyOf 27 = .ok (.ireturn, 1) := by decide +kernel
theorem dX0_note_0 : decode cX0_note 0 = .ok (.aload_n 0, 1) := by decide +kernel
theorem dX0_note_1 : decode cX0_note 1 = .ok (.getfield 15, 3) := by decide +kernel
theorem dX0_note_4 : decode cX0_note 4 = .ok (.bipush 20, 2) := by decide +kernel
theorem dX0_note_6 : decode cX0_note 6 = .ok (.if_icmp .ge 13, 3) := by decide +kernel
theorem dX0_note_9 : decode cX0_note 9 = .ok (.aload_n 0, 1) := by decide +kernel
theorem dX0_note_10 : decode cX0_note 10 = .ok (.getfield 9, 3) := by decide +kernel
theorem dX0_note_13 : decode cX0_note 13 = .ok (.aload_n 0, 1) := by decide +kernel
theorem dX0_note_14 : decode cX0_note 14 = .ok (.getfield 15, 3) := by decide +kernel
theorem dX0_note_17 : decode cX0_note 17 = .ok (.iload_n 1, 1) := by decide +kernel
theorem dX0_note_18 : decode cX0_note 18 = .ok (.iastore, 1) := by decide +kernel
theorem dX0_note_19 : decode cX0_note 19 = .ok (.aload_n 0, 1) := by decide +kernel
theorem dX0_note_20 : decode cX0_note 20 = .ok (.dup, 1) := by decide +kernel
theorem dX0_note_21 : decode cX0_note 21 = .ok (.getfield 15, 3) := by decide +kernel
theorem dX0_note_24 : decode cX0_note 24 = .ok (.iconst 1, 1) := by decide +kernel
theorem dX0_note_25 : decode cX0_note 25 = .ok (.iadd, 1) := by decide +kernel
theorem dX0_note_26 : decode cX0_note 26 = .ok (.putfield 15, 3) := by decide +kernel
theorem dX0_note_29 : decode cX0_note 29 = .ok (.return_, 1) := by decide +kernel
theorem dX1_init_0 : decode cX1_init 0 = .ok (.aload_n 0, 1) := by decide +kernel
theorem dX1_init_1 : decode cX1_init 1 = .ok (.invokespecial 3, 3) := by decide +kernel
theorem dX1_init_4 : decode cX1_init 4 = .ok (.aload_n 0, 1) := by decide +kernel
theorem dX1_init_5 : decode cX1_init 5 = .ok (.bipush 10, 2) := by decide +kernel
theorem dX1_init_7 : decode cX1_init 7 = .ok (.bipush 30, 2) := by decide +kernel
theorem dX1_init_9 : decode cX1_init 9 = .ok (.multianewarray 9 2, 4) := by decide +kernel
theorem dX1_init_13 : decode cX1_init 13 = .ok (.putfield 11, 3) := by decide +kernel
theorem dX1_init_16 : decode cX1_init 16 = .ok (.aload_n 0, 1) := by decide +kernel
theorem dX1_init_17 : decode cX1_init 17 = .ok (.aload_n 0, 1) := by decide +kernel
theorem dX1_init_18 : decode cX1_init 18 = .ok (.getfield 11, 3) := by decide +kernel
theorem dX1_init_21 : decode cX1_init 21 = .ok (.iconst 0, 1) := by decide +kernel
theorem dX1_init_22 : decode cX1_init 22 = .ok (.aaload, 1) := by decide +kernel
theorem dX1_init_23 : decode cX1_init 23 = .ok (.putfield 16, 3) := by decide +kernel
theorem dX1_init_26 : decode cX1_init 26 = .ok (.aload_n 0, 1) := by decide +kernel
theorem dX1_init_27 : decode cX1_init 27 = .ok (.aload_n 0, 1) := by decide +kernel
theorem dX1_init_28 : decode cX1_init 28 = .ok (.getfield 11, 3) := by decide +kernel
theorem dX1_init_31 : decode cX1_init 31 = .ok (.iconst 1, 1) := by decide +kernel
theorem dX1_init_32 : decode cX1_init 32 = .ok (.aaload, 1) := by decide +kernel
theorem dX1_init_33 : decode cX1_init 33 = .ok (.putfield 20, 3) := by decide +kernel
theorem dX1_init_36 : decode cX1_init 36 = .ok (.aload_n 0, 1) := by decide +kernel
theorem dX1_init_37 : decode cX1_init 37 = .ok (.aload_n 0, 1) := by decide +kernel
theorem dX1_init_38 : decode cX1_init 38 = .ok (.getfield 11, 3) := by decide +kernel
theorem dX1_init_41 : decode cX1_init 41 = .ok (.iconst 2, 1) := by decide +kernel
theorem dX1_init_42 : decode cX1_init 42 = .ok (.aaload, 1) := by decide +kernel
theorem dX1_init_43 : decode cX1_init 43 = .ok (.putfield 23, 3) := by decide +kernel
theorem dX1_init_46 : decode cX1_init 46 = .ok (.aload_n 0, 1) := by decide +kernel
theorem dX1_init_47 : decode cX1_init 47 = .ok (.aload_n 0, 1) := by decide +kernel
theorem dX1_init_48 : decode cX1_init 48 = .ok (.getfield 11, 3) := by decide +kernel
theorem dX1_init_51 : decode cX1_init 51 = .ok (.iconst 3, 1) := by decide +kernel
theorem dX1_init_52 : decode cX1_init 52 = .ok (.aaload, 1) := by decide +kernel
theorem dX1_init_53 : decode cX1_init 53 = .ok (.putfield 26, 3) := by decide +kernel
theorem dX1_init_56 : decode cX1_init 56 = .ok (.aload_n 0, 1) := by decide +kernel
theorem dX1_init_57 : decode cX1_init 57 = .ok (.aload_n 0, 1) := by decide +kernel
theorem dX1_init_58 : decode cX1_init 58 = .ok (.getfield 11, 3) := by decide +kernel
theorem dX1_init_61 : decode cX1_init 61 = .ok (.iconst 4, 1) := by decide +kernel
theorem dX1_init_62 : decode cX1_init 62 = .ok (.aaload, 1) := by decide +kernel
theorem dX1_init_63 : decode cX1_init 63 = .ok (.putfield 29, 3) := by decide +kernel
theorem dX1_init_66 : decode cX1_init 66 = .ok (.aload_n 0, 1) := by decide +kernel
theorem dX1_init_67 : decode cX1_init 67 = .ok (.aload_n 0, 1) := by decide +kernel
theorem dX1_init_68 : decode cX1_init 68 = .ok (.getfield 11, 3) := by decide +kernel
theorem dX1_init_71 : decode cX1_init 71 = .ok (.iconst 5, 1) := by decide +kernel
theorem dX1_init_72 : decode cX1_init 72 = .ok (.aaload, 1) := by decide +kernel
theorem dX1_init_73 : decode cX1_init 73 = .ok (.putfield 32, 3) := by decide +kernel
theorem dX1_init_76 : decode cX1_init 76 = .ok (.aload_n 0, 1) := by decide +kernel
theorem dX1_init_77 : decode cX1_init 77 = .ok (.aload_n 0, 1) := by decide +kernel
theorem dX1_init_78 : decode cX1_init 78 = .ok (.getfield 11, 3) := by decide +kernel
theorem dX1_init_81 : decode cX1_init 81 = .ok (.bipush 6, 2) := by decide +kernel
theorem dX1_init_83 : decode cX1_init 83 = .ok (.aaload, 1) := by decide +kernel
theorem dX1_init_84 : decode cX1_init 84 = .ok (.putfield 35, 3) := by decide +kernel
theorem dX1_init_87 : decode cX1_init 87 = .ok (.aload_n 0, 1) := by decide +kernel
theorem dX1_init_88 : decode cX1_init 88 = .ok (.aload_n 0, 1) := by decide +kernel
theorem dX1_init_89 : decode cX1_init 89 = .ok (.getfield 11, 3) := by decide +kernel
theorem dX1_init_92 : decode cX1_init 92 = .ok (.bipush 7, 2) := by decide +kernel
theorem dX1_init_94 : decode cX1_init 94 = .ok (.aaload, 1) := by decide +kernel
theorem dX1_init_95 : decode cX1_init 95 = .ok (.putfield 38, 3) := by decide +kernel
theorem dX1_init_98 : decode cX1_init 98 = .ok (.aload_n 0, 1) := by decide +kernel
theorem dX1_init_99 : decode cX1_init 99 = .ok (.aload_n 0, 1) := by decide +kernel
theorem dX1_init_100 : decode cX1_init 100 = .ok (.getfield 11, 3) := by decide +kernel
theorem dX1_init_103 : decode cX1_init 103 = .ok (.bipush 8, 2) := by decide +kernel
theorem dX1_init_105 : decode cX1_init 105 = .ok (.aaload, 1) := by decide +kernel
theorem dX1_init_106 : decode cX1_init 106 = .ok (.putfield 41, 3) := by decide +kernel
theorem dX1_init_109 : decode cX1_init 109 = .ok (.aload_n 0, 1) := by decide +kernel
theorem dX1_init_110 : decode cX1_init 110 = .ok (.aload_n 0, 1) := by decide +kernel
theorem dX1_init_111 : decode cX1_init 111 = .ok (.getfield 11, 3) := by decide +kernel
theorem dX1_init_114 : decode cX1_init 114 = .ok (.bipush 9, 2) := by decide +kernel
theorem dX1_init_116 : decode cX1_init 116 = .ok (.aaload, 1) := by decide +kernel
theorem dX1_init_117 : decode cX1_init 117 = .ok (.putfield 44, 3) := by decide +kernel
theorem dX1_init_120 : decode cX1_init 120 = .ok (.aload_n 0, 1) := by decide +kernel
theorem dX1_init_121 : decode cX1_init 121 = .ok (.iconst 0, 1) := by decide +kernel
theorem dX1_init_122 : decode cX1_init 122 = .ok (.putfield 47, 3) := by decide +kernel
theorem dX1_init_125 : decode cX1_init 125 = .ok (.aload_n 0, 1) := by decide +kernel
theorem dX1_init_126 : decode cX1_init 126 = .ok (.iconst 0, 1) := by decide +kernel
theorem dX1_init_127 : decode cX1_init 127 = .ok (.putfield 51, 3) := by decide +kernel
theorem dX1_init_130 : decode cX1_init 130 = .ok (.aload_n 0, 1) := by decide +kernel
theorem dX1_init_131 : decode cX1_init 131 = .ok (.iconst 1, 1) := by decide +kernel
theorem dX1_init_132 : decode cX1_init 132 = .ok (.putfield 54, 3) := by decide +kernel
theorem dX1_init_135 : decode cX1_init 135 = .ok (.aload_n 0, 1) := by decide +kernel
theorem dX1_init_136 : decode cX1_init 136 = .ok (.iconst 0, 1) := by decide +kernel
theorem dX1_init_137 : decode cX1_init 137 = .ok (.putfield 57, 3) := by decide +kernel
theorem dX1_init_140 : decode cX1_init 140 = .ok (.aload_n 0, 1) := by decide +kernel
theorem dX1_init_141 : decode cX1_init 141 = .ok (.iconst 0, 1) := by decide +kernel
theorem dX1_init_142 : decode cX1_init 142 = .ok (.putfield 60, 3) := by decide +kernel
theorem dX1_init_145 : decode cX1_init 145 = .ok (.aload_n 0, 1) := by decide +kernel
theorem dX1_init_146 : decode cX1_init 146 = .ok (.bipush 30, 2) := by decide +kernel
theorem dX1_init_148 : decode cX1_init 148 = .ok (.newarray .int, 2) := by decide +kernel
theorem dX1_init_150 : decode cX1_init 150 = .ok (.putfield 63, 3) := by decide +kernel
theorem dX1_init_153 : decode cX1_init 153 = .ok (.aload_n 0, 1) := by decide +kernel
theorem dX1_init_154 : decode cX1_init 154 = .ok (.bipush 30, 2) := by decide +kernel
theorem dX1_init_156 : decode cX1_init 156 = .ok (.newarray .int, 2) := by decide +kernel
theorem dX1_init_158 : decode cX1_init 158 = .ok (.putfield 66, 3) := by decide +kernel
theorem dX1_init_161 : decode cX1_init 161 = .ok (.aload_n 0, 1) := by decide +kernel
theorem dX1_init_162 : decode cX1_init 162 = .ok (.bipush 30, 2) := by decide +kernel
theorem dX1_init_164 : decode cX1_init 164 = .ok (.newarray .boolean, 2) := by decide +kernel
theorem dX1_init_166 : decode cX1_init 166 = .ok (.putfield 69, 3) := by decide +kernel
theorem dX1_init_169 : decode cX1_init 169 = .ok (.return_, 1) := by decide +kernel
theorem dX1_become_0 : decode cX1_become 0 = .ok (.iconst 0, 1) := by decide +kernel
theorem dX1_become_1 : decode cX1_become 1 = .ok (.istore_n 2, 1) := by decide +kernel
theorem dX1_become_2 : decode cX1_become 2 = .ok (.iload_n 2, 1) := by decide +kernel
theorem dX1_become_3 : decode cX1_become 3 = .ok (.bipush 10, 2) := by decide +kernel
theorem dX1_become_5 : decode cX1_become 5 = .ok (.if_icmp .ge 28, 3) := by decide +kernel
theorem dX1_become_8 : decode cX1_become 8 = .ok (.aload_n 1, 1) := by decide +kernel
theorem dX1_become_9 : decode cX1_become 9 = .ok (.getfield 11, 3) := by decide +kernel
theorem dX1_become_12 : decode cX1_become 12 = .ok (.iload_n 2, 1) := by decide +kernel
theorem dX1_become_13 : decode cX1_become 13 = .ok (.aaload, 1) := by decide +kernel
theorem dX1_become_14 : decode cX1_become 14 = .ok (.iconst 0, 1) := by decide +kernel
theorem dX1_become_15 : decode cX1_become 15 = .ok (.aload_n 0, 1) := by decide +kernel
theorem dX1_become_16 : decode cX1_become 16 = .ok (.getfield 11, 3) := by decide +kernel
theorem dX1_become_19 : decode cX1_become 19 = .ok (.iload_n 2, 1) := by decide +kernel
theorem dX1_become_20 : decode cX1_become 20 = .ok (.aaload, 1) := by decide +kernel
theorem dX1_become_21 : decode cX1_become 21 = .ok (.iconst 0, 1) := by decide +kernel
theorem dX1_become_22 : decode cX1_become 22 = .ok (.bipush 30, 2) := by decide +kernel
theorem dX1_become_24 : decode cX1_become 24 = .ok (.invokestatic 73, 3) := by decide +kernel
theorem dX1_become_27 : decode cX1_become 27 = .ok (.iinc 2 1, 3) := by decide +kernel
theorem dX1_become_30 : decode cX1_become 30 = .ok (.goto (-28), 3) := by decide +kernel
theorem dX1_become_33 : decode cX1_become 33 = .ok (.aload_n 0, 1) := by decide +kernel
theorem dX1_become_34 : decode cX1_become 34 = .ok (.aload_n 1, 1) := by decide +kernel
theorem dX1_become_35 : decode cX1_become 35 = .ok (.getfield 47, 3) := by decide +kernel
theorem dX1_become_38 : decode cX1_become 38 = .ok (.putfield 47, 3) := by decide +kernel
theorem dX1_become_41 : decode cX1_become 41 = .ok (.aload_n 0, 1) := by decide +kernel
theorem dX1_become_42 : decode cX1_become 42 = .ok (.aload_n 1, 1) := by decide +kernel
theorem dX1_become_43 : decode cX1_become 43 = .ok (.getfield 51, 3) := by decide +kernel
theorem dX1_become_46 : decode cX1_become 46 = .ok (.putfield 51, 3) := by decide +kernel
theorem dX1_become_49 : decode cX1_become 49 = .ok (.aload_n 0, 1) := by decide +kernel
theorem dX1_become_50 : decode cX1_become 50 = .ok (.aload_n 1, 1) := by decide +kernel
theorem dX1_become_51 : decode cX1_become 51 = .ok (.getfield 54, 3) := by decide +kernel
theorem dX1_become_54 : decode cX1_become 54 = .ok (.putfield 54, 3) := by decide +kernel
theorem dX1_become_57 : decode cX1_become 57 = .ok (.aload_n 0, 1) := by decide +kernel
theorem dX1_become_58 : decode cX1_become 58 = .ok (.aload_n 1, 1) := by decide +kernel
theorem dX1_become_59 : decode cX1_become 59 = .ok (.getfield 57, 3) := by decide +kernel
theorem dX1_become_62 : decode cX1_become 62 = .ok (.putfield 57, 3) := by decide +kernel
theorem dX1_become_65 : decode cX1_become 65 = .ok (.aload_n 0, 1) := by decide +kernel
theorem dX1_become_66 : decode cX1_become 66 = .ok (.aload_n 1, 1) := by decide +kernel
theorem dX1_become_67 : decode cX1_become 67 = .ok (.getfield 60, 3) := by decide +kernel
theorem dX1_become_70 : decode cX1_become 70 = .ok (.putfield 60, 3) := by decide +kernel
theorem dX1_become_73 : decode cX1_become 73 = .ok (.return_, 1) := by decide +kernel
theorem dX1_has_0 : decode cX1_has 0 = .ok (.iload_n 1, 1) := by decide +kernel
theorem dX1_has_1 : decode cX1_has 1 = .ok (.ifCond .lt 15, 3) := by decide +kernel
theorem dX1_has_4 : decode cX1_has 4 = .ok (.iload_n 1, 1) := by decide +kernel
theorem dX1_has_5 : decode cX1_has 5 = .ok (.aload_n 0, 1) := by decide +kernel
theorem dX1_has_6 : decode cX1_has 6 = .ok (.getfield 47, 3) := by decide +kernel
theorem dX1_has_9 : decode cX1_has 9 = .ok (.if_icmp .ge 7, 3) := by decide +kernel
theorem dX1_has_12 : decode cX1_has 12 = .ok (.iconst 1, 1) := by decide +kernel
theorem dX1_has_13 : decode cX1_has 13 = .ok (.goto 4, 3) := by decide +kernel
theorem dX1_has_16 : decode cX1_has 16 = .ok (.iconst 0, 1) := by decide +kernel
theorem dX1_has_17 : decode cX1_has 17 = .ok (.ireturn, 1) := by decide +kernel
theorem dX1_isTaken_0 : decode cX1_isTaken 0 = .ok (.iconst 0, 1) := by decide +kernel
theorem dX1_isTaken_1 : decode cX1_isTaken 1 = .ok (.istore_n 2, 1) := by decide +kernel
theorem dX1_isTaken_2 : decode cX1_isTaken 2 = .ok (.iload_n 2, 1) := by decide +kernel
theorem dX1_isTaken_3 : decode cX1_isTaken 3 = .ok (.aload_n 0, 1) := by decide +kernel
theorem dX1_isTaken_4 : decode cX1_isTaken 4 = .ok (.getfield 47, 3) := by decide +kernel
theorem dX1_isTaken_7 : decode cX1_isTaken 7 = .ok (.if_icmp .ge 21, 3) := by decide +kernel
theorem dX1_isTaken_10 : decode cX1_isTaken 10 = .ok (.aload_n 0, 1) := by decide +kernel
theorem dX1_isTaken_11 : decode cX1_isTaken 11 = .ok (.getfield 20, 3) := by decide +kernel
theorem dX1_isTaken_14 : decode cX1_isTaken 14 = .ok (.iload_n 2, 1) := by decide +kernel
theorem dX1_isTaken_15 : decode cX1_isTaken 15 = .ok (.iaload, 1) := by decide +kernel
theorem dX1_isTaken_16 : decode cX1_isTaken 16 = .ok (.iload_n 1, 1) := by decide +kernel
theorem dX1_isTaken_17 : decode cX1_isTaken 17 = .ok (.if_icmp .ne 5, 3) := by decide +kernel
theorem dX1_isTaken_20 : decode cX1_isTaken 20 = .ok (.iconst 1, 1) := by decide +kernel
theorem dX1_isTaken_21 : decode cX1_isTaken 21 = .ok (.ireturn, 1) := by decide +kernel
theorem dX1_isTaken_22 : decode cX1_isTaken 22 = .ok (.iinc 2 1, 3) := by decide +kernel
theorem dX1_isTaken_25 : decode cX1_isTaken 25 = .ok (.goto (-23), 3) := by decide +kernel
theorem dX1_isTaken_28 : decode cX1_isTaken 28 = .ok (.iconst 0, 1) := by decide +kernel
theorem dX1_isTaken_29 : decode cX1_isTaken 29 = .ok (.ireturn, 1) := by decide +kernel
theorem dX1_mayCome_0 : decode cX1_mayCome 0 = .ok (.iload_n 1, 1) := by decide +kernel
theorem dX1_mayCome_1 : decode cX1_mayCome 1 = .ok (.invokestatic 79, 3) := by decide +kernel
theorem dX1_mayCome_4 : decode cX1_mayCome 4 = .ok (.ifCond .eq 54, 3) := by decide +kernel
theorem dX1_mayCome_7 : decode cX1_mayCome 7 = .ok (.iload_n 2, 1) := by decide +kernel
theorem dX1_mayCome_8 : decode cX1_mayCome 8 = .ok (.invokestatic 83, 3) := by decide +kernel
theorem dX1_mayCome_11 : decode cX1_mayCome 11 = .ok (.ifCond .eq 47, 3) := by decide +kernel
theorem dX1_mayCome_14 : decode cX1_mayCome 14 = .ok (.iload_n 3, 1) := by decide +kernel
theorem dX1_mayCome_15 : decode cX1_mayCome 15 = .ok (.iconst 0, 1) := by decide +kernel
theorem dX1_mayCome_16 : decode cX1_mayCome 16 = .ok (.bipush 99, 2) := by decide +kernel
theorem dX1_mayCome_18 : decode cX1_mayCome 18 = .ok (.invokestatic 86, 3) := by decide +kernel
theorem dX1_mayCome_21 : decode cX1_mayCome 21 = .ok (.ifCond .eq 37, 3) := by decide +kernel
theorem dX1_mayCome_24 : decode cX1_mayCome 24 = .ok (.iload 4, 2) := by decide +kernel
theorem dX1_mayCome_26 : decode cX1_mayCome 26 = .ok (.iconst 1, 1) := by decide +kernel
theorem dX1_mayCome_27 : decode cX1_mayCome 27 = .ok (.bipush 9, 2) := by decide +kernel
theorem dX1_mayCome_29 : decode cX1_mayCome 29 = .ok (.invokestatic 86, 3) := by decide +kernel
theorem dX1_mayCome_32 : decode cX1_mayCome 32 = .ok (.ifCond .eq 26, 3) := by decide +kernel
theorem dX1_mayCome_35 : decode cX1_mayCome 35 = .ok (.iload 5, 2) := by decide +kernel
theorem dX1_mayCome_37 : decode cX1_mayCome 37 = .ok (.iconst 0, 1) := by decide +kernel
theorem dX1_mayCome_38 : decode cX1_mayCome 38 = .ok (.bipush 99, 2) := by decide +kernel
theorem dX1_mayCome_40 : decode cX1_mayCome 40 = .ok (.invokestatic 86, 3) := by decide +kernel
theorem dX1_mayCome_43 : decode cX1_mayCome 43 = .ok (.ifCond .eq 15, 3) := by decide +kernel
theorem dX1_mayCome_46 : decode cX1_mayCome 46 = .ok (.aload_n 0, 1) := by decide +kernel
theorem dX1_mayCome_47 : decode cX1_mayCome 47 = .ok (.iload_n 2, 1) := by decide +kernel
theorem dX1_mayCome_48 : decode cX1_mayCome 48 = .ok (.invokevirtual 90, 3) := by decide +kernel
theorem dX1_mayCome_51 : decode cX1_mayCome 51 = .ok (.ifCond .ne 7, 3) := by decide +kernel
theorem dX1_mayCome_54 : decode cX1_mayCome 54 = .ok (.iconst 1, 1) := by decide +kernel
theorem dX1_mayCome_55 : decode cX1_mayCome 55 = .ok (.goto 4, 3) := by decide +kernel
theorem dX1_mayCome_58 : decode cX1_mayCome 58 = .ok (.iconst 0, 1) := by decide +kernel
theorem dX1_mayCome_59 : decode cX1_mayCome 59 = .ok (.ireturn, 1) := by decide +kernel
theorem dX1_admit_0 : decode cX1_admit 0 = .ok (.aload_n 0, 1) := by decide +kernel
theorem dX1_admit_1 : decode cX1_admit 1 = .ok (.getfield 47, 3) := by decide +kernel
theorem dX1_admit_4 : decode cX1_admit 4 = .ok (.bipush 30, 2) := by decide +kernel
theorem dX1_admit_6 : decode cX1_admit 6 = .ok (.if_icmp .lt 5, 3) := by decide +kernel
theorem dX1_admit_9 : decode cX1_admit 9 = .ok (.iconst (-1), 1) := by decide +kernel
theorem dX1_admit_10 : decode cX1_admit 10 = .ok (.ireturn, 1) := by decide +kernel
theorem dX1_admit_11 : decode cX1_admit 11 = .ok (.iconst 0, 1) := by decide +kernel
theorem dX1_admit_12 : decode cX1_admit 12 = .ok (.istore 6, 2) := by decide +kernel
theorem dX1_admit_14 : decode cX1_admit 14 = .ok (.iload 6, 2) := by decide +kernel
theorem dX1_admit_16 : decode cX1_admit 16 = .ok (.bipush 10, 2) := by decide +kernel
theorem dX1_admit_18 : decode cX1_admit 18 = .ok (.if_icmp .ge 22, 3) := by decide +kernel
theorem dX1_admit_21 : decode cX1_admit 21 = .ok (.aload_n 0, 1) := by decide +kernel
theorem dX1_admit_22 : decode cX1_admit 22 = .ok (.getfield 11, 3) := by decide +kernel
theorem dX1_admit_25 : decode cX1_admit 25 = .ok (.iload 6, 2) := by decide +kernel
theorem dX1_admit_27 : decode cX1_admit 27 = .ok (.aaload, 1) := by decide +kernel
theorem dX1_admit_28 : decode cX1_admit 28 = .ok (.aload_n 0, 1) := by decide +kernel
theorem dX1_admit_29 : decode cX1_admit 29 = .ok (.getfield 47, 3) := by decide +kernel
theorem dX1_admit_32 : decode cX1_admit 32 = .ok (.iconst 0, 1) := by decide +kernel
theorem dX1_admit_33 : decode cX1_admit 33 = .ok (.iastore, 1) := by decide +kernel
theorem dX1_admit_34 : decode cX1_admit 34 = .ok (.iinc 6 1, 3) := by decide +kernel
theorem dX1_admit_37 : decode cX1_admit 37 = .ok (.goto (-23), 3) := by decide +kernel
theorem dX1_admit_40 : decode cX1_admit 40 = .ok (.aload_n 0, 1) := by decide +kernel
theorem dX1_admit_41 : decode cX1_admit 41 = .ok (.getfield 16, 3) := by decide +kernel
theorem dX1_admit_44 : decode cX1_admit 44 = .ok (.aload_n 0, 1) := by decide +kernel
theorem dX1_admit_45 : decode cX1_admit 45 = .ok (.getfield 47, 3) := by decide +kernel
theorem dX1_admit_48 : decode cX1_admit 48 = .ok (.iload_n 1, 1) := by decide +kernel
theorem dX1_admit_49 : decode cX1_admit 49 = .ok (.iastore, 1) := by decide +kernel
theorem dX1_admit_50 : decode cX1_admit 50 = .ok (.aload_n 0, 1) := by decide +kernel
theorem dX1_admit_51 : decode cX1_admit 51 = .ok (.getfield 20, 3) := by decide +kernel
theorem dX1_admit_54 : decode cX1_admit 54 = .ok (.aload_n 0, 1) := by decide +kernel
theorem dX1_admit_55 : decode cX1_admit 55 = .ok (.getfield 47, 3) := by decide +kernel
theorem dX1_admit_58 : decode cX1_admit 58 = .ok (.iload_n 2, 1) := by decide +kernel
theorem dX1_admit_59 : decode cX1_admit 59 = .ok (.iastore, 1) := by decide +kernel
theorem dX1_admit_60 : decode cX1_admit 60 = .ok (.aload_n 0, 1) := by decide +kernel
theorem dX1_admit_61 : decode cX1_admit 61 = .ok (.getfield 23, 3) := by decide +kernel
theorem dX1_admit_64 : decode cX1_admit 64 = .ok (.aload_n 0, 1) := by decide +kernel
theorem dX1_admit_65 : decode cX1_admit 65 = .ok (.getfield 47, 3) := by decide +kernel
theorem dX1_admit_68 : decode cX1_admit 68 = .ok (.iload_n 3, 1) := by decide +kernel
theorem dX1_admit_69 : decode cX1_admit 69 = .ok (.iastore, 1) := by decide +kernel
theorem dX1_admit_70 : decode cX1_admit 70 = .ok (.aload_n 0, 1) := by decide +kernel
theorem dX1_admit_71 : decode cX1_admit 71 = .ok (.getfield 26, 3) := by decide +kernel
theorem dX1_admit_74 : decode cX1_admit 74 = .ok (.aload_n 0, 1) := by decide +kernel
theorem dX1_admit_75 : decode cX1_admit 75 = .ok (.getfield 47, 3) := by decide +kernel
theorem dX1_admit_78 : decode cX1_admit 78 = .ok (.iload 4, 2) := by decide +kernel
theorem dX1_admit_80 : decode cX1_admit 80 = .ok (.iastore, 1) := by decide +kernel
theorem dX1_admit_81 : decode cX1_admit 81 = .ok (.aload_n 0, 1) := by decide +kernel
theorem dX1_admit_82 : decode cX1_admit 82 = .ok (.getfield 29, 3) := by decide +kernel
theorem dX1_admit_85 : decode cX1_admit 85 = .ok (.aload_n 0, 1) := by decide +kernel
theorem dX1_admit_86 : decode cX1_admit 86 = .ok (.getfield 47, 3) := by decide +kernel
theorem dX1_admit_89 : decode cX1_admit 89 = .ok (.iload 5, 2) := by decide +kernel
theorem dX1_admit_91 : decode cX1_admit 91 = .ok (.iastore, 1) := by decide +kernel
theorem dX1_admit_92 : decode cX1_admit 92 = .ok (.aload_n 0, 1) := by decide +kernel
theorem dX1_admit_93 : decode cX1_admit 93 = .ok (.dup, 1) := by decide +kernel
theorem dX1_admit_94 : decode cX1_admit 94 = .ok (.getfield 47, 3) := by decide +kernel
theorem dX1_admit_97 : decode cX1_admit 97 = .ok (.iconst 1, 1) := by decide +kernel
theorem dX1_admit_98 : decode cX1_admit 98 = .ok (.iadd, 1) := by decide +kernel
theorem dX1_admit_99 : decode cX1_admit 99 = .ok (.putfield 47, 3) := by decide +kernel
theorem dX1_admit_102 : decode cX1_admit 102 = .ok (.aload_n 0, 1) := by decide +kernel
theorem dX1_admit_103 : decode cX1_admit 103 = .ok (.getfield 47, 3) := by decide +kernel
theorem dX1_admit_106 : decode cX1_admit 106 = .ok (.iconst 1, 1) := by decide +kernel
theorem dX1_admit_107 : decode cX1_admit 107 = .ok (.isub, 1) := by decide +kernel
theorem dX1_admit_108 : decode cX1_admit 108 = .ok (.ireturn, 1) := by decide +kernel
theorem dX1_mostOf_0 : decode cX1_mostOf 0 = .ok (.iload_n 2, 1) := by decide +kernel
theorem dX1_mostOf_1 : decode cX1_mostOf 1 = .ok (.lookupswitch 39 #[(3, 27), (5, 30)], 27) := by decide +kernel
theorem dX1_mostOf_28 : decode cX1_mostOf 28 = .ok (.bipush 9, 2) := by decide +kernel
theorem dX1_mostOf_30 : decode cX1_mostOf 30 = .ok (.ireturn, 1) := by decide +kernel
theorem dX1_mostOf_31 : decode cX1_mostOf 31 = .ok (.aload_n 0, 1) := by decide +kernel
theorem dX1_mostOf_32 : decode cX1_mostOf 32 = .ok (.getfield 26, 3) := by decide +kernel
theorem dX1_mostOf_35 : decode cX1_mostOf 35 = .ok (.iload_n 1, 1) := by decide +kernel
theorem dX1_mostOf_36 : decode cX1_mostOf 36 = .ok (.iaload, 1) := by decide +kernel
theorem dX1_mostOf_37 : decode cX1_mostOf 37 = .ok (.iconst 1, 1) := by decide +kernel
theorem dX1_mostOf_38 : decode cX1_mostOf 38 = .ok (.isub, 1) := by decide +kernel
theorem dX1_mostOf_39 : decode cX1_mostOf 39 = .ok (.ireturn, 1) := by decide +kernel
theorem dX1_mostOf_40 : decode cX1_mostOf 40 = .ok (.bipush 99, 2) := by decide +kernel
theorem dX1_mostOf_42 : decode cX1_mostOf 42 = .ok (.ireturn, 1) := by decide +kernel
theorem dX1_wordOf_0 : decode cX1_wordOf 0 = .ok (.iload_n 2, 1) := by decide +kernel
theorem dX1_wordOf_1 : decode cX1_wordOf 1 = .ok (.tableswitch 82 0 5 #[39, 82, 46, 57, 68, 75], 39) := by decide +kernel
theorem dX1_wordOf_40 : decode cX1_wordOf 40 = .ok (.aload_n 0, 1) := by decide +kernel
theorem dX1_wordOf_41 : decode cX1_wordOf 41 = .ok (.getfield 23, 3) := by decide +kernel
theorem dX1_wordOf_44 : decode cX1_wordOf 44 = .ok (.iload_n 1, 1) := by decide +kernel
theorem dX1_wordOf_45 : decode cX1_wordOf 45 = .ok (.iaload, 1) := by decide +kernel
theorem dX1_wordOf_46 : decode cX1_wordOf 46 = .ok (.ireturn, 1) := by decide +kernel
theorem dX1_wordOf_47 : decode cX1_wordOf 47 = .ok (.aload_n 0, 1) := by decide +kernel
theorem dX1_wordOf_48 : decode cX1_wordOf 48 = .ok (.invokevirtual 93, 3) := by decide +kernel
theorem dX1_wordOf_51 : decode cX1_wordOf 51 = .ok (.aload_n 0, 1) := by decide +kernel
theorem dX1_wordOf_52 : decode cX1_wordOf 52 = .ok (.getfield 63, 3) := by decide +kernel
theorem dX1_wordOf_55 : decode cX1_wordOf 55 = .ok (.iload_n 1, 1) := by decide +kernel
theorem dX1_wordOf_56 : decode cX1_wordOf 56 = .ok (.iaload, 1) := by decide +kernel
theorem dX1_wordOf_57 : decode cX1_wordOf 57 = .ok (.ireturn, 1) := by decide +kernel
theorem dX1_wordOf_58 : decode cX1_wordOf 58 = .ok (.aload_n 0, 1) := by decide +kernel
theorem dX1_wordOf_59 : decode cX1_wordOf 59 = .ok (.invokevirtual 93, 3) := by decide +kernel
theorem dX1_wordOf_62 : decode cX1_wordOf 62 = .ok (.aload_n 0, 1) := by decide +kernel
theorem dX1_wordOf_63 : decode cX1_wordOf 63 = .ok (.getfield 66, 3) := by decide +kernel
theorem dX1_wordOf_66 : decode cX1_wordOf 66 = .ok (.iload_n 1, 1) := by decide +kernel
theorem dX1_wordOf_67 : decode cX1_wordOf 67 = .ok (.iaload, 1) := by decide +kernel
theorem dX1_wordOf_68 : decode cX1_wordOf 68 = .ok (.ireturn, 1) := by decide +kernel
theorem dX1_wordOf_69 : decode cX1_wordOf 69 = .ok (.aload_n 0, 1) := by decide +kernel
theorem dX1_wordOf_70 : decode cX1_wordOf 70 = .ok (.getfield 32, 3) := by decide +kernel
theorem dX1_wordOf_73 : decode cX1_wordOf 73 = .ok (.iload_n 1, 1) := by decide +kernel
theorem dX1_wordOf_74 : decode cX1_wordOf 74 = .ok (.iaload, 1) := by decide +kernel
theorem dX1_wordOf_75 : decode cX1_wordOf 75 = .ok (.ireturn, 1) := by decide +kernel
theorem dX1_wordOf_76 : decode cX1_wordOf 76 = .ok (.aload_n 0, 1) := by decide +kernel
theorem dX1_wordOf_77 : decode cX1_wordOf 77 = .ok (.getfield 38, 3) := by decide +kernel
theorem dX1_wordOf_80 : decode cX1_wordOf 80 = .ok (.iload_n 1, 1) := by decide +kernel
theorem dX1_wordOf_81 : decode cX1_wordOf 81 = .ok (.iaload, 1) := by decide +kernel
theorem dX1_wordOf_82 : decode cX1_wordOf 82 = .ok (.ireturn, 1) := by decide +kernel
theorem dX1_wordOf_83 : decode cX1_wordOf 83 = .ok (.aload_n 0, 1) := by decide +kernel
theorem dX1_wordOf_84 : decode cX1_wordOf 84 = .ok (.getfield 29, 3) := by decide +kernel
theorem dX1_wordOf_87 : decode cX1_wordOf 87 = .ok (.iload_n 1, 1) := by decide +kernel
theorem dX1_wordOf_88 : decode cX1_wordOf 88 = .ok (.iaload, 1) := by decide +kernel
theorem dX1_wordOf_89 : decode cX1_wordOf 89 = .ok (.ireturn, 1) := by decide +kernel
theorem dX1_countOf_0 : decode cX1_countOf 0 = .ok (.iconst 0, 1) := by decide +kernel
theorem dX1_countOf_1 : decode cX1_countOf 1 = .ok (.istore_n 3, 1) := by decide +kernel
theorem dX1_countOf_2 : decode cX1_countOf 2 = .ok (.iconst 0, 1) := by decide +kernel
theorem dX1_countOf_3 : decode cX1_countOf 3 = .ok (.istore 4, 2) := by decide +kernel
theorem dX1_countOf_5 : decode cX1_countOf 5 = .ok (.iload 4, 2) := by decide +kernel
theorem dX1_countOf_7 : decode cX1_countOf 7 = .ok (.aload_n 0, 1) := by decide +kernel
theorem dX1_countOf_8 : decode cX1_countOf 8 = .ok (.getfield 47, 3) := by decide +kernel
theorem dX1_countOf_11 : decode cX1_countOf 11 = .ok (.if_icmp .ge 25, 3) := by decide +kernel
theorem dX1_countOf_14 : decode cX1_countOf 14 = .ok (.aload_n 0, 1) := by decide +kernel
theorem dX1_countOf_15 : decode cX1_countOf 15 = .ok (.getfield 11, 3) := by decide +kernel
theorem dX1_countOf_18 : decode cX1_countOf 18 = .ok (.iload_n 1, 1) := by decide +kernel
theorem dX1_countOf_19 : decode cX1_countOf 19 = .ok (.aaload, 1) := by decide +kernel
theorem dX1_countOf_20 : decode cX1_countOf 20 = .ok (.iload 4, 2) := by decide +kernel
theorem dX1_countOf_22 : decode cX1_countOf 22 = .ok (.iaload, 1) := by decide +kernel
theorem dX1_countOf_23 : decode cX1_countOf 23 = .ok (.iload_n 2, 1) := by decide +kernel
theorem dX1_countOf_24 : decode cX1_countOf 24 = .ok (.if_icmp .ne 6, 3) := by decide +kernel
theorem dX1_countOf_27 : decode cX1_countOf 27 = .ok (.iinc 3 1, 3) := by decide +kernel
theorem dX1_countOf_30 : decode cX1_countOf 30 = .ok (.iinc 4 1, 3) := by decide +kernel
theorem dX1_countOf_33 : decode cX1_countOf 33 = .ok (.goto (-28), 3) := by decide +kernel
theorem dX1_countOf_36 : decode cX1_countOf 36 = .ok (.iload_n 3, 1) := by decide +kernel
theorem dX1_countOf_37 : decode cX1_countOf 37 = .ok (.ireturn, 1) := by decide +kernel
theorem dX1_ask_0 : decode cX1_ask 0 = .ok (.aload_n 0, 1) := by decide +kernel
theorem dX1_ask_1 : decode cX1_ask 1 = .ok (.getfield 35, 3) := by decide +kernel
theorem dX1_ask_4 : decode cX1_ask 4 = .ok (.iload_n 1, 1) := by decide +kernel
theorem dX1_ask_5 : decode cX1_ask 5 = .ok (.iconst 1, 1) := by decide +kernel
theorem dX1_ask_6 : decode cX1_ask 6 = .ok (.iastore, 1) := by decide +kernel
theorem dX1_ask_7 : decode cX1_ask 7 = .ok (.aload_n 0, 1) := by decide +kernel
theorem dX1_ask_8 : decode cX1_ask 8 = .ok (.getfield 38, 3) := by decide +kernel
theorem dX1_ask_11 : decode cX1_ask 11 = .ok (.iload_n 1, 1) := by decide +kernel
theorem dX1_ask_12 : decode cX1_ask 12 = .ok (.iconst 0, 1) := by decide +kernel
theorem dX1_ask_13 : decode cX1_ask 13 = .ok (.iastore, 1) := by decide +kernel
theorem dX1_ask_14 : decode cX1_ask 14 = .ok (.return_, 1) := by decide +kernel
theorem dX1_calm_0 : decode cX1_calm 0 = .ok (.aload_n 0, 1) := by decide +kernel
theorem dX1_calm_1 : decode cX1_calm 1 = .ok (.getfield 47, 3) := by decide +kernel
theorem dX1_calm_4 : decode cX1_calm 4 = .ok (.aload_n 0, 1) := by decide +kernel
theorem dX1_calm_5 : decode cX1_calm 5 = .ok (.bipush 6, 2) := by decide +kernel
theorem dX1_calm_7 : decode cX1_calm 7 = .ok (.iconst 0, 1) := by decide +kernel
theorem dX1_calm_8 : decode cX1_calm 8 = .ok (.invokevirtual 96, 3) := by decide +kernel
theorem dX1_calm_11 : decode cX1_calm 11 = .ok (.isub, 1) := by decide +kernel
theorem dX1_calm_12 : decode cX1_calm 12 = .ok (.istore_n 1, 1) := by decide +kernel
theorem dX1_calm_13 : decode cX1_calm 13 = .ok (.aload_n 0, 1) := by decide +kernel
theorem dX1_calm_14 : decode cX1_calm 14 = .ok (.getfield 35, 3) := by decide +kernel
theorem dX1_calm_17 : decode cX1_calm 17 = .ok (.iconst 0, 1) := by decide +kernel
theorem dX1_calm_18 : decode cX1_calm 18 = .ok (.invokestatic 100, 3) := by decide +kernel
theorem dX1_calm_21 : decode cX1_calm 21 = .ok (.aload_n 0, 1) := by decide +kernel
theorem dX1_calm_22 : decode cX1_calm 22 = .ok (.getfield 38, 3) := by decide +kernel
theorem dX1_calm_25 : decode cX1_calm 25 = .ok (.iconst 0, 1) := by decide +kernel
theorem dX1_calm_26 : decode cX1_calm 26 = .ok (.invokestatic 100, 3) := by decide +kernel
theorem dX1_calm_29 : decode cX1_calm 29 = .ok (.aload_n 0, 1) := by decide +kernel
theorem dX1_calm_30 : decode cX1_calm 30 = .ok (.getfield 41, 3) := by decide +kernel
theorem dX1_calm_33 : decode cX1_calm 33 = .ok (.iconst 0, 1) := by decide +kernel
theorem dX1_calm_34 : decode cX1_calm 34 = .ok (.invokestatic 100, 3) := by decide +kernel
theorem dX1_calm_37 : decode cX1_calm 37 = .ok (.aload_n 0, 1) := by decide +kernel
theorem dX1_calm_38 : decode cX1_calm 38 = .ok (.getfield 32, 3) := by decide +kernel
theorem dX1_calm_41 : decode cX1_calm 41 = .ok (.iconst 0, 1) := by decide +kernel
theorem dX1_calm_42 : decode cX1_calm 42 = .ok (.invokestatic 100, 3) := by decide +kernel
theorem dX1_calm_45 : decode cX1_calm 45 = .ok (.aload_n 0, 1) := by decide +kernel
theorem dX1_calm_46 : decode cX1_calm 46 = .ok (.iconst 0, 1) := by decide +kernel
theorem dX1_calm_47 : decode cX1_calm 47 = .ok (.putfield 51, 3) := by decide +kernel
theorem dX1_calm_50 : decode cX1_calm 50 = .ok (.aload_n 0, 1) := by decide +kernel
theorem dX1_calm_51 : decode cX1_calm 51 = .ok (.iconst 0, 1) := by decide +kernel
theorem dX1_calm_52 : decode cX1_calm 52 = .ok (.putfield 57, 3) := by decide +kernel
theorem dX1_calm_55 : decode cX1_calm 55 = .ok (.aload_n 0, 1) := by decide +kernel
theorem dX1_calm_56 : decode cX1_calm 56 = .ok (.iconst 0, 1) := by decide +kernel
theorem dX1_calm_57 : decode cX1_calm 57 = .ok (.putfield 60, 3) := by decide +kernel
theorem dX1_calm_60 : decode cX1_calm 60 = .ok (.iload_n 1, 1) := by decide +kernel
theorem dX1_calm_61 : decode cX1_calm 61 = .ok (.ireturn, 1) := by decide +kernel
theorem dX1_leaveAloneWith_0 : decode cX1_leaveAloneWith 0 = .ok (.aload_n 0, 1) := by decide +kernel
theorem dX1_leaveAloneWith_1 : decode cX1_leaveAloneWith 1 = .ok (.invokevirtual 106, 3) := by decide +kernel
theorem dX1_leaveAloneWith_4 : decode cX1_leaveAloneWith 4 = .ok (.pop, 1) := by decide +kernel
theorem dX1_leaveAloneWith_5 : decode cX1_leaveAloneWith 5 = .ok (.aload_n 0, 1) := by decide +kernel
theorem dX1_leaveAloneWith_6 : decode cX1_leaveAloneWith 6 = .ok (.getfield 29, 3) := by decide +kernel
theorem dX1_leaveAloneWith_9 : decode cX1_leaveAloneWith 9 = .ok (.sipush 10000, 3) := by decide +kernel
theorem dX1_leaveAloneWith_12 : decode cX1_leaveAloneWith 12 = .ok (.invokestatic 100, 3) := by decide +kernel
theorem dX1_leaveAloneWith_15 : decode cX1_leaveAloneWith 15 = .ok (.aload_n 0, 1) := by decide +kernel
theorem dX1_leaveAloneWith_16 : decode cX1_leaveAloneWith 16 = .ok (.iload_n 1, 1) := by decide +kernel
theorem dX1_leaveAloneWith_17 : decode cX1_leaveAloneWith 17 = .ok (.invokevirtual 110, 3) := by decide +kernel
theorem dX1_leaveAloneWith_20 : decode cX1_leaveAloneWith 20 = .ok (.return_, 1) := by decide +kernel
theorem dX1_listen_0 : decode cX1_listen 0 = .ok (.aload_n 0, 1) := by decide +kernel
theorem dX1_listen_1 : decode cX1_listen 1 = .ok (.getfield 63, 3) := by decide +kernel
theorem dX1_listen_4 : decode cX1_listen 4 = .ok (.iconst 0, 1) := by decide +kernel
theorem dX1_listen_5 : decode cX1_listen 5 = .ok (.invokestatic 100, 3) := by decide +kernel
theorem dX1_listen_8 : decode cX1_listen 8 = .ok (.aload_n 0, 1) := by decide +kernel
theorem dX1_listen_9 : decode cX1_listen 9 = .ok (.getfield 66, 3) := by decide +kernel
theorem dX1_listen_12 : decode cX1_listen 12 = .ok (.iconst 0, 1) := by decide +kernel
theorem dX1_listen_13 : decode cX1_listen 13 = .ok (.invokestatic 100, 3) := by decide +kernel
theorem dX1_listen_16 : decode cX1_listen 16 = .ok (.iconst 0, 1) := by decide +kernel
theorem dX1_listen_17 : decode cX1_listen 17 = .ok (.istore_n 1, 1) := by decide +kernel
theorem dX1_listen_18 : decode cX1_listen 18 = .ok (.iload_n 1, 1) := by decide +kernel
theorem dX1_listen_19 : decode cX1_listen 19 = .ok (.aload_n 0, 1) := by decide +kernel
theorem dX1_listen_20 : decode cX1_listen 20 = .ok (.getfield 47, 3) := by decide +kernel
theorem dX1_listen_23 : decode cX1_listen 23 = .ok (.if_icmp .ge 25, 3) := by decide +kernel
theorem dX1_listen_26 : decode cX1_listen 26 = .ok (.aload_n 0, 1) := by decide +kernel
theorem dX1_listen_27 : decode cX1_listen 27 = .ok (.getfield 35, 3) := by decide +kernel
theorem dX1_listen_30 : decode cX1_listen 30 = .ok (.iload_n 1, 1) := by decide +kernel
theorem dX1_listen_31 : decode cX1_listen 31 = .ok (.iaload, 1) := by decide +kernel
theorem dX1_listen_32 : decode cX1_listen 32 = .ok (.iconst 1, 1) := by decide +kernel
theorem dX1_listen_33 : decode cX1_listen 33 = .ok (.if_icmp .ne 9, 3) := by decide +kernel
theorem dX1_listen_36 : decode cX1_listen 36 = .ok (.aload_n 0, 1) := by decide +kernel
theorem dX1_listen_37 : decode cX1_listen 37 = .ok (.iload_n 1, 1) := by decide +kernel
theorem dX1_listen_38 : decode cX1_listen 38 = .ok (.iconst 1, 1) := by decide +kernel
theorem dX1_listen_39 : decode cX1_listen 39 = .ok (.invokevirtual 114, 3) := by decide +kernel
theorem dX1_listen_42 : decode cX1_listen 42 = .ok (.iinc 1 1, 3) := by decide +kernel
theorem dX1_listen_45 : decode cX1_listen 45 = .ok (.goto (-27), 3) := by decide +kernel
theorem dX1_listen_48 : decode cX1_listen 48 = .ok (.return_, 1) := by decide +kernel
theorem dX1_soundFrom_0 : decode cX1_soundFrom 0 = .ok (.iconst 0, 1) := by decide +kernel
theorem dX1_soundFrom_1 : decode cX1_soundFrom 1 = .ok (.istore_n 3, 1) := by decide +kernel
theorem dX1_soundFrom_2 : decode cX1_soundFrom 2 = .ok (.iload_n 3, 1) := by decide +kernel
theorem dX1_soundFrom_3 : decode cX1_soundFrom 3 = .ok (.aload_n 0, 1) := by decide +kernel
theorem dX1_soundFrom_4 : decode cX1_soundFrom 4 = .ok (.getfield 47, 3) := by decide +kernel
theorem dX1_soundFrom_7 : decode cX1_soundFrom 7 = .ok (.if_icmp .ge 66, 3) := by decide +kernel
theorem dX1_soundFrom_10 : decode cX1_soundFrom 10 = .ok (.iload_n 3, 1) := by decide +kernel
theorem dX1_soundFrom_11 : decode cX1_soundFrom 11 = .ok (.iload_n 1, 1) := by decide +kernel
theorem dX1_soundFrom_12 : decode cX1_soundFrom 12 = .ok (.if_icmp .ne 6, 3) := by decide +kernel
theorem dX1_soundFrom_15 : decode cX1_soundFrom 15 = .ok (.goto 52, 3) := by decide +kernel
theorem dX1_soundFrom_18 : decode cX1_soundFrom 18 = .ok (.aload_n 0, 1) := by decide +kernel
theorem dX1_soundFrom_19 : decode cX1_soundFrom 19 = .ok (.getfield 20, 3) := by decide +kernel
theorem dX1_soundFrom_22 : decode cX1_soundFrom 22 = .ok (.iload_n 3, 1) := by decide +kernel
theorem dX1_soundFrom_23 : decode cX1_soundFrom 23 = .ok (.iaload, 1) := by decide +kernel
theorem dX1_soundFrom_24 : decode cX1_soundFrom 24 = .ok (.aload_n 0, 1) := by decide +kernel
theorem dX1_soundFrom_25 : decode cX1_soundFrom 25 = .ok (.getfield 20, 3) := by decide +kernel
theorem dX1_soundFrom_28 : decode cX1_soundFrom 28 = .ok (.iload_n 1, 1) := by decide +kernel
theorem dX1_soundFrom_29 : decode cX1_soundFrom 29 = .ok (.iaload, 1) := by decide +kernel
theorem dX1_soundFrom_30 : decode cX1_soundFrom 30 = .ok (.invokestatic 118, 3) := by decide +kernel
theorem dX1_soundFrom_33 : decode cX1_soundFrom 33 = .ok (.istore 4, 2) := by decide +kernel
theorem dX1_soundFrom_35 : decode cX1_soundFrom 35 = .ok (.aload_n 0, 1) := by decide +kernel
theorem dX1_soundFrom_36 : decode cX1_soundFrom 36 = .ok (.getfield 63, 3) := by decide +kernel
theorem dX1_soundFrom_39 : decode cX1_soundFrom 39 = .ok (.iload_n 3, 1) := by decide +kernel
theorem dX1_soundFrom_40 : decode cX1_soundFrom 40 = .ok (.dup2, 1) := by decide +kernel
theorem dX1_soundFrom_41 : decode cX1_soundFrom 41 = .ok (.iaload, 1) := by decide +kernel
theorem dX1_soundFrom_42 : decode cX1_soundFrom 42 = .ok (.iload_n 2, 1) := by decide +kernel
theorem dX1_soundFrom_43 : decode cX1_soundFrom 43 = .ok (.iload 4, 2) := by decide +kernel
theorem dX1_soundFrom_45 : decode cX1_soundFrom 45 = .ok (.invokestatic 121, 3) := by decide +kernel
theorem dX1_soundFrom_48 : decode cX1_soundFrom 48 = .ok (.imul, 1) := by decide +kernel
theorem dX1_soundFrom_49 : decode cX1_soundFrom 49 = .ok (.iadd, 1) := by decide +kernel
theorem dX1_soundFrom_50 : decode cX1_soundFrom 50 = .ok (.iastore, 1) := by decide +kernel
theorem dX1_soundFrom_51 : decode cX1_soundFrom 51 = .ok (.iload 4, 2) := by decide +kernel
theorem dX1_soundFrom_53 : decode cX1_soundFrom 53 = .ok (.iconst 1, 1) := by decide +kernel
theorem dX1_soundFrom_54 : decode cX1_soundFrom 54 = .ok (.if_icmp .ne 13, 3) := by decide +kernel
theorem dX1_soundFrom_57 : decode cX1_soundFrom 57 = .ok (.aload_n 0, 1) := by decide +kernel
theorem dX1_soundFrom_58 : decode cX1_soundFrom 58 = .ok (.getfield 66, 3) := by decide +kernel
theorem dX1_soundFrom_61 : decode cX1_soundFrom 61 = .ok (.iload_n 3, 1) := by decide +kernel
theorem dX1_soundFrom_62 : decode cX1_soundFrom 62 = .ok (.dup2, 1) := by decide +kernel
theorem dX1_soundFrom_63 : decode cX1_soundFrom 63 = .ok (.iaload, 1) := by decide +kernel
theorem dX1_soundFrom_64 : decode cX1_soundFrom 64 = .ok (.iload_n 2, 1) := by decide +kernel
theorem dX1_soundFrom_65 : decode cX1_soundFrom 65 = .ok (.iadd, 1) := by decide +kernel
theorem dX1_soundFrom_66 : decode cX1_soundFrom 66 = .ok (.iastore, 1) := by decide +kernel
theorem dX1_soundFrom_67 : decode cX1_soundFrom 67 = .ok (.iinc 3 1, 3) := by decide +kernel
theorem dX1_soundFrom_70 : decode cX1_soundFrom 70 = .ok (.goto (-68), 3) := by decide +kernel
theorem dX1_soundFrom_73 : decode cX1_soundFrom 73 = .ok (.return_, 1) := by decide +kernel
theorem dX1_passTicks_0 : decode cX1_passTicks 0 = .ok (.aload_n 0, 1) := by decide +kernel
theorem dX1_passTicks_1 : decode cX1_passTicks 1 = .ok (.invokevirtual 93, 3) := by decide +kernel
theorem dX1_passTicks_4 : decode cX1_passTicks 4 = .ok (.iconst 0, 1) := by decide +kernel
theorem dX1_passTicks_5 : decode cX1_passTicks 5 = .ok (.istore_n 3, 1) := by decide +kernel
theorem dX1_passTicks_6 : decode cX1_passTicks 6 = .ok (.iload_n 3, 1) := by decide +kernel
theorem dX1_passTicks_7 : decode cX1_passTicks 7 = .ok (.iload_n 2, 1) := by decide +kernel
theorem dX1_passTicks_8 : decode cX1_passTicks 8 = .ok (.if_icmp .ge 37, 3) := by decide +kernel
theorem dX1_passTicks_11 : decode cX1_passTicks 11 = .ok (.aload_n 0, 1) := by decide +kernel
theorem dX1_passTicks_12 : decode cX1_passTicks 12 = .ok (.aload_n 1, 1) := by decide +kernel
theorem dX1_passTicks_13 : decode cX1_passTicks 13 = .ok (.invokevirtual 125, 3) := by decide +kernel
theorem dX1_passTicks_16 : decode cX1_passTicks 16 = .ok (.istore 4, 2) := by decide +kernel
theorem dX1_passTicks_18 : decode cX1_passTicks 18 = .ok (.aload_n 0, 1) := by decide +kernel
theorem dX1_passTicks_19 : decode cX1_passTicks 19 = .ok (.iload 4, 2) := by decide +kernel
theorem dX1_passTicks_21 : decode cX1_passTicks 21 = .ok (.invokevirtual 129, 3) := by decide +kernel
theorem dX1_passTicks_24 : decode cX1_passTicks 24 = .ok (.aload_n 0, 1) := by decide +kernel
theorem dX1_passTicks_25 : decode cX1_passTicks 25 = .ok (.aload_n 1, 1) := by decide +kernel
theorem dX1_passTicks_26 : decode cX1_passTicks 26 = .ok (.invokevirtual 132, 3) := by decide +kernel
theorem dX1_passTicks_29 : decode cX1_passTicks 29 = .ok (.aload_n 0, 1) := by decide +kernel
theorem dX1_passTicks_30 : decode cX1_passTicks 30 = .ok (.dup, 1) := by decide +kernel
theorem dX1_passTicks_31 : decode cX1_passTicks 31 = .ok (.getfield 51, 3) := by decide +kernel
theorem dX1_passTicks_34 : decode cX1_passTicks 34 = .ok (.iconst 1, 1) := by decide +kernel
theorem dX1_passTicks_35 : decode cX1_passTicks 35 = .ok (.iadd, 1) := by decide +kernel
theorem dX1_passTicks_36 : decode cX1_passTicks 36 = .ok (.putfield 51, 3) := by decide +kernel
theorem dX1_passTicks_39 : decode cX1_passTicks 39 = .ok (.iinc 3 1, 3) := by decide +kernel
theorem dX1_passTicks_42 : decode cX1_passTicks 42 = .ok (.goto (-36), 3) := by decide +kernel
theorem dX1_passTicks_45 : decode cX1_passTicks 45 = .ok (.return_, 1) := by decide +kernel
theorem dX1_turn_0 : decode cX1_turn 0 = .ok (.iconst 0, 1) := by decide +kernel
theorem dX1_turn_1 : decode cX1_turn 1 = .ok (.istore_n 2, 1) := by decide +kernel
theorem dX1_turn_2 : decode cX1_turn 2 = .ok (.iload_n 2, 1) := by decide +kernel
theorem dX1_turn_3 : decode cX1_turn 3 = .ok (.aload_n 0, 1) := by decide +kernel
theorem dX1_turn_4 : decode cX1_turn 4 = .ok (.getfield 47, 3) := by decide +kernel
theorem dX1_turn_7 : decode cX1_turn 7 = .ok (.if_icmp .ge 63, 3) := by decide +kernel
theorem dX1_turn_10 : decode cX1_turn 10 = .ok (.aload_n 0, 1) := by decide +kernel
theorem dX1_turn_11 : decode cX1_turn 11 = .ok (.getfield 35, 3) := by decide +kernel
theorem dX1_turn_14 : decode cX1_turn 14 = .ok (.iload_n 2, 1) := by decide +kernel
theorem dX1_turn_15 : decode cX1_turn 15 = .ok (.iaload, 1) := by decide +kernel
theorem dX1_turn_16 : decode cX1_turn 16 = .ok (.ifCond .ne 18, 3) := by decide +kernel
theorem dX1_turn_19 : decode cX1_turn 19 = .ok (.aload_n 0, 1) := by decide +kernel
theorem dX1_turn_20 : decode cX1_turn 20 = .ok (.getfield 69, 3) := by decide +kernel
theorem dX1_turn_23 : decode cX1_turn 23 = .ok (.iload_n 2, 1) := by decide +kernel
theorem dX1_turn_24 : decode cX1_turn 24 = .ok (.aload_n 0, 1) := by decide +kernel
theorem dX1_turn_25 : decode cX1_turn 25 = .ok (.iload_n 2, 1) := by decide +kernel
theorem dX1_turn_26 : decode cX1_turn 26 = .ok (.aload_n 1, 1) := by decide +kernel
theorem dX1_turn_27 : decode cX1_turn 27 = .ok (.invokevirtual 136, 3) := by decide +kernel
theorem dX1_turn_30 : decode cX1_turn 30 = .ok (.bastore, 1) := by decide +kernel
theorem dX1_turn_31 : decode cX1_turn 31 = .ok (.goto 33, 3) := by decide +kernel
theorem dX1_turn_34 : decode cX1_turn 34 = .ok (.aload_n 0, 1) := by decide +kernel
theorem dX1_turn_35 : decode cX1_turn 35 = .ok (.getfield 69, 3) := by decide +kernel
theorem dX1_turn_38 : decode cX1_turn 38 = .ok (.iload_n 2, 1) := by decide +kernel
theorem dX1_turn_39 : decode cX1_turn 39 = .ok (.aload_n 0, 1) := by decide +kernel
theorem dX1_turn_40 : decode cX1_turn 40 = .ok (.getfield 35, 3) := by decide +kernel
theorem dX1_turn_43 : decode cX1_turn 43 = .ok (.iload_n 2, 1) := by decide +kernel
theorem dX1_turn_44 : decode cX1_turn 44 = .ok (.iaload, 1) := by decide +kernel
theorem dX1_turn_45 : decode cX1_turn 45 = .ok (.iconst 1, 1) := by decide +kernel
theorem dX1_turn_46 : decode cX1_turn 46 = .ok (.if_icmp .ne 16, 3) := by decide +kernel
theorem dX1_turn_49 : decode cX1_turn 49 = .ok (.aload_n 0, 1) := by decide +kernel
theorem dX1_turn_50 : decode cX1_turn 50 = .ok (.iload_n 2, 1) := by decide +kernel
theorem dX1_turn_51 : decode cX1_turn 51 = .ok (.aload_n 1, 1) := by decide +kernel
theorem dX1_turn_52 : decode cX1_turn 52 = .ok (.invokevirtual 140, 3) := by decide +kernel
theorem dX1_turn_55 : decode cX1_turn 55 = .ok (.ifCond .eq 7, 3) := by decide +kernel
theorem dX1_turn_58 : decode cX1_turn 58 = .ok (.iconst 1, 1) := by decide +kernel
theorem dX1_turn_59 : decode cX1_turn 59 = .ok (.goto 4, 3) := by decide +kernel
theorem dX1_turn_62 : decode cX1_turn 62 = .ok (.iconst 0, 1) := by decide +kernel
theorem dX1_turn_63 : decode cX1_turn 63 = .ok (.bastore, 1) := by decide +kernel
theorem dX1_turn_64 : decode cX1_turn 64 = .ok (.iinc 2 1, 3) := by decide +kernel
theorem dX1_turn_67 : decode cX1_turn 67 = .ok (.goto (-65), 3) := by decide +kernel
theorem dX1_turn_70 : decode cX1_turn 70 = .ok (.iconst 0, 1) := by decide +kernel
theorem dX1_turn_71 : decode cX1_turn 71 = .ok (.istore_n 2, 1) := by decide +kernel
theorem dX1_turn_72 : decode cX1_turn 72 = .ok (.iconst 0, 1) := by decide +kernel
theorem dX1_turn_73 : decode cX1_turn 73 = .ok (.istore_n 3, 1) := by decide +kernel
theorem dX1_turn_74 : decode cX1_turn 74 = .ok (.iload_n 3, 1) := by decide +kernel
theorem dX1_turn_75 : decode cX1_turn 75 = .ok (.aload_n 0, 1) := by decide +kernel
theorem dX1_turn_76 : decode cX1_turn 76 = .ok (.getfield 47, 3) := by decide +kernel
theorem dX1_turn_79 : decode cX1_turn 79 = .ok (.if_icmp .ge 62, 3) := by decide +kernel
theorem dX1_turn_82 : decode cX1_turn 82 = .ok (.aload_n 0, 1) := by decide +kernel
theorem dX1_turn_83 : decode cX1_turn 83 = .ok (.getfield 69, 3) := by decide +kernel
theorem dX1_turn_86 : decode cX1_turn 86 = .ok (.iload_n 3, 1) := by decide +kernel
theorem dX1_turn_87 : decode cX1_turn 87 = .ok (.baload, 1) := by decide +kernel
theorem dX1_turn_88 : decode cX1_turn 88 = .ok (.ifCond .eq 11, 3) := by decide +kernel
theorem dX1_turn_91 : decode cX1_turn 91 = .ok (.aload_n 0, 1) := by decide +kernel
theorem dX1_turn_92 : decode cX1_turn 92 = .ok (.iload_n 3, 1) := by decide +kernel
theorem dX1_turn_93 : decode cX1_turn 93 = .ok (.invokevirtual 143, 3) := by decide +kernel
theorem dX1_turn_96 : decode cX1_turn 96 = .ok (.goto 23, 3) := by decide +kernel
theorem dX1_turn_99 : decode cX1_turn 99 = .ok (.aload_n 0, 1) := by decide +kernel
theorem dX1_turn_100 : decode cX1_turn 100 = .ok (.getfield 35, 3) := by decide +kernel
theorem dX1_turn_103 : decode cX1_turn 103 = .ok (.iload_n 3, 1) := by decide +kernel
theorem dX1_turn_104 : decode cX1_turn 104 = .ok (.iaload, 1) := by decide +kernel
theorem dX1_turn_105 : decode cX1_turn 105 = .ok (.iconst 1, 1) := by decide +kernel
theorem dX1_turn_106 : decode cX1_turn 106 = .ok (.if_icmp .ne 13, 3) := by decide +kernel
theorem dX1_turn_109 : decode cX1_turn 109 = .ok (.aload_n 0, 1) := by decide +kernel
theorem dX1_turn_110 : decode cX1_turn 110 = .ok (.getfield 38, 3) := by decide +kernel
theorem dX1_turn_113 : decode cX1_turn 113 = .ok (.iload_n 3, 1) := by decide +kernel
theorem dX1_turn_114 : decode cX1_turn 114 = .ok (.dup2, 1) := by decide +kernel
theorem dX1_turn_115 : decode cX1_turn 115 = .ok (.iaload, 1) := by decide +kernel
theorem dX1_turn_116 : decode cX1_turn 116 = .ok (.iconst 1, 1) := by decide +kernel
theorem dX1_turn_117 : decode cX1_turn 117 = .ok (.iadd, 1) := by decide +kernel
theorem dX1_turn_118 : decode cX1_turn 118 = .ok (.iastore, 1) := by decide +kernel
theorem dX1_turn_119 : decode cX1_turn 119 = .ok (.aload_n 0, 1) := by decide +kernel
theorem dX1_turn_120 : decode cX1_turn 120 = .ok (.getfield 35, 3) := by decide +kernel
theorem dX1_turn_123 : decode cX1_turn 123 = .ok (.iload_n 3, 1) := by decide +kernel
theorem dX1_turn_124 : decode cX1_turn 124 = .ok (.iaload, 1) := by decide +kernel
theorem dX1_turn_125 : decode cX1_turn 125 = .ok (.iconst 1, 1) := by decide +kernel
theorem dX1_turn_126 : decode cX1_turn 126 = .ok (.if_icmp .ne 9, 3) := by decide +kernel
theorem dX1_turn_129 : decode cX1_turn 129 = .ok (.iload_n 2, 1) := by decide +kernel
theorem dX1_turn_130 : decode cX1_turn 130 = .ok (.iconst 1, 1) := by decide +kernel
theorem dX1_turn_131 : decode cX1_turn 131 = .ok (.iload_n 3, 1) := by decide +kernel
theorem dX1_turn_132 : decode cX1_turn 132 = .ok (.ishl, 1) := by decide +kernel
theorem dX1_turn_133 : decode cX1_turn 133 = .ok (.ior, 1) := by decide +kernel
theorem dX1_turn_134 : decode cX1_turn 134 = .ok (.istore_n 2, 1) := by decide +kernel
theorem dX1_turn_135 : decode cX1_turn 135 = .ok (.iinc 3 1, 3) := by decide +kernel
theorem dX1_turn_138 : decode cX1_turn 138 = .ok (.goto (-64), 3) := by decide +kernel
theorem dX1_turn_141 : decode cX1_turn 141 = .ok (.iload_n 2, 1) := by decide +kernel
theorem dX1_turn_142 : decode cX1_turn 142 = .ok (.ireturn, 1) := by decide +kernel
theorem dX1_turnOne_0 : decode cX1_turnOne 0 = .ok (.aload_n 0, 1) := by decide +kernel
theorem dX1_turnOne_1 : decode cX1_turnOne 1 = .ok (.getfield 35, 3) := by decide +kernel
theorem dX1_turnOne_4 : decode cX1_turnOne 4 = .ok (.iload_n 1, 1) := by decide +kernel
theorem dX1_turnOne_5 : decode cX1_turnOne 5 = .ok (.iaload, 1) := by decide +kernel
theorem dX1_turnOne_6 : decode cX1_turnOne 6 = .ok (.ifCond .ne 7, 3) := by decide +kernel
theorem dX1_turnOne_9 : decode cX1_turnOne 9 = .ok (.iconst 1, 1) := by decide +kernel
theorem dX1_turnOne_10 : decode cX1_turnOne 10 = .ok (.goto 4, 3) := by decide +kernel
theorem dX1_turnOne_13 : decode cX1_turnOne 13 = .ok (.iconst 0, 1) := by decide +kernel
theorem dX1_turnOne_14 : decode cX1_turnOne 14 = .ok (.istore_n 2, 1) := by decide +kernel
theorem dX1_turnOne_15 : decode cX1_turnOne 15 = .ok (.aload_n 0, 1) := by decide +kernel
theorem dX1_turnOne_16 : decode cX1_turnOne 16 = .ok (.getfield 35, 3) := by decide +kernel
theorem dX1_turnOne_19 : decode cX1_turnOne 19 = .ok (.iload_n 1, 1) := by decide +kernel
theorem dX1_turnOne_20 : decode cX1_turnOne 20 = .ok (.iload_n 2, 1) := by decide +kernel
theorem dX1_turnOne_21 : decode cX1_turnOne 21 = .ok (.ifCond .eq 7, 3) := by decide +kernel
theorem dX1_turnOne_24 : decode cX1_turnOne 24 = .ok (.iconst 1, 1) := by decide +kernel
theorem dX1_turnOne_25 : decode cX1_turnOne 25 = .ok (.goto 4, 3) := by decide +kernel
theorem dX1_turnOne_28 : decode cX1_turnOne 28 = .ok (.iconst 2, 1) := by decide +kernel
theorem dX1_turnOne_29 : decode cX1_turnOne 29 = .ok (.iastore, 1) := by decide +kernel
theorem dX1_turnOne_30 : decode cX1_turnOne 30 = .ok (.aload_n 0, 1) := by decide +kernel
theorem dX1_turnOne_31 : decode cX1_turnOne 31 = .ok (.getfield 38, 3) := by decide +kernel
theorem dX1_turnOne_34 : decode cX1_turnOne 34 = .ok (.iload_n 1, 1) := by decide +kernel
theorem dX1_turnOne_35 : decode cX1_turnOne 35 = .ok (.iconst 0, 1) := by decide +kernel
theorem dX1_turnOne_36 : decode cX1_turnOne 36 = .ok (.iastore, 1) := by decide +kernel
theorem dX1_turnOne_37 : decode cX1_turnOne 37 = .ok (.aload_n 0, 1) := by decide +kernel
theorem dX1_turnOne_38 : decode cX1_turnOne 38 = .ok (.iload_n 1, 1) := by decide +kernel
theorem dX1_turnOne_39 : decode cX1_turnOne 39 = .ok (.iload_n 2, 1) := by decide +kernel
theorem dX1_turnOne_40 : decode cX1_turnOne 40 = .ok (.ifCond .eq 7, 3) := by decide +kernel
theorem dX1_turnOne_43 : decode cX1_turnOne 43 = .ok (.iconst 1, 1) := by decide +kernel
theorem dX1_turnOne_44 : decode cX1_turnOne 44 = .ok (.goto 4, 3) := by decide +kernel
theorem dX1_turnOne_47 : decode cX1_turnOne 47 = .ok (.iconst (-1), 1) := by decide +kernel
theorem dX1_turnOne_48 : decode cX1_turnOne 48 = .ok (.invokevirtual 114, 3) := by decide +kernel
theorem dX1_turnOne_51 : decode cX1_turnOne 51 = .ok (.return_, 1) := by decide +kernel
theorem dX1_wouldBegin_0 : decode cX1_wouldBegin 0 = .ok (.aload_n 0, 1) := by decide +kernel
theorem dX1_wouldBegin_1 : decode cX1_wouldBegin 1 = .ok (.getfield 16, 3) := by decide +kernel
theorem dX1_wouldBegin_4 : decode cX1_wouldBegin 4 = .ok (.iload_n 1, 1) := by decide +kernel
theorem dX1_wouldBegin_5 : decode cX1_wouldBegin 5 = .ok (.iaload, 1) := by decide +kernel
theorem dX1_wouldBegin_6 : decode cX1_wouldBegin 6 = .ok (.tableswitch 155 1 6 #[38, 57, 64, 57, 100, 127], 38) := by decide +kernel
theorem dX1_wouldBegin_44 : decode cX1_wouldBegin 44 = .ok (.aload_n 0, 1) := by decide +kernel
theorem dX1_wouldBegin_45 : decode cX1_wouldBegin 45 = .ok (.getfield 51, 3) := by decide +kernel
theorem dX1_wouldBegin_48 : decode cX1_wouldBegin 48 = .ok (.aload_n 0, 1) := by decide +kernel
theorem dX1_wouldBegin_49 : decode cX1_wouldBegin 49 = .ok (.getfield 29, 3) := by decide +kernel
theorem dX1_wouldBegin_52 : decode cX1_wouldBegin 52 = .ok (.iload_n 1, 1) := by decide +kernel
theorem dX1_wouldBegin_53 : decode cX1_wouldBegin 53 = .ok (.iaload, 1) := by decide +kernel
theorem dX1_wouldBegin_54 : decode cX1_wouldBegin 54 = .ok (.if_icmp .lt 7, 3) := by decide +kernel
theorem dX1_wouldBegin_57 : decode cX1_wouldBegin 57 = .ok (.iconst 1, 1) := by decide +kernel
theorem dX1_wouldBegin_58 : decode cX1_wouldBegin 58 = .ok (.goto 4, 3) := by decide +kernel
theorem dX1_wouldBegin_61 : decode cX1_wouldBegin 61 = .ok (.iconst 0, 1) := by decide +kernel
theorem dX1_wouldBegin_62 : decode cX1_wouldBegin 62 = .ok (.ireturn, 1) := by decide +kernel
theorem dX1_wouldBegin_63 : decode cX1_wouldBegin 63 = .ok (.aload_n 0, 1) := by decide +kernel
theorem dX1_wouldBegin_64 : decode cX1_wouldBegin 64 = .ok (.iload_n 1, 1) := by decide +kernel
theorem dX1_wouldBegin_65 : decode cX1_wouldBegin 65 = .ok (.aload_n 2, 1) := by decide +kernel
theorem dX1_wouldBegin_66 : decode cX1_wouldBegin 66 = .ok (.invokevirtual 146, 3) := by decide +kernel
theorem dX1_wouldBegin_69 : decode cX1_wouldBegin 69 = .ok (.ireturn, 1) := by decide +kernel
theorem dX1_wouldBegin_70 : decode cX1_wouldBegin 70 = .ok (.aload_n 0, 1) := by decide +kernel
theorem dX1_wouldBegin_71 : decode cX1_wouldBegin 71 = .ok (.iload_n 1, 1) := by decide +kernel
theorem dX1_wouldBegin_72 : decode cX1_wouldBegin 72 = .ok (.aload_n 2, 1) := by decide +kernel
theorem dX1_wouldBegin_73 : decode cX1_wouldBegin 73 = .ok (.invokevirtual 146, 3) := by decide +kernel
theorem dX1_wouldBegin_76 : decode cX1_wouldBegin 76 = .ok (.ifCond .ne 24, 3) := by decide +kernel
theorem dX1_wouldBegin_79 : decode cX1_wouldBegin 79 = .ok (.aload_n 0, 1) := by decide +kernel
theorem dX1_wouldBegin_80 : decode cX1_wouldBegin 80 = .ok (.getfield 66, 3) := by decide +kernel
theorem dX1_wouldBegin_83 : decode cX1_wouldBegin 83 = .ok (.iload_n 1, 1) := by decide +kernel
theorem dX1_wouldBegin_84 : decode cX1_wouldBegin 84 = .ok (.iaload, 1) := by decide +kernel
theorem dX1_wouldBegin_85 : decode cX1_wouldBegin 85 = .ok (.ifCond .le 19, 3) := by decide +kernel
theorem dX1_wouldBegin_88 : decode cX1_wouldBegin 88 = .ok (.aload_n 0, 1) := by decide +kernel
theorem dX1_wouldBegin_89 : decode cX1_wouldBegin 89 = .ok (.getfield 66, 3) := by decide +kernel
theorem dX1_wouldBegin_92 : decode cX1_wouldBegin 92 = .ok (.iload_n 1, 1) := by decide +kernel
theorem dX1_wouldBegin_93 : decode cX1_wouldBegin 93 = .ok (.iaload, 1) := by decide +kernel
theorem dX1_wouldBegin_94 : decode cX1_wouldBegin 94 = .ok (.aload_n 2, 1) := by decide +kernel
theorem dX1_wouldBegin_95 : decode cX1_wouldBegin 95 = .ok (.iconst 1, 1) := by decide +kernel
theorem dX1_wouldBegin_96 : decode cX1_wouldBegin 96 = .ok (.iaload, 1) := by decide +kernel
theorem dX1_wouldBegin_97 : decode cX1_wouldBegin 97 = .ok (.if_icmp .lt 7, 3) := by decide +kernel
theorem dX1_wouldBegin_100 : decode cX1_wouldBegin 100 = .ok (.iconst 1, 1) := by decide +kernel
theorem dX1_wouldBegin_101 : decode cX1_wouldBegin 101 = .ok (.goto 4, 3) := by decide +kernel
theorem dX1_wouldBegin_104 : decode cX1_wouldBegin 104 = .ok (.iconst 0, 1) := by decide +kernel
theorem dX1_wouldBegin_105 : decode cX1_wouldBegin 105 = .ok (.ireturn, 1) := by decide +kernel
theorem dX1_wouldBegin_106 : decode cX1_wouldBegin 106 = .ok (.aload_n 0, 1) := by decide +kernel
theorem dX1_wouldBegin_107 : decode cX1_wouldBegin 107 = .ok (.iload_n 1, 1) := by decide +kernel
theorem dX1_wouldBegin_108 : decode cX1_wouldBegin 108 = .ok (.aload_n 2, 1) := by decide +kernel
theorem dX1_wouldBegin_109 : decode cX1_wouldBegin 109 = .ok (.invokevirtual 146, 3) := by decide +kernel
theorem dX1_wouldBegin_112 : decode cX1_wouldBegin 112 = .ok (.ifCond .eq 19, 3) := by decide +kernel
theorem dX1_wouldBegin_115 : decode cX1_wouldBegin 115 = .ok (.aload_n 0, 1) := by decide +kernel
theorem dX1_wouldBegin_116 : decode cX1_wouldBegin 116 = .ok (.getfield 23, 3) := by decide +kernel
theorem dX1_wouldBegin_119 : decode cX1_wouldBegin 119 = .ok (.iload_n 1, 1) := by decide +kernel
theorem dX1_wouldBegin_120 : decode cX1_wouldBegin 120 = .ok (.iaload, 1) := by decide +kernel
theorem dX1_wouldBegin_121 : decode cX1_wouldBegin 121 = .ok (.aload_n 2, 1) := by decide +kernel
theorem dX1_wouldBegin_122 : decode cX1_wouldBegin 122 = .ok (.iconst 4, 1) := by decide +kernel
theorem dX1_wouldBegin_123 : decode cX1_wouldBegin 123 = .ok (.iaload, 1) := by decide +kernel
theorem dX1_wouldBegin_124 : decode cX1_wouldBegin 124 = .ok (.if_icmp .lt 7, 3) := by decide +kernel
theorem dX1_wouldBegin_127 : decode cX1_wouldBegin 127 = .ok (.iconst 1, 1) := by decide +kernel
theorem dX1_wouldBegin_128 : decode cX1_wouldBegin 128 = .ok (.goto 4, 3) := by decide +kernel
theorem dX1_wouldBegin_131 : decode cX1_wouldBegin 131 = .ok (.iconst 0, 1) := by decide +kernel
theorem dX1_wouldBegin_132 : decode cX1_wouldBegin 132 = .ok (.ireturn, 1) := by decide +kernel
theorem dX1_wouldBegin_133 : decode cX1_wouldBegin 133 = .ok (.aload_n 0, 1) := by decide +kernel
theorem dX1_wouldBegin_134 : decode cX1_wouldBegin 134 = .ok (.getfield 51, 3) := by decide +kernel
theorem dX1_wouldBegin_137 : decode cX1_wouldBegin 137 = .ok (.aload_n 0, 1) := by decide +kernel
theorem dX1_wouldBegin_138 : decode cX1_wouldBegin 138 = .ok (.getfield 29, 3) := by decide +kernel
theorem dX1_wouldBegin_141 : decode cX1_wouldBegin 141 = .ok (.iload_n 1, 1) := by decide +kernel
theorem dX1_wouldBegin_142 : decode cX1_wouldBegin 142 = .ok (.iaload, 1) := by decide +kernel
theorem dX1_wouldBegin_143 : decode cX1_wouldBegin 143 = .ok (.if_icmp .ge 12, 3) := by decide +kernel
theorem dX1_wouldBegin_146 : decode cX1_wouldBegin 146 = .ok (.aload_n 0, 1) := by decide +kernel
theorem dX1_wouldBegin_147 : decode cX1_wouldBegin 147 = .ok (.getfield 63, 3) := by decide +kernel
theorem dX1_wouldBegin_150 : decode cX1_wouldBegin 150 = .ok (.iload_n 1, 1) := by decide +kernel
theorem dX1_wouldBegin_151 : decode cX1_wouldBegin 151 = .ok (.iaload, 1) := by decide +kernel
theorem dX1_wouldBegin_152 : decode cX1_wouldBegin 152 = .ok (.ifCond .le 7, 3) := by decide +kernel
theorem dX1_wouldBegin_155 : decode cX1_wouldBegin 155 = .ok (.iconst 1, 1) := by decide +kernel
theorem dX1_wouldBegin_156 : decode cX1_wouldBegin 156 = .ok (.goto 4, 3) := by decide +kernel
theorem dX1_wouldBegin_159 : decode cX1_wouldBegin 159 = .ok (.iconst 0, 1) := by decide +kernel
theorem dX1_wouldBegin_160 : decode cX1_wouldBegin 160 = .ok (.ireturn, 1) := by decide +kernel
theorem dX1_wouldBegin_161 : decode cX1_wouldBegin 161 = .ok (.iconst 0, 1) := by decide +kernel
theorem dX1_wouldBegin_162 : decode cX1_wouldBegin 162 = .ok (.ireturn, 1) := by decide +kernel
theorem dX1_isCaught_0 : decode cX1_isCaught 0 = .ok (.aload_n 0, 1) := by decide +kernel
theorem dX1_isCaught_1 : decode cX1_isCaught 1 = .ok (.getfield 63, 3) := by decide +kernel
theorem dX1_isCaught_4 : decode cX1_isCaught 4 = .ok (.iload_n 1, 1) := by decide +kernel
theorem dX1_isCaught_5 : decode cX1_isCaught 5 = .ok (.iaload, 1) := by decide +kernel
theorem dX1_isCaught_6 : decode cX1_isCaught 6 = .ok (.ifCond .le 29, 3) := by decide +kernel
theorem dX1_isCaught_9 : decode cX1_isCaught 9 = .ok (.aload_n 0, 1) := by decide +kernel
theorem dX1_isCaught_10 : decode cX1_isCaught 10 = .ok (.getfield 63, 3) := by decide +kernel
theorem dX1_isCaught_13 : decode cX1_isCaught 13 = .ok (.iload_n 1, 1) := by decide +kernel
theorem dX1_isCaught_14 : decode cX1_isCaught 14 = .ok (.iaload, 1) := by decide +kernel
theorem dX1_isCaught_15 : decode cX1_isCaught 15 = .ok (.aload_n 0, 1) := by decide +kernel
theorem dX1_isCaught_16 : decode cX1_isCaught 16 = .ok (.getfield 23, 3) := by decide +kernel
theorem dX1_isCaught_19 : decode cX1_isCaught 19 = .ok (.iload_n 1, 1) := by decide +kernel
theorem dX1_isCaught_20 : decode cX1_isCaught 20 = .ok (.iaload, 1) := by decide +kernel
theorem dX1_isCaught_21 : decode cX1_isCaught 21 = .ok (.bipush 10, 2) := by decide +kernel
theorem dX1_isCaught_23 : decode cX1_isCaught 23 = .ok (.idiv, 1) := by decide +kernel
theorem dX1_isCaught_24 : decode cX1_isCaught 24 = .ok (.iadd, 1) := by decide +kernel
theorem dX1_isCaught_25 : decode cX1_isCaught 25 = .ok (.aload_n 2, 1) := by decide +kernel
theorem dX1_isCaught_26 : decode cX1_isCaught 26 = .ok (.iconst 0, 1) := by decide +kernel
theorem dX1_isCaught_27 : decode cX1_isCaught 27 = .ok (.iaload, 1) := by decide +kernel
theorem dX1_isCaught_28 : decode cX1_isCaught 28 = .ok (.if_icmp .lt 7, 3) := by decide +kernel
theorem dX1_isCaught_31 : decode cX1_isCaught 31 = .ok (.iconst 1, 1) := by decide +kernel
theorem dX1_isCaught_32 : decode cX1_isCaught 32 = .ok (.goto 4, 3) := by decide +kernel
theorem dX1_isCaught_35 : decode cX1_isCaught 35 = .ok (.iconst 0, 1) := by decide +kernel
theorem dX1_isCaught_36 : decode cX1_isCaught 36 = .ok (.ireturn, 1) := by decide +kernel
theorem dX1_wouldStop_0 : decode cX1_wouldStop 0 = .ok (.aload_n 0, 1) := by decide +kernel
theorem dX1_wouldStop_1 : decode cX1_wouldStop 1 = .ok (.getfield 16, 3) := by decide +kernel
theorem dX1_wouldStop_4 : decode cX1_wouldStop 4 = .ok (.iload_n 1, 1) := by decide +kernel
theorem dX1_wouldStop_5 : decode cX1_wouldStop 5 = .ok (.iaload, 1) := by decide +kernel
theorem dX1_wouldStop_6 : decode cX1_wouldStop 6 = .ok (.iconst 5, 1) := by decide +kernel
theorem dX1_wouldStop_7 : decode cX1_wouldStop 7 = .ok (.if_icmp .ne 19, 3) := by decide +kernel
theorem dX1_wouldStop_10 : decode cX1_wouldStop 10 = .ok (.aload_n 0, 1) := by decide +kernel
theorem dX1_wouldStop_11 : decode cX1_wouldStop 11 = .ok (.bipush 10, 2) := by decide +kernel
theorem dX1_wouldStop_13 : decode cX1_wouldStop 13 = .ok (.invokevirtual 149, 3) := by decide +kernel
theorem dX1_wouldStop_16 : decode cX1_wouldStop 16 = .ok (.aload_n 2, 1) := by decide +kernel
theorem dX1_wouldStop_17 : decode cX1_wouldStop 17 = .ok (.iconst 3, 1) := by decide +kernel
theorem dX1_wouldStop_18 : decode cX1_wouldStop 18 = .ok (.iaload, 1) := by decide +kernel
theorem dX1_wouldStop_19 : decode cX1_wouldStop 19 = .ok (.if_icmp .ge 7, 3) := by decide +kernel
theorem dX1_wouldStop_22 : decode cX1_wouldStop 22 = .ok (.iconst 1, 1) := by decide +kernel
theorem dX1_wouldStop_23 : decode cX1_wouldStop 23 = .ok (.goto 4, 3) := by decide +kernel
theorem dX1_wouldStop_26 : decode cX1_wouldStop 26 = .ok (.iconst 0, 1) := by decide +kernel
theorem dX1_wouldStop_27 : decode cX1_wouldStop 27 = .ok (.istore_n 3, 1) := by decide +kernel
theorem dX1_wouldStop_28 : decode cX1_wouldStop 28 = .ok (.aload_n 0, 1) := by decide +kernel
theorem dX1_wouldStop_29 : decode cX1_wouldStop 29 = .ok (.getfield 38, 3) := by decide +kernel
theorem dX1_wouldStop_32 : decode cX1_wouldStop 32 = .ok (.iload_n 1, 1) := by decide +kernel
theorem dX1_wouldStop_33 : decode cX1_wouldStop 33 = .ok (.iaload, 1) := by decide +kernel
theorem dX1_wouldStop_34 : decode cX1_wouldStop 34 = .ok (.aload_n 0, 1) := by decide +kernel
theorem dX1_wouldStop_35 : decode cX1_wouldStop 35 = .ok (.getfield 23, 3) := by decide +kernel
theorem dX1_wouldStop_38 : decode cX1_wouldStop 38 = .ok (.iload_n 1, 1) := by decide +kernel
theorem dX1_wouldStop_39 : decode cX1_wouldStop 39 = .ok (.iaload, 1) := by decide +kernel
theorem dX1_wouldStop_40 : decode cX1_wouldStop 40 = .ok (.if_icmp .le 7, 3) := by decide +kernel
theorem dX1_wouldStop_43 : decode cX1_wouldStop 43 = .ok (.iconst 1, 1) := by decide +kernel
theorem dX1_wouldStop_44 : decode cX1_wouldStop 44 = .ok (.goto 4, 3) := by decide +kernel
theorem dX1_wouldStop_47 : decode cX1_wouldStop 47 = .ok (.iconst 0, 1) := by decide +kernel
theorem dX1_wouldStop_48 : decode cX1_wouldStop 48 = .ok (.istore 4, 2) := by decide +kernel
theorem dX1_wouldStop_50 : decode cX1_wouldStop 50 = .ok (.iload 4, 2) := by decide +kernel
theorem dX1_wouldStop_52 : decode cX1_wouldStop 52 = .ok (.ifCond .ne 15, 3) := by decide +kernel
theorem dX1_wouldStop_55 : decode cX1_wouldStop 55 = .ok (.aload_n 0, 1) := by decide +kernel
theorem dX1_wouldStop_56 : decode cX1_wouldStop 56 = .ok (.getfield 63, 3) := by decide +kernel
theorem dX1_wouldStop_59 : decode cX1_wouldStop 59 = .ok (.iload_n 1, 1) := by decide +kernel
theorem dX1_wouldStop_60 : decode cX1_wouldStop 60 = .ok (.iaload, 1) := by decide +kernel
theorem dX1_wouldStop_61 : decode cX1_wouldStop 61 = .ok (.aload_n 2, 1) := by decide +kernel
theorem dX1_wouldStop_62 : decode cX1_wouldStop 62 = .ok (.iconst 2, 1) := by decide +kernel
theorem dX1_wouldStop_63 : decode cX1_wouldStop 63 = .ok (.iaload, 1) := by decide +kernel
theorem dX1_wouldStop_64 : decode cX1_wouldStop 64 = .ok (.if_icmp .ge 7, 3) := by decide +kernel
theorem dX1_wouldStop_67 : decode cX1_wouldStop 67 = .ok (.iconst 1, 1) := by decide +kernel
theorem dX1_wouldStop_68 : decode cX1_wouldStop 68 = .ok (.goto 4, 3) := by decide +kernel
theorem dX1_wouldStop_71 : decode cX1_wouldStop 71 = .ok (.iconst 0, 1) := by decide +kernel
theorem dX1_wouldStop_72 : decode cX1_wouldStop 72 = .ok (.istore 5, 2) := by decide +kernel
theorem dX1_wouldStop_74 : decode cX1_wouldStop 74 = .ok (.aload_n 0, 1) := by decide +kernel
theorem dX1_wouldStop_75 : decode cX1_wouldStop 75 = .ok (.getfield 16, 3) := by decide +kernel
theorem dX1_wouldStop_78 : decode cX1_wouldStop 78 = .ok (.iload_n 1, 1) := by decide +kernel
theorem dX1_wouldStop_79 : decode cX1_wouldStop 79 = .ok (.iaload, 1) := by decide +kernel
theorem dX1_wouldStop_80 : decode cX1_wouldStop 80 = .ok (.tableswitch 129 1 6 #[40, 70, 73, 70, 96, 111], 40) := by decide +kernel
theorem dX1_wouldStop_120 : decode cX1_wouldStop 120 = .ok (.iload 4, 2) := by decide +kernel
theorem dX1_wouldStop_122 : decode cX1_wouldStop 122 = .ok (.ifCond .ne 22, 3) := by decide +kernel
theorem dX1_wouldStop_125 : decode cX1_wouldStop 125 = .ok (.aload_n 0, 1) := by decide +kernel
theorem dX1_wouldStop_126 : decode cX1_wouldStop 126 = .ok (.getfield 63, 3) := by decide +kernel
theorem dX1_wouldStop_129 : decode cX1_wouldStop 129 = .ok (.iload_n 1, 1) := by decide +kernel
theorem dX1_wouldStop_130 : decode cX1_wouldStop 130 = .ok (.iaload, 1) := by decide +kernel
theorem dX1_wouldStop_131 : decode cX1_wouldStop 131 = .ok (.ifCond .ne 17, 3) := by decide +kernel
theorem dX1_wouldStop_134 : decode cX1_wouldStop 134 = .ok (.aload_n 0, 1) := by decide +kernel
theorem dX1_wouldStop_135 : decode cX1_wouldStop 135 = .ok (.getfield 38, 3) := by decide +kernel
theorem dX1_wouldStop_138 : decode cX1_wouldStop 138 = .ok (.iload_n 1, 1) := by decide +kernel
theorem dX1_wouldStop_139 : decode cX1_wouldStop 139 = .ok (.iaload, 1) := by decide +kernel
theorem dX1_wouldStop_140 : decode cX1_wouldStop 140 = .ok (.iconst 5, 1) := by decide +kernel
theorem dX1_wouldStop_141 : decode cX1_wouldStop 141 = .ok (.if_icmp .lt 7, 3) := by decide +kernel
theorem dX1_wouldStop_144 : decode cX1_wouldStop 144 = .ok (.iconst 1, 1) := by decide +kernel
theorem dX1_wouldStop_145 : decode cX1_wouldStop 145 = .ok (.goto 4, 3) := by decide +kernel
theorem dX1_wouldStop_148 : decode cX1_wouldStop 148 = .ok (.iconst 0, 1) := by decide +kernel
theorem dX1_wouldStop_149 : decode cX1_wouldStop 149 = .ok (.ireturn, 1) := by decide +kernel
theorem dX1_wouldStop_150 : decode cX1_wouldStop 150 = .ok (.iload 5, 2) := by decide +kernel
theorem dX1_wouldStop_152 : decode cX1_wouldStop 152 = .ok (.ireturn, 1) := by decide +kernel
theorem dX1_wouldStop_153 : decode cX1_wouldStop 153 = .ok (.iload 5, 2) := by decide +kernel
theorem dX1_wouldStop_155 : decode cX1_wouldStop 155 = .ok (.ifCond .eq 19, 3) := by decide +kernel
theorem dX1_wouldStop_158 : decode cX1_wouldStop 158 = .ok (.aload_n 0, 1) := by decide +kernel
theorem dX1_wouldStop_159 : decode cX1_wouldStop 159 = .ok (.getfield 66, 3) := by decide +kernel
theorem dX1_wouldStop_162 : decode cX1_wouldStop 162 = .ok (.iload_n 1, 1) := by decide +kernel
theorem dX1_wouldStop_163 : decode cX1_wouldStop 163 = .ok (.iaload, 1) := by decide +kernel
theorem dX1_wouldStop_164 : decode cX1_wouldStop 164 = .ok (.aload_n 2, 1) := by decide +kernel
theorem dX1_wouldStop_165 : decode cX1_wouldStop 165 = .ok (.iconst 1, 1) := by decide +kernel
theorem dX1_wouldStop_166 : decode cX1_wouldStop 166 = .ok (.iaload, 1) := by decide +kernel
theorem dX1_wouldStop_167 : decode cX1_wouldStop 167 = .ok (.if_icmp .ge 7, 3) := by decide +kernel
theorem dX1_wouldStop_170 : decode cX1_wouldStop 170 = .ok (.iconst 1, 1) := by decide +kernel
theorem dX1_wouldStop_171 : decode cX1_wouldStop 171 = .ok (.goto 4, 3) := by decide +kernel
theorem dX1_wouldStop_174 : decode cX1_wouldStop 174 = .ok (.iconst 0, 1) := by decide +kernel
theorem dX1_wouldStop_175 : decode cX1_wouldStop 175 = .ok (.ireturn, 1) := by decide +kernel
theorem dX1_wouldStop_176 : decode cX1_wouldStop 176 = .ok (.iload 5, 2) := by decide +kernel
theorem dX1_wouldStop_178 : decode cX1_wouldStop 178 = .ok (.ifCond .ne 7, 3) := by decide +kernel
theorem dX1_wouldStop_181 : decode cX1_wouldStop 181 = .ok (.iload_n 3, 1) := by decide +kernel
theorem dX1_wouldStop_182 : decode cX1_wouldStop 182 = .ok (.ifCond .eq 7, 3) := by decide +kernel
theorem dX1_wouldStop_185 : decode cX1_wouldStop 185 = .ok (.iconst 1, 1) := by decide +kernel
theorem dX1_wouldStop_186 : decode cX1_wouldStop 186 = .ok (.goto 4, 3) := by decide +kernel
theorem dX1_wouldStop_189 : decode cX1_wouldStop 189 = .ok (.iconst 0, 1) := by decide +kernel
theorem dX1_wouldStop_190 : decode cX1_wouldStop 190 = .ok (.ireturn, 1) := by decide +kernel
theorem dX1_wouldStop_191 : decode cX1_wouldStop 191 = .ok (.aload_n 0, 1) := by decide +kernel
theorem dX1_wouldStop_192 : decode cX1_wouldStop 192 = .ok (.getfield 38, 3) := by decide +kernel
theorem dX1_wouldStop_195 : decode cX1_wouldStop 195 = .ok (.iload_n 1, 1) := by decide +kernel
theorem dX1_wouldStop_196 : decode cX1_wouldStop 196 = .ok (.iaload, 1) := by decide +kernel
theorem dX1_wouldStop_197 : decode cX1_wouldStop 197 = .ok (.aload_n 2, 1) := by decide +kernel
theorem dX1_wouldStop_198 : decode cX1_wouldStop 198 = .ok (.iconst 4, 1) := by decide +kernel
theorem dX1_wouldStop_199 : decode cX1_wouldStop 199 = .ok (.iaload, 1) := by decide +kernel
theorem dX1_wouldStop_200 : decode cX1_wouldStop 200 = .ok (.if_icmp .lt 7, 3) := by decide +kernel
theorem dX1_wouldStop_203 : decode cX1_wouldStop 203 = .ok (.iconst 1, 1) := by decide +kernel
theorem dX1_wouldStop_204 : decode cX1_wouldStop 204 = .ok (.goto 4, 3) := by decide +kernel
theorem dX1_wouldStop_207 : decode cX1_wouldStop 207 = .ok (.iconst 0, 1) := by decide +kernel
theorem dX1_wouldStop_208 : decode cX1_wouldStop 208 = .ok (.ireturn, 1) := by decide +kernel
theorem dX1_wouldStop_209 : decode cX1_wouldStop 209 = .ok (.iload 4, 2) := by decide +kernel
theorem dX1_wouldStop_211 : decode cX1_wouldStop 211 = .ok (.ireturn, 1) := by decide +kernel
theorem dX1_draw_0 : decode cX1_draw 0 = .ok (.aload_n 0, 1) := by decide +kernel
theorem dX1_draw_1 : decode cX1_draw 1 = .ok (.aload_n 0, 1) := by decide +kernel
theorem dX1_draw_2 : decode cX1_draw 2 = .ok (.getfield 54, 3) := by decide +kernel
theorem dX1_draw_5 : decode cX1_draw 5 = .ok (.ldc 152, 2) := by decide +kernel
theorem dX1_draw_7 : decode cX1_draw 7 = .ok (.imul, 1) := by decide +kernel
theorem dX1_draw_8 : decode cX1_draw 8 = .ok (.sipush 12345, 3) := by decide +kernel
theorem dX1_draw_11 : decode cX1_draw 11 = .ok (.iadd, 1) := by decide +kernel
theorem dX1_draw_12 : decode cX1_draw 12 = .ok (.putfield 54, 3) := by decide +kernel
theorem dX1_draw_15 : decode cX1_draw 15 = .ok (.aload_n 0, 1) := by decide +kernel
theorem dX1_draw_16 : decode cX1_draw 16 = .ok (.getfield 54, 3) := by decide +kernel
theorem dX1_draw_19 : decode cX1_draw 19 = .ok (.bipush 16, 2) := by decide +kernel
theorem dX1_draw_21 : decode cX1_draw 21 = .ok (.iushr, 1) := by decide +kernel
theorem dX1_draw_22 : decode cX1_draw 22 = .ok (.iload_n 1, 1) := by decide +kernel
theorem dX1_draw_23 : decode cX1_draw 23 = .ok (.invokestatic 153, 3) := by decide +kernel
theorem dX1_draw_26 : decode cX1_draw 26 = .ok (.ireturn, 1) := by decide +kernel
theorem dX1_beat_0 : decode cX1_beat 0 = .ok (.iconst 0, 1) := by decide +kernel
theorem dX1_beat_1 : decode cX1_beat 1 = .ok (.istore_n 2, 1) := by decide +kernel
theorem dX1_beat_2 : decode cX1_beat 2 = .ok (.iconst 0, 1) := by decide +kernel
theorem dX1_beat_3 : decode cX1_beat 3 = .ok (.istore_n 3, 1) := by decide +kernel
theorem dX1_beat_4 : decode cX1_beat 4 = .ok (.iload_n 3, 1) := by decide +kernel
theorem dX1_beat_5 : decode cX1_beat 5 = .ok (.aload_n 0, 1) := by decide +kernel
theorem dX1_beat_6 : decode cX1_beat 6 = .ok (.getfield 47, 3) := by decide +kernel
theorem dX1_beat_9 : decode cX1_beat 9 = .ok (.if_icmp .ge 48, 3) := by decide +kernel
theorem dX1_beat_12 : decode cX1_beat 12 = .ok (.aload_n 0, 1) := by decide +kernel
theorem dX1_beat_13 : decode cX1_beat 13 = .ok (.getfield 35, 3) := by decide +kernel
theorem dX1_beat_16 : decode cX1_beat 16 = .ok (.iload_n 3, 1) := by decide +kernel
theorem dX1_beat_17 : decode cX1_beat 17 = .ok (.iaload, 1) := by decide +kernel
theorem dX1_beat_18 : decode cX1_beat 18 = .ok (.iconst 1, 1) := by decide +kernel
theorem dX1_beat_19 : decode cX1_beat 19 = .ok (.if_icmp .ne 32, 3) := by decide +kernel
theorem dX1_beat_22 : decode cX1_beat 22 = .ok (.aload_n 0, 1) := by decide +kernel
theorem dX1_beat_23 : decode cX1_beat 23 = .ok (.getfield 51, 3) := by decide +kernel
theorem dX1_beat_26 : decode cX1_beat 26 = .ok (.aload_n 0, 1) := by decide +kernel
theorem dX1_beat_27 : decode cX1_beat 27 = .ok (.getfield 32, 3) := by decide +kernel
theorem dX1_beat_30 : decode cX1_beat 30 = .ok (.iload_n 3, 1) := by decide +kernel
theorem dX1_beat_31 : decode cX1_beat 31 = .ok (.iaload, 1) := by decide +kernel
theorem dX1_beat_32 : decode cX1_beat 32 = .ok (.iadd, 1) := by decide +kernel
theorem dX1_beat_33 : decode cX1_beat 33 = .ok (.aload_n 0, 1) := by decide +kernel
theorem dX1_beat_34 : decode cX1_beat 34 = .ok (.getfield 26, 3) := by decide +kernel
theorem dX1_beat_37 : decode cX1_beat 37 = .ok (.iload_n 3, 1) := by decide +kernel
theorem dX1_beat_38 : decode cX1_beat 38 = .ok (.iaload, 1) := by decide +kernel
theorem dX1_beat_39 : decode cX1_beat 39 = .ok (.invokestatic 153, 3) := by decide +kernel
theorem dX1_beat_42 : decode cX1_beat 42 = .ok (.ifCond .ne 9, 3) := by decide +kernel
theorem dX1_beat_45 : decode cX1_beat 45 = .ok (.iload_n 2, 1) := by decide +kernel
theorem dX1_beat_46 : decode cX1_beat 46 = .ok (.iconst 1, 1) := by decide +kernel
theorem dX1_beat_47 : decode cX1_beat 47 = .ok (.iload_n 3, 1) := by decide +kernel
theorem dX1_beat_48 : decode cX1_beat 48 = .ok (.ishl, 1) := by decide +kernel
theorem dX1_beat_49 : decode cX1_beat 49 = .ok (.ior, 1) := by decide +kernel
theorem dX1_beat_50 : decode cX1_beat 50 = .ok (.istore_n 2, 1) := by decide +kernel
theorem dX1_beat_51 : decode cX1_beat 51 = .ok (.iinc 3 1, 3) := by decide +kernel
theorem dX1_beat_54 : decode cX1_beat 54 = .ok (.goto (-50), 3) := by decide +kernel
theorem dX1_beat_57 : decode cX1_beat 57 = .ok (.aload_n 0, 1) := by decide +kernel
theorem dX1_beat_58 : decode cX1_beat 58 = .ok (.iload_n 2, 1) := by decide +kernel
theorem dX1_beat_59 : decode cX1_beat 59 = .ok (.putfield 57, 3) := by decide +kernel
theorem dX1_beat_62 : decode cX1_beat 62 = .ok (.aload_n 0, 1) := by decide +kernel
theorem dX1_beat_63 : decode cX1_beat 63 = .ok (.iload_n 1, 1) := by decide +kernel
theorem dX1_beat_64 : decode cX1_beat 64 = .ok (.invokestatic 156, 3) := by decide +kernel
theorem dX1_beat_67 : decode cX1_beat 67 = .ok (.putfield 60, 3) := by decide +kernel
theorem dX1_beat_70 : decode cX1_beat 70 = .ok (.iconst 2, 1) := by decide +kernel
theorem dX1_beat_71 : decode cX1_beat 71 = .ok (.iload_n 2, 1) := by decide +kernel
theorem dX1_beat_72 : decode cX1_beat 72 = .ok (.invokestatic 156, 3) := by decide +kernel
theorem dX1_beat_75 : decode cX1_beat 75 = .ok (.imul, 1) := by decide +kernel
theorem dX1_beat_76 : decode cX1_beat 76 = .ok (.aload_n 0, 1) := by decide +kernel
theorem dX1_beat_77 : decode cX1_beat 77 = .ok (.getfield 60, 3) := by decide +kernel
theorem dX1_beat_80 : decode cX1_beat 80 = .ok (.if_icmp .gt 4, 3) := by decide +kernel
theorem dX1_beat_83 : decode cX1_beat 83 = .ok (.return_, 1) := by decide +kernel
theorem dX1_beat_84 : decode cX1_beat 84 = .ok (.iconst 0, 1) := by decide +kernel
theorem dX1_beat_85 : decode cX1_beat 85 = .ok (.istore_n 3, 1) := by decide +kernel
theorem dX1_beat_86 : decode cX1_beat 86 = .ok (.iload_n 3, 1) := by decide +kernel
theorem dX1_beat_87 : decode cX1_beat 87 = .ok (.aload_n 0, 1) := by decide +kernel
theorem dX1_beat_88 : decode cX1_beat 88 = .ok (.getfield 47, 3) := by decide +kernel
theorem dX1_beat_91 : decode cX1_beat 91 = .ok (.if_icmp .ge 72, 3) := by decide +kernel
theorem dX1_beat_94 : decode cX1_beat 94 = .ok (.aload_n 0, 1) := by decide +kernel
theorem dX1_beat_95 : decode cX1_beat 95 = .ok (.getfield 35, 3) := by decide +kernel
theorem dX1_beat_98 : decode cX1_beat 98 = .ok (.iload_n 3, 1) := by decide +kernel
theorem dX1_beat_99 : decode cX1_beat 99 = .ok (.iaload, 1) := by decide +kernel
theorem dX1_beat_100 : decode cX1_beat 100 = .ok (.iconst 1, 1) := by decide +kernel
theorem dX1_beat_101 : decode cX1_beat 101 = .ok (.if_icmp .ne 15, 3) := by decide +kernel
theorem dX1_beat_104 : decode cX1_beat 104 = .ok (.iload_n 2, 1) := by decide +kernel
theorem dX1_beat_105 : decode cX1_beat 105 = .ok (.iload_n 3, 1) := by decide +kernel
theorem dX1_beat_106 : decode cX1_beat 106 = .ok (.ishr, 1) := by decide +kernel
theorem dX1_beat_107 : decode cX1_beat 107 = .ok (.iconst 1, 1) := by decide +kernel
theorem dX1_beat_108 : decode cX1_beat 108 = .ok (.iand, 1) := by decide +kernel
theorem dX1_beat_109 : decode cX1_beat 109 = .ok (.ifCond .ne 7, 3) := by decide +kernel
theorem dX1_beat_112 : decode cX1_beat 112 = .ok (.iconst 1, 1) := by decide +kernel
theorem dX1_beat_113 : decode cX1_beat 113 = .ok (.goto 4, 3) := by decide +kernel
theorem dX1_beat_116 : decode cX1_beat 116 = .ok (.iconst 0, 1) := by decide +kernel
theorem dX1_beat_117 : decode cX1_beat 117 = .ok (.istore 4, 2) := by decide +kernel
theorem dX1_beat_119 : decode cX1_beat 119 = .ok (.iload 4, 2) := by decide +kernel
theorem dX1_beat_121 : decode cX1_beat 121 = .ok (.ifCond .eq 36, 3) := by decide +kernel
theorem dX1_beat_124 : decode cX1_beat 124 = .ok (.aload_n 0, 1) := by decide +kernel
theorem dX1_beat_125 : decode cX1_beat 125 = .ok (.getfield 16, 3) := by decide +kernel
theorem dX1_beat_128 : decode cX1_beat 128 = .ok (.iload_n 3, 1) := by decide +kernel
theorem dX1_beat_129 : decode cX1_beat 129 = .ok (.iaload, 1) := by decide +kernel
theorem dX1_beat_130 : decode cX1_beat 130 = .ok (.iconst 4, 1) := by decide +kernel
theorem dX1_beat_131 : decode cX1_beat 131 = .ok (.if_icmp .ne 26, 3) := by decide +kernel
theorem dX1_beat_134 : decode cX1_beat 134 = .ok (.aload_n 0, 1) := by decide +kernel
theorem dX1_beat_135 : decode cX1_beat 135 = .ok (.getfield 32, 3) := by decide +kernel
theorem dX1_beat_138 : decode cX1_beat 138 = .ok (.iload_n 3, 1) := by decide +kernel
theorem dX1_beat_139 : decode cX1_beat 139 = .ok (.aload_n 0, 1) := by decide +kernel
theorem dX1_beat_140 : decode cX1_beat 140 = .ok (.getfield 32, 3) := by decide +kernel
theorem dX1_beat_143 : decode cX1_beat 143 = .ok (.iload_n 3, 1) := by decide +kernel
theorem dX1_beat_144 : decode cX1_beat 144 = .ok (.iaload, 1) := by decide +kernel
theorem dX1_beat_145 : decode cX1_beat 145 = .ok (.iconst 1, 1) := by decide +kernel
theorem dX1_beat_146 : decode cX1_beat 146 = .ok (.iadd, 1) := by decide +kernel
theorem dX1_beat_147 : decode cX1_beat 147 = .ok (.aload_n 0, 1) := by decide +kernel
theorem dX1_beat_148 : decode cX1_beat 148 = .ok (.getfield 26, 3) := by decide +kernel
theorem dX1_beat_151 : decode cX1_beat 151 = .ok (.iload_n 3, 1) := by decide +kernel
theorem dX1_beat_152 : decode cX1_beat 152 = .ok (.iaload, 1) := by decide +kernel
theorem dX1_beat_153 : decode cX1_beat 153 = .ok (.invokestatic 153, 3) := by decide +kernel
theorem dX1_beat_156 : decode cX1_beat 156 = .ok (.iastore, 1) := by decide +kernel
theorem dX1_beat_157 : decode cX1_beat 157 = .ok (.iinc 3 1, 3) := by decide +kernel
theorem dX1_beat_160 : decode cX1_beat 160 = .ok (.goto (-74), 3) := by decide +kernel
theorem dX1_beat_163 : decode cX1_beat 163 = .ok (.return_, 1) := by decide +kernel
theorem dX1_rise_0 : decode cX1_rise 0 = .ok (.lconst 0, 1) := by decide +kernel
theorem dX1_rise_1 : decode cX1_rise 1 = .ok (.lstore_n 2, 1) := by decide +kernel
theorem dX1_rise_2 : decode cX1_rise 2 = .ok (.iconst 0, 1) := by decide +kernel
theorem dX1_rise_3 : decode cX1_rise 3 = .ok (.istore 4, 2) := by decide +kernel
theorem dX1_rise_5 : decode cX1_rise 5 = .ok (.iload 4, 2) := by decide +kernel
theorem dX1_rise_7 : decode cX1_rise 7 = .ok (.aload_n 0, 1) := by decide +kernel
theorem dX1_rise_8 : decode cX1_rise 8 = .ok (.getfield 47, 3) := by decide +kernel
theorem dX1_rise_11 : decode cX1_rise 11 = .ok (.if_icmp .ge 32, 3) := by decide +kernel
theorem dX1_rise_14 : decode cX1_rise 14 = .ok (.aload_n 0, 1) := by decide +kernel
theorem dX1_rise_15 : decode cX1_rise 15 = .ok (.getfield 41, 3) := by decide +kernel
theorem dX1_rise_18 : decode cX1_rise 18 = .ok (.iload 4, 2) := by decide +kernel
theorem dX1_rise_20 : decode cX1_rise 20 = .ok (.iaload, 1) := by decide +kernel
theorem dX1_rise_21 : decode cX1_rise 21 = .ok (.iconst 1, 1) := by decide +kernel
theorem dX1_rise_22 : decode cX1_rise 22 = .ok (.if_icmp .ne 15, 3) := by decide +kernel
theorem dX1_rise_25 : decode cX1_rise 25 = .ok (.lload_n 2, 1) := by decide +kernel
theorem dX1_rise_26 : decode cX1_rise 26 = .ok (.lconst 1, 1) := by decide +kernel
theorem dX1_rise_27 : decode cX1_rise 27 = .ok (.aload_n 0, 1) := by decide +kernel
theorem dX1_rise_28 : decode cX1_rise 28 = .ok (.getfield 20, 3) := by decide +kernel
theorem dX1_rise_31 : decode cX1_rise 31 = .ok (.iload 4, 2) := by decide +kernel
theorem dX1_rise_33 : decode cX1_rise 33 = .ok (.iaload, 1) := by decide +kernel
theorem dX1_rise_34 : decode cX1_rise 34 = .ok (.lshl, 1) := by decide +kernel
theorem dX1_rise_35 : decode cX1_rise 35 = .ok (.lor, 1) := by decide +kernel
theorem dX1_rise_36 : decode cX1_rise 36 = .ok (.lstore_n 2, 1) := by decide +kernel
theorem dX1_rise_37 : decode cX1_rise 37 = .ok (.iinc 4 1, 3) := by decide +kernel
theorem dX1_rise_40 : decode cX1_rise 40 = .ok (.goto (-35), 3) := by decide +kernel
theorem dX1_rise_43 : decode cX1_rise 43 = .ok (.iconst 1, 1) := by decide +kernel
theorem dX1_rise_44 : decode cX1_rise 44 = .ok (.aload_n 1, 1) := by decide +kernel
theorem dX1_rise_45 : decode cX1_rise 45 = .ok (.iconst 5, 1) := by decide +kernel
theorem dX1_rise_46 : decode cX1_rise 46 = .ok (.iaload, 1) := by decide +kernel
theorem dX1_rise_47 : decode cX1_rise 47 = .ok (.invokestatic 161, 3) := by decide +kernel
theorem dX1_rise_50 : decode cX1_rise 50 = .ok (.istore 4, 2) := by decide +kernel
theorem dX1_rise_52 : decode cX1_rise 52 = .ok (.iconst 0, 1) := by decide +kernel
theorem dX1_rise_53 : decode cX1_rise 53 = .ok (.istore 5, 2) := by decide +kernel
theorem dX1_rise_55 : decode cX1_rise 55 = .ok (.iload 5, 2) := by decide +kernel
theorem dX1_rise_57 : decode cX1_rise 57 = .ok (.aload_n 0, 1) := by decide +kernel
theorem dX1_rise_58 : decode cX1_rise 58 = .ok (.getfield 47, 3) := by decide +kernel
theorem dX1_rise_61 : decode cX1_rise 61 = .ok (.if_icmp .ge 70, 3) := by decide +kernel
theorem dX1_rise_64 : decode cX1_rise 64 = .ok (.aload_n 0, 1) := by decide +kernel
theorem dX1_rise_65 : decode cX1_rise 65 = .ok (.getfield 35, 3) := by decide +kernel
theorem dX1_rise_68 : decode cX1_rise 68 = .ok (.iload 5, 2) := by decide +kernel
theorem dX1_rise_70 : decode cX1_rise 70 = .ok (.iaload, 1) := by decide +kernel
theorem dX1_rise_71 : decode cX1_rise 71 = .ok (.iconst 1, 1) := by decide +kernel
theorem dX1_rise_72 : decode cX1_rise 72 = .ok (.if_icmp .ne 21, 3) := by decide +kernel
theorem dX1_rise_75 : decode cX1_rise 75 = .ok (.aload_n 0, 1) := by decide +kernel
theorem dX1_rise_76 : decode cX1_rise 76 = .ok (.getfield 23, 3) := by decide +kernel
theorem dX1_rise_79 : decode cX1_rise 79 = .ok (.iload 5, 2) := by decide +kernel
theorem dX1_rise_81 : decode cX1_rise 81 = .ok (.iaload, 1) := by decide +kernel
theorem dX1_rise_82 : decode cX1_rise 82 = .ok (.aload_n 1, 1) := by decide +kernel
theorem dX1_rise_83 : decode cX1_rise 83 = .ok (.bipush 6, 2) := by decide +kernel
theorem dX1_rise_85 : decode cX1_rise 85 = .ok (.iaload, 1) := by decide +kernel
theorem dX1_rise_86 : decode cX1_rise 86 = .ok (.if_icmp .lt 7, 3) := by decide +kernel
theorem dX1_rise_89 : decode cX1_rise 89 = .ok (.iconst 1, 1) := by decide +kernel
theorem dX1_rise_90 : decode cX1_rise 90 = .ok (.goto 4, 3) := by decide +kernel
theorem dX1_rise_93 : decode cX1_rise 93 = .ok (.iconst 0, 1) := by decide +kernel
theorem dX1_rise_94 : decode cX1_rise 94 = .ok (.istore 6, 2) := by decide +kernel
theorem dX1_rise_96 : decode cX1_rise 96 = .ok (.iload 6, 2) := by decide +kernel
theorem dX1_rise_98 : decode cX1_rise 98 = .ok (.ifCond .ne 19, 3) := by decide +kernel
theorem dX1_rise_101 : decode cX1_rise 101 = .ok (.aload_n 0, 1) := by decide +kernel
theorem dX1_rise_102 : decode cX1_rise 102 = .ok (.getfield 20, 3) := by decide +kernel
theorem dX1_rise_105 : decode cX1_rise 105 = .ok (.iload 5, 2) := by decide +kernel
theorem dX1_rise_107 : decode cX1_rise 107 = .ok (.iaload, 1) := by decide +kernel
theorem dX1_rise_108 : decode cX1_rise 108 = .ok (.lload_n 2, 1) := by decide +kernel
theorem dX1_rise_109 : decode cX1_rise 109 = .ok (.invokestatic 166, 3) := by decide +kernel
theorem dX1_rise_112 : decode cX1_rise 112 = .ok (.iload 4, 2) := by decide +kernel
theorem dX1_rise_114 : decode cX1_rise 114 = .ok (.if_icmp .lt 11, 3) := by decide +kernel
theorem dX1_rise_117 : decode cX1_rise 117 = .ok (.aload_n 0, 1) := by decide +kernel
theorem dX1_rise_118 : decode cX1_rise 118 = .ok (.getfield 41, 3) := by decide +kernel
theorem dX1_rise_121 : decode cX1_rise 121 = .ok (.iload 5, 2) := by decide +kernel
theorem dX1_rise_123 : decode cX1_rise 123 = .ok (.iconst 1, 1) := by decide +kernel
theorem dX1_rise_124 : decode cX1_rise 124 = .ok (.iastore, 1) := by decide +kernel
theorem dX1_rise_125 : decode cX1_rise 125 = .ok (.iinc 5 1, 3) := by decide +kernel
theorem dX1_rise_128 : decode cX1_rise 128 = .ok (.goto (-73), 3) := by decide +kernel
theorem dX1_rise_131 : decode cX1_rise 131 = .ok (.return_, 1) := by decide +kernel
theorem dX1_countBefore_0 : decode cX1_countBefore 0 = .ok (.iload_n 0, 1) := by decide +kernel
theorem dX1_countBefore_1 : decode cX1_countBefore 1 = .ok (.bipush 8, 2) := by decide +kernel
theorem dX1_countBefore_3 : decode cX1_countBefore 3 = .ok (.if_icmp .ge 5, 3) := by decide +kernel
theorem dX1_countBefore_6 : decode cX1_countBefore 6 = .ok (.iconst 0, 1) := by decide +kernel
theorem dX1_countBefore_7 : decode cX1_countBefore 7 = .ok (.ireturn, 1) := by decide +kernel
theorem dX1_countBefore_8 : decode cX1_countBefore 8 = .ok (.iconst 0, 1) := by decide +kernel
theorem dX1_countBefore_9 : decode cX1_countBefore 9 = .ok (.istore_n 3, 1) := by decide +kernel
theorem dX1_countBefore_10 : decode cX1_countBefore 10 = .ok (.iconst (-1), 1) := by decide +kernel
theorem dX1_countBefore_11 : decode cX1_countBefore 11 = .ok (.istore 4, 2) := by decide +kernel
theorem dX1_countBefore_13 : decode cX1_countBefore 13 = .ok (.iload 4, 2) := by decide +kernel
theorem dX1_countBefore_15 : decode cX1_countBefore 15 = .ok (.iconst 1, 1) := by decide +kernel
theorem dX1_countBefore_16 : decode cX1_countBefore 16 = .ok (.if_icmp .gt 61, 3) := by decide +kernel
theorem dX1_countBefore_19 : decode cX1_countBefore 19 = .ok (.iload_n 0, 1) := by decide +kernel
theorem dX1_countBefore_20 : decode cX1_countBefore 20 = .ok (.bipush 8, 2) := by decide +kernel
theorem dX1_countBefore_22 : decode cX1_countBefore 22 = .ok (.irem, 1) := by decide +kernel
theorem dX1_countBefore_23 : decode cX1_countBefore 23 = .ok (.iload 4, 2) := by decide +kernel
theorem dX1_countBefore_25 : decode cX1_countBefore 25 = .ok (.iadd, 1) := by decide +kernel
theorem dX1_countBefore_26 : decode cX1_countBefore 26 = .ok (.istore 5, 2) := by decide +kernel
theorem dX1_countBefore_28 : decode cX1_countBefore 28 = .ok (.iload 5, 2) := by decide +kernel
theorem dX1_countBefore_30 : decode cX1_countBefore 30 = .ok (.ifCond .lt 14, 3) := by decide +kernel
theorem dX1_countBefore_33 : decode cX1_countBefore 33 = .ok (.iload 5, 2) := by decide +kernel
theorem dX1_countBefore_35 : decode cX1_countBefore 35 = .ok (.bipush 8, 2) := by decide +kernel
theorem dX1_countBefore_37 : decode cX1_countBefore 37 = .ok (.if_icmp .ge 7, 3) := by decide +kernel
theorem dX1_countBefore_40 : decode cX1_countBefore 40 = .ok (.iconst 1, 1) := by decide +kernel
theorem dX1_countBefore_41 : decode cX1_countBefore 41 = .ok (.goto 4, 3) := by decide +kernel
theorem dX1_countBefore_44 : decode cX1_countBefore 44 = .ok (.iconst 0, 1) := by decide +kernel
theorem dX1_countBefore_45 : decode cX1_countBefore 45 = .ok (.istore 6, 2) := by decide +kernel
theorem dX1_countBefore_47 : decode cX1_countBefore 47 = .ok (.iload 6, 2) := by decide +kernel
theorem dX1_countBefore_49 : decode cX1_countBefore 49 = .ok (.ifCond .eq 22, 3) := by decide +kernel
theorem dX1_countBefore_52 : decode cX1_countBefore 52 = .ok (.lload_n 1, 1) := by decide +kernel
theorem dX1_countBefore_53 : decode cX1_countBefore 53 = .ok (.iload_n 0, 1) := by decide +kernel
theorem dX1_countBefore_54 : decode cX1_countBefore 54 = .ok (.bipush 8, 2) := by decide +kernel
theorem dX1_countBefore_56 : decode cX1_countBefore 56 = .ok (.isub, 1) := by decide +kernel
theorem dX1_countBefore_57 : decode cX1_countBefore 57 = .ok (.iload 4, 2) := by decide +kernel
theorem dX1_countBefore_59 : decode cX1_countBefore 59 = .ok (.iadd, 1) := by decide +kernel
theorem dX1_countBefore_60 : decode cX1_countBefore 60 = .ok (.lshr, 1) := by decide +kernel
theorem dX1_countBefore_61 : decode cX1_countBefore 61 = .ok (.lconst 1, 1) := by decide +kernel
theorem dX1_countBefore_62 : decode cX1_countBefore 62 = .ok (.land, 1) := by decide +kernel
theorem dX1_countBefore_63 : decode cX1_countBefore 63 = .ok (.lconst 1, 1) := by decide +kernel
theorem dX1_countBefore_64 : decode cX1_countBefore 64 = .ok (.lcmp, 1) := by decide +kernel
theorem dX1_countBefore_65 : decode cX1_countBefore 65 = .ok (.ifCond .ne 6, 3) := by decide +kernel
theorem dX1_countBefore_68 : decode cX1_countBefore 68 = .ok (.iinc 3 1, 3) := by decide +kernel
theorem dX1_countBefore_71 : decode cX1_countBefore 71 = .ok (.iinc 4 1, 3) := by decide +kernel
theorem dX1_countBefore_74 : decode cX1_countBefore 74 = .ok (.goto (-61), 3) := by decide +kernel
theorem dX1_countBefore_77 : decode cX1_countBefore 77 = .ok (.iload_n 3, 1) := by decide +kernel
theorem dX1_countBefore_78 : decode cX1_countBefore 78 = .ok (.ireturn, 1) := by decide +kernel
theorem dX1_leastStandingRow_0 : decode cX1_leastStandingRow 0 = .ok (.bipush 6, 2) := by decide +kernel
theorem dX1_leastStandingRow_2 : decode cX1_leastStandingRow 2 = .ok (.istore_n 1, 1) := by decide +kernel
theorem dX1_leastStandingRow_3 : decode cX1_leastStandingRow 3 = .ok (.iconst 0, 1) := by decide +kernel
theorem dX1_leastStandingRow_4 : decode cX1_leastStandingRow 4 = .ok (.istore_n 2, 1) := by decide +kernel
theorem dX1_leastStandingRow_5 : decode cX1_leastStandingRow 5 = .ok (.iload_n 2, 1) := by decide +kernel
theorem dX1_leastStandingRow_6 : decode cX1_leastStandingRow 6 = .ok (.aload_n 0, 1) := by decide +kernel
theorem dX1_leastStandingRow_7 : decode cX1_leastStandingRow 7 = .ok (.getfield 47, 3) := by decide +kernel
theorem dX1_leastStandingRow_10 : decode cX1_leastStandingRow 10 = .ok (.if_icmp .ge 33, 3) := by decide +kernel
theorem dX1_leastStandingRow_13 : decode cX1_leastStandingRow 13 = .ok (.aload_n 0, 1) := by decide +kernel
theorem dX1_leastStandingRow_14 : decode cX1_leastStandingRow 14 = .ok (.getfield 41, 3) := by decide +kernel
theorem dX1_leastStandingRow_17 : decode cX1_leastStandingRow 17 = .ok (.iload_n 2, 1) := by decide +kernel
theorem dX1_leastStandingRow_18 : decode cX1_leastStandingRow 18 = .ok (.iaload, 1) := by decide +kernel
theorem dX1_leastStandingRow_19 : decode cX1_leastStandingRow 19 = .ok (.iconst 1, 1) := by decide +kernel
theorem dX1_leastStandingRow_20 : decode cX1_leastStandingRow 20 = .ok (.if_icmp .ne 17, 3) := by decide +kernel
theorem dX1_leastStandingRow_23 : decode cX1_leastStandingRow 23 = .ok (.iload_n 1, 1) := by decide +kernel
theorem dX1_leastStandingRow_24 : decode cX1_leastStandingRow 24 = .ok (.aload_n 0, 1) := by decide +kernel
theorem dX1_leastStandingRow_25 : decode cX1_leastStandingRow 25 = .ok (.getfield 20, 3) := by decide +kernel
theorem dX1_leastStandingRow_28 : decode cX1_leastStandingRow 28 = .ok (.iload_n 2, 1) := by decide +kernel
theorem dX1_leastStandingRow_29 : decode cX1_leastStandingRow 29 = .ok (.iaload, 1) := by decide +kernel
theorem dX1_leastStandingRow_30 : decode cX1_leastStandingRow 30 = .ok (.bipush 8, 2) := by decide +kernel
theorem dX1_leastStandingRow_32 : decode cX1_leastStandingRow 32 = .ok (.idiv, 1) := by decide +kernel
theorem dX1_leastStandingRow_33 : decode cX1_leastStandingRow 33 = .ok (.invokestatic 170, 3) := by decide +kernel
theorem dX1_leastStandingRow_36 : decode cX1_leastStandingRow 36 = .ok (.istore_n 1, 1) := by decide +kernel
theorem dX1_leastStandingRow_37 : decode cX1_leastStandingRow 37 = .ok (.iinc 2 1, 3) := by decide +kernel
theorem dX1_leastStandingRow_40 : decode cX1_leastStandingRow 40 = .ok (.goto (-35), 3) := by decide +kernel
theorem dX1_leastStandingRow_43 : decode cX1_leastStandingRow 43 = .ok (.iload_n 1, 1) := by decide +kernel
theorem dX1_leastStandingRow_44 : decode cX1_leastStandingRow 44 = .ok (.bipush 6, 2) := by decide +kernel
theorem dX1_leastStandingRow_46 : decode cX1_leastStandingRow 46 = .ok (.if_icmp .ge 7, 3) := by decide +kernel
theorem dX1_leastStandingRow_49 : decode cX1_leastStandingRow 49 = .ok (.iload_n 1, 1) := by decide +kernel
theorem dX1_leastStandingRow_50 : decode cX1_leastStandingRow 50 = .ok (.goto 4, 3) := by decide +kernel
theorem dX1_leastStandingRow_53 : decode cX1_leastStandingRow 53 = .ok (.iconst (-1), 1) := by decide +kernel
theorem dX1_leastStandingRow_54 : decode cX1_leastStandingRow 54 = .ok (.ireturn, 1) := by decide +kernel
theorem dX1_takenAt_0 : decode cX1_takenAt 0 = .ok (.iconst 0, 1) := by decide +kernel
theorem dX1_takenAt_1 : decode cX1_takenAt 1 = .ok (.istore_n 3, 1) := by decide +kernel
theorem dX1_takenAt_2 : decode cX1_takenAt 2 = .ok (.iconst 0, 1) := by decide +kernel
theorem dX1_takenAt_3 : decode cX1_takenAt 3 = .ok (.istore 4, 2) := by decide +kernel
theorem dX1_takenAt_5 : decode cX1_takenAt 5 = .ok (.iload 4, 2) := by decide +kernel
theorem dX1_takenAt_7 : decode cX1_takenAt 7 = .ok (.aload_n 0, 1) := by decide +kernel
theorem dX1_takenAt_8 : decode cX1_takenAt 8 = .ok (.getfield 47, 3) := by decide +kernel
theorem dX1_takenAt_11 : decode cX1_takenAt 11 = .ok (.if_icmp .ge 66, 3) := by decide +kernel
theorem dX1_takenAt_14 : decode cX1_takenAt 14 = .ok (.aload_n 0, 1) := by decide +kernel
theorem dX1_takenAt_15 : decode cX1_takenAt 15 = .ok (.getfield 57, 3) := by decide +kernel
theorem dX1_takenAt_18 : decode cX1_takenAt 18 = .ok (.iload 4, 2) := by decide +kernel
theorem dX1_takenAt_20 : decode cX1_takenAt 20 = .ok (.ishr, 1) := by decide +kernel
theorem dX1_takenAt_21 : decode cX1_takenAt 21 = .ok (.iconst 1, 1) := by decide +kernel
theorem dX1_takenAt_22 : decode cX1_takenAt 22 = .ok (.iand, 1) := by decide +kernel
theorem dX1_takenAt_23 : decode cX1_takenAt 23 = .ok (.iconst 1, 1) := by decide +kernel
theorem dX1_takenAt_24 : decode cX1_takenAt 24 = .ok (.if_icmp .ne 22, 3) := by decide +kernel
theorem dX1_takenAt_27 : decode cX1_takenAt 27 = .ok (.iload_n 2, 1) := by decide +kernel
theorem dX1_takenAt_28 : decode cX1_takenAt 28 = .ok (.ifCond .eq 14, 3) := by decide +kernel
theorem dX1_takenAt_31 : decode cX1_takenAt 31 = .ok (.aload_n 0, 1) := by decide +kernel
theorem dX1_takenAt_32 : decode cX1_takenAt 32 = .ok (.getfield 44, 3) := by decide +kernel
theorem dX1_takenAt_35 : decode cX1_takenAt 35 = .ok (.iload 4, 2) := by decide +kernel
theorem dX1_takenAt_37 : decode cX1_takenAt 37 = .ok (.iaload, 1) := by decide +kernel
theorem dX1_takenAt_38 : decode cX1_takenAt 38 = .ok (.iconst 1, 1) := by decide +kernel
theorem dX1_takenAt_39 : decode cX1_takenAt 39 = .ok (.if_icmp .ne 7, 3) := by decide +kernel
theorem dX1_takenAt_42 : decode cX1_takenAt 42 = .ok (.iconst 1, 1) := by decide +kernel
theorem dX1_takenAt_43 : decode cX1_takenAt 43 = .ok (.goto 4, 3) := by decide +kernel
theorem dX1_takenAt_46 : decode cX1_takenAt 46 = .ok (.iconst 0, 1) := by decide +kernel
theorem dX1_takenAt_47 : decode cX1_takenAt 47 = .ok (.istore 5, 2) := by decide +kernel
theorem dX1_takenAt_49 : decode cX1_takenAt 49 = .ok (.iload 5, 2) := by decide +kernel
theorem dX1_takenAt_51 : decode cX1_takenAt 51 = .ok (.ifCond .eq 20, 3) := by decide +kernel
theorem dX1_takenAt_54 : decode cX1_takenAt 54 = .ok (.iload_n 3, 1) := by decide +kernel
theorem dX1_takenAt_55 : decode cX1_takenAt 55 = .ok (.aload_n 0, 1) := by decide +kernel
theorem dX1_takenAt_56 : decode cX1_takenAt 56 = .ok (.getfield 20, 3) := by decide +kernel
theorem dX1_takenAt_59 : decode cX1_takenAt 59 = .ok (.iload 4, 2) := by decide +kernel
theorem dX1_takenAt_61 : decode cX1_takenAt 61 = .ok (.iaload, 1) := by decide +kernel
theorem dX1_takenAt_62 : decode cX1_takenAt 62 = .ok (.iload_n 1, 1) := by decide +kernel
theorem dX1_takenAt_63 : decode cX1_takenAt 63 = .ok (.invokestatic 118, 3) := by decide +kernel
theorem dX1_takenAt_66 : decode cX1_takenAt 66 = .ok (.invokestatic 121, 3) := by decide +kernel
theorem dX1_takenAt_69 : decode cX1_takenAt 69 = .ok (.iadd, 1) := by decide +kernel
theorem dX1_takenAt_70 : decode cX1_takenAt 70 = .ok (.istore_n 3, 1) := by decide +kernel
theorem dX1_takenAt_71 : decode cX1_takenAt 71 = .ok (.iinc 4 1, 3) := by decide +kernel
theorem dX1_takenAt_74 : decode cX1_takenAt 74 = .ok (.goto (-69), 3) := by decide +kernel
theorem dX1_takenAt_77 : decode cX1_takenAt 77 = .ok (.iload_n 3, 1) := by decide +kernel
theorem dX1_takenAt_78 : decode cX1_takenAt 78 = .ok (.ireturn, 1) := by decide +kernel
theorem dX2_init_0 : decode cX2_init 0 = .ok (.aload_n 0, 1) := by decide +kernel
theorem dX2_init_1 : decode cX2_init 1 = .ok (.invokespecial 3, 3) := by decide +kernel
theorem dX2_init_4 : decode cX2_init 4 = .ok (.aload_n 0, 1) := by decide +kernel
theorem dX2_init_5 : decode cX2_init 5 = .ok (.new 9, 3) := by decide +kernel
theorem dX2_init_8 : decode cX2_init 8 = .ok (.dup, 1) := by decide +kernel
theorem dX2_init_9 : decode cX2_init 9 = .ok (.invokespecial 11, 3) := by decide +kernel
theorem dX2_init_12 : decode cX2_init 12 = .ok (.putfield 12, 3) := by decide +kernel
theorem dX2_init_15 : decode cX2_init 15 = .ok (.aload_n 0, 1) := by decide +kernel
theorem dX2_init_16 : decode cX2_init 16 = .ok (.sipush 200, 3) := by decide +kernel
theorem dX2_init_19 : decode cX2_init 19 = .ok (.newarray .int, 2) := by decide +kernel
theorem dX2_init_21 : decode cX2_init 21 = .ok (.putfield 18, 3) := by decide +kernel
theorem dX2_init_24 : decode cX2_init 24 = .ok (.aload_n 0, 1) := by decide +kernel
theorem dX2_init_25 : decode cX2_init 25 = .ok (.iconst 0, 1) := by decide +kernel
theorem dX2_init_26 : decode cX2_init 26 = .ok (.putfield 22, 3) := by decide +kernel
theorem dX2_init_29 : decode cX2_init 29 = .ok (.aload_n 0, 1) := by decide +kernel
theorem dX2_init_30 : decode cX2_init 30 = .ok (.iconst 0, 1) := by decide +kernel
theorem dX2_init_31 : decode cX2_init 31 = .ok (.putfield 26, 3) := by decide +kernel
theorem dX2_init_34 : decode cX2_init 34 = .ok (.return_, 1) := by decide +kernel
theorem dX2_startFrom_0 : decode cX2_startFrom 0 = .ok (.aload_n 0, 1) := by decide +kernel
theorem dX2_startFrom_1 : decode cX2_startFrom 1 = .ok (.getfield 12, 3) := by decide +kernel
theorem dX2_startFrom_4 : decode cX2_startFrom 4 = .ok (.aload_n 1, 1) := by decide +kernel
theorem dX2_startFrom_5 : decode cX2_startFrom 5 = .ok (.invokevirtual 29, 3) := by decide +kernel
theorem dX2_startFrom_8 : decode cX2_startFrom 8 = .ok (.return_, 1) := by decide +kernel
theorem dX2_goThrough_0 : decode cX2_goThrough 0 = .ok (.aload_n 0, 1) := by decide +kernel
theorem dX2_goThrough_1 : decode cX2_goThrough 1 = .ok (.iconst 0, 1) := by decide +kernel
theorem dX2_goThrough_2 : decode cX2_goThrough 2 = .ok (.iload_n 2, 1) := by decide +kernel
theorem dX2_goThrough_3 : decode cX2_goThrough 3 = .ok (.sipush 200, 3) := by decide +kernel
theorem dX2_goThrough_6 : decode cX2_goThrough 6 = .ok (.invokestatic 33, 3) := by decide +kernel
theorem dX2_goThrough_9 : decode cX2_goThrough 9 = .ok (.invokestatic 39, 3) := by decide +kernel
theorem dX2_goThrough_12 : decode cX2_goThrough 12 = .ok (.putfield 22, 3) := by decide +kernel
theorem dX2_goThrough_15 : decode cX2_goThrough 15 = .ok (.aload_n 0, 1) := by decide +kernel
theorem dX2_goThrough_16 : decode cX2_goThrough 16 = .ok (.iconst 0, 1) := by decide +kernel
theorem dX2_goThrough_17 : decode cX2_goThrough 17 = .ok (.putfield 26, 3) := by decide +kernel
theorem dX2_goThrough_20 : decode cX2_goThrough 20 = .ok (.iconst 0, 1) := by decide +kernel
theorem dX2_goThrough_21 : decode cX2_goThrough 21 = .ok (.istore_n 3, 1) := by decide +kernel
theorem dX2_goThrough_22 : decode cX2_goThrough 22 = .ok (.iload_n 3, 1) := by decide +kernel
theorem dX2_goThrough_23 : decode cX2_goThrough 23 = .ok (.aload_n 0, 1) := by decide +kernel
theorem dX2_goThrough_24 : decode cX2_goThrough 24 = .ok (.getfield 12, 3) := by decide +kernel
theorem dX2_goThrough_27 : decode cX2_goThrough 27 = .ok (.getfield 42, 3) := by decide +kernel
theorem dX2_goThrough_30 : decode cX2_goThrough 30 = .ok (.if_icmp .ge 34, 3) := by decide +kernel
theorem dX2_goThrough_33 : decode cX2_goThrough 33 = .ok (.aload_n 0, 1) := by decide +kernel
theorem dX2_goThrough_34 : decode cX2_goThrough 34 = .ok (.getfield 12, 3) := by decide +kernel
theorem dX2_goThrough_37 : decode cX2_goThrough 37 = .ok (.getfield 45, 3) := by decide +kernel
theorem dX2_goThrough_40 : decode cX2_goThrough 40 = .ok (.iload_n 3, 1) := by decide +kernel
theorem dX2_goThrough_41 : decode cX2_goThrough 41 = .ok (.iaload, 1) := by decide +kernel
theorem dX2_goThrough_42 : decode cX2_goThrough 42 = .ok (.iconst 1, 1) := by decide +kernel
theorem dX2_goThrough_43 : decode cX2_goThrough 43 = .ok (.if_icmp .ne 15, 3) := by decide +kernel
theorem dX2_goThrough_46 : decode cX2_goThrough 46 = .ok (.aload_n 0, 1) := by decide +kernel
theorem dX2_goThrough_47 : decode cX2_goThrough 47 = .ok (.dup, 1) := by decide +kernel
theorem dX2_goThrough_48 : decode cX2_goThrough 48 = .ok (.getfield 26, 3) := by decide +kernel
theorem dX2_goThrough_51 : decode cX2_goThrough 51 = .ok (.iconst 1, 1) := by decide +kernel
theorem dX2_goThrough_52 : decode cX2_goThrough 52 = .ok (.iload_n 3, 1) := by decide +kernel
theorem dX2_goThrough_53 : decode cX2_goThrough 53 = .ok (.ishl, 1) := by decide +kernel
theorem dX2_goThrough_54 : decode cX2_goThrough 54 = .ok (.ior, 1) := by decide +kernel
theorem dX2_goThrough_55 : decode cX2_goThrough 55 = .ok (.putfield 26, 3) := by decide +kernel
theorem dX2_goThrough_58 : decode cX2_goThrough 58 = .ok (.iinc 3 1, 3) := by decide +kernel
theorem dX2_goThrough_61 : decode cX2_goThrough 61 = .ok (.goto (-39), 3) := by decide +kernel
theorem dX2_goThrough_64 : decode cX2_goThrough 64 = .ok (.aload_n 0, 1) := by decide +kernel
theorem dX2_goThrough_65 : decode cX2_goThrough 65 = .ok (.getfield 12, 3) := by decide +kernel
theorem dX2_goThrough_68 : decode cX2_goThrough 68 = .ok (.invokevirtual 48, 3) := by decide +kernel
theorem dX2_goThrough_71 : decode cX2_goThrough 71 = .ok (.iconst 0, 1) := by decide +kernel
theorem dX2_goThrough_72 : decode cX2_goThrough 72 = .ok (.istore_n 3, 1) := by decide +kernel
theorem dX2_goThrough_73 : decode cX2_goThrough 73 = .ok (.iload_n 3, 1) := by decide +kernel
theorem dX2_goThrough_74 : decode cX2_goThrough 74 = .ok (.aload_n 0, 1) := by decide +kernel
theorem dX2_goThrough_75 : decode cX2_goThrough 75 = .ok (.getfield 22, 3) := by decide +kernel
theorem dX2_goThrough_78 : decode cX2_goThrough 78 = .ok (.if_icmp .ge 54, 3) := by decide +kernel
theorem dX2_goThrough_81 : decode cX2_goThrough 81 = .ok (.aload_n 0, 1) := by decide +kernel
theorem dX2_goThrough_82 : decode cX2_goThrough 82 = .ok (.getfield 12, 3) := by decide +kernel
theorem dX2_goThrough_85 : decode cX2_goThrough 85 = .ok (.aload_n 1, 1) := by decide +kernel
theorem dX2_goThrough_86 : decode cX2_goThrough 86 = .ok (.invokevirtual 51, 3) := by decide +kernel
theorem dX2_goThrough_89 : decode cX2_goThrough 89 = .ok (.istore 4, 2) := by decide +kernel
theorem dX2_goThrough_91 : decode cX2_goThrough 91 = .ok (.aload_n 0, 1) := by decide +kernel
theorem dX2_goThrough_92 : decode cX2_goThrough 92 = .ok (.getfield 12, 3) := by decide +kernel
theorem dX2_goThrough_95 : decode cX2_goThrough 95 = .ok (.dup, 1) := by decide +kernel
theorem dX2_goThrough_96 : decode cX2_goThrough 96 = .ok (.getfield 55, 3) := by decide +kernel
theorem dX2_goThrough_99 : decode cX2_goThrough 99 = .ok (.iconst 1, 1) := by decide +kernel
theorem dX2_goThrough_100 : decode cX2_goThrough 100 = .ok (.iadd, 1) := by decide +kernel
theorem dX2_goThrough_101 : decode cX2_goThrough 101 = .ok (.putfield 55, 3) := by decide +kernel
theorem dX2_goThrough_104 : decode cX2_goThrough 104 = .ok (.aload_n 0, 1) := by decide +kernel
theorem dX2_goThrough_105 : decode cX2_goThrough 105 = .ok (.dup, 1) := by decide +kernel
theorem dX2_goThrough_106 : decode cX2_goThrough 106 = .ok (.getfield 26, 3) := by decide +kernel
theorem dX2_goThrough_109 : decode cX2_goThrough 109 = .ok (.iload 4, 2) := by decide +kernel
theorem dX2_goThrough_111 : decode cX2_goThrough 111 = .ok (.ior, 1) := by decide +kernel
theorem dX2_goThrough_112 : decode cX2_goThrough 112 = .ok (.putfield 26, 3) := by decide +kernel
theorem dX2_goThrough_115 : decode cX2_goThrough 115 = .ok (.aload_n 0, 1) := by decide +kernel
theorem dX2_goThrough_116 : decode cX2_goThrough 116 = .ok (.getfield 18, 3) := by decide +kernel
theorem dX2_goThrough_119 : decode cX2_goThrough 119 = .ok (.iload_n 3, 1) := by decide +kernel
theorem dX2_goThrough_120 : decode cX2_goThrough 120 = .ok (.iload 4, 2) := by decide +kernel
theorem dX2_goThrough_122 : decode cX2_goThrough 122 = .ok (.invokestatic 58, 3) := by decide +kernel
theorem dX2_goThrough_125 : decode cX2_goThrough 125 = .ok (.iastore, 1) := by decide +kernel
theorem dX2_goThrough_126 : decode cX2_goThrough 126 = .ok (.iinc 3 1, 3) := by decide +kernel
theorem dX2_goThrough_129 : decode cX2_goThrough 129 = .ok (.goto (-56), 3) := by decide +kernel
theorem dX2_goThrough_132 : decode cX2_goThrough 132 = .ok (.return_, 1) := by decide +kernel
theorem dX2_countJoined_0 : decode cX2_countJoined 0 = .ok (.aload_n 0, 1) := by decide +kernel
theorem dX2_countJoined_1 : decode cX2_countJoined 1 = .ok (.getfield 26, 3) := by decide +kernel
theorem dX2_countJoined_4 : decode cX2_countJoined 4 = .ok (.invokestatic 58, 3) := by decide +kernel
theorem dX2_countJoined_7 : decode cX2_countJoined 7 = .ok (.ireturn, 1) := by decide +kernel
theorem dX2_lengthOfClapping_0 : decode cX2_lengthOfClapping 0 = .ok (.iconst 0, 1) := by decide +kernel
theorem dX2_lengthOfClapping_1 : decode cX2_lengthOfClapping 1 = .ok (.istore_n 1, 1) := by decide +kernel
theorem dX2_lengthOfClapping_2 : decode cX2_lengthOfClapping 2 = .ok (.iload_n 1, 1) := by decide +kernel
theorem dX2_lengthOfClapping_3 : decode cX2_lengthOfClapping 3 = .ok (.aload_n 0, 1) := by decide +kernel
theorem dX2_lengthOfClapping_4 : decode cX2_lengthOfClapping 4 = .ok (.getfield 22, 3) := by decide +kernel
theorem dX2_lengthOfClapping_7 : decode cX2_lengthOfClapping 7 = .ok (.if_icmp .ge 18, 3) := by decide +kernel
theorem dX2_lengthOfClapping_10 : decode cX2_lengthOfClapping 10 = .ok (.aload_n 0, 1) := by decide +kernel
theorem dX2_lengthOfClapping_11 : decode cX2_lengthOfClapping 11 = .ok (.getfield 18, 3) := by decide +kernel
theorem dX2_lengthOfClapping_14 : decode cX2_lengthOfClapping 14 = .ok (.iload_n 1, 1) := by decide +kernel
theorem dX2_lengthOfClapping_15 : decode cX2_lengthOfClapping 15 = .ok (.iaload, 1) := by decide +kernel
theorem dX2_lengthOfClapping_16 : decode cX2_lengthOfClapping 16 = .ok (.ifCond .ne 9, 3) := by decide +kernel
theorem dX2_lengthOfClapping_19 : decode cX2_lengthOfClapping 19 = .ok (.iinc 1 1, 3) := by decide +kernel
theorem dX2_lengthOfClapping_22 : decode cX2_lengthOfClapping 22 = .ok (.goto (-20), 3) := by decide +kernel
theorem dX2_lengthOfClapping_25 : decode cX2_lengthOfClapping 25 = .ok (.iload_n 1, 1) := by decide +kernel
theorem dX2_lengthOfClapping_26 : decode cX2_lengthOfClapping 26 = .ok (.istore_n 2, 1) := by decide +kernel
theorem dX2_lengthOfClapping_27 : decode cX2_lengthOfClapping 27 = .ok (.iload_n 2, 1) := by decide +kernel
theorem dX2_lengthOfClapping_28 : decode cX2_lengthOfClapping 28 = .ok (.aload_n 0, 1) := by decide +kernel
theorem dX2_lengthOfClapping_29 : decode cX2_lengthOfClapping 29 = .ok (.getfield 22, 3) := by decide +kernel
theorem dX2_lengthOfClapping_32 : decode cX2_lengthOfClapping 32 = .ok (.if_icmp .ge 18, 3) := by decide +kernel
theorem dX2_lengthOfClapping_35 : decode cX2_lengthOfClapping 35 = .ok (.aload_n 0, 1) := by decide +kernel
theorem dX2_lengthOfClapping_36 : decode cX2_lengthOfClapping 36 = .ok (.getfield 18, 3) := by decide +kernel
theorem dX2_lengthOfClapping_39 : decode cX2_lengthOfClapping 39 = .ok (.iload_n 2, 1) := by decide +kernel
theorem dX2_lengthOfClapping_40 : decode cX2_lengthOfClapping 40 = .ok (.iaload, 1) := by decide +kernel
theorem dX2_lengthOfClapping_41 : decode cX2_lengthOfClapping 41 = .ok (.ifCond .le 9, 3) := by decide +kernel
theorem dX2_lengthOfClapping_44 : decode cX2_lengthOfClapping 44 = .ok (.iinc 2 1, 3) := by decide +kernel
theorem dX2_lengthOfClapping_47 : decode cX2_lengthOfClapping 47 = .ok (.goto (-20), 3) := by decide +kernel
theorem dX2_lengthOfClapping_50 : decode cX2_lengthOfClapping 50 = .ok (.iload_n 2, 1) := by decide +kernel
theorem dX2_lengthOfClapping_51 : decode cX2_lengthOfClapping 51 = .ok (.iload_n 1, 1) := by decide +kernel
theorem dX2_lengthOfClapping_52 : decode cX2_lengthOfClapping 52 = .ok (.isub, 1) := by decide +kernel
theorem dX2_lengthOfClapping_53 : decode cX2_lengthOfClapping 53 = .ok (.ireturn, 1) := by decide +kernel
theorem dX3_init_0 : decode cX3_init 0 = .ok (.aload_n 0, 1) := by decide +kernel
theorem dX3_init_1 : decode cX3_init 1 = .ok (.invokespecial 3, 3) := by decide +kernel
theorem dX3_init_4 : decode cX3_init 4 = .ok (.aload_n 0, 1) := by decide +kernel
theorem dX3_init_5 : decode cX3_init 5 = .ok (.bipush 7, 2) := by decide +kernel
theorem dX3_init_7 : decode cX3_init 7 = .ok (.bipush 7, 2) := by decide +kernel
theorem dX3_init_9 : decode cX3_init 9 = .ok (.multianewarray 9 2, 4) := by decide +kernel
theorem dX3_init_13 : decode cX3_init 13 = .ok (.putfield 11, 3) := by decide +kernel
theorem dX3_init_16 : decode cX3_init 16 = .ok (.aload_n 0, 1) := by decide +kernel
theorem dX3_init_17 : decode cX3_init 17 = .ok (.iconst 0, 1) := by decide +kernel
theorem dX3_init_18 : decode cX3_init 18 = .ok (.putfield 16, 3) := by decide +kernel
theorem dX3_init_21 : decode cX3_init 21 = .ok (.aload_n 0, 1) := by decide +kernel
theorem dX3_init_22 : decode cX3_init 22 = .ok (.iconst (-1), 1) := by decide +kernel
theorem dX3_init_23 : decode cX3_init 23 = .ok (.putfield 20, 3) := by decide +kernel
theorem dX3_init_26 : decode cX3_init 26 = .ok (.getstatic 23, 3) := by decide +kernel
theorem dX3_init_29 : decode cX3_init 29 = .ok (.iconst 0, 1) := by decide +kernel
theorem dX3_init_30 : decode cX3_init 30 = .ok (.aload_n 0, 1) := by decide +kernel
theorem dX3_init_31 : decode cX3_init 31 = .ok (.getfield 11, 3) := by decide +kernel
theorem dX3_init_34 : decode cX3_init 34 = .ok (.iconst 0, 1) := by decide +kernel
theorem dX3_init_35 : decode cX3_init 35 = .ok (.aaload, 1) := by decide +kernel
theorem dX3_init_36 : decode cX3_init 36 = .ok (.iconst 0, 1) := by decide +kernel
theorem dX3_init_37 : decode cX3_init 37 = .ok (.bipush 7, 2) := by decide +kernel
theorem dX3_init_39 : decode cX3_init 39 = .ok (.invokestatic 27, 3) := by decide +kernel
theorem dX3_init_42 : decode cX3_init 42 = .ok (.return_, 1) := by decide +kernel
theorem dX3_become_0 : decode cX3_become 0 = .ok (.iconst 0, 1) := by decide +kernel
theorem dX3_become_1 : decode cX3_become 1 = .ok (.istore_n 2, 1) := by decide +kernel
theorem dX3_become_2 : decode cX3_become 2 = .ok (.iload_n 2, 1) := by decide +kernel
theorem dX3_become_3 : decode cX3_become 3 = .ok (.bipush 6, 2) := by decide +kernel
theorem dX3_become_5 : decode cX3_become 5 = .ok (.if_icmp .gt 28, 3) := by decide +kernel
theorem dX3_become_8 : decode cX3_become 8 = .ok (.aload_n 1, 1) := by decide +kernel
theorem dX3_become_9 : decode cX3_become 9 = .ok (.getfield 11, 3) := by decide +kernel
theorem dX3_become_12 : decode cX3_become 12 = .ok (.iload_n 2, 1) := by decide +kernel
theorem dX3_become_13 : decode cX3_become 13 = .ok (.aaload, 1) := by decide +kernel
theorem dX3_become_14 : decode cX3_become 14 = .ok (.iconst 0, 1) := by decide +kernel
theorem dX3_become_15 : decode cX3_become 15 = .ok (.aload_n 0, 1) := by decide +kernel
theorem dX3_become_16 : decode cX3_become 16 = .ok (.getfield 11, 3) := by decide +kernel
theorem dX3_become_19 : decode cX3_become 19 = .ok (.iload_n 2, 1) := by decide +kernel
theorem dX3_become_20 : decode cX3_become 20 = .ok (.aaload, 1) := by decide +kernel
theorem dX3_become_21 : decode cX3_become 21 = .ok (.iconst 0, 1) := by decide +kernel
theorem dX3_become_22 : decode cX3_become 22 = .ok (.bipush 7, 2) := by decide +kernel
theorem dX3_become_24 : decode cX3_become 24 = .ok (.invokestatic 27, 3) := by decide +kernel
theorem dX3_become_27 : decode cX3_become 27 = .ok (.iinc 2 1, 3) := by decide +kernel
theorem dX3_become_30 : decode cX3_become 30 = .ok (.goto (-28), 3) := by decide +kernel
theorem dX3_become_33 : decode cX3_become 33 = .ok (.aload_n 0, 1) := by decide +kernel
theorem dX3_become_34 : decode cX3_become 34 = .ok (.aload_n 1, 1) := by decide +kernel
theorem dX3_become_35 : decode cX3_become 35 = .ok (.getfield 16, 3) := by decide +kernel
theorem dX3_become_38 : decode cX3_become 38 = .ok (.putfield 16, 3) := by decide +kernel
theorem dX3_become_41 : decode cX3_become 41 = .ok (.aload_n 0, 1) := by decide +kernel
theorem dX3_become_42 : decode cX3_become 42 = .ok (.aload_n 1, 1) := by decide +kernel
theorem dX3_become_43 : decode cX3_become 43 = .ok (.getfield 20, 3) := by decide +kernel
theorem dX3_become_46 : decode cX3_become 46 = .ok (.putfield 20, 3) := by decide +kernel
theorem dX3_become_49 : decode cX3_become 49 = .ok (.return_, 1) := by decide +kernel
theorem dX3_has_0 : decode cX3_has 0 = .ok (.iload_n 1, 1) := by decide +kernel
theorem dX3_has_1 : decode cX3_has 1 = .ok (.ifCond .lt 15, 3) := by decide +kernel
theorem dX3_has_4 : decode cX3_has 4 = .ok (.iload_n 1, 1) := by decide +kernel
theorem dX3_has_5 : decode cX3_has 5 = .ok (.aload_n 0, 1) := by decide +kernel
theorem dX3_has_6 : decode cX3_has 6 = .ok (.getfield 16, 3) := by decide +kernel
theorem dX3_has_9 : decode cX3_has 9 = .ok (.if_icmp .ge 7, 3) := by decide +kernel
theorem dX3_has_12 : decode cX3_has 12 = .ok (.iconst 1, 1) := by decide +kernel
theorem dX3_has_13 : decode cX3_has 13 = .ok (.goto 4, 3) := by decide +kernel
theorem dX3_has_16 : decode cX3_has 16 = .ok (.iconst 0, 1) := by decide +kernel
theorem dX3_has_17 : decode cX3_has 17 = .ok (.ireturn, 1) := by decide +kernel
theorem dX3_hasOrNone_0 : decode cX3_hasOrNone 0 = .ok (.iload_n 1, 1) := by decide +kernel
theorem dX3_hasOrNone_1 : decode cX3_hasOrNone 1 = .ok (.iconst (-1), 1) := by decide +kernel
theorem dX3_hasOrNone_2 : decode cX3_hasOrNone 2 = .ok (.if_icmp .eq 11, 3) := by decide +kernel
theorem dX3_hasOrNone_5 : decode cX3_hasOrNone 5 = .ok (.aload_n 0, 1) := by decide +kernel
theorem dX3_hasOrNone_6 : decode cX3_hasOrNone 6 = .ok (.iload_n 1, 1) := by decide +kernel
theorem dX3_hasOrNone_7 : decode cX3_hasOrNone 7 = .ok (.invokevirtual 33, 3) := by decide +kernel
theorem dX3_hasOrNone_10 : decode cX3_hasOrNone 10 = .ok (.ifCond .eq 7, 3) := by decide +kernel
theorem dX3_hasOrNone_13 : decode cX3_hasOrNone 13 = .ok (.iconst 1, 1) := by decide +kernel
theorem dX3_hasOrNone_14 : decode cX3_hasOrNone 14 = .ok (.goto 4, 3) := by decide +kernel
theorem dX3_hasOrNone_17 : decode cX3_hasOrNone 17 = .ok (.iconst 0, 1) := by decide +kernel
theorem dX3_hasOrNone_18 : decode cX3_hasOrNone 18 = .ok (.ireturn, 1) := by decide +kernel
theorem dX3_numbersOf_0 : decode cX3_numbersOf 0 = .ok (.aload_n 0, 1) := by decide +kernel
theorem dX3_numbersOf_1 : decode cX3_numbersOf 1 = .ok (.iload_n 1, 1) := by decide +kernel
theorem dX3_numbersOf_2 : decode cX3_numbersOf 2 = .ok (.invokevirtual 33, 3) := by decide +kernel
theorem dX3_numbersOf_5 : decode cX3_numbersOf 5 = .ok (.ifCond .eq 14, 3) := by decide +kernel
theorem dX3_numbersOf_8 : decode cX3_numbersOf 8 = .ok (.aload_n 0, 1) := by decide +kernel
theorem dX3_numbersOf_9 : decode cX3_numbersOf 9 = .ok (.getfield 11, 3) := by decide +kernel
theorem dX3_numbersOf_12 : decode cX3_numbersOf 12 = .ok (.iload_n 1, 1) := by decide +kernel
theorem dX3_numbersOf_13 : decode cX3_numbersOf 13 = .ok (.iconst 1, 1) := by decide +kernel
theorem dX3_numbersOf_14 : decode cX3_numbersOf 14 = .ok (.iadd, 1) := by decide +kernel
theorem dX3_numbersOf_15 : decode cX3_numbersOf 15 = .ok (.aaload, 1) := by decide +kernel
theorem dX3_numbersOf_16 : decode cX3_numbersOf 16 = .ok (.goto 9, 3) := by decide +kernel
theorem dX3_numbersOf_19 : decode cX3_numbersOf 19 = .ok (.aload_n 0, 1) := by decide +kernel
theorem dX3_numbersOf_20 : decode cX3_numbersOf 20 = .ok (.getfield 11, 3) := by decide +kernel
theorem dX3_numbersOf_23 : decode cX3_numbersOf 23 = .ok (.iconst 0, 1) := by decide +kernel
theorem dX3_numbersOf_24 : decode cX3_numbersOf 24 = .ok (.aaload, 1) := by decide +kernel
theorem dX3_numbersOf_25 : decode cX3_numbersOf 25 = .ok (.areturn, 1) := by decide +kernel
theorem dX3_numbersInForce_0 : decode cX3_numbersInForce 0 = .ok (.aload_n 0, 1) := by decide +kernel
theorem dX3_numbersInForce_1 : decode cX3_numbersInForce 1 = .ok (.aload_n 0, 1) := by decide +kernel
theorem dX3_numbersInForce_2 : decode cX3_numbersInForce 2 = .ok (.getfield 20, 3) := by decide +kernel
theorem dX3_numbersInForce_5 : decode cX3_numbersInForce 5 = .ok (.invokevirtual 37, 3) := by decide +kernel
theorem dX3_numbersInForce_8 : decode cX3_numbersInForce 8 = .ok (.areturn, 1) := by decide +kernel
theorem dX3_add_0 : decode cX3_add 0 = .ok (.aload_n 0, 1) := by decide +kernel
theorem dX3_add_1 : decode cX3_add 1 = .ok (.getfield 16, 3) := by decide +kernel
theorem dX3_add_4 : decode cX3_add 4 = .ok (.bipush 6, 2) := by decide +kernel
theorem dX3_add_6 : decode cX3_add 6 = .ok (.if_icmp .lt 5, 3) := by decide +kernel
theorem dX3_add_9 : decode cX3_add 9 = .ok (.iconst (-1), 1) := by decide +kernel
theorem dX3_add_10 : decode cX3_add 10 = .ok (.ireturn, 1) := by decide +kernel
theorem dX3_add_11 : decode cX3_add 11 = .ok (.aload_n 1, 1) := by decide +kernel
theorem dX3_add_12 : decode cX3_add 12 = .ok (.iconst 0, 1) := by decide +kernel
theorem dX3_add_13 : decode cX3_add 13 = .ok (.aload_n 0, 1) := by decide +kernel
theorem dX3_add_14 : decode cX3_add 14 = .ok (.getfield 11, 3) := by decide +kernel
theorem dX3_add_17 : decode cX3_add 17 = .ok (.aload_n 0, 1) := by decide +kernel
theorem dX3_add_18 : decode cX3_add 18 = .ok (.getfield 16, 3) := by decide +kernel
theorem dX3_add_21 : decode cX3_add 21 = .ok (.iconst 1, 1) := by decide +kernel
theorem dX3_add_22 : decode cX3_add 22 = .ok (.iadd, 1) := by decide +kernel
theorem dX3_add_23 : decode cX3_add 23 = .ok (.aaload, 1) := by decide +kernel
theorem dX3_add_24 : decode cX3_add 24 = .ok (.iconst 0, 1) := by decide +kernel
theorem dX3_add_25 : decode cX3_add 25 = .ok (.bipush 7, 2) := by decide +kernel
theorem dX3_add_27 : decode cX3_add 27 = .ok (.invokestatic 27, 3) := by decide +kernel
theorem dX3_add_30 : decode cX3_add 30 = .ok (.aload_n 0, 1) := by decide +kernel
theorem dX3_add_31 : decode cX3_add 31 = .ok (.dup, 1) := by decide +kernel
theorem dX3_add_32 : decode cX3_add 32 = .ok (.getfield 16, 3) := by decide +kernel
theorem dX3_add_35 : decode cX3_add 35 = .ok (.iconst 1, 1) := by decide +kernel
theorem dX3_add_36 : decode cX3_add 36 = .ok (.iadd, 1) := by decide +kernel
theorem dX3_add_37 : decode cX3_add 37 = .ok (.putfield 16, 3) := by decide +kernel
theorem dX3_add_40 : decode cX3_add 40 = .ok (.aload_n 0, 1) := by decide +kernel
theorem dX3_add_41 : decode cX3_add 41 = .ok (.getfield 16, 3) := by decide +kernel
theorem dX3_add_44 : decode cX3_add 44 = .ok (.iconst 1, 1) := by decide +kernel
theorem dX3_add_45 : decode cX3_add 45 = .ok (.isub, 1) := by decide +kernel
theorem dX3_add_46 : decode cX3_add 46 = .ok (.ireturn, 1) := by decide +kernel
theorem dX4_init_0 : decode cX4_init 0 = .ok (.aload_n 0, 1) := by decide +kernel
theorem dX4_init_1 : decode cX4_init 1 = .ok (.invokespecial 3, 3) := by decide +kernel
theorem dX4_init_4 : decode cX4_init 4 = .ok (.aload_n 0, 1) := by decide +kernel
theorem dX4_init_5 : decode cX4_init 5 = .ok (.bipush 7, 2) := by decide +kernel
theorem dX4_init_7 : decode cX4_init 7 = .ok (.newarray .int, 2) := by decide +kernel
theorem dX4_init_9 : decode cX4_init 9 = .ok (.putfield 9, 3) := by decide +kernel
theorem dX4_init_12 : decode cX4_init 12 = .ok (.aload_n 0, 1) := by decide +kernel
theorem dX4_init_13 : decode cX4_init 13 = .ok (.bipush 100, 2) := by decide +kernel
theorem dX4_init_15 : decode cX4_init 15 = .ok (.newarray .int, 2) := by decide +kernel
theorem dX4_init_17 : decode cX4_init 17 = .ok (.putfield 15, 3) := by decide +kernel
theorem dX4_init_20 : decode cX4_init 20 = .ok (.aload_n 0, 1) := by decide +kernel
theorem dX4_init_21 : decode cX4_init 21 = .ok (.iconst 0, 1) := by decide +kernel
theorem dX4_init_22 : decode cX4_init 22 = .ok (.putfield 18, 3) := by decide +kernel
theorem dX4_init_25 : decode cX4_init 25 = .ok (.aload_n 0, 1) := by decide +kernel
theorem dX4_init_26 : decode cX4_init 26 = .ok (.iconst 0, 1) := by decide +kernel
theorem dX4_init_27 : decode cX4_init 27 = .ok (.putfield 22, 3) := by decide +kernel
theorem dX4_init_30 : decode cX4_init 30 = .ok (.return_, 1) := by decide +kernel
theorem dX4_readLaws_0 : decode cX4_readLaws 0 = .ok (.getstatic 25, 3) := by decide +kernel
theorem dX4_readLaws_3 : decode cX4_readLaws 3 = .ok (.iconst 0, 1) := by decide +kernel
theorem dX4_readLaws_4 : decode cX4_readLaws 4 = .ok (.aload_n 0, 1) := by decide +kernel
theorem dX4_readLaws_5 : decode cX4_readLaws 5 = .ok (.getfield 9, 3) := by decide +kernel
theorem dX4_readLaws_8 : decode cX4_readLaws 8 = .ok (.iconst 0, 1) := by decide +kernel
theorem dX4_readLaws_9 : decode cX4_readLaws 9 = .ok (.bipush 7, 2) := by decide +kernel
theorem dX4_readLaws_11 : decode cX4_readLaws 11 = .ok (.invokestatic 28, 3) := by decide +kernel
theorem dX4_readLaws_14 : decode cX4_readLaws 14 = .ok (.aload_n 0, 1) := by decide +kernel
theorem dX4_readLaws_15 : decode cX4_readLaws 15 = .ok (.aload_n 1, 1) := by decide +kernel
theorem dX4_readLaws_16 : decode cX4_readLaws 16 = .ok (.iload_n 2, 1) := by decide +kernel
theorem dX4_readLaws_17 : decode cX4_readLaws 17 = .ok (.aload_n 0, 1) := by decide +kernel
theorem dX4_readLaws_18 : decode cX4_readLaws 18 = .ok (.getfield 15, 3) := by decide +kernel
theorem dX4_readLaws_21 : decode cX4_readLaws 21 = .ok (.invokevirtual 34, 3) := by decide +kernel
theorem dX4_readLaws_24 : decode cX4_readLaws 24 = .ok (.putfield 18, 3) := by decide +kernel
theorem dX4_readLaws_27 : decode cX4_readLaws 27 = .ok (.aload_n 0, 1) := by decide +kernel
theorem dX4_readLaws_28 : decode cX4_readLaws 28 = .ok (.iconst 0, 1) := by decide +kernel
theorem dX4_readLaws_29 : decode cX4_readLaws 29 = .ok (.putfield 22, 3) := by decide +kernel
theorem dX4_readLaws_32 : decode cX4_readLaws 32 = .ok (.aload_n 0, 1) := by decide +kernel
theorem dX4_readLaws_33 : decode cX4_readLaws 33 = .ok (.invokevirtual 40, 3) := by decide +kernel
theorem dX4_readLaws_36 : decode cX4_readLaws 36 = .ok (.istore_n 3, 1) := by decide +kernel
theorem dX4_readLaws_37 : decode cX4_readLaws 37 = .ok (.iconst 0, 1) := by decide +kernel
theorem dX4_readLaws_38 : decode cX4_readLaws 38 = .ok (.istore 4, 2) := by decide +kernel
theorem dX4_readLaws_40 : decode cX4_readLaws 40 = .ok (.iload 4, 2) := by decide +kernel
theorem dX4_readLaws_42 : decode cX4_readLaws 42 = .ok (.bipush 100, 2) := by decide +kernel
theorem dX4_readLaws_44 : decode cX4_readLaws 44 = .ok (.if_icmp .ge 46, 3) := by decide +kernel
theorem dX4_readLaws_47 : decode cX4_readLaws 47 = .ok (.iload_n 3, 1) := by decide +kernel
theorem dX4_readLaws_48 : decode cX4_readLaws 48 = .ok (.ifCond .eq 42, 3) := by decide +kernel
theorem dX4_readLaws_51 : decode cX4_readLaws 51 = .ok (.aload_n 0, 1) := by decide +kernel
theorem dX4_readLaws_52 : decode cX4_readLaws 52 = .ok (.getfield 22, 3) := by decide +kernel
theorem dX4_readLaws_55 : decode cX4_readLaws 55 = .ok (.aload_n 0, 1) := by decide +kernel
theorem dX4_readLaws_56 : decode cX4_readLaws 56 = .ok (.getfield 18, 3) := by decide +kernel
theorem dX4_readLaws_59 : decode cX4_readLaws 59 = .ok (.if_icmp .ge 31, 3) := by decide +kernel
theorem dX4_readLaws_62 : decode cX4_readLaws 62 = .ok (.aload_n 0, 1) := by decide +kernel
theorem dX4_readLaws_63 : decode cX4_readLaws 63 = .ok (.bipush 59, 2) := by decide +kernel
theorem dX4_readLaws_65 : decode cX4_readLaws 65 = .ok (.invokevirtual 44, 3) := by decide +kernel
theorem dX4_readLaws_68 : decode cX4_readLaws 68 = .ok (.ifCond .eq 14, 3) := by decide +kernel
theorem dX4_readLaws_71 : decode cX4_readLaws 71 = .ok (.aload_n 0, 1) := by decide +kernel
theorem dX4_readLaws_72 : decode cX4_readLaws 72 = .ok (.invokevirtual 40, 3) := by decide +kernel
theorem dX4_readLaws_75 : decode cX4_readLaws 75 = .ok (.ifCond .eq 7, 3) := by decide +kernel
theorem dX4_readLaws_78 : decode cX4_readLaws 78 = .ok (.iconst 1, 1) := by decide +kernel
theorem dX4_readLaws_79 : decode cX4_readLaws 79 = .ok (.goto 4, 3) := by decide +kernel
theorem dX4_readLaws_82 : decode cX4_readLaws 82 = .ok (.iconst 0, 1) := by decide +kernel
theorem dX4_readLaws_83 : decode cX4_readLaws 83 = .ok (.istore_n 3, 1) := by decide +kernel
theorem dX4_readLaws_84 : decode cX4_readLaws 84 = .ok (.iinc 4 1, 3) := by decide +kernel
theorem dX4_readLaws_87 : decode cX4_readLaws 87 = .ok (.goto (-47), 3) := by decide +kernel
theorem dX4_readLaws_90 : decode cX4_readLaws 90 = .ok (.iload_n 3, 1) := by decide +kernel
theorem dX4_readLaws_91 : decode cX4_readLaws 91 = .ok (.ifCond .eq 7, 3) := by decide +kernel
theorem dX4_readLaws_94 : decode cX4_readLaws 94 = .ok (.iconst (-1), 1) := by decide +kernel
theorem dX4_readLaws_95 : decode cX4_readLaws 95 = .ok (.goto 7, 3) := by decide +kernel
theorem dX4_readLaws_98 : decode cX4_readLaws 98 = .ok (.aload_n 0, 1) := by decide +kernel
theorem dX4_readLaws_99 : decode cX4_readLaws 99 = .ok (.getfield 22, 3) := by decide +kernel
theorem dX4_readLaws_102 : decode cX4_readLaws 102 = .ok (.ireturn, 1) := by decide +kernel
theorem dX4_readOne_0 : decode cX4_readOne 0 = .ok (.aload_n 0, 1) := by decide +kernel
theorem dX4_readOne_1 : decode cX4_readOne 1 = .ok (.invokevirtual 48, 3) := by decide +kernel
theorem dX4_readOne_4 : decode cX4_readOne 4 = .ok (.istore_n 1, 1) := by decide +kernel
theorem dX4_readOne_5 : decode cX4_readOne 5 = .ok (.iload_n 1, 1) := by decide +kernel
theorem dX4_readOne_6 : decode cX4_readOne 6 = .ok (.iconst (-1), 1) := by decide +kernel
theorem dX4_readOne_7 : decode cX4_readOne 7 = .ok (.if_icmp .eq 19, 3) := by decide +kernel
theorem dX4_readOne_10 : decode cX4_readOne 10 = .ok (.aload_n 0, 1) := by decide +kernel
theorem dX4_readOne_11 : decode cX4_readOne 11 = .ok (.bipush 32, 2) := by decide +kernel
theorem dX4_readOne_13 : decode cX4_readOne 13 = .ok (.invokevirtual 44, 3) := by decide +kernel
theorem dX4_readOne_16 : decode cX4_readOne 16 = .ok (.ifCond .eq 10, 3) := by decide +kernel
theorem dX4_readOne_19 : decode cX4_readOne 19 = .ok (.aload_n 0, 1) := by decide +kernel
theorem dX4_readOne_20 : decode cX4_readOne 20 = .ok (.invokevirtual 52, 3) := by decide +kernel
theorem dX4_readOne_23 : decode cX4_readOne 23 = .ok (.ifCond .ne 5, 3) := by decide +kernel
theorem dX4_readOne_26 : decode cX4_readOne 26 = .ok (.iconst 0, 1) := by decide +kernel
theorem dX4_readOne_27 : decode cX4_readOne 27 = .ok (.ireturn, 1) := by decide +kernel
theorem dX4_readOne_28 : decode cX4_readOne 28 = .ok (.aload_n 0, 1) := by decide +kernel
theorem dX4_readOne_29 : decode cX4_readOne 29 = .ok (.invokevirtual 55, 3) := by decide +kernel
theorem dX4_readOne_32 : decode cX4_readOne 32 = .ok (.istore_n 2, 1) := by decide +kernel
theorem dX4_readOne_33 : decode cX4_readOne 33 = .ok (.aload_n 0, 1) := by decide +kernel
theorem dX4_readOne_34 : decode cX4_readOne 34 = .ok (.invokevirtual 52, 3) := by decide +kernel
theorem dX4_readOne_37 : decode cX4_readOne 37 = .ok (.ifCond .eq 13, 3) := by decide +kernel
theorem dX4_readOne_40 : decode cX4_readOne 40 = .ok (.iload_n 2, 1) := by decide +kernel
theorem dX4_readOne_41 : decode cX4_readOne 41 = .ok (.bipush 10, 2) := by decide +kernel
theorem dX4_readOne_43 : decode cX4_readOne 43 = .ok (.imul, 1) := by decide +kernel
theorem dX4_readOne_44 : decode cX4_readOne 44 = .ok (.aload_n 0, 1) := by decide +kernel
theorem dX4_readOne_45 : decode cX4_readOne 45 = .ok (.invokevirtual 55, 3) := by decide +kernel
theorem dX4_readOne_48 : decode cX4_readOne 48 = .ok (.iadd, 1) := by decide +kernel
theorem dX4_readOne_49 : decode cX4_readOne 49 = .ok (.istore_n 2, 1) := by decide +kernel
theorem dX4_readOne_50 : decode cX4_readOne 50 = .ok (.aload_n 0, 1) := by decide +kernel
theorem dX4_readOne_51 : decode cX4_readOne 51 = .ok (.getfield 9, 3) := by decide +kernel
theorem dX4_readOne_54 : decode cX4_readOne 54 = .ok (.iload_n 1, 1) := by decide +kernel
theorem dX4_readOne_55 : decode cX4_readOne 55 = .ok (.iload_n 2, 1) := by decide +kernel
theorem dX4_readOne_56 : decode cX4_readOne 56 = .ok (.iastore, 1) := by decide +kernel
theorem dX4_readOne_57 : decode cX4_readOne 57 = .ok (.iconst 1, 1) := by decide +kernel
theorem dX4_readOne_58 : decode cX4_readOne 58 = .ok (.ireturn, 1) := by decide +kernel
theorem dX4_readName_0 : decode cX4_readName 0 = .ok (.iconst 0, 1) := by decide +kernel
theorem dX4_readName_1 : decode cX4_readName 1 = .ok (.istore_n 1, 1) := by decide +kernel
theorem dX4_readName_2 : decode cX4_readName 2 = .ok (.iconst 0, 1) := by decide +kernel
theorem dX4_readName_3 : decode cX4_readName 3 = .ok (.istore_n 2, 1) := by decide +kernel
theorem dX4_readName_4 : decode cX4_readName 4 = .ok (.iload_n 2, 1) := by decide +kernel
theorem dX4_readName_5 : decode cX4_readName 5 = .ok (.bipush 7, 2) := by decide +kernel
theorem dX4_readName_7 : decode cX4_readName 7 = .ok (.if_icmp .ge 47, 3) := by decide +kernel
theorem dX4_readName_10 : decode cX4_readName 10 = .ok (.aload_n 0, 1) := by decide +kernel
theorem dX4_readName_11 : decode cX4_readName 11 = .ok (.iload_n 2, 1) := by decide +kernel
theorem dX4_readName_12 : decode cX4_readName 12 = .ok (.invokestatic 58, 3) := by decide +kernel
theorem dX4_readName_15 : decode cX4_readName 15 = .ok (.invokevirtual 62, 3) := by decide +kernel
theorem dX4_readName_18 : decode cX4_readName 18 = .ok (.istore_n 3, 1) := by decide +kernel
theorem dX4_readName_19 : decode cX4_readName 19 = .ok (.iload_n 1, 1) := by decide +kernel
theorem dX4_readName_20 : decode cX4_readName 20 = .ok (.iload_n 3, 1) := by decide +kernel
theorem dX4_readName_21 : decode cX4_readName 21 = .ok (.invokestatic 66, 3) := by decide +kernel
theorem dX4_readName_24 : decode cX4_readName 24 = .ok (.istore_n 1, 1) := by decide +kernel
theorem dX4_readName_25 : decode cX4_readName 25 = .ok (.iload_n 3, 1) := by decide +kernel
theorem dX4_readName_26 : decode cX4_readName 26 = .ok (.iload_n 2, 1) := by decide +kernel
theorem dX4_readName_27 : decode cX4_readName 27 = .ok (.invokestatic 58, 3) := by decide +kernel
theorem dX4_readName_30 : decode cX4_readName 30 = .ok (.invokevirtual 72, 3) := by decide +kernel
theorem dX4_readName_33 : decode cX4_readName 33 = .ok (.if_icmp .ne 15, 3) := by decide +kernel
theorem dX4_readName_36 : decode cX4_readName 36 = .ok (.aload_n 0, 1) := by decide +kernel
theorem dX4_readName_37 : decode cX4_readName 37 = .ok (.dup, 1) := by decide +kernel
theorem dX4_readName_38 : decode cX4_readName 38 = .ok (.getfield 22, 3) := by decide +kernel
theorem dX4_readName_41 : decode cX4_readName 41 = .ok (.iload_n 3, 1) := by decide +kernel
theorem dX4_readName_42 : decode cX4_readName 42 = .ok (.iadd, 1) := by decide +kernel
theorem dX4_readName_43 : decode cX4_readName 43 = .ok (.putfield 22, 3) := by decide +kernel
theorem dX4_readName_46 : decode cX4_readName 46 = .ok (.iload_n 2, 1) := by decide +kernel
theorem dX4_readName_47 : decode cX4_readName 47 = .ok (.ireturn, 1) := by decide +kernel
theorem dX4_readName_48 : decode cX4_readName 48 = .ok (.iinc 2 1, 3) := by decide +kernel
theorem dX4_readName_51 : decode cX4_readName 51 = .ok (.goto (-47), 3) := by decide +kernel
theorem dX4_readName_54 : decode cX4_readName 54 = .ok (.aload_n 0, 1) := by decide +kernel
theorem dX4_readName_55 : decode cX4_readName 55 = .ok (.dup, 1) := by decide +kernel
theorem dX4_readName_56 : decode cX4_readName 56 = .ok (.getfield 22, 3) := by decide +kernel
theorem dX4_readName_59 : decode cX4_readName 59 = .ok (.iload_n 1, 1) := by decide +kernel
theorem dX4_readName_60 : decode cX4_readName 60 = .ok (.iadd, 1) := by decide +kernel
theorem dX4_readName_61 : decode cX4_readName 61 = .ok (.putfield 22, 3) := by decide +kernel
theorem dX4_readName_64 : decode cX4_readName 64 = .ok (.iconst (-1), 1) := by decide +kernel
theorem dX4_readName_65 : decode cX4_readName 65 = .ok (.ireturn, 1) := by decide +kernel
theorem dX4_countAlike_0 : decode cX4_countAlike 0 = .ok (.iconst 0, 1) := by decide +kernel
theorem dX4_countAlike_1 : decode cX4_countAlike 1 = .ok (.istore_n 2, 1) := by decide +kernel
theorem dX4_countAlike_2 : decode cX4_countAlike 2 = .ok (.iload_n 2, 1) := by decide +kernel
theorem dX4_countAlike_3 : decode cX4_countAlike 3 = .ok (.aload_n 1, 1) := by decide +kernel
theorem dX4_countAlike_4 : decode cX4_countAlike 4 = .ok (.invokevirtual 72, 3) := by decide +kernel
theorem dX4_countAlike_7 : decode cX4_countAlike 7 = .ok (.if_icmp .ge 22, 3) := by decide +kernel
theorem dX4_countAlike_10 : decode cX4_countAlike 10 = .ok (.aload_n 0, 1) := by decide +kernel
theorem dX4_countAlike_11 : decode cX4_countAlike 11 = .ok (.iload_n 2, 1) := by decide +kernel
theorem dX4_countAlike_12 : decode cX4_countAlike 12 = .ok (.aload_n 1, 1) := by decide +kernel
theorem dX4_countAlike_13 : decode cX4_countAlike 13 = .ok (.iload_n 2, 1) := by decide +kernel
theorem dX4_countAlike_14 : decode cX4_countAlike 14 = .ok (.invokevirtual 77, 3) := by decide +kernel
theorem dX4_countAlike_17 : decode cX4_countAlike 17 = .ok (.invokevirtual 81, 3) := by decide +kernel
theorem dX4_countAlike_20 : decode cX4_countAlike 20 = .ok (.ifCond .eq 9, 3) := by decide +kernel
theorem dX4_countAlike_23 : decode cX4_countAlike 23 = .ok (.iinc 2 1, 3) := by decide +kernel
theorem dX4_countAlike_26 : decode cX4_countAlike 26 = .ok (.goto (-24), 3) := by decide +kernel
theorem dX4_countAlike_29 : decode cX4_countAlike 29 = .ok (.iload_n 2, 1) := by decide +kernel
theorem dX4_countAlike_30 : decode cX4_countAlike 30 = .ok (.ireturn, 1) := by decide +kernel
theorem dX4_isNext_0 : decode cX4_isNext 0 = .ok (.aload_n 0, 1) := by decide +kernel
theorem dX4_isNext_1 : decode cX4_isNext 1 = .ok (.getfield 22, 3) := by decide +kernel
theorem dX4_isNext_4 : decode cX4_isNext 4 = .ok (.iload_n 1, 1) := by decide +kernel
theorem dX4_isNext_5 : decode cX4_isNext 5 = .ok (.iadd, 1) := by decide +kernel
theorem dX4_isNext_6 : decode cX4_isNext 6 = .ok (.aload_n 0, 1) := by decide +kernel
theorem dX4_isNext_7 : decode cX4_isNext 7 = .ok (.getfield 18, 3) := by decide +kernel
theorem dX4_isNext_10 : decode cX4_isNext 10 = .ok (.if_icmp .ge 22, 3) := by decide +kernel
theorem dX4_isNext_13 : decode cX4_isNext 13 = .ok (.aload_n 0, 1) := by decide +kernel
theorem dX4_isNext_14 : decode cX4_isNext 14 = .ok (.getfield 15, 3) := by decide +kernel
theorem dX4_isNext_17 : decode cX4_isNext 17 = .ok (.aload_n 0, 1) := by decide +kernel
theorem dX4_isNext_18 : decode cX4_isNext 18 = .ok (.getfield 22, 3) := by decide +kernel
theorem dX4_isNext_21 : decode cX4_isNext 21 = .ok (.iload_n 1, 1) := by decide +kernel
theorem dX4_isNext_22 : decode cX4_isNext 22 = .ok (.iadd, 1) := by decide +kernel
theorem dX4_isNext_23 : decode cX4_isNext 23 = .ok (.iaload, 1) := by decide +kernel
theorem dX4_isNext_24 : decode cX4_isNext 24 = .ok (.iload_n 2, 1) := by decide +kernel
theorem dX4_isNext_25 : decode cX4_isNext 25 = .ok (.if_icmp .ne 7, 3) := by decide +kernel
theorem dX4_isNext_28 : decode cX4_isNext 28 = .ok (.iconst 1, 1) := by decide +kernel
theorem dX4_isNext_29 : decode cX4_isNext 29 = .ok (.goto 4, 3) := by decide +kernel
theorem dX4_isNext_32 : decode cX4_isNext 32 = .ok (.iconst 0, 1) := by decide +kernel
theorem dX4_isNext_33 : decode cX4_isNext 33 = .ok (.ireturn, 1) := by decide +kernel
theorem dX4_pass_0 : decode cX4_pass 0 = .ok (.aload_n 0, 1) := by decide +kernel
theorem dX4_pass_1 : decode cX4_pass 1 = .ok (.iconst 0, 1) := by decide +kernel
theorem dX4_pass_2 : decode cX4_pass 2 = .ok (.iload_n 1, 1) := by decide +kernel
theorem dX4_pass_3 : decode cX4_pass 3 = .ok (.invokevirtual 81, 3) := by decide +kernel
theorem dX4_pass_6 : decode cX4_pass 6 = .ok (.ifCond .ne 5, 3) := by decide +kernel
theorem dX4_pass_9 : decode cX4_pass 9 = .ok (.iconst 0, 1) := by decide +kernel
theorem dX4_pass_10 : decode cX4_pass 10 = .ok (.ireturn, 1) := by decide +kernel
theorem dX4_pass_11 : decode cX4_pass 11 = .ok (.aload_n 0, 1) := by decide +kernel
theorem dX4_pass_12 : decode cX4_pass 12 = .ok (.dup, 1) := by decide +kernel
theorem dX4_pass_13 : decode cX4_pass 13 = .ok (.getfield 22, 3) := by decide +kernel
theorem dX4_pass_16 : decode cX4_pass 16 = .ok (.iconst 1, 1) := by decide +kernel
theorem dX4_pass_17 : decode cX4_pass 17 = .ok (.iadd, 1) := by decide +kernel
theorem dX4_pass_18 : decode cX4_pass 18 = .ok (.putfield 22, 3) := by decide +kernel
theorem dX4_pass_21 : decode cX4_pass 21 = .ok (.iconst 1, 1) := by decide +kernel
theorem dX4_pass_22 : decode cX4_pass 22 = .ok (.ireturn, 1) := by decide +kernel
theorem dX4_isDigit_0 : decode cX4_isDigit 0 = .ok (.aload_n 0, 1) := by decide +kernel
theorem dX4_isDigit_1 : decode cX4_isDigit 1 = .ok (.getfield 22, 3) := by decide +kernel
theorem dX4_isDigit_4 : decode cX4_isDigit 4 = .ok (.aload_n 0, 1) := by decide +kernel
theorem dX4_isDigit_5 : decode cX4_isDigit 5 = .ok (.getfield 18, 3) := by decide +kernel
theorem dX4_isDigit_8 : decode cX4_isDigit 8 = .ok (.if_icmp .ge 26, 3) := by decide +kernel
theorem dX4_isDigit_11 : decode cX4_isDigit 11 = .ok (.aload_n 0, 1) := by decide +kernel
theorem dX4_isDigit_12 : decode cX4_isDigit 12 = .ok (.getfield 15, 3) := by decide +kernel
theorem dX4_isDigit_15 : decode cX4_isDigit 15 = .ok (.aload_n 0, 1) := by decide +kernel
theorem dX4_isDigit_16 : decode cX4_isDigit 16 = .ok (.getfield 22, 3) := by decide +kernel
theorem dX4_isDigit_19 : decode cX4_isDigit 19 = .ok (.iaload, 1) := by decide +kernel
theorem dX4_isDigit_20 : decode cX4_isDigit 20 = .ok (.bipush 48, 2) := by decide +kernel
theorem dX4_isDigit_22 : decode cX4_isDigit 22 = .ok (.bipush 57, 2) := by decide +kernel
theorem dX4_isDigit_24 : decode cX4_isDigit 24 = .ok (.invokestatic 85, 3) := by decide +kernel
theorem dX4_isDigit_27 : decode cX4_isDigit 27 = .ok (.ifCond .eq 7, 3) := by decide +kernel
theorem dX4_isDigit_30 : decode cX4_isDigit 30 = .ok (.iconst 1, 1) := by decide +kernel
theorem dX4_isDigit_31 : decode cX4_isDigit 31 = .ok (.goto 4, 3) := by decide +kernel
theorem dX4_isDigit_34 : decode cX4_isDigit 34 = .ok (.iconst 0, 1) := by decide +kernel
theorem dX4_isDigit_35 : decode cX4_isDigit 35 = .ok (.ireturn, 1) := by decide +kernel
theorem dX4_passDigit_0 : decode cX4_passDigit 0 = .ok (.aload_n 0, 1) := by decide +kernel
theorem dX4_passDigit_1 : decode cX4_passDigit 1 = .ok (.getfield 15, 3) := by decide +kernel
theorem dX4_passDigit_4 : decode cX4_passDigit 4 = .ok (.aload_n 0, 1) := by decide +kernel
theorem dX4_passDigit_5 : decode cX4_passDigit 5 = .ok (.getfield 22, 3) := by decide +kernel
theorem dX4_passDigit_8 : decode cX4_passDigit 8 = .ok (.iaload, 1) := by decide +kernel
theorem dX4_passDigit_9 : decode cX4_passDigit 9 = .ok (.bipush 48, 2) := by decide +kernel
theorem dX4_passDigit_11 : decode cX4_passDigit 11 = .ok (.isub, 1) := by decide +kernel
theorem dX4_passDigit_12 : decode cX4_passDigit 12 = .ok (.istore_n 1, 1) := by decide +kernel
theorem dX4_passDigit_13 : decode cX4_passDigit 13 = .ok (.aload_n 0, 1) := by decide +kernel
theorem dX4_passDigit_14 : decode cX4_passDigit 14 = .ok (.dup, 1) := by decide +kernel
theorem dX4_passDigit_15 : decode cX4_passDigit 15 = .ok (.getfield 22, 3) := by decide +kernel
theorem dX4_passDigit_18 : decode cX4_passDigit 18 = .ok (.iconst 1, 1) := by decide +kernel
theorem dX4_passDigit_19 : decode cX4_passDigit 19 = .ok (.iadd, 1) := by decide +kernel
theorem dX4_passDigit_20 : decode cX4_passDigit 20 = .ok (.putfield 22, 3) := by decide +kernel
theorem dX4_passDigit_23 : decode cX4_passDigit 23 = .ok (.iload_n 1, 1) := by decide +kernel
theorem dX4_passDigit_24 : decode cX4_passDigit 24 = .ok (.ireturn, 1) := by decide +kernel
theorem dX4_nameOf_0 : decode cX4_nameOf 0 = .ok (.iload_n 0, 1) := by decide +kernel
theorem dX4_nameOf_1 : decode cX4_nameOf 1 = .ok (.tableswitch 57 0 5 #[39, 42, 45, 48, 51, 54], 39) := by decide +kernel
theorem dX4_nameOf_40 : decode cX4_nameOf 40 = .ok (.ldc 89, 2) := by decide +kernel
theorem dX4_nameOf_42 : decode cX4_nameOf 42 = .ok (.areturn, 1) := by decide +kernel
theorem dX4_nameOf_43 : decode cX4_nameOf 43 = .ok (.ldc 91, 2) := by decide +kernel
theorem dX4_nameOf_45 : decode cX4_nameOf 45 = .ok (.areturn, 1) := by decide +kernel
theorem dX4_nameOf_46 : decode cX4_nameOf 46 = .ok (.ldc 93, 2) := by decide +kernel
theorem dX4_nameOf_48 : decode cX4_nameOf 48 = .ok (.areturn, 1) := by decide +kernel
theorem dX4_nameOf_49 : decode cX4_nameOf 49 = .ok (.ldc 95, 2) := by decide +kernel
theorem dX4_nameOf_51 : decode cX4_nameOf 51 = .ok (.areturn, 1) := by decide +kernel
theorem dX4_nameOf_52 : decode cX4_nameOf 52 = .ok (.ldc 97, 2) := by decide +kernel
theorem dX4_nameOf_54 : decode cX4_nameOf 54 = .ok (.areturn, 1) := by decide +kernel
theorem dX4_nameOf_55 : decode cX4_nameOf 55 = .ok (.ldc 99, 2) := by decide +kernel
theorem dX4_nameOf_57 : decode cX4_nameOf 57 = .ok (.areturn, 1) := by decide +kernel
theorem dX4_nameOf_58 : decode cX4_nameOf 58 = .ok (.ldc 101, 2) := by decide +kernel
theorem dX4_nameOf_60 : decode cX4_nameOf 60 = .ok (.areturn, 1) := by decide +kernel
theorem dX5_init_0 : decode cX5_init 0 = .ok (.aload_n 0, 1) := by decide +kernel
theorem dX5_init_1 : decode cX5_init 1 = .ok (.invokespecial 3, 3) := by decide +kernel
theorem dX5_init_4 : decode cX5_init 4 = .ok (.aload_n 0, 1) := by decide +kernel
theorem dX5_init_5 : decode cX5_init 5 = .ok (.bipush 8, 2) := by decide +kernel
theorem dX5_init_7 : decode cX5_init 7 = .ok (.newarray .int, 2) := by decide +kernel
theorem dX5_init_9 : decode cX5_init 9 = .ok (.putfield 9, 3) := by decide +kernel
theorem dX5_init_12 : decode cX5_init 12 = .ok (.aload_n 0, 1) := by decide +kernel
theorem dX5_init_13 : decode cX5_init 13 = .ok (.iconst 0, 1) := by decide +kernel
theorem dX5_init_14 : decode cX5_init 14 = .ok (.putfield 15, 3) := by decide +kernel
theorem dX5_init_17 : decode cX5_init 17 = .ok (.return_, 1) := by decide +kernel
theorem dX5_become_0 : decode cX5_become 0 = .ok (.aload_n 1, 1) := by decide +kernel
theorem dX5_become_1 : decode cX5_become 1 = .ok (.getfield 9, 3) := by decide +kernel
theorem dX5_become_4 : decode cX5_become 4 = .ok (.iconst 0, 1) := by decide +kernel
theorem dX5_become_5 : decode cX5_become 5 = .ok (.aload_n 0, 1) := by decide +kernel
theorem dX5_become_6 : decode cX5_become 6 = .ok (.getfield 9, 3) := by decide +kernel
theorem dX5_become_9 : decode cX5_become 9 = .ok (.iconst 0, 1) := by decide +kernel
theorem dX5_become_10 : decode cX5_become 10 = .ok (.bipush 8, 2) := by decide +kernel
theorem dX5_become_12 : decode cX5_become 12 = .ok (.invokestatic 19, 3) := by decide +kernel
theorem dX5_become_15 : decode cX5_become 15 = .ok (.aload_n 0, 1) := by decide +kernel
theorem dX5_become_16 : decode cX5_become 16 = .ok (.aload_n 1, 1) := by decide +kernel
theorem dX5_become_17 : decode cX5_become 17 = .ok (.getfield 15, 3) := by decide +kernel
theorem dX5_become_20 : decode cX5_become 20 = .ok (.putfield 15, 3) := by decide +kernel
theorem dX5_become_23 : decode cX5_become 23 = .ok (.return_, 1) := by decide +kernel
theorem dX5_has_0 : decode cX5_has 0 = .ok (.iload_n 1, 1) := by decide +kernel
theorem dX5_has_1 : decode cX5_has 1 = .ok (.ifCond .lt 15, 3) := by decide +kernel
theorem dX5_has_4 : decode cX5_has 4 = .ok (.iload_n 1, 1) := by decide +kernel
theorem dX5_has_5 : decode cX5_has 5 = .ok (.aload_n 0, 1) := by decide +kernel
theorem dX5_has_6 : decode cX5_has 6 = .ok (.getfield 15, 3) := by decide +kernel
theorem dX5_has_9 : decode cX5_has 9 = .ok (.if_icmp .ge 7, 3) := by decide +kernel
theorem dX5_has_12 : decode cX5_has 12 = .ok (.iconst 1, 1) := by decide +kernel
theorem dX5_has_13 : decode cX5_has 13 = .ok (.goto 4, 3) := by decide +kernel
theorem dX5_has_16 : decode cX5_has 16 = .ok (.iconst 0, 1) := by decide +kernel
theorem dX5_has_17 : decode cX5_has 17 = .ok (.ireturn, 1) := by decide +kernel
theorem dX5_add_0 : decode cX5_add 0 = .ok (.aload_n 0, 1) := by decide +kernel
theorem dX5_add_1 : decode cX5_add 1 = .ok (.getfield 15, 3) := by decide +kernel
theorem dX5_add_4 : decode cX5_add 4 = .ok (.bipush 8, 2) := by decide +kernel
theorem dX5_add_6 : decode cX5_add 6 = .ok (.if_icmp .lt 5, 3) := by decide +kernel
theorem dX5_add_9 : decode cX5_add 9 = .ok (.iconst (-1), 1) := by decide +kernel
theorem dX5_add_10 : decode cX5_add 10 = .ok (.ireturn, 1) := by decide +kernel
theorem dX5_add_11 : decode cX5_add 11 = .ok (.aload_n 0, 1) := by decide +kernel
theorem dX5_add_12 : decode cX5_add 12 = .ok (.getfield 9, 3) := by decide +kernel
theorem dX5_add_15 : decode cX5_add 15 = .ok (.aload_n 0, 1) := by decide +kernel
theorem dX5_add_16 : decode cX5_add 16 = .ok (.getfield 15, 3) := by decide +kernel
theorem dX5_add_19 : decode cX5_add 19 = .ok (.iload_n 1, 1) := by decide +kernel
theorem dX5_add_20 : decode cX5_add 20 = .ok (.iastore, 1) := by decide +kernel
theorem dX5_add_21 : decode cX5_add 21 = .ok (.aload_n 0, 1) := by decide +kernel
theorem dX5_add_22 : decode cX5_add 22 = .ok (.dup, 1) := by decide +kernel
theorem dX5_add_23 : decode cX5_add 23 = .ok (.getfield 15, 3) := by decide +kernel
theorem dX5_add_26 : decode cX5_add 26 = .ok (.iconst 1, 1) := by decide +kernel
theorem dX5_add_27 : decode cX5_add 27 = .ok (.iadd, 1) := by decide +kernel
theorem dX5_add_28 : decode cX5_add 28 = .ok (.putfield 15, 3) := by decide +kernel
theorem dX5_add_31 : decode cX5_add 31 = .ok (.aload_n 0, 1) := by decide +kernel
theorem dX5_add_32 : decode cX5_add 32 = .ok (.getfield 15, 3) := by decide +kernel
theorem dX5_add_35 : decode cX5_add 35 = .ok (.iconst 1, 1) := by decide +kernel
theorem dX5_add_36 : decode cX5_add 36 = .ok (.isub, 1) := by decide +kernel
theorem dX5_add_37 : decode cX5_add 37 = .ok (.ireturn, 1) := by decide +kernel
theorem dX6_init_0 : decode cX6_init 0 = .ok (.aload_n 0, 1) := by decide +kernel
theorem dX6_init_1 : decode cX6_init 1 = .ok (.invokespecial 3, 3) := by decide +kernel
theorem dX6_init_4 : decode cX6_init 4 = .ok (.aload_n 0, 1) := by decide +kernel
theorem dX6_init_5 : decode cX6_init 5 = .ok (.bipush 8, 2) := by decide +kernel
theorem dX6_init_7 : decode cX6_init 7 = .ok (.newarray .int, 2) := by decide +kernel
theorem dX6_init_9 : decode cX6_init 9 = .ok (.putfield 9, 3) := by decide +kernel
theorem dX6_init_12 : decode cX6_init 12 = .ok (.aload_n 0, 1) := by decide +kernel
theorem dX6_init_13 : decode cX6_init 13 = .ok (.bipush 8, 2) := by decide +kernel
theorem dX6_init_15 : decode cX6_init 15 = .ok (.newarray .int, 2) := by decide +kernel
theorem dX6_init_17 : decode cX6_init 17 = .ok (.putfield 15, 3) := by decide +kernel
theorem dX6_init_20 : decode cX6_init 20 = .ok (.aload_n 0, 1) := by decide +kernel
theorem dX6_init_21 : decode cX6_init 21 = .ok (.bipush 8, 2) := by decide +kernel
theorem dX6_init_23 : decode cX6_init 23 = .ok (.bipush 100, 2) := by decide +kernel
theorem dX6_init_25 : decode cX6_init 25 = .ok (.multianewarray 18 2, 4) := by decide +kernel
theorem dX6_init_29 : decode cX6_init 29 = .ok (.putfield 20, 3) := by decide +kernel
theorem dX6_init_32 : decode cX6_init 32 = .ok (.aload_n 0, 1) := by decide +kernel
theorem dX6_init_33 : decode cX6_init 33 = .ok (.getfield 9, 3) := by decide +kernel
theorem dX6_init_36 : decode cX6_init 36 = .ok (.iconst (-1), 1) := by decide +kernel
theorem dX6_init_37 : decode cX6_init 37 = .ok (.invokestatic 23, 3) := by decide +kernel
theorem dX6_init_40 : decode cX6_init 40 = .ok (.return_, 1) := by decide +kernel
theorem dX6_holdsRow_0 : decode cX6_holdsRow 0 = .ok (.iload_n 1, 1) := by decide +kernel
theorem dX6_holdsRow_1 : decode cX6_holdsRow 1 = .ok (.invokestatic 29, 3) := by decide +kernel
theorem dX6_holdsRow_4 : decode cX6_holdsRow 4 = .ok (.ifCond .eq 18, 3) := by decide +kernel
theorem dX6_holdsRow_7 : decode cX6_holdsRow 7 = .ok (.aload_n 0, 1) := by decide +kernel
theorem dX6_holdsRow_8 : decode cX6_holdsRow 8 = .ok (.getfield 9, 3) := by decide +kernel
theorem dX6_holdsRow_11 : decode cX6_holdsRow 11 = .ok (.iload_n 1, 1) := by decide +kernel
theorem dX6_holdsRow_12 : decode cX6_holdsRow 12 = .ok (.iaload, 1) := by decide +kernel
theorem dX6_holdsRow_13 : decode cX6_holdsRow 13 = .ok (.bipush 100, 2) := by decide +kernel
theorem dX6_holdsRow_15 : decode cX6_holdsRow 15 = .ok (.if_icmp .lt 7, 3) := by decide +kernel
theorem dX6_holdsRow_18 : decode cX6_holdsRow 18 = .ok (.iconst 1, 1) := by decide +kernel
theorem dX6_holdsRow_19 : decode cX6_holdsRow 19 = .ok (.goto 4, 3) := by decide +kernel
theorem dX6_holdsRow_22 : decode cX6_holdsRow 22 = .ok (.iconst 0, 1) := by decide +kernel
theorem dX6_holdsRow_23 : decode cX6_holdsRow 23 = .ok (.ireturn, 1) := by decide +kernel
theorem dX6_holdsPerson_0 : decode cX6_holdsPerson 0 = .ok (.iload_n 1, 1) := by decide +kernel
theorem dX6_holdsPerson_1 : decode cX6_holdsPerson 1 = .ok (.invokestatic 29, 3) := by decide +kernel
theorem dX6_holdsPerson_4 : decode cX6_holdsPerson 4 = .ok (.ifCond .eq 28, 3) := by decide +kernel
theorem dX6_holdsPerson_7 : decode cX6_holdsPerson 7 = .ok (.aload_n 0, 1) := by decide +kernel
theorem dX6_holdsPerson_8 : decode cX6_holdsPerson 8 = .ok (.getfield 9, 3) := by decide +kernel
theorem dX6_holdsPerson_11 : decode cX6_holdsPerson 11 = .ok (.iload_n 1, 1) := by decide +kernel
theorem dX6_holdsPerson_12 : decode cX6_holdsPerson 12 = .ok (.iaload, 1) := by decide +kernel
theorem dX6_holdsPerson_13 : decode cX6_holdsPerson 13 = .ok (.iconst (-1), 1) := by decide +kernel
theorem dX6_holdsPerson_14 : decode cX6_holdsPerson 14 = .ok (.if_icmp .eq 18, 3) := by decide +kernel
theorem dX6_holdsPerson_17 : decode cX6_holdsPerson 17 = .ok (.aload_n 0, 1) := by decide +kernel
theorem dX6_holdsPerson_18 : decode cX6_holdsPerson 18 = .ok (.getfield 9, 3) := by decide +kernel
theorem dX6_holdsPerson_21 : decode cX6_holdsPerson 21 = .ok (.iload_n 1, 1) := by decide +kernel
theorem dX6_holdsPerson_22 : decode cX6_holdsPerson 22 = .ok (.iaload, 1) := by decide +kernel
theorem dX6_holdsPerson_23 : decode cX6_holdsPerson 23 = .ok (.bipush 100, 2) := by decide +kernel
theorem dX6_holdsPerson_25 : decode cX6_holdsPerson 25 = .ok (.if_icmp .ge 7, 3) := by decide +kernel
theorem dX6_holdsPerson_28 : decode cX6_holdsPerson 28 = .ok (.iconst 1, 1) := by decide +kernel
theorem dX6_holdsPerson_29 : decode cX6_holdsPerson 29 = .ok (.goto 4, 3) := by decide +kernel
theorem dX6_holdsPerson_32 : decode cX6_holdsPerson 32 = .ok (.iconst 0, 1) := by decide +kernel
theorem dX6_holdsPerson_33 : decode cX6_holdsPerson 33 = .ok (.ireturn, 1) := by decide +kernel
theorem dX6_hasElement_0 : decode cX6_hasElement 0 = .ok (.aload_n 0, 1) := by decide +kernel
theorem dX6_hasElement_1 : decode cX6_hasElement 1 = .ok (.iload_n 1, 1) := by decide +kernel
theorem dX6_hasElement_2 : decode cX6_hasElement 2 = .ok (.invokevirtual 33, 3) := by decide +kernel
theorem dX6_hasElement_5 : decode cX6_hasElement 5 = .ok (.ifCond .eq 21, 3) := by decide +kernel
theorem dX6_hasElement_8 : decode cX6_hasElement 8 = .ok (.iload_n 2, 1) := by decide +kernel
theorem dX6_hasElement_9 : decode cX6_hasElement 9 = .ok (.ifCond .lt 17, 3) := by decide +kernel
theorem dX6_hasElement_12 : decode cX6_hasElement 12 = .ok (.iload_n 2, 1) := by decide +kernel
theorem dX6_hasElement_13 : decode cX6_hasElement 13 = .ok (.aload_n 0, 1) := by decide +kernel
theorem dX6_hasElement_14 : decode cX6_hasElement 14 = .ok (.getfield 15, 3) := by decide +kernel
theorem dX6_hasElement_17 : decode cX6_hasElement 17 = .ok (.iload_n 1, 1) := by decide +kernel
theorem dX6_hasElement_18 : decode cX6_hasElement 18 = .ok (.iaload, 1) := by decide +kernel
theorem dX6_hasElement_19 : decode cX6_hasElement 19 = .ok (.if_icmp .ge 7, 3) := by decide +kernel
theorem dX6_hasElement_22 : decode cX6_hasElement 22 = .ok (.iconst 1, 1) := by decide +kernel
theorem dX6_hasElement_23 : decode cX6_hasElement 23 = .ok (.goto 4, 3) := by decide +kernel
theorem dX6_hasElement_26 : decode cX6_hasElement 26 = .ok (.iconst 0, 1) := by decide +kernel
theorem dX6_hasElement_27 : decode cX6_hasElement 27 = .ok (.ireturn, 1) := by decide +kernel
theorem dX6_hasPart_0 : decode cX6_hasPart 0 = .ok (.aload_n 0, 1) := by decide +kernel
theorem dX6_hasPart_1 : decode cX6_hasPart 1 = .ok (.iload_n 1, 1) := by decide +kernel
theorem dX6_hasPart_2 : decode cX6_hasPart 2 = .ok (.invokevirtual 33, 3) := by decide +kernel
theorem dX6_hasPart_5 : decode cX6_hasPart 5 = .ok (.ifCond .eq 31, 3) := by decide +kernel
theorem dX6_hasPart_8 : decode cX6_hasPart 8 = .ok (.iload_n 2, 1) := by decide +kernel
theorem dX6_hasPart_9 : decode cX6_hasPart 9 = .ok (.ifCond .lt 27, 3) := by decide +kernel
theorem dX6_hasPart_12 : decode cX6_hasPart 12 = .ok (.iload_n 3, 1) := by decide +kernel
theorem dX6_hasPart_13 : decode cX6_hasPart 13 = .ok (.ifCond .lt 23, 3) := by decide +kernel
theorem dX6_hasPart_16 : decode cX6_hasPart 16 = .ok (.iload_n 2, 1) := by decide +kernel
theorem dX6_hasPart_17 : decode cX6_hasPart 17 = .ok (.i2l, 1) := by decide +kernel
theorem dX6_hasPart_18 : decode cX6_hasPart 18 = .ok (.iload_n 3, 1) := by decide +kernel
theorem dX6_hasPart_19 : decode cX6_hasPart 19 = .ok (.i2l, 1) := by decide +kernel
theorem dX6_hasPart_20 : decode cX6_hasPart 20 = .ok (.ladd, 1) := by decide +kernel
theorem dX6_hasPart_21 : decode cX6_hasPart 21 = .ok (.aload_n 0, 1) := by decide +kernel
theorem dX6_hasPart_22 : decode cX6_hasPart 22 = .ok (.getfield 15, 3) := by decide +kernel
theorem dX6_hasPart_25 : decode cX6_hasPart 25 = .ok (.iload_n 1, 1) := by decide +kernel
theorem dX6_hasPart_26 : decode cX6_hasPart 26 = .ok (.iaload, 1) := by decide +kernel
theorem dX6_hasPart_27 : decode cX6_hasPart 27 = .ok (.i2l, 1) := by decide +kernel
theorem dX6_hasPart_28 : decode cX6_hasPart 28 = .ok (.lcmp, 1) := by decide +kernel
theorem dX6_hasPart_29 : decode cX6_hasPart 29 = .ok (.ifCond .gt 7, 3) := by decide +kernel
theorem dX6_hasPart_32 : decode cX6_hasPart 32 = .ok (.iconst 1, 1) := by decide +kernel
theorem dX6_hasPart_33 : decode cX6_hasPart 33 = .ok (.goto 4, 3) := by decide +kernel
theorem dX6_hasPart_36 : decode cX6_hasPart 36 = .ok (.iconst 0, 1) := by decide +kernel
theorem dX6_hasPart_37 : decode cX6_hasPart 37 = .ok (.ireturn, 1) := by decide +kernel
theorem dX6_putRow_0 : decode cX6_putRow 0 = .ok (.aload_n 0, 1) := by decide +kernel
theorem dX6_putRow_1 : decode cX6_putRow 1 = .ok (.getfield 9, 3) := by decide +kernel
theorem dX6_putRow_4 : decode cX6_putRow 4 = .ok (.iload_n 1, 1) := by decide +kernel
theorem dX6_putRow_5 : decode cX6_putRow 5 = .ok (.bipush 100, 2) := by decide +kernel
theorem dX6_putRow_7 : decode cX6_putRow 7 = .ok (.iload_n 2, 1) := by decide +kernel
theorem dX6_putRow_8 : decode cX6_putRow 8 = .ok (.iadd, 1) := by decide +kernel
theorem dX6_putRow_9 : decode cX6_putRow 9 = .ok (.iastore, 1) := by decide +kernel
theorem dX6_putRow_10 : decode cX6_putRow 10 = .ok (.aload_n 0, 1) := by decide +kernel
theorem dX6_putRow_11 : decode cX6_putRow 11 = .ok (.getfield 15, 3) := by decide +kernel
theorem dX6_putRow_14 : decode cX6_putRow 14 = .ok (.iload_n 1, 1) := by decide +kernel
theorem dX6_putRow_15 : decode cX6_putRow 15 = .ok (.iload_n 3, 1) := by decide +kernel
theorem dX6_putRow_16 : decode cX6_putRow 16 = .ok (.iastore, 1) := by decide +kernel
theorem dX6_putRow_17 : decode cX6_putRow 17 = .ok (.aload_n 0, 1) := by decide +kernel
theorem dX6_putRow_18 : decode cX6_putRow 18 = .ok (.getfield 20, 3) := by decide +kernel
theorem dX6_putRow_21 : decode cX6_putRow 21 = .ok (.iload_n 1, 1) := by decide +kernel
theorem dX6_putRow_22 : decode cX6_putRow 22 = .ok (.aaload, 1) := by decide +kernel
theorem dX6_putRow_23 : decode cX6_putRow 23 = .ok (.lconst 0, 1) := by decide +kernel
theorem dX6_putRow_24 : decode cX6_putRow 24 = .ok (.invokestatic 36, 3) := by decide +kernel
theorem dX6_putRow_27 : decode cX6_putRow 27 = .ok (.return_, 1) := by decide +kernel
theorem dX6_putElement_0 : decode cX6_putElement 0 = .ok (.aload_n 0, 1) := by decide +kernel
theorem dX6_putElement_1 : decode cX6_putElement 1 = .ok (.getfield 9, 3) := by decide +kernel
theorem dX6_putElement_4 : decode cX6_putElement 4 = .ok (.iload_n 1, 1) := by decide +kernel
theorem dX6_putElement_5 : decode cX6_putElement 5 = .ok (.iaload, 1) := by decide +kernel
theorem dX6_putElement_6 : decode cX6_putElement 6 = .ok (.bipush 100, 2) := by decide +kernel
theorem dX6_putElement_8 : decode cX6_putElement 8 = .ok (.isub, 1) := by decide +kernel
theorem dX6_putElement_9 : decode cX6_putElement 9 = .ok (.tableswitch 71 0 2 #[27, 42, 57], 27) := by decide +kernel
theorem dX6_putElement_36 : decode cX6_putElement 36 = .ok (.aload_n 0, 1) := by decide +kernel
theorem dX6_putElement_37 : decode cX6_putElement 37 = .ok (.getfield 20, 3) := by decide +kernel
theorem dX6_putElement_40 : decode cX6_putElement 40 = .ok (.iload_n 1, 1) := by decide +kernel
theorem dX6_putElement_41 : decode cX6_putElement 41 = .ok (.aaload, 1) := by decide +kernel
theorem dX6_putElement_42 : decode cX6_putElement 42 = .ok (.iload_n 2, 1) := by decide +kernel
theorem dX6_putElement_43 : decode cX6_putElement 43 = .ok (.lload_n 3, 1) := by decide +kernel
theorem dX6_putElement_44 : decode cX6_putElement 44 = .ok (.l2i, 1) := by decide +kernel
theorem dX6_putElement_45 : decode cX6_putElement 45 = .ok (.i2b, 1) := by decide +kernel
theorem dX6_putElement_46 : decode cX6_putElement 46 = .ok (.i2l, 1) := by decide +kernel
theorem dX6_putElement_47 : decode cX6_putElement 47 = .ok (.lastore, 1) := by decide +kernel
theorem dX6_putElement_48 : decode cX6_putElement 48 = .ok (.goto 41, 3) := by decide +kernel
theorem dX6_putElement_51 : decode cX6_putElement 51 = .ok (.aload_n 0, 1) := by decide +kernel
theorem dX6_putElement_52 : decode cX6_putElement 52 = .ok (.getfield 20, 3) := by decide +kernel
theorem dX6_putElement_55 : decode cX6_putElement 55 = .ok (.iload_n 1, 1) := by decide +kernel
theorem dX6_putElement_56 : decode cX6_putElement 56 = .ok (.aaload, 1) := by decide +kernel
theorem dX6_putElement_57 : decode cX6_putElement 57 = .ok (.iload_n 2, 1) := by decide +kernel
theorem dX6_putElement_58 : decode cX6_putElement 58 = .ok (.lload_n 3, 1) := by decide +kernel
theorem dX6_putElement_59 : decode cX6_putElement 59 = .ok (.l2i, 1) := by decide +kernel
theorem dX6_putElement_60 : decode cX6_putElement 60 = .ok (.i2s, 1) := by decide +kernel
theorem dX6_putElement_61 : decode cX6_putElement 61 = .ok (.i2l, 1) := by decide +kernel
theorem dX6_putElement_62 : decode cX6_putElement 62 = .ok (.lastore, 1) := by decide +kernel
theorem dX6_putElement_63 : decode cX6_putElement 63 = .ok (.goto 26, 3) := by decide +kernel
theorem dX6_putElement_66 : decode cX6_putElement 66 = .ok (.aload_n 0, 1) := by decide +kernel
theorem dX6_putElement_67 : decode cX6_putElement 67 = .ok (.getfield 20, 3) := by decide +kernel
theorem dX6_putElement_70 : decode cX6_putElement 70 = .ok (.iload_n 1, 1) := by decide +kernel
theorem dX6_putElement_71 : decode cX6_putElement 71 = .ok (.aaload, 1) := by decide +kernel
theorem dX6_putElement_72 : decode cX6_putElement 72 = .ok (.iload_n 2, 1) := by decide +kernel
theorem dX6_putElement_73 : decode cX6_putElement 73 = .ok (.lload_n 3, 1) := by decide +kernel
theorem dX6_putElement_74 : decode cX6_putElement 74 = .ok (.l2i, 1) := by decide +kernel
theorem dX6_putElement_75 : decode cX6_putElement 75 = .ok (.i2l, 1) := by decide +kernel
theorem dX6_putElement_76 : decode cX6_putElement 76 = .ok (.lastore, 1) := by decide +kernel
theorem dX6_putElement_77 : decode cX6_putElement 77 = .ok (.goto 12, 3) := by decide +kernel
theorem dX6_putElement_80 : decode cX6_putElement 80 = .ok (.aload_n 0, 1) := by decide +kernel
theorem dX6_putElement_81 : decode cX6_putElement 81 = .ok (.getfield 20, 3) := by decide +kernel
theorem dX6_putElement_84 : decode cX6_putElement 84 = .ok (.iload_n 1, 1) := by decide +kernel
theorem dX6_putElement_85 : decode cX6_putElement 85 = .ok (.aaload, 1) := by decide +kernel
theorem dX6_putElement_86 : decode cX6_putElement 86 = .ok (.iload_n 2, 1) := by decide +kernel
theorem dX6_putElement_87 : decode cX6_putElement 87 = .ok (.lload_n 3, 1) := by decide +kernel
theorem dX6_putElement_88 : decode cX6_putElement 88 = .ok (.lastore, 1) := by decide +kernel
theorem dX6_putElement_89 : decode cX6_putElement 89 = .ok (.return_, 1) := by decide +kernel
theorem dX6_copyPart_0 : decode cX6_copyPart 0 = .ok (.aload_n 0, 1) := by decide +kernel
theorem dX6_copyPart_1 : decode cX6_copyPart 1 = .ok (.getfield 20, 3) := by decide +kernel
theorem dX6_copyPart_4 : decode cX6_copyPart 4 = .ok (.iload_n 1, 1) := by decide +kernel
theorem dX6_copyPart_5 : decode cX6_copyPart 5 = .ok (.aaload, 1) := by decide +kernel
theorem dX6_copyPart_6 : decode cX6_copyPart 6 = .ok (.iload_n 3, 1) := by decide +kernel
theorem dX6_copyPart_7 : decode cX6_copyPart 7 = .ok (.aload_n 0, 1) := by decide +kernel
theorem dX6_copyPart_8 : decode cX6_copyPart 8 = .ok (.getfield 20, 3) := by decide +kernel
theorem dX6_copyPart_11 : decode cX6_copyPart 11 = .ok (.iload_n 2, 1) := by decide +kernel
theorem dX6_copyPart_12 : decode cX6_copyPart 12 = .ok (.aaload, 1) := by decide +kernel
theorem dX6_copyPart_13 : decode cX6_copyPart 13 = .ok (.iload 4, 2) := by decide +kernel
theorem dX6_copyPart_15 : decode cX6_copyPart 15 = .ok (.iload 5, 2) := by decide +kernel
theorem dX6_copyPart_17 : decode cX6_copyPart 17 = .ok (.invokestatic 39, 3) := by decide +kernel
theorem dX6_copyPart_20 : decode cX6_copyPart 20 = .ok (.return_, 1) := by decide +kernel
theorem dX6_elementOr0_0 : decode cX6_elementOr0 0 = .ok (.aload_n 0, 1) := by decide +kernel
theorem dX6_elementOr0_1 : decode cX6_elementOr0 1 = .ok (.iload_n 1, 1) := by decide +kernel
theorem dX6_elementOr0_2 : decode cX6_elementOr0 2 = .ok (.iload_n 2, 1) := by decide +kernel
theorem dX6_elementOr0_3 : decode cX6_elementOr0 3 = .ok (.invokevirtual 45, 3) := by decide +kernel
theorem dX6_elementOr0_6 : decode cX6_elementOr0 6 = .ok (.ifCond .eq 14, 3) := by decide +kernel
theorem dX6_elementOr0_9 : decode cX6_elementOr0 9 = .ok (.aload_n 0, 1) := by decide +kernel
theorem dX6_elementOr0_10 : decode cX6_elementOr0 10 = .ok (.getfield 20, 3) := by decide +kernel
theorem dX6_elementOr0_13 : decode cX6_elementOr0 13 = .ok (.iload_n 1, 1) := by decide +kernel
theorem dX6_elementOr0_14 : decode cX6_elementOr0 14 = .ok (.aaload, 1) := by decide +kernel
theorem dX6_elementOr0_15 : decode cX6_elementOr0 15 = .ok (.iload_n 2, 1) := by decide +kernel
theorem dX6_elementOr0_16 : decode cX6_elementOr0 16 = .ok (.laload, 1) := by decide +kernel
theorem dX6_elementOr0_17 : decode cX6_elementOr0 17 = .ok (.goto 4, 3) := by decide +kernel
theorem dX6_elementOr0_20 : decode cX6_elementOr0 20 = .ok (.lconst 0, 1) := by decide +kernel
theorem dX6_elementOr0_21 : decode cX6_elementOr0 21 = .ok (.lreturn, 1) := by decide +kernel
theorem dX6_intOr0_0 : decode cX6_intOr0 0 = .ok (.aload_n 0, 1) := by decide +kernel
theorem dX6_intOr0_1 : decode cX6_intOr0 1 = .ok (.iload_n 1, 1) := by decide +kernel
theorem dX6_intOr0_2 : decode cX6_intOr0 2 = .ok (.iload_n 2, 1) := by decide +kernel
theorem dX6_intOr0_3 : decode cX6_intOr0 3 = .ok (.invokevirtual 49, 3) := by decide +kernel
theorem dX6_intOr0_6 : decode cX6_intOr0 6 = .ok (.l2i, 1) := by decide +kernel
theorem dX6_intOr0_7 : decode cX6_intOr0 7 = .ok (.ireturn, 1) := by decide +kernel
theorem dX6_giveInts_0 : decode cX6_giveInts 0 = .ok (.aload_n 0, 1) := by decide +kernel
theorem dX6_giveInts_1 : decode cX6_giveInts 1 = .ok (.iload_n 1, 1) := by decide +kernel
theorem dX6_giveInts_2 : decode cX6_giveInts 2 = .ok (.invokevirtual 33, 3) := by decide +kernel
theorem dX6_giveInts_5 : decode cX6_giveInts 5 = .ok (.ifCond .eq 17, 3) := by decide +kernel
theorem dX6_giveInts_8 : decode cX6_giveInts 8 = .ok (.aload_n 0, 1) := by decide +kernel
theorem dX6_giveInts_9 : decode cX6_giveInts 9 = .ok (.getfield 15, 3) := by decide +kernel
theorem dX6_giveInts_12 : decode cX6_giveInts 12 = .ok (.iload_n 1, 1) := by decide +kernel
theorem dX6_giveInts_13 : decode cX6_giveInts 13 = .ok (.iaload, 1) := by decide +kernel
theorem dX6_giveInts_14 : decode cX6_giveInts 14 = .ok (.aload_n 2, 1) := by decide +kernel
theorem dX6_giveInts_15 : decode cX6_giveInts 15 = .ok (.arraylength, 1) := by decide +kernel
theorem dX6_giveInts_16 : decode cX6_giveInts 16 = .ok (.invokestatic 53, 3) := by decide +kernel
theorem dX6_giveInts_19 : decode cX6_giveInts 19 = .ok (.goto 4, 3) := by decide +kernel
theorem dX6_giveInts_22 : decode cX6_giveInts 22 = .ok (.iconst 0, 1) := by decide +kernel
theorem dX6_giveInts_23 : decode cX6_giveInts 23 = .ok (.istore_n 3, 1) := by decide +kernel
theorem dX6_giveInts_24 : decode cX6_giveInts 24 = .ok (.iconst 0, 1) := by decide +kernel
theorem dX6_giveInts_25 : decode cX6_giveInts 25 = .ok (.istore 4, 2) := by decide +kernel
theorem dX6_giveInts_27 : decode cX6_giveInts 27 = .ok (.iload 4, 2) := by decide +kernel
theorem dX6_giveInts_29 : decode cX6_giveInts 29 = .ok (.iload_n 3, 1) := by decide +kernel
theorem dX6_giveInts_30 : decode cX6_giveInts 30 = .ok (.if_icmp .ge 23, 3) := by decide +kernel
theorem dX6_giveInts_33 : decode cX6_giveInts 33 = .ok (.aload_n 2, 1) := by decide +kernel
theorem dX6_giveInts_34 : decode cX6_giveInts 34 = .ok (.iload 4, 2) := by decide +kernel
theorem dX6_giveInts_36 : decode cX6_giveInts 36 = .ok (.aload_n 0, 1) := by decide +kernel
theorem dX6_giveInts_37 : decode cX6_giveInts 37 = .ok (.getfield 20, 3) := by decide +kernel
theorem dX6_giveInts_40 : decode cX6_giveInts 40 = .ok (.iload_n 1, 1) := by decide +kernel
theorem dX6_giveInts_41 : decode cX6_giveInts 41 = .ok (.aaload, 1) := by decide +kernel
theorem dX6_giveInts_42 : decode cX6_giveInts 42 = .ok (.iload 4, 2) := by decide +kernel
theorem dX6_giveInts_44 : decode cX6_giveInts 44 = .ok (.laload, 1) := by decide +kernel
theorem dX6_giveInts_45 : decode cX6_giveInts 45 = .ok (.l2i, 1) := by decide +kernel
theorem dX6_giveInts_46 : decode cX6_giveInts 46 = .ok (.iastore, 1) := by decide +kernel
theorem dX6_giveInts_47 : decode cX6_giveInts 47 = .ok (.iinc 4 1, 3) := by decide +kernel
theorem dX6_giveInts_50 : decode cX6_giveInts 50 = .ok (.goto (-23), 3) := by decide +kernel
theorem dX6_giveInts_53 : decode cX6_giveInts 53 = .ok (.iload_n 3, 1) := by decide +kernel
theorem dX6_giveInts_54 : decode cX6_giveInts 54 = .ok (.ireturn, 1) := by decide +kernel
theorem dX6_forgetPeopleFrom_0 : decode cX6_forgetPeopleFrom 0 = .ok (.iconst 0, 1) := by decide +kernel
theorem dX6_forgetPeopleFrom_1 : decode cX6_forgetPeopleFrom 1 = .ok (.istore_n 2, 1) := by decide +kernel
theorem dX6_forgetPeopleFrom_2 : decode cX6_forgetPeopleFrom 2 = .ok (.iload_n 2, 1) := by decide +kernel
theorem dX6_forgetPeopleFrom_3 : decode cX6_forgetPeopleFrom 3 = .ok (.bipush 8, 2) := by decide +kernel
theorem dX6_forgetPeopleFrom_5 : decode cX6_forgetPeopleFrom 5 = .ok (.if_icmp .ge 34, 3) := by decide +kernel
theorem dX6_forgetPeopleFrom_8 : decode cX6_forgetPeopleFrom 8 = .ok (.aload_n 0, 1) := by decide +kernel
theorem dX6_forgetPeopleFrom_9 : decode cX6_forgetPeopleFrom 9 = .ok (.iload_n 2, 1) := by decide +kernel
theorem dX6_forgetPeopleFrom_10 : decode cX6_forgetPeopleFrom 10 = .ok (.invokevirtual 59, 3) := by decide +kernel
theorem dX6_forgetPeopleFrom_13 : decode cX6_forgetPeopleFrom 13 = .ok (.ifCond .eq 20, 3) := by decide +kernel
theorem dX6_forgetPeopleFrom_16 : decode cX6_forgetPeopleFrom 16 = .ok (.aload_n 0, 1) := by decide +kernel
theorem dX6_forgetPeopleFrom_17 : decode cX6_forgetPeopleFrom 17 = .ok (.getfield 9, 3) := by decide +kernel
theorem dX6_forgetPeopleFrom_20 : decode cX6_forgetPeopleFrom 20 = .ok (.iload_n 2, 1) := by decide +kernel
theorem dX6_forgetPeopleFrom_21 : decode cX6_forgetPeopleFrom 21 = .ok (.iaload, 1) := by decide +kernel
theorem dX6_forgetPeopleFrom_22 : decode cX6_forgetPeopleFrom 22 = .ok (.iload_n 1, 1) := by decide +kernel
theorem dX6_forgetPeopleFrom_23 : decode cX6_forgetPeopleFrom 23 = .ok (.if_icmp .lt 10, 3) := by decide +kernel
theorem dX6_forgetPeopleFrom_26 : decode cX6_forgetPeopleFrom 26 = .ok (.aload_n 0, 1) := by decide +kernel
theorem dX6_forgetPeopleFrom_27 : decode cX6_forgetPeopleFrom 27 = .ok (.getfield 9, 3) := by decide +kernel
theorem dX6_forgetPeopleFrom_30 : decode cX6_forgetPeopleFrom 30 = .ok (.iload_n 2, 1) := by decide +kernel
theorem dX6_forgetPeopleFrom_31 : decode cX6_forgetPeopleFrom 31 = .ok (.iconst (-1), 1) := by decide +kernel
theorem dX6_forgetPeopleFrom_32 : decode cX6_forgetPeopleFrom 32 = .ok (.iastore, 1) := by decide +kernel
theorem dX6_forgetPeopleFrom_33 : decode cX6_forgetPeopleFrom 33 = .ok (.iinc 2 1, 3) := by decide +kernel
theorem dX6_forgetPeopleFrom_36 : decode cX6_forgetPeopleFrom 36 = .ok (.goto (-34), 3) := by decide +kernel
theorem dX6_forgetPeopleFrom_39 : decode cX6_forgetPeopleFrom 39 = .ok (.return_, 1) := by decide +kernel
theorem dJ6_bitCount_0f7a4_0 : decode cJ6_bitCount_0f7a4 0 = .ok (.iload_n 0, 1) := by decide +kernel
theorem dJ6_bitCount_0f7a4_1 : decode cJ6_bitCount_0f7a4 1 = .ok (.iload_n 0, 1) := by decide +kernel
theorem dJ6_bitCount_0f7a4_2 : decode cJ6_bitCount_0f7a4 2 = .ok (.iconst 1, 1) := by decide +kernel
theorem dJ6_bitCount_0f7a4_3 : decode cJ6_bitCount_0f7a4 3 = .ok (.iushr, 1) := by decide +kernel
theorem dJ6_bitCount_0f7a4_4 : decode cJ6_bitCount_0f7a4 4 = .ok (.ldc_w 265, 3) := by decide +kernel
theorem dJ6_bitCount_0f7a4_7 : decode cJ6_bitCount_0f7a4 7 = .ok (.iand, 1) := by decide +kernel
theorem dJ6_bitCount_0f7a4_8 : decode cJ6_bitCount_0f7a4 8 = .ok (.isub, 1) := by decide +kernel
theorem dJ6_bitCount_0f7a4_9 : decode cJ6_bitCount_0f7a4 9 = .ok (.istore_n 0, 1) := by decide +kernel
theorem dJ6_bitCount_0f7a4_10 : decode cJ6_bitCount_0f7a4 10 = .ok (.iload_n 0, 1) := by decide +kernel
theorem dJ6_bitCount_0f7a4_11 : decode cJ6_bitCount_0f7a4 11 = .ok (.ldc_w 266, 3) := by decide +kernel
theorem dJ6_bitCount_0f7a4_14 : decode cJ6_bitCount_0f7a4 14 = .ok (.iand, 1) := by decide +kernel
theorem dJ6_bitCount_0f7a4_15 : decode cJ6_bitCount_0f7a4 15 = .ok (.iload_n 0, 1) := by decide +kernel
theorem dJ6_bitCount_0f7a4_16 : decode cJ6_bitCount_0f7a4 16 = .ok (.iconst 2, 1) := by decide +kernel
theorem dJ6_bitCount_0f7a4_17 : decode cJ6_bitCount_0f7a4 17 = .ok (.iushr, 1) := by decide +kernel
theorem dJ6_bitCount_0f7a4_18 : decode cJ6_bitCount_0f7a4 18 = .ok (.ldc_w 266, 3) := by decide +kernel
theorem dJ6_bitCount_0f7a4_21 : decode cJ6_bitCount_0f7a4 21 = .ok (.iand, 1) := by decide +kernel
theorem dJ6_bitCount_0f7a4_22 : decode cJ6_bitCount_0f7a4 22 = .ok (.iadd, 1) := by decide +kernel
theorem dJ6_bitCount_0f7a4_23 : decode cJ6_bitCount_0f7a4 23 = .ok (.istore_n 0, 1) := by decide +kernel
theorem dJ6_bitCount_0f7a4_24 : decode cJ6_bitCount_0f7a4 24 = .ok (.iload_n 0, 1) := by decide +kernel
theorem dJ6_bitCount_0f7a4_25 : decode cJ6_bitCount_0f7a4 25 = .ok (.iload_n 0, 1) := by decide +kernel
theorem dJ6_bitCount_0f7a4_26 : decode cJ6_bitCount_0f7a4 26 = .ok (.iconst 4, 1) := by decide +kernel
theorem dJ6_bitCount_0f7a4_27 : decode cJ6_bitCount_0f7a4 27 = .ok (.iushr, 1) := by decide +kernel
theorem dJ6_bitCount_0f7a4_28 : decode cJ6_bitCount_0f7a4 28 = .ok (.iadd, 1) := by decide +kernel
theorem dJ6_bitCount_0f7a4_29 : decode cJ6_bitCount_0f7a4 29 = .ok (.ldc_w 267, 3) := by decide +kernel
theorem dJ6_bitCount_0f7a4_32 : decode cJ6_bitCount_0f7a4 32 = .ok (.iand, 1) := by decide +kernel
theorem dJ6_bitCount_0f7a4_33 : decode cJ6_bitCount_0f7a4 33 = .ok (.istore_n 0, 1) := by decide +kernel
theorem dJ6_bitCount_0f7a4_34 : decode cJ6_bitCount_0f7a4 34 = .ok (.iload_n 0, 1) := by decide +kernel
theorem dJ6_bitCount_0f7a4_35 : decode cJ6_bitCount_0f7a4 35 = .ok (.iload_n 0, 1) := by decide +kernel
theorem dJ6_bitCount_0f7a4_36 : decode cJ6_bitCount_0f7a4 36 = .ok (.bipush 8, 2) := by decide +kernel
theorem dJ6_bitCount_0f7a4_38 : decode cJ6_bitCount_0f7a4 38 = .ok (.iushr, 1) := by decide +kernel
theorem dJ6_bitCount_0f7a4_39 : decode cJ6_bitCount_0f7a4 39 = .ok (.iadd, 1) := by decide +kernel
theorem dJ6_bitCount_0f7a4_40 : decode cJ6_bitCount_0f7a4 40 = .ok (.istore_n 0, 1) := by decide +kernel
theorem dJ6_bitCount_0f7a4_41 : decode cJ6_bitCount_0f7a4 41 = .ok (.iload_n 0, 1) := by decide +kernel
theorem dJ6_bitCount_0f7a4_42 : decode cJ6_bitCount_0f7a4 42 = .ok (.iload_n 0, 1) := by decide +kernel
theorem dJ6_bitCount_0f7a4_43 : decode cJ6_bitCount_0f7a4 43 = .ok (.bipush 16, 2) := by decide +kernel
theorem dJ6_bitCount_0f7a4_45 : decode cJ6_bitCount_0f7a4 45 = .ok (.iushr, 1) := by decide +kernel
theorem dJ6_bitCount_0f7a4_46 : decode cJ6_bitCount_0f7a4 46 = .ok (.iadd, 1) := by decide +kernel
theorem dJ6_bitCount_0f7a4_47 : decode cJ6_bitCount_0f7a4 47 = .ok (.istore_n 0, 1) := by decide +kernel
theorem dJ6_bitCount_0f7a4_48 : decode cJ6_bitCount_0f7a4 48 = .ok (.iload_n 0, 1) := by decide +kernel
theorem dJ6_bitCount_0f7a4_49 : decode cJ6_bitCount_0f7a4 49 = .ok (.bipush 63, 2) := by decide +kernel
theorem dJ6_bitCount_0f7a4_51 : decode cJ6_bitCount_0f7a4 51 = .ok (.iand, 1) := by decide +kernel
theorem dJ6_bitCount_0f7a4_52 : decode cJ6_bitCount_0f7a4 52 = .ok (.ireturn, 1) := by decide +kernel
theorem dJ9_abs_0f7a4_0 : decode cJ9_abs_0f7a4 0 = .ok (.iload_n 0, 1) := by decide +kernel
theorem dJ9_abs_0f7a4_1 : decode cJ9_abs_0f7a4 1 = .ok (.ifCond .ge 8, 3) := by decide +kernel
theorem dJ9_abs_0f7a4_4 : decode cJ9_abs_0f7a4 4 = .ok (.iload_n 0, 1) := by decide +kernel
theorem dJ9_abs_0f7a4_5 : decode cJ9_abs_0f7a4 5 = .ok (.ineg, 1) := by decide +kernel
theorem dJ9_abs_0f7a4_6 : decode cJ9_abs_0f7a4 6 = .ok (.goto 4, 3) := by decide +kernel
theorem dJ9_abs_0f7a4_9 : decode cJ9_abs_0f7a4 9 = .ok (.iload_n 0, 1) := by decide +kernel
theorem dJ9_abs_0f7a4_10 : decode cJ9_abs_0f7a4 10 = .ok (.ireturn, 1) := by decide +kernel
theorem dJ9_max_7cf53_0 : decode cJ9_max_7cf53 0 = .ok (.iload_n 0, 1) := by decide +kernel
theorem dJ9_max_7cf53_1 : decode cJ9_max_7cf53 1 = .ok (.iload_n 1, 1) := by decide +kernel
theorem dJ9_max_7cf53_2 : decode cJ9_max_7cf53 2 = .ok (.if_icmp .lt 7, 3) := by decide +kernel
theorem dJ9_max_7cf53_5 : decode cJ9_max_7cf53 5 = .ok (.iload_n 0, 1) := by decide +kernel
theorem dJ9_max_7cf53_6 : decode cJ9_max_7cf53 6 = .ok (.goto 4, 3) := by decide +kernel
theorem dJ9_max_7cf53_9 : decode cJ9_max_7cf53 9 = .ok (.iload_n 1, 1) := by decide +kernel
theorem dJ9_max_7cf53_10 : decode cJ9_max_7cf53 10 = .ok (.ireturn, 1) := by decide +kernel
theorem dJ9_min_7cf53_0 : decode cJ9_min_7cf53 0 = .ok (.iload_n 0, 1) := by decide +kernel
theorem dJ9_min_7cf53_1 : decode cJ9_min_7cf53 1 = .ok (.iload_n 1, 1) := by decide +kernel
theorem dJ9_min_7cf53_2 : decode cJ9_min_7cf53 2 = .ok (.if_icmp .gt 7, 3) := by decide +kernel
theorem dJ9_min_7cf53_5 : decode cJ9_min_7cf53 5 = .ok (.iload_n 0, 1) := by decide +kernel
theorem dJ9_min_7cf53_6 : decode cJ9_min_7cf53 6 = .ok (.goto 4, 3) := by decide +kernel
theorem dJ9_min_7cf53_9 : decode cJ9_min_7cf53 9 = .ok (.iload_n 1, 1) := by decide +kernel
theorem dJ9_min_7cf53_10 : decode cJ9_min_7cf53 10 = .ok (.ireturn, 1) := by decide +kernel
theorem dJ0_length_8abf5_0 : decode cJ0_length_8abf5 0 = .ok (.aload_n 0, 1) := by decide +kernel
theorem dJ0_length_8abf5_1 : decode cJ0_length_8abf5 1 = .ok (.getfield 9, 3) := by decide +kernel
theorem dJ0_length_8abf5_4 : decode cJ0_length_8abf5 4 = .ok (.arraylength, 1) := by decide +kernel
theorem dJ0_length_8abf5_5 : decode cJ0_length_8abf5 5 = .ok (.aload_n 0, 1) := by decide +kernel
theorem dJ0_length_8abf5_6 : decode cJ0_length_8abf5 6 = .ok (.invokevirtual 335, 3) := by decide +kernel
theorem dJ0_length_8abf5_9 : decode cJ0_length_8abf5 9 = .ok (.ishr, 1) := by decide +kernel
theorem dJ0_length_8abf5_10 : decode cJ0_length_8abf5 10 = .ok (.ireturn, 1) := by decide +kernel
theorem dJ0_charAt_5068e_0 : decode cJ0_charAt_5068e 0 = .ok (.aload_n 0, 1) := by decide +kernel
theorem dJ0_charAt_5068e_1 : decode cJ0_charAt_5068e 1 = .ok (.invokevirtual 492, 3) := by decide +kernel
theorem dJ0_charAt_5068e_4 : decode cJ0_charAt_5068e 4 = .ok (.ifCond .eq 12, 3) := by decide +kernel
theorem dJ0_charAt_5068e_7 : decode cJ0_charAt_5068e 7 = .ok (.aload_n 0, 1) := by decide +kernel
theorem dJ0_charAt_5068e_8 : decode cJ0_charAt_5068e 8 = .ok (.getfield 9, 3) := by decide +kernel
theorem dJ0_charAt_5068e_11 : decode cJ0_charAt_5068e 11 = .ok (.iload_n 1, 1) := by decide +kernel
theorem dJ0_charAt_5068e_12 : decode cJ0_charAt_5068e 12 = .ok (.invokestatic 495, 3) := by decide +kernel
theorem dJ0_charAt_5068e_15 : decode cJ0_charAt_5068e 15 = .ok (.ireturn, 1) := by decide +kernel
theorem dJ0_charAt_5068e_16 : decode cJ0_charAt_5068e 16 = .ok (.aload_n 0, 1) := by decide +kernel
theorem dJ0_charAt_5068e_17 : decode cJ0_charAt_5068e 17 = .ok (.getfield 9, 3) := by decide +kernel
theorem dJ0_charAt_5068e_20 : decode cJ0_charAt_5068e 20 = .ok (.iload_n 1, 1) := by decide +kernel
theorem dJ0_charAt_5068e_21 : decode cJ0_charAt_5068e 21 = .ok (.invokestatic 498, 3) := by decide +kernel
theorem dJ0_charAt_5068e_24 : decode cJ0_charAt_5068e 24 = .ok (.ireturn, 1) := by decide +kernel
theorem dJ0_coder_7d493_0 : decode cJ0_coder_7d493 0 = .ok (.getstatic 38, 3) := by decide +kernel
theorem dJ0_coder_7d493_3 : decode cJ0_coder_7d493 3 = .ok (.ifCond .eq 10, 3) := by decide +kernel
theorem dJ0_coder_7d493_6 : decode cJ0_coder_7d493 6 = .ok (.aload_n 0, 1) := by decide +kernel
theorem dJ0_coder_7d493_7 : decode cJ0_coder_7d493 7 = .ok (.getfield 15, 3) := by decide +kernel
theorem dJ0_coder_7d493_10 : decode cJ0_coder_7d493 10 = .ok (.goto 4, 3) := by decide +kernel
theorem dJ0_coder_7d493_13 : decode cJ0_coder_7d493 13 = .ok (.iconst 1, 1) := by decide +kernel
theorem dJ0_coder_7d493_14 : decode cJ0_coder_7d493 14 = .ok (.ireturn, 1) := by decide +kernel
theorem dJ0_isLatin1_aae02_0 : decode cJ0_isLatin1_aae02 0 = .ok (.getstatic 38, 3) := by decide +kernel
theorem dJ0_isLatin1_aae02_3 : decode cJ0_isLatin1_aae02 3 = .ok (.ifCond .eq 14, 3) := by decide +kernel
theorem dJ0_isLatin1_aae02_6 : decode cJ0_isLatin1_aae02 6 = .ok (.aload_n 0, 1) := by decide +kernel
theorem dJ0_isLatin1_aae02_7 : decode cJ0_isLatin1_aae02 7 = .ok (.getfield 15, 3) := by decide +kernel
theorem dJ0_isLatin1_aae02_10 : decode cJ0_isLatin1_aae02 10 = .ok (.ifCond .ne 7, 3) := by decide +kernel
theorem dJ0_isLatin1_aae02_13 : decode cJ0_isLatin1_aae02 13 = .ok (.iconst 1, 1) := by decide +kernel
theorem dJ0_isLatin1_aae02_14 : decode cJ0_isLatin1_aae02 14 = .ok (.goto 4, 3) := by decide +kernel
theorem dJ0_isLatin1_aae02_17 : decode cJ0_isLatin1_aae02 17 = .ok (.iconst 0, 1) := by decide +kernel
theorem dJ0_isLatin1_aae02_18 : decode cJ0_isLatin1_aae02 18 = .ok (.ireturn, 1) := by decide +kernel
theorem dJ0_checkIndex_df160_0 : decode cJ0_checkIndex_df160 0 = .ok (.iload_n 0, 1) := by decide +kernel
theorem dJ0_checkIndex_df160_1 : decode cJ0_checkIndex_df160 1 = .ok (.iload_n 1, 1) := by decide +kernel
theorem dJ0_checkIndex_df160_2 : decode cJ0_checkIndex_df160 2 = .ok (.getstatic 1053, 3) := by decide +kernel
theorem dJ0_checkIndex_df160_5 : decode cJ0_checkIndex_df160 5 = .ok (.invokestatic 1059, 3) := by decide +kernel
theorem dJ0_checkIndex_df160_8 : decode cJ0_checkIndex_df160 8 = .ok (.pop, 1) := by decide +kernel
theorem dJ0_checkIndex_df160_9 : decode cJ0_checkIndex_df160 9 = .ok (.return_, 1) := by decide +kernel
theorem dJ1_charAt_3b067_0 : decode cJ1_charAt_3b067 0 = .ok (.iload_n 1, 1) := by decide +kernel
theorem dJ1_charAt_3b067_1 : decode cJ1_charAt_3b067 1 = .ok (.aload_n 0, 1) := by decide +kernel
theorem dJ1_charAt_3b067_2 : decode cJ1_charAt_3b067 2 = .ok (.arraylength, 1) := by decide +kernel
theorem dJ1_charAt_3b067_3 : decode cJ1_charAt_3b067 3 = .ok (.invokestatic 9, 3) := by decide +kernel
theorem dJ1_charAt_3b067_6 : decode cJ1_charAt_3b067 6 = .ok (.aload_n 0, 1) := by decide +kernel
theorem dJ1_charAt_3b067_7 : decode cJ1_charAt_3b067 7 = .ok (.iload_n 1, 1) := by decide +kernel
theorem dJ1_charAt_3b067_8 : decode cJ1_charAt_3b067 8 = .ok (.baload, 1) := by decide +kernel
theorem dJ1_charAt_3b067_9 : decode cJ1_charAt_3b067 9 = .ok (.sipush 255, 3) := by decide +kernel
theorem dJ1_charAt_3b067_12 : decode cJ1_charAt_3b067 12 = .ok (.iand, 1) := by decide +kernel
theorem dJ1_charAt_3b067_13 : decode cJ1_charAt_3b067 13 = .ok (.i2c, 1) := by decide +kernel
theorem dJ1_charAt_3b067_14 : decode cJ1_charAt_3b067 14 = .ok (.ireturn, 1) := by decide +kernel
theorem dJ2_getChar_3b067_0 : decode cJ2_getChar_3b067 0 = .ok (.getstatic 44, 3) := by decide +kernel
theorem dJ2_getChar_3b067_3 : decode cJ2_getChar_3b067 3 = .ok (.ifCond .ne 25, 3) := by decide +kernel
theorem dJ2_getChar_3b067_6 : decode cJ2_getChar_3b067 6 = .ok (.iload_n 1, 1) := by decide +kernel
theorem dJ2_getChar_3b067_7 : decode cJ2_getChar_3b067 7 = .ok (.ifCond .lt 11, 3) := by decide +kernel
theorem dJ2_getChar_3b067_10 : decode cJ2_getChar_3b067 10 = .ok (.iload_n 1, 1) := by decide +kernel
theorem dJ2_getChar_3b067_11 : decode cJ2_getChar_3b067 11 = .ok (.aload_n 0, 1) := by decide +kernel
theorem dJ2_getChar_3b067_12 : decode cJ2_getChar_3b067 12 = .ok (.invokestatic 48, 3) := by decide +kernel
theorem dJ2_getChar_3b067_15 : decode cJ2_getChar_3b067 15 = .ok (.if_icmp .lt 13, 3) := by decide +kernel
theorem dJ2_getChar_3b067_18 : decode cJ2_getChar_3b067 18 = .ok (.new 52, 3) := by decide +kernel
theorem dJ2_getChar_3b067_21 : decode cJ2_getChar_3b067 21 = .ok (.dup, 1) := by decide +kernel
theorem dJ2_getChar_3b067_22 : decode cJ2_getChar_3b067 22 = .ok (.ldc 54, 2) := by decide +kernel
theorem dJ2_getChar_3b067_24 : decode cJ2_getChar_3b067 24 = .ok (.invokespecial 56, 3) := by decide +kernel
theorem dJ2_getChar_3b067_27 : decode cJ2_getChar_3b067 27 = .ok (.athrow, 1) := by decide +kernel
theorem dJ2_getChar_3b067_28 : decode cJ2_getChar_3b067 28 = .ok (.iload_n 1, 1) := by decide +kernel
theorem dJ2_getChar_3b067_29 : decode cJ2_getChar_3b067 29 = .ok (.iconst 1, 1) := by decide +kernel
theorem dJ2_getChar_3b067_30 : decode cJ2_getChar_3b067 30 = .ok (.ishl, 1) := by decide +kernel
theorem dJ2_getChar_3b067_31 : decode cJ2_getChar_3b067 31 = .ok (.istore_n 1, 1) := by decide +kernel
theorem dJ2_getChar_3b067_32 : decode cJ2_getChar_3b067 32 = .ok (.aload_n 0, 1) := by decide +kernel
theorem dJ2_getChar_3b067_33 : decode cJ2_getChar_3b067 33 = .ok (.iload_n 1, 1) := by decide +kernel
theorem dJ2_getChar_3b067_34 : decode cJ2_getChar_3b067 34 = .ok (.iinc 1 1, 3) := by decide +kernel
theorem dJ2_getChar_3b067_37 : decode cJ2_getChar_3b067 37 = .ok (.baload, 1) := by decide +kernel
theorem dJ2_getChar_3b067_38 : decode cJ2_getChar_3b067 38 = .ok (.sipush 255, 3) := by decide +kernel
theorem dJ2_getChar_3b067_41 : decode cJ2_getChar_3b067 41 = .ok (.iand, 1) := by decide +kernel
theorem dJ2_getChar_3b067_42 : decode cJ2_getChar_3b067 42 = .ok (.getstatic 59, 3) := by decide +kernel
theorem dJ2_getChar_3b067_45 : decode cJ2_getChar_3b067 45 = .ok (.ishl, 1) := by decide +kernel
theorem dJ2_getChar_3b067_46 : decode cJ2_getChar_3b067 46 = .ok (.aload_n 0, 1) := by decide +kernel
theorem dJ2_getChar_3b067_47 : decode cJ2_getChar_3b067 47 = .ok (.iload_n 1, 1) := by decide +kernel
theorem dJ2_getChar_3b067_48 : decode cJ2_getChar_3b067 48 = .ok (.baload, 1) := by decide +kernel
theorem dJ2_getChar_3b067_49 : decode cJ2_getChar_3b067 49 = .ok (.sipush 255, 3) := by decide +kernel
theorem dJ2_getChar_3b067_52 : decode cJ2_getChar_3b067 52 = .ok (.iand, 1) := by decide +kernel
theorem dJ2_getChar_3b067_53 : decode cJ2_getChar_3b067 53 = .ok (.getstatic 63, 3) := by decide +kernel
theorem dJ2_getChar_3b067_56 : decode cJ2_getChar_3b067 56 = .ok (.ishl, 1) := by decide +kernel
theorem dJ2_getChar_3b067_57 : decode cJ2_getChar_3b067 57 = .ok (.ior, 1) := by decide +kernel
theorem dJ2_getChar_3b067_58 : decode cJ2_getChar_3b067 58 = .ok (.i2c, 1) := by decide +kernel
theorem dJ2_getChar_3b067_59 : decode cJ2_getChar_3b067 59 = .ok (.ireturn, 1) := by decide +kernel
theorem dJ2_length_9d52b_0 : decode cJ2_length_9d52b 0 = .ok (.aload_n 0, 1) := by decide +kernel
theorem dJ2_length_9d52b_1 : decode cJ2_length_9d52b 1 = .ok (.arraylength, 1) := by decide +kernel
theorem dJ2_length_9d52b_2 : decode cJ2_length_9d52b 2 = .ok (.iconst 1, 1) := by decide +kernel
theorem dJ2_length_9d52b_3 : decode cJ2_length_9d52b 3 = .ok (.ishr, 1) := by decide +kernel
theorem dJ2_length_9d52b_4 : decode cJ2_length_9d52b 4 = .ok (.ireturn, 1) := by decide +kernel
theorem dJ2_charAt_3b067_0 : decode cJ2_charAt_3b067 0 = .ok (.iload_n 1, 1) := by decide +kernel
theorem dJ2_charAt_3b067_1 : decode cJ2_charAt_3b067 1 = .ok (.aload_n 0, 1) := by decide +kernel
theorem dJ2_charAt_3b067_2 : decode cJ2_charAt_3b067 2 = .ok (.invokestatic 67, 3) := by decide +kernel
theorem dJ2_charAt_3b067_5 : decode cJ2_charAt_3b067 5 = .ok (.aload_n 0, 1) := by decide +kernel
theorem dJ2_charAt_3b067_6 : decode cJ2_charAt_3b067 6 = .ok (.iload_n 1, 1) := by decide +kernel
theorem dJ2_charAt_3b067_7 : decode cJ2_charAt_3b067 7 = .ok (.invokestatic 71, 3) := by decide +kernel
theorem dJ2_charAt_3b067_10 : decode cJ2_charAt_3b067 10 = .ok (.ireturn, 1) := by decide +kernel
theorem dJ2_checkIndex_2214a_0 : decode cJ2_checkIndex_2214a 0 = .ok (.iload_n 0, 1) := by decide +kernel
theorem dJ2_checkIndex_2214a_1 : decode cJ2_checkIndex_2214a 1 = .ok (.aload_n 1, 1) := by decide +kernel
theorem dJ2_checkIndex_2214a_2 : decode cJ2_checkIndex_2214a 2 = .ok (.invokestatic 48, 3) := by decide +kernel
theorem dJ2_checkIndex_2214a_5 : decode cJ2_checkIndex_2214a 5 = .ok (.invokestatic 414, 3) := by decide +kernel
theorem dJ2_checkIndex_2214a_8 : decode cJ2_checkIndex_2214a 8 = .ok (.return_, 1) := by decide +kernel
theorem dJ7_fill_d0a16_0 : decode cJ7_fill_d0a16 0 = .ok (.iconst 0, 1) := by decide +kernel
theorem dJ7_fill_d0a16_1 : decode cJ7_fill_d0a16 1 = .ok (.istore_n 3, 1) := by decide +kernel
theorem dJ7_fill_d0a16_2 : decode cJ7_fill_d0a16 2 = .ok (.aload_n 0, 1) := by decide +kernel
theorem dJ7_fill_d0a16_3 : decode cJ7_fill_d0a16 3 = .ok (.arraylength, 1) := by decide +kernel
theorem dJ7_fill_d0a16_4 : decode cJ7_fill_d0a16 4 = .ok (.istore 4, 2) := by decide +kernel
theorem dJ7_fill_d0a16_6 : decode cJ7_fill_d0a16 6 = .ok (.iload_n 3, 1) := by decide +kernel
theorem dJ7_fill_d0a16_7 : decode cJ7_fill_d0a16 7 = .ok (.iload 4, 2) := by decide +kernel
theorem dJ7_fill_d0a16_9 : decode cJ7_fill_d0a16 9 = .ok (.if_icmp .ge 13, 3) := by decide +kernel
theorem dJ7_fill_d0a16_12 : decode cJ7_fill_d0a16 12 = .ok (.aload_n 0, 1) := by decide +kernel
theorem dJ7_fill_d0a16_13 : decode cJ7_fill_d0a16 13 = .ok (.iload_n 3, 1) := by decide +kernel
theorem dJ7_fill_d0a16_14 : decode cJ7_fill_d0a16 14 = .ok (.lload_n 1, 1) := by decide +kernel
theorem dJ7_fill_d0a16_15 : decode cJ7_fill_d0a16 15 = .ok (.lastore, 1) := by decide +kernel
theorem dJ7_fill_d0a16_16 : decode cJ7_fill_d0a16 16 = .ok (.iinc 3 1, 3) := by decide +kernel
theorem dJ7_fill_d0a16_19 : decode cJ7_fill_d0a16 19 = .ok (.goto (-13), 3) := by decide +kernel
theorem dJ7_fill_d0a16_22 : decode cJ7_fill_d0a16 22 = .ok (.return_, 1) := by decide +kernel
theorem dJ7_fill_53178_0 : decode cJ7_fill_53178 0 = .ok (.iconst 0, 1) := by decide +kernel
theorem dJ7_fill_53178_1 : decode cJ7_fill_53178 1 = .ok (.istore_n 2, 1) := by decide +kernel
theorem dJ7_fill_53178_2 : decode cJ7_fill_53178 2 = .ok (.aload_n 0, 1) := by decide +kernel
theorem dJ7_fill_53178_3 : decode cJ7_fill_53178 3 = .ok (.arraylength, 1) := by decide +kernel
theorem dJ7_fill_53178_4 : decode cJ7_fill_53178 4 = .ok (.istore_n 3, 1) := by decide +kernel
theorem dJ7_fill_53178_5 : decode cJ7_fill_53178 5 = .ok (.iload_n 2, 1) := by decide +kernel
theorem dJ7_fill_53178_6 : decode cJ7_fill_53178 6 = .ok (.iload_n 3, 1) := by decide +kernel
theorem dJ7_fill_53178_7 : decode cJ7_fill_53178 7 = .ok (.if_icmp .ge 13, 3) := by decide +kernel
theorem dJ7_fill_53178_10 : decode cJ7_fill_53178 10 = .ok (.aload_n 0, 1) := by decide +kernel
theorem dJ7_fill_53178_11 : decode cJ7_fill_53178 11 = .ok (.iload_n 2, 1) := by decide +kernel
theorem dJ7_fill_53178_12 : decode cJ7_fill_53178 12 = .ok (.iload_n 1, 1) := by decide +kernel
theorem dJ7_fill_53178_13 : decode cJ7_fill_53178 13 = .ok (.iastore, 1) := by decide +kernel
theorem dJ7_fill_53178_14 : decode cJ7_fill_53178 14 = .ok (.iinc 2 1, 3) := by decide +kernel
theorem dJ7_fill_53178_17 : decode cJ7_fill_53178 17 = .ok (.goto (-12), 3) := by decide +kernel
theorem dJ7_fill_53178_20 : decode cJ7_fill_53178 20 = .ok (.return_, 1) := by decide +kernel
theorem dJ3_checkIndex_8e157_0 : decode cJ3_checkIndex_8e157 0 = .ok (.iload_n 0, 1) := by decide +kernel
theorem dJ3_checkIndex_8e157_1 : decode cJ3_checkIndex_8e157 1 = .ok (.ifCond .lt 8, 3) := by decide +kernel
theorem dJ3_checkIndex_8e157_4 : decode cJ3_checkIndex_8e157 4 = .ok (.iload_n 0, 1) := by decide +kernel
theorem dJ3_checkIndex_8e157_5 : decode cJ3_checkIndex_8e157 5 = .ok (.iload_n 1, 1) := by decide +kernel
theorem dJ3_checkIndex_8e157_6 : decode cJ3_checkIndex_8e157 6 = .ok (.if_icmp .lt 10, 3) := by decide +kernel
theorem dJ3_checkIndex_8e157_9 : decode cJ3_checkIndex_8e157 9 = .ok (.aload_n 2, 1) := by decide +kernel
theorem dJ3_checkIndex_8e157_10 : decode cJ3_checkIndex_8e157 10 = .ok (.iload_n 0, 1) := by decide +kernel
theorem dJ3_checkIndex_8e157_11 : decode cJ3_checkIndex_8e157 11 = .ok (.iload_n 1, 1) := by decide +kernel
theorem dJ3_checkIndex_8e157_12 : decode cJ3_checkIndex_8e157 12 = .ok (.invokestatic 95, 3) := by decide +kernel
theorem dJ3_checkIndex_8e157_15 : decode cJ3_checkIndex_8e157 15 = .ok (.athrow, 1) := by decide +kernel
theorem dJ3_checkIndex_8e157_16 : decode cJ3_checkIndex_8e157 16 = .ok (.iload_n 0, 1) := by decide +kernel
theorem dJ3_checkIndex_8e157_17 : decode cJ3_checkIndex_8e157 17 = .ok (.ireturn, 1) := by decide +kernel
