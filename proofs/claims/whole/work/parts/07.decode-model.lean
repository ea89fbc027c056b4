/-! DECODE ROWS (by program) -/
theorem dM_init_0 : decode cM_init 0 = .ok (.aload_n 0, 1) := by decide +kernel
theorem dM_init_1 : decode cM_init 1 = .ok (.invokespecial 1, 3) := by decide +kernel
theorem dM_init_4 : decode cM_init 4 = .ok (.aload_n 0, 1) := by decide +kernel
theorem dM_init_5 : decode cM_init 5 = .ok (.iconst 3, 1) := by decide +kernel
theorem dM_init_6 : decode cM_init 6 = .ok (.newarray .int, 2) := by decide +kernel
theorem dM_init_8 : decode cM_init 8 = .ok (.putfield 7, 3) := by decide +kernel
theorem dM_init_11 : decode cM_init 11 = .ok (.aload_n 0, 1) := by decide +kernel
theorem dM_init_12 : decode cM_init 12 = .ok (.iconst 3, 1) := by decide +kernel
theorem dM_init_13 : decode cM_init 13 = .ok (.newarray .int, 2) := by decide +kernel
theorem dM_init_15 : decode cM_init 15 = .ok (.putfield 13, 3) := by decide +kernel
theorem dM_init_18 : decode cM_init 18 = .ok (.aload_n 0, 1) := by decide +kernel
theorem dM_init_19 : decode cM_init 19 = .ok (.iconst 3, 1) := by decide +kernel
theorem dM_init_20 : decode cM_init 20 = .ok (.newarray .int, 2) := by decide +kernel
theorem dM_init_22 : decode cM_init 22 = .ok (.putfield 16, 3) := by decide +kernel
theorem dM_init_25 : decode cM_init 25 = .ok (.aload_n 0, 1) := by decide +kernel
theorem dM_init_26 : decode cM_init 26 = .ok (.iconst 3, 1) := by decide +kernel
theorem dM_init_27 : decode cM_init 27 = .ok (.newarray .boolean, 2) := by decide +kernel
theorem dM_init_29 : decode cM_init 29 = .ok (.putfield 19, 3) := by decide +kernel
theorem dM_init_32 : decode cM_init 32 = .ok (.aload_n 0, 1) := by decide +kernel
theorem dM_init_33 : decode cM_init 33 = .ok (.bipush 12, 2) := by decide +kernel
theorem dM_init_35 : decode cM_init 35 = .ok (.newarray .int, 2) := by decide +kernel
theorem dM_init_37 : decode cM_init 37 = .ok (.putfield 23, 3) := by decide +kernel
theorem dM_init_40 : decode cM_init 40 = .ok (.aload_n 0, 1) := by decide +kernel
theorem dM_init_41 : decode cM_init 41 = .ok (.bipush 12, 2) := by decide +kernel
theorem dM_init_43 : decode cM_init 43 = .ok (.newarray .int, 2) := by decide +kernel
theorem dM_init_45 : decode cM_init 45 = .ok (.putfield 26, 3) := by decide +kernel
theorem dM_init_48 : decode cM_init 48 = .ok (.aload_n 0, 1) := by decide +kernel
theorem dM_init_49 : decode cM_init 49 = .ok (.sipush 720, 3) := by decide +kernel
theorem dM_init_52 : decode cM_init 52 = .ok (.newarray .int, 2) := by decide +kernel
theorem dM_init_54 : decode cM_init 54 = .ok (.putfield 29, 3) := by decide +kernel
theorem dM_init_57 : decode cM_init 57 = .ok (.aload_n 0, 1) := by decide +kernel
theorem dM_init_58 : decode cM_init 58 = .ok (.sipush 720, 3) := by decide +kernel
theorem dM_init_61 : decode cM_init 61 = .ok (.newarray .int, 2) := by decide +kernel
theorem dM_init_63 : decode cM_init 63 = .ok (.putfield 32, 3) := by decide +kernel
theorem dM_init_66 : decode cM_init 66 = .ok (.aload_n 0, 1) := by decide +kernel
theorem dM_init_67 : decode cM_init 67 = .ok (.sipush 720, 3) := by decide +kernel
theorem dM_init_70 : decode cM_init 70 = .ok (.newarray .int, 2) := by decide +kernel
theorem dM_init_72 : decode cM_init 72 = .ok (.putfield 35, 3) := by decide +kernel
theorem dM_init_75 : decode cM_init 75 = .ok (.aload_n 0, 1) := by decide +kernel
theorem dM_init_76 : decode cM_init 76 = .ok (.sipush 720, 3) := by decide +kernel
theorem dM_init_79 : decode cM_init 79 = .ok (.newarray .int, 2) := by decide +kernel
theorem dM_init_81 : decode cM_init 81 = .ok (.putfield 38, 3) := by decide +kernel
theorem dM_init_84 : decode cM_init 84 = .ok (.aload_n 0, 1) := by decide +kernel
theorem dM_init_85 : decode cM_init 85 = .ok (.sipush 720, 3) := by decide +kernel
theorem dM_init_88 : decode cM_init 88 = .ok (.newarray .int, 2) := by decide +kernel
theorem dM_init_90 : decode cM_init 90 = .ok (.putfield 41, 3) := by decide +kernel
theorem dM_init_93 : decode cM_init 93 = .ok (.aload_n 0, 1) := by decide +kernel
theorem dM_init_94 : decode cM_init 94 = .ok (.sipush 720, 3) := by decide +kernel
theorem dM_init_97 : decode cM_init 97 = .ok (.newarray .int, 2) := by decide +kernel
theorem dM_init_99 : decode cM_init 99 = .ok (.putfield 44, 3) := by decide +kernel
theorem dM_init_102 : decode cM_init 102 = .ok (.aload_n 0, 1) := by decide +kernel
theorem dM_init_103 : decode cM_init 103 = .ok (.bipush 6, 2) := by decide +kernel
theorem dM_init_105 : decode cM_init 105 = .ok (.newarray .int, 2) := by decide +kernel
theorem dM_init_107 : decode cM_init 107 = .ok (.putfield 47, 3) := by decide +kernel
theorem dM_init_110 : decode cM_init 110 = .ok (.aload_n 0, 1) := by decide +kernel
theorem dM_init_111 : decode cM_init 111 = .ok (.bipush 72, 2) := by decide +kernel
theorem dM_init_113 : decode cM_init 113 = .ok (.newarray .int, 2) := by decide +kernel
theorem dM_init_115 : decode cM_init 115 = .ok (.putfield 50, 3) := by decide +kernel
theorem dM_init_118 : decode cM_init 118 = .ok (.aload_n 0, 1) := by decide +kernel
theorem dM_init_119 : decode cM_init 119 = .ok (.sipush 216, 3) := by decide +kernel
theorem dM_init_122 : decode cM_init 122 = .ok (.newarray .int, 2) := by decide +kernel
theorem dM_init_124 : decode cM_init 124 = .ok (.putfield 53, 3) := by decide +kernel
theorem dM_init_127 : decode cM_init 127 = .ok (.aload_n 0, 1) := by decide +kernel
theorem dM_init_128 : decode cM_init 128 = .ok (.bipush 6, 2) := by decide +kernel
theorem dM_init_130 : decode cM_init 130 = .ok (.newarray .boolean, 2) := by decide +kernel
theorem dM_init_132 : decode cM_init 132 = .ok (.putfield 56, 3) := by decide +kernel
theorem dM_init_135 : decode cM_init 135 = .ok (.aload_n 0, 1) := by decide +kernel
theorem dM_init_136 : decode cM_init 136 = .ok (.iconst 4, 1) := by decide +kernel
theorem dM_init_137 : decode cM_init 137 = .ok (.newarray .int, 2) := by decide +kernel
theorem dM_init_139 : decode cM_init 139 = .ok (.putfield 59, 3) := by decide +kernel
theorem dM_init_142 : decode cM_init 142 = .ok (.aload_n 0, 1) := by decide +kernel
theorem dM_init_143 : decode cM_init 143 = .ok (.iconst 4, 1) := by decide +kernel
theorem dM_init_144 : decode cM_init 144 = .ok (.newarray .int, 2) := by decide +kernel
theorem dM_init_146 : decode cM_init 146 = .ok (.putfield 62, 3) := by decide +kernel
theorem dM_init_149 : decode cM_init 149 = .ok (.aload_n 0, 1) := by decide +kernel
theorem dM_init_150 : decode cM_init 150 = .ok (.bipush 8, 2) := by decide +kernel
theorem dM_init_152 : decode cM_init 152 = .ok (.newarray .int, 2) := by decide +kernel
theorem dM_init_154 : decode cM_init 154 = .ok (.putfield 65, 3) := by decide +kernel
theorem dM_init_157 : decode cM_init 157 = .ok (.aload_n 0, 1) := by decide +kernel
theorem dM_init_158 : decode cM_init 158 = .ok (.iconst 2, 1) := by decide +kernel
theorem dM_init_159 : decode cM_init 159 = .ok (.newarray .int, 2) := by decide +kernel
theorem dM_init_161 : decode cM_init 161 = .ok (.putfield 68, 3) := by decide +kernel
theorem dM_init_164 : decode cM_init 164 = .ok (.aload_n 0, 1) := by decide +kernel
theorem dM_init_165 : decode cM_init 165 = .ok (.bipush 24, 2) := by decide +kernel
theorem dM_init_167 : decode cM_init 167 = .ok (.newarray .int, 2) := by decide +kernel
theorem dM_init_169 : decode cM_init 169 = .ok (.putfield 71, 3) := by decide +kernel
theorem dM_init_172 : decode cM_init 172 = .ok (.aload_n 0, 1) := by decide +kernel
theorem dM_init_173 : decode cM_init 173 = .ok (.bipush 24, 2) := by decide +kernel
theorem dM_init_175 : decode cM_init 175 = .ok (.newarray .int, 2) := by decide +kernel
theorem dM_init_177 : decode cM_init 177 = .ok (.putfield 74, 3) := by decide +kernel
theorem dM_init_180 : decode cM_init 180 = .ok (.iconst 0, 1) := by decide +kernel
theorem dM_init_181 : decode cM_init 181 = .ok (.istore_n 1, 1) := by decide +kernel
theorem dM_init_182 : decode cM_init 182 = .ok (.iload_n 1, 1) := by decide +kernel
theorem dM_init_183 : decode cM_init 183 = .ok (.sipush 720, 3) := by decide +kernel
theorem dM_init_186 : decode cM_init 186 = .ok (.if_icmp .ge 16, 3) := by decide +kernel
theorem dM_init_189 : decode cM_init 189 = .ok (.aload_n 0, 1) := by decide +kernel
theorem dM_init_190 : decode cM_init 190 = .ok (.getfield 29, 3) := by decide +kernel
theorem dM_init_193 : decode cM_init 193 = .ok (.iload_n 1, 1) := by decide +kernel
theorem dM_init_194 : decode cM_init 194 = .ok (.iconst (-1), 1) := by decide +kernel
theorem dM_init_195 : decode cM_init 195 = .ok (.iastore, 1) := by decide +kernel
theorem dM_init_196 : decode cM_init 196 = .ok (.iinc 1 1, 3) := by decide +kernel
theorem dM_init_199 : decode cM_init 199 = .ok (.goto (-17), 3) := by decide +kernel
theorem dM_init_202 : decode cM_init 202 = .ok (.iconst 0, 1) := by decide +kernel
theorem dM_init_203 : decode cM_init 203 = .ok (.istore_n 1, 1) := by decide +kernel
theorem dM_init_204 : decode cM_init 204 = .ok (.iload_n 1, 1) := by decide +kernel
theorem dM_init_205 : decode cM_init 205 = .ok (.bipush 6, 2) := by decide +kernel
theorem dM_init_207 : decode cM_init 207 = .ok (.if_icmp .ge 16, 3) := by decide +kernel
theorem dM_init_210 : decode cM_init 210 = .ok (.aload_n 0, 1) := by decide +kernel
theorem dM_init_211 : decode cM_init 211 = .ok (.getfield 47, 3) := by decide +kernel
theorem dM_init_214 : decode cM_init 214 = .ok (.iload_n 1, 1) := by decide +kernel
theorem dM_init_215 : decode cM_init 215 = .ok (.iconst (-1), 1) := by decide +kernel
theorem dM_init_216 : decode cM_init 216 = .ok (.iastore, 1) := by decide +kernel
theorem dM_init_217 : decode cM_init 217 = .ok (.iinc 1 1, 3) := by decide +kernel
theorem dM_init_220 : decode cM_init 220 = .ok (.goto (-16), 3) := by decide +kernel
theorem dM_init_223 : decode cM_init 223 = .ok (.iconst 0, 1) := by decide +kernel
theorem dM_init_224 : decode cM_init 224 = .ok (.istore_n 1, 1) := by decide +kernel
theorem dM_init_225 : decode cM_init 225 = .ok (.iload_n 1, 1) := by decide +kernel
theorem dM_init_226 : decode cM_init 226 = .ok (.iconst 4, 1) := by decide +kernel
theorem dM_init_227 : decode cM_init 227 = .ok (.if_icmp .ge 16, 3) := by decide +kernel
theorem dM_init_230 : decode cM_init 230 = .ok (.aload_n 0, 1) := by decide +kernel
theorem dM_init_231 : decode cM_init 231 = .ok (.getfield 59, 3) := by decide +kernel
theorem dM_init_234 : decode cM_init 234 = .ok (.iload_n 1, 1) := by decide +kernel
theorem dM_init_235 : decode cM_init 235 = .ok (.iconst (-1), 1) := by decide +kernel
theorem dM_init_236 : decode cM_init 236 = .ok (.iastore, 1) := by decide +kernel
theorem dM_init_237 : decode cM_init 237 = .ok (.iinc 1 1, 3) := by decide +kernel
theorem dM_init_240 : decode cM_init 240 = .ok (.goto (-15), 3) := by decide +kernel
theorem dM_init_243 : decode cM_init 243 = .ok (.iconst 0, 1) := by decide +kernel
theorem dM_init_244 : decode cM_init 244 = .ok (.istore_n 1, 1) := by decide +kernel
theorem dM_init_245 : decode cM_init 245 = .ok (.iload_n 1, 1) := by decide +kernel
theorem dM_init_246 : decode cM_init 246 = .ok (.bipush 8, 2) := by decide +kernel
theorem dM_init_248 : decode cM_init 248 = .ok (.if_icmp .ge 16, 3) := by decide +kernel
theorem dM_init_251 : decode cM_init 251 = .ok (.aload_n 0, 1) := by decide +kernel
theorem dM_init_252 : decode cM_init 252 = .ok (.getfield 65, 3) := by decide +kernel
theorem dM_init_255 : decode cM_init 255 = .ok (.iload_n 1, 1) := by decide +kernel
theorem dM_init_256 : decode cM_init 256 = .ok (.iconst (-1), 1) := by decide +kernel
theorem dM_init_257 : decode cM_init 257 = .ok (.iastore, 1) := by decide +kernel
theorem dM_init_258 : decode cM_init 258 = .ok (.iinc 1 1, 3) := by decide +kernel
theorem dM_init_261 : decode cM_init 261 = .ok (.goto (-16), 3) := by decide +kernel
theorem dM_init_264 : decode cM_init 264 = .ok (.return_, 1) := by decide +kernel
theorem dM_thrown_0 : decode cM_thrown 0 = .ok (.aload_n 0, 1) := by decide +kernel
theorem dM_thrown_1 : decode cM_thrown 1 = .ok (.getfield 77, 3) := by decide +kernel
theorem dM_thrown_4 : decode cM_thrown 4 = .ok (.ireturn, 1) := by decide +kernel
theorem dM_badLog_0 : decode cM_badLog 0 = .ok (.iload_n 1, 1) := by decide +kernel
theorem dM_badLog_1 : decode cM_badLog 1 = .ok (.ifCond .lt 23, 3) := by decide +kernel
theorem dM_badLog_4 : decode cM_badLog 4 = .ok (.iload_n 1, 1) := by decide +kernel
theorem dM_badLog_5 : decode cM_badLog 5 = .ok (.bipush 11, 2) := by decide +kernel
theorem dM_badLog_7 : decode cM_badLog 7 = .ok (.if_icmp .gt 17, 3) := by decide +kernel
theorem dM_badLog_10 : decode cM_badLog 10 = .ok (.iload_n 1, 1) := by decide +kernel
theorem dM_badLog_11 : decode cM_badLog 11 = .ok (.iconst 4, 1) := by decide +kernel
theorem dM_badLog_12 : decode cM_badLog 12 = .ok (.irem, 1) := by decide +kernel
theorem dM_badLog_13 : decode cM_badLog 13 = .ok (.aload_n 0, 1) := by decide +kernel
theorem dM_badLog_14 : decode cM_badLog 14 = .ok (.getfield 7, 3) := by decide +kernel
theorem dM_badLog_17 : decode cM_badLog 17 = .ok (.iload_n 1, 1) := by decide +kernel
theorem dM_badLog_18 : decode cM_badLog 18 = .ok (.iconst 4, 1) := by decide +kernel
theorem dM_badLog_19 : decode cM_badLog 19 = .ok (.idiv, 1) := by decide +kernel
theorem dM_badLog_20 : decode cM_badLog 20 = .ok (.iaload, 1) := by decide +kernel
theorem dM_badLog_21 : decode cM_badLog 21 = .ok (.if_icmp .lt 7, 3) := by decide +kernel
theorem dM_badLog_24 : decode cM_badLog 24 = .ok (.iconst 1, 1) := by decide +kernel
theorem dM_badLog_25 : decode cM_badLog 25 = .ok (.goto 4, 3) := by decide +kernel
theorem dM_badLog_28 : decode cM_badLog 28 = .ok (.iconst 0, 1) := by decide +kernel
theorem dM_badLog_29 : decode cM_badLog 29 = .ok (.ireturn, 1) := by decide +kernel
theorem dM_badSession_0 : decode cM_badSession 0 = .ok (.iload_n 1, 1) := by decide +kernel
theorem dM_badSession_1 : decode cM_badSession 1 = .ok (.ifCond .lt 8, 3) := by decide +kernel
theorem dM_badSession_4 : decode cM_badSession 4 = .ok (.iload_n 1, 1) := by decide +kernel
theorem dM_badSession_5 : decode cM_badSession 5 = .ok (.iconst 5, 1) := by decide +kernel
theorem dM_badSession_6 : decode cM_badSession 6 = .ok (.if_icmp .le 7, 3) := by decide +kernel
theorem dM_badSession_9 : decode cM_badSession 9 = .ok (.iconst 1, 1) := by decide +kernel
theorem dM_badSession_10 : decode cM_badSession 10 = .ok (.goto 4, 3) := by decide +kernel
theorem dM_badSession_13 : decode cM_badSession 13 = .ok (.iconst 0, 1) := by decide +kernel
theorem dM_badSession_14 : decode cM_badSession 14 = .ok (.ireturn, 1) := by decide +kernel
theorem dM_topic_0 : decode cM_topic 0 = .ok (.iload_n 1, 1) := by decide +kernel
theorem dM_topic_1 : decode cM_topic 1 = .ok (.ifCond .lt 40, 3) := by decide +kernel
theorem dM_topic_4 : decode cM_topic 4 = .ok (.iload_n 1, 1) := by decide +kernel
theorem dM_topic_5 : decode cM_topic 5 = .ok (.iconst 2, 1) := by decide +kernel
theorem dM_topic_6 : decode cM_topic 6 = .ok (.if_icmp .gt 35, 3) := by decide +kernel
theorem dM_topic_9 : decode cM_topic 9 = .ok (.iload_n 2, 1) := by decide +kernel
theorem dM_topic_10 : decode cM_topic 10 = .ok (.iconst 1, 1) := by decide +kernel
theorem dM_topic_11 : decode cM_topic 11 = .ok (.if_icmp .lt 30, 3) := by decide +kernel
theorem dM_topic_14 : decode cM_topic 14 = .ok (.iload_n 2, 1) := by decide +kernel
theorem dM_topic_15 : decode cM_topic 15 = .ok (.iconst 3, 1) := by decide +kernel
theorem dM_topic_16 : decode cM_topic 16 = .ok (.if_icmp .gt 25, 3) := by decide +kernel
theorem dM_topic_19 : decode cM_topic 19 = .ok (.iload_n 3, 1) := by decide +kernel
theorem dM_topic_20 : decode cM_topic 20 = .ok (.iconst 1, 1) := by decide +kernel
theorem dM_topic_21 : decode cM_topic 21 = .ok (.if_icmp .lt 20, 3) := by decide +kernel
theorem dM_topic_24 : decode cM_topic 24 = .ok (.iload_n 3, 1) := by decide +kernel
theorem dM_topic_25 : decode cM_topic 25 = .ok (.iconst 4, 1) := by decide +kernel
theorem dM_topic_26 : decode cM_topic 26 = .ok (.if_icmp .gt 15, 3) := by decide +kernel
theorem dM_topic_29 : decode cM_topic 29 = .ok (.iload 4, 2) := by decide +kernel
theorem dM_topic_31 : decode cM_topic 31 = .ok (.iconst 1, 1) := by decide +kernel
theorem dM_topic_32 : decode cM_topic 32 = .ok (.if_icmp .lt 9, 3) := by decide +kernel
theorem dM_topic_35 : decode cM_topic 35 = .ok (.iload 4, 2) := by decide +kernel
theorem dM_topic_37 : decode cM_topic 37 = .ok (.iconst 5, 1) := by decide +kernel
theorem dM_topic_38 : decode cM_topic 38 = .ok (.if_icmp .le 7, 3) := by decide +kernel
theorem dM_topic_41 : decode cM_topic 41 = .ok (.iconst 1, 1) := by decide +kernel
theorem dM_topic_42 : decode cM_topic 42 = .ok (.goto 4, 3) := by decide +kernel
theorem dM_topic_45 : decode cM_topic 45 = .ok (.iconst 0, 1) := by decide +kernel
theorem dM_topic_46 : decode cM_topic 46 = .ok (.istore 6, 2) := by decide +kernel
theorem dM_topic_48 : decode cM_topic 48 = .ok (.aload_n 0, 1) := by decide +kernel
theorem dM_topic_49 : decode cM_topic 49 = .ok (.iload 6, 2) := by decide +kernel
theorem dM_topic_51 : decode cM_topic 51 = .ok (.ifCond .eq 7, 3) := by decide +kernel
theorem dM_topic_54 : decode cM_topic 54 = .ok (.iconst 1, 1) := by decide +kernel
theorem dM_topic_55 : decode cM_topic 55 = .ok (.goto 17, 3) := by decide +kernel
theorem dM_topic_58 : decode cM_topic 58 = .ok (.aload_n 0, 1) := by decide +kernel
theorem dM_topic_59 : decode cM_topic 59 = .ok (.getfield 7, 3) := by decide +kernel
theorem dM_topic_62 : decode cM_topic 62 = .ok (.iload_n 1, 1) := by decide +kernel
theorem dM_topic_63 : decode cM_topic 63 = .ok (.iaload, 1) := by decide +kernel
theorem dM_topic_64 : decode cM_topic 64 = .ok (.ifCond .le 7, 3) := by decide +kernel
theorem dM_topic_67 : decode cM_topic 67 = .ok (.iconst 2, 1) := by decide +kernel
theorem dM_topic_68 : decode cM_topic 68 = .ok (.goto 4, 3) := by decide +kernel
theorem dM_topic_71 : decode cM_topic 71 = .ok (.iconst 0, 1) := by decide +kernel
theorem dM_topic_72 : decode cM_topic 72 = .ok (.putfield 77, 3) := by decide +kernel
theorem dM_topic_75 : decode cM_topic 75 = .ok (.aload_n 0, 1) := by decide +kernel
theorem dM_topic_76 : decode cM_topic 76 = .ok (.getfield 77, 3) := by decide +kernel
theorem dM_topic_79 : decode cM_topic 79 = .ok (.ifCond .eq 4, 3) := by decide +kernel
theorem dM_topic_82 : decode cM_topic 82 = .ok (.return_, 1) := by decide +kernel
theorem dM_topic_83 : decode cM_topic 83 = .ok (.aload_n 0, 1) := by decide +kernel
theorem dM_topic_84 : decode cM_topic 84 = .ok (.getfield 7, 3) := by decide +kernel
theorem dM_topic_87 : decode cM_topic 87 = .ok (.iload_n 1, 1) := by decide +kernel
theorem dM_topic_88 : decode cM_topic 88 = .ok (.iload_n 2, 1) := by decide +kernel
theorem dM_topic_89 : decode cM_topic 89 = .ok (.iastore, 1) := by decide +kernel
theorem dM_topic_90 : decode cM_topic 90 = .ok (.aload_n 0, 1) := by decide +kernel
theorem dM_topic_91 : decode cM_topic 91 = .ok (.getfield 13, 3) := by decide +kernel
theorem dM_topic_94 : decode cM_topic 94 = .ok (.iload_n 1, 1) := by decide +kernel
theorem dM_topic_95 : decode cM_topic 95 = .ok (.iload_n 3, 1) := by decide +kernel
theorem dM_topic_96 : decode cM_topic 96 = .ok (.iastore, 1) := by decide +kernel
theorem dM_topic_97 : decode cM_topic 97 = .ok (.aload_n 0, 1) := by decide +kernel
theorem dM_topic_98 : decode cM_topic 98 = .ok (.getfield 16, 3) := by decide +kernel
theorem dM_topic_101 : decode cM_topic 101 = .ok (.iload_n 1, 1) := by decide +kernel
theorem dM_topic_102 : decode cM_topic 102 = .ok (.iload 4, 2) := by decide +kernel
theorem dM_topic_104 : decode cM_topic 104 = .ok (.iastore, 1) := by decide +kernel
theorem dM_topic_105 : decode cM_topic 105 = .ok (.aload_n 0, 1) := by decide +kernel
theorem dM_topic_106 : decode cM_topic 106 = .ok (.getfield 19, 3) := by decide +kernel
theorem dM_topic_109 : decode cM_topic 109 = .ok (.iload_n 1, 1) := by decide +kernel
theorem dM_topic_110 : decode cM_topic 110 = .ok (.iload 5, 2) := by decide +kernel
theorem dM_topic_112 : decode cM_topic 112 = .ok (.bastore, 1) := by decide +kernel
theorem dM_topic_113 : decode cM_topic 113 = .ok (.return_, 1) := by decide +kernel
theorem dM_stable_0 : decode cM_stable 0 = .ok (.iconst 0, 1) := by decide +kernel
theorem dM_stable_1 : decode cM_stable 1 = .ok (.istore_n 2, 1) := by decide +kernel
theorem dM_stable_2 : decode cM_stable 2 = .ok (.iload_n 2, 1) := by decide +kernel
theorem dM_stable_3 : decode cM_stable 3 = .ok (.aload_n 0, 1) := by decide +kernel
theorem dM_stable_4 : decode cM_stable 4 = .ok (.getfield 26, 3) := by decide +kernel
theorem dM_stable_7 : decode cM_stable 7 = .ok (.iload_n 1, 1) := by decide +kernel
theorem dM_stable_8 : decode cM_stable 8 = .ok (.iaload, 1) := by decide +kernel
theorem dM_stable_9 : decode cM_stable 9 = .ok (.if_icmp .ge 40, 3) := by decide +kernel
theorem dM_stable_12 : decode cM_stable 12 = .ok (.aload_n 0, 1) := by decide +kernel
theorem dM_stable_13 : decode cM_stable 13 = .ok (.getfield 29, 3) := by decide +kernel
theorem dM_stable_16 : decode cM_stable 16 = .ok (.iload_n 1, 1) := by decide +kernel
theorem dM_stable_17 : decode cM_stable 17 = .ok (.bipush 60, 2) := by decide +kernel
theorem dM_stable_19 : decode cM_stable 19 = .ok (.imul, 1) := by decide +kernel
theorem dM_stable_20 : decode cM_stable 20 = .ok (.iload_n 2, 1) := by decide +kernel
theorem dM_stable_21 : decode cM_stable 21 = .ok (.iadd, 1) := by decide +kernel
theorem dM_stable_22 : decode cM_stable 22 = .ok (.iaload, 1) := by decide +kernel
theorem dM_stable_23 : decode cM_stable 23 = .ok (.ifCond .ne 20, 3) := by decide +kernel
theorem dM_stable_26 : decode cM_stable 26 = .ok (.aload_n 0, 1) := by decide +kernel
theorem dM_stable_27 : decode cM_stable 27 = .ok (.getfield 41, 3) := by decide +kernel
theorem dM_stable_30 : decode cM_stable 30 = .ok (.iload_n 1, 1) := by decide +kernel
theorem dM_stable_31 : decode cM_stable 31 = .ok (.bipush 60, 2) := by decide +kernel
theorem dM_stable_33 : decode cM_stable 33 = .ok (.imul, 1) := by decide +kernel
theorem dM_stable_34 : decode cM_stable 34 = .ok (.iload_n 2, 1) := by decide +kernel
theorem dM_stable_35 : decode cM_stable 35 = .ok (.iadd, 1) := by decide +kernel
theorem dM_stable_36 : decode cM_stable 36 = .ok (.iaload, 1) := by decide +kernel
theorem dM_stable_37 : decode cM_stable 37 = .ok (.iconst 2, 1) := by decide +kernel
theorem dM_stable_38 : decode cM_stable 38 = .ok (.if_icmp .ne 5, 3) := by decide +kernel
theorem dM_stable_41 : decode cM_stable 41 = .ok (.iload_n 2, 1) := by decide +kernel
theorem dM_stable_42 : decode cM_stable 42 = .ok (.ireturn, 1) := by decide +kernel
theorem dM_stable_43 : decode cM_stable 43 = .ok (.iinc 2 1, 3) := by decide +kernel
theorem dM_stable_46 : decode cM_stable 46 = .ok (.goto (-44), 3) := by decide +kernel
theorem dM_stable_49 : decode cM_stable 49 = .ok (.aload_n 0, 1) := by decide +kernel
theorem dM_stable_50 : decode cM_stable 50 = .ok (.getfield 26, 3) := by decide +kernel
theorem dM_stable_53 : decode cM_stable 53 = .ok (.iload_n 1, 1) := by decide +kernel
theorem dM_stable_54 : decode cM_stable 54 = .ok (.iaload, 1) := by decide +kernel
theorem dM_stable_55 : decode cM_stable 55 = .ok (.ireturn, 1) := by decide +kernel
theorem dM_openBase_0 : decode cM_openBase 0 = .ok (.aload_n 0, 1) := by decide +kernel
theorem dM_openBase_1 : decode cM_openBase 1 = .ok (.getfield 26, 3) := by decide +kernel
theorem dM_openBase_4 : decode cM_openBase 4 = .ok (.iload_n 1, 1) := by decide +kernel
theorem dM_openBase_5 : decode cM_openBase 5 = .ok (.iaload, 1) := by decide +kernel
theorem dM_openBase_6 : decode cM_openBase 6 = .ok (.aload_n 0, 1) := by decide +kernel
theorem dM_openBase_7 : decode cM_openBase 7 = .ok (.getfield 13, 3) := by decide +kernel
theorem dM_openBase_10 : decode cM_openBase 10 = .ok (.iload_n 1, 1) := by decide +kernel
theorem dM_openBase_11 : decode cM_openBase 11 = .ok (.iconst 4, 1) := by decide +kernel
theorem dM_openBase_12 : decode cM_openBase 12 = .ok (.idiv, 1) := by decide +kernel
theorem dM_openBase_13 : decode cM_openBase 13 = .ok (.iaload, 1) := by decide +kernel
theorem dM_openBase_14 : decode cM_openBase 14 = .ok (.idiv, 1) := by decide +kernel
theorem dM_openBase_15 : decode cM_openBase 15 = .ok (.aload_n 0, 1) := by decide +kernel
theorem dM_openBase_16 : decode cM_openBase 16 = .ok (.getfield 13, 3) := by decide +kernel
theorem dM_openBase_19 : decode cM_openBase 19 = .ok (.iload_n 1, 1) := by decide +kernel
theorem dM_openBase_20 : decode cM_openBase 20 = .ok (.iconst 4, 1) := by decide +kernel
theorem dM_openBase_21 : decode cM_openBase 21 = .ok (.idiv, 1) := by decide +kernel
theorem dM_openBase_22 : decode cM_openBase 22 = .ok (.iaload, 1) := by decide +kernel
theorem dM_openBase_23 : decode cM_openBase 23 = .ok (.imul, 1) := by decide +kernel
theorem dM_openBase_24 : decode cM_openBase 24 = .ok (.ireturn, 1) := by decide +kernel
theorem dM_closed_0 : decode cM_closed 0 = .ok (.aload_n 0, 1) := by decide +kernel
theorem dM_closed_1 : decode cM_closed 1 = .ok (.iload_n 1, 1) := by decide +kernel
theorem dM_closed_2 : decode cM_closed 2 = .ok (.invokevirtual 81, 3) := by decide +kernel
theorem dM_closed_5 : decode cM_closed 5 = .ok (.aload_n 0, 1) := by decide +kernel
theorem dM_closed_6 : decode cM_closed 6 = .ok (.getfield 23, 3) := by decide +kernel
theorem dM_closed_9 : decode cM_closed 9 = .ok (.iload_n 1, 1) := by decide +kernel
theorem dM_closed_10 : decode cM_closed 10 = .ok (.iaload, 1) := by decide +kernel
theorem dM_closed_11 : decode cM_closed 11 = .ok (.isub, 1) := by decide +kernel
theorem dM_closed_12 : decode cM_closed 12 = .ok (.aload_n 0, 1) := by decide +kernel
theorem dM_closed_13 : decode cM_closed 13 = .ok (.getfield 13, 3) := by decide +kernel
theorem dM_closed_16 : decode cM_closed 16 = .ok (.iload_n 1, 1) := by decide +kernel
theorem dM_closed_17 : decode cM_closed 17 = .ok (.iconst 4, 1) := by decide +kernel
theorem dM_closed_18 : decode cM_closed 18 = .ok (.idiv, 1) := by decide +kernel
theorem dM_closed_19 : decode cM_closed 19 = .ok (.iaload, 1) := by decide +kernel
theorem dM_closed_20 : decode cM_closed 20 = .ok (.idiv, 1) := by decide +kernel
theorem dM_closed_21 : decode cM_closed 21 = .ok (.ireturn, 1) := by decide +kernel
theorem dM_shorten_0 : decode cM_shorten 0 = .ok (.aload_n 0, 1) := by decide +kernel
theorem dM_shorten_1 : decode cM_shorten 1 = .ok (.getfield 13, 3) := by decide +kernel
theorem dM_shorten_4 : decode cM_shorten 4 = .ok (.iload_n 1, 1) := by decide +kernel
theorem dM_shorten_5 : decode cM_shorten 5 = .ok (.iconst 4, 1) := by decide +kernel
theorem dM_shorten_6 : decode cM_shorten 6 = .ok (.idiv, 1) := by decide +kernel
theorem dM_shorten_7 : decode cM_shorten 7 = .ok (.iaload, 1) := by decide +kernel
theorem dM_shorten_8 : decode cM_shorten 8 = .ok (.istore_n 2, 1) := by decide +kernel
theorem dM_shorten_9 : decode cM_shorten 9 = .ok (.aload_n 0, 1) := by decide +kernel
theorem dM_shorten_10 : decode cM_shorten 10 = .ok (.iload_n 1, 1) := by decide +kernel
theorem dM_shorten_11 : decode cM_shorten 11 = .ok (.invokevirtual 85, 3) := by decide +kernel
theorem dM_shorten_14 : decode cM_shorten 14 = .ok (.aload_n 0, 1) := by decide +kernel
theorem dM_shorten_15 : decode cM_shorten 15 = .ok (.getfield 16, 3) := by decide +kernel
theorem dM_shorten_18 : decode cM_shorten 18 = .ok (.iload_n 1, 1) := by decide +kernel
theorem dM_shorten_19 : decode cM_shorten 19 = .ok (.iconst 4, 1) := by decide +kernel
theorem dM_shorten_20 : decode cM_shorten 20 = .ok (.idiv, 1) := by decide +kernel
theorem dM_shorten_21 : decode cM_shorten 21 = .ok (.iaload, 1) := by decide +kernel
theorem dM_shorten_22 : decode cM_shorten 22 = .ok (.if_icmp .le 93, 3) := by decide +kernel
theorem dM_shorten_25 : decode cM_shorten 25 = .ok (.aload_n 0, 1) := by decide +kernel
theorem dM_shorten_26 : decode cM_shorten 26 = .ok (.getfield 23, 3) := by decide +kernel
theorem dM_shorten_29 : decode cM_shorten 29 = .ok (.iload_n 1, 1) := by decide +kernel
theorem dM_shorten_30 : decode cM_shorten 30 = .ok (.iaload, 1) := by decide +kernel
theorem dM_shorten_31 : decode cM_shorten 31 = .ok (.iload_n 2, 1) := by decide +kernel
theorem dM_shorten_32 : decode cM_shorten 32 = .ok (.iadd, 1) := by decide +kernel
theorem dM_shorten_33 : decode cM_shorten 33 = .ok (.aload_n 0, 1) := by decide +kernel
theorem dM_shorten_34 : decode cM_shorten 34 = .ok (.iload_n 1, 1) := by decide +kernel
theorem dM_shorten_35 : decode cM_shorten 35 = .ok (.invokevirtual 88, 3) := by decide +kernel
theorem dM_shorten_38 : decode cM_shorten 38 = .ok (.if_icmp .gt 77, 3) := by decide +kernel
theorem dM_shorten_41 : decode cM_shorten 41 = .ok (.aload_n 0, 1) := by decide +kernel
theorem dM_shorten_42 : decode cM_shorten 42 = .ok (.getfield 23, 3) := by decide +kernel
theorem dM_shorten_45 : decode cM_shorten 45 = .ok (.iload_n 1, 1) := by decide +kernel
theorem dM_shorten_46 : decode cM_shorten 46 = .ok (.iaload, 1) := by decide +kernel
theorem dM_shorten_47 : decode cM_shorten 47 = .ok (.istore_n 3, 1) := by decide +kernel
theorem dM_shorten_48 : decode cM_shorten 48 = .ok (.iload_n 3, 1) := by decide +kernel
theorem dM_shorten_49 : decode cM_shorten 49 = .ok (.aload_n 0, 1) := by decide +kernel
theorem dM_shorten_50 : decode cM_shorten 50 = .ok (.getfield 23, 3) := by decide +kernel
theorem dM_shorten_53 : decode cM_shorten 53 = .ok (.iload_n 1, 1) := by decide +kernel
theorem dM_shorten_54 : decode cM_shorten 54 = .ok (.iaload, 1) := by decide +kernel
theorem dM_shorten_55 : decode cM_shorten 55 = .ok (.iload_n 2, 1) := by decide +kernel
theorem dM_shorten_56 : decode cM_shorten 56 = .ok (.iadd, 1) := by decide +kernel
theorem dM_shorten_57 : decode cM_shorten 57 = .ok (.if_icmp .ge 45, 3) := by decide +kernel
theorem dM_shorten_60 : decode cM_shorten 60 = .ok (.aload_n 0, 1) := by decide +kernel
theorem dM_shorten_61 : decode cM_shorten 61 = .ok (.getfield 29, 3) := by decide +kernel
theorem dM_shorten_64 : decode cM_shorten 64 = .ok (.iload_n 1, 1) := by decide +kernel
theorem dM_shorten_65 : decode cM_shorten 65 = .ok (.bipush 60, 2) := by decide +kernel
theorem dM_shorten_67 : decode cM_shorten 67 = .ok (.imul, 1) := by decide +kernel
theorem dM_shorten_68 : decode cM_shorten 68 = .ok (.iload_n 3, 1) := by decide +kernel
theorem dM_shorten_69 : decode cM_shorten 69 = .ok (.iadd, 1) := by decide +kernel
theorem dM_shorten_70 : decode cM_shorten 70 = .ok (.iaload, 1) := by decide +kernel
theorem dM_shorten_71 : decode cM_shorten 71 = .ok (.ifCond .lt 13, 3) := by decide +kernel
theorem dM_shorten_74 : decode cM_shorten 74 = .ok (.aload_n 0, 1) := by decide +kernel
theorem dM_shorten_75 : decode cM_shorten 75 = .ok (.dup, 1) := by decide +kernel
theorem dM_shorten_76 : decode cM_shorten 76 = .ok (.getfield 91, 3) := by decide +kernel
theorem dM_shorten_79 : decode cM_shorten 79 = .ok (.iconst 1, 1) := by decide +kernel
theorem dM_shorten_80 : decode cM_shorten 80 = .ok (.iadd, 1) := by decide +kernel
theorem dM_shorten_81 : decode cM_shorten 81 = .ok (.putfield 91, 3) := by decide +kernel
theorem dM_shorten_84 : decode cM_shorten 84 = .ok (.aload_n 0, 1) := by decide +kernel
theorem dM_shorten_85 : decode cM_shorten 85 = .ok (.getfield 29, 3) := by decide +kernel
theorem dM_shorten_88 : decode cM_shorten 88 = .ok (.iload_n 1, 1) := by decide +kernel
theorem dM_shorten_89 : decode cM_shorten 89 = .ok (.bipush 60, 2) := by decide +kernel
theorem dM_shorten_91 : decode cM_shorten 91 = .ok (.imul, 1) := by decide +kernel
theorem dM_shorten_92 : decode cM_shorten 92 = .ok (.iload_n 3, 1) := by decide +kernel
theorem dM_shorten_93 : decode cM_shorten 93 = .ok (.iadd, 1) := by decide +kernel
theorem dM_shorten_94 : decode cM_shorten 94 = .ok (.iconst (-1), 1) := by decide +kernel
theorem dM_shorten_95 : decode cM_shorten 95 = .ok (.iastore, 1) := by decide +kernel
theorem dM_shorten_96 : decode cM_shorten 96 = .ok (.iinc 3 1, 3) := by decide +kernel
theorem dM_shorten_99 : decode cM_shorten 99 = .ok (.goto (-51), 3) := by decide +kernel
theorem dM_shorten_102 : decode cM_shorten 102 = .ok (.aload_n 0, 1) := by decide +kernel
theorem dM_shorten_103 : decode cM_shorten 103 = .ok (.getfield 23, 3) := by decide +kernel
theorem dM_shorten_106 : decode cM_shorten 106 = .ok (.iload_n 1, 1) := by decide +kernel
theorem dM_shorten_107 : decode cM_shorten 107 = .ok (.dup2, 1) := by decide +kernel
theorem dM_shorten_108 : decode cM_shorten 108 = .ok (.iaload, 1) := by decide +kernel
theorem dM_shorten_109 : decode cM_shorten 109 = .ok (.iload_n 2, 1) := by decide +kernel
theorem dM_shorten_110 : decode cM_shorten 110 = .ok (.iadd, 1) := by decide +kernel
theorem dM_shorten_111 : decode cM_shorten 111 = .ok (.iastore, 1) := by decide +kernel
theorem dM_shorten_112 : decode cM_shorten 112 = .ok (.goto (-103), 3) := by decide +kernel
theorem dM_shorten_115 : decode cM_shorten 115 = .ok (.return_, 1) := by decide +kernel
theorem dM_write_0 : decode cM_write 0 = .ok (.iload_n 1, 1) := by decide +kernel
theorem dM_write_1 : decode cM_write 1 = .ok (.bipush 60, 2) := by decide +kernel
theorem dM_write_3 : decode cM_write 3 = .ok (.imul, 1) := by decide +kernel
theorem dM_write_4 : decode cM_write 4 = .ok (.aload_n 0, 1) := by decide +kernel
theorem dM_write_5 : decode cM_write 5 = .ok (.getfield 26, 3) := by decide +kernel
theorem dM_write_8 : decode cM_write 8 = .ok (.iload_n 1, 1) := by decide +kernel
theorem dM_write_9 : decode cM_write 9 = .ok (.iaload, 1) := by decide +kernel
theorem dM_write_10 : decode cM_write 10 = .ok (.iadd, 1) := by decide +kernel
theorem dM_write_11 : decode cM_write 11 = .ok (.istore 6, 2) := by decide +kernel
theorem dM_write_13 : decode cM_write 13 = .ok (.aload_n 0, 1) := by decide +kernel
theorem dM_write_14 : decode cM_write 14 = .ok (.getfield 29, 3) := by decide +kernel
theorem dM_write_17 : decode cM_write 17 = .ok (.iload 6, 2) := by decide +kernel
theorem dM_write_19 : decode cM_write 19 = .ok (.iload_n 2, 1) := by decide +kernel
theorem dM_write_20 : decode cM_write 20 = .ok (.iastore, 1) := by decide +kernel
theorem dM_write_21 : decode cM_write 21 = .ok (.aload_n 0, 1) := by decide +kernel
theorem dM_write_22 : decode cM_write 22 = .ok (.getfield 32, 3) := by decide +kernel
theorem dM_write_25 : decode cM_write 25 = .ok (.iload 6, 2) := by decide +kernel
theorem dM_write_27 : decode cM_write 27 = .ok (.iload_n 3, 1) := by decide +kernel
theorem dM_write_28 : decode cM_write 28 = .ok (.iastore, 1) := by decide +kernel
theorem dM_write_29 : decode cM_write 29 = .ok (.aload_n 0, 1) := by decide +kernel
theorem dM_write_30 : decode cM_write 30 = .ok (.getfield 35, 3) := by decide +kernel
theorem dM_write_33 : decode cM_write 33 = .ok (.iload 6, 2) := by decide +kernel
theorem dM_write_35 : decode cM_write 35 = .ok (.iload 4, 2) := by decide +kernel
theorem dM_write_37 : decode cM_write 37 = .ok (.iastore, 1) := by decide +kernel
theorem dM_write_38 : decode cM_write 38 = .ok (.aload_n 0, 1) := by decide +kernel
theorem dM_write_39 : decode cM_write 39 = .ok (.getfield 38, 3) := by decide +kernel
theorem dM_write_42 : decode cM_write 42 = .ok (.iload 6, 2) := by decide +kernel
theorem dM_write_44 : decode cM_write 44 = .ok (.aload_n 0, 1) := by decide +kernel
theorem dM_write_45 : decode cM_write 45 = .ok (.getfield 47, 3) := by decide +kernel
theorem dM_write_48 : decode cM_write 48 = .ok (.iload 5, 2) := by decide +kernel
theorem dM_write_50 : decode cM_write 50 = .ok (.iaload, 1) := by decide +kernel
theorem dM_write_51 : decode cM_write 51 = .ok (.iastore, 1) := by decide +kernel
theorem dM_write_52 : decode cM_write 52 = .ok (.aload_n 0, 1) := by decide +kernel
theorem dM_write_53 : decode cM_write 53 = .ok (.getfield 44, 3) := by decide +kernel
theorem dM_write_56 : decode cM_write 56 = .ok (.iload 6, 2) := by decide +kernel
theorem dM_write_58 : decode cM_write 58 = .ok (.iload 5, 2) := by decide +kernel
theorem dM_write_60 : decode cM_write 60 = .ok (.iastore, 1) := by decide +kernel
theorem dM_write_61 : decode cM_write 61 = .ok (.aload_n 0, 1) := by decide +kernel
theorem dM_write_62 : decode cM_write 62 = .ok (.getfield 41, 3) := by decide +kernel
theorem dM_write_65 : decode cM_write 65 = .ok (.iload 6, 2) := by decide +kernel
theorem dM_write_67 : decode cM_write 67 = .ok (.iload_n 2, 1) := by decide +kernel
theorem dM_write_68 : decode cM_write 68 = .ok (.ifCond .ne 17, 3) := by decide +kernel
theorem dM_write_71 : decode cM_write 71 = .ok (.aload_n 0, 1) := by decide +kernel
theorem dM_write_72 : decode cM_write 72 = .ok (.getfield 56, 3) := by decide +kernel
theorem dM_write_75 : decode cM_write 75 = .ok (.iload 5, 2) := by decide +kernel
theorem dM_write_77 : decode cM_write 77 = .ok (.baload, 1) := by decide +kernel
theorem dM_write_78 : decode cM_write 78 = .ok (.ifCond .eq 7, 3) := by decide +kernel
theorem dM_write_81 : decode cM_write 81 = .ok (.iconst 2, 1) := by decide +kernel
theorem dM_write_82 : decode cM_write 82 = .ok (.goto 4, 3) := by decide +kernel
theorem dM_write_85 : decode cM_write 85 = .ok (.iconst 0, 1) := by decide +kernel
theorem dM_write_86 : decode cM_write 86 = .ok (.iastore, 1) := by decide +kernel
theorem dM_write_87 : decode cM_write 87 = .ok (.aload_n 0, 1) := by decide +kernel
theorem dM_write_88 : decode cM_write 88 = .ok (.getfield 26, 3) := by decide +kernel
theorem dM_write_91 : decode cM_write 91 = .ok (.iload_n 1, 1) := by decide +kernel
theorem dM_write_92 : decode cM_write 92 = .ok (.dup2, 1) := by decide +kernel
theorem dM_write_93 : decode cM_write 93 = .ok (.iaload, 1) := by decide +kernel
theorem dM_write_94 : decode cM_write 94 = .ok (.iconst 1, 1) := by decide +kernel
theorem dM_write_95 : decode cM_write 95 = .ok (.iadd, 1) := by decide +kernel
theorem dM_write_96 : decode cM_write 96 = .ok (.iastore, 1) := by decide +kernel
theorem dM_write_97 : decode cM_write 97 = .ok (.aload_n 0, 1) := by decide +kernel
theorem dM_write_98 : decode cM_write 98 = .ok (.dup, 1) := by decide +kernel
theorem dM_write_99 : decode cM_write 99 = .ok (.getfield 94, 3) := by decide +kernel
theorem dM_write_102 : decode cM_write 102 = .ok (.iconst 1, 1) := by decide +kernel
theorem dM_write_103 : decode cM_write 103 = .ok (.iadd, 1) := by decide +kernel
theorem dM_write_104 : decode cM_write 104 = .ok (.putfield 94, 3) := by decide +kernel
theorem dM_write_107 : decode cM_write 107 = .ok (.aload_n 0, 1) := by decide +kernel
theorem dM_write_108 : decode cM_write 108 = .ok (.iload_n 1, 1) := by decide +kernel
theorem dM_write_109 : decode cM_write 109 = .ok (.invokevirtual 97, 3) := by decide +kernel
theorem dM_write_112 : decode cM_write 112 = .ok (.aload_n 0, 1) := by decide +kernel
theorem dM_write_113 : decode cM_write 113 = .ok (.getfield 26, 3) := by decide +kernel
theorem dM_write_116 : decode cM_write 116 = .ok (.iload_n 1, 1) := by decide +kernel
theorem dM_write_117 : decode cM_write 117 = .ok (.iaload, 1) := by decide +kernel
theorem dM_write_118 : decode cM_write 118 = .ok (.iconst 1, 1) := by decide +kernel
theorem dM_write_119 : decode cM_write 119 = .ok (.isub, 1) := by decide +kernel
theorem dM_write_120 : decode cM_write 120 = .ok (.ireturn, 1) := by decide +kernel
theorem dM_takesPart_0 : decode cM_takesPart 0 = .ok (.iconst 0, 1) := by decide +kernel
theorem dM_takesPart_1 : decode cM_takesPart 1 = .ok (.istore_n 3, 1) := by decide +kernel
theorem dM_takesPart_2 : decode cM_takesPart 2 = .ok (.iload_n 3, 1) := by decide +kernel
theorem dM_takesPart_3 : decode cM_takesPart 3 = .ok (.aload_n 0, 1) := by decide +kernel
theorem dM_takesPart_4 : decode cM_takesPart 4 = .ok (.getfield 26, 3) := by decide +kernel
theorem dM_takesPart_7 : decode cM_takesPart 7 = .ok (.iload_n 2, 1) := by decide +kernel
theorem dM_takesPart_8 : decode cM_takesPart 8 = .ok (.iaload, 1) := by decide +kernel
theorem dM_takesPart_9 : decode cM_takesPart 9 = .ok (.if_icmp .ge 51, 3) := by decide +kernel
theorem dM_takesPart_12 : decode cM_takesPart 12 = .ok (.iload_n 2, 1) := by decide +kernel
theorem dM_takesPart_13 : decode cM_takesPart 13 = .ok (.bipush 60, 2) := by decide +kernel
theorem dM_takesPart_15 : decode cM_takesPart 15 = .ok (.imul, 1) := by decide +kernel
theorem dM_takesPart_16 : decode cM_takesPart 16 = .ok (.iload_n 3, 1) := by decide +kernel
theorem dM_takesPart_17 : decode cM_takesPart 17 = .ok (.iadd, 1) := by decide +kernel
theorem dM_takesPart_18 : decode cM_takesPart 18 = .ok (.istore 4, 2) := by decide +kernel
theorem dM_takesPart_20 : decode cM_takesPart 20 = .ok (.aload_n 0, 1) := by decide +kernel
theorem dM_takesPart_21 : decode cM_takesPart 21 = .ok (.getfield 29, 3) := by decide +kernel
theorem dM_takesPart_24 : decode cM_takesPart 24 = .ok (.iload 4, 2) := by decide +kernel
theorem dM_takesPart_26 : decode cM_takesPart 26 = .ok (.iaload, 1) := by decide +kernel
theorem dM_takesPart_27 : decode cM_takesPart 27 = .ok (.ifCond .ne 27, 3) := by decide +kernel
theorem dM_takesPart_30 : decode cM_takesPart 30 = .ok (.aload_n 0, 1) := by decide +kernel
theorem dM_takesPart_31 : decode cM_takesPart 31 = .ok (.getfield 41, 3) := by decide +kernel
theorem dM_takesPart_34 : decode cM_takesPart 34 = .ok (.iload 4, 2) := by decide +kernel
theorem dM_takesPart_36 : decode cM_takesPart 36 = .ok (.iaload, 1) := by decide +kernel
theorem dM_takesPart_37 : decode cM_takesPart 37 = .ok (.iconst 2, 1) := by decide +kernel
theorem dM_takesPart_38 : decode cM_takesPart 38 = .ok (.if_icmp .ne 16, 3) := by decide +kernel
theorem dM_takesPart_41 : decode cM_takesPart 41 = .ok (.aload_n 0, 1) := by decide +kernel
theorem dM_takesPart_42 : decode cM_takesPart 42 = .ok (.getfield 44, 3) := by decide +kernel
theorem dM_takesPart_45 : decode cM_takesPart 45 = .ok (.iload 4, 2) := by decide +kernel
theorem dM_takesPart_47 : decode cM_takesPart 47 = .ok (.iaload, 1) := by decide +kernel
theorem dM_takesPart_48 : decode cM_takesPart 48 = .ok (.iload_n 1, 1) := by decide +kernel
theorem dM_takesPart_49 : decode cM_takesPart 49 = .ok (.if_icmp .ne 5, 3) := by decide +kernel
theorem dM_takesPart_52 : decode cM_takesPart 52 = .ok (.iconst 1, 1) := by decide +kernel
theorem dM_takesPart_53 : decode cM_takesPart 53 = .ok (.ireturn, 1) := by decide +kernel
theorem dM_takesPart_54 : decode cM_takesPart 54 = .ok (.iinc 3 1, 3) := by decide +kernel
theorem dM_takesPart_57 : decode cM_takesPart 57 = .ok (.goto (-55), 3) := by decide +kernel
theorem dM_takesPart_60 : decode cM_takesPart 60 = .ok (.iconst 0, 1) := by decide +kernel
theorem dM_takesPart_61 : decode cM_takesPart 61 = .ok (.ireturn, 1) := by decide +kernel
theorem dM_roomToEnd_0 : decode cM_roomToEnd 0 = .ok (.iconst 0, 1) := by decide +kernel
theorem dM_roomToEnd_1 : decode cM_roomToEnd 1 = .ok (.istore_n 2, 1) := by decide +kernel
theorem dM_roomToEnd_2 : decode cM_roomToEnd 2 = .ok (.iload_n 2, 1) := by decide +kernel
theorem dM_roomToEnd_3 : decode cM_roomToEnd 3 = .ok (.bipush 12, 2) := by decide +kernel
theorem dM_roomToEnd_5 : decode cM_roomToEnd 5 = .ok (.if_icmp .ge 31, 3) := by decide +kernel
theorem dM_roomToEnd_8 : decode cM_roomToEnd 8 = .ok (.aload_n 0, 1) := by decide +kernel
theorem dM_roomToEnd_9 : decode cM_roomToEnd 9 = .ok (.getfield 26, 3) := by decide +kernel
theorem dM_roomToEnd_12 : decode cM_roomToEnd 12 = .ok (.iload_n 2, 1) := by decide +kernel
theorem dM_roomToEnd_13 : decode cM_roomToEnd 13 = .ok (.iaload, 1) := by decide +kernel
theorem dM_roomToEnd_14 : decode cM_roomToEnd 14 = .ok (.bipush 60, 2) := by decide +kernel
theorem dM_roomToEnd_16 : decode cM_roomToEnd 16 = .ok (.if_icmp .ne 14, 3) := by decide +kernel
theorem dM_roomToEnd_19 : decode cM_roomToEnd 19 = .ok (.aload_n 0, 1) := by decide +kernel
theorem dM_roomToEnd_20 : decode cM_roomToEnd 20 = .ok (.iload_n 1, 1) := by decide +kernel
theorem dM_roomToEnd_21 : decode cM_roomToEnd 21 = .ok (.iload_n 2, 1) := by decide +kernel
theorem dM_roomToEnd_22 : decode cM_roomToEnd 22 = .ok (.invokevirtual 101, 3) := by decide +kernel
theorem dM_roomToEnd_25 : decode cM_roomToEnd 25 = .ok (.ifCond .eq 5, 3) := by decide +kernel
theorem dM_roomToEnd_28 : decode cM_roomToEnd 28 = .ok (.iconst 0, 1) := by decide +kernel
theorem dM_roomToEnd_29 : decode cM_roomToEnd 29 = .ok (.ireturn, 1) := by decide +kernel
theorem dM_roomToEnd_30 : decode cM_roomToEnd 30 = .ok (.iinc 2 1, 3) := by decide +kernel
theorem dM_roomToEnd_33 : decode cM_roomToEnd 33 = .ok (.goto (-31), 3) := by decide +kernel
theorem dM_roomToEnd_36 : decode cM_roomToEnd 36 = .ok (.iconst 1, 1) := by decide +kernel
theorem dM_roomToEnd_37 : decode cM_roomToEnd 37 = .ok (.ireturn, 1) := by decide +kernel
theorem dM_finish_0 : decode cM_finish 0 = .ok (.iconst 0, 1) := by decide +kernel
theorem dM_finish_1 : decode cM_finish 1 = .ok (.istore_n 3, 1) := by decide +kernel
theorem dM_finish_2 : decode cM_finish 2 = .ok (.iconst 0, 1) := by decide +kernel
theorem dM_finish_3 : decode cM_finish 3 = .ok (.istore 4, 2) := by decide +kernel
theorem dM_finish_5 : decode cM_finish 5 = .ok (.iload 4, 2) := by decide +kernel
theorem dM_finish_7 : decode cM_finish 7 = .ok (.bipush 12, 2) := by decide +kernel
theorem dM_finish_9 : decode cM_finish 9 = .ok (.if_icmp .ge 42, 3) := by decide +kernel
theorem dM_finish_12 : decode cM_finish 12 = .ok (.aload_n 0, 1) := by decide +kernel
theorem dM_finish_13 : decode cM_finish 13 = .ok (.iload_n 1, 1) := by decide +kernel
theorem dM_finish_14 : decode cM_finish 14 = .ok (.iload 4, 2) := by decide +kernel
theorem dM_finish_16 : decode cM_finish 16 = .ok (.invokevirtual 101, 3) := by decide +kernel
theorem dM_finish_19 : decode cM_finish 19 = .ok (.ifCond .eq 26, 3) := by decide +kernel
theorem dM_finish_22 : decode cM_finish 22 = .ok (.aload_n 0, 1) := by decide +kernel
theorem dM_finish_23 : decode cM_finish 23 = .ok (.iload 4, 2) := by decide +kernel
theorem dM_finish_25 : decode cM_finish 25 = .ok (.iload_n 2, 1) := by decide +kernel
theorem dM_finish_26 : decode cM_finish 26 = .ok (.ifCond .eq 7, 3) := by decide +kernel
theorem dM_finish_29 : decode cM_finish 29 = .ok (.iconst 1, 1) := by decide +kernel
theorem dM_finish_30 : decode cM_finish 30 = .ok (.goto 4, 3) := by decide +kernel
theorem dM_finish_33 : decode cM_finish 33 = .ok (.iconst 2, 1) := by decide +kernel
theorem dM_finish_34 : decode cM_finish 34 = .ok (.iconst (-1), 1) := by decide +kernel
theorem dM_finish_35 : decode cM_finish 35 = .ok (.iconst 0, 1) := by decide +kernel
theorem dM_finish_36 : decode cM_finish 36 = .ok (.iload_n 1, 1) := by decide +kernel
theorem dM_finish_37 : decode cM_finish 37 = .ok (.invokevirtual 105, 3) := by decide +kernel
theorem dM_finish_40 : decode cM_finish 40 = .ok (.istore 5, 2) := by decide +kernel
theorem dM_finish_42 : decode cM_finish 42 = .ok (.iinc 3 1, 3) := by decide +kernel
theorem dM_finish_45 : decode cM_finish 45 = .ok (.iinc 4 1, 3) := by decide +kernel
theorem dM_finish_48 : decode cM_finish 48 = .ok (.goto (-43), 3) := by decide +kernel
theorem dM_finish_51 : decode cM_finish 51 = .ok (.iconst 0, 1) := by decide +kernel
theorem dM_finish_52 : decode cM_finish 52 = .ok (.istore 4, 2) := by decide +kernel
theorem dM_finish_54 : decode cM_finish 54 = .ok (.iload 4, 2) := by decide +kernel
theorem dM_finish_56 : decode cM_finish 56 = .ok (.sipush 720, 3) := by decide +kernel
theorem dM_finish_59 : decode cM_finish 59 = .ok (.if_icmp .ge 57, 3) := by decide +kernel
theorem dM_finish_62 : decode cM_finish 62 = .ok (.aload_n 0, 1) := by decide +kernel
theorem dM_finish_63 : decode cM_finish 63 = .ok (.getfield 29, 3) := by decide +kernel
theorem dM_finish_66 : decode cM_finish 66 = .ok (.iload 4, 2) := by decide +kernel
theorem dM_finish_68 : decode cM_finish 68 = .ok (.iaload, 1) := by decide +kernel
theorem dM_finish_69 : decode cM_finish 69 = .ok (.ifCond .ne 41, 3) := by decide +kernel
theorem dM_finish_72 : decode cM_finish 72 = .ok (.aload_n 0, 1) := by decide +kernel
theorem dM_finish_73 : decode cM_finish 73 = .ok (.getfield 41, 3) := by decide +kernel
theorem dM_finish_76 : decode cM_finish 76 = .ok (.iload 4, 2) := by decide +kernel
theorem dM_finish_78 : decode cM_finish 78 = .ok (.iaload, 1) := by decide +kernel
theorem dM_finish_79 : decode cM_finish 79 = .ok (.iconst 2, 1) := by decide +kernel
theorem dM_finish_80 : decode cM_finish 80 = .ok (.if_icmp .ne 30, 3) := by decide +kernel
theorem dM_finish_83 : decode cM_finish 83 = .ok (.aload_n 0, 1) := by decide +kernel
theorem dM_finish_84 : decode cM_finish 84 = .ok (.getfield 44, 3) := by decide +kernel
theorem dM_finish_87 : decode cM_finish 87 = .ok (.iload 4, 2) := by decide +kernel
theorem dM_finish_89 : decode cM_finish 89 = .ok (.iaload, 1) := by decide +kernel
theorem dM_finish_90 : decode cM_finish 90 = .ok (.iload_n 1, 1) := by decide +kernel
theorem dM_finish_91 : decode cM_finish 91 = .ok (.if_icmp .ne 19, 3) := by decide +kernel
theorem dM_finish_94 : decode cM_finish 94 = .ok (.aload_n 0, 1) := by decide +kernel
theorem dM_finish_95 : decode cM_finish 95 = .ok (.getfield 41, 3) := by decide +kernel
theorem dM_finish_98 : decode cM_finish 98 = .ok (.iload 4, 2) := by decide +kernel
theorem dM_finish_100 : decode cM_finish 100 = .ok (.iload_n 2, 1) := by decide +kernel
theorem dM_finish_101 : decode cM_finish 101 = .ok (.ifCond .eq 7, 3) := by decide +kernel
theorem dM_finish_104 : decode cM_finish 104 = .ok (.iconst 0, 1) := by decide +kernel
theorem dM_finish_105 : decode cM_finish 105 = .ok (.goto 4, 3) := by decide +kernel
theorem dM_finish_108 : decode cM_finish 108 = .ok (.iconst 1, 1) := by decide +kernel
theorem dM_finish_109 : decode cM_finish 109 = .ok (.iastore, 1) := by decide +kernel
theorem dM_finish_110 : decode cM_finish 110 = .ok (.iinc 4 1, 3) := by decide +kernel
theorem dM_finish_113 : decode cM_finish 113 = .ok (.goto (-59), 3) := by decide +kernel
theorem dM_finish_116 : decode cM_finish 116 = .ok (.aload_n 0, 1) := by decide +kernel
theorem dM_finish_117 : decode cM_finish 117 = .ok (.dup, 1) := by decide +kernel
theorem dM_finish_118 : decode cM_finish 118 = .ok (.getfield 109, 3) := by decide +kernel
theorem dM_finish_121 : decode cM_finish 121 = .ok (.iload_n 3, 1) := by decide +kernel
theorem dM_finish_122 : decode cM_finish 122 = .ok (.iadd, 1) := by decide +kernel
theorem dM_finish_123 : decode cM_finish 123 = .ok (.putfield 109, 3) := by decide +kernel
theorem dM_finish_126 : decode cM_finish 126 = .ok (.aload_n 0, 1) := by decide +kernel
theorem dM_finish_127 : decode cM_finish 127 = .ok (.getfield 56, 3) := by decide +kernel
theorem dM_finish_130 : decode cM_finish 130 = .ok (.iload_n 1, 1) := by decide +kernel
theorem dM_finish_131 : decode cM_finish 131 = .ok (.iconst 0, 1) := by decide +kernel
theorem dM_finish_132 : decode cM_finish 132 = .ok (.bastore, 1) := by decide +kernel
theorem dM_finish_133 : decode cM_finish 133 = .ok (.iload_n 3, 1) := by decide +kernel
theorem dM_finish_134 : decode cM_finish 134 = .ok (.ireturn, 1) := by decide +kernel
theorem dM_open_0 : decode cM_open 0 = .ok (.aload_n 0, 1) := by decide +kernel
theorem dM_open_1 : decode cM_open 1 = .ok (.aload_n 0, 1) := by decide +kernel
theorem dM_open_2 : decode cM_open 2 = .ok (.iload_n 1, 1) := by decide +kernel
theorem dM_open_3 : decode cM_open 3 = .ok (.invokevirtual 112, 3) := by decide +kernel
theorem dM_open_6 : decode cM_open 6 = .ok (.ifCond .ne 12, 3) := by decide +kernel
theorem dM_open_9 : decode cM_open 9 = .ok (.iload_n 2, 1) := by decide +kernel
theorem dM_open_10 : decode cM_open 10 = .ok (.ifCond .lt 8, 3) := by decide +kernel
theorem dM_open_13 : decode cM_open 13 = .ok (.iload_n 2, 1) := by decide +kernel
theorem dM_open_14 : decode cM_open 14 = .ok (.iconst 3, 1) := by decide +kernel
theorem dM_open_15 : decode cM_open 15 = .ok (.if_icmp .le 7, 3) := by decide +kernel
theorem dM_open_18 : decode cM_open 18 = .ok (.iconst 1, 1) := by decide +kernel
theorem dM_open_19 : decode cM_open 19 = .ok (.goto 4, 3) := by decide +kernel
theorem dM_open_22 : decode cM_open 22 = .ok (.iconst 0, 1) := by decide +kernel
theorem dM_open_23 : decode cM_open 23 = .ok (.putfield 77, 3) := by decide +kernel
theorem dM_open_26 : decode cM_open 26 = .ok (.aload_n 0, 1) := by decide +kernel
theorem dM_open_27 : decode cM_open 27 = .ok (.getfield 77, 3) := by decide +kernel
theorem dM_open_30 : decode cM_open 30 = .ok (.ifCond .eq 5, 3) := by decide +kernel
theorem dM_open_33 : decode cM_open 33 = .ok (.iconst 0, 1) := by decide +kernel
theorem dM_open_34 : decode cM_open 34 = .ok (.ireturn, 1) := by decide +kernel
theorem dM_open_35 : decode cM_open 35 = .ok (.aload_n 0, 1) := by decide +kernel
theorem dM_open_36 : decode cM_open 36 = .ok (.getfield 47, 3) := by decide +kernel
theorem dM_open_39 : decode cM_open 39 = .ok (.iload_n 1, 1) := by decide +kernel
theorem dM_open_40 : decode cM_open 40 = .ok (.iaload, 1) := by decide +kernel
theorem dM_open_41 : decode cM_open 41 = .ok (.istore_n 3, 1) := by decide +kernel
theorem dM_open_42 : decode cM_open 42 = .ok (.iload_n 3, 1) := by decide +kernel
theorem dM_open_43 : decode cM_open 43 = .ok (.ifCond .lt 22, 3) := by decide +kernel
theorem dM_open_46 : decode cM_open 46 = .ok (.iload_n 3, 1) := by decide +kernel
theorem dM_open_47 : decode cM_open 47 = .ok (.iload_n 2, 1) := by decide +kernel
theorem dM_open_48 : decode cM_open 48 = .ok (.if_icmp .eq 17, 3) := by decide +kernel
theorem dM_open_51 : decode cM_open 51 = .ok (.aload_n 0, 1) := by decide +kernel
theorem dM_open_52 : decode cM_open 52 = .ok (.getfield 59, 3) := by decide +kernel
theorem dM_open_55 : decode cM_open 55 = .ok (.iload_n 3, 1) := by decide +kernel
theorem dM_open_56 : decode cM_open 56 = .ok (.iaload, 1) := by decide +kernel
theorem dM_open_57 : decode cM_open 57 = .ok (.iload_n 1, 1) := by decide +kernel
theorem dM_open_58 : decode cM_open 58 = .ok (.if_icmp .ne 7, 3) := by decide +kernel
theorem dM_open_61 : decode cM_open 61 = .ok (.iconst 1, 1) := by decide +kernel
theorem dM_open_62 : decode cM_open 62 = .ok (.goto 4, 3) := by decide +kernel
theorem dM_open_65 : decode cM_open 65 = .ok (.iconst 0, 1) := by decide +kernel
theorem dM_open_66 : decode cM_open 66 = .ok (.istore 4, 2) := by decide +kernel
theorem dM_open_68 : decode cM_open 68 = .ok (.aload_n 0, 1) := by decide +kernel
theorem dM_open_69 : decode cM_open 69 = .ok (.getfield 59, 3) := by decide +kernel
theorem dM_open_72 : decode cM_open 72 = .ok (.iload_n 2, 1) := by decide +kernel
theorem dM_open_73 : decode cM_open 73 = .ok (.iaload, 1) := by decide +kernel
theorem dM_open_74 : decode cM_open 74 = .ok (.istore 5, 2) := by decide +kernel
theorem dM_open_76 : decode cM_open 76 = .ok (.iload 4, 2) := by decide +kernel
theorem dM_open_78 : decode cM_open 78 = .ok (.ifCond .eq 20, 3) := by decide +kernel
theorem dM_open_81 : decode cM_open 81 = .ok (.aload_n 0, 1) := by decide +kernel
theorem dM_open_82 : decode cM_open 82 = .ok (.getfield 56, 3) := by decide +kernel
theorem dM_open_85 : decode cM_open 85 = .ok (.iload_n 1, 1) := by decide +kernel
theorem dM_open_86 : decode cM_open 86 = .ok (.baload, 1) := by decide +kernel
theorem dM_open_87 : decode cM_open 87 = .ok (.ifCond .eq 11, 3) := by decide +kernel
theorem dM_open_90 : decode cM_open 90 = .ok (.aload_n 0, 1) := by decide +kernel
theorem dM_open_91 : decode cM_open 91 = .ok (.iconst 2, 1) := by decide +kernel
theorem dM_open_92 : decode cM_open 92 = .ok (.putfield 77, 3) := by decide +kernel
theorem dM_open_95 : decode cM_open 95 = .ok (.goto 32, 3) := by decide +kernel
theorem dM_open_98 : decode cM_open 98 = .ok (.iload 5, 2) := by decide +kernel
theorem dM_open_100 : decode cM_open 100 = .ok (.ifCond .lt 27, 3) := by decide +kernel
theorem dM_open_103 : decode cM_open 103 = .ok (.aload_n 0, 1) := by decide +kernel
theorem dM_open_104 : decode cM_open 104 = .ok (.getfield 56, 3) := by decide +kernel
theorem dM_open_107 : decode cM_open 107 = .ok (.iload 5, 2) := by decide +kernel
theorem dM_open_109 : decode cM_open 109 = .ok (.baload, 1) := by decide +kernel
theorem dM_open_110 : decode cM_open 110 = .ok (.ifCond .eq 17, 3) := by decide +kernel
theorem dM_open_113 : decode cM_open 113 = .ok (.aload_n 0, 1) := by decide +kernel
theorem dM_open_114 : decode cM_open 114 = .ok (.iload 5, 2) := by decide +kernel
theorem dM_open_116 : decode cM_open 116 = .ok (.invokevirtual 116, 3) := by decide +kernel
theorem dM_open_119 : decode cM_open 119 = .ok (.ifCond .ne 8, 3) := by decide +kernel
theorem dM_open_122 : decode cM_open 122 = .ok (.aload_n 0, 1) := by decide +kernel
theorem dM_open_123 : decode cM_open 123 = .ok (.iconst 3, 1) := by decide +kernel
theorem dM_open_124 : decode cM_open 124 = .ok (.putfield 77, 3) := by decide +kernel
theorem dM_open_127 : decode cM_open 127 = .ok (.aload_n 0, 1) := by decide +kernel
theorem dM_open_128 : decode cM_open 128 = .ok (.getfield 77, 3) := by decide +kernel
theorem dM_open_131 : decode cM_open 131 = .ok (.ifCond .eq 5, 3) := by decide +kernel
theorem dM_open_134 : decode cM_open 134 = .ok (.iconst 0, 1) := by decide +kernel
theorem dM_open_135 : decode cM_open 135 = .ok (.ireturn, 1) := by decide +kernel
theorem dM_open_136 : decode cM_open 136 = .ok (.iload 5, 2) := by decide +kernel
theorem dM_open_138 : decode cM_open 138 = .ok (.ifCond .lt 22, 3) := by decide +kernel
theorem dM_open_141 : decode cM_open 141 = .ok (.aload_n 0, 1) := by decide +kernel
theorem dM_open_142 : decode cM_open 142 = .ok (.getfield 56, 3) := by decide +kernel
theorem dM_open_145 : decode cM_open 145 = .ok (.iload 5, 2) := by decide +kernel
theorem dM_open_147 : decode cM_open 147 = .ok (.baload, 1) := by decide +kernel
theorem dM_open_148 : decode cM_open 148 = .ok (.ifCond .eq 12, 3) := by decide +kernel
theorem dM_open_151 : decode cM_open 151 = .ok (.aload_n 0, 1) := by decide +kernel
theorem dM_open_152 : decode cM_open 152 = .ok (.iload 5, 2) := by decide +kernel
theorem dM_open_154 : decode cM_open 154 = .ok (.iconst 0, 1) := by decide +kernel
theorem dM_open_155 : decode cM_open 155 = .ok (.invokevirtual 119, 3) := by decide +kernel
theorem dM_open_158 : decode cM_open 158 = .ok (.istore 6, 2) := by decide +kernel
theorem dM_open_160 : decode cM_open 160 = .ok (.iload 4, 2) := by decide +kernel
theorem dM_open_162 : decode cM_open 162 = .ok (.ifCond .eq 10, 3) := by decide +kernel
theorem dM_open_165 : decode cM_open 165 = .ok (.aload_n 0, 1) := by decide +kernel
theorem dM_open_166 : decode cM_open 166 = .ok (.getfield 59, 3) := by decide +kernel
theorem dM_open_169 : decode cM_open 169 = .ok (.iload_n 3, 1) := by decide +kernel
theorem dM_open_170 : decode cM_open 170 = .ok (.iconst (-1), 1) := by decide +kernel
theorem dM_open_171 : decode cM_open 171 = .ok (.iastore, 1) := by decide +kernel
theorem dM_open_172 : decode cM_open 172 = .ok (.aload_n 0, 1) := by decide +kernel
theorem dM_open_173 : decode cM_open 173 = .ok (.getfield 47, 3) := by decide +kernel
theorem dM_open_176 : decode cM_open 176 = .ok (.iload_n 1, 1) := by decide +kernel
theorem dM_open_177 : decode cM_open 177 = .ok (.iload_n 2, 1) := by decide +kernel
theorem dM_open_178 : decode cM_open 178 = .ok (.iastore, 1) := by decide +kernel
theorem dM_open_179 : decode cM_open 179 = .ok (.aload_n 0, 1) := by decide +kernel
theorem dM_open_180 : decode cM_open 180 = .ok (.getfield 59, 3) := by decide +kernel
theorem dM_open_183 : decode cM_open 183 = .ok (.iload_n 2, 1) := by decide +kernel
theorem dM_open_184 : decode cM_open 184 = .ok (.iload_n 1, 1) := by decide +kernel
theorem dM_open_185 : decode cM_open 185 = .ok (.iastore, 1) := by decide +kernel
theorem dM_open_186 : decode cM_open 186 = .ok (.iconst 0, 1) := by decide +kernel
theorem dM_open_187 : decode cM_open 187 = .ok (.istore 6, 2) := by decide +kernel
theorem dM_open_189 : decode cM_open 189 = .ok (.iload 6, 2) := by decide +kernel
theorem dM_open_191 : decode cM_open 191 = .ok (.bipush 12, 2) := by decide +kernel
theorem dM_open_193 : decode cM_open 193 = .ok (.if_icmp .ge 22, 3) := by decide +kernel
theorem dM_open_196 : decode cM_open 196 = .ok (.aload_n 0, 1) := by decide +kernel
theorem dM_open_197 : decode cM_open 197 = .ok (.getfield 50, 3) := by decide +kernel
theorem dM_open_200 : decode cM_open 200 = .ok (.iload_n 1, 1) := by decide +kernel
theorem dM_open_201 : decode cM_open 201 = .ok (.bipush 12, 2) := by decide +kernel
theorem dM_open_203 : decode cM_open 203 = .ok (.imul, 1) := by decide +kernel
theorem dM_open_204 : decode cM_open 204 = .ok (.iload 6, 2) := by decide +kernel
theorem dM_open_206 : decode cM_open 206 = .ok (.iadd, 1) := by decide +kernel
theorem dM_open_207 : decode cM_open 207 = .ok (.iconst 0, 1) := by decide +kernel
theorem dM_open_208 : decode cM_open 208 = .ok (.iastore, 1) := by decide +kernel
theorem dM_open_209 : decode cM_open 209 = .ok (.iinc 6 1, 3) := by decide +kernel
theorem dM_open_212 : decode cM_open 212 = .ok (.goto (-23), 3) := by decide +kernel
theorem dM_open_215 : decode cM_open 215 = .ok (.aload_n 0, 1) := by decide +kernel
theorem dM_open_216 : decode cM_open 216 = .ok (.getfield 62, 3) := by decide +kernel
theorem dM_open_219 : decode cM_open 219 = .ok (.iload_n 2, 1) := by decide +kernel
theorem dM_open_220 : decode cM_open 220 = .ok (.dup2, 1) := by decide +kernel
theorem dM_open_221 : decode cM_open 221 = .ok (.iaload, 1) := by decide +kernel
theorem dM_open_222 : decode cM_open 222 = .ok (.iconst 1, 1) := by decide +kernel
theorem dM_open_223 : decode cM_open 223 = .ok (.iadd, 1) := by decide +kernel
theorem dM_open_224 : decode cM_open 224 = .ok (.iastore, 1) := by decide +kernel
theorem dM_open_225 : decode cM_open 225 = .ok (.aload_n 0, 1) := by decide +kernel
theorem dM_open_226 : decode cM_open 226 = .ok (.getfield 62, 3) := by decide +kernel
theorem dM_open_229 : decode cM_open 229 = .ok (.iload_n 2, 1) := by decide +kernel
theorem dM_open_230 : decode cM_open 230 = .ok (.iaload, 1) := by decide +kernel
theorem dM_open_231 : decode cM_open 231 = .ok (.ireturn, 1) := by decide +kernel
theorem dM_fenced_0 : decode cM_fenced 0 = .ok (.aload_n 0, 1) := by decide +kernel
theorem dM_fenced_1 : decode cM_fenced 1 = .ok (.getfield 59, 3) := by decide +kernel
theorem dM_fenced_4 : decode cM_fenced 4 = .ok (.aload_n 0, 1) := by decide +kernel
theorem dM_fenced_5 : decode cM_fenced 5 = .ok (.getfield 47, 3) := by decide +kernel
theorem dM_fenced_8 : decode cM_fenced 8 = .ok (.iload_n 1, 1) := by decide +kernel
theorem dM_fenced_9 : decode cM_fenced 9 = .ok (.iaload, 1) := by decide +kernel
theorem dM_fenced_10 : decode cM_fenced 10 = .ok (.iaload, 1) := by decide +kernel
theorem dM_fenced_11 : decode cM_fenced 11 = .ok (.iload_n 1, 1) := by decide +kernel
theorem dM_fenced_12 : decode cM_fenced 12 = .ok (.if_icmp .eq 7, 3) := by decide +kernel
theorem dM_fenced_15 : decode cM_fenced 15 = .ok (.iconst 1, 1) := by decide +kernel
theorem dM_fenced_16 : decode cM_fenced 16 = .ok (.goto 4, 3) := by decide +kernel
theorem dM_fenced_19 : decode cM_fenced 19 = .ok (.iconst 0, 1) := by decide +kernel
theorem dM_fenced_20 : decode cM_fenced 20 = .ok (.ireturn, 1) := by decide +kernel
theorem dM_produce_0 : decode cM_produce 0 = .ok (.aload_n 0, 1) := by decide +kernel
theorem dM_produce_1 : decode cM_produce 1 = .ok (.aload_n 0, 1) := by decide +kernel
theorem dM_produce_2 : decode cM_produce 2 = .ok (.iload_n 1, 1) := by decide +kernel
theorem dM_produce_3 : decode cM_produce 3 = .ok (.invokevirtual 112, 3) := by decide +kernel
theorem dM_produce_6 : decode cM_produce 6 = .ok (.ifCond .ne 28, 3) := by decide +kernel
theorem dM_produce_9 : decode cM_produce 9 = .ok (.aload_n 0, 1) := by decide +kernel
theorem dM_produce_10 : decode cM_produce 10 = .ok (.iload_n 2, 1) := by decide +kernel
theorem dM_produce_11 : decode cM_produce 11 = .ok (.invokevirtual 123, 3) := by decide +kernel
theorem dM_produce_14 : decode cM_produce 14 = .ok (.ifCond .ne 20, 3) := by decide +kernel
theorem dM_produce_17 : decode cM_produce 17 = .ok (.iload_n 3, 1) := by decide +kernel
theorem dM_produce_18 : decode cM_produce 18 = .ok (.ifCond .lt 16, 3) := by decide +kernel
theorem dM_produce_21 : decode cM_produce 21 = .ok (.iload 4, 2) := by decide +kernel
theorem dM_produce_23 : decode cM_produce 23 = .ok (.iconst (-1), 1) := by decide +kernel
theorem dM_produce_24 : decode cM_produce 24 = .ok (.if_icmp .lt 10, 3) := by decide +kernel
theorem dM_produce_27 : decode cM_produce 27 = .ok (.iload 4, 2) := by decide +kernel
theorem dM_produce_29 : decode cM_produce 29 = .ok (.bipush 7, 2) := by decide +kernel
theorem dM_produce_31 : decode cM_produce 31 = .ok (.if_icmp .le 7, 3) := by decide +kernel
theorem dM_produce_34 : decode cM_produce 34 = .ok (.iconst 1, 1) := by decide +kernel
theorem dM_produce_35 : decode cM_produce 35 = .ok (.goto 17, 3) := by decide +kernel
theorem dM_produce_38 : decode cM_produce 38 = .ok (.aload_n 0, 1) := by decide +kernel
theorem dM_produce_39 : decode cM_produce 39 = .ok (.getfield 47, 3) := by decide +kernel
theorem dM_produce_42 : decode cM_produce 42 = .ok (.iload_n 1, 1) := by decide +kernel
theorem dM_produce_43 : decode cM_produce 43 = .ok (.iaload, 1) := by decide +kernel
theorem dM_produce_44 : decode cM_produce 44 = .ok (.ifCond .ge 7, 3) := by decide +kernel
theorem dM_produce_47 : decode cM_produce 47 = .ok (.iconst 2, 1) := by decide +kernel
theorem dM_produce_48 : decode cM_produce 48 = .ok (.goto 4, 3) := by decide +kernel
theorem dM_produce_51 : decode cM_produce 51 = .ok (.iconst 0, 1) := by decide +kernel
theorem dM_produce_52 : decode cM_produce 52 = .ok (.putfield 77, 3) := by decide +kernel
theorem dM_produce_55 : decode cM_produce 55 = .ok (.aload_n 0, 1) := by decide +kernel
theorem dM_produce_56 : decode cM_produce 56 = .ok (.getfield 77, 3) := by decide +kernel
theorem dM_produce_59 : decode cM_produce 59 = .ok (.ifCond .eq 5, 3) := by decide +kernel
theorem dM_produce_62 : decode cM_produce 62 = .ok (.iconst 0, 1) := by decide +kernel
theorem dM_produce_63 : decode cM_produce 63 = .ok (.ireturn, 1) := by decide +kernel
theorem dM_produce_64 : decode cM_produce 64 = .ok (.iload_n 1, 1) := by decide +kernel
theorem dM_produce_65 : decode cM_produce 65 = .ok (.bipush 12, 2) := by decide +kernel
theorem dM_produce_67 : decode cM_produce 67 = .ok (.imul, 1) := by decide +kernel
theorem dM_produce_68 : decode cM_produce 68 = .ok (.iload_n 2, 1) := by decide +kernel
theorem dM_produce_69 : decode cM_produce 69 = .ok (.iadd, 1) := by decide +kernel
theorem dM_produce_70 : decode cM_produce 70 = .ok (.istore 6, 2) := by decide +kernel
theorem dM_produce_72 : decode cM_produce 72 = .ok (.aload_n 0, 1) := by decide +kernel
theorem dM_produce_73 : decode cM_produce 73 = .ok (.getfield 50, 3) := by decide +kernel
theorem dM_produce_76 : decode cM_produce 76 = .ok (.iload 6, 2) := by decide +kernel
theorem dM_produce_78 : decode cM_produce 78 = .ok (.iaload, 1) := by decide +kernel
theorem dM_produce_79 : decode cM_produce 79 = .ok (.iload_n 3, 1) := by decide +kernel
theorem dM_produce_80 : decode cM_produce 80 = .ok (.isub, 1) := by decide +kernel
theorem dM_produce_81 : decode cM_produce 81 = .ok (.istore 7, 2) := by decide +kernel
theorem dM_produce_83 : decode cM_produce 83 = .ok (.iload 7, 2) := by decide +kernel
theorem dM_produce_85 : decode cM_produce 85 = .ok (.ifCond .lt 9, 3) := by decide +kernel
theorem dM_produce_88 : decode cM_produce 88 = .ok (.iload 7, 2) := by decide +kernel
theorem dM_produce_90 : decode cM_produce 90 = .ok (.iconst 3, 1) := by decide +kernel
theorem dM_produce_91 : decode cM_produce 91 = .ok (.if_icmp .le 11, 3) := by decide +kernel
theorem dM_produce_94 : decode cM_produce 94 = .ok (.aload_n 0, 1) := by decide +kernel
theorem dM_produce_95 : decode cM_produce 95 = .ok (.iconst 3, 1) := by decide +kernel
theorem dM_produce_96 : decode cM_produce 96 = .ok (.putfield 77, 3) := by decide +kernel
theorem dM_produce_99 : decode cM_produce 99 = .ok (.goto 32, 3) := by decide +kernel
theorem dM_produce_102 : decode cM_produce 102 = .ok (.aload_n 0, 1) := by decide +kernel
theorem dM_produce_103 : decode cM_produce 103 = .ok (.iload_n 1, 1) := by decide +kernel
theorem dM_produce_104 : decode cM_produce 104 = .ok (.invokevirtual 126, 3) := by decide +kernel
theorem dM_produce_107 : decode cM_produce 107 = .ok (.ifCond .ne 19, 3) := by decide +kernel
theorem dM_produce_110 : decode cM_produce 110 = .ok (.iload 7, 2) := by decide +kernel
theorem dM_produce_112 : decode cM_produce 112 = .ok (.ifCond .ne 19, 3) := by decide +kernel
theorem dM_produce_115 : decode cM_produce 115 = .ok (.aload_n 0, 1) := by decide +kernel
theorem dM_produce_116 : decode cM_produce 116 = .ok (.getfield 26, 3) := by decide +kernel
theorem dM_produce_119 : decode cM_produce 119 = .ok (.iload_n 2, 1) := by decide +kernel
theorem dM_produce_120 : decode cM_produce 120 = .ok (.iaload, 1) := by decide +kernel
theorem dM_produce_121 : decode cM_produce 121 = .ok (.bipush 60, 2) := by decide +kernel
theorem dM_produce_123 : decode cM_produce 123 = .ok (.if_icmp .ne 8, 3) := by decide +kernel
theorem dM_produce_126 : decode cM_produce 126 = .ok (.aload_n 0, 1) := by decide +kernel
theorem dM_produce_127 : decode cM_produce 127 = .ok (.iconst 4, 1) := by decide +kernel
theorem dM_produce_128 : decode cM_produce 128 = .ok (.putfield 77, 3) := by decide +kernel
theorem dM_produce_131 : decode cM_produce 131 = .ok (.aload_n 0, 1) := by decide +kernel
theorem dM_produce_132 : decode cM_produce 132 = .ok (.getfield 77, 3) := by decide +kernel
theorem dM_produce_135 : decode cM_produce 135 = .ok (.ifCond .eq 5, 3) := by decide +kernel
theorem dM_produce_138 : decode cM_produce 138 = .ok (.iconst 0, 1) := by decide +kernel
theorem dM_produce_139 : decode cM_produce 139 = .ok (.ireturn, 1) := by decide +kernel
theorem dM_produce_140 : decode cM_produce 140 = .ok (.iload 7, 2) := by decide +kernel
theorem dM_produce_142 : decode cM_produce 142 = .ok (.ifCond .le 27, 3) := by decide +kernel
theorem dM_produce_145 : decode cM_produce 145 = .ok (.aload_n 0, 1) := by decide +kernel
theorem dM_produce_146 : decode cM_produce 146 = .ok (.dup, 1) := by decide +kernel
theorem dM_produce_147 : decode cM_produce 147 = .ok (.getfield 129, 3) := by decide +kernel
theorem dM_produce_150 : decode cM_produce 150 = .ok (.iconst 1, 1) := by decide +kernel
theorem dM_produce_151 : decode cM_produce 151 = .ok (.iadd, 1) := by decide +kernel
theorem dM_produce_152 : decode cM_produce 152 = .ok (.putfield 129, 3) := by decide +kernel
theorem dM_produce_155 : decode cM_produce 155 = .ok (.aload_n 0, 1) := by decide +kernel
theorem dM_produce_156 : decode cM_produce 156 = .ok (.getfield 53, 3) := by decide +kernel
theorem dM_produce_159 : decode cM_produce 159 = .ok (.iload 6, 2) := by decide +kernel
theorem dM_produce_161 : decode cM_produce 161 = .ok (.iconst 3, 1) := by decide +kernel
theorem dM_produce_162 : decode cM_produce 162 = .ok (.imul, 1) := by decide +kernel
theorem dM_produce_163 : decode cM_produce 163 = .ok (.iload_n 3, 1) := by decide +kernel
theorem dM_produce_164 : decode cM_produce 164 = .ok (.iconst 3, 1) := by decide +kernel
theorem dM_produce_165 : decode cM_produce 165 = .ok (.irem, 1) := by decide +kernel
theorem dM_produce_166 : decode cM_produce 166 = .ok (.iadd, 1) := by decide +kernel
theorem dM_produce_167 : decode cM_produce 167 = .ok (.iaload, 1) := by decide +kernel
theorem dM_produce_168 : decode cM_produce 168 = .ok (.ireturn, 1) := by decide +kernel
theorem dM_produce_169 : decode cM_produce 169 = .ok (.aload_n 0, 1) := by decide +kernel
theorem dM_produce_170 : decode cM_produce 170 = .ok (.getfield 50, 3) := by decide +kernel
theorem dM_produce_173 : decode cM_produce 173 = .ok (.iload 6, 2) := by decide +kernel
theorem dM_produce_175 : decode cM_produce 175 = .ok (.dup2, 1) := by decide +kernel
theorem dM_produce_176 : decode cM_produce 176 = .ok (.iaload, 1) := by decide +kernel
theorem dM_produce_177 : decode cM_produce 177 = .ok (.iconst 1, 1) := by decide +kernel
theorem dM_produce_178 : decode cM_produce 178 = .ok (.iadd, 1) := by decide +kernel
theorem dM_produce_179 : decode cM_produce 179 = .ok (.iastore, 1) := by decide +kernel
theorem dM_produce_180 : decode cM_produce 180 = .ok (.aload_n 0, 1) := by decide +kernel
theorem dM_produce_181 : decode cM_produce 181 = .ok (.iload_n 2, 1) := by decide +kernel
theorem dM_produce_182 : decode cM_produce 182 = .ok (.iconst 0, 1) := by decide +kernel
theorem dM_produce_183 : decode cM_produce 183 = .ok (.iload 4, 2) := by decide +kernel
theorem dM_produce_185 : decode cM_produce 185 = .ok (.iload 5, 2) := by decide +kernel
theorem dM_produce_187 : decode cM_produce 187 = .ok (.iload_n 1, 1) := by decide +kernel
theorem dM_produce_188 : decode cM_produce 188 = .ok (.invokevirtual 105, 3) := by decide +kernel
theorem dM_produce_191 : decode cM_produce 191 = .ok (.istore 8, 2) := by decide +kernel
theorem dM_produce_193 : decode cM_produce 193 = .ok (.aload_n 0, 1) := by decide +kernel
theorem dM_produce_194 : decode cM_produce 194 = .ok (.getfield 53, 3) := by decide +kernel
theorem dM_produce_197 : decode cM_produce 197 = .ok (.iload 6, 2) := by decide +kernel
theorem dM_produce_199 : decode cM_produce 199 = .ok (.iconst 3, 1) := by decide +kernel
theorem dM_produce_200 : decode cM_produce 200 = .ok (.imul, 1) := by decide +kernel
theorem dM_produce_201 : decode cM_produce 201 = .ok (.iload_n 3, 1) := by decide +kernel
theorem dM_produce_202 : decode cM_produce 202 = .ok (.iconst 3, 1) := by decide +kernel
theorem dM_produce_203 : decode cM_produce 203 = .ok (.irem, 1) := by decide +kernel
theorem dM_produce_204 : decode cM_produce 204 = .ok (.iadd, 1) := by decide +kernel
theorem dM_produce_205 : decode cM_produce 205 = .ok (.iload 8, 2) := by decide +kernel
theorem dM_produce_207 : decode cM_produce 207 = .ok (.iastore, 1) := by decide +kernel
theorem dM_produce_208 : decode cM_produce 208 = .ok (.iload 8, 2) := by decide +kernel
theorem dM_produce_210 : decode cM_produce 210 = .ok (.ireturn, 1) := by decide +kernel
theorem dM_begin_0 : decode cM_begin 0 = .ok (.aload_n 0, 1) := by decide +kernel
theorem dM_begin_1 : decode cM_begin 1 = .ok (.aload_n 0, 1) := by decide +kernel
theorem dM_begin_2 : decode cM_begin 2 = .ok (.iload_n 1, 1) := by decide +kernel
theorem dM_begin_3 : decode cM_begin 3 = .ok (.invokevirtual 112, 3) := by decide +kernel
theorem dM_begin_6 : decode cM_begin 6 = .ok (.ifCond .eq 7, 3) := by decide +kernel
theorem dM_begin_9 : decode cM_begin 9 = .ok (.iconst 1, 1) := by decide +kernel
theorem dM_begin_10 : decode cM_begin 10 = .ok (.goto 42, 3) := by decide +kernel
theorem dM_begin_13 : decode cM_begin 13 = .ok (.aload_n 0, 1) := by decide +kernel
theorem dM_begin_14 : decode cM_begin 14 = .ok (.getfield 47, 3) := by decide +kernel
theorem dM_begin_17 : decode cM_begin 17 = .ok (.iload_n 1, 1) := by decide +kernel
theorem dM_begin_18 : decode cM_begin 18 = .ok (.iaload, 1) := by decide +kernel
theorem dM_begin_19 : decode cM_begin 19 = .ok (.ifCond .ge 7, 3) := by decide +kernel
theorem dM_begin_22 : decode cM_begin 22 = .ok (.iconst 2, 1) := by decide +kernel
theorem dM_begin_23 : decode cM_begin 23 = .ok (.goto 29, 3) := by decide +kernel
theorem dM_begin_26 : decode cM_begin 26 = .ok (.aload_n 0, 1) := by decide +kernel
theorem dM_begin_27 : decode cM_begin 27 = .ok (.getfield 56, 3) := by decide +kernel
theorem dM_begin_30 : decode cM_begin 30 = .ok (.iload_n 1, 1) := by decide +kernel
theorem dM_begin_31 : decode cM_begin 31 = .ok (.baload, 1) := by decide +kernel
theorem dM_begin_32 : decode cM_begin 32 = .ok (.ifCond .eq 7, 3) := by decide +kernel
theorem dM_begin_35 : decode cM_begin 35 = .ok (.iconst 3, 1) := by decide +kernel
theorem dM_begin_36 : decode cM_begin 36 = .ok (.goto 16, 3) := by decide +kernel
theorem dM_begin_39 : decode cM_begin 39 = .ok (.aload_n 0, 1) := by decide +kernel
theorem dM_begin_40 : decode cM_begin 40 = .ok (.iload_n 1, 1) := by decide +kernel
theorem dM_begin_41 : decode cM_begin 41 = .ok (.invokevirtual 126, 3) := by decide +kernel
theorem dM_begin_44 : decode cM_begin 44 = .ok (.ifCond .eq 7, 3) := by decide +kernel
theorem dM_begin_47 : decode cM_begin 47 = .ok (.iconst 4, 1) := by decide +kernel
theorem dM_begin_48 : decode cM_begin 48 = .ok (.goto 4, 3) := by decide +kernel
theorem dM_begin_51 : decode cM_begin 51 = .ok (.iconst 0, 1) := by decide +kernel
theorem dM_begin_52 : decode cM_begin 52 = .ok (.putfield 77, 3) := by decide +kernel
theorem dM_begin_55 : decode cM_begin 55 = .ok (.aload_n 0, 1) := by decide +kernel
theorem dM_begin_56 : decode cM_begin 56 = .ok (.getfield 77, 3) := by decide +kernel
theorem dM_begin_59 : decode cM_begin 59 = .ok (.ifCond .ne 10, 3) := by decide +kernel
theorem dM_begin_62 : decode cM_begin 62 = .ok (.aload_n 0, 1) := by decide +kernel
theorem dM_begin_63 : decode cM_begin 63 = .ok (.getfield 56, 3) := by decide +kernel
theorem dM_begin_66 : decode cM_begin 66 = .ok (.iload_n 1, 1) := by decide +kernel
theorem dM_begin_67 : decode cM_begin 67 = .ok (.iconst 1, 1) := by decide +kernel
theorem dM_begin_68 : decode cM_begin 68 = .ok (.bastore, 1) := by decide +kernel
theorem dM_begin_69 : decode cM_begin 69 = .ok (.return_, 1) := by decide +kernel
theorem dM_end_0 : decode cM_end 0 = .ok (.aload_n 0, 1) := by decide +kernel
theorem dM_end_1 : decode cM_end 1 = .ok (.aload_n 0, 1) := by decide +kernel
theorem dM_end_2 : decode cM_end 2 = .ok (.iload_n 1, 1) := by decide +kernel
theorem dM_end_3 : decode cM_end 3 = .ok (.invokevirtual 112, 3) := by decide +kernel
theorem dM_end_6 : decode cM_end 6 = .ok (.ifCond .eq 7, 3) := by decide +kernel
theorem dM_end_9 : decode cM_end 9 = .ok (.iconst 1, 1) := by decide +kernel
theorem dM_end_10 : decode cM_end 10 = .ok (.goto 50, 3) := by decide +kernel
theorem dM_end_13 : decode cM_end 13 = .ok (.aload_n 0, 1) := by decide +kernel
theorem dM_end_14 : decode cM_end 14 = .ok (.getfield 47, 3) := by decide +kernel
theorem dM_end_17 : decode cM_end 17 = .ok (.iload_n 1, 1) := by decide +kernel
theorem dM_end_18 : decode cM_end 18 = .ok (.iaload, 1) := by decide +kernel
theorem dM_end_19 : decode cM_end 19 = .ok (.ifCond .ge 7, 3) := by decide +kernel
theorem dM_end_22 : decode cM_end 22 = .ok (.iconst 2, 1) := by decide +kernel
theorem dM_end_23 : decode cM_end 23 = .ok (.goto 37, 3) := by decide +kernel
theorem dM_end_26 : decode cM_end 26 = .ok (.aload_n 0, 1) := by decide +kernel
theorem dM_end_27 : decode cM_end 27 = .ok (.getfield 56, 3) := by decide +kernel
theorem dM_end_30 : decode cM_end 30 = .ok (.iload_n 1, 1) := by decide +kernel
theorem dM_end_31 : decode cM_end 31 = .ok (.baload, 1) := by decide +kernel
theorem dM_end_32 : decode cM_end 32 = .ok (.ifCond .ne 7, 3) := by decide +kernel
theorem dM_end_35 : decode cM_end 35 = .ok (.iconst 3, 1) := by decide +kernel
theorem dM_end_36 : decode cM_end 36 = .ok (.goto 24, 3) := by decide +kernel
theorem dM_end_39 : decode cM_end 39 = .ok (.aload_n 0, 1) := by decide +kernel
theorem dM_end_40 : decode cM_end 40 = .ok (.iload_n 1, 1) := by decide +kernel
theorem dM_end_41 : decode cM_end 41 = .ok (.invokevirtual 126, 3) := by decide +kernel
theorem dM_end_44 : decode cM_end 44 = .ok (.ifCond .ne 11, 3) := by decide +kernel
theorem dM_end_47 : decode cM_end 47 = .ok (.aload_n 0, 1) := by decide +kernel
theorem dM_end_48 : decode cM_end 48 = .ok (.iload_n 1, 1) := by decide +kernel
theorem dM_end_49 : decode cM_end 49 = .ok (.invokevirtual 116, 3) := by decide +kernel
theorem dM_end_52 : decode cM_end 52 = .ok (.ifCond .ne 7, 3) := by decide +kernel
theorem dM_end_55 : decode cM_end 55 = .ok (.iconst 4, 1) := by decide +kernel
theorem dM_end_56 : decode cM_end 56 = .ok (.goto 4, 3) := by decide +kernel
theorem dM_end_59 : decode cM_end 59 = .ok (.iconst 0, 1) := by decide +kernel
theorem dM_end_60 : decode cM_end 60 = .ok (.putfield 77, 3) := by decide +kernel
theorem dM_end_63 : decode cM_end 63 = .ok (.aload_n 0, 1) := by decide +kernel
theorem dM_end_64 : decode cM_end 64 = .ok (.getfield 77, 3) := by decide +kernel
theorem dM_end_67 : decode cM_end 67 = .ok (.ifCond .ne 12, 3) := by decide +kernel
theorem dM_end_70 : decode cM_end 70 = .ok (.aload_n 0, 1) := by decide +kernel
theorem dM_end_71 : decode cM_end 71 = .ok (.iload_n 1, 1) := by decide +kernel
theorem dM_end_72 : decode cM_end 72 = .ok (.iload_n 2, 1) := by decide +kernel
theorem dM_end_73 : decode cM_end 73 = .ok (.invokevirtual 119, 3) := by decide +kernel
theorem dM_end_76 : decode cM_end 76 = .ok (.goto 4, 3) := by decide +kernel
theorem dM_end_79 : decode cM_end 79 = .ok (.iconst 0, 1) := by decide +kernel
theorem dM_end_80 : decode cM_end 80 = .ok (.ireturn, 1) := by decide +kernel
theorem dM_search_0 : decode cM_search 0 = .ok (.iload_n 3, 1) := by decide +kernel
theorem dM_search_1 : decode cM_search 1 = .ok (.ifCond .eq 11, 3) := by decide +kernel
theorem dM_search_4 : decode cM_search 4 = .ok (.aload_n 0, 1) := by decide +kernel
theorem dM_search_5 : decode cM_search 5 = .ok (.iload_n 1, 1) := by decide +kernel
theorem dM_search_6 : decode cM_search 6 = .ok (.invokevirtual 88, 3) := by decide +kernel
theorem dM_search_9 : decode cM_search 9 = .ok (.goto 9, 3) := by decide +kernel
theorem dM_search_12 : decode cM_search 12 = .ok (.aload_n 0, 1) := by decide +kernel
theorem dM_search_13 : decode cM_search 13 = .ok (.getfield 26, 3) := by decide +kernel
theorem dM_search_16 : decode cM_search 16 = .ok (.iload_n 1, 1) := by decide +kernel
theorem dM_search_17 : decode cM_search 17 = .ok (.iaload, 1) := by decide +kernel
theorem dM_search_18 : decode cM_search 18 = .ok (.istore 4, 2) := by decide +kernel
theorem dM_search_20 : decode cM_search 20 = .ok (.iload_n 2, 1) := by decide +kernel
theorem dM_search_21 : decode cM_search 21 = .ok (.istore 5, 2) := by decide +kernel
theorem dM_search_23 : decode cM_search 23 = .ok (.iload 5, 2) := by decide +kernel
theorem dM_search_25 : decode cM_search 25 = .ok (.iload 4, 2) := by decide +kernel
theorem dM_search_27 : decode cM_search 27 = .ok (.if_icmp .ge 45, 3) := by decide +kernel
theorem dM_search_30 : decode cM_search 30 = .ok (.iload_n 1, 1) := by decide +kernel
theorem dM_search_31 : decode cM_search 31 = .ok (.bipush 60, 2) := by decide +kernel
theorem dM_search_33 : decode cM_search 33 = .ok (.imul, 1) := by decide +kernel
theorem dM_search_34 : decode cM_search 34 = .ok (.iload 5, 2) := by decide +kernel
theorem dM_search_36 : decode cM_search 36 = .ok (.iadd, 1) := by decide +kernel
theorem dM_search_37 : decode cM_search 37 = .ok (.istore 6, 2) := by decide +kernel
theorem dM_search_39 : decode cM_search 39 = .ok (.aload_n 0, 1) := by decide +kernel
theorem dM_search_40 : decode cM_search 40 = .ok (.getfield 29, 3) := by decide +kernel
theorem dM_search_43 : decode cM_search 43 = .ok (.iload 6, 2) := by decide +kernel
theorem dM_search_45 : decode cM_search 45 = .ok (.iaload, 1) := by decide +kernel
theorem dM_search_46 : decode cM_search 46 = .ok (.ifCond .ne 20, 3) := by decide +kernel
theorem dM_search_49 : decode cM_search 49 = .ok (.iload_n 3, 1) := by decide +kernel
theorem dM_search_50 : decode cM_search 50 = .ok (.ifCond .eq 13, 3) := by decide +kernel
theorem dM_search_53 : decode cM_search 53 = .ok (.aload_n 0, 1) := by decide +kernel
theorem dM_search_54 : decode cM_search 54 = .ok (.getfield 41, 3) := by decide +kernel
theorem dM_search_57 : decode cM_search 57 = .ok (.iload 6, 2) := by decide +kernel
theorem dM_search_59 : decode cM_search 59 = .ok (.iaload, 1) := by decide +kernel
theorem dM_search_60 : decode cM_search 60 = .ok (.ifCond .ne 6, 3) := by decide +kernel
theorem dM_search_63 : decode cM_search 63 = .ok (.iload 5, 2) := by decide +kernel
theorem dM_search_65 : decode cM_search 65 = .ok (.ireturn, 1) := by decide +kernel
theorem dM_search_66 : decode cM_search 66 = .ok (.iinc 5 1, 3) := by decide +kernel
theorem dM_search_69 : decode cM_search 69 = .ok (.goto (-46), 3) := by decide +kernel
theorem dM_search_72 : decode cM_search 72 = .ok (.iconst (-1), 1) := by decide +kernel
theorem dM_search_73 : decode cM_search 73 = .ok (.ireturn, 1) := by decide +kernel
theorem dM_fetch_0 : decode cM_fetch 0 = .ok (.aload_n 0, 1) := by decide +kernel
theorem dM_fetch_1 : decode cM_fetch 1 = .ok (.aload_n 0, 1) := by decide +kernel
theorem dM_fetch_2 : decode cM_fetch 2 = .ok (.iload_n 1, 1) := by decide +kernel
theorem dM_fetch_3 : decode cM_fetch 3 = .ok (.invokevirtual 123, 3) := by decide +kernel
theorem dM_fetch_6 : decode cM_fetch 6 = .ok (.ifCond .eq 7, 3) := by decide +kernel
theorem dM_fetch_9 : decode cM_fetch 9 = .ok (.iconst 1, 1) := by decide +kernel
theorem dM_fetch_10 : decode cM_fetch 10 = .ok (.goto 42, 3) := by decide +kernel
theorem dM_fetch_13 : decode cM_fetch 13 = .ok (.iload_n 2, 1) := by decide +kernel
theorem dM_fetch_14 : decode cM_fetch 14 = .ok (.aload_n 0, 1) := by decide +kernel
theorem dM_fetch_15 : decode cM_fetch 15 = .ok (.getfield 23, 3) := by decide +kernel
theorem dM_fetch_18 : decode cM_fetch 18 = .ok (.iload_n 1, 1) := by decide +kernel
theorem dM_fetch_19 : decode cM_fetch 19 = .ok (.iaload, 1) := by decide +kernel
theorem dM_fetch_20 : decode cM_fetch 20 = .ok (.if_icmp .lt 13, 3) := by decide +kernel
theorem dM_fetch_23 : decode cM_fetch 23 = .ok (.iload_n 2, 1) := by decide +kernel
theorem dM_fetch_24 : decode cM_fetch 24 = .ok (.aload_n 0, 1) := by decide +kernel
theorem dM_fetch_25 : decode cM_fetch 25 = .ok (.getfield 26, 3) := by decide +kernel
theorem dM_fetch_28 : decode cM_fetch 28 = .ok (.iload_n 1, 1) := by decide +kernel
theorem dM_fetch_29 : decode cM_fetch 29 = .ok (.iaload, 1) := by decide +kernel
theorem dM_fetch_30 : decode cM_fetch 30 = .ok (.if_icmp .le 7, 3) := by decide +kernel
theorem dM_fetch_33 : decode cM_fetch 33 = .ok (.iconst 3, 1) := by decide +kernel
theorem dM_fetch_34 : decode cM_fetch 34 = .ok (.goto 18, 3) := by decide +kernel
theorem dM_fetch_37 : decode cM_fetch 37 = .ok (.aload_n 0, 1) := by decide +kernel
theorem dM_fetch_38 : decode cM_fetch 38 = .ok (.iload_n 1, 1) := by decide +kernel
theorem dM_fetch_39 : decode cM_fetch 39 = .ok (.iload_n 2, 1) := by decide +kernel
theorem dM_fetch_40 : decode cM_fetch 40 = .ok (.iload_n 3, 1) := by decide +kernel
theorem dM_fetch_41 : decode cM_fetch 41 = .ok (.invokevirtual 132, 3) := by decide +kernel
theorem dM_fetch_44 : decode cM_fetch 44 = .ok (.ifCond .ge 7, 3) := by decide +kernel
theorem dM_fetch_47 : decode cM_fetch 47 = .ok (.iconst 2, 1) := by decide +kernel
theorem dM_fetch_48 : decode cM_fetch 48 = .ok (.goto 4, 3) := by decide +kernel
theorem dM_fetch_51 : decode cM_fetch 51 = .ok (.iconst 0, 1) := by decide +kernel
theorem dM_fetch_52 : decode cM_fetch 52 = .ok (.putfield 77, 3) := by decide +kernel
theorem dM_fetch_55 : decode cM_fetch 55 = .ok (.aload_n 0, 1) := by decide +kernel
theorem dM_fetch_56 : decode cM_fetch 56 = .ok (.getfield 77, 3) := by decide +kernel
theorem dM_fetch_59 : decode cM_fetch 59 = .ok (.ifCond .ne 13, 3) := by decide +kernel
theorem dM_fetch_62 : decode cM_fetch 62 = .ok (.aload_n 0, 1) := by decide +kernel
theorem dM_fetch_63 : decode cM_fetch 63 = .ok (.iload_n 1, 1) := by decide +kernel
theorem dM_fetch_64 : decode cM_fetch 64 = .ok (.iload_n 2, 1) := by decide +kernel
theorem dM_fetch_65 : decode cM_fetch 65 = .ok (.iload_n 3, 1) := by decide +kernel
theorem dM_fetch_66 : decode cM_fetch 66 = .ok (.invokevirtual 132, 3) := by decide +kernel
theorem dM_fetch_69 : decode cM_fetch 69 = .ok (.goto 4, 3) := by decide +kernel
theorem dM_fetch_72 : decode cM_fetch 72 = .ok (.iconst 0, 1) := by decide +kernel
theorem dM_fetch_73 : decode cM_fetch 73 = .ok (.ireturn, 1) := by decide +kernel
theorem dM_told_0 : decode cM_told 0 = .ok (.aload_n 0, 1) := by decide +kernel
theorem dM_told_1 : decode cM_told 1 = .ok (.aload_n 0, 1) := by decide +kernel
theorem dM_told_2 : decode cM_told 2 = .ok (.iload_n 1, 1) := by decide +kernel
theorem dM_told_3 : decode cM_told 3 = .ok (.invokevirtual 123, 3) := by decide +kernel
theorem dM_told_6 : decode cM_told 6 = .ok (.ifCond .ne 12, 3) := by decide +kernel
theorem dM_told_9 : decode cM_told 9 = .ok (.iload_n 3, 1) := by decide +kernel
theorem dM_told_10 : decode cM_told 10 = .ok (.ifCond .lt 8, 3) := by decide +kernel
theorem dM_told_13 : decode cM_told 13 = .ok (.iload_n 3, 1) := by decide +kernel
theorem dM_told_14 : decode cM_told 14 = .ok (.iconst 4, 1) := by decide +kernel
theorem dM_told_15 : decode cM_told 15 = .ok (.if_icmp .le 7, 3) := by decide +kernel
theorem dM_told_18 : decode cM_told 18 = .ok (.iconst 1, 1) := by decide +kernel
theorem dM_told_19 : decode cM_told 19 = .ok (.goto 46, 3) := by decide +kernel
theorem dM_told_22 : decode cM_told 22 = .ok (.iload_n 2, 1) := by decide +kernel
theorem dM_told_23 : decode cM_told 23 = .ok (.aload_n 0, 1) := by decide +kernel
theorem dM_told_24 : decode cM_told 24 = .ok (.getfield 23, 3) := by decide +kernel
theorem dM_told_27 : decode cM_told 27 = .ok (.iload_n 1, 1) := by decide +kernel
theorem dM_told_28 : decode cM_told 28 = .ok (.iaload, 1) := by decide +kernel
theorem dM_told_29 : decode cM_told 29 = .ok (.if_icmp .lt 13, 3) := by decide +kernel
theorem dM_told_32 : decode cM_told 32 = .ok (.iload_n 2, 1) := by decide +kernel
theorem dM_told_33 : decode cM_told 33 = .ok (.aload_n 0, 1) := by decide +kernel
theorem dM_told_34 : decode cM_told 34 = .ok (.getfield 26, 3) := by decide +kernel
theorem dM_told_37 : decode cM_told 37 = .ok (.iload_n 1, 1) := by decide +kernel
theorem dM_told_38 : decode cM_told 38 = .ok (.iaload, 1) := by decide +kernel
theorem dM_told_39 : decode cM_told 39 = .ok (.if_icmp .lt 7, 3) := by decide +kernel
theorem dM_told_42 : decode cM_told 42 = .ok (.iconst 3, 1) := by decide +kernel
theorem dM_told_43 : decode cM_told 43 = .ok (.goto 22, 3) := by decide +kernel
theorem dM_told_46 : decode cM_told 46 = .ok (.aload_n 0, 1) := by decide +kernel
theorem dM_told_47 : decode cM_told 47 = .ok (.getfield 29, 3) := by decide +kernel
theorem dM_told_50 : decode cM_told 50 = .ok (.iload_n 1, 1) := by decide +kernel
theorem dM_told_51 : decode cM_told 51 = .ok (.bipush 60, 2) := by decide +kernel
theorem dM_told_53 : decode cM_told 53 = .ok (.imul, 1) := by decide +kernel
theorem dM_told_54 : decode cM_told 54 = .ok (.iload_n 2, 1) := by decide +kernel
theorem dM_told_55 : decode cM_told 55 = .ok (.iadd, 1) := by decide +kernel
theorem dM_told_56 : decode cM_told 56 = .ok (.iaload, 1) := by decide +kernel
theorem dM_told_57 : decode cM_told 57 = .ok (.ifCond .ge 7, 3) := by decide +kernel
theorem dM_told_60 : decode cM_told 60 = .ok (.iconst 2, 1) := by decide +kernel
theorem dM_told_61 : decode cM_told 61 = .ok (.goto 4, 3) := by decide +kernel
theorem dM_told_64 : decode cM_told 64 = .ok (.iconst 0, 1) := by decide +kernel
theorem dM_told_65 : decode cM_told 65 = .ok (.putfield 77, 3) := by decide +kernel
theorem dM_told_68 : decode cM_told 68 = .ok (.aload_n 0, 1) := by decide +kernel
theorem dM_told_69 : decode cM_told 69 = .ok (.getfield 77, 3) := by decide +kernel
theorem dM_told_72 : decode cM_told 72 = .ok (.ifCond .eq 5, 3) := by decide +kernel
theorem dM_told_75 : decode cM_told 75 = .ok (.iconst 0, 1) := by decide +kernel
theorem dM_told_76 : decode cM_told 76 = .ok (.ireturn, 1) := by decide +kernel
theorem dM_told_77 : decode cM_told 77 = .ok (.iload_n 1, 1) := by decide +kernel
theorem dM_told_78 : decode cM_told 78 = .ok (.bipush 60, 2) := by decide +kernel
theorem dM_told_80 : decode cM_told 80 = .ok (.imul, 1) := by decide +kernel
theorem dM_told_81 : decode cM_told 81 = .ok (.iload_n 2, 1) := by decide +kernel
theorem dM_told_82 : decode cM_told 82 = .ok (.iadd, 1) := by decide +kernel
theorem dM_told_83 : decode cM_told 83 = .ok (.istore 4, 2) := by decide +kernel
theorem dM_told_85 : decode cM_told 85 = .ok (.iload_n 3, 1) := by decide +kernel
theorem dM_told_86 : decode cM_told 86 = .ok (.ifCond .ne 11, 3) := by decide +kernel
theorem dM_told_89 : decode cM_told 89 = .ok (.aload_n 0, 1) := by decide +kernel
theorem dM_told_90 : decode cM_told 90 = .ok (.getfield 32, 3) := by decide +kernel
theorem dM_told_93 : decode cM_told 93 = .ok (.iload 4, 2) := by decide +kernel
theorem dM_told_95 : decode cM_told 95 = .ok (.iaload, 1) := by decide +kernel
theorem dM_told_96 : decode cM_told 96 = .ok (.ireturn, 1) := by decide +kernel
theorem dM_told_97 : decode cM_told 97 = .ok (.iload_n 3, 1) := by decide +kernel
theorem dM_told_98 : decode cM_told 98 = .ok (.iconst 1, 1) := by decide +kernel
theorem dM_told_99 : decode cM_told 99 = .ok (.if_icmp .ne 11, 3) := by decide +kernel
theorem dM_told_102 : decode cM_told 102 = .ok (.aload_n 0, 1) := by decide +kernel
theorem dM_told_103 : decode cM_told 103 = .ok (.getfield 35, 3) := by decide +kernel
theorem dM_told_106 : decode cM_told 106 = .ok (.iload 4, 2) := by decide +kernel
theorem dM_told_108 : decode cM_told 108 = .ok (.iaload, 1) := by decide +kernel
theorem dM_told_109 : decode cM_told 109 = .ok (.ireturn, 1) := by decide +kernel
theorem dM_told_110 : decode cM_told 110 = .ok (.iload_n 3, 1) := by decide +kernel
theorem dM_told_111 : decode cM_told 111 = .ok (.iconst 2, 1) := by decide +kernel
theorem dM_told_112 : decode cM_told 112 = .ok (.if_icmp .ne 11, 3) := by decide +kernel
theorem dM_told_115 : decode cM_told 115 = .ok (.aload_n 0, 1) := by decide +kernel
theorem dM_told_116 : decode cM_told 116 = .ok (.getfield 29, 3) := by decide +kernel
theorem dM_told_119 : decode cM_told 119 = .ok (.iload 4, 2) := by decide +kernel
theorem dM_told_121 : decode cM_told 121 = .ok (.iaload, 1) := by decide +kernel
theorem dM_told_122 : decode cM_told 122 = .ok (.ireturn, 1) := by decide +kernel
theorem dM_told_123 : decode cM_told 123 = .ok (.iload_n 3, 1) := by decide +kernel
theorem dM_told_124 : decode cM_told 124 = .ok (.iconst 3, 1) := by decide +kernel
theorem dM_told_125 : decode cM_told 125 = .ok (.if_icmp .ne 13, 3) := by decide +kernel
theorem dM_told_128 : decode cM_told 128 = .ok (.aload_n 0, 1) := by decide +kernel
theorem dM_told_129 : decode cM_told 129 = .ok (.getfield 38, 3) := by decide +kernel
theorem dM_told_132 : decode cM_told 132 = .ok (.iload 4, 2) := by decide +kernel
theorem dM_told_134 : decode cM_told 134 = .ok (.iaload, 1) := by decide +kernel
theorem dM_told_135 : decode cM_told 135 = .ok (.goto 10, 3) := by decide +kernel
theorem dM_told_138 : decode cM_told 138 = .ok (.aload_n 0, 1) := by decide +kernel
theorem dM_told_139 : decode cM_told 139 = .ok (.getfield 41, 3) := by decide +kernel
theorem dM_told_142 : decode cM_told 142 = .ok (.iload 4, 2) := by decide +kernel
theorem dM_told_144 : decode cM_told 144 = .ok (.iaload, 1) := by decide +kernel
theorem dM_told_145 : decode cM_told 145 = .ok (.ireturn, 1) := by decide +kernel
theorem dM_newer_0 : decode cM_newer 0 = .ok (.iload_n 2, 1) := by decide +kernel
theorem dM_newer_1 : decode cM_newer 1 = .ok (.iconst 1, 1) := by decide +kernel
theorem dM_newer_2 : decode cM_newer 2 = .ok (.iadd, 1) := by decide +kernel
theorem dM_newer_3 : decode cM_newer 3 = .ok (.istore 4, 2) := by decide +kernel
theorem dM_newer_5 : decode cM_newer 5 = .ok (.iload 4, 2) := by decide +kernel
theorem dM_newer_7 : decode cM_newer 7 = .ok (.iload_n 3, 1) := by decide +kernel
theorem dM_newer_8 : decode cM_newer 8 = .ok (.if_icmp .ge 61, 3) := by decide +kernel
theorem dM_newer_11 : decode cM_newer 11 = .ok (.iload_n 1, 1) := by decide +kernel
theorem dM_newer_12 : decode cM_newer 12 = .ok (.bipush 60, 2) := by decide +kernel
theorem dM_newer_14 : decode cM_newer 14 = .ok (.imul, 1) := by decide +kernel
theorem dM_newer_15 : decode cM_newer 15 = .ok (.iload 4, 2) := by decide +kernel
theorem dM_newer_17 : decode cM_newer 17 = .ok (.iadd, 1) := by decide +kernel
theorem dM_newer_18 : decode cM_newer 18 = .ok (.istore 5, 2) := by decide +kernel
theorem dM_newer_20 : decode cM_newer 20 = .ok (.aload_n 0, 1) := by decide +kernel
theorem dM_newer_21 : decode cM_newer 21 = .ok (.getfield 29, 3) := by decide +kernel
theorem dM_newer_24 : decode cM_newer 24 = .ok (.iload 5, 2) := by decide +kernel
theorem dM_newer_26 : decode cM_newer 26 = .ok (.iaload, 1) := by decide +kernel
theorem dM_newer_27 : decode cM_newer 27 = .ok (.ifCond .ne 36, 3) := by decide +kernel
theorem dM_newer_30 : decode cM_newer 30 = .ok (.aload_n 0, 1) := by decide +kernel
theorem dM_newer_31 : decode cM_newer 31 = .ok (.getfield 41, 3) := by decide +kernel
theorem dM_newer_34 : decode cM_newer 34 = .ok (.iload 5, 2) := by decide +kernel
theorem dM_newer_36 : decode cM_newer 36 = .ok (.iaload, 1) := by decide +kernel
theorem dM_newer_37 : decode cM_newer 37 = .ok (.ifCond .ne 26, 3) := by decide +kernel
theorem dM_newer_40 : decode cM_newer 40 = .ok (.aload_n 0, 1) := by decide +kernel
theorem dM_newer_41 : decode cM_newer 41 = .ok (.getfield 32, 3) := by decide +kernel
theorem dM_newer_44 : decode cM_newer 44 = .ok (.iload 5, 2) := by decide +kernel
theorem dM_newer_46 : decode cM_newer 46 = .ok (.iaload, 1) := by decide +kernel
theorem dM_newer_47 : decode cM_newer 47 = .ok (.aload_n 0, 1) := by decide +kernel
theorem dM_newer_48 : decode cM_newer 48 = .ok (.getfield 32, 3) := by decide +kernel
theorem dM_newer_51 : decode cM_newer 51 = .ok (.iload_n 1, 1) := by decide +kernel
theorem dM_newer_52 : decode cM_newer 52 = .ok (.bipush 60, 2) := by decide +kernel
theorem dM_newer_54 : decode cM_newer 54 = .ok (.imul, 1) := by decide +kernel
theorem dM_newer_55 : decode cM_newer 55 = .ok (.iload_n 2, 1) := by decide +kernel
theorem dM_newer_56 : decode cM_newer 56 = .ok (.iadd, 1) := by decide +kernel
theorem dM_newer_57 : decode cM_newer 57 = .ok (.iaload, 1) := by decide +kernel
theorem dM_newer_58 : decode cM_newer 58 = .ok (.if_icmp .ne 5, 3) := by decide +kernel
theorem dM_newer_61 : decode cM_newer 61 = .ok (.iconst 1, 1) := by decide +kernel
theorem dM_newer_62 : decode cM_newer 62 = .ok (.ireturn, 1) := by decide +kernel
theorem dM_newer_63 : decode cM_newer 63 = .ok (.iinc 4 1, 3) := by decide +kernel
theorem dM_newer_66 : decode cM_newer 66 = .ok (.goto (-61), 3) := by decide +kernel
theorem dM_newer_69 : decode cM_newer 69 = .ok (.iconst 0, 1) := by decide +kernel
theorem dM_newer_70 : decode cM_newer 70 = .ok (.ireturn, 1) := by decide +kernel
theorem dM_compact_0 : decode cM_compact 0 = .ok (.aload_n 0, 1) := by decide +kernel
theorem dM_compact_1 : decode cM_compact 1 = .ok (.aload_n 0, 1) := by decide +kernel
theorem dM_compact_2 : decode cM_compact 2 = .ok (.iload_n 1, 1) := by decide +kernel
theorem dM_compact_3 : decode cM_compact 3 = .ok (.invokevirtual 123, 3) := by decide +kernel
theorem dM_compact_6 : decode cM_compact 6 = .ok (.ifCond .eq 7, 3) := by decide +kernel
theorem dM_compact_9 : decode cM_compact 9 = .ok (.iconst 1, 1) := by decide +kernel
theorem dM_compact_10 : decode cM_compact 10 = .ok (.goto 19, 3) := by decide +kernel
theorem dM_compact_13 : decode cM_compact 13 = .ok (.aload_n 0, 1) := by decide +kernel
theorem dM_compact_14 : decode cM_compact 14 = .ok (.getfield 19, 3) := by decide +kernel
theorem dM_compact_17 : decode cM_compact 17 = .ok (.iload_n 1, 1) := by decide +kernel
theorem dM_compact_18 : decode cM_compact 18 = .ok (.iconst 4, 1) := by decide +kernel
theorem dM_compact_19 : decode cM_compact 19 = .ok (.idiv, 1) := by decide +kernel
theorem dM_compact_20 : decode cM_compact 20 = .ok (.baload, 1) := by decide +kernel
theorem dM_compact_21 : decode cM_compact 21 = .ok (.ifCond .ne 7, 3) := by decide +kernel
theorem dM_compact_24 : decode cM_compact 24 = .ok (.iconst 2, 1) := by decide +kernel
theorem dM_compact_25 : decode cM_compact 25 = .ok (.goto 4, 3) := by decide +kernel
theorem dM_compact_28 : decode cM_compact 28 = .ok (.iconst 0, 1) := by decide +kernel
theorem dM_compact_29 : decode cM_compact 29 = .ok (.putfield 77, 3) := by decide +kernel
theorem dM_compact_32 : decode cM_compact 32 = .ok (.aload_n 0, 1) := by decide +kernel
theorem dM_compact_33 : decode cM_compact 33 = .ok (.getfield 77, 3) := by decide +kernel
theorem dM_compact_36 : decode cM_compact 36 = .ok (.ifCond .eq 5, 3) := by decide +kernel
theorem dM_compact_39 : decode cM_compact 39 = .ok (.iconst 0, 1) := by decide +kernel
theorem dM_compact_40 : decode cM_compact 40 = .ok (.ireturn, 1) := by decide +kernel
theorem dM_compact_41 : decode cM_compact 41 = .ok (.aload_n 0, 1) := by decide +kernel
theorem dM_compact_42 : decode cM_compact 42 = .ok (.iload_n 1, 1) := by decide +kernel
theorem dM_compact_43 : decode cM_compact 43 = .ok (.invokevirtual 88, 3) := by decide +kernel
theorem dM_compact_46 : decode cM_compact 46 = .ok (.istore_n 2, 1) := by decide +kernel
theorem dM_compact_47 : decode cM_compact 47 = .ok (.aload_n 0, 1) := by decide +kernel
theorem dM_compact_48 : decode cM_compact 48 = .ok (.iload_n 1, 1) := by decide +kernel
theorem dM_compact_49 : decode cM_compact 49 = .ok (.invokevirtual 81, 3) := by decide +kernel
theorem dM_compact_52 : decode cM_compact 52 = .ok (.iload_n 2, 1) := by decide +kernel
theorem dM_compact_53 : decode cM_compact 53 = .ok (.if_icmp .ge 11, 3) := by decide +kernel
theorem dM_compact_56 : decode cM_compact 56 = .ok (.aload_n 0, 1) := by decide +kernel
theorem dM_compact_57 : decode cM_compact 57 = .ok (.iload_n 1, 1) := by decide +kernel
theorem dM_compact_58 : decode cM_compact 58 = .ok (.invokevirtual 81, 3) := by decide +kernel
theorem dM_compact_61 : decode cM_compact 61 = .ok (.goto 4, 3) := by decide +kernel
theorem dM_compact_64 : decode cM_compact 64 = .ok (.iload_n 2, 1) := by decide +kernel
theorem dM_compact_65 : decode cM_compact 65 = .ok (.istore_n 3, 1) := by decide +kernel
theorem dM_compact_66 : decode cM_compact 66 = .ok (.iconst 0, 1) := by decide +kernel
theorem dM_compact_67 : decode cM_compact 67 = .ok (.istore 4, 2) := by decide +kernel
theorem dM_compact_69 : decode cM_compact 69 = .ok (.aload_n 0, 1) := by decide +kernel
theorem dM_compact_70 : decode cM_compact 70 = .ok (.getfield 23, 3) := by decide +kernel
theorem dM_compact_73 : decode cM_compact 73 = .ok (.iload_n 1, 1) := by decide +kernel
theorem dM_compact_74 : decode cM_compact 74 = .ok (.iaload, 1) := by decide +kernel
theorem dM_compact_75 : decode cM_compact 75 = .ok (.istore 5, 2) := by decide +kernel
theorem dM_compact_77 : decode cM_compact 77 = .ok (.iload 5, 2) := by decide +kernel
theorem dM_compact_79 : decode cM_compact 79 = .ok (.iload_n 3, 1) := by decide +kernel
theorem dM_compact_80 : decode cM_compact 80 = .ok (.if_icmp .ge 71, 3) := by decide +kernel
theorem dM_compact_83 : decode cM_compact 83 = .ok (.iload_n 1, 1) := by decide +kernel
theorem dM_compact_84 : decode cM_compact 84 = .ok (.bipush 60, 2) := by decide +kernel
theorem dM_compact_86 : decode cM_compact 86 = .ok (.imul, 1) := by decide +kernel
theorem dM_compact_87 : decode cM_compact 87 = .ok (.iload 5, 2) := by decide +kernel
theorem dM_compact_89 : decode cM_compact 89 = .ok (.iadd, 1) := by decide +kernel
theorem dM_compact_90 : decode cM_compact 90 = .ok (.istore 6, 2) := by decide +kernel
theorem dM_compact_92 : decode cM_compact 92 = .ok (.aload_n 0, 1) := by decide +kernel
theorem dM_compact_93 : decode cM_compact 93 = .ok (.getfield 29, 3) := by decide +kernel
theorem dM_compact_96 : decode cM_compact 96 = .ok (.iload 6, 2) := by decide +kernel
theorem dM_compact_98 : decode cM_compact 98 = .ok (.iaload, 1) := by decide +kernel
theorem dM_compact_99 : decode cM_compact 99 = .ok (.ifCond .ne 46, 3) := by decide +kernel
theorem dM_compact_102 : decode cM_compact 102 = .ok (.aload_n 0, 1) := by decide +kernel
theorem dM_compact_103 : decode cM_compact 103 = .ok (.getfield 41, 3) := by decide +kernel
theorem dM_compact_106 : decode cM_compact 106 = .ok (.iload 6, 2) := by decide +kernel
theorem dM_compact_108 : decode cM_compact 108 = .ok (.iaload, 1) := by decide +kernel
theorem dM_compact_109 : decode cM_compact 109 = .ok (.iconst 1, 1) := by decide +kernel
theorem dM_compact_110 : decode cM_compact 110 = .ok (.if_icmp .eq 24, 3) := by decide +kernel
theorem dM_compact_113 : decode cM_compact 113 = .ok (.aload_n 0, 1) := by decide +kernel
theorem dM_compact_114 : decode cM_compact 114 = .ok (.getfield 32, 3) := by decide +kernel
theorem dM_compact_117 : decode cM_compact 117 = .ok (.iload 6, 2) := by decide +kernel
theorem dM_compact_119 : decode cM_compact 119 = .ok (.iaload, 1) := by decide +kernel
theorem dM_compact_120 : decode cM_compact 120 = .ok (.ifCond .lt 25, 3) := by decide +kernel
theorem dM_compact_123 : decode cM_compact 123 = .ok (.aload_n 0, 1) := by decide +kernel
theorem dM_compact_124 : decode cM_compact 124 = .ok (.iload_n 1, 1) := by decide +kernel
theorem dM_compact_125 : decode cM_compact 125 = .ok (.iload 5, 2) := by decide +kernel
theorem dM_compact_127 : decode cM_compact 127 = .ok (.iload_n 2, 1) := by decide +kernel
theorem dM_compact_128 : decode cM_compact 128 = .ok (.invokevirtual 136, 3) := by decide +kernel
theorem dM_compact_131 : decode cM_compact 131 = .ok (.ifCond .eq 14, 3) := by decide +kernel
theorem dM_compact_134 : decode cM_compact 134 = .ok (.aload_n 0, 1) := by decide +kernel
theorem dM_compact_135 : decode cM_compact 135 = .ok (.getfield 29, 3) := by decide +kernel
theorem dM_compact_138 : decode cM_compact 138 = .ok (.iload 6, 2) := by decide +kernel
theorem dM_compact_140 : decode cM_compact 140 = .ok (.iconst (-1), 1) := by decide +kernel
theorem dM_compact_141 : decode cM_compact 141 = .ok (.iastore, 1) := by decide +kernel
theorem dM_compact_142 : decode cM_compact 142 = .ok (.iinc 4 1, 3) := by decide +kernel
theorem dM_compact_145 : decode cM_compact 145 = .ok (.iinc 5 1, 3) := by decide +kernel
theorem dM_compact_148 : decode cM_compact 148 = .ok (.goto (-71), 3) := by decide +kernel
theorem dM_compact_151 : decode cM_compact 151 = .ok (.aload_n 0, 1) := by decide +kernel
theorem dM_compact_152 : decode cM_compact 152 = .ok (.dup, 1) := by decide +kernel
theorem dM_compact_153 : decode cM_compact 153 = .ok (.getfield 140, 3) := by decide +kernel
theorem dM_compact_156 : decode cM_compact 156 = .ok (.iload 4, 2) := by decide +kernel
theorem dM_compact_158 : decode cM_compact 158 = .ok (.iadd, 1) := by decide +kernel
theorem dM_compact_159 : decode cM_compact 159 = .ok (.putfield 140, 3) := by decide +kernel
theorem dM_compact_162 : decode cM_compact 162 = .ok (.iload 4, 2) := by decide +kernel
theorem dM_compact_164 : decode cM_compact 164 = .ok (.ireturn, 1) := by decide +kernel
theorem dM_badMember_0 : decode cM_badMember 0 = .ok (.iload_n 1, 1) := by decide +kernel
theorem dM_badMember_1 : decode cM_badMember 1 = .ok (.ifCond .lt 17, 3) := by decide +kernel
theorem dM_badMember_4 : decode cM_badMember 4 = .ok (.iload_n 1, 1) := by decide +kernel
theorem dM_badMember_5 : decode cM_badMember 5 = .ok (.iconst 1, 1) := by decide +kernel
theorem dM_badMember_6 : decode cM_badMember 6 = .ok (.if_icmp .gt 12, 3) := by decide +kernel
theorem dM_badMember_9 : decode cM_badMember 9 = .ok (.iload_n 2, 1) := by decide +kernel
theorem dM_badMember_10 : decode cM_badMember 10 = .ok (.ifCond .lt 8, 3) := by decide +kernel
theorem dM_badMember_13 : decode cM_badMember 13 = .ok (.iload_n 2, 1) := by decide +kernel
theorem dM_badMember_14 : decode cM_badMember 14 = .ok (.iconst 3, 1) := by decide +kernel
theorem dM_badMember_15 : decode cM_badMember 15 = .ok (.if_icmp .le 7, 3) := by decide +kernel
theorem dM_badMember_18 : decode cM_badMember 18 = .ok (.iconst 1, 1) := by decide +kernel
theorem dM_badMember_19 : decode cM_badMember 19 = .ok (.goto 4, 3) := by decide +kernel
theorem dM_badMember_22 : decode cM_badMember 22 = .ok (.iconst 0, 1) := by decide +kernel
theorem dM_badMember_23 : decode cM_badMember 23 = .ok (.ireturn, 1) := by decide +kernel
theorem dM_change_0 : decode cM_change 0 = .ok (.aload_n 0, 1) := by decide +kernel
theorem dM_change_1 : decode cM_change 1 = .ok (.getfield 68, 3) := by decide +kernel
theorem dM_change_4 : decode cM_change 4 = .ok (.iload_n 1, 1) := by decide +kernel
theorem dM_change_5 : decode cM_change 5 = .ok (.dup2, 1) := by decide +kernel
theorem dM_change_6 : decode cM_change 6 = .ok (.iaload, 1) := by decide +kernel
theorem dM_change_7 : decode cM_change 7 = .ok (.iconst 1, 1) := by decide +kernel
theorem dM_change_8 : decode cM_change 8 = .ok (.iadd, 1) := by decide +kernel
theorem dM_change_9 : decode cM_change 9 = .ok (.iastore, 1) := by decide +kernel
theorem dM_change_10 : decode cM_change 10 = .ok (.iconst 0, 1) := by decide +kernel
theorem dM_change_11 : decode cM_change 11 = .ok (.istore_n 2, 1) := by decide +kernel
theorem dM_change_12 : decode cM_change 12 = .ok (.iload_n 2, 1) := by decide +kernel
theorem dM_change_13 : decode cM_change 13 = .ok (.bipush 12, 2) := by decide +kernel
theorem dM_change_15 : decode cM_change 15 = .ok (.if_icmp .ge 31, 3) := by decide +kernel
theorem dM_change_18 : decode cM_change 18 = .ok (.aload_n 0, 1) := by decide +kernel
theorem dM_change_19 : decode cM_change 19 = .ok (.getfield 71, 3) := by decide +kernel
theorem dM_change_22 : decode cM_change 22 = .ok (.iload_n 1, 1) := by decide +kernel
theorem dM_change_23 : decode cM_change 23 = .ok (.bipush 12, 2) := by decide +kernel
theorem dM_change_25 : decode cM_change 25 = .ok (.imul, 1) := by decide +kernel
theorem dM_change_26 : decode cM_change 26 = .ok (.iload_n 2, 1) := by decide +kernel
theorem dM_change_27 : decode cM_change 27 = .ok (.iadd, 1) := by decide +kernel
theorem dM_change_28 : decode cM_change 28 = .ok (.aload_n 0, 1) := by decide +kernel
theorem dM_change_29 : decode cM_change 29 = .ok (.getfield 74, 3) := by decide +kernel
theorem dM_change_32 : decode cM_change 32 = .ok (.iload_n 1, 1) := by decide +kernel
theorem dM_change_33 : decode cM_change 33 = .ok (.bipush 12, 2) := by decide +kernel
theorem dM_change_35 : decode cM_change 35 = .ok (.imul, 1) := by decide +kernel
theorem dM_change_36 : decode cM_change 36 = .ok (.iload_n 2, 1) := by decide +kernel
theorem dM_change_37 : decode cM_change 37 = .ok (.iadd, 1) := by decide +kernel
theorem dM_change_38 : decode cM_change 38 = .ok (.iaload, 1) := by decide +kernel
theorem dM_change_39 : decode cM_change 39 = .ok (.iastore, 1) := by decide +kernel
theorem dM_change_40 : decode cM_change 40 = .ok (.iinc 2 1, 3) := by decide +kernel
theorem dM_change_43 : decode cM_change 43 = .ok (.goto (-31), 3) := by decide +kernel
theorem dM_change_46 : decode cM_change 46 = .ok (.aload_n 0, 1) := by decide +kernel
theorem dM_change_47 : decode cM_change 47 = .ok (.getfield 68, 3) := by decide +kernel
theorem dM_change_50 : decode cM_change 50 = .ok (.iload_n 1, 1) := by decide +kernel
theorem dM_change_51 : decode cM_change 51 = .ok (.iaload, 1) := by decide +kernel
theorem dM_change_52 : decode cM_change 52 = .ok (.ireturn, 1) := by decide +kernel
theorem dM_join_0 : decode cM_join 0 = .ok (.aload_n 0, 1) := by decide +kernel
theorem dM_join_1 : decode cM_join 1 = .ok (.aload_n 0, 1) := by decide +kernel
theorem dM_join_2 : decode cM_join 2 = .ok (.iload_n 1, 1) := by decide +kernel
theorem dM_join_3 : decode cM_join 3 = .ok (.iload_n 2, 1) := by decide +kernel
theorem dM_join_4 : decode cM_join 4 = .ok (.invokevirtual 143, 3) := by decide +kernel
theorem dM_join_7 : decode cM_join 7 = .ok (.ifCond .ne 12, 3) := by decide +kernel
theorem dM_join_10 : decode cM_join 10 = .ok (.iload_n 3, 1) := by decide +kernel
theorem dM_join_11 : decode cM_join 11 = .ok (.ifCond .lt 8, 3) := by decide +kernel
theorem dM_join_14 : decode cM_join 14 = .ok (.iload_n 3, 1) := by decide +kernel
theorem dM_join_15 : decode cM_join 15 = .ok (.iconst 2, 1) := by decide +kernel
theorem dM_join_16 : decode cM_join 16 = .ok (.if_icmp .le 7, 3) := by decide +kernel
theorem dM_join_19 : decode cM_join 19 = .ok (.iconst 1, 1) := by decide +kernel
theorem dM_join_20 : decode cM_join 20 = .ok (.goto 17, 3) := by decide +kernel
theorem dM_join_23 : decode cM_join 23 = .ok (.aload_n 0, 1) := by decide +kernel
theorem dM_join_24 : decode cM_join 24 = .ok (.getfield 7, 3) := by decide +kernel
theorem dM_join_27 : decode cM_join 27 = .ok (.iload_n 3, 1) := by decide +kernel
theorem dM_join_28 : decode cM_join 28 = .ok (.iaload, 1) := by decide +kernel
theorem dM_join_29 : decode cM_join 29 = .ok (.ifCond .ne 7, 3) := by decide +kernel
theorem dM_join_32 : decode cM_join 32 = .ok (.iconst 2, 1) := by decide +kernel
theorem dM_join_33 : decode cM_join 33 = .ok (.goto 4, 3) := by decide +kernel
theorem dM_join_36 : decode cM_join 36 = .ok (.iconst 0, 1) := by decide +kernel
theorem dM_join_37 : decode cM_join 37 = .ok (.putfield 77, 3) := by decide +kernel
theorem dM_join_40 : decode cM_join 40 = .ok (.aload_n 0, 1) := by decide +kernel
theorem dM_join_41 : decode cM_join 41 = .ok (.getfield 77, 3) := by decide +kernel
theorem dM_join_44 : decode cM_join 44 = .ok (.ifCond .eq 5, 3) := by decide +kernel
theorem dM_join_47 : decode cM_join 47 = .ok (.iconst 0, 1) := by decide +kernel
theorem dM_join_48 : decode cM_join 48 = .ok (.ireturn, 1) := by decide +kernel
theorem dM_join_49 : decode cM_join 49 = .ok (.aload_n 0, 1) := by decide +kernel
theorem dM_join_50 : decode cM_join 50 = .ok (.getfield 65, 3) := by decide +kernel
theorem dM_join_53 : decode cM_join 53 = .ok (.iload_n 1, 1) := by decide +kernel
theorem dM_join_54 : decode cM_join 54 = .ok (.iconst 4, 1) := by decide +kernel
theorem dM_join_55 : decode cM_join 55 = .ok (.imul, 1) := by decide +kernel
theorem dM_join_56 : decode cM_join 56 = .ok (.iload_n 2, 1) := by decide +kernel
theorem dM_join_57 : decode cM_join 57 = .ok (.iadd, 1) := by decide +kernel
theorem dM_join_58 : decode cM_join 58 = .ok (.iload_n 3, 1) := by decide +kernel
theorem dM_join_59 : decode cM_join 59 = .ok (.iastore, 1) := by decide +kernel
theorem dM_join_60 : decode cM_join 60 = .ok (.aload_n 0, 1) := by decide +kernel
theorem dM_join_61 : decode cM_join 61 = .ok (.iload_n 1, 1) := by decide +kernel
theorem dM_join_62 : decode cM_join 62 = .ok (.invokevirtual 146, 3) := by decide +kernel
theorem dM_join_65 : decode cM_join 65 = .ok (.ireturn, 1) := by decide +kernel
theorem dM_leave_0 : decode cM_leave 0 = .ok (.aload_n 0, 1) := by decide +kernel
theorem dM_leave_1 : decode cM_leave 1 = .ok (.aload_n 0, 1) := by decide +kernel
theorem dM_leave_2 : decode cM_leave 2 = .ok (.iload_n 1, 1) := by decide +kernel
theorem dM_leave_3 : decode cM_leave 3 = .ok (.iload_n 2, 1) := by decide +kernel
theorem dM_leave_4 : decode cM_leave 4 = .ok (.invokevirtual 143, 3) := by decide +kernel
theorem dM_leave_7 : decode cM_leave 7 = .ok (.ifCond .eq 7, 3) := by decide +kernel
theorem dM_leave_10 : decode cM_leave 10 = .ok (.iconst 1, 1) := by decide +kernel
theorem dM_leave_11 : decode cM_leave 11 = .ok (.goto 21, 3) := by decide +kernel
theorem dM_leave_14 : decode cM_leave 14 = .ok (.aload_n 0, 1) := by decide +kernel
theorem dM_leave_15 : decode cM_leave 15 = .ok (.getfield 65, 3) := by decide +kernel
theorem dM_leave_18 : decode cM_leave 18 = .ok (.iload_n 1, 1) := by decide +kernel
theorem dM_leave_19 : decode cM_leave 19 = .ok (.iconst 4, 1) := by decide +kernel
theorem dM_leave_20 : decode cM_leave 20 = .ok (.imul, 1) := by decide +kernel
theorem dM_leave_21 : decode cM_leave 21 = .ok (.iload_n 2, 1) := by decide +kernel
theorem dM_leave_22 : decode cM_leave 22 = .ok (.iadd, 1) := by decide +kernel
theorem dM_leave_23 : decode cM_leave 23 = .ok (.iaload, 1) := by decide +kernel
theorem dM_leave_24 : decode cM_leave 24 = .ok (.ifCond .ge 7, 3) := by decide +kernel
theorem dM_leave_27 : decode cM_leave 27 = .ok (.iconst 2, 1) := by decide +kernel
theorem dM_leave_28 : decode cM_leave 28 = .ok (.goto 4, 3) := by decide +kernel
theorem dM_leave_31 : decode cM_leave 31 = .ok (.iconst 0, 1) := by decide +kernel
theorem dM_leave_32 : decode cM_leave 32 = .ok (.putfield 77, 3) := by decide +kernel
theorem dM_leave_35 : decode cM_leave 35 = .ok (.aload_n 0, 1) := by decide +kernel
theorem dM_leave_36 : decode cM_leave 36 = .ok (.getfield 77, 3) := by decide +kernel
theorem dM_leave_39 : decode cM_leave 39 = .ok (.ifCond .eq 5, 3) := by decide +kernel
theorem dM_leave_42 : decode cM_leave 42 = .ok (.iconst 0, 1) := by decide +kernel
theorem dM_leave_43 : decode cM_leave 43 = .ok (.ireturn, 1) := by decide +kernel
theorem dM_leave_44 : decode cM_leave 44 = .ok (.aload_n 0, 1) := by decide +kernel
theorem dM_leave_45 : decode cM_leave 45 = .ok (.getfield 65, 3) := by decide +kernel
theorem dM_leave_48 : decode cM_leave 48 = .ok (.iload_n 1, 1) := by decide +kernel
theorem dM_leave_49 : decode cM_leave 49 = .ok (.iconst 4, 1) := by decide +kernel
theorem dM_leave_50 : decode cM_leave 50 = .ok (.imul, 1) := by decide +kernel
theorem dM_leave_51 : decode cM_leave 51 = .ok (.iload_n 2, 1) := by decide +kernel
theorem dM_leave_52 : decode cM_leave 52 = .ok (.iadd, 1) := by decide +kernel
theorem dM_leave_53 : decode cM_leave 53 = .ok (.iconst (-1), 1) := by decide +kernel
theorem dM_leave_54 : decode cM_leave 54 = .ok (.iastore, 1) := by decide +kernel
theorem dM_leave_55 : decode cM_leave 55 = .ok (.aload_n 0, 1) := by decide +kernel
theorem dM_leave_56 : decode cM_leave 56 = .ok (.iload_n 1, 1) := by decide +kernel
theorem dM_leave_57 : decode cM_leave 57 = .ok (.invokevirtual 146, 3) := by decide +kernel
theorem dM_leave_60 : decode cM_leave 60 = .ok (.ireturn, 1) := by decide +kernel
theorem dM_whose_0 : decode cM_whose 0 = .ok (.iload_n 2, 1) := by decide +kernel
theorem dM_whose_1 : decode cM_whose 1 = .ok (.iconst 4, 1) := by decide +kernel
theorem dM_whose_2 : decode cM_whose 2 = .ok (.idiv, 1) := by decide +kernel
theorem dM_whose_3 : decode cM_whose 3 = .ok (.istore_n 3, 1) := by decide +kernel
theorem dM_whose_4 : decode cM_whose 4 = .ok (.iconst 0, 1) := by decide +kernel
theorem dM_whose_5 : decode cM_whose 5 = .ok (.istore 4, 2) := by decide +kernel
theorem dM_whose_7 : decode cM_whose 7 = .ok (.iconst 0, 1) := by decide +kernel
theorem dM_whose_8 : decode cM_whose 8 = .ok (.istore 5, 2) := by decide +kernel
theorem dM_whose_10 : decode cM_whose 10 = .ok (.iload 5, 2) := by decide +kernel
theorem dM_whose_12 : decode cM_whose 12 = .ok (.iconst 4, 1) := by decide +kernel
theorem dM_whose_13 : decode cM_whose 13 = .ok (.if_icmp .ge 27, 3) := by decide +kernel
theorem dM_whose_16 : decode cM_whose 16 = .ok (.aload_n 0, 1) := by decide +kernel
theorem dM_whose_17 : decode cM_whose 17 = .ok (.getfield 65, 3) := by decide +kernel
theorem dM_whose_20 : decode cM_whose 20 = .ok (.iload_n 1, 1) := by decide +kernel
theorem dM_whose_21 : decode cM_whose 21 = .ok (.iconst 4, 1) := by decide +kernel
theorem dM_whose_22 : decode cM_whose 22 = .ok (.imul, 1) := by decide +kernel
theorem dM_whose_23 : decode cM_whose 23 = .ok (.iload 5, 2) := by decide +kernel
theorem dM_whose_25 : decode cM_whose 25 = .ok (.iadd, 1) := by decide +kernel
theorem dM_whose_26 : decode cM_whose 26 = .ok (.iaload, 1) := by decide +kernel
theorem dM_whose_27 : decode cM_whose 27 = .ok (.iload_n 3, 1) := by decide +kernel
theorem dM_whose_28 : decode cM_whose 28 = .ok (.if_icmp .ne 6, 3) := by decide +kernel
theorem dM_whose_31 : decode cM_whose 31 = .ok (.iinc 4 1, 3) := by decide +kernel
theorem dM_whose_34 : decode cM_whose 34 = .ok (.iinc 5 1, 3) := by decide +kernel
theorem dM_whose_37 : decode cM_whose 37 = .ok (.goto (-27), 3) := by decide +kernel
theorem dM_whose_40 : decode cM_whose 40 = .ok (.iconst 0, 1) := by decide +kernel
theorem dM_whose_41 : decode cM_whose 41 = .ok (.istore 5, 2) := by decide +kernel
theorem dM_whose_43 : decode cM_whose 43 = .ok (.iconst 0, 1) := by decide +kernel
theorem dM_whose_44 : decode cM_whose 44 = .ok (.istore 6, 2) := by decide +kernel
theorem dM_whose_46 : decode cM_whose 46 = .ok (.iconst 0, 1) := by decide +kernel
theorem dM_whose_47 : decode cM_whose 47 = .ok (.istore 7, 2) := by decide +kernel
theorem dM_whose_49 : decode cM_whose 49 = .ok (.iload 7, 2) := by decide +kernel
theorem dM_whose_51 : decode cM_whose 51 = .ok (.iconst 4, 1) := by decide +kernel
theorem dM_whose_52 : decode cM_whose 52 = .ok (.if_icmp .ge 72, 3) := by decide +kernel
theorem dM_whose_55 : decode cM_whose 55 = .ok (.aload_n 0, 1) := by decide +kernel
theorem dM_whose_56 : decode cM_whose 56 = .ok (.getfield 65, 3) := by decide +kernel
theorem dM_whose_59 : decode cM_whose 59 = .ok (.iload_n 1, 1) := by decide +kernel
theorem dM_whose_60 : decode cM_whose 60 = .ok (.iconst 4, 1) := by decide +kernel
theorem dM_whose_61 : decode cM_whose 61 = .ok (.imul, 1) := by decide +kernel
theorem dM_whose_62 : decode cM_whose 62 = .ok (.iload 7, 2) := by decide +kernel
theorem dM_whose_64 : decode cM_whose 64 = .ok (.iadd, 1) := by decide +kernel
theorem dM_whose_65 : decode cM_whose 65 = .ok (.iaload, 1) := by decide +kernel
theorem dM_whose_66 : decode cM_whose 66 = .ok (.iload_n 3, 1) := by decide +kernel
theorem dM_whose_67 : decode cM_whose 67 = .ok (.if_icmp .ne 51, 3) := by decide +kernel
theorem dM_whose_70 : decode cM_whose 70 = .ok (.iload 5, 2) := by decide +kernel
theorem dM_whose_72 : decode cM_whose 72 = .ok (.aload_n 0, 1) := by decide +kernel
theorem dM_whose_73 : decode cM_whose 73 = .ok (.getfield 7, 3) := by decide +kernel
theorem dM_whose_76 : decode cM_whose 76 = .ok (.iload_n 3, 1) := by decide +kernel
theorem dM_whose_77 : decode cM_whose 77 = .ok (.iaload, 1) := by decide +kernel
theorem dM_whose_78 : decode cM_whose 78 = .ok (.iload 4, 2) := by decide +kernel
theorem dM_whose_80 : decode cM_whose 80 = .ok (.idiv, 1) := by decide +kernel
theorem dM_whose_81 : decode cM_whose 81 = .ok (.iload 6, 2) := by decide +kernel
theorem dM_whose_83 : decode cM_whose 83 = .ok (.aload_n 0, 1) := by decide +kernel
theorem dM_whose_84 : decode cM_whose 84 = .ok (.getfield 7, 3) := by decide +kernel
theorem dM_whose_87 : decode cM_whose 87 = .ok (.iload_n 3, 1) := by decide +kernel
theorem dM_whose_88 : decode cM_whose 88 = .ok (.iaload, 1) := by decide +kernel
theorem dM_whose_89 : decode cM_whose 89 = .ok (.iload 4, 2) := by decide +kernel
theorem dM_whose_91 : decode cM_whose 91 = .ok (.irem, 1) := by decide +kernel
theorem dM_whose_92 : decode cM_whose 92 = .ok (.if_icmp .ge 7, 3) := by decide +kernel
theorem dM_whose_95 : decode cM_whose 95 = .ok (.iconst 1, 1) := by decide +kernel
theorem dM_whose_96 : decode cM_whose 96 = .ok (.goto 4, 3) := by decide +kernel
theorem dM_whose_99 : decode cM_whose 99 = .ok (.iconst 0, 1) := by decide +kernel
theorem dM_whose_100 : decode cM_whose 100 = .ok (.iadd, 1) := by decide +kernel
theorem dM_whose_101 : decode cM_whose 101 = .ok (.iadd, 1) := by decide +kernel
theorem dM_whose_102 : decode cM_whose 102 = .ok (.istore 5, 2) := by decide +kernel
theorem dM_whose_104 : decode cM_whose 104 = .ok (.iinc 6 1, 3) := by decide +kernel
theorem dM_whose_107 : decode cM_whose 107 = .ok (.iload_n 2, 1) := by decide +kernel
theorem dM_whose_108 : decode cM_whose 108 = .ok (.iconst 4, 1) := by decide +kernel
theorem dM_whose_109 : decode cM_whose 109 = .ok (.irem, 1) := by decide +kernel
theorem dM_whose_110 : decode cM_whose 110 = .ok (.iload 5, 2) := by decide +kernel
theorem dM_whose_112 : decode cM_whose 112 = .ok (.if_icmp .ge 6, 3) := by decide +kernel
theorem dM_whose_115 : decode cM_whose 115 = .ok (.iload 7, 2) := by decide +kernel
theorem dM_whose_117 : decode cM_whose 117 = .ok (.ireturn, 1) := by decide +kernel
theorem dM_whose_118 : decode cM_whose 118 = .ok (.iinc 7 1, 3) := by decide +kernel
theorem dM_whose_121 : decode cM_whose 121 = .ok (.goto (-72), 3) := by decide +kernel
theorem dM_whose_124 : decode cM_whose 124 = .ok (.iconst (-1), 1) := by decide +kernel
theorem dM_whose_125 : decode cM_whose 125 = .ok (.ireturn, 1) := by decide +kernel
theorem dM_owner_0 : decode cM_owner 0 = .ok (.aload_n 0, 1) := by decide +kernel
theorem dM_owner_1 : decode cM_owner 1 = .ok (.iload_n 1, 1) := by decide +kernel
theorem dM_owner_2 : decode cM_owner 2 = .ok (.ifCond .lt 16, 3) := by decide +kernel
theorem dM_owner_5 : decode cM_owner 5 = .ok (.iload_n 1, 1) := by decide +kernel
theorem dM_owner_6 : decode cM_owner 6 = .ok (.iconst 1, 1) := by decide +kernel
theorem dM_owner_7 : decode cM_owner 7 = .ok (.if_icmp .gt 11, 3) := by decide +kernel
theorem dM_owner_10 : decode cM_owner 10 = .ok (.aload_n 0, 1) := by decide +kernel
theorem dM_owner_11 : decode cM_owner 11 = .ok (.iload_n 2, 1) := by decide +kernel
theorem dM_owner_12 : decode cM_owner 12 = .ok (.invokevirtual 123, 3) := by decide +kernel
theorem dM_owner_15 : decode cM_owner 15 = .ok (.ifCond .eq 7, 3) := by decide +kernel
theorem dM_owner_18 : decode cM_owner 18 = .ok (.iconst 1, 1) := by decide +kernel
theorem dM_owner_19 : decode cM_owner 19 = .ok (.goto 17, 3) := by decide +kernel
theorem dM_owner_22 : decode cM_owner 22 = .ok (.aload_n 0, 1) := by decide +kernel
theorem dM_owner_23 : decode cM_owner 23 = .ok (.iload_n 1, 1) := by decide +kernel
theorem dM_owner_24 : decode cM_owner 24 = .ok (.iload_n 2, 1) := by decide +kernel
theorem dM_owner_25 : decode cM_owner 25 = .ok (.invokevirtual 149, 3) := by decide +kernel
theorem dM_owner_28 : decode cM_owner 28 = .ok (.ifCond .ge 7, 3) := by decide +kernel
theorem dM_owner_31 : decode cM_owner 31 = .ok (.iconst 2, 1) := by decide +kernel
theorem dM_owner_32 : decode cM_owner 32 = .ok (.goto 4, 3) := by decide +kernel
theorem dM_owner_35 : decode cM_owner 35 = .ok (.iconst 0, 1) := by decide +kernel
theorem dM_owner_36 : decode cM_owner 36 = .ok (.putfield 77, 3) := by decide +kernel
theorem dM_owner_39 : decode cM_owner 39 = .ok (.aload_n 0, 1) := by decide +kernel
theorem dM_owner_40 : decode cM_owner 40 = .ok (.getfield 77, 3) := by decide +kernel
theorem dM_owner_43 : decode cM_owner 43 = .ok (.ifCond .ne 12, 3) := by decide +kernel
theorem dM_owner_46 : decode cM_owner 46 = .ok (.aload_n 0, 1) := by decide +kernel
theorem dM_owner_47 : decode cM_owner 47 = .ok (.iload_n 1, 1) := by decide +kernel
theorem dM_owner_48 : decode cM_owner 48 = .ok (.iload_n 2, 1) := by decide +kernel
theorem dM_owner_49 : decode cM_owner 49 = .ok (.invokevirtual 149, 3) := by decide +kernel
theorem dM_owner_52 : decode cM_owner 52 = .ok (.goto 4, 3) := by decide +kernel
theorem dM_owner_55 : decode cM_owner 55 = .ok (.iconst 0, 1) := by decide +kernel
theorem dM_owner_56 : decode cM_owner 56 = .ok (.ireturn, 1) := by decide +kernel
theorem dM_poll_0 : decode cM_poll 0 = .ok (.aload_n 0, 1) := by decide +kernel
theorem dM_poll_1 : decode cM_poll 1 = .ok (.aload_n 0, 1) := by decide +kernel
theorem dM_poll_2 : decode cM_poll 2 = .ok (.iload_n 1, 1) := by decide +kernel
theorem dM_poll_3 : decode cM_poll 3 = .ok (.iload_n 2, 1) := by decide +kernel
theorem dM_poll_4 : decode cM_poll 4 = .ok (.invokevirtual 143, 3) := by decide +kernel
theorem dM_poll_7 : decode cM_poll 7 = .ok (.ifCond .ne 12, 3) := by decide +kernel
theorem dM_poll_10 : decode cM_poll 10 = .ok (.aload_n 0, 1) := by decide +kernel
theorem dM_poll_11 : decode cM_poll 11 = .ok (.iload 4, 2) := by decide +kernel
theorem dM_poll_13 : decode cM_poll 13 = .ok (.invokevirtual 123, 3) := by decide +kernel
theorem dM_poll_16 : decode cM_poll 16 = .ok (.ifCond .eq 7, 3) := by decide +kernel
theorem dM_poll_19 : decode cM_poll 19 = .ok (.iconst 1, 1) := by decide +kernel
theorem dM_poll_20 : decode cM_poll 20 = .ok (.goto 29, 3) := by decide +kernel
theorem dM_poll_23 : decode cM_poll 23 = .ok (.iload_n 3, 1) := by decide +kernel
theorem dM_poll_24 : decode cM_poll 24 = .ok (.aload_n 0, 1) := by decide +kernel
theorem dM_poll_25 : decode cM_poll 25 = .ok (.getfield 68, 3) := by decide +kernel
theorem dM_poll_28 : decode cM_poll 28 = .ok (.iload_n 1, 1) := by decide +kernel
theorem dM_poll_29 : decode cM_poll 29 = .ok (.iaload, 1) := by decide +kernel
theorem dM_poll_30 : decode cM_poll 30 = .ok (.if_icmp .ne 14, 3) := by decide +kernel
theorem dM_poll_33 : decode cM_poll 33 = .ok (.aload_n 0, 1) := by decide +kernel
theorem dM_poll_34 : decode cM_poll 34 = .ok (.iload_n 1, 1) := by decide +kernel
theorem dM_poll_35 : decode cM_poll 35 = .ok (.iload 4, 2) := by decide +kernel
theorem dM_poll_37 : decode cM_poll 37 = .ok (.invokevirtual 149, 3) := by decide +kernel
theorem dM_poll_40 : decode cM_poll 40 = .ok (.iload_n 2, 1) := by decide +kernel
theorem dM_poll_41 : decode cM_poll 41 = .ok (.if_icmp .eq 7, 3) := by decide +kernel
theorem dM_poll_44 : decode cM_poll 44 = .ok (.iconst 3, 1) := by decide +kernel
theorem dM_poll_45 : decode cM_poll 45 = .ok (.goto 4, 3) := by decide +kernel
theorem dM_poll_48 : decode cM_poll 48 = .ok (.iconst 0, 1) := by decide +kernel
theorem dM_poll_49 : decode cM_poll 49 = .ok (.putfield 77, 3) := by decide +kernel
theorem dM_poll_52 : decode cM_poll 52 = .ok (.aload_n 0, 1) := by decide +kernel
theorem dM_poll_53 : decode cM_poll 53 = .ok (.getfield 77, 3) := by decide +kernel
theorem dM_poll_56 : decode cM_poll 56 = .ok (.ifCond .eq 5, 3) := by decide +kernel
theorem dM_poll_59 : decode cM_poll 59 = .ok (.iconst 0, 1) := by decide +kernel
theorem dM_poll_60 : decode cM_poll 60 = .ok (.ireturn, 1) := by decide +kernel
theorem dM_poll_61 : decode cM_poll 61 = .ok (.aload_n 0, 1) := by decide +kernel
theorem dM_poll_62 : decode cM_poll 62 = .ok (.getfield 71, 3) := by decide +kernel
theorem dM_poll_65 : decode cM_poll 65 = .ok (.iload_n 1, 1) := by decide +kernel
theorem dM_poll_66 : decode cM_poll 66 = .ok (.bipush 12, 2) := by decide +kernel
theorem dM_poll_68 : decode cM_poll 68 = .ok (.imul, 1) := by decide +kernel
theorem dM_poll_69 : decode cM_poll 69 = .ok (.iload 4, 2) := by decide +kernel
theorem dM_poll_71 : decode cM_poll 71 = .ok (.iadd, 1) := by decide +kernel
theorem dM_poll_72 : decode cM_poll 72 = .ok (.iaload, 1) := by decide +kernel
theorem dM_poll_73 : decode cM_poll 73 = .ok (.aload_n 0, 1) := by decide +kernel
theorem dM_poll_74 : decode cM_poll 74 = .ok (.getfield 23, 3) := by decide +kernel
theorem dM_poll_77 : decode cM_poll 77 = .ok (.iload 4, 2) := by decide +kernel
theorem dM_poll_79 : decode cM_poll 79 = .ok (.iaload, 1) := by decide +kernel
theorem dM_poll_80 : decode cM_poll 80 = .ok (.if_icmp .le 18, 3) := by decide +kernel
theorem dM_poll_83 : decode cM_poll 83 = .ok (.aload_n 0, 1) := by decide +kernel
theorem dM_poll_84 : decode cM_poll 84 = .ok (.getfield 71, 3) := by decide +kernel
theorem dM_poll_87 : decode cM_poll 87 = .ok (.iload_n 1, 1) := by decide +kernel
theorem dM_poll_88 : decode cM_poll 88 = .ok (.bipush 12, 2) := by decide +kernel
theorem dM_poll_90 : decode cM_poll 90 = .ok (.imul, 1) := by decide +kernel
theorem dM_poll_91 : decode cM_poll 91 = .ok (.iload 4, 2) := by decide +kernel
theorem dM_poll_93 : decode cM_poll 93 = .ok (.iadd, 1) := by decide +kernel
theorem dM_poll_94 : decode cM_poll 94 = .ok (.iaload, 1) := by decide +kernel
theorem dM_poll_95 : decode cM_poll 95 = .ok (.goto 10, 3) := by decide +kernel
theorem dM_poll_98 : decode cM_poll 98 = .ok (.aload_n 0, 1) := by decide +kernel
theorem dM_poll_99 : decode cM_poll 99 = .ok (.getfield 23, 3) := by decide +kernel
theorem dM_poll_102 : decode cM_poll 102 = .ok (.iload 4, 2) := by decide +kernel
theorem dM_poll_104 : decode cM_poll 104 = .ok (.iaload, 1) := by decide +kernel
theorem dM_poll_105 : decode cM_poll 105 = .ok (.istore 5, 2) := by decide +kernel
theorem dM_poll_107 : decode cM_poll 107 = .ok (.aload_n 0, 1) := by decide +kernel
theorem dM_poll_108 : decode cM_poll 108 = .ok (.iload 4, 2) := by decide +kernel
theorem dM_poll_110 : decode cM_poll 110 = .ok (.iload 5, 2) := by decide +kernel
theorem dM_poll_112 : decode cM_poll 112 = .ok (.iconst 1, 1) := by decide +kernel
theorem dM_poll_113 : decode cM_poll 113 = .ok (.invokevirtual 132, 3) := by decide +kernel
theorem dM_poll_116 : decode cM_poll 116 = .ok (.istore 6, 2) := by decide +kernel
theorem dM_poll_118 : decode cM_poll 118 = .ok (.iload 6, 2) := by decide +kernel
theorem dM_poll_120 : decode cM_poll 120 = .ok (.ifCond .ge 10, 3) := by decide +kernel
theorem dM_poll_123 : decode cM_poll 123 = .ok (.aload_n 0, 1) := by decide +kernel
theorem dM_poll_124 : decode cM_poll 124 = .ok (.iconst 2, 1) := by decide +kernel
theorem dM_poll_125 : decode cM_poll 125 = .ok (.putfield 77, 3) := by decide +kernel
theorem dM_poll_128 : decode cM_poll 128 = .ok (.iconst 0, 1) := by decide +kernel
theorem dM_poll_129 : decode cM_poll 129 = .ok (.ireturn, 1) := by decide +kernel
theorem dM_poll_130 : decode cM_poll 130 = .ok (.aload_n 0, 1) := by decide +kernel
theorem dM_poll_131 : decode cM_poll 131 = .ok (.getfield 71, 3) := by decide +kernel
theorem dM_poll_134 : decode cM_poll 134 = .ok (.iload_n 1, 1) := by decide +kernel
theorem dM_poll_135 : decode cM_poll 135 = .ok (.bipush 12, 2) := by decide +kernel
theorem dM_poll_137 : decode cM_poll 137 = .ok (.imul, 1) := by decide +kernel
theorem dM_poll_138 : decode cM_poll 138 = .ok (.iload 4, 2) := by decide +kernel
theorem dM_poll_140 : decode cM_poll 140 = .ok (.iadd, 1) := by decide +kernel
theorem dM_poll_141 : decode cM_poll 141 = .ok (.iload 6, 2) := by decide +kernel
theorem dM_poll_143 : decode cM_poll 143 = .ok (.iconst 1, 1) := by decide +kernel
theorem dM_poll_144 : decode cM_poll 144 = .ok (.iadd, 1) := by decide +kernel
theorem dM_poll_145 : decode cM_poll 145 = .ok (.iastore, 1) := by decide +kernel
theorem dM_poll_146 : decode cM_poll 146 = .ok (.iload 6, 2) := by decide +kernel
theorem dM_poll_148 : decode cM_poll 148 = .ok (.ireturn, 1) := by decide +kernel
theorem dM_keep_0 : decode cM_keep 0 = .ok (.aload_n 0, 1) := by decide +kernel
theorem dM_keep_1 : decode cM_keep 1 = .ok (.iload_n 1, 1) := by decide +kernel
theorem dM_keep_2 : decode cM_keep 2 = .ok (.iload_n 2, 1) := by decide +kernel
theorem dM_keep_3 : decode cM_keep 3 = .ok (.invokevirtual 143, 3) := by decide +kernel
theorem dM_keep_6 : decode cM_keep 6 = .ok (.ifCond .ne 29, 3) := by decide +kernel
theorem dM_keep_9 : decode cM_keep 9 = .ok (.aload_n 0, 1) := by decide +kernel
theorem dM_keep_10 : decode cM_keep 10 = .ok (.iload 4, 2) := by decide +kernel
theorem dM_keep_12 : decode cM_keep 12 = .ok (.invokevirtual 123, 3) := by decide +kernel
theorem dM_keep_15 : decode cM_keep 15 = .ok (.ifCond .ne 20, 3) := by decide +kernel
theorem dM_keep_18 : decode cM_keep 18 = .ok (.iload 5, 2) := by decide +kernel
theorem dM_keep_20 : decode cM_keep 20 = .ok (.ifCond .lt 15, 3) := by decide +kernel
theorem dM_keep_23 : decode cM_keep 23 = .ok (.iload 5, 2) := by decide +kernel
theorem dM_keep_25 : decode cM_keep 25 = .ok (.aload_n 0, 1) := by decide +kernel
theorem dM_keep_26 : decode cM_keep 26 = .ok (.getfield 26, 3) := by decide +kernel
theorem dM_keep_29 : decode cM_keep 29 = .ok (.iload 4, 2) := by decide +kernel
theorem dM_keep_31 : decode cM_keep 31 = .ok (.iaload, 1) := by decide +kernel
theorem dM_keep_32 : decode cM_keep 32 = .ok (.if_icmp .le 7, 3) := by decide +kernel
theorem dM_keep_35 : decode cM_keep 35 = .ok (.iconst 1, 1) := by decide +kernel
theorem dM_keep_36 : decode cM_keep 36 = .ok (.goto 4, 3) := by decide +kernel
theorem dM_keep_39 : decode cM_keep 39 = .ok (.iconst 0, 1) := by decide +kernel
theorem dM_keep_40 : decode cM_keep 40 = .ok (.istore 6, 2) := by decide +kernel
theorem dM_keep_42 : decode cM_keep 42 = .ok (.aload_n 0, 1) := by decide +kernel
theorem dM_keep_43 : decode cM_keep 43 = .ok (.iload 6, 2) := by decide +kernel
theorem dM_keep_45 : decode cM_keep 45 = .ok (.ifCond .eq 7, 3) := by decide +kernel
theorem dM_keep_48 : decode cM_keep 48 = .ok (.iconst 1, 1) := by decide +kernel
theorem dM_keep_49 : decode cM_keep 49 = .ok (.goto 29, 3) := by decide +kernel
theorem dM_keep_52 : decode cM_keep 52 = .ok (.iload_n 3, 1) := by decide +kernel
theorem dM_keep_53 : decode cM_keep 53 = .ok (.aload_n 0, 1) := by decide +kernel
theorem dM_keep_54 : decode cM_keep 54 = .ok (.getfield 68, 3) := by decide +kernel
theorem dM_keep_57 : decode cM_keep 57 = .ok (.iload_n 1, 1) := by decide +kernel
theorem dM_keep_58 : decode cM_keep 58 = .ok (.iaload, 1) := by decide +kernel
theorem dM_keep_59 : decode cM_keep 59 = .ok (.if_icmp .ne 14, 3) := by decide +kernel
theorem dM_keep_62 : decode cM_keep 62 = .ok (.aload_n 0, 1) := by decide +kernel
theorem dM_keep_63 : decode cM_keep 63 = .ok (.iload_n 1, 1) := by decide +kernel
theorem dM_keep_64 : decode cM_keep 64 = .ok (.iload 4, 2) := by decide +kernel
theorem dM_keep_66 : decode cM_keep 66 = .ok (.invokevirtual 149, 3) := by decide +kernel
theorem dM_keep_69 : decode cM_keep 69 = .ok (.iload_n 2, 1) := by decide +kernel
theorem dM_keep_70 : decode cM_keep 70 = .ok (.if_icmp .eq 7, 3) := by decide +kernel
theorem dM_keep_73 : decode cM_keep 73 = .ok (.iconst 2, 1) := by decide +kernel
theorem dM_keep_74 : decode cM_keep 74 = .ok (.goto 4, 3) := by decide +kernel
theorem dM_keep_77 : decode cM_keep 77 = .ok (.iconst 0, 1) := by decide +kernel
theorem dM_keep_78 : decode cM_keep 78 = .ok (.putfield 77, 3) := by decide +kernel
theorem dM_keep_81 : decode cM_keep 81 = .ok (.aload_n 0, 1) := by decide +kernel
theorem dM_keep_82 : decode cM_keep 82 = .ok (.getfield 77, 3) := by decide +kernel
theorem dM_keep_85 : decode cM_keep 85 = .ok (.ifCond .ne 17, 3) := by decide +kernel
theorem dM_keep_88 : decode cM_keep 88 = .ok (.aload_n 0, 1) := by decide +kernel
theorem dM_keep_89 : decode cM_keep 89 = .ok (.getfield 74, 3) := by decide +kernel
theorem dM_keep_92 : decode cM_keep 92 = .ok (.iload_n 1, 1) := by decide +kernel
theorem dM_keep_93 : decode cM_keep 93 = .ok (.bipush 12, 2) := by decide +kernel
theorem dM_keep_95 : decode cM_keep 95 = .ok (.imul, 1) := by decide +kernel
theorem dM_keep_96 : decode cM_keep 96 = .ok (.iload 4, 2) := by decide +kernel
theorem dM_keep_98 : decode cM_keep 98 = .ok (.iadd, 1) := by decide +kernel
theorem dM_keep_99 : decode cM_keep 99 = .ok (.iload 5, 2) := by decide +kernel
theorem dM_keep_101 : decode cM_keep 101 = .ok (.iastore, 1) := by decide +kernel
theorem dM_keep_102 : decode cM_keep 102 = .ok (.return_, 1) := by decide +kernel
theorem dM_log_0 : decode cM_log 0 = .ok (.aload_n 0, 1) := by decide +kernel
theorem dM_log_1 : decode cM_log 1 = .ok (.aload_n 0, 1) := by decide +kernel
theorem dM_log_2 : decode cM_log 2 = .ok (.iload_n 1, 1) := by decide +kernel
theorem dM_log_3 : decode cM_log 3 = .ok (.invokevirtual 123, 3) := by decide +kernel
theorem dM_log_6 : decode cM_log 6 = .ok (.ifCond .ne 13, 3) := by decide +kernel
theorem dM_log_9 : decode cM_log 9 = .ok (.iload_n 2, 1) := by decide +kernel
theorem dM_log_10 : decode cM_log 10 = .ok (.ifCond .lt 9, 3) := by decide +kernel
theorem dM_log_13 : decode cM_log 13 = .ok (.iload_n 2, 1) := by decide +kernel
theorem dM_log_14 : decode cM_log 14 = .ok (.bipush 8, 2) := by decide +kernel
theorem dM_log_16 : decode cM_log 16 = .ok (.if_icmp .le 7, 3) := by decide +kernel
theorem dM_log_19 : decode cM_log 19 = .ok (.iconst 1, 1) := by decide +kernel
theorem dM_log_20 : decode cM_log 20 = .ok (.goto 4, 3) := by decide +kernel
theorem dM_log_23 : decode cM_log 23 = .ok (.iconst 0, 1) := by decide +kernel
theorem dM_log_24 : decode cM_log 24 = .ok (.putfield 77, 3) := by decide +kernel
theorem dM_log_27 : decode cM_log 27 = .ok (.aload_n 0, 1) := by decide +kernel
theorem dM_log_28 : decode cM_log 28 = .ok (.getfield 77, 3) := by decide +kernel
theorem dM_log_31 : decode cM_log 31 = .ok (.ifCond .eq 5, 3) := by decide +kernel
theorem dM_log_34 : decode cM_log 34 = .ok (.iconst 0, 1) := by decide +kernel
theorem dM_log_35 : decode cM_log 35 = .ok (.ireturn, 1) := by decide +kernel
theorem dM_log_36 : decode cM_log 36 = .ok (.iload_n 2, 1) := by decide +kernel
theorem dM_log_37 : decode cM_log 37 = .ok (.ifCond .ne 10, 3) := by decide +kernel
theorem dM_log_40 : decode cM_log 40 = .ok (.aload_n 0, 1) := by decide +kernel
theorem dM_log_41 : decode cM_log 41 = .ok (.getfield 23, 3) := by decide +kernel
theorem dM_log_44 : decode cM_log 44 = .ok (.iload_n 1, 1) := by decide +kernel
theorem dM_log_45 : decode cM_log 45 = .ok (.iaload, 1) := by decide +kernel
theorem dM_log_46 : decode cM_log 46 = .ok (.ireturn, 1) := by decide +kernel
theorem dM_log_47 : decode cM_log 47 = .ok (.iload_n 2, 1) := by decide +kernel
theorem dM_log_48 : decode cM_log 48 = .ok (.iconst 1, 1) := by decide +kernel
theorem dM_log_49 : decode cM_log 49 = .ok (.if_icmp .ne 10, 3) := by decide +kernel
theorem dM_log_52 : decode cM_log 52 = .ok (.aload_n 0, 1) := by decide +kernel
theorem dM_log_53 : decode cM_log 53 = .ok (.getfield 26, 3) := by decide +kernel
theorem dM_log_56 : decode cM_log 56 = .ok (.iload_n 1, 1) := by decide +kernel
theorem dM_log_57 : decode cM_log 57 = .ok (.iaload, 1) := by decide +kernel
theorem dM_log_58 : decode cM_log 58 = .ok (.ireturn, 1) := by decide +kernel
theorem dM_log_59 : decode cM_log 59 = .ok (.iload_n 2, 1) := by decide +kernel
theorem dM_log_60 : decode cM_log 60 = .ok (.iconst 2, 1) := by decide +kernel
theorem dM_log_61 : decode cM_log 61 = .ok (.if_icmp .ne 9, 3) := by decide +kernel
theorem dM_log_64 : decode cM_log 64 = .ok (.aload_n 0, 1) := by decide +kernel
theorem dM_log_65 : decode cM_log 65 = .ok (.iload_n 1, 1) := by decide +kernel
theorem dM_log_66 : decode cM_log 66 = .ok (.invokevirtual 88, 3) := by decide +kernel
theorem dM_log_69 : decode cM_log 69 = .ok (.ireturn, 1) := by decide +kernel
theorem dM_log_70 : decode cM_log 70 = .ok (.iload_n 2, 1) := by decide +kernel
theorem dM_log_71 : decode cM_log 71 = .ok (.iconst 4, 1) := by decide +kernel
theorem dM_log_72 : decode cM_log 72 = .ok (.if_icmp .ne 9, 3) := by decide +kernel
theorem dM_log_75 : decode cM_log 75 = .ok (.aload_n 0, 1) := by decide +kernel
theorem dM_log_76 : decode cM_log 76 = .ok (.iload_n 1, 1) := by decide +kernel
theorem dM_log_77 : decode cM_log 77 = .ok (.invokevirtual 85, 3) := by decide +kernel
theorem dM_log_80 : decode cM_log 80 = .ok (.ireturn, 1) := by decide +kernel
theorem dM_log_81 : decode cM_log 81 = .ok (.iload_n 2, 1) := by decide +kernel
theorem dM_log_82 : decode cM_log 82 = .ok (.iconst 5, 1) := by decide +kernel
theorem dM_log_83 : decode cM_log 83 = .ok (.if_icmp .eq 9, 3) := by decide +kernel
theorem dM_log_86 : decode cM_log 86 = .ok (.iload_n 2, 1) := by decide +kernel
theorem dM_log_87 : decode cM_log 87 = .ok (.bipush 6, 2) := by decide +kernel
theorem dM_log_89 : decode cM_log 89 = .ok (.if_icmp .ne 17, 3) := by decide +kernel
theorem dM_log_92 : decode cM_log 92 = .ok (.aload_n 0, 1) := by decide +kernel
theorem dM_log_93 : decode cM_log 93 = .ok (.getfield 71, 3) := by decide +kernel
theorem dM_log_96 : decode cM_log 96 = .ok (.iload_n 2, 1) := by decide +kernel
theorem dM_log_97 : decode cM_log 97 = .ok (.iconst 5, 1) := by decide +kernel
theorem dM_log_98 : decode cM_log 98 = .ok (.isub, 1) := by decide +kernel
theorem dM_log_99 : decode cM_log 99 = .ok (.bipush 12, 2) := by decide +kernel
theorem dM_log_101 : decode cM_log 101 = .ok (.imul, 1) := by decide +kernel
theorem dM_log_102 : decode cM_log 102 = .ok (.iload_n 1, 1) := by decide +kernel
theorem dM_log_103 : decode cM_log 103 = .ok (.iadd, 1) := by decide +kernel
theorem dM_log_104 : decode cM_log 104 = .ok (.iaload, 1) := by decide +kernel
theorem dM_log_105 : decode cM_log 105 = .ok (.ireturn, 1) := by decide +kernel
theorem dM_log_106 : decode cM_log 106 = .ok (.iload_n 2, 1) := by decide +kernel
theorem dM_log_107 : decode cM_log 107 = .ok (.bipush 6, 2) := by decide +kernel
theorem dM_log_109 : decode cM_log 109 = .ok (.if_icmp .le 18, 3) := by decide +kernel
theorem dM_log_112 : decode cM_log 112 = .ok (.aload_n 0, 1) := by decide +kernel
theorem dM_log_113 : decode cM_log 113 = .ok (.getfield 74, 3) := by decide +kernel
theorem dM_log_116 : decode cM_log 116 = .ok (.iload_n 2, 1) := by decide +kernel
theorem dM_log_117 : decode cM_log 117 = .ok (.bipush 7, 2) := by decide +kernel
theorem dM_log_119 : decode cM_log 119 = .ok (.isub, 1) := by decide +kernel
theorem dM_log_120 : decode cM_log 120 = .ok (.bipush 12, 2) := by decide +kernel
theorem dM_log_122 : decode cM_log 122 = .ok (.imul, 1) := by decide +kernel
theorem dM_log_123 : decode cM_log 123 = .ok (.iload_n 1, 1) := by decide +kernel
theorem dM_log_124 : decode cM_log 124 = .ok (.iadd, 1) := by decide +kernel
theorem dM_log_125 : decode cM_log 125 = .ok (.iaload, 1) := by decide +kernel
theorem dM_log_126 : decode cM_log 126 = .ok (.ireturn, 1) := by decide +kernel
theorem dM_log_127 : decode cM_log 127 = .ok (.iconst 0, 1) := by decide +kernel
theorem dM_log_128 : decode cM_log 128 = .ok (.istore_n 3, 1) := by decide +kernel
theorem dM_log_129 : decode cM_log 129 = .ok (.iconst 0, 1) := by decide +kernel
theorem dM_log_130 : decode cM_log 130 = .ok (.istore 4, 2) := by decide +kernel
theorem dM_log_132 : decode cM_log 132 = .ok (.iload 4, 2) := by decide +kernel
theorem dM_log_134 : decode cM_log 134 = .ok (.bipush 60, 2) := by decide +kernel
theorem dM_log_136 : decode cM_log 136 = .ok (.if_icmp .ge 27, 3) := by decide +kernel
theorem dM_log_139 : decode cM_log 139 = .ok (.aload_n 0, 1) := by decide +kernel
theorem dM_log_140 : decode cM_log 140 = .ok (.getfield 29, 3) := by decide +kernel
theorem dM_log_143 : decode cM_log 143 = .ok (.iload_n 1, 1) := by decide +kernel
theorem dM_log_144 : decode cM_log 144 = .ok (.bipush 60, 2) := by decide +kernel
theorem dM_log_146 : decode cM_log 146 = .ok (.imul, 1) := by decide +kernel
theorem dM_log_147 : decode cM_log 147 = .ok (.iload 4, 2) := by decide +kernel
theorem dM_log_149 : decode cM_log 149 = .ok (.iadd, 1) := by decide +kernel
theorem dM_log_150 : decode cM_log 150 = .ok (.iaload, 1) := by decide +kernel
theorem dM_log_151 : decode cM_log 151 = .ok (.ifCond .lt 6, 3) := by decide +kernel
theorem dM_log_154 : decode cM_log 154 = .ok (.iinc 3 1, 3) := by decide +kernel
theorem dM_log_157 : decode cM_log 157 = .ok (.iinc 4 1, 3) := by decide +kernel
theorem dM_log_160 : decode cM_log 160 = .ok (.goto (-28), 3) := by decide +kernel
theorem dM_log_163 : decode cM_log 163 = .ok (.iload_n 3, 1) := by decide +kernel
theorem dM_log_164 : decode cM_log 164 = .ok (.ireturn, 1) := by decide +kernel
theorem dM_count_0 : decode cM_count 0 = .ok (.aload_n 0, 1) := by decide +kernel
theorem dM_count_1 : decode cM_count 1 = .ok (.iconst 0, 1) := by decide +kernel
theorem dM_count_2 : decode cM_count 2 = .ok (.putfield 77, 3) := by decide +kernel
theorem dM_count_5 : decode cM_count 5 = .ok (.iload_n 1, 1) := by decide +kernel
theorem dM_count_6 : decode cM_count 6 = .ok (.ifCond .ne 8, 3) := by decide +kernel
theorem dM_count_9 : decode cM_count 9 = .ok (.aload_n 0, 1) := by decide +kernel
theorem dM_count_10 : decode cM_count 10 = .ok (.getfield 94, 3) := by decide +kernel
theorem dM_count_13 : decode cM_count 13 = .ok (.ireturn, 1) := by decide +kernel
theorem dM_count_14 : decode cM_count 14 = .ok (.iload_n 1, 1) := by decide +kernel
theorem dM_count_15 : decode cM_count 15 = .ok (.iconst 1, 1) := by decide +kernel
theorem dM_count_16 : decode cM_count 16 = .ok (.if_icmp .ne 8, 3) := by decide +kernel
theorem dM_count_19 : decode cM_count 19 = .ok (.aload_n 0, 1) := by decide +kernel
theorem dM_count_20 : decode cM_count 20 = .ok (.getfield 129, 3) := by decide +kernel
theorem dM_count_23 : decode cM_count 23 = .ok (.ireturn, 1) := by decide +kernel
theorem dM_count_24 : decode cM_count 24 = .ok (.iload_n 1, 1) := by decide +kernel
theorem dM_count_25 : decode cM_count 25 = .ok (.iconst 2, 1) := by decide +kernel
theorem dM_count_26 : decode cM_count 26 = .ok (.if_icmp .ne 8, 3) := by decide +kernel
theorem dM_count_29 : decode cM_count 29 = .ok (.aload_n 0, 1) := by decide +kernel
theorem dM_count_30 : decode cM_count 30 = .ok (.getfield 109, 3) := by decide +kernel
theorem dM_count_33 : decode cM_count 33 = .ok (.ireturn, 1) := by decide +kernel
theorem dM_count_34 : decode cM_count 34 = .ok (.iload_n 1, 1) := by decide +kernel
theorem dM_count_35 : decode cM_count 35 = .ok (.iconst 3, 1) := by decide +kernel
theorem dM_count_36 : decode cM_count 36 = .ok (.if_icmp .ne 8, 3) := by decide +kernel
theorem dM_count_39 : decode cM_count 39 = .ok (.aload_n 0, 1) := by decide +kernel
theorem dM_count_40 : decode cM_count 40 = .ok (.getfield 91, 3) := by decide +kernel
theorem dM_count_43 : decode cM_count 43 = .ok (.ireturn, 1) := by decide +kernel
theorem dM_count_44 : decode cM_count 44 = .ok (.iload_n 1, 1) := by decide +kernel
theorem dM_count_45 : decode cM_count 45 = .ok (.iconst 4, 1) := by decide +kernel
theorem dM_count_46 : decode cM_count 46 = .ok (.if_icmp .ne 8, 3) := by decide +kernel
theorem dM_count_49 : decode cM_count 49 = .ok (.aload_n 0, 1) := by decide +kernel
theorem dM_count_50 : decode cM_count 50 = .ok (.getfield 140, 3) := by decide +kernel
theorem dM_count_53 : decode cM_count 53 = .ok (.ireturn, 1) := by decide +kernel
theorem dM_count_54 : decode cM_count 54 = .ok (.iload_n 1, 1) := by decide +kernel
theorem dM_count_55 : decode cM_count 55 = .ok (.bipush 6, 2) := by decide +kernel
theorem dM_count_57 : decode cM_count 57 = .ok (.if_icmp .eq 9, 3) := by decide +kernel
theorem dM_count_60 : decode cM_count 60 = .ok (.iload_n 1, 1) := by decide +kernel
theorem dM_count_61 : decode cM_count 61 = .ok (.bipush 7, 2) := by decide +kernel
theorem dM_count_63 : decode cM_count 63 = .ok (.if_icmp .ne 13, 3) := by decide +kernel
theorem dM_count_66 : decode cM_count 66 = .ok (.aload_n 0, 1) := by decide +kernel
theorem dM_count_67 : decode cM_count 67 = .ok (.getfield 68, 3) := by decide +kernel
theorem dM_count_70 : decode cM_count 70 = .ok (.iload_n 1, 1) := by decide +kernel
theorem dM_count_71 : decode cM_count 71 = .ok (.bipush 6, 2) := by decide +kernel
theorem dM_count_73 : decode cM_count 73 = .ok (.isub, 1) := by decide +kernel
theorem dM_count_74 : decode cM_count 74 = .ok (.iaload, 1) := by decide +kernel
theorem dM_count_75 : decode cM_count 75 = .ok (.ireturn, 1) := by decide +kernel
theorem dM_count_76 : decode cM_count 76 = .ok (.iload_n 1, 1) := by decide +kernel
theorem dM_count_77 : decode cM_count 77 = .ok (.iconst 5, 1) := by decide +kernel
theorem dM_count_78 : decode cM_count 78 = .ok (.if_icmp .eq 5, 3) := by decide +kernel
theorem dM_count_81 : decode cM_count 81 = .ok (.iconst (-1), 1) := by decide +kernel
theorem dM_count_82 : decode cM_count 82 = .ok (.ireturn, 1) := by decide +kernel
theorem dM_count_83 : decode cM_count 83 = .ok (.iconst 0, 1) := by decide +kernel
theorem dM_count_84 : decode cM_count 84 = .ok (.istore_n 2, 1) := by decide +kernel
theorem dM_count_85 : decode cM_count 85 = .ok (.iconst 0, 1) := by decide +kernel
theorem dM_count_86 : decode cM_count 86 = .ok (.istore_n 3, 1) := by decide +kernel
theorem dM_count_87 : decode cM_count 87 = .ok (.iload_n 3, 1) := by decide +kernel
theorem dM_count_88 : decode cM_count 88 = .ok (.bipush 6, 2) := by decide +kernel
theorem dM_count_90 : decode cM_count 90 = .ok (.if_icmp .ge 21, 3) := by decide +kernel
theorem dM_count_93 : decode cM_count 93 = .ok (.aload_n 0, 1) := by decide +kernel
theorem dM_count_94 : decode cM_count 94 = .ok (.getfield 56, 3) := by decide +kernel
theorem dM_count_97 : decode cM_count 97 = .ok (.iload_n 3, 1) := by decide +kernel
theorem dM_count_98 : decode cM_count 98 = .ok (.baload, 1) := by decide +kernel
theorem dM_count_99 : decode cM_count 99 = .ok (.ifCond .eq 6, 3) := by decide +kernel
theorem dM_count_102 : decode cM_count 102 = .ok (.iinc 2 1, 3) := by decide +kernel
theorem dM_count_105 : decode cM_count 105 = .ok (.iinc 3 1, 3) := by decide +kernel
theorem dM_count_108 : decode cM_count 108 = .ok (.goto (-21), 3) := by decide +kernel
theorem dM_count_111 : decode cM_count 111 = .ok (.iload_n 2, 1) := by decide +kernel
theorem dM_count_112 : decode cM_count 112 = .ok (.ireturn, 1) := by decide +kernel
