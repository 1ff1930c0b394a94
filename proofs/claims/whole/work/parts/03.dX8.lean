theorem dX8_init_0 : decode cX8_init 0 = .ok (.aload_n 0, 1) := by decide +kernel
theorem dX8_init_1 : decode cX8_init 1 = .ok (.invokespecial 1, 3) := by decide +kernel
theorem dX8_init_4 : decode cX8_init 4 = .ok (.aload_n 0, 1) := by decide +kernel
theorem dX8_init_5 : decode cX8_init 5 = .ok (.bipush 60, 2) := by decide +kernel
theorem dX8_init_7 : decode cX8_init 7 = .ok (.newarray .byte, 2) := by decide +kernel
theorem dX8_init_9 : decode cX8_init 9 = .ok (.putfield 7, 3) := by decide +kernel
theorem dX8_init_12 : decode cX8_init 12 = .ok (.aload_n 0, 1) := by decide +kernel
theorem dX8_init_13 : decode cX8_init 13 = .ok (.bipush 8, 2) := by decide +kernel
theorem dX8_init_15 : decode cX8_init 15 = .ok (.newarray .int, 2) := by decide +kernel
theorem dX8_init_17 : decode cX8_init 17 = .ok (.putfield 13, 3) := by decide +kernel
theorem dX8_init_20 : decode cX8_init 20 = .ok (.aload_n 0, 1) := by decide +kernel
theorem dX8_init_21 : decode cX8_init 21 = .ok (.bipush 8, 2) := by decide +kernel
theorem dX8_init_23 : decode cX8_init 23 = .ok (.newarray .int, 2) := by decide +kernel
theorem dX8_init_25 : decode cX8_init 25 = .ok (.putfield 17, 3) := by decide +kernel
theorem dX8_init_28 : decode cX8_init 28 = .ok (.aload_n 0, 1) := by decide +kernel
theorem dX8_init_29 : decode cX8_init 29 = .ok (.bipush 8, 2) := by decide +kernel
theorem dX8_init_31 : decode cX8_init 31 = .ok (.newarray .int, 2) := by decide +kernel
theorem dX8_init_33 : decode cX8_init 33 = .ok (.putfield 20, 3) := by decide +kernel
theorem dX8_init_36 : decode cX8_init 36 = .ok (.aload_n 0, 1) := by decide +kernel
theorem dX8_init_37 : decode cX8_init 37 = .ok (.bipush 8, 2) := by decide +kernel
theorem dX8_init_39 : decode cX8_init 39 = .ok (.newarray .int, 2) := by decide +kernel
theorem dX8_init_41 : decode cX8_init 41 = .ok (.putfield 23, 3) := by decide +kernel
theorem dX8_init_44 : decode cX8_init 44 = .ok (.aload_n 0, 1) := by decide +kernel
theorem dX8_init_45 : decode cX8_init 45 = .ok (.bipush 8, 2) := by decide +kernel
theorem dX8_init_47 : decode cX8_init 47 = .ok (.newarray .int, 2) := by decide +kernel
theorem dX8_init_49 : decode cX8_init 49 = .ok (.putfield 26, 3) := by decide +kernel
theorem dX8_init_52 : decode cX8_init 52 = .ok (.aload_n 0, 1) := by decide +kernel
theorem dX8_init_53 : decode cX8_init 53 = .ok (.bipush 8, 2) := by decide +kernel
theorem dX8_init_55 : decode cX8_init 55 = .ok (.newarray .int, 2) := by decide +kernel
theorem dX8_init_57 : decode cX8_init 57 = .ok (.putfield 29, 3) := by decide +kernel
theorem dX8_init_60 : decode cX8_init 60 = .ok (.aload_n 0, 1) := by decide +kernel
theorem dX8_init_61 : decode cX8_init 61 = .ok (.bipush 12, 2) := by decide +kernel
theorem dX8_init_63 : decode cX8_init 63 = .ok (.newarray .int, 2) := by decide +kernel
theorem dX8_init_65 : decode cX8_init 65 = .ok (.putfield 32, 3) := by decide +kernel
theorem dX8_init_68 : decode cX8_init 68 = .ok (.aload_n 0, 1) := by decide +kernel
theorem dX8_init_69 : decode cX8_init 69 = .ok (.bipush 12, 2) := by decide +kernel
theorem dX8_init_71 : decode cX8_init 71 = .ok (.newarray .int, 2) := by decide +kernel
theorem dX8_init_73 : decode cX8_init 73 = .ok (.putfield 35, 3) := by decide +kernel
theorem dX8_init_76 : decode cX8_init 76 = .ok (.aload_n 0, 1) := by decide +kernel
theorem dX8_init_77 : decode cX8_init 77 = .ok (.bipush 12, 2) := by decide +kernel
theorem dX8_init_79 : decode cX8_init 79 = .ok (.newarray .int, 2) := by decide +kernel
theorem dX8_init_81 : decode cX8_init 81 = .ok (.putfield 38, 3) := by decide +kernel
theorem dX8_init_84 : decode cX8_init 84 = .ok (.aload_n 0, 1) := by decide +kernel
theorem dX8_init_85 : decode cX8_init 85 = .ok (.bipush 12, 2) := by decide +kernel
theorem dX8_init_87 : decode cX8_init 87 = .ok (.newarray .int, 2) := by decide +kernel
theorem dX8_init_89 : decode cX8_init 89 = .ok (.putfield 41, 3) := by decide +kernel
theorem dX8_init_92 : decode cX8_init 92 = .ok (.aload_n 0, 1) := by decide +kernel
theorem dX8_init_93 : decode cX8_init 93 = .ok (.bipush 12, 2) := by decide +kernel
theorem dX8_init_95 : decode cX8_init 95 = .ok (.newarray .int, 2) := by decide +kernel
theorem dX8_init_97 : decode cX8_init 97 = .ok (.putfield 44, 3) := by decide +kernel
theorem dX8_init_100 : decode cX8_init 100 = .ok (.aload_n 0, 1) := by decide +kernel
theorem dX8_init_101 : decode cX8_init 101 = .ok (.iconst 2, 1) := by decide +kernel
theorem dX8_init_102 : decode cX8_init 102 = .ok (.newarray .int, 2) := by decide +kernel
theorem dX8_init_104 : decode cX8_init 104 = .ok (.putfield 47, 3) := by decide +kernel
theorem dX8_init_107 : decode cX8_init 107 = .ok (.aload_n 0, 1) := by decide +kernel
theorem dX8_init_108 : decode cX8_init 108 = .ok (.iconst 2, 1) := by decide +kernel
theorem dX8_init_109 : decode cX8_init 109 = .ok (.newarray .long, 2) := by decide +kernel
theorem dX8_init_111 : decode cX8_init 111 = .ok (.putfield 50, 3) := by decide +kernel
theorem dX8_init_114 : decode cX8_init 114 = .ok (.aload_n 0, 1) := by decide +kernel
theorem dX8_init_115 : decode cX8_init 115 = .ok (.iconst 2, 1) := by decide +kernel
theorem dX8_init_116 : decode cX8_init 116 = .ok (.newarray .int, 2) := by decide +kernel
theorem dX8_init_118 : decode cX8_init 118 = .ok (.putfield 54, 3) := by decide +kernel
theorem dX8_init_121 : decode cX8_init 121 = .ok (.aload_n 0, 1) := by decide +kernel
theorem dX8_init_122 : decode cX8_init 122 = .ok (.bipush 120, 2) := by decide +kernel
theorem dX8_init_124 : decode cX8_init 124 = .ok (.newarray .int, 2) := by decide +kernel
theorem dX8_init_126 : decode cX8_init 126 = .ok (.putfield 57, 3) := by decide +kernel
theorem dX8_init_129 : decode cX8_init 129 = .ok (.aload_n 0, 1) := by decide +kernel
theorem dX8_init_130 : decode cX8_init 130 = .ok (.bipush 120, 2) := by decide +kernel
theorem dX8_init_132 : decode cX8_init 132 = .ok (.newarray .int, 2) := by decide +kernel
theorem dX8_init_134 : decode cX8_init 134 = .ok (.putfield 60, 3) := by decide +kernel
theorem dX8_init_137 : decode cX8_init 137 = .ok (.aload_n 0, 1) := by decide +kernel
theorem dX8_init_138 : decode cX8_init 138 = .ok (.bipush 120, 2) := by decide +kernel
theorem dX8_init_140 : decode cX8_init 140 = .ok (.newarray .int, 2) := by decide +kernel
theorem dX8_init_142 : decode cX8_init 142 = .ok (.putfield 63, 3) := by decide +kernel
theorem dX8_init_145 : decode cX8_init 145 = .ok (.aload_n 0, 1) := by decide +kernel
theorem dX8_init_146 : decode cX8_init 146 = .ok (.bipush 16, 2) := by decide +kernel
theorem dX8_init_148 : decode cX8_init 148 = .ok (.newarray .long, 2) := by decide +kernel
theorem dX8_init_150 : decode cX8_init 150 = .ok (.putfield 66, 3) := by decide +kernel
theorem dX8_init_153 : decode cX8_init 153 = .ok (.aload_n 0, 1) := by decide +kernel
theorem dX8_init_154 : decode cX8_init 154 = .ok (.bipush 16, 2) := by decide +kernel
theorem dX8_init_156 : decode cX8_init 156 = .ok (.newarray .int, 2) := by decide +kernel
theorem dX8_init_158 : decode cX8_init 158 = .ok (.putfield 69, 3) := by decide +kernel
theorem dX8_init_161 : decode cX8_init 161 = .ok (.aload_n 0, 1) := by decide +kernel
theorem dX8_init_162 : decode cX8_init 162 = .ok (.bipush 16, 2) := by decide +kernel
theorem dX8_init_164 : decode cX8_init 164 = .ok (.newarray .long, 2) := by decide +kernel
theorem dX8_init_166 : decode cX8_init 166 = .ok (.putfield 72, 3) := by decide +kernel
theorem dX8_init_169 : decode cX8_init 169 = .ok (.aload_n 0, 1) := by decide +kernel
theorem dX8_init_170 : decode cX8_init 170 = .ok (.bipush 16, 2) := by decide +kernel
theorem dX8_init_172 : decode cX8_init 172 = .ok (.newarray .long, 2) := by decide +kernel
theorem dX8_init_174 : decode cX8_init 174 = .ok (.putfield 75, 3) := by decide +kernel
theorem dX8_init_177 : decode cX8_init 177 = .ok (.aload_n 0, 1) := by decide +kernel
theorem dX8_init_178 : decode cX8_init 178 = .ok (.bipush 16, 2) := by decide +kernel
theorem dX8_init_180 : decode cX8_init 180 = .ok (.newarray .long, 2) := by decide +kernel
theorem dX8_init_182 : decode cX8_init 182 = .ok (.putfield 78, 3) := by decide +kernel
theorem dX8_init_185 : decode cX8_init 185 = .ok (.aload_n 0, 1) := by decide +kernel
theorem dX8_init_186 : decode cX8_init 186 = .ok (.bipush 16, 2) := by decide +kernel
theorem dX8_init_188 : decode cX8_init 188 = .ok (.newarray .long, 2) := by decide +kernel
theorem dX8_init_190 : decode cX8_init 190 = .ok (.putfield 81, 3) := by decide +kernel
theorem dX8_init_193 : decode cX8_init 193 = .ok (.aload_n 0, 1) := by decide +kernel
theorem dX8_init_194 : decode cX8_init 194 = .ok (.bipush 16, 2) := by decide +kernel
theorem dX8_init_196 : decode cX8_init 196 = .ok (.newarray .long, 2) := by decide +kernel
theorem dX8_init_198 : decode cX8_init 198 = .ok (.putfield 84, 3) := by decide +kernel
theorem dX8_init_201 : decode cX8_init 201 = .ok (.aload_n 0, 1) := by decide +kernel
theorem dX8_init_202 : decode cX8_init 202 = .ok (.bipush 16, 2) := by decide +kernel
theorem dX8_init_204 : decode cX8_init 204 = .ok (.newarray .long, 2) := by decide +kernel
theorem dX8_init_206 : decode cX8_init 206 = .ok (.putfield 87, 3) := by decide +kernel
theorem dX8_init_209 : decode cX8_init 209 = .ok (.aload_n 0, 1) := by decide +kernel
theorem dX8_init_210 : decode cX8_init 210 = .ok (.bipush 16, 2) := by decide +kernel
theorem dX8_init_212 : decode cX8_init 212 = .ok (.newarray .long, 2) := by decide +kernel
theorem dX8_init_214 : decode cX8_init 214 = .ok (.putfield 90, 3) := by decide +kernel
theorem dX8_init_217 : decode cX8_init 217 = .ok (.aload_n 0, 1) := by decide +kernel
theorem dX8_init_218 : decode cX8_init 218 = .ok (.sipush 640, 3) := by decide +kernel
theorem dX8_init_221 : decode cX8_init 221 = .ok (.newarray .int, 2) := by decide +kernel
theorem dX8_init_223 : decode cX8_init 223 = .ok (.putfield 93, 3) := by decide +kernel
theorem dX8_init_226 : decode cX8_init 226 = .ok (.aload_n 0, 1) := by decide +kernel
theorem dX8_init_227 : decode cX8_init 227 = .ok (.sipush 640, 3) := by decide +kernel
theorem dX8_init_230 : decode cX8_init 230 = .ok (.newarray .int, 2) := by decide +kernel
theorem dX8_init_232 : decode cX8_init 232 = .ok (.putfield 96, 3) := by decide +kernel
theorem dX8_init_235 : decode cX8_init 235 = .ok (.aload_n 0, 1) := by decide +kernel
theorem dX8_init_236 : decode cX8_init 236 = .ok (.sipush 640, 3) := by decide +kernel
theorem dX8_init_239 : decode cX8_init 239 = .ok (.newarray .int, 2) := by decide +kernel
theorem dX8_init_241 : decode cX8_init 241 = .ok (.putfield 99, 3) := by decide +kernel
theorem dX8_init_244 : decode cX8_init 244 = .ok (.aload_n 0, 1) := by decide +kernel
theorem dX8_init_245 : decode cX8_init 245 = .ok (.sipush 640, 3) := by decide +kernel
theorem dX8_init_248 : decode cX8_init 248 = .ok (.newarray .boolean, 2) := by decide +kernel
theorem dX8_init_250 : decode cX8_init 250 = .ok (.putfield 102, 3) := by decide +kernel
theorem dX8_init_253 : decode cX8_init 253 = .ok (.aload_n 0, 1) := by decide +kernel
theorem dX8_init_254 : decode cX8_init 254 = .ok (.getfield 13, 3) := by decide +kernel
theorem dX8_init_257 : decode cX8_init 257 = .ok (.invokestatic 106, 3) := by decide +kernel
theorem dX8_init_260 : decode cX8_init 260 = .ok (.aload_n 0, 1) := by decide +kernel
theorem dX8_init_261 : decode cX8_init 261 = .ok (.getfield 17, 3) := by decide +kernel
theorem dX8_init_264 : decode cX8_init 264 = .ok (.invokestatic 106, 3) := by decide +kernel
theorem dX8_init_267 : decode cX8_init 267 = .ok (.return_, 1) := by decide +kernel
theorem dX8_lies_0 : decode cX8_lies 0 = .ok (.lload_n 0, 1) := by decide +kernel
theorem dX8_lies_1 : decode cX8_lies 1 = .ok (.lload_n 2, 1) := by decide +kernel
theorem dX8_lies_2 : decode cX8_lies 2 = .ok (.lcmp, 1) := by decide +kernel
theorem dX8_lies_3 : decode cX8_lies 3 = .ok (.ifCond .lt 14, 3) := by decide +kernel
theorem dX8_lies_6 : decode cX8_lies 6 = .ok (.lload_n 0, 1) := by decide +kernel
theorem dX8_lies_7 : decode cX8_lies 7 = .ok (.lload 4, 2) := by decide +kernel
theorem dX8_lies_9 : decode cX8_lies 9 = .ok (.lcmp, 1) := by decide +kernel
theorem dX8_lies_10 : decode cX8_lies 10 = .ok (.ifCond .gt 7, 3) := by decide +kernel
theorem dX8_lies_13 : decode cX8_lies 13 = .ok (.iconst 1, 1) := by decide +kernel
theorem dX8_lies_14 : decode cX8_lies 14 = .ok (.goto 4, 3) := by decide +kernel
theorem dX8_lies_17 : decode cX8_lies 17 = .ok (.iconst 0, 1) := by decide +kernel
theorem dX8_lies_18 : decode cX8_lies 18 = .ok (.ireturn, 1) := by decide +kernel
theorem dX8_push_0 : decode cX8_push 0 = .ok (.bipush 24, 2) := by decide +kernel
theorem dX8_push_2 : decode cX8_push 2 = .ok (.istore_n 2, 1) := by decide +kernel
theorem dX8_push_3 : decode cX8_push 3 = .ok (.iload_n 2, 1) := by decide +kernel
theorem dX8_push_4 : decode cX8_push 4 = .ok (.ifCond .lt 32, 3) := by decide +kernel
theorem dX8_push_7 : decode cX8_push 7 = .ok (.aload_n 0, 1) := by decide +kernel
theorem dX8_push_8 : decode cX8_push 8 = .ok (.getfield 7, 3) := by decide +kernel
theorem dX8_push_11 : decode cX8_push 11 = .ok (.aload_n 0, 1) := by decide +kernel
theorem dX8_push_12 : decode cX8_push 12 = .ok (.getfield 110, 3) := by decide +kernel
theorem dX8_push_15 : decode cX8_push 15 = .ok (.iload_n 1, 1) := by decide +kernel
theorem dX8_push_16 : decode cX8_push 16 = .ok (.iload_n 2, 1) := by decide +kernel
theorem dX8_push_17 : decode cX8_push 17 = .ok (.ishr, 1) := by decide +kernel
theorem dX8_push_18 : decode cX8_push 18 = .ok (.i2b, 1) := by decide +kernel
theorem dX8_push_19 : decode cX8_push 19 = .ok (.bastore, 1) := by decide +kernel
theorem dX8_push_20 : decode cX8_push 20 = .ok (.aload_n 0, 1) := by decide +kernel
theorem dX8_push_21 : decode cX8_push 21 = .ok (.dup, 1) := by decide +kernel
theorem dX8_push_22 : decode cX8_push 22 = .ok (.getfield 110, 3) := by decide +kernel
theorem dX8_push_25 : decode cX8_push 25 = .ok (.iconst 1, 1) := by decide +kernel
theorem dX8_push_26 : decode cX8_push 26 = .ok (.iadd, 1) := by decide +kernel
theorem dX8_push_27 : decode cX8_push 27 = .ok (.putfield 110, 3) := by decide +kernel
theorem dX8_push_30 : decode cX8_push 30 = .ok (.iinc 2 (-8), 3) := by decide +kernel
theorem dX8_push_33 : decode cX8_push 33 = .ok (.goto (-30), 3) := by decide +kernel
theorem dX8_push_36 : decode cX8_push 36 = .ok (.return_, 1) := by decide +kernel
theorem dX8_feed_0 : decode cX8_feed 0 = .ok (.aload_n 0, 1) := by decide +kernel
theorem dX8_feed_1 : decode cX8_feed 1 = .ok (.getfield 110, 3) := by decide +kernel
theorem dX8_feed_4 : decode cX8_feed 4 = .ok (.bipush 20, 2) := by decide +kernel
theorem dX8_feed_6 : decode cX8_feed 6 = .ok (.iadd, 1) := by decide +kernel
theorem dX8_feed_7 : decode cX8_feed 7 = .ok (.bipush 60, 2) := by decide +kernel
theorem dX8_feed_9 : decode cX8_feed 9 = .ok (.if_icmp .le 5, 3) := by decide +kernel
theorem dX8_feed_12 : decode cX8_feed 12 = .ok (.iconst (-1), 1) := by decide +kernel
theorem dX8_feed_13 : decode cX8_feed 13 = .ok (.ireturn, 1) := by decide +kernel
theorem dX8_feed_14 : decode cX8_feed 14 = .ok (.aload_n 0, 1) := by decide +kernel
theorem dX8_feed_15 : decode cX8_feed 15 = .ok (.iload_n 1, 1) := by decide +kernel
theorem dX8_feed_16 : decode cX8_feed 16 = .ok (.invokevirtual 114, 3) := by decide +kernel
theorem dX8_feed_19 : decode cX8_feed 19 = .ok (.aload_n 0, 1) := by decide +kernel
theorem dX8_feed_20 : decode cX8_feed 20 = .ok (.iload_n 2, 1) := by decide +kernel
theorem dX8_feed_21 : decode cX8_feed 21 = .ok (.invokevirtual 114, 3) := by decide +kernel
theorem dX8_feed_24 : decode cX8_feed 24 = .ok (.aload_n 0, 1) := by decide +kernel
theorem dX8_feed_25 : decode cX8_feed 25 = .ok (.iload_n 3, 1) := by decide +kernel
theorem dX8_feed_26 : decode cX8_feed 26 = .ok (.invokevirtual 114, 3) := by decide +kernel
theorem dX8_feed_29 : decode cX8_feed 29 = .ok (.aload_n 0, 1) := by decide +kernel
theorem dX8_feed_30 : decode cX8_feed 30 = .ok (.iload 4, 2) := by decide +kernel
theorem dX8_feed_32 : decode cX8_feed 32 = .ok (.invokevirtual 114, 3) := by decide +kernel
theorem dX8_feed_35 : decode cX8_feed 35 = .ok (.aload_n 0, 1) := by decide +kernel
theorem dX8_feed_36 : decode cX8_feed 36 = .ok (.iload 5, 2) := by decide +kernel
theorem dX8_feed_38 : decode cX8_feed 38 = .ok (.invokevirtual 114, 3) := by decide +kernel
theorem dX8_feed_41 : decode cX8_feed 41 = .ok (.aload_n 0, 1) := by decide +kernel
theorem dX8_feed_42 : decode cX8_feed 42 = .ok (.getfield 110, 3) := by decide +kernel
theorem dX8_feed_45 : decode cX8_feed 45 = .ok (.ireturn, 1) := by decide +kernel
theorem dX8_asAtFirst_0 : decode cX8_asAtFirst 0 = .ok (.aload_n 0, 1) := by decide +kernel
theorem dX8_asAtFirst_1 : decode cX8_asAtFirst 1 = .ok (.iconst 0, 1) := by decide +kernel
theorem dX8_asAtFirst_2 : decode cX8_asAtFirst 2 = .ok (.bipush 100, 2) := by decide +kernel
theorem dX8_asAtFirst_4 : decode cX8_asAtFirst 4 = .ok (.iastore, 1) := by decide +kernel
theorem dX8_asAtFirst_5 : decode cX8_asAtFirst 5 = .ok (.aload_n 0, 1) := by decide +kernel
theorem dX8_asAtFirst_6 : decode cX8_asAtFirst 6 = .ok (.iconst 1, 1) := by decide +kernel
theorem dX8_asAtFirst_7 : decode cX8_asAtFirst 7 = .ok (.bipush 100, 2) := by decide +kernel
theorem dX8_asAtFirst_9 : decode cX8_asAtFirst 9 = .ok (.iastore, 1) := by decide +kernel
theorem dX8_asAtFirst_10 : decode cX8_asAtFirst 10 = .ok (.aload_n 0, 1) := by decide +kernel
theorem dX8_asAtFirst_11 : decode cX8_asAtFirst 11 = .ok (.iconst 2, 1) := by decide +kernel
theorem dX8_asAtFirst_12 : decode cX8_asAtFirst 12 = .ok (.sipush 400, 3) := by decide +kernel
theorem dX8_asAtFirst_15 : decode cX8_asAtFirst 15 = .ok (.iastore, 1) := by decide +kernel
theorem dX8_asAtFirst_16 : decode cX8_asAtFirst 16 = .ok (.aload_n 0, 1) := by decide +kernel
theorem dX8_asAtFirst_17 : decode cX8_asAtFirst 17 = .ok (.iconst 3, 1) := by decide +kernel
theorem dX8_asAtFirst_18 : decode cX8_asAtFirst 18 = .ok (.sipush 200, 3) := by decide +kernel
theorem dX8_asAtFirst_21 : decode cX8_asAtFirst 21 = .ok (.iastore, 1) := by decide +kernel
theorem dX8_asAtFirst_22 : decode cX8_asAtFirst 22 = .ok (.aload_n 0, 1) := by decide +kernel
theorem dX8_asAtFirst_23 : decode cX8_asAtFirst 23 = .ok (.iconst 4, 1) := by decide +kernel
theorem dX8_asAtFirst_24 : decode cX8_asAtFirst 24 = .ok (.bipush 110, 2) := by decide +kernel
theorem dX8_asAtFirst_26 : decode cX8_asAtFirst 26 = .ok (.iastore, 1) := by decide +kernel
theorem dX8_asAtFirst_27 : decode cX8_asAtFirst 27 = .ok (.aload_n 0, 1) := by decide +kernel
theorem dX8_asAtFirst_28 : decode cX8_asAtFirst 28 = .ok (.iconst 5, 1) := by decide +kernel
theorem dX8_asAtFirst_29 : decode cX8_asAtFirst 29 = .ok (.bipush 24, 2) := by decide +kernel
theorem dX8_asAtFirst_31 : decode cX8_asAtFirst 31 = .ok (.iastore, 1) := by decide +kernel
theorem dX8_asAtFirst_32 : decode cX8_asAtFirst 32 = .ok (.aload_n 0, 1) := by decide +kernel
theorem dX8_asAtFirst_33 : decode cX8_asAtFirst 33 = .ok (.bipush 6, 2) := by decide +kernel
theorem dX8_asAtFirst_35 : decode cX8_asAtFirst 35 = .ok (.iconst 5, 1) := by decide +kernel
theorem dX8_asAtFirst_36 : decode cX8_asAtFirst 36 = .ok (.iastore, 1) := by decide +kernel
theorem dX8_asAtFirst_37 : decode cX8_asAtFirst 37 = .ok (.aload_n 0, 1) := by decide +kernel
theorem dX8_asAtFirst_38 : decode cX8_asAtFirst 38 = .ok (.bipush 7, 2) := by decide +kernel
theorem dX8_asAtFirst_40 : decode cX8_asAtFirst 40 = .ok (.iconst 3, 1) := by decide +kernel
theorem dX8_asAtFirst_41 : decode cX8_asAtFirst 41 = .ok (.iastore, 1) := by decide +kernel
theorem dX8_asAtFirst_42 : decode cX8_asAtFirst 42 = .ok (.return_, 1) := by decide +kernel
theorem dX8_letter_0 : decode cX8_letter 0 = .ok (.iload_n 0, 1) := by decide +kernel
theorem dX8_letter_1 : decode cX8_letter 1 = .ok (.tableswitch 109 97 115 #[101, 91, 109, 109, 109, 109, 109, 109, 109, 109, 109, 99, 97, 93, 106, 103, 109, 109, 95], 91) := by decide +kernel
theorem dX8_letter_92 : decode cX8_letter 92 = .ok (.iconst 0, 1) := by decide +kernel
theorem dX8_letter_93 : decode cX8_letter 93 = .ok (.ireturn, 1) := by decide +kernel
theorem dX8_letter_94 : decode cX8_letter 94 = .ok (.iconst 1, 1) := by decide +kernel
theorem dX8_letter_95 : decode cX8_letter 95 = .ok (.ireturn, 1) := by decide +kernel
theorem dX8_letter_96 : decode cX8_letter 96 = .ok (.iconst 2, 1) := by decide +kernel
theorem dX8_letter_97 : decode cX8_letter 97 = .ok (.ireturn, 1) := by decide +kernel
theorem dX8_letter_98 : decode cX8_letter 98 = .ok (.iconst 3, 1) := by decide +kernel
theorem dX8_letter_99 : decode cX8_letter 99 = .ok (.ireturn, 1) := by decide +kernel
theorem dX8_letter_100 : decode cX8_letter 100 = .ok (.iconst 4, 1) := by decide +kernel
theorem dX8_letter_101 : decode cX8_letter 101 = .ok (.ireturn, 1) := by decide +kernel
theorem dX8_letter_102 : decode cX8_letter 102 = .ok (.iconst 5, 1) := by decide +kernel
theorem dX8_letter_103 : decode cX8_letter 103 = .ok (.ireturn, 1) := by decide +kernel
theorem dX8_letter_104 : decode cX8_letter 104 = .ok (.bipush 6, 2) := by decide +kernel
theorem dX8_letter_106 : decode cX8_letter 106 = .ok (.ireturn, 1) := by decide +kernel
theorem dX8_letter_107 : decode cX8_letter 107 = .ok (.bipush 7, 2) := by decide +kernel
theorem dX8_letter_109 : decode cX8_letter 109 = .ok (.ireturn, 1) := by decide +kernel
theorem dX8_letter_110 : decode cX8_letter 110 = .ok (.iconst (-1), 1) := by decide +kernel
theorem dX8_letter_111 : decode cX8_letter 111 = .ok (.ireturn, 1) := by decide +kernel
theorem dX8_canBe_0 : decode cX8_canBe 0 = .ok (.iload_n 0, 1) := by decide +kernel
theorem dX8_canBe_1 : decode cX8_canBe 1 = .ok (.iconst 4, 1) := by decide +kernel
theorem dX8_canBe_2 : decode cX8_canBe 2 = .ok (.if_icmp .ne 17, 3) := by decide +kernel
theorem dX8_canBe_5 : decode cX8_canBe 5 = .ok (.iload_n 1, 1) := by decide +kernel
theorem dX8_canBe_6 : decode cX8_canBe 6 = .ok (.bipush 100, 2) := by decide +kernel
theorem dX8_canBe_8 : decode cX8_canBe 8 = .ok (.if_icmp .lt 7, 3) := by decide +kernel
theorem dX8_canBe_11 : decode cX8_canBe 11 = .ok (.iconst 1, 1) := by decide +kernel
theorem dX8_canBe_12 : decode cX8_canBe 12 = .ok (.goto 41, 3) := by decide +kernel
theorem dX8_canBe_15 : decode cX8_canBe 15 = .ok (.iconst 0, 1) := by decide +kernel
theorem dX8_canBe_16 : decode cX8_canBe 16 = .ok (.goto 37, 3) := by decide +kernel
theorem dX8_canBe_19 : decode cX8_canBe 19 = .ok (.iload_n 0, 1) := by decide +kernel
theorem dX8_canBe_20 : decode cX8_canBe 20 = .ok (.iconst 5, 1) := by decide +kernel
theorem dX8_canBe_21 : decode cX8_canBe 21 = .ok (.if_icmp .ne 15, 3) := by decide +kernel
theorem dX8_canBe_24 : decode cX8_canBe 24 = .ok (.iload_n 1, 1) := by decide +kernel
theorem dX8_canBe_25 : decode cX8_canBe 25 = .ok (.i2l, 1) := by decide +kernel
theorem dX8_canBe_26 : decode cX8_canBe 26 = .ok (.lconst 1, 1) := by decide +kernel
theorem dX8_canBe_27 : decode cX8_canBe 27 = .ok (.ldc2_w 118, 3) := by decide +kernel
theorem dX8_canBe_30 : decode cX8_canBe 30 = .ok (.invokestatic 120, 3) := by decide +kernel
theorem dX8_canBe_33 : decode cX8_canBe 33 = .ok (.goto 20, 3) := by decide +kernel
theorem dX8_canBe_36 : decode cX8_canBe 36 = .ok (.iload_n 0, 1) := by decide +kernel
theorem dX8_canBe_37 : decode cX8_canBe 37 = .ok (.bipush 6, 2) := by decide +kernel
theorem dX8_canBe_39 : decode cX8_canBe 39 = .ok (.if_icmp .ne 9, 3) := by decide +kernel
theorem dX8_canBe_42 : decode cX8_canBe 42 = .ok (.iload_n 1, 1) := by decide +kernel
theorem dX8_canBe_43 : decode cX8_canBe 43 = .ok (.bipush 100, 2) := by decide +kernel
theorem dX8_canBe_45 : decode cX8_canBe 45 = .ok (.if_icmp .gt 7, 3) := by decide +kernel
theorem dX8_canBe_48 : decode cX8_canBe 48 = .ok (.iconst 1, 1) := by decide +kernel
theorem dX8_canBe_49 : decode cX8_canBe 49 = .ok (.goto 4, 3) := by decide +kernel
theorem dX8_canBe_52 : decode cX8_canBe 52 = .ok (.iconst 0, 1) := by decide +kernel
theorem dX8_canBe_53 : decode cX8_canBe 53 = .ok (.ireturn, 1) := by decide +kernel
theorem dX8_at_0 : decode cX8_at 0 = .ok (.iload_n 1, 1) := by decide +kernel
theorem dX8_at_1 : decode cX8_at 1 = .ok (.iload_n 2, 1) := by decide +kernel
theorem dX8_at_2 : decode cX8_at 2 = .ok (.if_icmp .ge 16, 3) := by decide +kernel
theorem dX8_at_5 : decode cX8_at 5 = .ok (.aload_n 0, 1) := by decide +kernel
theorem dX8_at_6 : decode cX8_at 6 = .ok (.getfield 7, 3) := by decide +kernel
theorem dX8_at_9 : decode cX8_at 9 = .ok (.iload_n 1, 1) := by decide +kernel
theorem dX8_at_10 : decode cX8_at 10 = .ok (.baload, 1) := by decide +kernel
theorem dX8_at_11 : decode cX8_at 11 = .ok (.sipush 255, 3) := by decide +kernel
theorem dX8_at_14 : decode cX8_at 14 = .ok (.iand, 1) := by decide +kernel
theorem dX8_at_15 : decode cX8_at 15 = .ok (.goto 4, 3) := by decide +kernel
theorem dX8_at_18 : decode cX8_at 18 = .ok (.iconst 0, 1) := by decide +kernel
theorem dX8_at_19 : decode cX8_at 19 = .ok (.ireturn, 1) := by decide +kernel
theorem dX8_reads_0 : decode cX8_reads 0 = .ok (.aload_n 0, 1) := by decide +kernel
theorem dX8_reads_1 : decode cX8_reads 1 = .ok (.getfield 20, 3) := by decide +kernel
theorem dX8_reads_4 : decode cX8_reads 4 = .ok (.invokestatic 106, 3) := by decide +kernel
theorem dX8_reads_7 : decode cX8_reads 7 = .ok (.iconst 0, 1) := by decide +kernel
theorem dX8_reads_8 : decode cX8_reads 8 = .ok (.istore_n 2, 1) := by decide +kernel
theorem dX8_reads_9 : decode cX8_reads 9 = .ok (.iconst 0, 1) := by decide +kernel
theorem dX8_reads_10 : decode cX8_reads 10 = .ok (.istore_n 3, 1) := by decide +kernel
theorem dX8_reads_11 : decode cX8_reads 11 = .ok (.iload_n 3, 1) := by decide +kernel
theorem dX8_reads_12 : decode cX8_reads 12 = .ok (.iload_n 1, 1) := by decide +kernel
theorem dX8_reads_13 : decode cX8_reads 13 = .ok (.if_icmp .gt 174, 3) := by decide +kernel
theorem dX8_reads_16 : decode cX8_reads 16 = .ok (.aload_n 0, 1) := by decide +kernel
theorem dX8_reads_17 : decode cX8_reads 17 = .ok (.iload_n 2, 1) := by decide +kernel
theorem dX8_reads_18 : decode cX8_reads 18 = .ok (.iload_n 1, 1) := by decide +kernel
theorem dX8_reads_19 : decode cX8_reads 19 = .ok (.invokevirtual 124, 3) := by decide +kernel
theorem dX8_reads_22 : decode cX8_reads 22 = .ok (.invokestatic 128, 3) := by decide +kernel
theorem dX8_reads_25 : decode cX8_reads 25 = .ok (.istore 4, 2) := by decide +kernel
theorem dX8_reads_27 : decode cX8_reads 27 = .ok (.iload 4, 2) := by decide +kernel
theorem dX8_reads_29 : decode cX8_reads 29 = .ok (.iconst (-1), 1) := by decide +kernel
theorem dX8_reads_30 : decode cX8_reads 30 = .ok (.if_icmp .ne 8, 3) := by decide +kernel
theorem dX8_reads_33 : decode cX8_reads 33 = .ok (.bipush 100, 2) := by decide +kernel
theorem dX8_reads_35 : decode cX8_reads 35 = .ok (.iload_n 2, 1) := by decide +kernel
theorem dX8_reads_36 : decode cX8_reads 36 = .ok (.iadd, 1) := by decide +kernel
theorem dX8_reads_37 : decode cX8_reads 37 = .ok (.ireturn, 1) := by decide +kernel
theorem dX8_reads_38 : decode cX8_reads 38 = .ok (.iinc 2 1, 3) := by decide +kernel
theorem dX8_reads_41 : decode cX8_reads 41 = .ok (.aload_n 0, 1) := by decide +kernel
theorem dX8_reads_42 : decode cX8_reads 42 = .ok (.iload_n 2, 1) := by decide +kernel
theorem dX8_reads_43 : decode cX8_reads 43 = .ok (.iload_n 1, 1) := by decide +kernel
theorem dX8_reads_44 : decode cX8_reads 44 = .ok (.invokevirtual 124, 3) := by decide +kernel
theorem dX8_reads_47 : decode cX8_reads 47 = .ok (.i2l, 1) := by decide +kernel
theorem dX8_reads_48 : decode cX8_reads 48 = .ok (.ldc2_w 132, 3) := by decide +kernel
theorem dX8_reads_51 : decode cX8_reads 51 = .ok (.ldc2_w 134, 3) := by decide +kernel
theorem dX8_reads_54 : decode cX8_reads 54 = .ok (.invokestatic 120, 3) := by decide +kernel
theorem dX8_reads_57 : decode cX8_reads 57 = .ok (.ifCond .ne 9, 3) := by decide +kernel
theorem dX8_reads_60 : decode cX8_reads 60 = .ok (.sipush 200, 3) := by decide +kernel
theorem dX8_reads_63 : decode cX8_reads 63 = .ok (.iload_n 2, 1) := by decide +kernel
theorem dX8_reads_64 : decode cX8_reads 64 = .ok (.iadd, 1) := by decide +kernel
theorem dX8_reads_65 : decode cX8_reads 65 = .ok (.ireturn, 1) := by decide +kernel
theorem dX8_reads_66 : decode cX8_reads 66 = .ok (.iload_n 2, 1) := by decide +kernel
theorem dX8_reads_67 : decode cX8_reads 67 = .ok (.istore 5, 2) := by decide +kernel
theorem dX8_reads_69 : decode cX8_reads 69 = .ok (.iconst 0, 1) := by decide +kernel
theorem dX8_reads_70 : decode cX8_reads 70 = .ok (.istore 6, 2) := by decide +kernel
theorem dX8_reads_72 : decode cX8_reads 72 = .ok (.aload_n 0, 1) := by decide +kernel
theorem dX8_reads_73 : decode cX8_reads 73 = .ok (.iload_n 2, 1) := by decide +kernel
theorem dX8_reads_74 : decode cX8_reads 74 = .ok (.iload_n 1, 1) := by decide +kernel
theorem dX8_reads_75 : decode cX8_reads 75 = .ok (.invokevirtual 124, 3) := by decide +kernel
theorem dX8_reads_78 : decode cX8_reads 78 = .ok (.i2l, 1) := by decide +kernel
theorem dX8_reads_79 : decode cX8_reads 79 = .ok (.ldc2_w 132, 3) := by decide +kernel
theorem dX8_reads_82 : decode cX8_reads 82 = .ok (.ldc2_w 134, 3) := by decide +kernel
theorem dX8_reads_85 : decode cX8_reads 85 = .ok (.invokestatic 120, 3) := by decide +kernel
theorem dX8_reads_88 : decode cX8_reads 88 = .ok (.ifCond .eq 40, 3) := by decide +kernel
theorem dX8_reads_91 : decode cX8_reads 91 = .ok (.iload_n 2, 1) := by decide +kernel
theorem dX8_reads_92 : decode cX8_reads 92 = .ok (.iload 5, 2) := by decide +kernel
theorem dX8_reads_94 : decode cX8_reads 94 = .ok (.iconst 4, 1) := by decide +kernel
theorem dX8_reads_95 : decode cX8_reads 95 = .ok (.iadd, 1) := by decide +kernel
theorem dX8_reads_96 : decode cX8_reads 96 = .ok (.if_icmp .ne 9, 3) := by decide +kernel
theorem dX8_reads_99 : decode cX8_reads 99 = .ok (.sipush 300, 3) := by decide +kernel
theorem dX8_reads_102 : decode cX8_reads 102 = .ok (.iload_n 2, 1) := by decide +kernel
theorem dX8_reads_103 : decode cX8_reads 103 = .ok (.iadd, 1) := by decide +kernel
theorem dX8_reads_104 : decode cX8_reads 104 = .ok (.ireturn, 1) := by decide +kernel
theorem dX8_reads_105 : decode cX8_reads 105 = .ok (.bipush 10, 2) := by decide +kernel
theorem dX8_reads_107 : decode cX8_reads 107 = .ok (.iload 6, 2) := by decide +kernel
theorem dX8_reads_109 : decode cX8_reads 109 = .ok (.imul, 1) := by decide +kernel
theorem dX8_reads_110 : decode cX8_reads 110 = .ok (.aload_n 0, 1) := by decide +kernel
theorem dX8_reads_111 : decode cX8_reads 111 = .ok (.iload_n 2, 1) := by decide +kernel
theorem dX8_reads_112 : decode cX8_reads 112 = .ok (.iload_n 1, 1) := by decide +kernel
theorem dX8_reads_113 : decode cX8_reads 113 = .ok (.invokevirtual 124, 3) := by decide +kernel
theorem dX8_reads_116 : decode cX8_reads 116 = .ok (.iadd, 1) := by decide +kernel
theorem dX8_reads_117 : decode cX8_reads 117 = .ok (.bipush 48, 2) := by decide +kernel
theorem dX8_reads_119 : decode cX8_reads 119 = .ok (.isub, 1) := by decide +kernel
theorem dX8_reads_120 : decode cX8_reads 120 = .ok (.istore 6, 2) := by decide +kernel
theorem dX8_reads_122 : decode cX8_reads 122 = .ok (.iinc 2 1, 3) := by decide +kernel
theorem dX8_reads_125 : decode cX8_reads 125 = .ok (.goto (-53), 3) := by decide +kernel
theorem dX8_reads_128 : decode cX8_reads 128 = .ok (.iload 4, 2) := by decide +kernel
theorem dX8_reads_130 : decode cX8_reads 130 = .ok (.iload 6, 2) := by decide +kernel
theorem dX8_reads_132 : decode cX8_reads 132 = .ok (.invokestatic 136, 3) := by decide +kernel
theorem dX8_reads_135 : decode cX8_reads 135 = .ok (.ifCond .ne 10, 3) := by decide +kernel
theorem dX8_reads_138 : decode cX8_reads 138 = .ok (.sipush 400, 3) := by decide +kernel
theorem dX8_reads_141 : decode cX8_reads 141 = .ok (.iload 5, 2) := by decide +kernel
theorem dX8_reads_143 : decode cX8_reads 143 = .ok (.iadd, 1) := by decide +kernel
theorem dX8_reads_144 : decode cX8_reads 144 = .ok (.ireturn, 1) := by decide +kernel
theorem dX8_reads_145 : decode cX8_reads 145 = .ok (.aload_n 0, 1) := by decide +kernel
theorem dX8_reads_146 : decode cX8_reads 146 = .ok (.getfield 20, 3) := by decide +kernel
theorem dX8_reads_149 : decode cX8_reads 149 = .ok (.iload 4, 2) := by decide +kernel
theorem dX8_reads_151 : decode cX8_reads 151 = .ok (.iload 6, 2) := by decide +kernel
theorem dX8_reads_153 : decode cX8_reads 153 = .ok (.iastore, 1) := by decide +kernel
theorem dX8_reads_154 : decode cX8_reads 154 = .ok (.iload_n 2, 1) := by decide +kernel
theorem dX8_reads_155 : decode cX8_reads 155 = .ok (.iload_n 1, 1) := by decide +kernel
theorem dX8_reads_156 : decode cX8_reads 156 = .ok (.if_icmp .ne 5, 3) := by decide +kernel
theorem dX8_reads_159 : decode cX8_reads 159 = .ok (.iconst 0, 1) := by decide +kernel
theorem dX8_reads_160 : decode cX8_reads 160 = .ok (.ireturn, 1) := by decide +kernel
theorem dX8_reads_161 : decode cX8_reads 161 = .ok (.aload_n 0, 1) := by decide +kernel
theorem dX8_reads_162 : decode cX8_reads 162 = .ok (.iload_n 2, 1) := by decide +kernel
theorem dX8_reads_163 : decode cX8_reads 163 = .ok (.iload_n 1, 1) := by decide +kernel
theorem dX8_reads_164 : decode cX8_reads 164 = .ok (.invokevirtual 124, 3) := by decide +kernel
theorem dX8_reads_167 : decode cX8_reads 167 = .ok (.bipush 59, 2) := by decide +kernel
theorem dX8_reads_169 : decode cX8_reads 169 = .ok (.if_icmp .eq 9, 3) := by decide +kernel
theorem dX8_reads_172 : decode cX8_reads 172 = .ok (.sipush 500, 3) := by decide +kernel
theorem dX8_reads_175 : decode cX8_reads 175 = .ok (.iload_n 2, 1) := by decide +kernel
theorem dX8_reads_176 : decode cX8_reads 176 = .ok (.iadd, 1) := by decide +kernel
theorem dX8_reads_177 : decode cX8_reads 177 = .ok (.ireturn, 1) := by decide +kernel
theorem dX8_reads_178 : decode cX8_reads 178 = .ok (.iinc 2 1, 3) := by decide +kernel
theorem dX8_reads_181 : decode cX8_reads 181 = .ok (.iinc 3 1, 3) := by decide +kernel
theorem dX8_reads_184 : decode cX8_reads 184 = .ok (.goto (-173), 3) := by decide +kernel
theorem dX8_reads_187 : decode cX8_reads 187 = .ok (.bipush 100, 2) := by decide +kernel
theorem dX8_reads_189 : decode cX8_reads 189 = .ok (.iload_n 2, 1) := by decide +kernel
theorem dX8_reads_190 : decode cX8_reads 190 = .ok (.iadd, 1) := by decide +kernel
theorem dX8_reads_191 : decode cX8_reads 191 = .ok (.ireturn, 1) := by decide +kernel
theorem dX8_edict_0 : decode cX8_edict 0 = .ok (.iload_n 1, 1) := by decide +kernel
theorem dX8_edict_1 : decode cX8_edict 1 = .ok (.ifCond .lt 11, 3) := by decide +kernel
theorem dX8_edict_4 : decode cX8_edict 4 = .ok (.iload_n 1, 1) := by decide +kernel
theorem dX8_edict_5 : decode cX8_edict 5 = .ok (.aload_n 0, 1) := by decide +kernel
theorem dX8_edict_6 : decode cX8_edict 6 = .ok (.getfield 110, 3) := by decide +kernel
theorem dX8_edict_9 : decode cX8_edict 9 = .ok (.if_icmp .le 5, 3) := by decide +kernel
theorem dX8_edict_12 : decode cX8_edict 12 = .ok (.iconst (-1), 1) := by decide +kernel
theorem dX8_edict_13 : decode cX8_edict 13 = .ok (.ireturn, 1) := by decide +kernel
theorem dX8_edict_14 : decode cX8_edict 14 = .ok (.aload_n 0, 1) := by decide +kernel
theorem dX8_edict_15 : decode cX8_edict 15 = .ok (.iconst 0, 1) := by decide +kernel
theorem dX8_edict_16 : decode cX8_edict 16 = .ok (.putfield 110, 3) := by decide +kernel
theorem dX8_edict_19 : decode cX8_edict 19 = .ok (.aload_n 0, 1) := by decide +kernel
theorem dX8_edict_20 : decode cX8_edict 20 = .ok (.iload_n 1, 1) := by decide +kernel
theorem dX8_edict_21 : decode cX8_edict 21 = .ok (.invokevirtual 140, 3) := by decide +kernel
theorem dX8_edict_24 : decode cX8_edict 24 = .ok (.istore_n 2, 1) := by decide +kernel
theorem dX8_edict_25 : decode cX8_edict 25 = .ok (.iconst 0, 1) := by decide +kernel
theorem dX8_edict_26 : decode cX8_edict 26 = .ok (.istore_n 3, 1) := by decide +kernel
theorem dX8_edict_27 : decode cX8_edict 27 = .ok (.iload_n 3, 1) := by decide +kernel
theorem dX8_edict_28 : decode cX8_edict 28 = .ok (.bipush 8, 2) := by decide +kernel
theorem dX8_edict_30 : decode cX8_edict 30 = .ok (.if_icmp .ge 25, 3) := by decide +kernel
theorem dX8_edict_33 : decode cX8_edict 33 = .ok (.iload_n 2, 1) := by decide +kernel
theorem dX8_edict_34 : decode cX8_edict 34 = .ok (.ifCond .ne 21, 3) := by decide +kernel
theorem dX8_edict_37 : decode cX8_edict 37 = .ok (.aload_n 0, 1) := by decide +kernel
theorem dX8_edict_38 : decode cX8_edict 38 = .ok (.getfield 17, 3) := by decide +kernel
theorem dX8_edict_41 : decode cX8_edict 41 = .ok (.iload_n 3, 1) := by decide +kernel
theorem dX8_edict_42 : decode cX8_edict 42 = .ok (.aload_n 0, 1) := by decide +kernel
theorem dX8_edict_43 : decode cX8_edict 43 = .ok (.getfield 20, 3) := by decide +kernel
theorem dX8_edict_46 : decode cX8_edict 46 = .ok (.iload_n 3, 1) := by decide +kernel
theorem dX8_edict_47 : decode cX8_edict 47 = .ok (.iaload, 1) := by decide +kernel
theorem dX8_edict_48 : decode cX8_edict 48 = .ok (.iastore, 1) := by decide +kernel
theorem dX8_edict_49 : decode cX8_edict 49 = .ok (.iinc 3 1, 3) := by decide +kernel
theorem dX8_edict_52 : decode cX8_edict 52 = .ok (.goto (-25), 3) := by decide +kernel
theorem dX8_edict_55 : decode cX8_edict 55 = .ok (.iload_n 2, 1) := by decide +kernel
theorem dX8_edict_56 : decode cX8_edict 56 = .ok (.ireturn, 1) := by decide +kernel
theorem dX8_rule_0 : decode cX8_rule 0 = .ok (.iload_n 1, 1) := by decide +kernel
theorem dX8_rule_1 : decode cX8_rule 1 = .ok (.invokestatic 128, 3) := by decide +kernel
theorem dX8_rule_4 : decode cX8_rule 4 = .ok (.iconst (-1), 1) := by decide +kernel
theorem dX8_rule_5 : decode cX8_rule 5 = .ok (.if_icmp .ne 7, 3) := by decide +kernel
theorem dX8_rule_8 : decode cX8_rule 8 = .ok (.iconst (-1), 1) := by decide +kernel
theorem dX8_rule_9 : decode cX8_rule 9 = .ok (.goto 12, 3) := by decide +kernel
theorem dX8_rule_12 : decode cX8_rule 12 = .ok (.aload_n 0, 1) := by decide +kernel
theorem dX8_rule_13 : decode cX8_rule 13 = .ok (.getfield 17, 3) := by decide +kernel
theorem dX8_rule_16 : decode cX8_rule 16 = .ok (.iload_n 1, 1) := by decide +kernel
theorem dX8_rule_17 : decode cX8_rule 17 = .ok (.invokestatic 128, 3) := by decide +kernel
theorem dX8_rule_20 : decode cX8_rule 20 = .ok (.iaload, 1) := by decide +kernel
theorem dX8_rule_21 : decode cX8_rule 21 = .ok (.ireturn, 1) := by decide +kernel
theorem dX8_town_0 : decode cX8_town 0 = .ok (.aload_n 0, 1) := by decide +kernel
theorem dX8_town_1 : decode cX8_town 1 = .ok (.getfield 143, 3) := by decide +kernel
theorem dX8_town_4 : decode cX8_town 4 = .ok (.bipush 8, 2) := by decide +kernel
theorem dX8_town_6 : decode cX8_town 6 = .ok (.if_icmp .eq 39, 3) := by decide +kernel
theorem dX8_town_9 : decode cX8_town 9 = .ok (.iload_n 1, 1) := by decide +kernel
theorem dX8_town_10 : decode cX8_town 10 = .ok (.i2l, 1) := by decide +kernel
theorem dX8_town_11 : decode cX8_town 11 = .ok (.lconst 1, 1) := by decide +kernel
theorem dX8_town_12 : decode cX8_town 12 = .ok (.ldc2_w 146, 3) := by decide +kernel
theorem dX8_town_15 : decode cX8_town 15 = .ok (.invokestatic 120, 3) := by decide +kernel
theorem dX8_town_18 : decode cX8_town 18 = .ok (.ifCond .eq 27, 3) := by decide +kernel
theorem dX8_town_21 : decode cX8_town 21 = .ok (.iload_n 2, 1) := by decide +kernel
theorem dX8_town_22 : decode cX8_town 22 = .ok (.i2l, 1) := by decide +kernel
theorem dX8_town_23 : decode cX8_town 23 = .ok (.lconst 0, 1) := by decide +kernel
theorem dX8_town_24 : decode cX8_town 24 = .ok (.ldc2_w 148, 3) := by decide +kernel
theorem dX8_town_27 : decode cX8_town 27 = .ok (.invokestatic 120, 3) := by decide +kernel
theorem dX8_town_30 : decode cX8_town 30 = .ok (.ifCond .eq 15, 3) := by decide +kernel
theorem dX8_town_33 : decode cX8_town 33 = .ok (.iload_n 3, 1) := by decide +kernel
theorem dX8_town_34 : decode cX8_town 34 = .ok (.i2l, 1) := by decide +kernel
theorem dX8_town_35 : decode cX8_town 35 = .ok (.lconst 0, 1) := by decide +kernel
theorem dX8_town_36 : decode cX8_town 36 = .ok (.ldc2_w 150, 3) := by decide +kernel
theorem dX8_town_39 : decode cX8_town 39 = .ok (.invokestatic 120, 3) := by decide +kernel
theorem dX8_town_42 : decode cX8_town 42 = .ok (.ifCond .ne 5, 3) := by decide +kernel
theorem dX8_town_45 : decode cX8_town 45 = .ok (.iconst (-1), 1) := by decide +kernel
theorem dX8_town_46 : decode cX8_town 46 = .ok (.ireturn, 1) := by decide +kernel
theorem dX8_town_47 : decode cX8_town 47 = .ok (.aload_n 0, 1) := by decide +kernel
theorem dX8_town_48 : decode cX8_town 48 = .ok (.getfield 23, 3) := by decide +kernel
theorem dX8_town_51 : decode cX8_town 51 = .ok (.aload_n 0, 1) := by decide +kernel
theorem dX8_town_52 : decode cX8_town 52 = .ok (.getfield 143, 3) := by decide +kernel
theorem dX8_town_55 : decode cX8_town 55 = .ok (.iload_n 1, 1) := by decide +kernel
theorem dX8_town_56 : decode cX8_town 56 = .ok (.iastore, 1) := by decide +kernel
theorem dX8_town_57 : decode cX8_town 57 = .ok (.aload_n 0, 1) := by decide +kernel
theorem dX8_town_58 : decode cX8_town 58 = .ok (.getfield 66, 3) := by decide +kernel
theorem dX8_town_61 : decode cX8_town 61 = .ok (.aload_n 0, 1) := by decide +kernel
theorem dX8_town_62 : decode cX8_town 62 = .ok (.getfield 143, 3) := by decide +kernel
theorem dX8_town_65 : decode cX8_town 65 = .ok (.iload_n 2, 1) := by decide +kernel
theorem dX8_town_66 : decode cX8_town 66 = .ok (.i2l, 1) := by decide +kernel
theorem dX8_town_67 : decode cX8_town 67 = .ok (.lastore, 1) := by decide +kernel
theorem dX8_town_68 : decode cX8_town 68 = .ok (.aload_n 0, 1) := by decide +kernel
theorem dX8_town_69 : decode cX8_town 69 = .ok (.getfield 26, 3) := by decide +kernel
theorem dX8_town_72 : decode cX8_town 72 = .ok (.aload_n 0, 1) := by decide +kernel
theorem dX8_town_73 : decode cX8_town 73 = .ok (.getfield 143, 3) := by decide +kernel
theorem dX8_town_76 : decode cX8_town 76 = .ok (.iload_n 3, 1) := by decide +kernel
theorem dX8_town_77 : decode cX8_town 77 = .ok (.iastore, 1) := by decide +kernel
theorem dX8_town_78 : decode cX8_town 78 = .ok (.aload_n 0, 1) := by decide +kernel
theorem dX8_town_79 : decode cX8_town 79 = .ok (.getfield 29, 3) := by decide +kernel
theorem dX8_town_82 : decode cX8_town 82 = .ok (.aload_n 0, 1) := by decide +kernel
theorem dX8_town_83 : decode cX8_town 83 = .ok (.getfield 143, 3) := by decide +kernel
theorem dX8_town_86 : decode cX8_town 86 = .ok (.iconst (-1), 1) := by decide +kernel
theorem dX8_town_87 : decode cX8_town 87 = .ok (.iastore, 1) := by decide +kernel
theorem dX8_town_88 : decode cX8_town 88 = .ok (.aload_n 0, 1) := by decide +kernel
theorem dX8_town_89 : decode cX8_town 89 = .ok (.dup, 1) := by decide +kernel
theorem dX8_town_90 : decode cX8_town 90 = .ok (.getfield 143, 3) := by decide +kernel
theorem dX8_town_93 : decode cX8_town 93 = .ok (.iconst 1, 1) := by decide +kernel
theorem dX8_town_94 : decode cX8_town 94 = .ok (.iadd, 1) := by decide +kernel
theorem dX8_town_95 : decode cX8_town 95 = .ok (.putfield 143, 3) := by decide +kernel
theorem dX8_town_98 : decode cX8_town 98 = .ok (.aload_n 0, 1) := by decide +kernel
theorem dX8_town_99 : decode cX8_town 99 = .ok (.getfield 143, 3) := by decide +kernel
theorem dX8_town_102 : decode cX8_town 102 = .ok (.iconst 1, 1) := by decide +kernel
theorem dX8_town_103 : decode cX8_town 103 = .ok (.isub, 1) := by decide +kernel
theorem dX8_town_104 : decode cX8_town 104 = .ok (.ireturn, 1) := by decide +kernel
theorem dX8_isTown_0 : decode cX8_isTown 0 = .ok (.iload_n 1, 1) := by decide +kernel
theorem dX8_isTown_1 : decode cX8_isTown 1 = .ok (.i2l, 1) := by decide +kernel
theorem dX8_isTown_2 : decode cX8_isTown 2 = .ok (.lconst 0, 1) := by decide +kernel
theorem dX8_isTown_3 : decode cX8_isTown 3 = .ok (.aload_n 0, 1) := by decide +kernel
theorem dX8_isTown_4 : decode cX8_isTown 4 = .ok (.getfield 143, 3) := by decide +kernel
theorem dX8_isTown_7 : decode cX8_isTown 7 = .ok (.iconst 1, 1) := by decide +kernel
theorem dX8_isTown_8 : decode cX8_isTown 8 = .ok (.isub, 1) := by decide +kernel
theorem dX8_isTown_9 : decode cX8_isTown 9 = .ok (.i2l, 1) := by decide +kernel
theorem dX8_isTown_10 : decode cX8_isTown 10 = .ok (.invokestatic 120, 3) := by decide +kernel
theorem dX8_isTown_13 : decode cX8_isTown 13 = .ok (.ireturn, 1) := by decide +kernel
theorem dX8_road_0 : decode cX8_road 0 = .ok (.aload_n 0, 1) := by decide +kernel
theorem dX8_road_1 : decode cX8_road 1 = .ok (.getfield 152, 3) := by decide +kernel
theorem dX8_road_4 : decode cX8_road 4 = .ok (.bipush 12, 2) := by decide +kernel
theorem dX8_road_6 : decode cX8_road 6 = .ok (.if_icmp .eq 49, 3) := by decide +kernel
theorem dX8_road_9 : decode cX8_road 9 = .ok (.aload_n 0, 1) := by decide +kernel
theorem dX8_road_10 : decode cX8_road 10 = .ok (.iload_n 1, 1) := by decide +kernel
theorem dX8_road_11 : decode cX8_road 11 = .ok (.invokevirtual 155, 3) := by decide +kernel
theorem dX8_road_14 : decode cX8_road 14 = .ok (.ifCond .eq 41, 3) := by decide +kernel
theorem dX8_road_17 : decode cX8_road 17 = .ok (.aload_n 0, 1) := by decide +kernel
theorem dX8_road_18 : decode cX8_road 18 = .ok (.iload_n 2, 1) := by decide +kernel
theorem dX8_road_19 : decode cX8_road 19 = .ok (.invokevirtual 155, 3) := by decide +kernel
theorem dX8_road_22 : decode cX8_road 22 = .ok (.ifCond .eq 33, 3) := by decide +kernel
theorem dX8_road_25 : decode cX8_road 25 = .ok (.iload_n 1, 1) := by decide +kernel
theorem dX8_road_26 : decode cX8_road 26 = .ok (.iload_n 2, 1) := by decide +kernel
theorem dX8_road_27 : decode cX8_road 27 = .ok (.if_icmp .eq 28, 3) := by decide +kernel
theorem dX8_road_30 : decode cX8_road 30 = .ok (.iload_n 3, 1) := by decide +kernel
theorem dX8_road_31 : decode cX8_road 31 = .ok (.i2l, 1) := by decide +kernel
theorem dX8_road_32 : decode cX8_road 32 = .ok (.lconst 1, 1) := by decide +kernel
theorem dX8_road_33 : decode cX8_road 33 = .ok (.ldc2_w 159, 3) := by decide +kernel
theorem dX8_road_36 : decode cX8_road 36 = .ok (.invokestatic 120, 3) := by decide +kernel
theorem dX8_road_39 : decode cX8_road 39 = .ok (.ifCond .eq 16, 3) := by decide +kernel
theorem dX8_road_42 : decode cX8_road 42 = .ok (.iload 4, 2) := by decide +kernel
theorem dX8_road_44 : decode cX8_road 44 = .ok (.i2l, 1) := by decide +kernel
theorem dX8_road_45 : decode cX8_road 45 = .ok (.lconst 1, 1) := by decide +kernel
theorem dX8_road_46 : decode cX8_road 46 = .ok (.ldc2_w 161, 3) := by decide +kernel
theorem dX8_road_49 : decode cX8_road 49 = .ok (.invokestatic 120, 3) := by decide +kernel
theorem dX8_road_52 : decode cX8_road 52 = .ok (.ifCond .ne 5, 3) := by decide +kernel
theorem dX8_road_55 : decode cX8_road 55 = .ok (.iconst (-1), 1) := by decide +kernel
theorem dX8_road_56 : decode cX8_road 56 = .ok (.ireturn, 1) := by decide +kernel
theorem dX8_road_57 : decode cX8_road 57 = .ok (.aload_n 0, 1) := by decide +kernel
theorem dX8_road_58 : decode cX8_road 58 = .ok (.getfield 32, 3) := by decide +kernel
theorem dX8_road_61 : decode cX8_road 61 = .ok (.aload_n 0, 1) := by decide +kernel
theorem dX8_road_62 : decode cX8_road 62 = .ok (.getfield 152, 3) := by decide +kernel
theorem dX8_road_65 : decode cX8_road 65 = .ok (.iload_n 1, 1) := by decide +kernel
theorem dX8_road_66 : decode cX8_road 66 = .ok (.iastore, 1) := by decide +kernel
theorem dX8_road_67 : decode cX8_road 67 = .ok (.aload_n 0, 1) := by decide +kernel
theorem dX8_road_68 : decode cX8_road 68 = .ok (.getfield 35, 3) := by decide +kernel
theorem dX8_road_71 : decode cX8_road 71 = .ok (.aload_n 0, 1) := by decide +kernel
theorem dX8_road_72 : decode cX8_road 72 = .ok (.getfield 152, 3) := by decide +kernel
theorem dX8_road_75 : decode cX8_road 75 = .ok (.iload_n 2, 1) := by decide +kernel
theorem dX8_road_76 : decode cX8_road 76 = .ok (.iastore, 1) := by decide +kernel
theorem dX8_road_77 : decode cX8_road 77 = .ok (.aload_n 0, 1) := by decide +kernel
theorem dX8_road_78 : decode cX8_road 78 = .ok (.getfield 38, 3) := by decide +kernel
theorem dX8_road_81 : decode cX8_road 81 = .ok (.aload_n 0, 1) := by decide +kernel
theorem dX8_road_82 : decode cX8_road 82 = .ok (.getfield 152, 3) := by decide +kernel
theorem dX8_road_85 : decode cX8_road 85 = .ok (.iload_n 3, 1) := by decide +kernel
theorem dX8_road_86 : decode cX8_road 86 = .ok (.iastore, 1) := by decide +kernel
theorem dX8_road_87 : decode cX8_road 87 = .ok (.aload_n 0, 1) := by decide +kernel
theorem dX8_road_88 : decode cX8_road 88 = .ok (.getfield 41, 3) := by decide +kernel
theorem dX8_road_91 : decode cX8_road 91 = .ok (.aload_n 0, 1) := by decide +kernel
theorem dX8_road_92 : decode cX8_road 92 = .ok (.getfield 152, 3) := by decide +kernel
theorem dX8_road_95 : decode cX8_road 95 = .ok (.iload 4, 2) := by decide +kernel
theorem dX8_road_97 : decode cX8_road 97 = .ok (.iastore, 1) := by decide +kernel
theorem dX8_road_98 : decode cX8_road 98 = .ok (.aload_n 0, 1) := by decide +kernel
theorem dX8_road_99 : decode cX8_road 99 = .ok (.dup, 1) := by decide +kernel
theorem dX8_road_100 : decode cX8_road 100 = .ok (.getfield 152, 3) := by decide +kernel
theorem dX8_road_103 : decode cX8_road 103 = .ok (.iconst 1, 1) := by decide +kernel
theorem dX8_road_104 : decode cX8_road 104 = .ok (.iadd, 1) := by decide +kernel
theorem dX8_road_105 : decode cX8_road 105 = .ok (.putfield 152, 3) := by decide +kernel
theorem dX8_road_108 : decode cX8_road 108 = .ok (.aload_n 0, 1) := by decide +kernel
theorem dX8_road_109 : decode cX8_road 109 = .ok (.getfield 152, 3) := by decide +kernel
theorem dX8_road_112 : decode cX8_road 112 = .ok (.iconst 1, 1) := by decide +kernel
theorem dX8_road_113 : decode cX8_road 113 = .ok (.isub, 1) := by decide +kernel
theorem dX8_road_114 : decode cX8_road 114 = .ok (.ireturn, 1) := by decide +kernel
theorem dX8_coin_0 : decode cX8_coin 0 = .ok (.lload_n 1, 1) := by decide +kernel
theorem dX8_coin_1 : decode cX8_coin 1 = .ok (.lconst 0, 1) := by decide +kernel
theorem dX8_coin_2 : decode cX8_coin 2 = .ok (.ldc2_w 163, 3) := by decide +kernel
theorem dX8_coin_5 : decode cX8_coin 5 = .ok (.invokestatic 120, 3) := by decide +kernel
theorem dX8_coin_8 : decode cX8_coin 8 = .ok (.ifCond .ne 5, 3) := by decide +kernel
theorem dX8_coin_11 : decode cX8_coin 11 = .ok (.iconst 0, 1) := by decide +kernel
theorem dX8_coin_12 : decode cX8_coin 12 = .ok (.ireturn, 1) := by decide +kernel
theorem dX8_coin_13 : decode cX8_coin 13 = .ok (.aload_n 0, 1) := by decide +kernel
theorem dX8_coin_14 : decode cX8_coin 14 = .ok (.getfield 50, 3) := by decide +kernel
theorem dX8_coin_17 : decode cX8_coin 17 = .ok (.iconst 0, 1) := by decide +kernel
theorem dX8_coin_18 : decode cX8_coin 18 = .ok (.lload_n 1, 1) := by decide +kernel
theorem dX8_coin_19 : decode cX8_coin 19 = .ok (.lastore, 1) := by decide +kernel
theorem dX8_coin_20 : decode cX8_coin 20 = .ok (.iconst 1, 1) := by decide +kernel
theorem dX8_coin_21 : decode cX8_coin 21 = .ok (.ireturn, 1) := by decide +kernel
theorem dX8_harvest_0 : decode cX8_harvest 0 = .ok (.aload_n 0, 1) := by decide +kernel
theorem dX8_harvest_1 : decode cX8_harvest 1 = .ok (.iload_n 1, 1) := by decide +kernel
theorem dX8_harvest_2 : decode cX8_harvest 2 = .ok (.invokevirtual 155, 3) := by decide +kernel
theorem dX8_harvest_5 : decode cX8_harvest 5 = .ok (.ifCond .eq 15, 3) := by decide +kernel
theorem dX8_harvest_8 : decode cX8_harvest 8 = .ok (.iload_n 2, 1) := by decide +kernel
theorem dX8_harvest_9 : decode cX8_harvest 9 = .ok (.i2l, 1) := by decide +kernel
theorem dX8_harvest_10 : decode cX8_harvest 10 = .ok (.lconst 0, 1) := by decide +kernel
theorem dX8_harvest_11 : decode cX8_harvest 11 = .ok (.ldc2_w 148, 3) := by decide +kernel
theorem dX8_harvest_14 : decode cX8_harvest 14 = .ok (.invokestatic 120, 3) := by decide +kernel
theorem dX8_harvest_17 : decode cX8_harvest 17 = .ok (.ifCond .ne 5, 3) := by decide +kernel
theorem dX8_harvest_20 : decode cX8_harvest 20 = .ok (.iconst 0, 1) := by decide +kernel
theorem dX8_harvest_21 : decode cX8_harvest 21 = .ok (.ireturn, 1) := by decide +kernel
theorem dX8_harvest_22 : decode cX8_harvest 22 = .ok (.aload_n 0, 1) := by decide +kernel
theorem dX8_harvest_23 : decode cX8_harvest 23 = .ok (.getfield 29, 3) := by decide +kernel
theorem dX8_harvest_26 : decode cX8_harvest 26 = .ok (.iload_n 1, 1) := by decide +kernel
theorem dX8_harvest_27 : decode cX8_harvest 27 = .ok (.iload_n 2, 1) := by decide +kernel
theorem dX8_harvest_28 : decode cX8_harvest 28 = .ok (.iastore, 1) := by decide +kernel
theorem dX8_harvest_29 : decode cX8_harvest 29 = .ok (.iconst 1, 1) := by decide +kernel
theorem dX8_harvest_30 : decode cX8_harvest 30 = .ok (.ireturn, 1) := by decide +kernel
theorem dX8_trueIn_0 : decode cX8_trueIn 0 = .ok (.lconst 0, 1) := by decide +kernel
theorem dX8_trueIn_1 : decode cX8_trueIn 1 = .ok (.lstore_n 2, 1) := by decide +kernel
theorem dX8_trueIn_2 : decode cX8_trueIn 2 = .ok (.iconst 0, 1) := by decide +kernel
theorem dX8_trueIn_3 : decode cX8_trueIn 3 = .ok (.istore 4, 2) := by decide +kernel
theorem dX8_trueIn_5 : decode cX8_trueIn 5 = .ok (.iload 4, 2) := by decide +kernel
theorem dX8_trueIn_7 : decode cX8_trueIn 7 = .ok (.aload_n 0, 1) := by decide +kernel
theorem dX8_trueIn_8 : decode cX8_trueIn 8 = .ok (.getfield 69, 3) := by decide +kernel
theorem dX8_trueIn_11 : decode cX8_trueIn 11 = .ok (.iload_n 1, 1) := by decide +kernel
theorem dX8_trueIn_12 : decode cX8_trueIn 12 = .ok (.iaload, 1) := by decide +kernel
theorem dX8_trueIn_13 : decode cX8_trueIn 13 = .ok (.if_icmp .ge 25, 3) := by decide +kernel
theorem dX8_trueIn_16 : decode cX8_trueIn 16 = .ok (.lload_n 2, 1) := by decide +kernel
theorem dX8_trueIn_17 : decode cX8_trueIn 17 = .ok (.aload_n 0, 1) := by decide +kernel
theorem dX8_trueIn_18 : decode cX8_trueIn 18 = .ok (.getfield 99, 3) := by decide +kernel
theorem dX8_trueIn_21 : decode cX8_trueIn 21 = .ok (.bipush 40, 2) := by decide +kernel
theorem dX8_trueIn_23 : decode cX8_trueIn 23 = .ok (.iload_n 1, 1) := by decide +kernel
theorem dX8_trueIn_24 : decode cX8_trueIn 24 = .ok (.imul, 1) := by decide +kernel
theorem dX8_trueIn_25 : decode cX8_trueIn 25 = .ok (.iload 4, 2) := by decide +kernel
theorem dX8_trueIn_27 : decode cX8_trueIn 27 = .ok (.iadd, 1) := by decide +kernel
theorem dX8_trueIn_28 : decode cX8_trueIn 28 = .ok (.iaload, 1) := by decide +kernel
theorem dX8_trueIn_29 : decode cX8_trueIn 29 = .ok (.i2l, 1) := by decide +kernel
theorem dX8_trueIn_30 : decode cX8_trueIn 30 = .ok (.ladd, 1) := by decide +kernel
theorem dX8_trueIn_31 : decode cX8_trueIn 31 = .ok (.lstore_n 2, 1) := by decide +kernel
theorem dX8_trueIn_32 : decode cX8_trueIn 32 = .ok (.iinc 4 1, 3) := by decide +kernel
theorem dX8_trueIn_35 : decode cX8_trueIn 35 = .ok (.goto (-30), 3) := by decide +kernel
theorem dX8_trueIn_38 : decode cX8_trueIn 38 = .ok (.lload_n 2, 1) := by decide +kernel
theorem dX8_trueIn_39 : decode cX8_trueIn 39 = .ok (.lreturn, 1) := by decide +kernel
theorem dX8_bookIn_0 : decode cX8_bookIn 0 = .ok (.lconst 0, 1) := by decide +kernel
theorem dX8_bookIn_1 : decode cX8_bookIn 1 = .ok (.lstore_n 3, 1) := by decide +kernel
theorem dX8_bookIn_2 : decode cX8_bookIn 2 = .ok (.iconst 0, 1) := by decide +kernel
theorem dX8_bookIn_3 : decode cX8_bookIn 3 = .ok (.istore 5, 2) := by decide +kernel
theorem dX8_bookIn_5 : decode cX8_bookIn 5 = .ok (.iload 5, 2) := by decide +kernel
theorem dX8_bookIn_7 : decode cX8_bookIn 7 = .ok (.aload_n 0, 1) := by decide +kernel
theorem dX8_bookIn_8 : decode cX8_bookIn 8 = .ok (.getfield 69, 3) := by decide +kernel
theorem dX8_bookIn_11 : decode cX8_bookIn 11 = .ok (.iload_n 1, 1) := by decide +kernel
theorem dX8_bookIn_12 : decode cX8_bookIn 12 = .ok (.iaload, 1) := by decide +kernel
theorem dX8_bookIn_13 : decode cX8_bookIn 13 = .ok (.if_icmp .ge 48, 3) := by decide +kernel
theorem dX8_bookIn_16 : decode cX8_bookIn 16 = .ok (.lload_n 3, 1) := by decide +kernel
theorem dX8_bookIn_17 : decode cX8_bookIn 17 = .ok (.iload_n 2, 1) := by decide +kernel
theorem dX8_bookIn_18 : decode cX8_bookIn 18 = .ok (.ifCond .ne 18, 3) := by decide +kernel
theorem dX8_bookIn_21 : decode cX8_bookIn 21 = .ok (.aload_n 0, 1) := by decide +kernel
theorem dX8_bookIn_22 : decode cX8_bookIn 22 = .ok (.getfield 102, 3) := by decide +kernel
theorem dX8_bookIn_25 : decode cX8_bookIn 25 = .ok (.bipush 40, 2) := by decide +kernel
theorem dX8_bookIn_27 : decode cX8_bookIn 27 = .ok (.iload_n 1, 1) := by decide +kernel
theorem dX8_bookIn_28 : decode cX8_bookIn 28 = .ok (.imul, 1) := by decide +kernel
theorem dX8_bookIn_29 : decode cX8_bookIn 29 = .ok (.iload 5, 2) := by decide +kernel
theorem dX8_bookIn_31 : decode cX8_bookIn 31 = .ok (.iadd, 1) := by decide +kernel
theorem dX8_bookIn_32 : decode cX8_bookIn 32 = .ok (.baload, 1) := by decide +kernel
theorem dX8_bookIn_33 : decode cX8_bookIn 33 = .ok (.ifCond .ne 19, 3) := by decide +kernel
theorem dX8_bookIn_36 : decode cX8_bookIn 36 = .ok (.aload_n 0, 1) := by decide +kernel
theorem dX8_bookIn_37 : decode cX8_bookIn 37 = .ok (.getfield 96, 3) := by decide +kernel
theorem dX8_bookIn_40 : decode cX8_bookIn 40 = .ok (.bipush 40, 2) := by decide +kernel
theorem dX8_bookIn_42 : decode cX8_bookIn 42 = .ok (.iload_n 1, 1) := by decide +kernel
theorem dX8_bookIn_43 : decode cX8_bookIn 43 = .ok (.imul, 1) := by decide +kernel
theorem dX8_bookIn_44 : decode cX8_bookIn 44 = .ok (.iload 5, 2) := by decide +kernel
theorem dX8_bookIn_46 : decode cX8_bookIn 46 = .ok (.iadd, 1) := by decide +kernel
theorem dX8_bookIn_47 : decode cX8_bookIn 47 = .ok (.iaload, 1) := by decide +kernel
theorem dX8_bookIn_48 : decode cX8_bookIn 48 = .ok (.i2l, 1) := by decide +kernel
theorem dX8_bookIn_49 : decode cX8_bookIn 49 = .ok (.goto 4, 3) := by decide +kernel
theorem dX8_bookIn_52 : decode cX8_bookIn 52 = .ok (.lconst 0, 1) := by decide +kernel
theorem dX8_bookIn_53 : decode cX8_bookIn 53 = .ok (.ladd, 1) := by decide +kernel
theorem dX8_bookIn_54 : decode cX8_bookIn 54 = .ok (.lstore_n 3, 1) := by decide +kernel
theorem dX8_bookIn_55 : decode cX8_bookIn 55 = .ok (.iinc 5 1, 3) := by decide +kernel
theorem dX8_bookIn_58 : decode cX8_bookIn 58 = .ok (.goto (-53), 3) := by decide +kernel
theorem dX8_bookIn_61 : decode cX8_bookIn 61 = .ok (.lload_n 3, 1) := by decide +kernel
theorem dX8_bookIn_62 : decode cX8_bookIn 62 = .ok (.lreturn, 1) := by decide +kernel
theorem dX8_goes_0 : decode cX8_goes 0 = .ok (.aload_n 0, 1) := by decide +kernel
theorem dX8_goes_1 : decode cX8_goes 1 = .ok (.getfield 72, 3) := by decide +kernel
theorem dX8_goes_4 : decode cX8_goes 4 = .ok (.iload_n 1, 1) := by decide +kernel
theorem dX8_goes_5 : decode cX8_goes 5 = .ok (.dup2, 1) := by decide +kernel
theorem dX8_goes_6 : decode cX8_goes 6 = .ok (.laload, 1) := by decide +kernel
theorem dX8_goes_7 : decode cX8_goes 7 = .ok (.aload_n 0, 1) := by decide +kernel
theorem dX8_goes_8 : decode cX8_goes 8 = .ok (.getfield 96, 3) := by decide +kernel
theorem dX8_goes_11 : decode cX8_goes 11 = .ok (.bipush 40, 2) := by decide +kernel
theorem dX8_goes_13 : decode cX8_goes 13 = .ok (.iload_n 1, 1) := by decide +kernel
theorem dX8_goes_14 : decode cX8_goes 14 = .ok (.imul, 1) := by decide +kernel
theorem dX8_goes_15 : decode cX8_goes 15 = .ok (.iload_n 2, 1) := by decide +kernel
theorem dX8_goes_16 : decode cX8_goes 16 = .ok (.iadd, 1) := by decide +kernel
theorem dX8_goes_17 : decode cX8_goes 17 = .ok (.iaload, 1) := by decide +kernel
theorem dX8_goes_18 : decode cX8_goes 18 = .ok (.i2l, 1) := by decide +kernel
theorem dX8_goes_19 : decode cX8_goes 19 = .ok (.ladd, 1) := by decide +kernel
theorem dX8_goes_20 : decode cX8_goes 20 = .ok (.lastore, 1) := by decide +kernel
theorem dX8_goes_21 : decode cX8_goes 21 = .ok (.aload_n 0, 1) := by decide +kernel
theorem dX8_goes_22 : decode cX8_goes 22 = .ok (.getfield 69, 3) := by decide +kernel
theorem dX8_goes_25 : decode cX8_goes 25 = .ok (.iload_n 1, 1) := by decide +kernel
theorem dX8_goes_26 : decode cX8_goes 26 = .ok (.dup2, 1) := by decide +kernel
theorem dX8_goes_27 : decode cX8_goes 27 = .ok (.iaload, 1) := by decide +kernel
theorem dX8_goes_28 : decode cX8_goes 28 = .ok (.iconst 1, 1) := by decide +kernel
theorem dX8_goes_29 : decode cX8_goes 29 = .ok (.isub, 1) := by decide +kernel
theorem dX8_goes_30 : decode cX8_goes 30 = .ok (.iastore, 1) := by decide +kernel
theorem dX8_goes_31 : decode cX8_goes 31 = .ok (.bipush 40, 2) := by decide +kernel
theorem dX8_goes_33 : decode cX8_goes 33 = .ok (.iload_n 1, 1) := by decide +kernel
theorem dX8_goes_34 : decode cX8_goes 34 = .ok (.imul, 1) := by decide +kernel
theorem dX8_goes_35 : decode cX8_goes 35 = .ok (.iload_n 2, 1) := by decide +kernel
theorem dX8_goes_36 : decode cX8_goes 36 = .ok (.iadd, 1) := by decide +kernel
theorem dX8_goes_37 : decode cX8_goes 37 = .ok (.istore_n 3, 1) := by decide +kernel
theorem dX8_goes_38 : decode cX8_goes 38 = .ok (.iload_n 3, 1) := by decide +kernel
theorem dX8_goes_39 : decode cX8_goes 39 = .ok (.bipush 40, 2) := by decide +kernel
theorem dX8_goes_41 : decode cX8_goes 41 = .ok (.iload_n 1, 1) := by decide +kernel
theorem dX8_goes_42 : decode cX8_goes 42 = .ok (.imul, 1) := by decide +kernel
theorem dX8_goes_43 : decode cX8_goes 43 = .ok (.aload_n 0, 1) := by decide +kernel
theorem dX8_goes_44 : decode cX8_goes 44 = .ok (.getfield 69, 3) := by decide +kernel
theorem dX8_goes_47 : decode cX8_goes 47 = .ok (.iload_n 1, 1) := by decide +kernel
theorem dX8_goes_48 : decode cX8_goes 48 = .ok (.iaload, 1) := by decide +kernel
theorem dX8_goes_49 : decode cX8_goes 49 = .ok (.iadd, 1) := by decide +kernel
theorem dX8_goes_50 : decode cX8_goes 50 = .ok (.if_icmp .ge 65, 3) := by decide +kernel
theorem dX8_goes_53 : decode cX8_goes 53 = .ok (.aload_n 0, 1) := by decide +kernel
theorem dX8_goes_54 : decode cX8_goes 54 = .ok (.getfield 93, 3) := by decide +kernel
theorem dX8_goes_57 : decode cX8_goes 57 = .ok (.iload_n 3, 1) := by decide +kernel
theorem dX8_goes_58 : decode cX8_goes 58 = .ok (.aload_n 0, 1) := by decide +kernel
theorem dX8_goes_59 : decode cX8_goes 59 = .ok (.getfield 93, 3) := by decide +kernel
theorem dX8_goes_62 : decode cX8_goes 62 = .ok (.iload_n 3, 1) := by decide +kernel
theorem dX8_goes_63 : decode cX8_goes 63 = .ok (.iconst 1, 1) := by decide +kernel
theorem dX8_goes_64 : decode cX8_goes 64 = .ok (.iadd, 1) := by decide +kernel
theorem dX8_goes_65 : decode cX8_goes 65 = .ok (.iaload, 1) := by decide +kernel
theorem dX8_goes_66 : decode cX8_goes 66 = .ok (.iastore, 1) := by decide +kernel
theorem dX8_goes_67 : decode cX8_goes 67 = .ok (.aload_n 0, 1) := by decide +kernel
theorem dX8_goes_68 : decode cX8_goes 68 = .ok (.getfield 96, 3) := by decide +kernel
theorem dX8_goes_71 : decode cX8_goes 71 = .ok (.iload_n 3, 1) := by decide +kernel
theorem dX8_goes_72 : decode cX8_goes 72 = .ok (.aload_n 0, 1) := by decide +kernel
theorem dX8_goes_73 : decode cX8_goes 73 = .ok (.getfield 96, 3) := by decide +kernel
theorem dX8_goes_76 : decode cX8_goes 76 = .ok (.iload_n 3, 1) := by decide +kernel
theorem dX8_goes_77 : decode cX8_goes 77 = .ok (.iconst 1, 1) := by decide +kernel
theorem dX8_goes_78 : decode cX8_goes 78 = .ok (.iadd, 1) := by decide +kernel
theorem dX8_goes_79 : decode cX8_goes 79 = .ok (.iaload, 1) := by decide +kernel
theorem dX8_goes_80 : decode cX8_goes 80 = .ok (.iastore, 1) := by decide +kernel
theorem dX8_goes_81 : decode cX8_goes 81 = .ok (.aload_n 0, 1) := by decide +kernel
theorem dX8_goes_82 : decode cX8_goes 82 = .ok (.getfield 99, 3) := by decide +kernel
theorem dX8_goes_85 : decode cX8_goes 85 = .ok (.iload_n 3, 1) := by decide +kernel
theorem dX8_goes_86 : decode cX8_goes 86 = .ok (.aload_n 0, 1) := by decide +kernel
theorem dX8_goes_87 : decode cX8_goes 87 = .ok (.getfield 99, 3) := by decide +kernel
theorem dX8_goes_90 : decode cX8_goes 90 = .ok (.iload_n 3, 1) := by decide +kernel
theorem dX8_goes_91 : decode cX8_goes 91 = .ok (.iconst 1, 1) := by decide +kernel
theorem dX8_goes_92 : decode cX8_goes 92 = .ok (.iadd, 1) := by decide +kernel
theorem dX8_goes_93 : decode cX8_goes 93 = .ok (.iaload, 1) := by decide +kernel
theorem dX8_goes_94 : decode cX8_goes 94 = .ok (.iastore, 1) := by decide +kernel
theorem dX8_goes_95 : decode cX8_goes 95 = .ok (.aload_n 0, 1) := by decide +kernel
theorem dX8_goes_96 : decode cX8_goes 96 = .ok (.getfield 102, 3) := by decide +kernel
theorem dX8_goes_99 : decode cX8_goes 99 = .ok (.iload_n 3, 1) := by decide +kernel
theorem dX8_goes_100 : decode cX8_goes 100 = .ok (.aload_n 0, 1) := by decide +kernel
theorem dX8_goes_101 : decode cX8_goes 101 = .ok (.getfield 102, 3) := by decide +kernel
theorem dX8_goes_104 : decode cX8_goes 104 = .ok (.iload_n 3, 1) := by decide +kernel
theorem dX8_goes_105 : decode cX8_goes 105 = .ok (.iconst 1, 1) := by decide +kernel
theorem dX8_goes_106 : decode cX8_goes 106 = .ok (.iadd, 1) := by decide +kernel
theorem dX8_goes_107 : decode cX8_goes 107 = .ok (.baload, 1) := by decide +kernel
theorem dX8_goes_108 : decode cX8_goes 108 = .ok (.bastore, 1) := by decide +kernel
theorem dX8_goes_109 : decode cX8_goes 109 = .ok (.iinc 3 1, 3) := by decide +kernel
theorem dX8_goes_112 : decode cX8_goes 112 = .ok (.goto (-74), 3) := by decide +kernel
theorem dX8_goes_115 : decode cX8_goes 115 = .ok (.return_, 1) := by decide +kernel
theorem dX8_takes_0 : decode cX8_takes 0 = .ok (.lload_n 2, 1) := by decide +kernel
theorem dX8_takes_1 : decode cX8_takes 1 = .ok (.lstore 4, 2) := by decide +kernel
theorem dX8_takes_3 : decode cX8_takes 3 = .ok (.lload 4, 2) := by decide +kernel
theorem dX8_takes_5 : decode cX8_takes 5 = .ok (.lconst 0, 1) := by decide +kernel
theorem dX8_takes_6 : decode cX8_takes 6 = .ok (.lcmp, 1) := by decide +kernel
theorem dX8_takes_7 : decode cX8_takes 7 = .ok (.ifCond .le 99, 3) := by decide +kernel
theorem dX8_takes_10 : decode cX8_takes 10 = .ok (.aload_n 0, 1) := by decide +kernel
theorem dX8_takes_11 : decode cX8_takes 11 = .ok (.getfield 69, 3) := by decide +kernel
theorem dX8_takes_14 : decode cX8_takes 14 = .ok (.iload_n 1, 1) := by decide +kernel
theorem dX8_takes_15 : decode cX8_takes 15 = .ok (.iaload, 1) := by decide +kernel
theorem dX8_takes_16 : decode cX8_takes 16 = .ok (.ifCond .le 90, 3) := by decide +kernel
theorem dX8_takes_19 : decode cX8_takes 19 = .ok (.bipush 40, 2) := by decide +kernel
theorem dX8_takes_21 : decode cX8_takes 21 = .ok (.iload_n 1, 1) := by decide +kernel
theorem dX8_takes_22 : decode cX8_takes 22 = .ok (.imul, 1) := by decide +kernel
theorem dX8_takes_23 : decode cX8_takes 23 = .ok (.istore 6, 2) := by decide +kernel
theorem dX8_takes_25 : decode cX8_takes 25 = .ok (.aload_n 0, 1) := by decide +kernel
theorem dX8_takes_26 : decode cX8_takes 26 = .ok (.getfield 99, 3) := by decide +kernel
theorem dX8_takes_29 : decode cX8_takes 29 = .ok (.iload 6, 2) := by decide +kernel
theorem dX8_takes_31 : decode cX8_takes 31 = .ok (.iaload, 1) := by decide +kernel
theorem dX8_takes_32 : decode cX8_takes 32 = .ok (.i2l, 1) := by decide +kernel
theorem dX8_takes_33 : decode cX8_takes 33 = .ok (.lload 4, 2) := by decide +kernel
theorem dX8_takes_35 : decode cX8_takes 35 = .ok (.lcmp, 1) := by decide +kernel
theorem dX8_takes_36 : decode cX8_takes 36 = .ok (.ifCond .ge 13, 3) := by decide +kernel
theorem dX8_takes_39 : decode cX8_takes 39 = .ok (.aload_n 0, 1) := by decide +kernel
theorem dX8_takes_40 : decode cX8_takes 40 = .ok (.getfield 99, 3) := by decide +kernel
theorem dX8_takes_43 : decode cX8_takes 43 = .ok (.iload 6, 2) := by decide +kernel
theorem dX8_takes_45 : decode cX8_takes 45 = .ok (.iaload, 1) := by decide +kernel
theorem dX8_takes_46 : decode cX8_takes 46 = .ok (.goto 6, 3) := by decide +kernel
theorem dX8_takes_49 : decode cX8_takes 49 = .ok (.lload 4, 2) := by decide +kernel
theorem dX8_takes_51 : decode cX8_takes 51 = .ok (.l2i, 1) := by decide +kernel
theorem dX8_takes_52 : decode cX8_takes 52 = .ok (.istore 7, 2) := by decide +kernel
theorem dX8_takes_54 : decode cX8_takes 54 = .ok (.aload_n 0, 1) := by decide +kernel
theorem dX8_takes_55 : decode cX8_takes 55 = .ok (.getfield 99, 3) := by decide +kernel
theorem dX8_takes_58 : decode cX8_takes 58 = .ok (.iload 6, 2) := by decide +kernel
theorem dX8_takes_60 : decode cX8_takes 60 = .ok (.dup2, 1) := by decide +kernel
theorem dX8_takes_61 : decode cX8_takes 61 = .ok (.iaload, 1) := by decide +kernel
theorem dX8_takes_62 : decode cX8_takes 62 = .ok (.iload 7, 2) := by decide +kernel
theorem dX8_takes_64 : decode cX8_takes 64 = .ok (.isub, 1) := by decide +kernel
theorem dX8_takes_65 : decode cX8_takes 65 = .ok (.iastore, 1) := by decide +kernel
theorem dX8_takes_66 : decode cX8_takes 66 = .ok (.aload_n 0, 1) := by decide +kernel
theorem dX8_takes_67 : decode cX8_takes 67 = .ok (.getfield 96, 3) := by decide +kernel
theorem dX8_takes_70 : decode cX8_takes 70 = .ok (.iload 6, 2) := by decide +kernel
theorem dX8_takes_72 : decode cX8_takes 72 = .ok (.dup2, 1) := by decide +kernel
theorem dX8_takes_73 : decode cX8_takes 73 = .ok (.iaload, 1) := by decide +kernel
theorem dX8_takes_74 : decode cX8_takes 74 = .ok (.iload 7, 2) := by decide +kernel
theorem dX8_takes_76 : decode cX8_takes 76 = .ok (.isub, 1) := by decide +kernel
theorem dX8_takes_77 : decode cX8_takes 77 = .ok (.iastore, 1) := by decide +kernel
theorem dX8_takes_78 : decode cX8_takes 78 = .ok (.lload 4, 2) := by decide +kernel
theorem dX8_takes_80 : decode cX8_takes 80 = .ok (.iload 7, 2) := by decide +kernel
theorem dX8_takes_82 : decode cX8_takes 82 = .ok (.i2l, 1) := by decide +kernel
theorem dX8_takes_83 : decode cX8_takes 83 = .ok (.lsub, 1) := by decide +kernel
theorem dX8_takes_84 : decode cX8_takes 84 = .ok (.lstore 4, 2) := by decide +kernel
theorem dX8_takes_86 : decode cX8_takes 86 = .ok (.aload_n 0, 1) := by decide +kernel
theorem dX8_takes_87 : decode cX8_takes 87 = .ok (.getfield 99, 3) := by decide +kernel
theorem dX8_takes_90 : decode cX8_takes 90 = .ok (.iload 6, 2) := by decide +kernel
theorem dX8_takes_92 : decode cX8_takes 92 = .ok (.iaload, 1) := by decide +kernel
theorem dX8_takes_93 : decode cX8_takes 93 = .ok (.ifCond .le 4, 3) := by decide +kernel
theorem dX8_takes_96 : decode cX8_takes 96 = .ok (.return_, 1) := by decide +kernel
theorem dX8_takes_97 : decode cX8_takes 97 = .ok (.aload_n 0, 1) := by decide +kernel
theorem dX8_takes_98 : decode cX8_takes 98 = .ok (.iload_n 1, 1) := by decide +kernel
theorem dX8_takes_99 : decode cX8_takes 99 = .ok (.iconst 0, 1) := by decide +kernel
theorem dX8_takes_100 : decode cX8_takes 100 = .ok (.invokevirtual 165, 3) := by decide +kernel
theorem dX8_takes_103 : decode cX8_takes 103 = .ok (.goto (-100), 3) := by decide +kernel
theorem dX8_takes_106 : decode cX8_takes 106 = .ok (.return_, 1) := by decide +kernel
theorem dX8_comes_0 : decode cX8_comes 0 = .ok (.lload_n 2, 1) := by decide +kernel
theorem dX8_comes_1 : decode cX8_comes 1 = .ok (.lconst 0, 1) := by decide +kernel
theorem dX8_comes_2 : decode cX8_comes 2 = .ok (.lcmp, 1) := by decide +kernel
theorem dX8_comes_3 : decode cX8_comes 3 = .ok (.ifCond .ne 4, 3) := by decide +kernel
theorem dX8_comes_6 : decode cX8_comes 6 = .ok (.return_, 1) := by decide +kernel
theorem dX8_comes_7 : decode cX8_comes 7 = .ok (.bipush 40, 2) := by decide +kernel
theorem dX8_comes_9 : decode cX8_comes 9 = .ok (.iload_n 1, 1) := by decide +kernel
theorem dX8_comes_10 : decode cX8_comes 10 = .ok (.imul, 1) := by decide +kernel
theorem dX8_comes_11 : decode cX8_comes 11 = .ok (.aload_n 0, 1) := by decide +kernel
theorem dX8_comes_12 : decode cX8_comes 12 = .ok (.getfield 69, 3) := by decide +kernel
theorem dX8_comes_15 : decode cX8_comes 15 = .ok (.iload_n 1, 1) := by decide +kernel
theorem dX8_comes_16 : decode cX8_comes 16 = .ok (.iaload, 1) := by decide +kernel
theorem dX8_comes_17 : decode cX8_comes 17 = .ok (.iadd, 1) := by decide +kernel
theorem dX8_comes_18 : decode cX8_comes 18 = .ok (.iconst 1, 1) := by decide +kernel
theorem dX8_comes_19 : decode cX8_comes 19 = .ok (.isub, 1) := by decide +kernel
theorem dX8_comes_20 : decode cX8_comes 20 = .ok (.istore 5, 2) := by decide +kernel
theorem dX8_comes_22 : decode cX8_comes 22 = .ok (.aload_n 0, 1) := by decide +kernel
theorem dX8_comes_23 : decode cX8_comes 23 = .ok (.getfield 69, 3) := by decide +kernel
theorem dX8_comes_26 : decode cX8_comes 26 = .ok (.iload_n 1, 1) := by decide +kernel
theorem dX8_comes_27 : decode cX8_comes 27 = .ok (.iaload, 1) := by decide +kernel
theorem dX8_comes_28 : decode cX8_comes 28 = .ok (.ifCond .eq 26, 3) := by decide +kernel
theorem dX8_comes_31 : decode cX8_comes 31 = .ok (.aload_n 0, 1) := by decide +kernel
theorem dX8_comes_32 : decode cX8_comes 32 = .ok (.getfield 93, 3) := by decide +kernel
theorem dX8_comes_35 : decode cX8_comes 35 = .ok (.iload 5, 2) := by decide +kernel
theorem dX8_comes_37 : decode cX8_comes 37 = .ok (.iaload, 1) := by decide +kernel
theorem dX8_comes_38 : decode cX8_comes 38 = .ok (.iload 4, 2) := by decide +kernel
theorem dX8_comes_40 : decode cX8_comes 40 = .ok (.if_icmp .eq 52, 3) := by decide +kernel
theorem dX8_comes_43 : decode cX8_comes 43 = .ok (.aload_n 0, 1) := by decide +kernel
theorem dX8_comes_44 : decode cX8_comes 44 = .ok (.getfield 69, 3) := by decide +kernel
theorem dX8_comes_47 : decode cX8_comes 47 = .ok (.iload_n 1, 1) := by decide +kernel
theorem dX8_comes_48 : decode cX8_comes 48 = .ok (.iaload, 1) := by decide +kernel
theorem dX8_comes_49 : decode cX8_comes 49 = .ok (.bipush 40, 2) := by decide +kernel
theorem dX8_comes_51 : decode cX8_comes 51 = .ok (.if_icmp .ge 41, 3) := by decide +kernel
theorem dX8_comes_54 : decode cX8_comes 54 = .ok (.iinc 5 1, 3) := by decide +kernel
theorem dX8_comes_57 : decode cX8_comes 57 = .ok (.aload_n 0, 1) := by decide +kernel
theorem dX8_comes_58 : decode cX8_comes 58 = .ok (.getfield 69, 3) := by decide +kernel
theorem dX8_comes_61 : decode cX8_comes 61 = .ok (.iload_n 1, 1) := by decide +kernel
theorem dX8_comes_62 : decode cX8_comes 62 = .ok (.dup2, 1) := by decide +kernel
theorem dX8_comes_63 : decode cX8_comes 63 = .ok (.iaload, 1) := by decide +kernel
theorem dX8_comes_64 : decode cX8_comes 64 = .ok (.iconst 1, 1) := by decide +kernel
theorem dX8_comes_65 : decode cX8_comes 65 = .ok (.iadd, 1) := by decide +kernel
theorem dX8_comes_66 : decode cX8_comes 66 = .ok (.iastore, 1) := by decide +kernel
theorem dX8_comes_67 : decode cX8_comes 67 = .ok (.aload_n 0, 1) := by decide +kernel
theorem dX8_comes_68 : decode cX8_comes 68 = .ok (.getfield 93, 3) := by decide +kernel
theorem dX8_comes_71 : decode cX8_comes 71 = .ok (.iload 5, 2) := by decide +kernel
theorem dX8_comes_73 : decode cX8_comes 73 = .ok (.iload 4, 2) := by decide +kernel
theorem dX8_comes_75 : decode cX8_comes 75 = .ok (.iastore, 1) := by decide +kernel
theorem dX8_comes_76 : decode cX8_comes 76 = .ok (.aload_n 0, 1) := by decide +kernel
theorem dX8_comes_77 : decode cX8_comes 77 = .ok (.getfield 96, 3) := by decide +kernel
theorem dX8_comes_80 : decode cX8_comes 80 = .ok (.iload 5, 2) := by decide +kernel
theorem dX8_comes_82 : decode cX8_comes 82 = .ok (.iconst 0, 1) := by decide +kernel
theorem dX8_comes_83 : decode cX8_comes 83 = .ok (.iastore, 1) := by decide +kernel
theorem dX8_comes_84 : decode cX8_comes 84 = .ok (.aload_n 0, 1) := by decide +kernel
theorem dX8_comes_85 : decode cX8_comes 85 = .ok (.getfield 99, 3) := by decide +kernel
theorem dX8_comes_88 : decode cX8_comes 88 = .ok (.iload 5, 2) := by decide +kernel
theorem dX8_comes_90 : decode cX8_comes 90 = .ok (.iconst 0, 1) := by decide +kernel
theorem dX8_comes_91 : decode cX8_comes 91 = .ok (.iastore, 1) := by decide +kernel
theorem dX8_comes_92 : decode cX8_comes 92 = .ok (.aload_n 0, 1) := by decide +kernel
theorem dX8_comes_93 : decode cX8_comes 93 = .ok (.getfield 96, 3) := by decide +kernel
theorem dX8_comes_96 : decode cX8_comes 96 = .ok (.iload 5, 2) := by decide +kernel
theorem dX8_comes_98 : decode cX8_comes 98 = .ok (.dup2, 1) := by decide +kernel
theorem dX8_comes_99 : decode cX8_comes 99 = .ok (.iaload, 1) := by decide +kernel
theorem dX8_comes_100 : decode cX8_comes 100 = .ok (.lload_n 2, 1) := by decide +kernel
theorem dX8_comes_101 : decode cX8_comes 101 = .ok (.l2i, 1) := by decide +kernel
theorem dX8_comes_102 : decode cX8_comes 102 = .ok (.iadd, 1) := by decide +kernel
theorem dX8_comes_103 : decode cX8_comes 103 = .ok (.iastore, 1) := by decide +kernel
theorem dX8_comes_104 : decode cX8_comes 104 = .ok (.aload_n 0, 1) := by decide +kernel
theorem dX8_comes_105 : decode cX8_comes 105 = .ok (.getfield 99, 3) := by decide +kernel
theorem dX8_comes_108 : decode cX8_comes 108 = .ok (.iload 5, 2) := by decide +kernel
theorem dX8_comes_110 : decode cX8_comes 110 = .ok (.dup2, 1) := by decide +kernel
theorem dX8_comes_111 : decode cX8_comes 111 = .ok (.iaload, 1) := by decide +kernel
theorem dX8_comes_112 : decode cX8_comes 112 = .ok (.lload_n 2, 1) := by decide +kernel
theorem dX8_comes_113 : decode cX8_comes 113 = .ok (.l2i, 1) := by decide +kernel
theorem dX8_comes_114 : decode cX8_comes 114 = .ok (.iadd, 1) := by decide +kernel
theorem dX8_comes_115 : decode cX8_comes 115 = .ok (.iastore, 1) := by decide +kernel
theorem dX8_comes_116 : decode cX8_comes 116 = .ok (.aload_n 0, 1) := by decide +kernel
theorem dX8_comes_117 : decode cX8_comes 117 = .ok (.getfield 102, 3) := by decide +kernel
theorem dX8_comes_120 : decode cX8_comes 120 = .ok (.iload 5, 2) := by decide +kernel
theorem dX8_comes_122 : decode cX8_comes 122 = .ok (.iconst 0, 1) := by decide +kernel
theorem dX8_comes_123 : decode cX8_comes 123 = .ok (.bastore, 1) := by decide +kernel
theorem dX8_comes_124 : decode cX8_comes 124 = .ok (.return_, 1) := by decide +kernel
theorem dX8_least_0 : decode cX8_least 0 = .ok (.lload_n 0, 1) := by decide +kernel
theorem dX8_least_1 : decode cX8_least 1 = .ok (.lload_n 2, 1) := by decide +kernel
theorem dX8_least_2 : decode cX8_least 2 = .ok (.lcmp, 1) := by decide +kernel
theorem dX8_least_3 : decode cX8_least 3 = .ok (.ifCond .ge 7, 3) := by decide +kernel
theorem dX8_least_6 : decode cX8_least 6 = .ok (.lload_n 0, 1) := by decide +kernel
theorem dX8_least_7 : decode cX8_least 7 = .ok (.goto 4, 3) := by decide +kernel
theorem dX8_least_10 : decode cX8_least 10 = .ok (.lload_n 2, 1) := by decide +kernel
theorem dX8_least_11 : decode cX8_least 11 = .ok (.lreturn, 1) := by decide +kernel
theorem dX8_space_0 : decode cX8_space 0 = .ok (.aload_n 0, 1) := by decide +kernel
theorem dX8_space_1 : decode cX8_space 1 = .ok (.getfield 26, 3) := by decide +kernel
theorem dX8_space_4 : decode cX8_space 4 = .ok (.iload_n 2, 1) := by decide +kernel
theorem dX8_space_5 : decode cX8_space 5 = .ok (.iaload, 1) := by decide +kernel
theorem dX8_space_6 : decode cX8_space 6 = .ok (.i2l, 1) := by decide +kernel
theorem dX8_space_7 : decode cX8_space 7 = .ok (.aload_n 0, 1) := by decide +kernel
theorem dX8_space_8 : decode cX8_space 8 = .ok (.bipush 8, 2) := by decide +kernel
theorem dX8_space_10 : decode cX8_space 10 = .ok (.iload_n 1, 1) := by decide +kernel
theorem dX8_space_11 : decode cX8_space 11 = .ok (.imul, 1) := by decide +kernel
theorem dX8_space_12 : decode cX8_space 12 = .ok (.iload_n 2, 1) := by decide +kernel
theorem dX8_space_13 : decode cX8_space 13 = .ok (.iadd, 1) := by decide +kernel
theorem dX8_space_14 : decode cX8_space 14 = .ok (.invokevirtual 169, 3) := by decide +kernel
theorem dX8_space_17 : decode cX8_space 17 = .ok (.lcmp, 1) := by decide +kernel
theorem dX8_space_18 : decode cX8_space 18 = .ok (.ifCond .le 24, 3) := by decide +kernel
theorem dX8_space_21 : decode cX8_space 21 = .ok (.aload_n 0, 1) := by decide +kernel
theorem dX8_space_22 : decode cX8_space 22 = .ok (.getfield 26, 3) := by decide +kernel
theorem dX8_space_25 : decode cX8_space 25 = .ok (.iload_n 2, 1) := by decide +kernel
theorem dX8_space_26 : decode cX8_space 26 = .ok (.iaload, 1) := by decide +kernel
theorem dX8_space_27 : decode cX8_space 27 = .ok (.i2l, 1) := by decide +kernel
theorem dX8_space_28 : decode cX8_space 28 = .ok (.aload_n 0, 1) := by decide +kernel
theorem dX8_space_29 : decode cX8_space 29 = .ok (.bipush 8, 2) := by decide +kernel
theorem dX8_space_31 : decode cX8_space 31 = .ok (.iload_n 1, 1) := by decide +kernel
theorem dX8_space_32 : decode cX8_space 32 = .ok (.imul, 1) := by decide +kernel
theorem dX8_space_33 : decode cX8_space 33 = .ok (.iload_n 2, 1) := by decide +kernel
theorem dX8_space_34 : decode cX8_space 34 = .ok (.iadd, 1) := by decide +kernel
theorem dX8_space_35 : decode cX8_space 35 = .ok (.invokevirtual 169, 3) := by decide +kernel
theorem dX8_space_38 : decode cX8_space 38 = .ok (.lsub, 1) := by decide +kernel
theorem dX8_space_39 : decode cX8_space 39 = .ok (.goto 4, 3) := by decide +kernel
theorem dX8_space_42 : decode cX8_space 42 = .ok (.lconst 0, 1) := by decide +kernel
theorem dX8_space_43 : decode cX8_space 43 = .ok (.lreturn, 1) := by decide +kernel
theorem dX8_price_0 : decode cX8_price 0 = .ok (.ldc2_w 146, 3) := by decide +kernel
theorem dX8_price_3 : decode cX8_price 3 = .ok (.aload_n 0, 1) := by decide +kernel
theorem dX8_price_4 : decode cX8_price 4 = .ok (.getfield 23, 3) := by decide +kernel
theorem dX8_price_7 : decode cX8_price 7 = .ok (.iload_n 2, 1) := by decide +kernel
theorem dX8_price_8 : decode cX8_price 8 = .ok (.iaload, 1) := by decide +kernel
theorem dX8_price_9 : decode cX8_price 9 = .ok (.i2l, 1) := by decide +kernel
theorem dX8_price_10 : decode cX8_price 10 = .ok (.lmul, 1) := by decide +kernel
theorem dX8_price_11 : decode cX8_price 11 = .ok (.aload_n 0, 1) := by decide +kernel
theorem dX8_price_12 : decode cX8_price 12 = .ok (.getfield 66, 3) := by decide +kernel
theorem dX8_price_15 : decode cX8_price 15 = .ok (.iload_n 1, 1) := by decide +kernel
theorem dX8_price_16 : decode cX8_price 16 = .ok (.laload, 1) := by decide +kernel
theorem dX8_price_17 : decode cX8_price 17 = .ok (.aload_n 0, 1) := by decide +kernel
theorem dX8_price_18 : decode cX8_price 18 = .ok (.getfield 23, 3) := by decide +kernel
theorem dX8_price_21 : decode cX8_price 21 = .ok (.iload_n 2, 1) := by decide +kernel
theorem dX8_price_22 : decode cX8_price 22 = .ok (.iaload, 1) := by decide +kernel
theorem dX8_price_23 : decode cX8_price 23 = .ok (.i2l, 1) := by decide +kernel
theorem dX8_price_24 : decode cX8_price 24 = .ok (.ladd, 1) := by decide +kernel
theorem dX8_price_25 : decode cX8_price 25 = .ok (.ldiv, 1) := by decide +kernel
theorem dX8_price_26 : decode cX8_price 26 = .ok (.lreturn, 1) := by decide +kernel
theorem dX8_cartsCome_0 : decode cX8_cartsCome 0 = .ok (.iconst 0, 1) := by decide +kernel
theorem dX8_cartsCome_1 : decode cX8_cartsCome 1 = .ok (.istore_n 2, 1) := by decide +kernel
theorem dX8_cartsCome_2 : decode cX8_cartsCome 2 = .ok (.iconst 0, 1) := by decide +kernel
theorem dX8_cartsCome_3 : decode cX8_cartsCome 3 = .ok (.istore_n 3, 1) := by decide +kernel
theorem dX8_cartsCome_4 : decode cX8_cartsCome 4 = .ok (.iload_n 3, 1) := by decide +kernel
theorem dX8_cartsCome_5 : decode cX8_cartsCome 5 = .ok (.aload_n 0, 1) := by decide +kernel
theorem dX8_cartsCome_6 : decode cX8_cartsCome 6 = .ok (.getfield 54, 3) := by decide +kernel
theorem dX8_cartsCome_9 : decode cX8_cartsCome 9 = .ok (.iload_n 1, 1) := by decide +kernel
theorem dX8_cartsCome_10 : decode cX8_cartsCome 10 = .ok (.iaload, 1) := by decide +kernel
theorem dX8_cartsCome_11 : decode cX8_cartsCome 11 = .ok (.if_icmp .ge 167, 3) := by decide +kernel
theorem dX8_cartsCome_14 : decode cX8_cartsCome 14 = .ok (.bipush 60, 2) := by decide +kernel
theorem dX8_cartsCome_16 : decode cX8_cartsCome 16 = .ok (.iload_n 1, 1) := by decide +kernel
theorem dX8_cartsCome_17 : decode cX8_cartsCome 17 = .ok (.imul, 1) := by decide +kernel
theorem dX8_cartsCome_18 : decode cX8_cartsCome 18 = .ok (.iload_n 3, 1) := by decide +kernel
theorem dX8_cartsCome_19 : decode cX8_cartsCome 19 = .ok (.iadd, 1) := by decide +kernel
theorem dX8_cartsCome_20 : decode cX8_cartsCome 20 = .ok (.istore 4, 2) := by decide +kernel
theorem dX8_cartsCome_22 : decode cX8_cartsCome 22 = .ok (.aload_n 0, 1) := by decide +kernel
theorem dX8_cartsCome_23 : decode cX8_cartsCome 23 = .ok (.getfield 60, 3) := by decide +kernel
theorem dX8_cartsCome_26 : decode cX8_cartsCome 26 = .ok (.iload 4, 2) := by decide +kernel
theorem dX8_cartsCome_28 : decode cX8_cartsCome 28 = .ok (.iaload, 1) := by decide +kernel
theorem dX8_cartsCome_29 : decode cX8_cartsCome 29 = .ok (.aload_n 0, 1) := by decide +kernel
theorem dX8_cartsCome_30 : decode cX8_cartsCome 30 = .ok (.getfield 47, 3) := by decide +kernel
theorem dX8_cartsCome_33 : decode cX8_cartsCome 33 = .ok (.iload_n 1, 1) := by decide +kernel
theorem dX8_cartsCome_34 : decode cX8_cartsCome 34 = .ok (.iaload, 1) := by decide +kernel
theorem dX8_cartsCome_35 : decode cX8_cartsCome 35 = .ok (.if_icmp .le 63, 3) := by decide +kernel
theorem dX8_cartsCome_38 : decode cX8_cartsCome 38 = .ok (.aload_n 0, 1) := by decide +kernel
theorem dX8_cartsCome_39 : decode cX8_cartsCome 39 = .ok (.getfield 57, 3) := by decide +kernel
theorem dX8_cartsCome_42 : decode cX8_cartsCome 42 = .ok (.bipush 60, 2) := by decide +kernel
theorem dX8_cartsCome_44 : decode cX8_cartsCome 44 = .ok (.iload_n 1, 1) := by decide +kernel
theorem dX8_cartsCome_45 : decode cX8_cartsCome 45 = .ok (.imul, 1) := by decide +kernel
theorem dX8_cartsCome_46 : decode cX8_cartsCome 46 = .ok (.iload_n 2, 1) := by decide +kernel
theorem dX8_cartsCome_47 : decode cX8_cartsCome 47 = .ok (.iadd, 1) := by decide +kernel
theorem dX8_cartsCome_48 : decode cX8_cartsCome 48 = .ok (.aload_n 0, 1) := by decide +kernel
theorem dX8_cartsCome_49 : decode cX8_cartsCome 49 = .ok (.getfield 57, 3) := by decide +kernel
theorem dX8_cartsCome_52 : decode cX8_cartsCome 52 = .ok (.iload 4, 2) := by decide +kernel
theorem dX8_cartsCome_54 : decode cX8_cartsCome 54 = .ok (.iaload, 1) := by decide +kernel
theorem dX8_cartsCome_55 : decode cX8_cartsCome 55 = .ok (.iastore, 1) := by decide +kernel
theorem dX8_cartsCome_56 : decode cX8_cartsCome 56 = .ok (.aload_n 0, 1) := by decide +kernel
theorem dX8_cartsCome_57 : decode cX8_cartsCome 57 = .ok (.getfield 60, 3) := by decide +kernel
theorem dX8_cartsCome_60 : decode cX8_cartsCome 60 = .ok (.bipush 60, 2) := by decide +kernel
theorem dX8_cartsCome_62 : decode cX8_cartsCome 62 = .ok (.iload_n 1, 1) := by decide +kernel
theorem dX8_cartsCome_63 : decode cX8_cartsCome 63 = .ok (.imul, 1) := by decide +kernel
theorem dX8_cartsCome_64 : decode cX8_cartsCome 64 = .ok (.iload_n 2, 1) := by decide +kernel
theorem dX8_cartsCome_65 : decode cX8_cartsCome 65 = .ok (.iadd, 1) := by decide +kernel
theorem dX8_cartsCome_66 : decode cX8_cartsCome 66 = .ok (.aload_n 0, 1) := by decide +kernel
theorem dX8_cartsCome_67 : decode cX8_cartsCome 67 = .ok (.getfield 60, 3) := by decide +kernel
theorem dX8_cartsCome_70 : decode cX8_cartsCome 70 = .ok (.iload 4, 2) := by decide +kernel
theorem dX8_cartsCome_72 : decode cX8_cartsCome 72 = .ok (.iaload, 1) := by decide +kernel
theorem dX8_cartsCome_73 : decode cX8_cartsCome 73 = .ok (.iastore, 1) := by decide +kernel
theorem dX8_cartsCome_74 : decode cX8_cartsCome 74 = .ok (.aload_n 0, 1) := by decide +kernel
theorem dX8_cartsCome_75 : decode cX8_cartsCome 75 = .ok (.getfield 63, 3) := by decide +kernel
theorem dX8_cartsCome_78 : decode cX8_cartsCome 78 = .ok (.bipush 60, 2) := by decide +kernel
theorem dX8_cartsCome_80 : decode cX8_cartsCome 80 = .ok (.iload_n 1, 1) := by decide +kernel
theorem dX8_cartsCome_81 : decode cX8_cartsCome 81 = .ok (.imul, 1) := by decide +kernel
theorem dX8_cartsCome_82 : decode cX8_cartsCome 82 = .ok (.iload_n 2, 1) := by decide +kernel
theorem dX8_cartsCome_83 : decode cX8_cartsCome 83 = .ok (.iadd, 1) := by decide +kernel
theorem dX8_cartsCome_84 : decode cX8_cartsCome 84 = .ok (.aload_n 0, 1) := by decide +kernel
theorem dX8_cartsCome_85 : decode cX8_cartsCome 85 = .ok (.getfield 63, 3) := by decide +kernel
theorem dX8_cartsCome_88 : decode cX8_cartsCome 88 = .ok (.iload 4, 2) := by decide +kernel
theorem dX8_cartsCome_90 : decode cX8_cartsCome 90 = .ok (.iaload, 1) := by decide +kernel
theorem dX8_cartsCome_91 : decode cX8_cartsCome 91 = .ok (.iastore, 1) := by decide +kernel
theorem dX8_cartsCome_92 : decode cX8_cartsCome 92 = .ok (.iinc 2 1, 3) := by decide +kernel
theorem dX8_cartsCome_95 : decode cX8_cartsCome 95 = .ok (.goto 77, 3) := by decide +kernel
theorem dX8_cartsCome_98 : decode cX8_cartsCome 98 = .ok (.aload_n 0, 1) := by decide +kernel
theorem dX8_cartsCome_99 : decode cX8_cartsCome 99 = .ok (.getfield 57, 3) := by decide +kernel
theorem dX8_cartsCome_102 : decode cX8_cartsCome 102 = .ok (.iload 4, 2) := by decide +kernel
theorem dX8_cartsCome_104 : decode cX8_cartsCome 104 = .ok (.iaload, 1) := by decide +kernel
theorem dX8_cartsCome_105 : decode cX8_cartsCome 105 = .ok (.istore 5, 2) := by decide +kernel
theorem dX8_cartsCome_107 : decode cX8_cartsCome 107 = .ok (.aload_n 0, 1) := by decide +kernel
theorem dX8_cartsCome_108 : decode cX8_cartsCome 108 = .ok (.getfield 63, 3) := by decide +kernel
theorem dX8_cartsCome_111 : decode cX8_cartsCome 111 = .ok (.iload 4, 2) := by decide +kernel
theorem dX8_cartsCome_113 : decode cX8_cartsCome 113 = .ok (.iaload, 1) := by decide +kernel
theorem dX8_cartsCome_114 : decode cX8_cartsCome 114 = .ok (.i2l, 1) := by decide +kernel
theorem dX8_cartsCome_115 : decode cX8_cartsCome 115 = .ok (.aload_n 0, 1) := by decide +kernel
theorem dX8_cartsCome_116 : decode cX8_cartsCome 116 = .ok (.iload_n 1, 1) := by decide +kernel
theorem dX8_cartsCome_117 : decode cX8_cartsCome 117 = .ok (.iload 5, 2) := by decide +kernel
theorem dX8_cartsCome_119 : decode cX8_cartsCome 119 = .ok (.invokevirtual 173, 3) := by decide +kernel
theorem dX8_cartsCome_122 : decode cX8_cartsCome 122 = .ok (.invokestatic 177, 3) := by decide +kernel
theorem dX8_cartsCome_125 : decode cX8_cartsCome 125 = .ok (.lstore 6, 2) := by decide +kernel
theorem dX8_cartsCome_127 : decode cX8_cartsCome 127 = .ok (.aload_n 0, 1) := by decide +kernel
theorem dX8_cartsCome_128 : decode cX8_cartsCome 128 = .ok (.bipush 8, 2) := by decide +kernel
theorem dX8_cartsCome_130 : decode cX8_cartsCome 130 = .ok (.iload_n 1, 1) := by decide +kernel
theorem dX8_cartsCome_131 : decode cX8_cartsCome 131 = .ok (.imul, 1) := by decide +kernel
theorem dX8_cartsCome_132 : decode cX8_cartsCome 132 = .ok (.iload 5, 2) := by decide +kernel
theorem dX8_cartsCome_134 : decode cX8_cartsCome 134 = .ok (.iadd, 1) := by decide +kernel
theorem dX8_cartsCome_135 : decode cX8_cartsCome 135 = .ok (.lload 6, 2) := by decide +kernel
theorem dX8_cartsCome_137 : decode cX8_cartsCome 137 = .ok (.aload_n 0, 1) := by decide +kernel
theorem dX8_cartsCome_138 : decode cX8_cartsCome 138 = .ok (.getfield 47, 3) := by decide +kernel
theorem dX8_cartsCome_141 : decode cX8_cartsCome 141 = .ok (.iload_n 1, 1) := by decide +kernel
theorem dX8_cartsCome_142 : decode cX8_cartsCome 142 = .ok (.iaload, 1) := by decide +kernel
theorem dX8_cartsCome_143 : decode cX8_cartsCome 143 = .ok (.invokevirtual 181, 3) := by decide +kernel
theorem dX8_cartsCome_146 : decode cX8_cartsCome 146 = .ok (.aload_n 0, 1) := by decide +kernel
theorem dX8_cartsCome_147 : decode cX8_cartsCome 147 = .ok (.getfield 66, 3) := by decide +kernel
theorem dX8_cartsCome_150 : decode cX8_cartsCome 150 = .ok (.bipush 8, 2) := by decide +kernel
theorem dX8_cartsCome_152 : decode cX8_cartsCome 152 = .ok (.iload_n 1, 1) := by decide +kernel
theorem dX8_cartsCome_153 : decode cX8_cartsCome 153 = .ok (.imul, 1) := by decide +kernel
theorem dX8_cartsCome_154 : decode cX8_cartsCome 154 = .ok (.iload 5, 2) := by decide +kernel
theorem dX8_cartsCome_156 : decode cX8_cartsCome 156 = .ok (.iadd, 1) := by decide +kernel
theorem dX8_cartsCome_157 : decode cX8_cartsCome 157 = .ok (.dup2, 1) := by decide +kernel
theorem dX8_cartsCome_158 : decode cX8_cartsCome 158 = .ok (.laload, 1) := by decide +kernel
theorem dX8_cartsCome_159 : decode cX8_cartsCome 159 = .ok (.aload_n 0, 1) := by decide +kernel
theorem dX8_cartsCome_160 : decode cX8_cartsCome 160 = .ok (.getfield 63, 3) := by decide +kernel
theorem dX8_cartsCome_163 : decode cX8_cartsCome 163 = .ok (.iload 4, 2) := by decide +kernel
theorem dX8_cartsCome_165 : decode cX8_cartsCome 165 = .ok (.iaload, 1) := by decide +kernel
theorem dX8_cartsCome_166 : decode cX8_cartsCome 166 = .ok (.i2l, 1) := by decide +kernel
theorem dX8_cartsCome_167 : decode cX8_cartsCome 167 = .ok (.lload 6, 2) := by decide +kernel
theorem dX8_cartsCome_169 : decode cX8_cartsCome 169 = .ok (.lsub, 1) := by decide +kernel
theorem dX8_cartsCome_170 : decode cX8_cartsCome 170 = .ok (.ladd, 1) := by decide +kernel
theorem dX8_cartsCome_171 : decode cX8_cartsCome 171 = .ok (.lastore, 1) := by decide +kernel
theorem dX8_cartsCome_172 : decode cX8_cartsCome 172 = .ok (.iinc 3 1, 3) := by decide +kernel
theorem dX8_cartsCome_175 : decode cX8_cartsCome 175 = .ok (.goto (-171), 3) := by decide +kernel
theorem dX8_cartsCome_178 : decode cX8_cartsCome 178 = .ok (.aload_n 0, 1) := by decide +kernel
theorem dX8_cartsCome_179 : decode cX8_cartsCome 179 = .ok (.getfield 54, 3) := by decide +kernel
theorem dX8_cartsCome_182 : decode cX8_cartsCome 182 = .ok (.iload_n 1, 1) := by decide +kernel
theorem dX8_cartsCome_183 : decode cX8_cartsCome 183 = .ok (.iload_n 2, 1) := by decide +kernel
theorem dX8_cartsCome_184 : decode cX8_cartsCome 184 = .ok (.iastore, 1) := by decide +kernel
theorem dX8_cartsCome_185 : decode cX8_cartsCome 185 = .ok (.return_, 1) := by decide +kernel
theorem dX8_harvests_0 : decode cX8_harvests 0 = .ok (.bipush 8, 2) := by decide +kernel
theorem dX8_harvests_2 : decode cX8_harvests 2 = .ok (.iload_n 1, 1) := by decide +kernel
theorem dX8_harvests_3 : decode cX8_harvests 3 = .ok (.imul, 1) := by decide +kernel
theorem dX8_harvests_4 : decode cX8_harvests 4 = .ok (.iload_n 2, 1) := by decide +kernel
theorem dX8_harvests_5 : decode cX8_harvests 5 = .ok (.iadd, 1) := by decide +kernel
theorem dX8_harvests_6 : decode cX8_harvests 6 = .ok (.istore_n 3, 1) := by decide +kernel
theorem dX8_harvests_7 : decode cX8_harvests 7 = .ok (.iload_n 1, 1) := by decide +kernel
theorem dX8_harvests_8 : decode cX8_harvests 8 = .ok (.ifCond .ne 36, 3) := by decide +kernel
theorem dX8_harvests_11 : decode cX8_harvests 11 = .ok (.aload_n 0, 1) := by decide +kernel
theorem dX8_harvests_12 : decode cX8_harvests 12 = .ok (.getfield 29, 3) := by decide +kernel
theorem dX8_harvests_15 : decode cX8_harvests 15 = .ok (.iload_n 2, 1) := by decide +kernel
theorem dX8_harvests_16 : decode cX8_harvests 16 = .ok (.iaload, 1) := by decide +kernel
theorem dX8_harvests_17 : decode cX8_harvests 17 = .ok (.iconst (-1), 1) := by decide +kernel
theorem dX8_harvests_18 : decode cX8_harvests 18 = .ok (.if_icmp .eq 26, 3) := by decide +kernel
theorem dX8_harvests_21 : decode cX8_harvests 21 = .ok (.aload_n 0, 1) := by decide +kernel
theorem dX8_harvests_22 : decode cX8_harvests 22 = .ok (.getfield 66, 3) := by decide +kernel
theorem dX8_harvests_25 : decode cX8_harvests 25 = .ok (.iload_n 3, 1) := by decide +kernel
theorem dX8_harvests_26 : decode cX8_harvests 26 = .ok (.dup2, 1) := by decide +kernel
theorem dX8_harvests_27 : decode cX8_harvests 27 = .ok (.laload, 1) := by decide +kernel
theorem dX8_harvests_28 : decode cX8_harvests 28 = .ok (.aload_n 0, 1) := by decide +kernel
theorem dX8_harvests_29 : decode cX8_harvests 29 = .ok (.getfield 29, 3) := by decide +kernel
theorem dX8_harvests_32 : decode cX8_harvests 32 = .ok (.iload_n 2, 1) := by decide +kernel
theorem dX8_harvests_33 : decode cX8_harvests 33 = .ok (.iaload, 1) := by decide +kernel
theorem dX8_harvests_34 : decode cX8_harvests 34 = .ok (.i2l, 1) := by decide +kernel
theorem dX8_harvests_35 : decode cX8_harvests 35 = .ok (.ladd, 1) := by decide +kernel
theorem dX8_harvests_36 : decode cX8_harvests 36 = .ok (.lastore, 1) := by decide +kernel
theorem dX8_harvests_37 : decode cX8_harvests 37 = .ok (.aload_n 0, 1) := by decide +kernel
theorem dX8_harvests_38 : decode cX8_harvests 38 = .ok (.getfield 29, 3) := by decide +kernel
theorem dX8_harvests_41 : decode cX8_harvests 41 = .ok (.iload_n 2, 1) := by decide +kernel
theorem dX8_harvests_42 : decode cX8_harvests 42 = .ok (.iconst (-1), 1) := by decide +kernel
theorem dX8_harvests_43 : decode cX8_harvests 43 = .ok (.iastore, 1) := by decide +kernel
theorem dX8_harvests_44 : decode cX8_harvests 44 = .ok (.aload_n 0, 1) := by decide +kernel
theorem dX8_harvests_45 : decode cX8_harvests 45 = .ok (.getfield 47, 3) := by decide +kernel
theorem dX8_harvests_48 : decode cX8_harvests 48 = .ok (.iload_n 1, 1) := by decide +kernel
theorem dX8_harvests_49 : decode cX8_harvests 49 = .ok (.iaload, 1) := by decide +kernel
theorem dX8_harvests_50 : decode cX8_harvests 50 = .ok (.bipush 12, 2) := by decide +kernel
theorem dX8_harvests_52 : decode cX8_harvests 52 = .ok (.irem, 1) := by decide +kernel
theorem dX8_harvests_53 : decode cX8_harvests 53 = .ok (.bipush 9, 2) := by decide +kernel
theorem dX8_harvests_55 : decode cX8_harvests 55 = .ok (.if_icmp .eq 4, 3) := by decide +kernel
theorem dX8_harvests_58 : decode cX8_harvests 58 = .ok (.return_, 1) := by decide +kernel
theorem dX8_harvests_59 : decode cX8_harvests 59 = .ok (.aload_n 0, 1) := by decide +kernel
theorem dX8_harvests_60 : decode cX8_harvests 60 = .ok (.getfield 81, 3) := by decide +kernel
theorem dX8_harvests_63 : decode cX8_harvests 63 = .ok (.iload_n 3, 1) := by decide +kernel
theorem dX8_harvests_64 : decode cX8_harvests 64 = .ok (.laload, 1) := by decide +kernel
theorem dX8_harvests_65 : decode cX8_harvests 65 = .ok (.aload_n 0, 1) := by decide +kernel
theorem dX8_harvests_66 : decode cX8_harvests 66 = .ok (.getfield 66, 3) := by decide +kernel
theorem dX8_harvests_69 : decode cX8_harvests 69 = .ok (.iload_n 3, 1) := by decide +kernel
theorem dX8_harvests_70 : decode cX8_harvests 70 = .ok (.laload, 1) := by decide +kernel
theorem dX8_harvests_71 : decode cX8_harvests 71 = .ok (.aload_n 0, 1) := by decide +kernel
theorem dX8_harvests_72 : decode cX8_harvests 72 = .ok (.iload_n 1, 1) := by decide +kernel
theorem dX8_harvests_73 : decode cX8_harvests 73 = .ok (.iload_n 2, 1) := by decide +kernel
theorem dX8_harvests_74 : decode cX8_harvests 74 = .ok (.invokevirtual 173, 3) := by decide +kernel
theorem dX8_harvests_77 : decode cX8_harvests 77 = .ok (.invokestatic 177, 3) := by decide +kernel
theorem dX8_harvests_80 : decode cX8_harvests 80 = .ok (.invokestatic 177, 3) := by decide +kernel
theorem dX8_harvests_83 : decode cX8_harvests 83 = .ok (.lstore 4, 2) := by decide +kernel
theorem dX8_harvests_85 : decode cX8_harvests 85 = .ok (.aload_n 0, 1) := by decide +kernel
theorem dX8_harvests_86 : decode cX8_harvests 86 = .ok (.getfield 66, 3) := by decide +kernel
theorem dX8_harvests_89 : decode cX8_harvests 89 = .ok (.iload_n 3, 1) := by decide +kernel
theorem dX8_harvests_90 : decode cX8_harvests 90 = .ok (.dup2, 1) := by decide +kernel
theorem dX8_harvests_91 : decode cX8_harvests 91 = .ok (.laload, 1) := by decide +kernel
theorem dX8_harvests_92 : decode cX8_harvests 92 = .ok (.lload 4, 2) := by decide +kernel
theorem dX8_harvests_94 : decode cX8_harvests 94 = .ok (.lsub, 1) := by decide +kernel
theorem dX8_harvests_95 : decode cX8_harvests 95 = .ok (.lastore, 1) := by decide +kernel
theorem dX8_harvests_96 : decode cX8_harvests 96 = .ok (.aload_n 0, 1) := by decide +kernel
theorem dX8_harvests_97 : decode cX8_harvests 97 = .ok (.getfield 81, 3) := by decide +kernel
theorem dX8_harvests_100 : decode cX8_harvests 100 = .ok (.iload_n 3, 1) := by decide +kernel
theorem dX8_harvests_101 : decode cX8_harvests 101 = .ok (.dup2, 1) := by decide +kernel
theorem dX8_harvests_102 : decode cX8_harvests 102 = .ok (.laload, 1) := by decide +kernel
theorem dX8_harvests_103 : decode cX8_harvests 103 = .ok (.lload 4, 2) := by decide +kernel
theorem dX8_harvests_105 : decode cX8_harvests 105 = .ok (.lsub, 1) := by decide +kernel
theorem dX8_harvests_106 : decode cX8_harvests 106 = .ok (.lastore, 1) := by decide +kernel
theorem dX8_harvests_107 : decode cX8_harvests 107 = .ok (.aload_n 0, 1) := by decide +kernel
theorem dX8_harvests_108 : decode cX8_harvests 108 = .ok (.iload_n 3, 1) := by decide +kernel
theorem dX8_harvests_109 : decode cX8_harvests 109 = .ok (.lload 4, 2) := by decide +kernel
theorem dX8_harvests_111 : decode cX8_harvests 111 = .ok (.aload_n 0, 1) := by decide +kernel
theorem dX8_harvests_112 : decode cX8_harvests 112 = .ok (.getfield 47, 3) := by decide +kernel
theorem dX8_harvests_115 : decode cX8_harvests 115 = .ok (.iload_n 1, 1) := by decide +kernel
theorem dX8_harvests_116 : decode cX8_harvests 116 = .ok (.iaload, 1) := by decide +kernel
theorem dX8_harvests_117 : decode cX8_harvests 117 = .ok (.invokevirtual 181, 3) := by decide +kernel
theorem dX8_harvests_120 : decode cX8_harvests 120 = .ok (.return_, 1) := by decide +kernel
theorem dX8_trades_0 : decode cX8_trades 0 = .ok (.bipush 8, 2) := by decide +kernel
theorem dX8_trades_2 : decode cX8_trades 2 = .ok (.iload_n 1, 1) := by decide +kernel
theorem dX8_trades_3 : decode cX8_trades 3 = .ok (.imul, 1) := by decide +kernel
theorem dX8_trades_4 : decode cX8_trades 4 = .ok (.iload_n 2, 1) := by decide +kernel
theorem dX8_trades_5 : decode cX8_trades 5 = .ok (.iadd, 1) := by decide +kernel
theorem dX8_trades_6 : decode cX8_trades 6 = .ok (.istore 4, 2) := by decide +kernel
theorem dX8_trades_8 : decode cX8_trades 8 = .ok (.aload_n 0, 1) := by decide +kernel
theorem dX8_trades_9 : decode cX8_trades 9 = .ok (.iload 4, 2) := by decide +kernel
theorem dX8_trades_11 : decode cX8_trades 11 = .ok (.iload_n 2, 1) := by decide +kernel
theorem dX8_trades_12 : decode cX8_trades 12 = .ok (.invokevirtual 185, 3) := by decide +kernel
theorem dX8_trades_15 : decode cX8_trades 15 = .ok (.lstore 5, 2) := by decide +kernel
theorem dX8_trades_17 : decode cX8_trades 17 = .ok (.lload 5, 2) := by decide +kernel
theorem dX8_trades_19 : decode cX8_trades 19 = .ok (.aload_n 3, 1) := by decide +kernel
theorem dX8_trades_20 : decode cX8_trades 20 = .ok (.iconst 0, 1) := by decide +kernel
theorem dX8_trades_21 : decode cX8_trades 21 = .ok (.iaload, 1) := by decide +kernel
theorem dX8_trades_22 : decode cX8_trades 22 = .ok (.i2l, 1) := by decide +kernel
theorem dX8_trades_23 : decode cX8_trades 23 = .ok (.lcmp, 1) := by decide +kernel
theorem dX8_trades_24 : decode cX8_trades 24 = .ok (.ifCond .gt 111, 3) := by decide +kernel
theorem dX8_trades_27 : decode cX8_trades 27 = .ok (.aload_n 3, 1) := by decide +kernel
theorem dX8_trades_28 : decode cX8_trades 28 = .ok (.iconst 1, 1) := by decide +kernel
theorem dX8_trades_29 : decode cX8_trades 29 = .ok (.iaload, 1) := by decide +kernel
theorem dX8_trades_30 : decode cX8_trades 30 = .ok (.i2l, 1) := by decide +kernel
theorem dX8_trades_31 : decode cX8_trades 31 = .ok (.aload_n 0, 1) := by decide +kernel
theorem dX8_trades_32 : decode cX8_trades 32 = .ok (.iload_n 1, 1) := by decide +kernel
theorem dX8_trades_33 : decode cX8_trades 33 = .ok (.iload_n 2, 1) := by decide +kernel
theorem dX8_trades_34 : decode cX8_trades 34 = .ok (.invokevirtual 173, 3) := by decide +kernel
theorem dX8_trades_37 : decode cX8_trades 37 = .ok (.aload_n 0, 1) := by decide +kernel
theorem dX8_trades_38 : decode cX8_trades 38 = .ok (.getfield 66, 3) := by decide +kernel
theorem dX8_trades_41 : decode cX8_trades 41 = .ok (.iload 4, 2) := by decide +kernel
theorem dX8_trades_43 : decode cX8_trades 43 = .ok (.laload, 1) := by decide +kernel
theorem dX8_trades_44 : decode cX8_trades 44 = .ok (.invokestatic 177, 3) := by decide +kernel
theorem dX8_trades_47 : decode cX8_trades 47 = .ok (.invokestatic 177, 3) := by decide +kernel
theorem dX8_trades_50 : decode cX8_trades 50 = .ok (.lstore 7, 2) := by decide +kernel
theorem dX8_trades_52 : decode cX8_trades 52 = .ok (.lload 5, 2) := by decide +kernel
theorem dX8_trades_54 : decode cX8_trades 54 = .ok (.lconst 0, 1) := by decide +kernel
theorem dX8_trades_55 : decode cX8_trades 55 = .ok (.lcmp, 1) := by decide +kernel
theorem dX8_trades_56 : decode cX8_trades 56 = .ok (.ifCond .ne 8, 3) := by decide +kernel
theorem dX8_trades_59 : decode cX8_trades 59 = .ok (.lload 7, 2) := by decide +kernel
theorem dX8_trades_61 : decode cX8_trades 61 = .ok (.goto 17, 3) := by decide +kernel
theorem dX8_trades_64 : decode cX8_trades 64 = .ok (.lload 7, 2) := by decide +kernel
theorem dX8_trades_66 : decode cX8_trades 66 = .ok (.aload_n 0, 1) := by decide +kernel
theorem dX8_trades_67 : decode cX8_trades 67 = .ok (.getfield 50, 3) := by decide +kernel
theorem dX8_trades_70 : decode cX8_trades 70 = .ok (.iload_n 1, 1) := by decide +kernel
theorem dX8_trades_71 : decode cX8_trades 71 = .ok (.laload, 1) := by decide +kernel
theorem dX8_trades_72 : decode cX8_trades 72 = .ok (.lload 5, 2) := by decide +kernel
theorem dX8_trades_74 : decode cX8_trades 74 = .ok (.ldiv, 1) := by decide +kernel
theorem dX8_trades_75 : decode cX8_trades 75 = .ok (.invokestatic 177, 3) := by decide +kernel
theorem dX8_trades_78 : decode cX8_trades 78 = .ok (.lstore 7, 2) := by decide +kernel
theorem dX8_trades_80 : decode cX8_trades 80 = .ok (.aload_n 0, 1) := by decide +kernel
theorem dX8_trades_81 : decode cX8_trades 81 = .ok (.getfield 50, 3) := by decide +kernel
theorem dX8_trades_84 : decode cX8_trades 84 = .ok (.iload_n 1, 1) := by decide +kernel
theorem dX8_trades_85 : decode cX8_trades 85 = .ok (.dup2, 1) := by decide +kernel
theorem dX8_trades_86 : decode cX8_trades 86 = .ok (.laload, 1) := by decide +kernel
theorem dX8_trades_87 : decode cX8_trades 87 = .ok (.lload 7, 2) := by decide +kernel
theorem dX8_trades_89 : decode cX8_trades 89 = .ok (.lload 5, 2) := by decide +kernel
theorem dX8_trades_91 : decode cX8_trades 91 = .ok (.lmul, 1) := by decide +kernel
theorem dX8_trades_92 : decode cX8_trades 92 = .ok (.lsub, 1) := by decide +kernel
theorem dX8_trades_93 : decode cX8_trades 93 = .ok (.lastore, 1) := by decide +kernel
theorem dX8_trades_94 : decode cX8_trades 94 = .ok (.aload_n 0, 1) := by decide +kernel
theorem dX8_trades_95 : decode cX8_trades 95 = .ok (.getfield 66, 3) := by decide +kernel
theorem dX8_trades_98 : decode cX8_trades 98 = .ok (.iload 4, 2) := by decide +kernel
theorem dX8_trades_100 : decode cX8_trades 100 = .ok (.dup2, 1) := by decide +kernel
theorem dX8_trades_101 : decode cX8_trades 101 = .ok (.laload, 1) := by decide +kernel
theorem dX8_trades_102 : decode cX8_trades 102 = .ok (.lload 7, 2) := by decide +kernel
theorem dX8_trades_104 : decode cX8_trades 104 = .ok (.lsub, 1) := by decide +kernel
theorem dX8_trades_105 : decode cX8_trades 105 = .ok (.lastore, 1) := by decide +kernel
theorem dX8_trades_106 : decode cX8_trades 106 = .ok (.aload_n 0, 1) := by decide +kernel
theorem dX8_trades_107 : decode cX8_trades 107 = .ok (.getfield 84, 3) := by decide +kernel
theorem dX8_trades_110 : decode cX8_trades 110 = .ok (.iload 4, 2) := by decide +kernel
theorem dX8_trades_112 : decode cX8_trades 112 = .ok (.dup2, 1) := by decide +kernel
theorem dX8_trades_113 : decode cX8_trades 113 = .ok (.laload, 1) := by decide +kernel
theorem dX8_trades_114 : decode cX8_trades 114 = .ok (.lload 7, 2) := by decide +kernel
theorem dX8_trades_116 : decode cX8_trades 116 = .ok (.ladd, 1) := by decide +kernel
theorem dX8_trades_117 : decode cX8_trades 117 = .ok (.lastore, 1) := by decide +kernel
theorem dX8_trades_118 : decode cX8_trades 118 = .ok (.aload_n 0, 1) := by decide +kernel
theorem dX8_trades_119 : decode cX8_trades 119 = .ok (.iload 4, 2) := by decide +kernel
theorem dX8_trades_121 : decode cX8_trades 121 = .ok (.lload 7, 2) := by decide +kernel
theorem dX8_trades_123 : decode cX8_trades 123 = .ok (.aload_n 0, 1) := by decide +kernel
theorem dX8_trades_124 : decode cX8_trades 124 = .ok (.getfield 47, 3) := by decide +kernel
theorem dX8_trades_127 : decode cX8_trades 127 = .ok (.iload_n 1, 1) := by decide +kernel
theorem dX8_trades_128 : decode cX8_trades 128 = .ok (.iaload, 1) := by decide +kernel
theorem dX8_trades_129 : decode cX8_trades 129 = .ok (.invokevirtual 181, 3) := by decide +kernel
theorem dX8_trades_132 : decode cX8_trades 132 = .ok (.goto 74, 3) := by decide +kernel
theorem dX8_trades_135 : decode cX8_trades 135 = .ok (.lload 5, 2) := by decide +kernel
theorem dX8_trades_137 : decode cX8_trades 137 = .ok (.aload_n 3, 1) := by decide +kernel
theorem dX8_trades_138 : decode cX8_trades 138 = .ok (.iconst 2, 1) := by decide +kernel
theorem dX8_trades_139 : decode cX8_trades 139 = .ok (.iaload, 1) := by decide +kernel
theorem dX8_trades_140 : decode cX8_trades 140 = .ok (.i2l, 1) := by decide +kernel
theorem dX8_trades_141 : decode cX8_trades 141 = .ok (.lcmp, 1) := by decide +kernel
theorem dX8_trades_142 : decode cX8_trades 142 = .ok (.ifCond .lt 64, 3) := by decide +kernel
theorem dX8_trades_145 : decode cX8_trades 145 = .ok (.aload_n 3, 1) := by decide +kernel
theorem dX8_trades_146 : decode cX8_trades 146 = .ok (.iconst 3, 1) := by decide +kernel
theorem dX8_trades_147 : decode cX8_trades 147 = .ok (.iaload, 1) := by decide +kernel
theorem dX8_trades_148 : decode cX8_trades 148 = .ok (.i2l, 1) := by decide +kernel
theorem dX8_trades_149 : decode cX8_trades 149 = .ok (.aload_n 0, 1) := by decide +kernel
theorem dX8_trades_150 : decode cX8_trades 150 = .ok (.iload 4, 2) := by decide +kernel
theorem dX8_trades_152 : decode cX8_trades 152 = .ok (.invokevirtual 169, 3) := by decide +kernel
theorem dX8_trades_155 : decode cX8_trades 155 = .ok (.invokestatic 177, 3) := by decide +kernel
theorem dX8_trades_158 : decode cX8_trades 158 = .ok (.lstore 7, 2) := by decide +kernel
theorem dX8_trades_160 : decode cX8_trades 160 = .ok (.aload_n 0, 1) := by decide +kernel
theorem dX8_trades_161 : decode cX8_trades 161 = .ok (.iload 4, 2) := by decide +kernel
theorem dX8_trades_163 : decode cX8_trades 163 = .ok (.lload 7, 2) := by decide +kernel
theorem dX8_trades_165 : decode cX8_trades 165 = .ok (.invokevirtual 188, 3) := by decide +kernel
theorem dX8_trades_168 : decode cX8_trades 168 = .ok (.aload_n 0, 1) := by decide +kernel
theorem dX8_trades_169 : decode cX8_trades 169 = .ok (.getfield 50, 3) := by decide +kernel
theorem dX8_trades_172 : decode cX8_trades 172 = .ok (.iload_n 1, 1) := by decide +kernel
theorem dX8_trades_173 : decode cX8_trades 173 = .ok (.dup2, 1) := by decide +kernel
theorem dX8_trades_174 : decode cX8_trades 174 = .ok (.laload, 1) := by decide +kernel
theorem dX8_trades_175 : decode cX8_trades 175 = .ok (.lload 7, 2) := by decide +kernel
theorem dX8_trades_177 : decode cX8_trades 177 = .ok (.lload 5, 2) := by decide +kernel
theorem dX8_trades_179 : decode cX8_trades 179 = .ok (.lmul, 1) := by decide +kernel
theorem dX8_trades_180 : decode cX8_trades 180 = .ok (.ladd, 1) := by decide +kernel
theorem dX8_trades_181 : decode cX8_trades 181 = .ok (.lastore, 1) := by decide +kernel
theorem dX8_trades_182 : decode cX8_trades 182 = .ok (.aload_n 0, 1) := by decide +kernel
theorem dX8_trades_183 : decode cX8_trades 183 = .ok (.getfield 66, 3) := by decide +kernel
theorem dX8_trades_186 : decode cX8_trades 186 = .ok (.iload 4, 2) := by decide +kernel
theorem dX8_trades_188 : decode cX8_trades 188 = .ok (.dup2, 1) := by decide +kernel
theorem dX8_trades_189 : decode cX8_trades 189 = .ok (.laload, 1) := by decide +kernel
theorem dX8_trades_190 : decode cX8_trades 190 = .ok (.lload 7, 2) := by decide +kernel
theorem dX8_trades_192 : decode cX8_trades 192 = .ok (.ladd, 1) := by decide +kernel
theorem dX8_trades_193 : decode cX8_trades 193 = .ok (.lastore, 1) := by decide +kernel
theorem dX8_trades_194 : decode cX8_trades 194 = .ok (.aload_n 0, 1) := by decide +kernel
theorem dX8_trades_195 : decode cX8_trades 195 = .ok (.getfield 87, 3) := by decide +kernel
theorem dX8_trades_198 : decode cX8_trades 198 = .ok (.iload 4, 2) := by decide +kernel
theorem dX8_trades_200 : decode cX8_trades 200 = .ok (.dup2, 1) := by decide +kernel
theorem dX8_trades_201 : decode cX8_trades 201 = .ok (.laload, 1) := by decide +kernel
theorem dX8_trades_202 : decode cX8_trades 202 = .ok (.lload 7, 2) := by decide +kernel
theorem dX8_trades_204 : decode cX8_trades 204 = .ok (.ladd, 1) := by decide +kernel
theorem dX8_trades_205 : decode cX8_trades 205 = .ok (.lastore, 1) := by decide +kernel
theorem dX8_trades_206 : decode cX8_trades 206 = .ok (.return_, 1) := by decide +kernel
theorem dX8_spoils_0 : decode cX8_spoils 0 = .ok (.iconst 0, 1) := by decide +kernel
theorem dX8_spoils_1 : decode cX8_spoils 1 = .ok (.istore 4, 2) := by decide +kernel
theorem dX8_spoils_3 : decode cX8_spoils 3 = .ok (.iload 4, 2) := by decide +kernel
theorem dX8_spoils_5 : decode cX8_spoils 5 = .ok (.aload_n 0, 1) := by decide +kernel
theorem dX8_spoils_6 : decode cX8_spoils 6 = .ok (.getfield 69, 3) := by decide +kernel
theorem dX8_spoils_9 : decode cX8_spoils 9 = .ok (.iload_n 1, 1) := by decide +kernel
theorem dX8_spoils_10 : decode cX8_spoils 10 = .ok (.iaload, 1) := by decide +kernel
theorem dX8_spoils_11 : decode cX8_spoils 11 = .ok (.if_icmp .ge 120, 3) := by decide +kernel
theorem dX8_spoils_14 : decode cX8_spoils 14 = .ok (.bipush 40, 2) := by decide +kernel
theorem dX8_spoils_16 : decode cX8_spoils 16 = .ok (.iload_n 1, 1) := by decide +kernel
theorem dX8_spoils_17 : decode cX8_spoils 17 = .ok (.imul, 1) := by decide +kernel
theorem dX8_spoils_18 : decode cX8_spoils 18 = .ok (.iload 4, 2) := by decide +kernel
theorem dX8_spoils_20 : decode cX8_spoils 20 = .ok (.iadd, 1) := by decide +kernel
theorem dX8_spoils_21 : decode cX8_spoils 21 = .ok (.istore 5, 2) := by decide +kernel
theorem dX8_spoils_23 : decode cX8_spoils 23 = .ok (.iload_n 2, 1) := by decide +kernel
theorem dX8_spoils_24 : decode cX8_spoils 24 = .ok (.aload_n 0, 1) := by decide +kernel
theorem dX8_spoils_25 : decode cX8_spoils 25 = .ok (.getfield 93, 3) := by decide +kernel
theorem dX8_spoils_28 : decode cX8_spoils 28 = .ok (.iload 5, 2) := by decide +kernel
theorem dX8_spoils_30 : decode cX8_spoils 30 = .ok (.iaload, 1) := by decide +kernel
theorem dX8_spoils_31 : decode cX8_spoils 31 = .ok (.isub, 1) := by decide +kernel
theorem dX8_spoils_32 : decode cX8_spoils 32 = .ok (.aload_n 3, 1) := by decide +kernel
theorem dX8_spoils_33 : decode cX8_spoils 33 = .ok (.iconst 5, 1) := by decide +kernel
theorem dX8_spoils_34 : decode cX8_spoils 34 = .ok (.iaload, 1) := by decide +kernel
theorem dX8_spoils_35 : decode cX8_spoils 35 = .ok (.if_icmp .ge 6, 3) := by decide +kernel
theorem dX8_spoils_38 : decode cX8_spoils 38 = .ok (.goto 87, 3) := by decide +kernel
theorem dX8_spoils_41 : decode cX8_spoils 41 = .ok (.aload_n 0, 1) := by decide +kernel
theorem dX8_spoils_42 : decode cX8_spoils 42 = .ok (.getfield 99, 3) := by decide +kernel
theorem dX8_spoils_45 : decode cX8_spoils 45 = .ok (.iload 5, 2) := by decide +kernel
theorem dX8_spoils_47 : decode cX8_spoils 47 = .ok (.iaload, 1) := by decide +kernel
theorem dX8_spoils_48 : decode cX8_spoils 48 = .ok (.i2l, 1) := by decide +kernel
theorem dX8_spoils_49 : decode cX8_spoils 49 = .ok (.aload_n 3, 1) := by decide +kernel
theorem dX8_spoils_50 : decode cX8_spoils 50 = .ok (.bipush 6, 2) := by decide +kernel
theorem dX8_spoils_52 : decode cX8_spoils 52 = .ok (.iaload, 1) := by decide +kernel
theorem dX8_spoils_53 : decode cX8_spoils 53 = .ok (.i2l, 1) := by decide +kernel
theorem dX8_spoils_54 : decode cX8_spoils 54 = .ok (.lmul, 1) := by decide +kernel
theorem dX8_spoils_55 : decode cX8_spoils 55 = .ok (.ldc2_w 192, 3) := by decide +kernel
theorem dX8_spoils_58 : decode cX8_spoils 58 = .ok (.ladd, 1) := by decide +kernel
theorem dX8_spoils_59 : decode cX8_spoils 59 = .ok (.ldc2_w 194, 3) := by decide +kernel
theorem dX8_spoils_62 : decode cX8_spoils 62 = .ok (.ldiv, 1) := by decide +kernel
theorem dX8_spoils_63 : decode cX8_spoils 63 = .ok (.l2i, 1) := by decide +kernel
theorem dX8_spoils_64 : decode cX8_spoils 64 = .ok (.istore 6, 2) := by decide +kernel
theorem dX8_spoils_66 : decode cX8_spoils 66 = .ok (.aload_n 0, 1) := by decide +kernel
theorem dX8_spoils_67 : decode cX8_spoils 67 = .ok (.getfield 99, 3) := by decide +kernel
theorem dX8_spoils_70 : decode cX8_spoils 70 = .ok (.iload 5, 2) := by decide +kernel
theorem dX8_spoils_72 : decode cX8_spoils 72 = .ok (.dup2, 1) := by decide +kernel
theorem dX8_spoils_73 : decode cX8_spoils 73 = .ok (.iaload, 1) := by decide +kernel
theorem dX8_spoils_74 : decode cX8_spoils 74 = .ok (.iload 6, 2) := by decide +kernel
theorem dX8_spoils_76 : decode cX8_spoils 76 = .ok (.isub, 1) := by decide +kernel
theorem dX8_spoils_77 : decode cX8_spoils 77 = .ok (.iastore, 1) := by decide +kernel
theorem dX8_spoils_78 : decode cX8_spoils 78 = .ok (.aload_n 0, 1) := by decide +kernel
theorem dX8_spoils_79 : decode cX8_spoils 79 = .ok (.getfield 96, 3) := by decide +kernel
theorem dX8_spoils_82 : decode cX8_spoils 82 = .ok (.iload 5, 2) := by decide +kernel
theorem dX8_spoils_84 : decode cX8_spoils 84 = .ok (.dup2, 1) := by decide +kernel
theorem dX8_spoils_85 : decode cX8_spoils 85 = .ok (.iaload, 1) := by decide +kernel
theorem dX8_spoils_86 : decode cX8_spoils 86 = .ok (.iload 6, 2) := by decide +kernel
theorem dX8_spoils_88 : decode cX8_spoils 88 = .ok (.isub, 1) := by decide +kernel
theorem dX8_spoils_89 : decode cX8_spoils 89 = .ok (.iastore, 1) := by decide +kernel
theorem dX8_spoils_90 : decode cX8_spoils 90 = .ok (.aload_n 0, 1) := by decide +kernel
theorem dX8_spoils_91 : decode cX8_spoils 91 = .ok (.getfield 78, 3) := by decide +kernel
theorem dX8_spoils_94 : decode cX8_spoils 94 = .ok (.iload_n 1, 1) := by decide +kernel
theorem dX8_spoils_95 : decode cX8_spoils 95 = .ok (.dup2, 1) := by decide +kernel
theorem dX8_spoils_96 : decode cX8_spoils 96 = .ok (.laload, 1) := by decide +kernel
theorem dX8_spoils_97 : decode cX8_spoils 97 = .ok (.iload 6, 2) := by decide +kernel
theorem dX8_spoils_99 : decode cX8_spoils 99 = .ok (.i2l, 1) := by decide +kernel
theorem dX8_spoils_100 : decode cX8_spoils 100 = .ok (.ladd, 1) := by decide +kernel
theorem dX8_spoils_101 : decode cX8_spoils 101 = .ok (.lastore, 1) := by decide +kernel
theorem dX8_spoils_102 : decode cX8_spoils 102 = .ok (.aload_n 0, 1) := by decide +kernel
theorem dX8_spoils_103 : decode cX8_spoils 103 = .ok (.getfield 99, 3) := by decide +kernel
theorem dX8_spoils_106 : decode cX8_spoils 106 = .ok (.iload 5, 2) := by decide +kernel
theorem dX8_spoils_108 : decode cX8_spoils 108 = .ok (.iaload, 1) := by decide +kernel
theorem dX8_spoils_109 : decode cX8_spoils 109 = .ok (.ifCond .le 6, 3) := by decide +kernel
theorem dX8_spoils_112 : decode cX8_spoils 112 = .ok (.goto 13, 3) := by decide +kernel
theorem dX8_spoils_115 : decode cX8_spoils 115 = .ok (.aload_n 0, 1) := by decide +kernel
theorem dX8_spoils_116 : decode cX8_spoils 116 = .ok (.iload_n 1, 1) := by decide +kernel
theorem dX8_spoils_117 : decode cX8_spoils 117 = .ok (.iload 4, 2) := by decide +kernel
theorem dX8_spoils_119 : decode cX8_spoils 119 = .ok (.invokevirtual 165, 3) := by decide +kernel
theorem dX8_spoils_122 : decode cX8_spoils 122 = .ok (.iinc 4 (-1), 3) := by decide +kernel
theorem dX8_spoils_125 : decode cX8_spoils 125 = .ok (.iinc 4 1, 3) := by decide +kernel
theorem dX8_spoils_128 : decode cX8_spoils 128 = .ok (.goto (-125), 3) := by decide +kernel
theorem dX8_spoils_131 : decode cX8_spoils 131 = .ok (.return_, 1) := by decide +kernel
theorem dX8_turns_0 : decode cX8_turns 0 = .ok (.aload_n 0, 1) := by decide +kernel
theorem dX8_turns_1 : decode cX8_turns 1 = .ok (.iload_n 1, 1) := by decide +kernel
theorem dX8_turns_2 : decode cX8_turns 2 = .ok (.invokevirtual 169, 3) := by decide +kernel
theorem dX8_turns_5 : decode cX8_turns 5 = .ok (.iload_n 3, 1) := by decide +kernel
theorem dX8_turns_6 : decode cX8_turns 6 = .ok (.i2l, 1) := by decide +kernel
theorem dX8_turns_7 : decode cX8_turns 7 = .ok (.ladd, 1) := by decide +kernel
theorem dX8_turns_8 : decode cX8_turns 8 = .ok (.lconst 1, 1) := by decide +kernel
theorem dX8_turns_9 : decode cX8_turns 9 = .ok (.lsub, 1) := by decide +kernel
theorem dX8_turns_10 : decode cX8_turns 10 = .ok (.iload_n 3, 1) := by decide +kernel
theorem dX8_turns_11 : decode cX8_turns 11 = .ok (.i2l, 1) := by decide +kernel
theorem dX8_turns_12 : decode cX8_turns 12 = .ok (.ldiv, 1) := by decide +kernel
theorem dX8_turns_13 : decode cX8_turns 13 = .ok (.aload_n 0, 1) := by decide +kernel
theorem dX8_turns_14 : decode cX8_turns 14 = .ok (.getfield 66, 3) := by decide +kernel
theorem dX8_turns_17 : decode cX8_turns 17 = .ok (.iload_n 1, 1) := by decide +kernel
theorem dX8_turns_18 : decode cX8_turns 18 = .ok (.laload, 1) := by decide +kernel
theorem dX8_turns_19 : decode cX8_turns 19 = .ok (.invokestatic 177, 3) := by decide +kernel
theorem dX8_turns_22 : decode cX8_turns 22 = .ok (.lstore 4, 2) := by decide +kernel
theorem dX8_turns_24 : decode cX8_turns 24 = .ok (.aload_n 0, 1) := by decide +kernel
theorem dX8_turns_25 : decode cX8_turns 25 = .ok (.iload_n 1, 1) := by decide +kernel
theorem dX8_turns_26 : decode cX8_turns 26 = .ok (.lload 4, 2) := by decide +kernel
theorem dX8_turns_28 : decode cX8_turns 28 = .ok (.invokevirtual 188, 3) := by decide +kernel
theorem dX8_turns_31 : decode cX8_turns 31 = .ok (.aload_n 0, 1) := by decide +kernel
theorem dX8_turns_32 : decode cX8_turns 32 = .ok (.iload_n 1, 1) := by decide +kernel
theorem dX8_turns_33 : decode cX8_turns 33 = .ok (.lload 4, 2) := by decide +kernel
theorem dX8_turns_35 : decode cX8_turns 35 = .ok (.iload_n 2, 1) := by decide +kernel
theorem dX8_turns_36 : decode cX8_turns 36 = .ok (.invokevirtual 181, 3) := by decide +kernel
theorem dX8_turns_39 : decode cX8_turns 39 = .ok (.return_, 1) := by decide +kernel
theorem dX8_goesBy_0 : decode cX8_goesBy 0 = .ok (.aload_n 0, 1) := by decide +kernel
theorem dX8_goesBy_1 : decode cX8_goesBy 1 = .ok (.getfield 47, 3) := by decide +kernel
theorem dX8_goesBy_4 : decode cX8_goesBy 4 = .ok (.iload_n 1, 1) := by decide +kernel
theorem dX8_goesBy_5 : decode cX8_goesBy 5 = .ok (.dup2, 1) := by decide +kernel
theorem dX8_goesBy_6 : decode cX8_goesBy 6 = .ok (.iaload, 1) := by decide +kernel
theorem dX8_goesBy_7 : decode cX8_goesBy 7 = .ok (.iconst 1, 1) := by decide +kernel
theorem dX8_goesBy_8 : decode cX8_goesBy 8 = .ok (.iadd, 1) := by decide +kernel
theorem dX8_goesBy_9 : decode cX8_goesBy 9 = .ok (.iastore, 1) := by decide +kernel
theorem dX8_goesBy_10 : decode cX8_goesBy 10 = .ok (.aload_n 0, 1) := by decide +kernel
theorem dX8_goesBy_11 : decode cX8_goesBy 11 = .ok (.iload_n 1, 1) := by decide +kernel
theorem dX8_goesBy_12 : decode cX8_goesBy 12 = .ok (.invokevirtual 196, 3) := by decide +kernel
theorem dX8_goesBy_15 : decode cX8_goesBy 15 = .ok (.iconst 0, 1) := by decide +kernel
theorem dX8_goesBy_16 : decode cX8_goesBy 16 = .ok (.istore_n 3, 1) := by decide +kernel
theorem dX8_goesBy_17 : decode cX8_goesBy 17 = .ok (.iload_n 3, 1) := by decide +kernel
theorem dX8_goesBy_18 : decode cX8_goesBy 18 = .ok (.aload_n 0, 1) := by decide +kernel
theorem dX8_goesBy_19 : decode cX8_goesBy 19 = .ok (.getfield 143, 3) := by decide +kernel
theorem dX8_goesBy_22 : decode cX8_goesBy 22 = .ok (.if_icmp .ge 15, 3) := by decide +kernel
theorem dX8_goesBy_25 : decode cX8_goesBy 25 = .ok (.aload_n 0, 1) := by decide +kernel
theorem dX8_goesBy_26 : decode cX8_goesBy 26 = .ok (.iload_n 1, 1) := by decide +kernel
theorem dX8_goesBy_27 : decode cX8_goesBy 27 = .ok (.iload_n 3, 1) := by decide +kernel
theorem dX8_goesBy_28 : decode cX8_goesBy 28 = .ok (.invokevirtual 199, 3) := by decide +kernel
theorem dX8_goesBy_31 : decode cX8_goesBy 31 = .ok (.iinc 3 1, 3) := by decide +kernel
theorem dX8_goesBy_34 : decode cX8_goesBy 34 = .ok (.goto (-17), 3) := by decide +kernel
theorem dX8_goesBy_37 : decode cX8_goesBy 37 = .ok (.iconst 0, 1) := by decide +kernel
theorem dX8_goesBy_38 : decode cX8_goesBy 38 = .ok (.istore_n 3, 1) := by decide +kernel
theorem dX8_goesBy_39 : decode cX8_goesBy 39 = .ok (.iload_n 3, 1) := by decide +kernel
theorem dX8_goesBy_40 : decode cX8_goesBy 40 = .ok (.aload_n 0, 1) := by decide +kernel
theorem dX8_goesBy_41 : decode cX8_goesBy 41 = .ok (.getfield 143, 3) := by decide +kernel
theorem dX8_goesBy_44 : decode cX8_goesBy 44 = .ok (.if_icmp .ge 16, 3) := by decide +kernel
theorem dX8_goesBy_47 : decode cX8_goesBy 47 = .ok (.aload_n 0, 1) := by decide +kernel
theorem dX8_goesBy_48 : decode cX8_goesBy 48 = .ok (.iload_n 1, 1) := by decide +kernel
theorem dX8_goesBy_49 : decode cX8_goesBy 49 = .ok (.iload_n 3, 1) := by decide +kernel
theorem dX8_goesBy_50 : decode cX8_goesBy 50 = .ok (.aload_n 2, 1) := by decide +kernel
theorem dX8_goesBy_51 : decode cX8_goesBy 51 = .ok (.invokevirtual 202, 3) := by decide +kernel
theorem dX8_goesBy_54 : decode cX8_goesBy 54 = .ok (.iinc 3 1, 3) := by decide +kernel
theorem dX8_goesBy_57 : decode cX8_goesBy 57 = .ok (.goto (-18), 3) := by decide +kernel
theorem dX8_goesBy_60 : decode cX8_goesBy 60 = .ok (.iconst 0, 1) := by decide +kernel
theorem dX8_goesBy_61 : decode cX8_goesBy 61 = .ok (.istore_n 3, 1) := by decide +kernel
theorem dX8_goesBy_62 : decode cX8_goesBy 62 = .ok (.iload_n 3, 1) := by decide +kernel
theorem dX8_goesBy_63 : decode cX8_goesBy 63 = .ok (.aload_n 0, 1) := by decide +kernel
theorem dX8_goesBy_64 : decode cX8_goesBy 64 = .ok (.getfield 143, 3) := by decide +kernel
theorem dX8_goesBy_67 : decode cX8_goesBy 67 = .ok (.if_icmp .ge 68, 3) := by decide +kernel
theorem dX8_goesBy_70 : decode cX8_goesBy 70 = .ok (.bipush 8, 2) := by decide +kernel
theorem dX8_goesBy_72 : decode cX8_goesBy 72 = .ok (.iload_n 1, 1) := by decide +kernel
theorem dX8_goesBy_73 : decode cX8_goesBy 73 = .ok (.imul, 1) := by decide +kernel
theorem dX8_goesBy_74 : decode cX8_goesBy 74 = .ok (.iload_n 3, 1) := by decide +kernel
theorem dX8_goesBy_75 : decode cX8_goesBy 75 = .ok (.iadd, 1) := by decide +kernel
theorem dX8_goesBy_76 : decode cX8_goesBy 76 = .ok (.istore 4, 2) := by decide +kernel
theorem dX8_goesBy_78 : decode cX8_goesBy 78 = .ok (.aload_n 0, 1) := by decide +kernel
theorem dX8_goesBy_79 : decode cX8_goesBy 79 = .ok (.getfield 23, 3) := by decide +kernel
theorem dX8_goesBy_82 : decode cX8_goesBy 82 = .ok (.iload_n 3, 1) := by decide +kernel
theorem dX8_goesBy_83 : decode cX8_goesBy 83 = .ok (.iaload, 1) := by decide +kernel
theorem dX8_goesBy_84 : decode cX8_goesBy 84 = .ok (.i2l, 1) := by decide +kernel
theorem dX8_goesBy_85 : decode cX8_goesBy 85 = .ok (.aload_n 0, 1) := by decide +kernel
theorem dX8_goesBy_86 : decode cX8_goesBy 86 = .ok (.getfield 66, 3) := by decide +kernel
theorem dX8_goesBy_89 : decode cX8_goesBy 89 = .ok (.iload 4, 2) := by decide +kernel
theorem dX8_goesBy_91 : decode cX8_goesBy 91 = .ok (.laload, 1) := by decide +kernel
theorem dX8_goesBy_92 : decode cX8_goesBy 92 = .ok (.invokestatic 177, 3) := by decide +kernel
theorem dX8_goesBy_95 : decode cX8_goesBy 95 = .ok (.lstore 5, 2) := by decide +kernel
theorem dX8_goesBy_97 : decode cX8_goesBy 97 = .ok (.aload_n 0, 1) := by decide +kernel
theorem dX8_goesBy_98 : decode cX8_goesBy 98 = .ok (.getfield 66, 3) := by decide +kernel
theorem dX8_goesBy_101 : decode cX8_goesBy 101 = .ok (.iload 4, 2) := by decide +kernel
theorem dX8_goesBy_103 : decode cX8_goesBy 103 = .ok (.dup2, 1) := by decide +kernel
theorem dX8_goesBy_104 : decode cX8_goesBy 104 = .ok (.laload, 1) := by decide +kernel
theorem dX8_goesBy_105 : decode cX8_goesBy 105 = .ok (.lload 5, 2) := by decide +kernel
theorem dX8_goesBy_107 : decode cX8_goesBy 107 = .ok (.lsub, 1) := by decide +kernel
theorem dX8_goesBy_108 : decode cX8_goesBy 108 = .ok (.lastore, 1) := by decide +kernel
theorem dX8_goesBy_109 : decode cX8_goesBy 109 = .ok (.aload_n 0, 1) := by decide +kernel
theorem dX8_goesBy_110 : decode cX8_goesBy 110 = .ok (.getfield 75, 3) := by decide +kernel
theorem dX8_goesBy_113 : decode cX8_goesBy 113 = .ok (.iload 4, 2) := by decide +kernel
theorem dX8_goesBy_115 : decode cX8_goesBy 115 = .ok (.dup2, 1) := by decide +kernel
theorem dX8_goesBy_116 : decode cX8_goesBy 116 = .ok (.laload, 1) := by decide +kernel
theorem dX8_goesBy_117 : decode cX8_goesBy 117 = .ok (.aload_n 0, 1) := by decide +kernel
theorem dX8_goesBy_118 : decode cX8_goesBy 118 = .ok (.getfield 23, 3) := by decide +kernel
theorem dX8_goesBy_121 : decode cX8_goesBy 121 = .ok (.iload_n 3, 1) := by decide +kernel
theorem dX8_goesBy_122 : decode cX8_goesBy 122 = .ok (.iaload, 1) := by decide +kernel
theorem dX8_goesBy_123 : decode cX8_goesBy 123 = .ok (.i2l, 1) := by decide +kernel
theorem dX8_goesBy_124 : decode cX8_goesBy 124 = .ok (.lload 5, 2) := by decide +kernel
theorem dX8_goesBy_126 : decode cX8_goesBy 126 = .ok (.lsub, 1) := by decide +kernel
theorem dX8_goesBy_127 : decode cX8_goesBy 127 = .ok (.ladd, 1) := by decide +kernel
theorem dX8_goesBy_128 : decode cX8_goesBy 128 = .ok (.lastore, 1) := by decide +kernel
theorem dX8_goesBy_129 : decode cX8_goesBy 129 = .ok (.iinc 3 1, 3) := by decide +kernel
theorem dX8_goesBy_132 : decode cX8_goesBy 132 = .ok (.goto (-70), 3) := by decide +kernel
theorem dX8_goesBy_135 : decode cX8_goesBy 135 = .ok (.iconst 0, 1) := by decide +kernel
theorem dX8_goesBy_136 : decode cX8_goesBy 136 = .ok (.istore_n 3, 1) := by decide +kernel
theorem dX8_goesBy_137 : decode cX8_goesBy 137 = .ok (.iload_n 3, 1) := by decide +kernel
theorem dX8_goesBy_138 : decode cX8_goesBy 138 = .ok (.aload_n 0, 1) := by decide +kernel
theorem dX8_goesBy_139 : decode cX8_goesBy 139 = .ok (.getfield 143, 3) := by decide +kernel
theorem dX8_goesBy_142 : decode cX8_goesBy 142 = .ok (.if_icmp .ge 26, 3) := by decide +kernel
theorem dX8_goesBy_145 : decode cX8_goesBy 145 = .ok (.aload_n 0, 1) := by decide +kernel
theorem dX8_goesBy_146 : decode cX8_goesBy 146 = .ok (.bipush 8, 2) := by decide +kernel
theorem dX8_goesBy_148 : decode cX8_goesBy 148 = .ok (.iload_n 1, 1) := by decide +kernel
theorem dX8_goesBy_149 : decode cX8_goesBy 149 = .ok (.imul, 1) := by decide +kernel
theorem dX8_goesBy_150 : decode cX8_goesBy 150 = .ok (.iload_n 3, 1) := by decide +kernel
theorem dX8_goesBy_151 : decode cX8_goesBy 151 = .ok (.iadd, 1) := by decide +kernel
theorem dX8_goesBy_152 : decode cX8_goesBy 152 = .ok (.aload_n 0, 1) := by decide +kernel
theorem dX8_goesBy_153 : decode cX8_goesBy 153 = .ok (.getfield 47, 3) := by decide +kernel
theorem dX8_goesBy_156 : decode cX8_goesBy 156 = .ok (.iload_n 1, 1) := by decide +kernel
theorem dX8_goesBy_157 : decode cX8_goesBy 157 = .ok (.iaload, 1) := by decide +kernel
theorem dX8_goesBy_158 : decode cX8_goesBy 158 = .ok (.aload_n 2, 1) := by decide +kernel
theorem dX8_goesBy_159 : decode cX8_goesBy 159 = .ok (.invokevirtual 206, 3) := by decide +kernel
theorem dX8_goesBy_162 : decode cX8_goesBy 162 = .ok (.iinc 3 1, 3) := by decide +kernel
theorem dX8_goesBy_165 : decode cX8_goesBy 165 = .ok (.goto (-28), 3) := by decide +kernel
theorem dX8_goesBy_168 : decode cX8_goesBy 168 = .ok (.iconst 0, 1) := by decide +kernel
theorem dX8_goesBy_169 : decode cX8_goesBy 169 = .ok (.istore_n 3, 1) := by decide +kernel
theorem dX8_goesBy_170 : decode cX8_goesBy 170 = .ok (.iload_n 3, 1) := by decide +kernel
theorem dX8_goesBy_171 : decode cX8_goesBy 171 = .ok (.aload_n 0, 1) := by decide +kernel
theorem dX8_goesBy_172 : decode cX8_goesBy 172 = .ok (.getfield 143, 3) := by decide +kernel
theorem dX8_goesBy_175 : decode cX8_goesBy 175 = .ok (.if_icmp .ge 48, 3) := by decide +kernel
theorem dX8_goesBy_178 : decode cX8_goesBy 178 = .ok (.aload_n 2, 1) := by decide +kernel
theorem dX8_goesBy_179 : decode cX8_goesBy 179 = .ok (.bipush 7, 2) := by decide +kernel
theorem dX8_goesBy_181 : decode cX8_goesBy 181 = .ok (.iaload, 1) := by decide +kernel
theorem dX8_goesBy_182 : decode cX8_goesBy 182 = .ok (.ifCond .le 41, 3) := by decide +kernel
theorem dX8_goesBy_185 : decode cX8_goesBy 185 = .ok (.aload_n 0, 1) := by decide +kernel
theorem dX8_goesBy_186 : decode cX8_goesBy 186 = .ok (.getfield 47, 3) := by decide +kernel
theorem dX8_goesBy_189 : decode cX8_goesBy 189 = .ok (.iload_n 1, 1) := by decide +kernel
theorem dX8_goesBy_190 : decode cX8_goesBy 190 = .ok (.iaload, 1) := by decide +kernel
theorem dX8_goesBy_191 : decode cX8_goesBy 191 = .ok (.bipush 12, 2) := by decide +kernel
theorem dX8_goesBy_193 : decode cX8_goesBy 193 = .ok (.irem, 1) := by decide +kernel
theorem dX8_goesBy_194 : decode cX8_goesBy 194 = .ok (.ifCond .ne 29, 3) := by decide +kernel
theorem dX8_goesBy_197 : decode cX8_goesBy 197 = .ok (.aload_n 0, 1) := by decide +kernel
theorem dX8_goesBy_198 : decode cX8_goesBy 198 = .ok (.bipush 8, 2) := by decide +kernel
theorem dX8_goesBy_200 : decode cX8_goesBy 200 = .ok (.iload_n 1, 1) := by decide +kernel
theorem dX8_goesBy_201 : decode cX8_goesBy 201 = .ok (.imul, 1) := by decide +kernel
theorem dX8_goesBy_202 : decode cX8_goesBy 202 = .ok (.iload_n 3, 1) := by decide +kernel
theorem dX8_goesBy_203 : decode cX8_goesBy 203 = .ok (.iadd, 1) := by decide +kernel
theorem dX8_goesBy_204 : decode cX8_goesBy 204 = .ok (.aload_n 0, 1) := by decide +kernel
theorem dX8_goesBy_205 : decode cX8_goesBy 205 = .ok (.getfield 47, 3) := by decide +kernel
theorem dX8_goesBy_208 : decode cX8_goesBy 208 = .ok (.iload_n 1, 1) := by decide +kernel
theorem dX8_goesBy_209 : decode cX8_goesBy 209 = .ok (.iaload, 1) := by decide +kernel
theorem dX8_goesBy_210 : decode cX8_goesBy 210 = .ok (.aload_n 2, 1) := by decide +kernel
theorem dX8_goesBy_211 : decode cX8_goesBy 211 = .ok (.bipush 7, 2) := by decide +kernel
theorem dX8_goesBy_213 : decode cX8_goesBy 213 = .ok (.iaload, 1) := by decide +kernel
theorem dX8_goesBy_214 : decode cX8_goesBy 214 = .ok (.invokevirtual 209, 3) := by decide +kernel
theorem dX8_goesBy_217 : decode cX8_goesBy 217 = .ok (.iinc 3 1, 3) := by decide +kernel
theorem dX8_goesBy_220 : decode cX8_goesBy 220 = .ok (.goto (-50), 3) := by decide +kernel
theorem dX8_goesBy_223 : decode cX8_goesBy 223 = .ok (.return_, 1) := by decide +kernel
theorem dX8_step_0 : decode cX8_step 0 = .ok (.iload_n 1, 1) := by decide +kernel
theorem dX8_step_1 : decode cX8_step 1 = .ok (.i2l, 1) := by decide +kernel
theorem dX8_step_2 : decode cX8_step 2 = .ok (.lconst 1, 1) := by decide +kernel
theorem dX8_step_3 : decode cX8_step 3 = .ok (.ldc2_w 213, 3) := by decide +kernel
theorem dX8_step_6 : decode cX8_step 6 = .ok (.invokestatic 120, 3) := by decide +kernel
theorem dX8_step_9 : decode cX8_step 9 = .ok (.ifCond .eq 17, 3) := by decide +kernel
theorem dX8_step_12 : decode cX8_step 12 = .ok (.aload_n 0, 1) := by decide +kernel
theorem dX8_step_13 : decode cX8_step 13 = .ok (.getfield 47, 3) := by decide +kernel
theorem dX8_step_16 : decode cX8_step 16 = .ok (.iconst 0, 1) := by decide +kernel
theorem dX8_step_17 : decode cX8_step 17 = .ok (.iaload, 1) := by decide +kernel
theorem dX8_step_18 : decode cX8_step 18 = .ok (.iload_n 1, 1) := by decide +kernel
theorem dX8_step_19 : decode cX8_step 19 = .ok (.iadd, 1) := by decide +kernel
theorem dX8_step_20 : decode cX8_step 20 = .ok (.sipush 2000, 3) := by decide +kernel
theorem dX8_step_23 : decode cX8_step 23 = .ok (.if_icmp .le 5, 3) := by decide +kernel
theorem dX8_step_26 : decode cX8_step 26 = .ok (.iconst (-1), 1) := by decide +kernel
theorem dX8_step_27 : decode cX8_step 27 = .ok (.ireturn, 1) := by decide +kernel
theorem dX8_step_28 : decode cX8_step 28 = .ok (.iconst 0, 1) := by decide +kernel
theorem dX8_step_29 : decode cX8_step 29 = .ok (.istore_n 2, 1) := by decide +kernel
theorem dX8_step_30 : decode cX8_step 30 = .ok (.iload_n 2, 1) := by decide +kernel
theorem dX8_step_31 : decode cX8_step 31 = .ok (.bipush 8, 2) := by decide +kernel
theorem dX8_step_33 : decode cX8_step 33 = .ok (.if_icmp .ge 21, 3) := by decide +kernel
theorem dX8_step_36 : decode cX8_step 36 = .ok (.aload_n 0, 1) := by decide +kernel
theorem dX8_step_37 : decode cX8_step 37 = .ok (.getfield 13, 3) := by decide +kernel
theorem dX8_step_40 : decode cX8_step 40 = .ok (.iload_n 2, 1) := by decide +kernel
theorem dX8_step_41 : decode cX8_step 41 = .ok (.aload_n 0, 1) := by decide +kernel
theorem dX8_step_42 : decode cX8_step 42 = .ok (.getfield 17, 3) := by decide +kernel
theorem dX8_step_45 : decode cX8_step 45 = .ok (.iload_n 2, 1) := by decide +kernel
theorem dX8_step_46 : decode cX8_step 46 = .ok (.iaload, 1) := by decide +kernel
theorem dX8_step_47 : decode cX8_step 47 = .ok (.iastore, 1) := by decide +kernel
theorem dX8_step_48 : decode cX8_step 48 = .ok (.iinc 2 1, 3) := by decide +kernel
theorem dX8_step_51 : decode cX8_step 51 = .ok (.goto (-21), 3) := by decide +kernel
theorem dX8_step_54 : decode cX8_step 54 = .ok (.iconst 0, 1) := by decide +kernel
theorem dX8_step_55 : decode cX8_step 55 = .ok (.istore_n 2, 1) := by decide +kernel
theorem dX8_step_56 : decode cX8_step 56 = .ok (.iload_n 2, 1) := by decide +kernel
theorem dX8_step_57 : decode cX8_step 57 = .ok (.iload_n 1, 1) := by decide +kernel
theorem dX8_step_58 : decode cX8_step 58 = .ok (.if_icmp .ge 18, 3) := by decide +kernel
theorem dX8_step_61 : decode cX8_step 61 = .ok (.aload_n 0, 1) := by decide +kernel
theorem dX8_step_62 : decode cX8_step 62 = .ok (.iconst 0, 1) := by decide +kernel
theorem dX8_step_63 : decode cX8_step 63 = .ok (.aload_n 0, 1) := by decide +kernel
theorem dX8_step_64 : decode cX8_step 64 = .ok (.getfield 13, 3) := by decide +kernel
theorem dX8_step_67 : decode cX8_step 67 = .ok (.invokevirtual 215, 3) := by decide +kernel
theorem dX8_step_70 : decode cX8_step 70 = .ok (.iinc 2 1, 3) := by decide +kernel
theorem dX8_step_73 : decode cX8_step 73 = .ok (.goto (-17), 3) := by decide +kernel
theorem dX8_step_76 : decode cX8_step 76 = .ok (.iconst 0, 1) := by decide +kernel
theorem dX8_step_77 : decode cX8_step 77 = .ok (.istore_n 2, 1) := by decide +kernel
theorem dX8_step_78 : decode cX8_step 78 = .ok (.iload_n 2, 1) := by decide +kernel
theorem dX8_step_79 : decode cX8_step 79 = .ok (.aload_n 0, 1) := by decide +kernel
theorem dX8_step_80 : decode cX8_step 80 = .ok (.getfield 152, 3) := by decide +kernel
theorem dX8_step_83 : decode cX8_step 83 = .ok (.if_icmp .ge 16, 3) := by decide +kernel
theorem dX8_step_86 : decode cX8_step 86 = .ok (.aload_n 0, 1) := by decide +kernel
theorem dX8_step_87 : decode cX8_step 87 = .ok (.getfield 44, 3) := by decide +kernel
theorem dX8_step_90 : decode cX8_step 90 = .ok (.iload_n 2, 1) := by decide +kernel
theorem dX8_step_91 : decode cX8_step 91 = .ok (.iconst 0, 1) := by decide +kernel
theorem dX8_step_92 : decode cX8_step 92 = .ok (.iastore, 1) := by decide +kernel
theorem dX8_step_93 : decode cX8_step 93 = .ok (.iinc 2 1, 3) := by decide +kernel
theorem dX8_step_96 : decode cX8_step 96 = .ok (.goto (-18), 3) := by decide +kernel
theorem dX8_step_99 : decode cX8_step 99 = .ok (.aload_n 0, 1) := by decide +kernel
theorem dX8_step_100 : decode cX8_step 100 = .ok (.getfield 47, 3) := by decide +kernel
theorem dX8_step_103 : decode cX8_step 103 = .ok (.iconst 0, 1) := by decide +kernel
theorem dX8_step_104 : decode cX8_step 104 = .ok (.iaload, 1) := by decide +kernel
theorem dX8_step_105 : decode cX8_step 105 = .ok (.ireturn, 1) := by decide +kernel
theorem dX8_begins_0 : decode cX8_begins 0 = .ok (.aload_n 0, 1) := by decide +kernel
theorem dX8_begins_1 : decode cX8_begins 1 = .ok (.getfield 32, 3) := by decide +kernel
theorem dX8_begins_4 : decode cX8_begins 4 = .ok (.iload_n 1, 1) := by decide +kernel
theorem dX8_begins_5 : decode cX8_begins 5 = .ok (.iaload, 1) := by decide +kernel
theorem dX8_begins_6 : decode cX8_begins 6 = .ok (.iload_n 2, 1) := by decide +kernel
theorem dX8_begins_7 : decode cX8_begins 7 = .ok (.if_icmp .eq 13, 3) := by decide +kernel
theorem dX8_begins_10 : decode cX8_begins 10 = .ok (.aload_n 0, 1) := by decide +kernel
theorem dX8_begins_11 : decode cX8_begins 11 = .ok (.getfield 35, 3) := by decide +kernel
theorem dX8_begins_14 : decode cX8_begins 14 = .ok (.iload_n 1, 1) := by decide +kernel
theorem dX8_begins_15 : decode cX8_begins 15 = .ok (.iaload, 1) := by decide +kernel
theorem dX8_begins_16 : decode cX8_begins 16 = .ok (.iload_n 2, 1) := by decide +kernel
theorem dX8_begins_17 : decode cX8_begins 17 = .ok (.if_icmp .ne 7, 3) := by decide +kernel
theorem dX8_begins_20 : decode cX8_begins 20 = .ok (.iconst 1, 1) := by decide +kernel
theorem dX8_begins_21 : decode cX8_begins 21 = .ok (.goto 4, 3) := by decide +kernel
theorem dX8_begins_24 : decode cX8_begins 24 = .ok (.iconst 0, 1) := by decide +kernel
theorem dX8_begins_25 : decode cX8_begins 25 = .ok (.ireturn, 1) := by decide +kernel
theorem dX8_sends_0 : decode cX8_sends 0 = .ok (.aload_n 0, 1) := by decide +kernel
theorem dX8_sends_1 : decode cX8_sends 1 = .ok (.bipush 8, 2) := by decide +kernel
theorem dX8_sends_3 : decode cX8_sends 3 = .ok (.iload_n 1, 1) := by decide +kernel
theorem dX8_sends_4 : decode cX8_sends 4 = .ok (.imul, 1) := by decide +kernel
theorem dX8_sends_5 : decode cX8_sends 5 = .ok (.iload_n 2, 1) := by decide +kernel
theorem dX8_sends_6 : decode cX8_sends 6 = .ok (.iadd, 1) := by decide +kernel
theorem dX8_sends_7 : decode cX8_sends 7 = .ok (.iload 4, 2) := by decide +kernel
theorem dX8_sends_9 : decode cX8_sends 9 = .ok (.i2l, 1) := by decide +kernel
theorem dX8_sends_10 : decode cX8_sends 10 = .ok (.invokevirtual 188, 3) := by decide +kernel
theorem dX8_sends_13 : decode cX8_sends 13 = .ok (.bipush 60, 2) := by decide +kernel
theorem dX8_sends_15 : decode cX8_sends 15 = .ok (.iload_n 1, 1) := by decide +kernel
theorem dX8_sends_16 : decode cX8_sends 16 = .ok (.imul, 1) := by decide +kernel
theorem dX8_sends_17 : decode cX8_sends 17 = .ok (.aload_n 0, 1) := by decide +kernel
theorem dX8_sends_18 : decode cX8_sends 18 = .ok (.getfield 54, 3) := by decide +kernel
theorem dX8_sends_21 : decode cX8_sends 21 = .ok (.iload_n 1, 1) := by decide +kernel
theorem dX8_sends_22 : decode cX8_sends 22 = .ok (.iaload, 1) := by decide +kernel
theorem dX8_sends_23 : decode cX8_sends 23 = .ok (.iadd, 1) := by decide +kernel
theorem dX8_sends_24 : decode cX8_sends 24 = .ok (.istore 5, 2) := by decide +kernel
theorem dX8_sends_26 : decode cX8_sends 26 = .ok (.aload_n 0, 1) := by decide +kernel
theorem dX8_sends_27 : decode cX8_sends 27 = .ok (.getfield 57, 3) := by decide +kernel
theorem dX8_sends_30 : decode cX8_sends 30 = .ok (.iload 5, 2) := by decide +kernel
theorem dX8_sends_32 : decode cX8_sends 32 = .ok (.aload_n 0, 1) := by decide +kernel
theorem dX8_sends_33 : decode cX8_sends 33 = .ok (.getfield 32, 3) := by decide +kernel
theorem dX8_sends_36 : decode cX8_sends 36 = .ok (.iload_n 3, 1) := by decide +kernel
theorem dX8_sends_37 : decode cX8_sends 37 = .ok (.iaload, 1) := by decide +kernel
theorem dX8_sends_38 : decode cX8_sends 38 = .ok (.iload_n 2, 1) := by decide +kernel
theorem dX8_sends_39 : decode cX8_sends 39 = .ok (.if_icmp .ne 12, 3) := by decide +kernel
theorem dX8_sends_42 : decode cX8_sends 42 = .ok (.aload_n 0, 1) := by decide +kernel
theorem dX8_sends_43 : decode cX8_sends 43 = .ok (.getfield 35, 3) := by decide +kernel
theorem dX8_sends_46 : decode cX8_sends 46 = .ok (.iload_n 3, 1) := by decide +kernel
theorem dX8_sends_47 : decode cX8_sends 47 = .ok (.iaload, 1) := by decide +kernel
theorem dX8_sends_48 : decode cX8_sends 48 = .ok (.goto 9, 3) := by decide +kernel
theorem dX8_sends_51 : decode cX8_sends 51 = .ok (.aload_n 0, 1) := by decide +kernel
theorem dX8_sends_52 : decode cX8_sends 52 = .ok (.getfield 32, 3) := by decide +kernel
theorem dX8_sends_55 : decode cX8_sends 55 = .ok (.iload_n 3, 1) := by decide +kernel
theorem dX8_sends_56 : decode cX8_sends 56 = .ok (.iaload, 1) := by decide +kernel
theorem dX8_sends_57 : decode cX8_sends 57 = .ok (.iastore, 1) := by decide +kernel
theorem dX8_sends_58 : decode cX8_sends 58 = .ok (.aload_n 0, 1) := by decide +kernel
theorem dX8_sends_59 : decode cX8_sends 59 = .ok (.getfield 60, 3) := by decide +kernel
theorem dX8_sends_62 : decode cX8_sends 62 = .ok (.iload 5, 2) := by decide +kernel
theorem dX8_sends_64 : decode cX8_sends 64 = .ok (.aload_n 0, 1) := by decide +kernel
theorem dX8_sends_65 : decode cX8_sends 65 = .ok (.getfield 47, 3) := by decide +kernel
theorem dX8_sends_68 : decode cX8_sends 68 = .ok (.iload_n 1, 1) := by decide +kernel
theorem dX8_sends_69 : decode cX8_sends 69 = .ok (.iaload, 1) := by decide +kernel
theorem dX8_sends_70 : decode cX8_sends 70 = .ok (.aload_n 0, 1) := by decide +kernel
theorem dX8_sends_71 : decode cX8_sends 71 = .ok (.getfield 38, 3) := by decide +kernel
theorem dX8_sends_74 : decode cX8_sends 74 = .ok (.iload_n 3, 1) := by decide +kernel
theorem dX8_sends_75 : decode cX8_sends 75 = .ok (.iaload, 1) := by decide +kernel
theorem dX8_sends_76 : decode cX8_sends 76 = .ok (.iadd, 1) := by decide +kernel
theorem dX8_sends_77 : decode cX8_sends 77 = .ok (.iastore, 1) := by decide +kernel
theorem dX8_sends_78 : decode cX8_sends 78 = .ok (.aload_n 0, 1) := by decide +kernel
theorem dX8_sends_79 : decode cX8_sends 79 = .ok (.getfield 63, 3) := by decide +kernel
theorem dX8_sends_82 : decode cX8_sends 82 = .ok (.iload 5, 2) := by decide +kernel
theorem dX8_sends_84 : decode cX8_sends 84 = .ok (.iload 4, 2) := by decide +kernel
theorem dX8_sends_86 : decode cX8_sends 86 = .ok (.iastore, 1) := by decide +kernel
theorem dX8_sends_87 : decode cX8_sends 87 = .ok (.aload_n 0, 1) := by decide +kernel
theorem dX8_sends_88 : decode cX8_sends 88 = .ok (.getfield 54, 3) := by decide +kernel
theorem dX8_sends_91 : decode cX8_sends 91 = .ok (.iload_n 1, 1) := by decide +kernel
theorem dX8_sends_92 : decode cX8_sends 92 = .ok (.dup2, 1) := by decide +kernel
theorem dX8_sends_93 : decode cX8_sends 93 = .ok (.iaload, 1) := by decide +kernel
theorem dX8_sends_94 : decode cX8_sends 94 = .ok (.iconst 1, 1) := by decide +kernel
theorem dX8_sends_95 : decode cX8_sends 95 = .ok (.iadd, 1) := by decide +kernel
theorem dX8_sends_96 : decode cX8_sends 96 = .ok (.iastore, 1) := by decide +kernel
theorem dX8_sends_97 : decode cX8_sends 97 = .ok (.return_, 1) := by decide +kernel
theorem dX8_move_0 : decode cX8_move 0 = .ok (.aload_n 0, 1) := by decide +kernel
theorem dX8_move_1 : decode cX8_move 1 = .ok (.iload_n 1, 1) := by decide +kernel
theorem dX8_move_2 : decode cX8_move 2 = .ok (.invokevirtual 155, 3) := by decide +kernel
theorem dX8_move_5 : decode cX8_move 5 = .ok (.ifCond .eq 72, 3) := by decide +kernel
theorem dX8_move_8 : decode cX8_move 8 = .ok (.iload_n 2, 1) := by decide +kernel
theorem dX8_move_9 : decode cX8_move 9 = .ok (.i2l, 1) := by decide +kernel
theorem dX8_move_10 : decode cX8_move 10 = .ok (.lconst 0, 1) := by decide +kernel
theorem dX8_move_11 : decode cX8_move 11 = .ok (.aload_n 0, 1) := by decide +kernel
theorem dX8_move_12 : decode cX8_move 12 = .ok (.getfield 152, 3) := by decide +kernel
theorem dX8_move_15 : decode cX8_move 15 = .ok (.iconst 1, 1) := by decide +kernel
theorem dX8_move_16 : decode cX8_move 16 = .ok (.isub, 1) := by decide +kernel
theorem dX8_move_17 : decode cX8_move 17 = .ok (.i2l, 1) := by decide +kernel
theorem dX8_move_18 : decode cX8_move 18 = .ok (.invokestatic 120, 3) := by decide +kernel
theorem dX8_move_21 : decode cX8_move 21 = .ok (.ifCond .eq 56, 3) := by decide +kernel
theorem dX8_move_24 : decode cX8_move 24 = .ok (.aload_n 0, 1) := by decide +kernel
theorem dX8_move_25 : decode cX8_move 25 = .ok (.iload_n 2, 1) := by decide +kernel
theorem dX8_move_26 : decode cX8_move 26 = .ok (.iload_n 1, 1) := by decide +kernel
theorem dX8_move_27 : decode cX8_move 27 = .ok (.invokevirtual 219, 3) := by decide +kernel
theorem dX8_move_30 : decode cX8_move 30 = .ok (.ifCond .eq 47, 3) := by decide +kernel
theorem dX8_move_33 : decode cX8_move 33 = .ok (.iload_n 3, 1) := by decide +kernel
theorem dX8_move_34 : decode cX8_move 34 = .ok (.iconst 1, 1) := by decide +kernel
theorem dX8_move_35 : decode cX8_move 35 = .ok (.if_icmp .lt 42, 3) := by decide +kernel
theorem dX8_move_38 : decode cX8_move 38 = .ok (.iload_n 3, 1) := by decide +kernel
theorem dX8_move_39 : decode cX8_move 39 = .ok (.i2l, 1) := by decide +kernel
theorem dX8_move_40 : decode cX8_move 40 = .ok (.aload_n 0, 1) := by decide +kernel
theorem dX8_move_41 : decode cX8_move 41 = .ok (.iload_n 1, 1) := by decide +kernel
theorem dX8_move_42 : decode cX8_move 42 = .ok (.invokevirtual 169, 3) := by decide +kernel
theorem dX8_move_45 : decode cX8_move 45 = .ok (.lcmp, 1) := by decide +kernel
theorem dX8_move_46 : decode cX8_move 46 = .ok (.ifCond .gt 31, 3) := by decide +kernel
theorem dX8_move_49 : decode cX8_move 49 = .ok (.iload_n 3, 1) := by decide +kernel
theorem dX8_move_50 : decode cX8_move 50 = .ok (.aload_n 0, 1) := by decide +kernel
theorem dX8_move_51 : decode cX8_move 51 = .ok (.getfield 41, 3) := by decide +kernel
theorem dX8_move_54 : decode cX8_move 54 = .ok (.iload_n 2, 1) := by decide +kernel
theorem dX8_move_55 : decode cX8_move 55 = .ok (.iaload, 1) := by decide +kernel
theorem dX8_move_56 : decode cX8_move 56 = .ok (.aload_n 0, 1) := by decide +kernel
theorem dX8_move_57 : decode cX8_move 57 = .ok (.getfield 44, 3) := by decide +kernel
theorem dX8_move_60 : decode cX8_move 60 = .ok (.iload_n 2, 1) := by decide +kernel
theorem dX8_move_61 : decode cX8_move 61 = .ok (.iaload, 1) := by decide +kernel
theorem dX8_move_62 : decode cX8_move 62 = .ok (.isub, 1) := by decide +kernel
theorem dX8_move_63 : decode cX8_move 63 = .ok (.if_icmp .gt 14, 3) := by decide +kernel
theorem dX8_move_66 : decode cX8_move 66 = .ok (.aload_n 0, 1) := by decide +kernel
theorem dX8_move_67 : decode cX8_move 67 = .ok (.getfield 54, 3) := by decide +kernel
theorem dX8_move_70 : decode cX8_move 70 = .ok (.iconst 0, 1) := by decide +kernel
theorem dX8_move_71 : decode cX8_move 71 = .ok (.iaload, 1) := by decide +kernel
theorem dX8_move_72 : decode cX8_move 72 = .ok (.bipush 60, 2) := by decide +kernel
theorem dX8_move_74 : decode cX8_move 74 = .ok (.if_icmp .ne 5, 3) := by decide +kernel
theorem dX8_move_77 : decode cX8_move 77 = .ok (.iconst 0, 1) := by decide +kernel
theorem dX8_move_78 : decode cX8_move 78 = .ok (.ireturn, 1) := by decide +kernel
theorem dX8_move_79 : decode cX8_move 79 = .ok (.aload_n 0, 1) := by decide +kernel
theorem dX8_move_80 : decode cX8_move 80 = .ok (.iconst 0, 1) := by decide +kernel
theorem dX8_move_81 : decode cX8_move 81 = .ok (.iload_n 1, 1) := by decide +kernel
theorem dX8_move_82 : decode cX8_move 82 = .ok (.iload_n 2, 1) := by decide +kernel
theorem dX8_move_83 : decode cX8_move 83 = .ok (.iload_n 3, 1) := by decide +kernel
theorem dX8_move_84 : decode cX8_move 84 = .ok (.invokevirtual 222, 3) := by decide +kernel
theorem dX8_move_87 : decode cX8_move 87 = .ok (.aload_n 0, 1) := by decide +kernel
theorem dX8_move_88 : decode cX8_move 88 = .ok (.getfield 44, 3) := by decide +kernel
theorem dX8_move_91 : decode cX8_move 91 = .ok (.iload_n 2, 1) := by decide +kernel
theorem dX8_move_92 : decode cX8_move 92 = .ok (.dup2, 1) := by decide +kernel
theorem dX8_move_93 : decode cX8_move 93 = .ok (.iaload, 1) := by decide +kernel
theorem dX8_move_94 : decode cX8_move 94 = .ok (.iload_n 3, 1) := by decide +kernel
theorem dX8_move_95 : decode cX8_move 95 = .ok (.iadd, 1) := by decide +kernel
theorem dX8_move_96 : decode cX8_move 96 = .ok (.iastore, 1) := by decide +kernel
theorem dX8_move_97 : decode cX8_move 97 = .ok (.iconst 1, 1) := by decide +kernel
theorem dX8_move_98 : decode cX8_move 98 = .ok (.ireturn, 1) := by decide +kernel
theorem dX8_loan_0 : decode cX8_loan 0 = .ok (.aload_n 0, 1) := by decide +kernel
theorem dX8_loan_1 : decode cX8_loan 1 = .ok (.iload_n 1, 1) := by decide +kernel
theorem dX8_loan_2 : decode cX8_loan 2 = .ok (.invokevirtual 155, 3) := by decide +kernel
theorem dX8_loan_5 : decode cX8_loan 5 = .ok (.ifCond .eq 19, 3) := by decide +kernel
theorem dX8_loan_8 : decode cX8_loan 8 = .ok (.iload_n 2, 1) := by decide +kernel
theorem dX8_loan_9 : decode cX8_loan 9 = .ok (.iconst 1, 1) := by decide +kernel
theorem dX8_loan_10 : decode cX8_loan 10 = .ok (.if_icmp .lt 14, 3) := by decide +kernel
theorem dX8_loan_13 : decode cX8_loan 13 = .ok (.iload_n 2, 1) := by decide +kernel
theorem dX8_loan_14 : decode cX8_loan 14 = .ok (.i2l, 1) := by decide +kernel
theorem dX8_loan_15 : decode cX8_loan 15 = .ok (.aload_n 0, 1) := by decide +kernel
theorem dX8_loan_16 : decode cX8_loan 16 = .ok (.iload_n 1, 1) := by decide +kernel
theorem dX8_loan_17 : decode cX8_loan 17 = .ok (.invokevirtual 169, 3) := by decide +kernel
theorem dX8_loan_20 : decode cX8_loan 20 = .ok (.lcmp, 1) := by decide +kernel
theorem dX8_loan_21 : decode cX8_loan 21 = .ok (.ifCond .le 7, 3) := by decide +kernel
theorem dX8_loan_24 : decode cX8_loan 24 = .ok (.ldc2_w 226, 3) := by decide +kernel
theorem dX8_loan_27 : decode cX8_loan 27 = .ok (.lreturn, 1) := by decide +kernel
theorem dX8_loan_28 : decode cX8_loan 28 = .ok (.aload_n 0, 1) := by decide +kernel
theorem dX8_loan_29 : decode cX8_loan 29 = .ok (.iload_n 1, 1) := by decide +kernel
theorem dX8_loan_30 : decode cX8_loan 30 = .ok (.iload_n 2, 1) := by decide +kernel
theorem dX8_loan_31 : decode cX8_loan 31 = .ok (.i2l, 1) := by decide +kernel
theorem dX8_loan_32 : decode cX8_loan 32 = .ok (.invokevirtual 188, 3) := by decide +kernel
theorem dX8_loan_35 : decode cX8_loan 35 = .ok (.aload_n 0, 1) := by decide +kernel
theorem dX8_loan_36 : decode cX8_loan 36 = .ok (.getfield 66, 3) := by decide +kernel
theorem dX8_loan_39 : decode cX8_loan 39 = .ok (.iload_n 1, 1) := by decide +kernel
theorem dX8_loan_40 : decode cX8_loan 40 = .ok (.dup2, 1) := by decide +kernel
theorem dX8_loan_41 : decode cX8_loan 41 = .ok (.laload, 1) := by decide +kernel
theorem dX8_loan_42 : decode cX8_loan 42 = .ok (.iload_n 2, 1) := by decide +kernel
theorem dX8_loan_43 : decode cX8_loan 43 = .ok (.i2l, 1) := by decide +kernel
theorem dX8_loan_44 : decode cX8_loan 44 = .ok (.ladd, 1) := by decide +kernel
theorem dX8_loan_45 : decode cX8_loan 45 = .ok (.lastore, 1) := by decide +kernel
theorem dX8_loan_46 : decode cX8_loan 46 = .ok (.aload_n 0, 1) := by decide +kernel
theorem dX8_loan_47 : decode cX8_loan 47 = .ok (.getfield 81, 3) := by decide +kernel
theorem dX8_loan_50 : decode cX8_loan 50 = .ok (.iload_n 1, 1) := by decide +kernel
theorem dX8_loan_51 : decode cX8_loan 51 = .ok (.dup2, 1) := by decide +kernel
theorem dX8_loan_52 : decode cX8_loan 52 = .ok (.laload, 1) := by decide +kernel
theorem dX8_loan_53 : decode cX8_loan 53 = .ok (.iload_n 2, 1) := by decide +kernel
theorem dX8_loan_54 : decode cX8_loan 54 = .ok (.i2l, 1) := by decide +kernel
theorem dX8_loan_55 : decode cX8_loan 55 = .ok (.aload_n 0, 1) := by decide +kernel
theorem dX8_loan_56 : decode cX8_loan 56 = .ok (.getfield 17, 3) := by decide +kernel
theorem dX8_loan_59 : decode cX8_loan 59 = .ok (.iconst 4, 1) := by decide +kernel
theorem dX8_loan_60 : decode cX8_loan 60 = .ok (.iaload, 1) := by decide +kernel
theorem dX8_loan_61 : decode cX8_loan 61 = .ok (.i2l, 1) := by decide +kernel
theorem dX8_loan_62 : decode cX8_loan 62 = .ok (.lmul, 1) := by decide +kernel
theorem dX8_loan_63 : decode cX8_loan 63 = .ok (.ldc2_w 192, 3) := by decide +kernel
theorem dX8_loan_66 : decode cX8_loan 66 = .ok (.ladd, 1) := by decide +kernel
theorem dX8_loan_67 : decode cX8_loan 67 = .ok (.ldc2_w 194, 3) := by decide +kernel
theorem dX8_loan_70 : decode cX8_loan 70 = .ok (.ldiv, 1) := by decide +kernel
theorem dX8_loan_71 : decode cX8_loan 71 = .ok (.ladd, 1) := by decide +kernel
theorem dX8_loan_72 : decode cX8_loan 72 = .ok (.lastore, 1) := by decide +kernel
theorem dX8_loan_73 : decode cX8_loan 73 = .ok (.aload_n 0, 1) := by decide +kernel
theorem dX8_loan_74 : decode cX8_loan 74 = .ok (.getfield 81, 3) := by decide +kernel
theorem dX8_loan_77 : decode cX8_loan 77 = .ok (.iload_n 1, 1) := by decide +kernel
theorem dX8_loan_78 : decode cX8_loan 78 = .ok (.laload, 1) := by decide +kernel
theorem dX8_loan_79 : decode cX8_loan 79 = .ok (.lreturn, 1) := by decide +kernel
theorem dX8_steal_0 : decode cX8_steal 0 = .ok (.aload_n 0, 1) := by decide +kernel
theorem dX8_steal_1 : decode cX8_steal 1 = .ok (.iload_n 1, 1) := by decide +kernel
theorem dX8_steal_2 : decode cX8_steal 2 = .ok (.invokevirtual 155, 3) := by decide +kernel
theorem dX8_steal_5 : decode cX8_steal 5 = .ok (.ifCond .eq 19, 3) := by decide +kernel
theorem dX8_steal_8 : decode cX8_steal 8 = .ok (.iload_n 2, 1) := by decide +kernel
theorem dX8_steal_9 : decode cX8_steal 9 = .ok (.iconst 1, 1) := by decide +kernel
theorem dX8_steal_10 : decode cX8_steal 10 = .ok (.if_icmp .lt 14, 3) := by decide +kernel
theorem dX8_steal_13 : decode cX8_steal 13 = .ok (.iload_n 2, 1) := by decide +kernel
theorem dX8_steal_14 : decode cX8_steal 14 = .ok (.i2l, 1) := by decide +kernel
theorem dX8_steal_15 : decode cX8_steal 15 = .ok (.aload_n 0, 1) := by decide +kernel
theorem dX8_steal_16 : decode cX8_steal 16 = .ok (.iload_n 1, 1) := by decide +kernel
theorem dX8_steal_17 : decode cX8_steal 17 = .ok (.invokevirtual 169, 3) := by decide +kernel
theorem dX8_steal_20 : decode cX8_steal 20 = .ok (.lcmp, 1) := by decide +kernel
theorem dX8_steal_21 : decode cX8_steal 21 = .ok (.ifCond .le 5, 3) := by decide +kernel
theorem dX8_steal_24 : decode cX8_steal 24 = .ok (.iconst 0, 1) := by decide +kernel
theorem dX8_steal_25 : decode cX8_steal 25 = .ok (.ireturn, 1) := by decide +kernel
theorem dX8_steal_26 : decode cX8_steal 26 = .ok (.iload_n 2, 1) := by decide +kernel
theorem dX8_steal_27 : decode cX8_steal 27 = .ok (.istore_n 3, 1) := by decide +kernel
theorem dX8_steal_28 : decode cX8_steal 28 = .ok (.bipush 40, 2) := by decide +kernel
theorem dX8_steal_30 : decode cX8_steal 30 = .ok (.iload_n 1, 1) := by decide +kernel
theorem dX8_steal_31 : decode cX8_steal 31 = .ok (.imul, 1) := by decide +kernel
theorem dX8_steal_32 : decode cX8_steal 32 = .ok (.istore 4, 2) := by decide +kernel
theorem dX8_steal_34 : decode cX8_steal 34 = .ok (.iload_n 3, 1) := by decide +kernel
theorem dX8_steal_35 : decode cX8_steal 35 = .ok (.ifCond .le 77, 3) := by decide +kernel
theorem dX8_steal_38 : decode cX8_steal 38 = .ok (.aload_n 0, 1) := by decide +kernel
theorem dX8_steal_39 : decode cX8_steal 39 = .ok (.getfield 99, 3) := by decide +kernel
theorem dX8_steal_42 : decode cX8_steal 42 = .ok (.iload 4, 2) := by decide +kernel
theorem dX8_steal_44 : decode cX8_steal 44 = .ok (.iaload, 1) := by decide +kernel
theorem dX8_steal_45 : decode cX8_steal 45 = .ok (.iload_n 3, 1) := by decide +kernel
theorem dX8_steal_46 : decode cX8_steal 46 = .ok (.if_icmp .ge 13, 3) := by decide +kernel
theorem dX8_steal_49 : decode cX8_steal 49 = .ok (.aload_n 0, 1) := by decide +kernel
theorem dX8_steal_50 : decode cX8_steal 50 = .ok (.getfield 99, 3) := by decide +kernel
theorem dX8_steal_53 : decode cX8_steal 53 = .ok (.iload 4, 2) := by decide +kernel
theorem dX8_steal_55 : decode cX8_steal 55 = .ok (.iaload, 1) := by decide +kernel
theorem dX8_steal_56 : decode cX8_steal 56 = .ok (.goto 4, 3) := by decide +kernel
theorem dX8_steal_59 : decode cX8_steal 59 = .ok (.iload_n 3, 1) := by decide +kernel
theorem dX8_steal_60 : decode cX8_steal 60 = .ok (.istore 5, 2) := by decide +kernel
theorem dX8_steal_62 : decode cX8_steal 62 = .ok (.aload_n 0, 1) := by decide +kernel
theorem dX8_steal_63 : decode cX8_steal 63 = .ok (.getfield 99, 3) := by decide +kernel
theorem dX8_steal_66 : decode cX8_steal 66 = .ok (.iload 4, 2) := by decide +kernel
theorem dX8_steal_68 : decode cX8_steal 68 = .ok (.dup2, 1) := by decide +kernel
theorem dX8_steal_69 : decode cX8_steal 69 = .ok (.iaload, 1) := by decide +kernel
theorem dX8_steal_70 : decode cX8_steal 70 = .ok (.iload 5, 2) := by decide +kernel
theorem dX8_steal_72 : decode cX8_steal 72 = .ok (.isub, 1) := by decide +kernel
theorem dX8_steal_73 : decode cX8_steal 73 = .ok (.iastore, 1) := by decide +kernel
theorem dX8_steal_74 : decode cX8_steal 74 = .ok (.iload_n 3, 1) := by decide +kernel
theorem dX8_steal_75 : decode cX8_steal 75 = .ok (.iload 5, 2) := by decide +kernel
theorem dX8_steal_77 : decode cX8_steal 77 = .ok (.isub, 1) := by decide +kernel
theorem dX8_steal_78 : decode cX8_steal 78 = .ok (.istore_n 3, 1) := by decide +kernel
theorem dX8_steal_79 : decode cX8_steal 79 = .ok (.aload_n 0, 1) := by decide +kernel
theorem dX8_steal_80 : decode cX8_steal 80 = .ok (.getfield 102, 3) := by decide +kernel
theorem dX8_steal_83 : decode cX8_steal 83 = .ok (.iload 4, 2) := by decide +kernel
theorem dX8_steal_85 : decode cX8_steal 85 = .ok (.aload_n 0, 1) := by decide +kernel
theorem dX8_steal_86 : decode cX8_steal 86 = .ok (.getfield 102, 3) := by decide +kernel
theorem dX8_steal_89 : decode cX8_steal 89 = .ok (.iload 4, 2) := by decide +kernel
theorem dX8_steal_91 : decode cX8_steal 91 = .ok (.baload, 1) := by decide +kernel
theorem dX8_steal_92 : decode cX8_steal 92 = .ok (.ifCond .eq 12, 3) := by decide +kernel
theorem dX8_steal_95 : decode cX8_steal 95 = .ok (.iload 5, 2) := by decide +kernel
theorem dX8_steal_97 : decode cX8_steal 97 = .ok (.ifCond .ne 7, 3) := by decide +kernel
theorem dX8_steal_100 : decode cX8_steal 100 = .ok (.iconst 1, 1) := by decide +kernel
theorem dX8_steal_101 : decode cX8_steal 101 = .ok (.goto 4, 3) := by decide +kernel
theorem dX8_steal_104 : decode cX8_steal 104 = .ok (.iconst 0, 1) := by decide +kernel
theorem dX8_steal_105 : decode cX8_steal 105 = .ok (.bastore, 1) := by decide +kernel
theorem dX8_steal_106 : decode cX8_steal 106 = .ok (.iinc 4 1, 3) := by decide +kernel
theorem dX8_steal_109 : decode cX8_steal 109 = .ok (.goto (-75), 3) := by decide +kernel
theorem dX8_steal_112 : decode cX8_steal 112 = .ok (.aload_n 0, 1) := by decide +kernel
theorem dX8_steal_113 : decode cX8_steal 113 = .ok (.getfield 90, 3) := by decide +kernel
theorem dX8_steal_116 : decode cX8_steal 116 = .ok (.iload_n 1, 1) := by decide +kernel
theorem dX8_steal_117 : decode cX8_steal 117 = .ok (.dup2, 1) := by decide +kernel
theorem dX8_steal_118 : decode cX8_steal 118 = .ok (.laload, 1) := by decide +kernel
theorem dX8_steal_119 : decode cX8_steal 119 = .ok (.iload_n 2, 1) := by decide +kernel
theorem dX8_steal_120 : decode cX8_steal 120 = .ok (.i2l, 1) := by decide +kernel
theorem dX8_steal_121 : decode cX8_steal 121 = .ok (.ladd, 1) := by decide +kernel
theorem dX8_steal_122 : decode cX8_steal 122 = .ok (.lastore, 1) := by decide +kernel
theorem dX8_steal_123 : decode cX8_steal 123 = .ok (.iconst 1, 1) := by decide +kernel
theorem dX8_steal_124 : decode cX8_steal 124 = .ok (.ireturn, 1) := by decide +kernel
theorem dX8_measure_0 : decode cX8_measure 0 = .ok (.aload_n 0, 1) := by decide +kernel
theorem dX8_measure_1 : decode cX8_measure 1 = .ok (.iload_n 1, 1) := by decide +kernel
theorem dX8_measure_2 : decode cX8_measure 2 = .ok (.invokevirtual 155, 3) := by decide +kernel
theorem dX8_measure_5 : decode cX8_measure 5 = .ok (.ifCond .eq 21, 3) := by decide +kernel
theorem dX8_measure_8 : decode cX8_measure 8 = .ok (.iload_n 2, 1) := by decide +kernel
theorem dX8_measure_9 : decode cX8_measure 9 = .ok (.i2l, 1) := by decide +kernel
theorem dX8_measure_10 : decode cX8_measure 10 = .ok (.lconst 0, 1) := by decide +kernel
theorem dX8_measure_11 : decode cX8_measure 11 = .ok (.aload_n 0, 1) := by decide +kernel
theorem dX8_measure_12 : decode cX8_measure 12 = .ok (.getfield 69, 3) := by decide +kernel
theorem dX8_measure_15 : decode cX8_measure 15 = .ok (.iload_n 1, 1) := by decide +kernel
theorem dX8_measure_16 : decode cX8_measure 16 = .ok (.iaload, 1) := by decide +kernel
theorem dX8_measure_17 : decode cX8_measure 17 = .ok (.iconst 1, 1) := by decide +kernel
theorem dX8_measure_18 : decode cX8_measure 18 = .ok (.isub, 1) := by decide +kernel
theorem dX8_measure_19 : decode cX8_measure 19 = .ok (.i2l, 1) := by decide +kernel
theorem dX8_measure_20 : decode cX8_measure 20 = .ok (.invokestatic 120, 3) := by decide +kernel
theorem dX8_measure_23 : decode cX8_measure 23 = .ok (.ifCond .ne 5, 3) := by decide +kernel
theorem dX8_measure_26 : decode cX8_measure 26 = .ok (.iconst (-1), 1) := by decide +kernel
theorem dX8_measure_27 : decode cX8_measure 27 = .ok (.ireturn, 1) := by decide +kernel
theorem dX8_measure_28 : decode cX8_measure 28 = .ok (.bipush 40, 2) := by decide +kernel
theorem dX8_measure_30 : decode cX8_measure 30 = .ok (.iload_n 1, 1) := by decide +kernel
theorem dX8_measure_31 : decode cX8_measure 31 = .ok (.imul, 1) := by decide +kernel
theorem dX8_measure_32 : decode cX8_measure 32 = .ok (.iload_n 2, 1) := by decide +kernel
theorem dX8_measure_33 : decode cX8_measure 33 = .ok (.iadd, 1) := by decide +kernel
theorem dX8_measure_34 : decode cX8_measure 34 = .ok (.istore_n 3, 1) := by decide +kernel
theorem dX8_measure_35 : decode cX8_measure 35 = .ok (.aload_n 0, 1) := by decide +kernel
theorem dX8_measure_36 : decode cX8_measure 36 = .ok (.getfield 96, 3) := by decide +kernel
theorem dX8_measure_39 : decode cX8_measure 39 = .ok (.iload_n 3, 1) := by decide +kernel
theorem dX8_measure_40 : decode cX8_measure 40 = .ok (.iaload, 1) := by decide +kernel
theorem dX8_measure_41 : decode cX8_measure 41 = .ok (.aload_n 0, 1) := by decide +kernel
theorem dX8_measure_42 : decode cX8_measure 42 = .ok (.getfield 99, 3) := by decide +kernel
theorem dX8_measure_45 : decode cX8_measure 45 = .ok (.iload_n 3, 1) := by decide +kernel
theorem dX8_measure_46 : decode cX8_measure 46 = .ok (.iaload, 1) := by decide +kernel
theorem dX8_measure_47 : decode cX8_measure 47 = .ok (.isub, 1) := by decide +kernel
theorem dX8_measure_48 : decode cX8_measure 48 = .ok (.istore 4, 2) := by decide +kernel
theorem dX8_measure_50 : decode cX8_measure 50 = .ok (.aload_n 0, 1) := by decide +kernel
theorem dX8_measure_51 : decode cX8_measure 51 = .ok (.getfield 99, 3) := by decide +kernel
theorem dX8_measure_54 : decode cX8_measure 54 = .ok (.iload_n 3, 1) := by decide +kernel
theorem dX8_measure_55 : decode cX8_measure 55 = .ok (.iaload, 1) := by decide +kernel
theorem dX8_measure_56 : decode cX8_measure 56 = .ok (.ifCond .ne 12, 3) := by decide +kernel
theorem dX8_measure_59 : decode cX8_measure 59 = .ok (.aload_n 0, 1) := by decide +kernel
theorem dX8_measure_60 : decode cX8_measure 60 = .ok (.iload_n 1, 1) := by decide +kernel
theorem dX8_measure_61 : decode cX8_measure 61 = .ok (.iload_n 2, 1) := by decide +kernel
theorem dX8_measure_62 : decode cX8_measure 62 = .ok (.invokevirtual 165, 3) := by decide +kernel
theorem dX8_measure_65 : decode cX8_measure 65 = .ok (.iload 4, 2) := by decide +kernel
theorem dX8_measure_67 : decode cX8_measure 67 = .ok (.ireturn, 1) := by decide +kernel
theorem dX8_measure_68 : decode cX8_measure 68 = .ok (.aload_n 0, 1) := by decide +kernel
theorem dX8_measure_69 : decode cX8_measure 69 = .ok (.getfield 96, 3) := by decide +kernel
theorem dX8_measure_72 : decode cX8_measure 72 = .ok (.iload_n 3, 1) := by decide +kernel
theorem dX8_measure_73 : decode cX8_measure 73 = .ok (.aload_n 0, 1) := by decide +kernel
theorem dX8_measure_74 : decode cX8_measure 74 = .ok (.getfield 99, 3) := by decide +kernel
theorem dX8_measure_77 : decode cX8_measure 77 = .ok (.iload_n 3, 1) := by decide +kernel
theorem dX8_measure_78 : decode cX8_measure 78 = .ok (.iaload, 1) := by decide +kernel
theorem dX8_measure_79 : decode cX8_measure 79 = .ok (.iastore, 1) := by decide +kernel
theorem dX8_measure_80 : decode cX8_measure 80 = .ok (.aload_n 0, 1) := by decide +kernel
theorem dX8_measure_81 : decode cX8_measure 81 = .ok (.getfield 72, 3) := by decide +kernel
theorem dX8_measure_84 : decode cX8_measure 84 = .ok (.iload_n 1, 1) := by decide +kernel
theorem dX8_measure_85 : decode cX8_measure 85 = .ok (.dup2, 1) := by decide +kernel
theorem dX8_measure_86 : decode cX8_measure 86 = .ok (.laload, 1) := by decide +kernel
theorem dX8_measure_87 : decode cX8_measure 87 = .ok (.iload 4, 2) := by decide +kernel
theorem dX8_measure_89 : decode cX8_measure 89 = .ok (.i2l, 1) := by decide +kernel
theorem dX8_measure_90 : decode cX8_measure 90 = .ok (.ladd, 1) := by decide +kernel
theorem dX8_measure_91 : decode cX8_measure 91 = .ok (.lastore, 1) := by decide +kernel
theorem dX8_measure_92 : decode cX8_measure 92 = .ok (.aload_n 0, 1) := by decide +kernel
theorem dX8_measure_93 : decode cX8_measure 93 = .ok (.getfield 102, 3) := by decide +kernel
theorem dX8_measure_96 : decode cX8_measure 96 = .ok (.iload_n 3, 1) := by decide +kernel
theorem dX8_measure_97 : decode cX8_measure 97 = .ok (.iconst 1, 1) := by decide +kernel
theorem dX8_measure_98 : decode cX8_measure 98 = .ok (.bastore, 1) := by decide +kernel
theorem dX8_measure_99 : decode cX8_measure 99 = .ok (.iload 4, 2) := by decide +kernel
theorem dX8_measure_101 : decode cX8_measure 101 = .ok (.ireturn, 1) := by decide +kernel
theorem dX8_missing_0 : decode cX8_missing 0 = .ok (.aload_n 0, 1) := by decide +kernel
theorem dX8_missing_1 : decode cX8_missing 1 = .ok (.iload_n 1, 1) := by decide +kernel
theorem dX8_missing_2 : decode cX8_missing 2 = .ok (.invokevirtual 155, 3) := by decide +kernel
theorem dX8_missing_5 : decode cX8_missing 5 = .ok (.ifCond .ne 7, 3) := by decide +kernel
theorem dX8_missing_8 : decode cX8_missing 8 = .ok (.ldc2_w 226, 3) := by decide +kernel
theorem dX8_missing_11 : decode cX8_missing 11 = .ok (.lreturn, 1) := by decide +kernel
theorem dX8_missing_12 : decode cX8_missing 12 = .ok (.iload_n 2, 1) := by decide +kernel
theorem dX8_missing_13 : decode cX8_missing 13 = .ok (.ifCond .ne 12, 3) := by decide +kernel
theorem dX8_missing_16 : decode cX8_missing 16 = .ok (.aload_n 0, 1) := by decide +kernel
theorem dX8_missing_17 : decode cX8_missing 17 = .ok (.getfield 72, 3) := by decide +kernel
theorem dX8_missing_20 : decode cX8_missing 20 = .ok (.iload_n 1, 1) := by decide +kernel
theorem dX8_missing_21 : decode cX8_missing 21 = .ok (.laload, 1) := by decide +kernel
theorem dX8_missing_22 : decode cX8_missing 22 = .ok (.goto 27, 3) := by decide +kernel
theorem dX8_missing_25 : decode cX8_missing 25 = .ok (.iload_n 2, 1) := by decide +kernel
theorem dX8_missing_26 : decode cX8_missing 26 = .ok (.iconst 1, 1) := by decide +kernel
theorem dX8_missing_27 : decode cX8_missing 27 = .ok (.if_icmp .ne 19, 3) := by decide +kernel
theorem dX8_missing_30 : decode cX8_missing 30 = .ok (.aload_n 0, 1) := by decide +kernel
theorem dX8_missing_31 : decode cX8_missing 31 = .ok (.getfield 72, 3) := by decide +kernel
theorem dX8_missing_34 : decode cX8_missing 34 = .ok (.iload_n 1, 1) := by decide +kernel
theorem dX8_missing_35 : decode cX8_missing 35 = .ok (.laload, 1) := by decide +kernel
theorem dX8_missing_36 : decode cX8_missing 36 = .ok (.aload_n 0, 1) := by decide +kernel
theorem dX8_missing_37 : decode cX8_missing 37 = .ok (.iload_n 1, 1) := by decide +kernel
theorem dX8_missing_38 : decode cX8_missing 38 = .ok (.iconst 0, 1) := by decide +kernel
theorem dX8_missing_39 : decode cX8_missing 39 = .ok (.invokevirtual 228, 3) := by decide +kernel
theorem dX8_missing_42 : decode cX8_missing 42 = .ok (.ladd, 1) := by decide +kernel
theorem dX8_missing_43 : decode cX8_missing 43 = .ok (.goto 6, 3) := by decide +kernel
theorem dX8_missing_46 : decode cX8_missing 46 = .ok (.ldc2_w 226, 3) := by decide +kernel
theorem dX8_missing_49 : decode cX8_missing 49 = .ok (.lreturn, 1) := by decide +kernel
theorem dX8_copies_0 : decode cX8_copies 0 = .ok (.aload_n 0, 1) := by decide +kernel
theorem dX8_copies_1 : decode cX8_copies 1 = .ok (.getfield 47, 3) := by decide +kernel
theorem dX8_copies_4 : decode cX8_copies 4 = .ok (.iconst 1, 1) := by decide +kernel
theorem dX8_copies_5 : decode cX8_copies 5 = .ok (.aload_n 0, 1) := by decide +kernel
theorem dX8_copies_6 : decode cX8_copies 6 = .ok (.getfield 47, 3) := by decide +kernel
theorem dX8_copies_9 : decode cX8_copies 9 = .ok (.iconst 0, 1) := by decide +kernel
theorem dX8_copies_10 : decode cX8_copies 10 = .ok (.iaload, 1) := by decide +kernel
theorem dX8_copies_11 : decode cX8_copies 11 = .ok (.iastore, 1) := by decide +kernel
theorem dX8_copies_12 : decode cX8_copies 12 = .ok (.aload_n 0, 1) := by decide +kernel
theorem dX8_copies_13 : decode cX8_copies 13 = .ok (.getfield 50, 3) := by decide +kernel
theorem dX8_copies_16 : decode cX8_copies 16 = .ok (.iconst 1, 1) := by decide +kernel
theorem dX8_copies_17 : decode cX8_copies 17 = .ok (.aload_n 0, 1) := by decide +kernel
theorem dX8_copies_18 : decode cX8_copies 18 = .ok (.getfield 50, 3) := by decide +kernel
theorem dX8_copies_21 : decode cX8_copies 21 = .ok (.iconst 0, 1) := by decide +kernel
theorem dX8_copies_22 : decode cX8_copies 22 = .ok (.laload, 1) := by decide +kernel
theorem dX8_copies_23 : decode cX8_copies 23 = .ok (.lastore, 1) := by decide +kernel
theorem dX8_copies_24 : decode cX8_copies 24 = .ok (.aload_n 0, 1) := by decide +kernel
theorem dX8_copies_25 : decode cX8_copies 25 = .ok (.getfield 54, 3) := by decide +kernel
theorem dX8_copies_28 : decode cX8_copies 28 = .ok (.iconst 1, 1) := by decide +kernel
theorem dX8_copies_29 : decode cX8_copies 29 = .ok (.aload_n 0, 1) := by decide +kernel
theorem dX8_copies_30 : decode cX8_copies 30 = .ok (.getfield 54, 3) := by decide +kernel
theorem dX8_copies_33 : decode cX8_copies 33 = .ok (.iconst 0, 1) := by decide +kernel
theorem dX8_copies_34 : decode cX8_copies 34 = .ok (.iaload, 1) := by decide +kernel
theorem dX8_copies_35 : decode cX8_copies 35 = .ok (.iastore, 1) := by decide +kernel
theorem dX8_copies_36 : decode cX8_copies 36 = .ok (.iconst 0, 1) := by decide +kernel
theorem dX8_copies_37 : decode cX8_copies 37 = .ok (.istore_n 1, 1) := by decide +kernel
theorem dX8_copies_38 : decode cX8_copies 38 = .ok (.iload_n 1, 1) := by decide +kernel
theorem dX8_copies_39 : decode cX8_copies 39 = .ok (.aload_n 0, 1) := by decide +kernel
theorem dX8_copies_40 : decode cX8_copies 40 = .ok (.getfield 54, 3) := by decide +kernel
theorem dX8_copies_43 : decode cX8_copies 43 = .ok (.iconst 0, 1) := by decide +kernel
theorem dX8_copies_44 : decode cX8_copies 44 = .ok (.iaload, 1) := by decide +kernel
theorem dX8_copies_45 : decode cX8_copies 45 = .ok (.if_icmp .ge 54, 3) := by decide +kernel
theorem dX8_copies_48 : decode cX8_copies 48 = .ok (.aload_n 0, 1) := by decide +kernel
theorem dX8_copies_49 : decode cX8_copies 49 = .ok (.getfield 57, 3) := by decide +kernel
theorem dX8_copies_52 : decode cX8_copies 52 = .ok (.bipush 60, 2) := by decide +kernel
theorem dX8_copies_54 : decode cX8_copies 54 = .ok (.iload_n 1, 1) := by decide +kernel
theorem dX8_copies_55 : decode cX8_copies 55 = .ok (.iadd, 1) := by decide +kernel
theorem dX8_copies_56 : decode cX8_copies 56 = .ok (.aload_n 0, 1) := by decide +kernel
theorem dX8_copies_57 : decode cX8_copies 57 = .ok (.getfield 57, 3) := by decide +kernel
theorem dX8_copies_60 : decode cX8_copies 60 = .ok (.iload_n 1, 1) := by decide +kernel
theorem dX8_copies_61 : decode cX8_copies 61 = .ok (.iaload, 1) := by decide +kernel
theorem dX8_copies_62 : decode cX8_copies 62 = .ok (.iastore, 1) := by decide +kernel
theorem dX8_copies_63 : decode cX8_copies 63 = .ok (.aload_n 0, 1) := by decide +kernel
theorem dX8_copies_64 : decode cX8_copies 64 = .ok (.getfield 60, 3) := by decide +kernel
theorem dX8_copies_67 : decode cX8_copies 67 = .ok (.bipush 60, 2) := by decide +kernel
theorem dX8_copies_69 : decode cX8_copies 69 = .ok (.iload_n 1, 1) := by decide +kernel
theorem dX8_copies_70 : decode cX8_copies 70 = .ok (.iadd, 1) := by decide +kernel
theorem dX8_copies_71 : decode cX8_copies 71 = .ok (.aload_n 0, 1) := by decide +kernel
theorem dX8_copies_72 : decode cX8_copies 72 = .ok (.getfield 60, 3) := by decide +kernel
theorem dX8_copies_75 : decode cX8_copies 75 = .ok (.iload_n 1, 1) := by decide +kernel
theorem dX8_copies_76 : decode cX8_copies 76 = .ok (.iaload, 1) := by decide +kernel
theorem dX8_copies_77 : decode cX8_copies 77 = .ok (.iastore, 1) := by decide +kernel
theorem dX8_copies_78 : decode cX8_copies 78 = .ok (.aload_n 0, 1) := by decide +kernel
theorem dX8_copies_79 : decode cX8_copies 79 = .ok (.getfield 63, 3) := by decide +kernel
theorem dX8_copies_82 : decode cX8_copies 82 = .ok (.bipush 60, 2) := by decide +kernel
theorem dX8_copies_84 : decode cX8_copies 84 = .ok (.iload_n 1, 1) := by decide +kernel
theorem dX8_copies_85 : decode cX8_copies 85 = .ok (.iadd, 1) := by decide +kernel
theorem dX8_copies_86 : decode cX8_copies 86 = .ok (.aload_n 0, 1) := by decide +kernel
theorem dX8_copies_87 : decode cX8_copies 87 = .ok (.getfield 63, 3) := by decide +kernel
theorem dX8_copies_90 : decode cX8_copies 90 = .ok (.iload_n 1, 1) := by decide +kernel
theorem dX8_copies_91 : decode cX8_copies 91 = .ok (.iaload, 1) := by decide +kernel
theorem dX8_copies_92 : decode cX8_copies 92 = .ok (.iastore, 1) := by decide +kernel
theorem dX8_copies_93 : decode cX8_copies 93 = .ok (.iinc 1 1, 3) := by decide +kernel
theorem dX8_copies_96 : decode cX8_copies 96 = .ok (.goto (-58), 3) := by decide +kernel
theorem dX8_copies_99 : decode cX8_copies 99 = .ok (.iconst 0, 1) := by decide +kernel
theorem dX8_copies_100 : decode cX8_copies 100 = .ok (.istore_n 1, 1) := by decide +kernel
theorem dX8_copies_101 : decode cX8_copies 101 = .ok (.iload_n 1, 1) := by decide +kernel
theorem dX8_copies_102 : decode cX8_copies 102 = .ok (.aload_n 0, 1) := by decide +kernel
theorem dX8_copies_103 : decode cX8_copies 103 = .ok (.getfield 143, 3) := by decide +kernel
theorem dX8_copies_106 : decode cX8_copies 106 = .ok (.if_icmp .ge 157, 3) := by decide +kernel
theorem dX8_copies_109 : decode cX8_copies 109 = .ok (.aload_n 0, 1) := by decide +kernel
theorem dX8_copies_110 : decode cX8_copies 110 = .ok (.getfield 66, 3) := by decide +kernel
theorem dX8_copies_113 : decode cX8_copies 113 = .ok (.bipush 8, 2) := by decide +kernel
theorem dX8_copies_115 : decode cX8_copies 115 = .ok (.iload_n 1, 1) := by decide +kernel
theorem dX8_copies_116 : decode cX8_copies 116 = .ok (.iadd, 1) := by decide +kernel
theorem dX8_copies_117 : decode cX8_copies 117 = .ok (.aload_n 0, 1) := by decide +kernel
theorem dX8_copies_118 : decode cX8_copies 118 = .ok (.getfield 66, 3) := by decide +kernel
theorem dX8_copies_121 : decode cX8_copies 121 = .ok (.iload_n 1, 1) := by decide +kernel
theorem dX8_copies_122 : decode cX8_copies 122 = .ok (.laload, 1) := by decide +kernel
theorem dX8_copies_123 : decode cX8_copies 123 = .ok (.lastore, 1) := by decide +kernel
theorem dX8_copies_124 : decode cX8_copies 124 = .ok (.aload_n 0, 1) := by decide +kernel
theorem dX8_copies_125 : decode cX8_copies 125 = .ok (.getfield 69, 3) := by decide +kernel
theorem dX8_copies_128 : decode cX8_copies 128 = .ok (.bipush 8, 2) := by decide +kernel
theorem dX8_copies_130 : decode cX8_copies 130 = .ok (.iload_n 1, 1) := by decide +kernel
theorem dX8_copies_131 : decode cX8_copies 131 = .ok (.iadd, 1) := by decide +kernel
theorem dX8_copies_132 : decode cX8_copies 132 = .ok (.aload_n 0, 1) := by decide +kernel
theorem dX8_copies_133 : decode cX8_copies 133 = .ok (.getfield 69, 3) := by decide +kernel
theorem dX8_copies_136 : decode cX8_copies 136 = .ok (.iload_n 1, 1) := by decide +kernel
theorem dX8_copies_137 : decode cX8_copies 137 = .ok (.iaload, 1) := by decide +kernel
theorem dX8_copies_138 : decode cX8_copies 138 = .ok (.iastore, 1) := by decide +kernel
theorem dX8_copies_139 : decode cX8_copies 139 = .ok (.aload_n 0, 1) := by decide +kernel
theorem dX8_copies_140 : decode cX8_copies 140 = .ok (.getfield 81, 3) := by decide +kernel
theorem dX8_copies_143 : decode cX8_copies 143 = .ok (.bipush 8, 2) := by decide +kernel
theorem dX8_copies_145 : decode cX8_copies 145 = .ok (.iload_n 1, 1) := by decide +kernel
theorem dX8_copies_146 : decode cX8_copies 146 = .ok (.iadd, 1) := by decide +kernel
theorem dX8_copies_147 : decode cX8_copies 147 = .ok (.aload_n 0, 1) := by decide +kernel
theorem dX8_copies_148 : decode cX8_copies 148 = .ok (.getfield 81, 3) := by decide +kernel
theorem dX8_copies_151 : decode cX8_copies 151 = .ok (.iload_n 1, 1) := by decide +kernel
theorem dX8_copies_152 : decode cX8_copies 152 = .ok (.laload, 1) := by decide +kernel
theorem dX8_copies_153 : decode cX8_copies 153 = .ok (.lastore, 1) := by decide +kernel
theorem dX8_copies_154 : decode cX8_copies 154 = .ok (.aload_n 0, 1) := by decide +kernel
theorem dX8_copies_155 : decode cX8_copies 155 = .ok (.getfield 75, 3) := by decide +kernel
theorem dX8_copies_158 : decode cX8_copies 158 = .ok (.bipush 8, 2) := by decide +kernel
theorem dX8_copies_160 : decode cX8_copies 160 = .ok (.iload_n 1, 1) := by decide +kernel
theorem dX8_copies_161 : decode cX8_copies 161 = .ok (.iadd, 1) := by decide +kernel
theorem dX8_copies_162 : decode cX8_copies 162 = .ok (.lconst 0, 1) := by decide +kernel
theorem dX8_copies_163 : decode cX8_copies 163 = .ok (.lastore, 1) := by decide +kernel
theorem dX8_copies_164 : decode cX8_copies 164 = .ok (.iconst 0, 1) := by decide +kernel
theorem dX8_copies_165 : decode cX8_copies 165 = .ok (.istore_n 2, 1) := by decide +kernel
theorem dX8_copies_166 : decode cX8_copies 166 = .ok (.iload_n 2, 1) := by decide +kernel
theorem dX8_copies_167 : decode cX8_copies 167 = .ok (.aload_n 0, 1) := by decide +kernel
theorem dX8_copies_168 : decode cX8_copies 168 = .ok (.getfield 69, 3) := by decide +kernel
theorem dX8_copies_171 : decode cX8_copies 171 = .ok (.iload_n 1, 1) := by decide +kernel
theorem dX8_copies_172 : decode cX8_copies 172 = .ok (.iaload, 1) := by decide +kernel
theorem dX8_copies_173 : decode cX8_copies 173 = .ok (.if_icmp .ge 84, 3) := by decide +kernel
theorem dX8_copies_176 : decode cX8_copies 176 = .ok (.aload_n 0, 1) := by decide +kernel
theorem dX8_copies_177 : decode cX8_copies 177 = .ok (.getfield 93, 3) := by decide +kernel
theorem dX8_copies_180 : decode cX8_copies 180 = .ok (.bipush 40, 2) := by decide +kernel
theorem dX8_copies_182 : decode cX8_copies 182 = .ok (.bipush 8, 2) := by decide +kernel
theorem dX8_copies_184 : decode cX8_copies 184 = .ok (.iload_n 1, 1) := by decide +kernel
theorem dX8_copies_185 : decode cX8_copies 185 = .ok (.iadd, 1) := by decide +kernel
theorem dX8_copies_186 : decode cX8_copies 186 = .ok (.imul, 1) := by decide +kernel
theorem dX8_copies_187 : decode cX8_copies 187 = .ok (.iload_n 2, 1) := by decide +kernel
theorem dX8_copies_188 : decode cX8_copies 188 = .ok (.iadd, 1) := by decide +kernel
theorem dX8_copies_189 : decode cX8_copies 189 = .ok (.aload_n 0, 1) := by decide +kernel
theorem dX8_copies_190 : decode cX8_copies 190 = .ok (.getfield 93, 3) := by decide +kernel
theorem dX8_copies_193 : decode cX8_copies 193 = .ok (.bipush 40, 2) := by decide +kernel
theorem dX8_copies_195 : decode cX8_copies 195 = .ok (.iload_n 1, 1) := by decide +kernel
theorem dX8_copies_196 : decode cX8_copies 196 = .ok (.imul, 1) := by decide +kernel
theorem dX8_copies_197 : decode cX8_copies 197 = .ok (.iload_n 2, 1) := by decide +kernel
theorem dX8_copies_198 : decode cX8_copies 198 = .ok (.iadd, 1) := by decide +kernel
theorem dX8_copies_199 : decode cX8_copies 199 = .ok (.iaload, 1) := by decide +kernel
theorem dX8_copies_200 : decode cX8_copies 200 = .ok (.iastore, 1) := by decide +kernel
theorem dX8_copies_201 : decode cX8_copies 201 = .ok (.aload_n 0, 1) := by decide +kernel
theorem dX8_copies_202 : decode cX8_copies 202 = .ok (.getfield 96, 3) := by decide +kernel
theorem dX8_copies_205 : decode cX8_copies 205 = .ok (.bipush 40, 2) := by decide +kernel
theorem dX8_copies_207 : decode cX8_copies 207 = .ok (.bipush 8, 2) := by decide +kernel
theorem dX8_copies_209 : decode cX8_copies 209 = .ok (.iload_n 1, 1) := by decide +kernel
theorem dX8_copies_210 : decode cX8_copies 210 = .ok (.iadd, 1) := by decide +kernel
theorem dX8_copies_211 : decode cX8_copies 211 = .ok (.imul, 1) := by decide +kernel
theorem dX8_copies_212 : decode cX8_copies 212 = .ok (.iload_n 2, 1) := by decide +kernel
theorem dX8_copies_213 : decode cX8_copies 213 = .ok (.iadd, 1) := by decide +kernel
theorem dX8_copies_214 : decode cX8_copies 214 = .ok (.aload_n 0, 1) := by decide +kernel
theorem dX8_copies_215 : decode cX8_copies 215 = .ok (.getfield 96, 3) := by decide +kernel
theorem dX8_copies_218 : decode cX8_copies 218 = .ok (.bipush 40, 2) := by decide +kernel
theorem dX8_copies_220 : decode cX8_copies 220 = .ok (.iload_n 1, 1) := by decide +kernel
theorem dX8_copies_221 : decode cX8_copies 221 = .ok (.imul, 1) := by decide +kernel
theorem dX8_copies_222 : decode cX8_copies 222 = .ok (.iload_n 2, 1) := by decide +kernel
theorem dX8_copies_223 : decode cX8_copies 223 = .ok (.iadd, 1) := by decide +kernel
theorem dX8_copies_224 : decode cX8_copies 224 = .ok (.iaload, 1) := by decide +kernel
theorem dX8_copies_225 : decode cX8_copies 225 = .ok (.iastore, 1) := by decide +kernel
theorem dX8_copies_226 : decode cX8_copies 226 = .ok (.aload_n 0, 1) := by decide +kernel
theorem dX8_copies_227 : decode cX8_copies 227 = .ok (.getfield 99, 3) := by decide +kernel
theorem dX8_copies_230 : decode cX8_copies 230 = .ok (.bipush 40, 2) := by decide +kernel
theorem dX8_copies_232 : decode cX8_copies 232 = .ok (.bipush 8, 2) := by decide +kernel
theorem dX8_copies_234 : decode cX8_copies 234 = .ok (.iload_n 1, 1) := by decide +kernel
theorem dX8_copies_235 : decode cX8_copies 235 = .ok (.iadd, 1) := by decide +kernel
theorem dX8_copies_236 : decode cX8_copies 236 = .ok (.imul, 1) := by decide +kernel
theorem dX8_copies_237 : decode cX8_copies 237 = .ok (.iload_n 2, 1) := by decide +kernel
theorem dX8_copies_238 : decode cX8_copies 238 = .ok (.iadd, 1) := by decide +kernel
theorem dX8_copies_239 : decode cX8_copies 239 = .ok (.aload_n 0, 1) := by decide +kernel
theorem dX8_copies_240 : decode cX8_copies 240 = .ok (.getfield 99, 3) := by decide +kernel
theorem dX8_copies_243 : decode cX8_copies 243 = .ok (.bipush 40, 2) := by decide +kernel
theorem dX8_copies_245 : decode cX8_copies 245 = .ok (.iload_n 1, 1) := by decide +kernel
theorem dX8_copies_246 : decode cX8_copies 246 = .ok (.imul, 1) := by decide +kernel
theorem dX8_copies_247 : decode cX8_copies 247 = .ok (.iload_n 2, 1) := by decide +kernel
theorem dX8_copies_248 : decode cX8_copies 248 = .ok (.iadd, 1) := by decide +kernel
theorem dX8_copies_249 : decode cX8_copies 249 = .ok (.iaload, 1) := by decide +kernel
theorem dX8_copies_250 : decode cX8_copies 250 = .ok (.iastore, 1) := by decide +kernel
theorem dX8_copies_251 : decode cX8_copies 251 = .ok (.iinc 2 1, 3) := by decide +kernel
theorem dX8_copies_254 : decode cX8_copies 254 = .ok (.goto (-88), 3) := by decide +kernel
theorem dX8_copies_257 : decode cX8_copies 257 = .ok (.iinc 1 1, 3) := by decide +kernel
theorem dX8_copies_260 : decode cX8_copies 260 = .ok (.goto (-159), 3) := by decide +kernel
theorem dX8_copies_263 : decode cX8_copies 263 = .ok (.return_, 1) := by decide +kernel
theorem dX8_hungerIn_0 : decode cX8_hungerIn 0 = .ok (.lconst 0, 1) := by decide +kernel
theorem dX8_hungerIn_1 : decode cX8_hungerIn 1 = .ok (.lstore_n 2, 1) := by decide +kernel
theorem dX8_hungerIn_2 : decode cX8_hungerIn 2 = .ok (.iconst 0, 1) := by decide +kernel
theorem dX8_hungerIn_3 : decode cX8_hungerIn 3 = .ok (.istore 4, 2) := by decide +kernel
theorem dX8_hungerIn_5 : decode cX8_hungerIn 5 = .ok (.iload 4, 2) := by decide +kernel
theorem dX8_hungerIn_7 : decode cX8_hungerIn 7 = .ok (.aload_n 0, 1) := by decide +kernel
theorem dX8_hungerIn_8 : decode cX8_hungerIn 8 = .ok (.getfield 143, 3) := by decide +kernel
theorem dX8_hungerIn_11 : decode cX8_hungerIn 11 = .ok (.if_icmp .ge 24, 3) := by decide +kernel
theorem dX8_hungerIn_14 : decode cX8_hungerIn 14 = .ok (.lload_n 2, 1) := by decide +kernel
theorem dX8_hungerIn_15 : decode cX8_hungerIn 15 = .ok (.aload_n 0, 1) := by decide +kernel
theorem dX8_hungerIn_16 : decode cX8_hungerIn 16 = .ok (.getfield 75, 3) := by decide +kernel
theorem dX8_hungerIn_19 : decode cX8_hungerIn 19 = .ok (.bipush 8, 2) := by decide +kernel
theorem dX8_hungerIn_21 : decode cX8_hungerIn 21 = .ok (.iload_n 1, 1) := by decide +kernel
theorem dX8_hungerIn_22 : decode cX8_hungerIn 22 = .ok (.imul, 1) := by decide +kernel
theorem dX8_hungerIn_23 : decode cX8_hungerIn 23 = .ok (.iload 4, 2) := by decide +kernel
theorem dX8_hungerIn_25 : decode cX8_hungerIn 25 = .ok (.iadd, 1) := by decide +kernel
theorem dX8_hungerIn_26 : decode cX8_hungerIn 26 = .ok (.laload, 1) := by decide +kernel
theorem dX8_hungerIn_27 : decode cX8_hungerIn 27 = .ok (.ladd, 1) := by decide +kernel
theorem dX8_hungerIn_28 : decode cX8_hungerIn 28 = .ok (.lstore_n 2, 1) := by decide +kernel
theorem dX8_hungerIn_29 : decode cX8_hungerIn 29 = .ok (.iinc 4 1, 3) := by decide +kernel
theorem dX8_hungerIn_32 : decode cX8_hungerIn 32 = .ok (.goto (-27), 3) := by decide +kernel
theorem dX8_hungerIn_35 : decode cX8_hungerIn 35 = .ok (.lload_n 2, 1) := by decide +kernel
theorem dX8_hungerIn_36 : decode cX8_hungerIn 36 = .ok (.lreturn, 1) := by decide +kernel
theorem dX8_goesOn_0 : decode cX8_goesOn 0 = .ok (.iconst 0, 1) := by decide +kernel
theorem dX8_goesOn_1 : decode cX8_goesOn 1 = .ok (.istore_n 2, 1) := by decide +kernel
theorem dX8_goesOn_2 : decode cX8_goesOn 2 = .ok (.iload_n 2, 1) := by decide +kernel
theorem dX8_goesOn_3 : decode cX8_goesOn 3 = .ok (.iload_n 1, 1) := by decide +kernel
theorem dX8_goesOn_4 : decode cX8_goesOn 4 = .ok (.if_icmp .ge 18, 3) := by decide +kernel
theorem dX8_goesOn_7 : decode cX8_goesOn 7 = .ok (.aload_n 0, 1) := by decide +kernel
theorem dX8_goesOn_8 : decode cX8_goesOn 8 = .ok (.iconst 1, 1) := by decide +kernel
theorem dX8_goesOn_9 : decode cX8_goesOn 9 = .ok (.aload_n 0, 1) := by decide +kernel
theorem dX8_goesOn_10 : decode cX8_goesOn 10 = .ok (.getfield 17, 3) := by decide +kernel
theorem dX8_goesOn_13 : decode cX8_goesOn 13 = .ok (.invokevirtual 215, 3) := by decide +kernel
theorem dX8_goesOn_16 : decode cX8_goesOn 16 = .ok (.iinc 2 1, 3) := by decide +kernel
theorem dX8_goesOn_19 : decode cX8_goesOn 19 = .ok (.goto (-17), 3) := by decide +kernel
theorem dX8_goesOn_22 : decode cX8_goesOn 22 = .ok (.aload_n 0, 1) := by decide +kernel
theorem dX8_goesOn_23 : decode cX8_goesOn 23 = .ok (.iconst 1, 1) := by decide +kernel
theorem dX8_goesOn_24 : decode cX8_goesOn 24 = .ok (.invokevirtual 232, 3) := by decide +kernel
theorem dX8_goesOn_27 : decode cX8_goesOn 27 = .ok (.lreturn, 1) := by decide +kernel
theorem dX8_foretold_0 : decode cX8_foretold 0 = .ok (.iload_n 1, 1) := by decide +kernel
theorem dX8_foretold_1 : decode cX8_foretold 1 = .ok (.i2l, 1) := by decide +kernel
theorem dX8_foretold_2 : decode cX8_foretold 2 = .ok (.lconst 1, 1) := by decide +kernel
theorem dX8_foretold_3 : decode cX8_foretold 3 = .ok (.ldc2_w 213, 3) := by decide +kernel
theorem dX8_foretold_6 : decode cX8_foretold 6 = .ok (.invokestatic 120, 3) := by decide +kernel
theorem dX8_foretold_9 : decode cX8_foretold 9 = .ok (.ifCond .ne 7, 3) := by decide +kernel
theorem dX8_foretold_12 : decode cX8_foretold 12 = .ok (.ldc2_w 226, 3) := by decide +kernel
theorem dX8_foretold_15 : decode cX8_foretold 15 = .ok (.lreturn, 1) := by decide +kernel
theorem dX8_foretold_16 : decode cX8_foretold 16 = .ok (.aload_n 0, 1) := by decide +kernel
theorem dX8_foretold_17 : decode cX8_foretold 17 = .ok (.invokevirtual 235, 3) := by decide +kernel
theorem dX8_foretold_20 : decode cX8_foretold 20 = .ok (.aload_n 0, 1) := by decide +kernel
theorem dX8_foretold_21 : decode cX8_foretold 21 = .ok (.iload_n 1, 1) := by decide +kernel
theorem dX8_foretold_22 : decode cX8_foretold 22 = .ok (.invokevirtual 238, 3) := by decide +kernel
theorem dX8_foretold_25 : decode cX8_foretold 25 = .ok (.lreturn, 1) := by decide +kernel
theorem dX8_best_0 : decode cX8_best 0 = .ok (.aload_n 0, 1) := by decide +kernel
theorem dX8_best_1 : decode cX8_best 1 = .ok (.iload_n 1, 1) := by decide +kernel
theorem dX8_best_2 : decode cX8_best 2 = .ok (.invokevirtual 155, 3) := by decide +kernel
theorem dX8_best_5 : decode cX8_best 5 = .ok (.ifCond .eq 15, 3) := by decide +kernel
theorem dX8_best_8 : decode cX8_best 8 = .ok (.iload_n 2, 1) := by decide +kernel
theorem dX8_best_9 : decode cX8_best 9 = .ok (.i2l, 1) := by decide +kernel
theorem dX8_best_10 : decode cX8_best 10 = .ok (.lconst 1, 1) := by decide +kernel
theorem dX8_best_11 : decode cX8_best 11 = .ok (.ldc2_w 213, 3) := by decide +kernel
theorem dX8_best_14 : decode cX8_best 14 = .ok (.invokestatic 120, 3) := by decide +kernel
theorem dX8_best_17 : decode cX8_best 17 = .ok (.ifCond .ne 5, 3) := by decide +kernel
theorem dX8_best_20 : decode cX8_best 20 = .ok (.iconst (-1), 1) := by decide +kernel
theorem dX8_best_21 : decode cX8_best 21 = .ok (.ireturn, 1) := by decide +kernel
theorem dX8_best_22 : decode cX8_best 22 = .ok (.aload_n 0, 1) := by decide +kernel
theorem dX8_best_23 : decode cX8_best 23 = .ok (.invokevirtual 235, 3) := by decide +kernel
theorem dX8_best_26 : decode cX8_best 26 = .ok (.aload_n 0, 1) := by decide +kernel
theorem dX8_best_27 : decode cX8_best 27 = .ok (.iload_n 2, 1) := by decide +kernel
theorem dX8_best_28 : decode cX8_best 28 = .ok (.invokevirtual 238, 3) := by decide +kernel
theorem dX8_best_31 : decode cX8_best 31 = .ok (.lstore_n 3, 1) := by decide +kernel
theorem dX8_best_32 : decode cX8_best 32 = .ok (.iconst (-1), 1) := by decide +kernel
theorem dX8_best_33 : decode cX8_best 33 = .ok (.istore 5, 2) := by decide +kernel
theorem dX8_best_35 : decode cX8_best 35 = .ok (.iconst 0, 1) := by decide +kernel
theorem dX8_best_36 : decode cX8_best 36 = .ok (.istore 6, 2) := by decide +kernel
theorem dX8_best_38 : decode cX8_best 38 = .ok (.iload 6, 2) := by decide +kernel
theorem dX8_best_40 : decode cX8_best 40 = .ok (.aload_n 0, 1) := by decide +kernel
theorem dX8_best_41 : decode cX8_best 41 = .ok (.getfield 152, 3) := by decide +kernel
theorem dX8_best_44 : decode cX8_best 44 = .ok (.if_icmp .ge 104, 3) := by decide +kernel
theorem dX8_best_47 : decode cX8_best 47 = .ok (.aload_n 0, 1) := by decide +kernel
theorem dX8_best_48 : decode cX8_best 48 = .ok (.getfield 54, 3) := by decide +kernel
theorem dX8_best_51 : decode cX8_best 51 = .ok (.iconst 0, 1) := by decide +kernel
theorem dX8_best_52 : decode cX8_best 52 = .ok (.iaload, 1) := by decide +kernel
theorem dX8_best_53 : decode cX8_best 53 = .ok (.bipush 60, 2) := by decide +kernel
theorem dX8_best_55 : decode cX8_best 55 = .ok (.if_icmp .ge 93, 3) := by decide +kernel
theorem dX8_best_58 : decode cX8_best 58 = .ok (.aload_n 0, 1) := by decide +kernel
theorem dX8_best_59 : decode cX8_best 59 = .ok (.getfield 41, 3) := by decide +kernel
theorem dX8_best_62 : decode cX8_best 62 = .ok (.iload 6, 2) := by decide +kernel
theorem dX8_best_64 : decode cX8_best 64 = .ok (.iaload, 1) := by decide +kernel
theorem dX8_best_65 : decode cX8_best 65 = .ok (.aload_n 0, 1) := by decide +kernel
theorem dX8_best_66 : decode cX8_best 66 = .ok (.getfield 44, 3) := by decide +kernel
theorem dX8_best_69 : decode cX8_best 69 = .ok (.iload 6, 2) := by decide +kernel
theorem dX8_best_71 : decode cX8_best 71 = .ok (.iaload, 1) := by decide +kernel
theorem dX8_best_72 : decode cX8_best 72 = .ok (.isub, 1) := by decide +kernel
theorem dX8_best_73 : decode cX8_best 73 = .ok (.i2l, 1) := by decide +kernel
theorem dX8_best_74 : decode cX8_best 74 = .ok (.aload_n 0, 1) := by decide +kernel
theorem dX8_best_75 : decode cX8_best 75 = .ok (.iload_n 1, 1) := by decide +kernel
theorem dX8_best_76 : decode cX8_best 76 = .ok (.invokevirtual 169, 3) := by decide +kernel
theorem dX8_best_79 : decode cX8_best 79 = .ok (.invokestatic 177, 3) := by decide +kernel
theorem dX8_best_82 : decode cX8_best 82 = .ok (.l2i, 1) := by decide +kernel
theorem dX8_best_83 : decode cX8_best 83 = .ok (.istore 7, 2) := by decide +kernel
theorem dX8_best_85 : decode cX8_best 85 = .ok (.aload_n 0, 1) := by decide +kernel
theorem dX8_best_86 : decode cX8_best 86 = .ok (.iload 6, 2) := by decide +kernel
theorem dX8_best_88 : decode cX8_best 88 = .ok (.iload_n 1, 1) := by decide +kernel
theorem dX8_best_89 : decode cX8_best 89 = .ok (.invokevirtual 219, 3) := by decide +kernel
theorem dX8_best_92 : decode cX8_best 92 = .ok (.ifCond .eq 50, 3) := by decide +kernel
theorem dX8_best_95 : decode cX8_best 95 = .ok (.iload 7, 2) := by decide +kernel
theorem dX8_best_97 : decode cX8_best 97 = .ok (.iconst 1, 1) := by decide +kernel
theorem dX8_best_98 : decode cX8_best 98 = .ok (.if_icmp .ge 6, 3) := by decide +kernel
theorem dX8_best_101 : decode cX8_best 101 = .ok (.goto 41, 3) := by decide +kernel
theorem dX8_best_104 : decode cX8_best 104 = .ok (.aload_n 0, 1) := by decide +kernel
theorem dX8_best_105 : decode cX8_best 105 = .ok (.invokevirtual 235, 3) := by decide +kernel
theorem dX8_best_108 : decode cX8_best 108 = .ok (.aload_n 0, 1) := by decide +kernel
theorem dX8_best_109 : decode cX8_best 109 = .ok (.iconst 1, 1) := by decide +kernel
theorem dX8_best_110 : decode cX8_best 110 = .ok (.iload_n 1, 1) := by decide +kernel
theorem dX8_best_111 : decode cX8_best 111 = .ok (.iload 6, 2) := by decide +kernel
theorem dX8_best_113 : decode cX8_best 113 = .ok (.iload 7, 2) := by decide +kernel
theorem dX8_best_115 : decode cX8_best 115 = .ok (.invokevirtual 222, 3) := by decide +kernel
theorem dX8_best_118 : decode cX8_best 118 = .ok (.aload_n 0, 1) := by decide +kernel
theorem dX8_best_119 : decode cX8_best 119 = .ok (.iload_n 2, 1) := by decide +kernel
theorem dX8_best_120 : decode cX8_best 120 = .ok (.invokevirtual 238, 3) := by decide +kernel
theorem dX8_best_123 : decode cX8_best 123 = .ok (.lstore 8, 2) := by decide +kernel
theorem dX8_best_125 : decode cX8_best 125 = .ok (.lload 8, 2) := by decide +kernel
theorem dX8_best_127 : decode cX8_best 127 = .ok (.lload_n 3, 1) := by decide +kernel
theorem dX8_best_128 : decode cX8_best 128 = .ok (.lcmp, 1) := by decide +kernel
theorem dX8_best_129 : decode cX8_best 129 = .ok (.ifCond .lt 6, 3) := by decide +kernel
theorem dX8_best_132 : decode cX8_best 132 = .ok (.goto 10, 3) := by decide +kernel
theorem dX8_best_135 : decode cX8_best 135 = .ok (.lload 8, 2) := by decide +kernel
theorem dX8_best_137 : decode cX8_best 137 = .ok (.lstore_n 3, 1) := by decide +kernel
theorem dX8_best_138 : decode cX8_best 138 = .ok (.iload 6, 2) := by decide +kernel
theorem dX8_best_140 : decode cX8_best 140 = .ok (.istore 5, 2) := by decide +kernel
theorem dX8_best_142 : decode cX8_best 142 = .ok (.iinc 6 1, 3) := by decide +kernel
theorem dX8_best_145 : decode cX8_best 145 = .ok (.goto (-107), 3) := by decide +kernel
theorem dX8_best_148 : decode cX8_best 148 = .ok (.iload 5, 2) := by decide +kernel
theorem dX8_best_150 : decode cX8_best 150 = .ok (.ireturn, 1) := by decide +kernel
theorem dX8_look_0 : decode cX8_look 0 = .ok (.aload_n 0, 1) := by decide +kernel
theorem dX8_look_1 : decode cX8_look 1 = .ok (.iload_n 1, 1) := by decide +kernel
theorem dX8_look_2 : decode cX8_look 2 = .ok (.invokevirtual 155, 3) := by decide +kernel
theorem dX8_look_5 : decode cX8_look 5 = .ok (.ifCond .ne 7, 3) := by decide +kernel
theorem dX8_look_8 : decode cX8_look 8 = .ok (.ldc2_w 226, 3) := by decide +kernel
theorem dX8_look_11 : decode cX8_look 11 = .ok (.lreturn, 1) := by decide +kernel
theorem dX8_look_12 : decode cX8_look 12 = .ok (.iload_n 2, 1) := by decide +kernel
theorem dX8_look_13 : decode cX8_look 13 = .ok (.tableswitch 160 0 12 #[67, 75, 82, 90, 97, 105, 111, 118, 125, 132, 139, 146, 153], 67) := by decide +kernel
theorem dX8_look_80 : decode cX8_look 80 = .ok (.aload_n 0, 1) := by decide +kernel
theorem dX8_look_81 : decode cX8_look 81 = .ok (.getfield 23, 3) := by decide +kernel
theorem dX8_look_84 : decode cX8_look 84 = .ok (.iload_n 1, 1) := by decide +kernel
theorem dX8_look_85 : decode cX8_look 85 = .ok (.iaload, 1) := by decide +kernel
theorem dX8_look_86 : decode cX8_look 86 = .ok (.i2l, 1) := by decide +kernel
theorem dX8_look_87 : decode cX8_look 87 = .ok (.lreturn, 1) := by decide +kernel
theorem dX8_look_88 : decode cX8_look 88 = .ok (.aload_n 0, 1) := by decide +kernel
theorem dX8_look_89 : decode cX8_look 89 = .ok (.getfield 66, 3) := by decide +kernel
theorem dX8_look_92 : decode cX8_look 92 = .ok (.iload_n 1, 1) := by decide +kernel
theorem dX8_look_93 : decode cX8_look 93 = .ok (.laload, 1) := by decide +kernel
theorem dX8_look_94 : decode cX8_look 94 = .ok (.lreturn, 1) := by decide +kernel
theorem dX8_look_95 : decode cX8_look 95 = .ok (.aload_n 0, 1) := by decide +kernel
theorem dX8_look_96 : decode cX8_look 96 = .ok (.getfield 26, 3) := by decide +kernel
theorem dX8_look_99 : decode cX8_look 99 = .ok (.iload_n 1, 1) := by decide +kernel
theorem dX8_look_100 : decode cX8_look 100 = .ok (.iaload, 1) := by decide +kernel
theorem dX8_look_101 : decode cX8_look 101 = .ok (.i2l, 1) := by decide +kernel
theorem dX8_look_102 : decode cX8_look 102 = .ok (.lreturn, 1) := by decide +kernel
theorem dX8_look_103 : decode cX8_look 103 = .ok (.aload_n 0, 1) := by decide +kernel
theorem dX8_look_104 : decode cX8_look 104 = .ok (.iload_n 1, 1) := by decide +kernel
theorem dX8_look_105 : decode cX8_look 105 = .ok (.iload_n 1, 1) := by decide +kernel
theorem dX8_look_106 : decode cX8_look 106 = .ok (.invokevirtual 185, 3) := by decide +kernel
theorem dX8_look_109 : decode cX8_look 109 = .ok (.lreturn, 1) := by decide +kernel
theorem dX8_look_110 : decode cX8_look 110 = .ok (.aload_n 0, 1) := by decide +kernel
theorem dX8_look_111 : decode cX8_look 111 = .ok (.getfield 69, 3) := by decide +kernel
theorem dX8_look_114 : decode cX8_look 114 = .ok (.iload_n 1, 1) := by decide +kernel
theorem dX8_look_115 : decode cX8_look 115 = .ok (.iaload, 1) := by decide +kernel
theorem dX8_look_116 : decode cX8_look 116 = .ok (.i2l, 1) := by decide +kernel
theorem dX8_look_117 : decode cX8_look 117 = .ok (.lreturn, 1) := by decide +kernel
theorem dX8_look_118 : decode cX8_look 118 = .ok (.aload_n 0, 1) := by decide +kernel
theorem dX8_look_119 : decode cX8_look 119 = .ok (.iload_n 1, 1) := by decide +kernel
theorem dX8_look_120 : decode cX8_look 120 = .ok (.invokevirtual 169, 3) := by decide +kernel
theorem dX8_look_123 : decode cX8_look 123 = .ok (.lreturn, 1) := by decide +kernel
theorem dX8_look_124 : decode cX8_look 124 = .ok (.aload_n 0, 1) := by decide +kernel
theorem dX8_look_125 : decode cX8_look 125 = .ok (.iload_n 1, 1) := by decide +kernel
theorem dX8_look_126 : decode cX8_look 126 = .ok (.iconst 1, 1) := by decide +kernel
theorem dX8_look_127 : decode cX8_look 127 = .ok (.invokevirtual 228, 3) := by decide +kernel
theorem dX8_look_130 : decode cX8_look 130 = .ok (.lreturn, 1) := by decide +kernel
theorem dX8_look_131 : decode cX8_look 131 = .ok (.aload_n 0, 1) := by decide +kernel
theorem dX8_look_132 : decode cX8_look 132 = .ok (.getfield 75, 3) := by decide +kernel
theorem dX8_look_135 : decode cX8_look 135 = .ok (.iload_n 1, 1) := by decide +kernel
theorem dX8_look_136 : decode cX8_look 136 = .ok (.laload, 1) := by decide +kernel
theorem dX8_look_137 : decode cX8_look 137 = .ok (.lreturn, 1) := by decide +kernel
theorem dX8_look_138 : decode cX8_look 138 = .ok (.aload_n 0, 1) := by decide +kernel
theorem dX8_look_139 : decode cX8_look 139 = .ok (.getfield 78, 3) := by decide +kernel
theorem dX8_look_142 : decode cX8_look 142 = .ok (.iload_n 1, 1) := by decide +kernel
theorem dX8_look_143 : decode cX8_look 143 = .ok (.laload, 1) := by decide +kernel
theorem dX8_look_144 : decode cX8_look 144 = .ok (.lreturn, 1) := by decide +kernel
theorem dX8_look_145 : decode cX8_look 145 = .ok (.aload_n 0, 1) := by decide +kernel
theorem dX8_look_146 : decode cX8_look 146 = .ok (.getfield 81, 3) := by decide +kernel
theorem dX8_look_149 : decode cX8_look 149 = .ok (.iload_n 1, 1) := by decide +kernel
theorem dX8_look_150 : decode cX8_look 150 = .ok (.laload, 1) := by decide +kernel
theorem dX8_look_151 : decode cX8_look 151 = .ok (.lreturn, 1) := by decide +kernel
theorem dX8_look_152 : decode cX8_look 152 = .ok (.aload_n 0, 1) := by decide +kernel
theorem dX8_look_153 : decode cX8_look 153 = .ok (.getfield 84, 3) := by decide +kernel
theorem dX8_look_156 : decode cX8_look 156 = .ok (.iload_n 1, 1) := by decide +kernel
theorem dX8_look_157 : decode cX8_look 157 = .ok (.laload, 1) := by decide +kernel
theorem dX8_look_158 : decode cX8_look 158 = .ok (.lreturn, 1) := by decide +kernel
theorem dX8_look_159 : decode cX8_look 159 = .ok (.aload_n 0, 1) := by decide +kernel
theorem dX8_look_160 : decode cX8_look 160 = .ok (.getfield 87, 3) := by decide +kernel
theorem dX8_look_163 : decode cX8_look 163 = .ok (.iload_n 1, 1) := by decide +kernel
theorem dX8_look_164 : decode cX8_look 164 = .ok (.laload, 1) := by decide +kernel
theorem dX8_look_165 : decode cX8_look 165 = .ok (.lreturn, 1) := by decide +kernel
theorem dX8_look_166 : decode cX8_look 166 = .ok (.aload_n 0, 1) := by decide +kernel
theorem dX8_look_167 : decode cX8_look 167 = .ok (.getfield 90, 3) := by decide +kernel
theorem dX8_look_170 : decode cX8_look 170 = .ok (.iload_n 1, 1) := by decide +kernel
theorem dX8_look_171 : decode cX8_look 171 = .ok (.laload, 1) := by decide +kernel
theorem dX8_look_172 : decode cX8_look 172 = .ok (.lreturn, 1) := by decide +kernel
theorem dX8_look_173 : decode cX8_look 173 = .ok (.ldc2_w 226, 3) := by decide +kernel
theorem dX8_look_176 : decode cX8_look 176 = .ok (.lreturn, 1) := by decide +kernel
theorem dX8_lot_0 : decode cX8_lot 0 = .ok (.aload_n 0, 1) := by decide +kernel
theorem dX8_lot_1 : decode cX8_lot 1 = .ok (.iload_n 1, 1) := by decide +kernel
theorem dX8_lot_2 : decode cX8_lot 2 = .ok (.invokevirtual 155, 3) := by decide +kernel
theorem dX8_lot_5 : decode cX8_lot 5 = .ok (.ifCond .eq 21, 3) := by decide +kernel
theorem dX8_lot_8 : decode cX8_lot 8 = .ok (.iload_n 2, 1) := by decide +kernel
theorem dX8_lot_9 : decode cX8_lot 9 = .ok (.i2l, 1) := by decide +kernel
theorem dX8_lot_10 : decode cX8_lot 10 = .ok (.lconst 0, 1) := by decide +kernel
theorem dX8_lot_11 : decode cX8_lot 11 = .ok (.aload_n 0, 1) := by decide +kernel
theorem dX8_lot_12 : decode cX8_lot 12 = .ok (.getfield 69, 3) := by decide +kernel
theorem dX8_lot_15 : decode cX8_lot 15 = .ok (.iload_n 1, 1) := by decide +kernel
theorem dX8_lot_16 : decode cX8_lot 16 = .ok (.iaload, 1) := by decide +kernel
theorem dX8_lot_17 : decode cX8_lot 17 = .ok (.iconst 1, 1) := by decide +kernel
theorem dX8_lot_18 : decode cX8_lot 18 = .ok (.isub, 1) := by decide +kernel
theorem dX8_lot_19 : decode cX8_lot 19 = .ok (.i2l, 1) := by decide +kernel
theorem dX8_lot_20 : decode cX8_lot 20 = .ok (.invokestatic 120, 3) := by decide +kernel
theorem dX8_lot_23 : decode cX8_lot 23 = .ok (.ifCond .ne 5, 3) := by decide +kernel
theorem dX8_lot_26 : decode cX8_lot 26 = .ok (.iconst (-1), 1) := by decide +kernel
theorem dX8_lot_27 : decode cX8_lot 27 = .ok (.ireturn, 1) := by decide +kernel
theorem dX8_lot_28 : decode cX8_lot 28 = .ok (.bipush 40, 2) := by decide +kernel
theorem dX8_lot_30 : decode cX8_lot 30 = .ok (.iload_n 1, 1) := by decide +kernel
theorem dX8_lot_31 : decode cX8_lot 31 = .ok (.imul, 1) := by decide +kernel
theorem dX8_lot_32 : decode cX8_lot 32 = .ok (.iload_n 2, 1) := by decide +kernel
theorem dX8_lot_33 : decode cX8_lot 33 = .ok (.iadd, 1) := by decide +kernel
theorem dX8_lot_34 : decode cX8_lot 34 = .ok (.istore 4, 2) := by decide +kernel
theorem dX8_lot_36 : decode cX8_lot 36 = .ok (.iload_n 3, 1) := by decide +kernel
theorem dX8_lot_37 : decode cX8_lot 37 = .ok (.ifCond .ne 13, 3) := by decide +kernel
theorem dX8_lot_40 : decode cX8_lot 40 = .ok (.aload_n 0, 1) := by decide +kernel
theorem dX8_lot_41 : decode cX8_lot 41 = .ok (.getfield 93, 3) := by decide +kernel
theorem dX8_lot_44 : decode cX8_lot 44 = .ok (.iload 4, 2) := by decide +kernel
theorem dX8_lot_46 : decode cX8_lot 46 = .ok (.iaload, 1) := by decide +kernel
theorem dX8_lot_47 : decode cX8_lot 47 = .ok (.goto 42, 3) := by decide +kernel
theorem dX8_lot_50 : decode cX8_lot 50 = .ok (.iload_n 3, 1) := by decide +kernel
theorem dX8_lot_51 : decode cX8_lot 51 = .ok (.iconst 1, 1) := by decide +kernel
theorem dX8_lot_52 : decode cX8_lot 52 = .ok (.if_icmp .ne 13, 3) := by decide +kernel
theorem dX8_lot_55 : decode cX8_lot 55 = .ok (.aload_n 0, 1) := by decide +kernel
theorem dX8_lot_56 : decode cX8_lot 56 = .ok (.getfield 96, 3) := by decide +kernel
theorem dX8_lot_59 : decode cX8_lot 59 = .ok (.iload 4, 2) := by decide +kernel
theorem dX8_lot_61 : decode cX8_lot 61 = .ok (.iaload, 1) := by decide +kernel
theorem dX8_lot_62 : decode cX8_lot 62 = .ok (.goto 27, 3) := by decide +kernel
theorem dX8_lot_65 : decode cX8_lot 65 = .ok (.iload_n 3, 1) := by decide +kernel
theorem dX8_lot_66 : decode cX8_lot 66 = .ok (.iconst 2, 1) := by decide +kernel
theorem dX8_lot_67 : decode cX8_lot 67 = .ok (.if_icmp .ne 21, 3) := by decide +kernel
theorem dX8_lot_70 : decode cX8_lot 70 = .ok (.aload_n 0, 1) := by decide +kernel
theorem dX8_lot_71 : decode cX8_lot 71 = .ok (.getfield 102, 3) := by decide +kernel
theorem dX8_lot_74 : decode cX8_lot 74 = .ok (.iload 4, 2) := by decide +kernel
theorem dX8_lot_76 : decode cX8_lot 76 = .ok (.baload, 1) := by decide +kernel
theorem dX8_lot_77 : decode cX8_lot 77 = .ok (.ifCond .eq 7, 3) := by decide +kernel
theorem dX8_lot_80 : decode cX8_lot 80 = .ok (.iconst 1, 1) := by decide +kernel
theorem dX8_lot_81 : decode cX8_lot 81 = .ok (.goto 8, 3) := by decide +kernel
theorem dX8_lot_84 : decode cX8_lot 84 = .ok (.iconst 0, 1) := by decide +kernel
theorem dX8_lot_85 : decode cX8_lot 85 = .ok (.goto 4, 3) := by decide +kernel
theorem dX8_lot_88 : decode cX8_lot 88 = .ok (.iconst (-1), 1) := by decide +kernel
theorem dX8_lot_89 : decode cX8_lot 89 = .ok (.ireturn, 1) := by decide +kernel
theorem dX8_count_0 : decode cX8_count 0 = .ok (.lconst 0, 1) := by decide +kernel
theorem dX8_count_1 : decode cX8_count 1 = .ok (.lstore_n 2, 1) := by decide +kernel
theorem dX8_count_2 : decode cX8_count 2 = .ok (.iload_n 1, 1) := by decide +kernel
theorem dX8_count_3 : decode cX8_count 3 = .ok (.bipush 10, 2) := by decide +kernel
theorem dX8_count_5 : decode cX8_count 5 = .ok (.isub, 1) := by decide +kernel
theorem dX8_count_6 : decode cX8_count 6 = .ok (.i2l, 1) := by decide +kernel
theorem dX8_count_7 : decode cX8_count 7 = .ok (.lconst 0, 1) := by decide +kernel
theorem dX8_count_8 : decode cX8_count 8 = .ok (.aload_n 0, 1) := by decide +kernel
theorem dX8_count_9 : decode cX8_count 9 = .ok (.getfield 152, 3) := by decide +kernel
theorem dX8_count_12 : decode cX8_count 12 = .ok (.iconst 1, 1) := by decide +kernel
theorem dX8_count_13 : decode cX8_count 13 = .ok (.isub, 1) := by decide +kernel
theorem dX8_count_14 : decode cX8_count 14 = .ok (.i2l, 1) := by decide +kernel
theorem dX8_count_15 : decode cX8_count 15 = .ok (.invokestatic 120, 3) := by decide +kernel
theorem dX8_count_18 : decode cX8_count 18 = .ok (.ifCond .eq 14, 3) := by decide +kernel
theorem dX8_count_21 : decode cX8_count 21 = .ok (.aload_n 0, 1) := by decide +kernel
theorem dX8_count_22 : decode cX8_count 22 = .ok (.getfield 44, 3) := by decide +kernel
theorem dX8_count_25 : decode cX8_count 25 = .ok (.iload_n 1, 1) := by decide +kernel
theorem dX8_count_26 : decode cX8_count 26 = .ok (.bipush 10, 2) := by decide +kernel
theorem dX8_count_28 : decode cX8_count 28 = .ok (.isub, 1) := by decide +kernel
theorem dX8_count_29 : decode cX8_count 29 = .ok (.iaload, 1) := by decide +kernel
theorem dX8_count_30 : decode cX8_count 30 = .ok (.i2l, 1) := by decide +kernel
theorem dX8_count_31 : decode cX8_count 31 = .ok (.lreturn, 1) := by decide +kernel
theorem dX8_count_32 : decode cX8_count 32 = .ok (.iload_n 1, 1) := by decide +kernel
theorem dX8_count_33 : decode cX8_count 33 = .ok (.tableswitch 115 0 6 #[43, 51, 57, 63, 70, 103, 109], 43) := by decide +kernel
theorem dX8_count_76 : decode cX8_count 76 = .ok (.aload_n 0, 1) := by decide +kernel
theorem dX8_count_77 : decode cX8_count 77 = .ok (.getfield 47, 3) := by decide +kernel
theorem dX8_count_80 : decode cX8_count 80 = .ok (.iconst 0, 1) := by decide +kernel
theorem dX8_count_81 : decode cX8_count 81 = .ok (.iaload, 1) := by decide +kernel
theorem dX8_count_82 : decode cX8_count 82 = .ok (.i2l, 1) := by decide +kernel
theorem dX8_count_83 : decode cX8_count 83 = .ok (.lreturn, 1) := by decide +kernel
theorem dX8_count_84 : decode cX8_count 84 = .ok (.aload_n 0, 1) := by decide +kernel
theorem dX8_count_85 : decode cX8_count 85 = .ok (.getfield 143, 3) := by decide +kernel
theorem dX8_count_88 : decode cX8_count 88 = .ok (.i2l, 1) := by decide +kernel
theorem dX8_count_89 : decode cX8_count 89 = .ok (.lreturn, 1) := by decide +kernel
theorem dX8_count_90 : decode cX8_count 90 = .ok (.aload_n 0, 1) := by decide +kernel
theorem dX8_count_91 : decode cX8_count 91 = .ok (.getfield 152, 3) := by decide +kernel
theorem dX8_count_94 : decode cX8_count 94 = .ok (.i2l, 1) := by decide +kernel
theorem dX8_count_95 : decode cX8_count 95 = .ok (.lreturn, 1) := by decide +kernel
theorem dX8_count_96 : decode cX8_count 96 = .ok (.aload_n 0, 1) := by decide +kernel
theorem dX8_count_97 : decode cX8_count 97 = .ok (.getfield 50, 3) := by decide +kernel
theorem dX8_count_100 : decode cX8_count 100 = .ok (.iconst 0, 1) := by decide +kernel
theorem dX8_count_101 : decode cX8_count 101 = .ok (.laload, 1) := by decide +kernel
theorem dX8_count_102 : decode cX8_count 102 = .ok (.lreturn, 1) := by decide +kernel
theorem dX8_count_103 : decode cX8_count 103 = .ok (.iconst 0, 1) := by decide +kernel
theorem dX8_count_104 : decode cX8_count 104 = .ok (.istore 4, 2) := by decide +kernel
theorem dX8_count_106 : decode cX8_count 106 = .ok (.iload 4, 2) := by decide +kernel
theorem dX8_count_108 : decode cX8_count 108 = .ok (.aload_n 0, 1) := by decide +kernel
theorem dX8_count_109 : decode cX8_count 109 = .ok (.getfield 54, 3) := by decide +kernel
theorem dX8_count_112 : decode cX8_count 112 = .ok (.iconst 0, 1) := by decide +kernel
theorem dX8_count_113 : decode cX8_count 113 = .ok (.iaload, 1) := by decide +kernel
theorem dX8_count_114 : decode cX8_count 114 = .ok (.if_icmp .ge 20, 3) := by decide +kernel
theorem dX8_count_117 : decode cX8_count 117 = .ok (.lload_n 2, 1) := by decide +kernel
theorem dX8_count_118 : decode cX8_count 118 = .ok (.aload_n 0, 1) := by decide +kernel
theorem dX8_count_119 : decode cX8_count 119 = .ok (.getfield 63, 3) := by decide +kernel
theorem dX8_count_122 : decode cX8_count 122 = .ok (.iload 4, 2) := by decide +kernel
theorem dX8_count_124 : decode cX8_count 124 = .ok (.iaload, 1) := by decide +kernel
theorem dX8_count_125 : decode cX8_count 125 = .ok (.i2l, 1) := by decide +kernel
theorem dX8_count_126 : decode cX8_count 126 = .ok (.ladd, 1) := by decide +kernel
theorem dX8_count_127 : decode cX8_count 127 = .ok (.lstore_n 2, 1) := by decide +kernel
theorem dX8_count_128 : decode cX8_count 128 = .ok (.iinc 4 1, 3) := by decide +kernel
theorem dX8_count_131 : decode cX8_count 131 = .ok (.goto (-25), 3) := by decide +kernel
theorem dX8_count_134 : decode cX8_count 134 = .ok (.lload_n 2, 1) := by decide +kernel
theorem dX8_count_135 : decode cX8_count 135 = .ok (.lreturn, 1) := by decide +kernel
theorem dX8_count_136 : decode cX8_count 136 = .ok (.aload_n 0, 1) := by decide +kernel
theorem dX8_count_137 : decode cX8_count 137 = .ok (.getfield 110, 3) := by decide +kernel
theorem dX8_count_140 : decode cX8_count 140 = .ok (.i2l, 1) := by decide +kernel
theorem dX8_count_141 : decode cX8_count 141 = .ok (.lreturn, 1) := by decide +kernel
theorem dX8_count_142 : decode cX8_count 142 = .ok (.aload_n 0, 1) := by decide +kernel
theorem dX8_count_143 : decode cX8_count 143 = .ok (.iconst 0, 1) := by decide +kernel
theorem dX8_count_144 : decode cX8_count 144 = .ok (.invokevirtual 232, 3) := by decide +kernel
theorem dX8_count_147 : decode cX8_count 147 = .ok (.lreturn, 1) := by decide +kernel
theorem dX8_count_148 : decode cX8_count 148 = .ok (.ldc2_w 226, 3) := by decide +kernel
theorem dX8_count_151 : decode cX8_count 151 = .ok (.lreturn, 1) := by decide +kernel
