theorem dX8_campaign_187 : decode cX8_campaign 187 = .ok (.iload 5, 2) := by decide +kernel
theorem dX8_campaign_189 : decode cX8_campaign 189 = .ok (.putfield 194, 3) := by decide +kernel
theorem dX8_campaign_192 : decode cX8_campaign 192 = .ok (.aload_n 0, 1) := by decide +kernel
theorem dX8_campaign_193 : decode cX8_campaign 193 = .ok (.iconst 0, 1) := by decide +kernel
theorem dX8_campaign_194 : decode cX8_campaign 194 = .ok (.putfield 197, 3) := by decide +kernel
theorem dX8_campaign_197 : decode cX8_campaign 197 = .ok (.aload_n 0, 1) := by decide +kernel
theorem dX8_campaign_198 : decode cX8_campaign 198 = .ok (.iconst 0, 1) := by decide +kernel
theorem dX8_campaign_199 : decode cX8_campaign 199 = .ok (.putfield 200, 3) := by decide +kernel
theorem dX8_campaign_202 : decode cX8_campaign 202 = .ok (.iconst 0, 1) := by decide +kernel
theorem dX8_campaign_203 : decode cX8_campaign 203 = .ok (.istore 6, 2) := by decide +kernel
theorem dX8_campaign_205 : decode cX8_campaign 205 = .ok (.iload 6, 2) := by decide +kernel
theorem dX8_campaign_207 : decode cX8_campaign 207 = .ok (.iload 4, 2) := by decide +kernel
theorem dX8_campaign_209 : decode cX8_campaign 209 = .ok (.if_icmp .ge 30, 3) := by decide +kernel
theorem dX8_campaign_212 : decode cX8_campaign 212 = .ok (.aload_n 0, 1) := by decide +kernel
theorem dX8_campaign_213 : decode cX8_campaign 213 = .ok (.getfield 71, 3) := by decide +kernel
theorem dX8_campaign_216 : decode cX8_campaign 216 = .ok (.iload 6, 2) := by decide +kernel
theorem dX8_campaign_218 : decode cX8_campaign 218 = .ok (.aload_n 0, 1) := by decide +kernel
theorem dX8_campaign_219 : decode cX8_campaign 219 = .ok (.getfield 16, 3) := by decide +kernel
theorem dX8_campaign_222 : decode cX8_campaign 222 = .ok (.bipush 60, 2) := by decide +kernel
theorem dX8_campaign_224 : decode cX8_campaign 224 = .ok (.iload_n 2, 1) := by decide +kernel
theorem dX8_campaign_225 : decode cX8_campaign 225 = .ok (.imul, 1) := by decide +kernel
theorem dX8_campaign_226 : decode cX8_campaign 226 = .ok (.iload_n 3, 1) := by decide +kernel
theorem dX8_campaign_227 : decode cX8_campaign 227 = .ok (.iadd, 1) := by decide +kernel
theorem dX8_campaign_228 : decode cX8_campaign 228 = .ok (.iload 6, 2) := by decide +kernel
theorem dX8_campaign_230 : decode cX8_campaign 230 = .ok (.iadd, 1) := by decide +kernel
theorem dX8_campaign_231 : decode cX8_campaign 231 = .ok (.iaload, 1) := by decide +kernel
theorem dX8_campaign_232 : decode cX8_campaign 232 = .ok (.iastore, 1) := by decide +kernel
theorem dX8_campaign_233 : decode cX8_campaign 233 = .ok (.iinc 6 1, 3) := by decide +kernel
theorem dX8_campaign_236 : decode cX8_campaign 236 = .ok (.goto (-31), 3) := by decide +kernel
theorem dX8_campaign_239 : decode cX8_campaign 239 = .ok (.aload_n 0, 1) := by decide +kernel
theorem dX8_campaign_240 : decode cX8_campaign 240 = .ok (.iconst 0, 1) := by decide +kernel
theorem dX8_campaign_241 : decode cX8_campaign 241 = .ok (.invokevirtual 203, 3) := by decide +kernel
theorem dX8_campaign_244 : decode cX8_campaign 244 = .ok (.iconst 0, 1) := by decide +kernel
theorem dX8_campaign_245 : decode cX8_campaign 245 = .ok (.istore 6, 2) := by decide +kernel
theorem dX8_campaign_247 : decode cX8_campaign 247 = .ok (.iconst 0, 1) := by decide +kernel
theorem dX8_campaign_248 : decode cX8_campaign 248 = .ok (.istore 7, 2) := by decide +kernel
theorem dX8_campaign_250 : decode cX8_campaign 250 = .ok (.iload 7, 2) := by decide +kernel
theorem dX8_campaign_252 : decode cX8_campaign 252 = .ok (.aload_n 0, 1) := by decide +kernel
theorem dX8_campaign_253 : decode cX8_campaign 253 = .ok (.getfield 127, 3) := by decide +kernel
theorem dX8_campaign_256 : decode cX8_campaign 256 = .ok (.if_icmp .ge 34, 3) := by decide +kernel
theorem dX8_campaign_259 : decode cX8_campaign 259 = .ok (.iload 6, 2) := by decide +kernel
theorem dX8_campaign_261 : decode cX8_campaign 261 = .ok (.aload_n 0, 1) := by decide +kernel
theorem dX8_campaign_262 : decode cX8_campaign 262 = .ok (.iload 7, 2) := by decide +kernel
theorem dX8_campaign_264 : decode cX8_campaign 264 = .ok (.invokevirtual 150, 3) := by decide +kernel
theorem dX8_campaign_267 : decode cX8_campaign 267 = .ok (.aload_n 0, 1) := by decide +kernel
theorem dX8_campaign_268 : decode cX8_campaign 268 = .ok (.getfield 71, 3) := by decide +kernel
theorem dX8_campaign_271 : decode cX8_campaign 271 = .ok (.iconst 0, 1) := by decide +kernel
theorem dX8_campaign_272 : decode cX8_campaign 272 = .ok (.iaload, 1) := by decide +kernel
theorem dX8_campaign_273 : decode cX8_campaign 273 = .ok (.if_icmp .ge 7, 3) := by decide +kernel
theorem dX8_campaign_276 : decode cX8_campaign 276 = .ok (.iconst 1, 1) := by decide +kernel
theorem dX8_campaign_277 : decode cX8_campaign 277 = .ok (.goto 4, 3) := by decide +kernel
theorem dX8_campaign_280 : decode cX8_campaign 280 = .ok (.iconst 0, 1) := by decide +kernel
theorem dX8_campaign_281 : decode cX8_campaign 281 = .ok (.iadd, 1) := by decide +kernel
theorem dX8_campaign_282 : decode cX8_campaign 282 = .ok (.istore 6, 2) := by decide +kernel
theorem dX8_campaign_284 : decode cX8_campaign 284 = .ok (.iinc 7 1, 3) := by decide +kernel
theorem dX8_campaign_287 : decode cX8_campaign 287 = .ok (.goto (-37), 3) := by decide +kernel
theorem dX8_campaign_290 : decode cX8_campaign 290 = .ok (.iload 6, 2) := by decide +kernel
theorem dX8_campaign_292 : decode cX8_campaign 292 = .ok (.ireturn, 1) := by decide +kernel
theorem dX8_beginWave_0 : decode cX8_beginWave 0 = .ok (.aload_n 0, 1) := by decide +kernel
theorem dX8_beginWave_1 : decode cX8_beginWave 1 = .ok (.iload_n 1, 1) := by decide +kernel
theorem dX8_beginWave_2 : decode cX8_beginWave 2 = .ok (.putfield 206, 3) := by decide +kernel
theorem dX8_beginWave_5 : decode cX8_beginWave 5 = .ok (.aload_n 0, 1) := by decide +kernel
theorem dX8_beginWave_6 : decode cX8_beginWave 6 = .ok (.iconst 0, 1) := by decide +kernel
theorem dX8_beginWave_7 : decode cX8_beginWave 7 = .ok (.putfield 209, 3) := by decide +kernel
theorem dX8_beginWave_10 : decode cX8_beginWave 10 = .ok (.aload_n 0, 1) := by decide +kernel
theorem dX8_beginWave_11 : decode cX8_beginWave 11 = .ok (.iconst 0, 1) := by decide +kernel
theorem dX8_beginWave_12 : decode cX8_beginWave 12 = .ok (.putfield 212, 3) := by decide +kernel
theorem dX8_beginWave_15 : decode cX8_beginWave 15 = .ok (.iconst 0, 1) := by decide +kernel
theorem dX8_beginWave_16 : decode cX8_beginWave 16 = .ok (.istore_n 2, 1) := by decide +kernel
theorem dX8_beginWave_17 : decode cX8_beginWave 17 = .ok (.iload_n 2, 1) := by decide +kernel
theorem dX8_beginWave_18 : decode cX8_beginWave 18 = .ok (.bipush 30, 2) := by decide +kernel
theorem dX8_beginWave_20 : decode cX8_beginWave 20 = .ok (.if_icmp .ge 16, 3) := by decide +kernel
theorem dX8_beginWave_23 : decode cX8_beginWave 23 = .ok (.aload_n 0, 1) := by decide +kernel
theorem dX8_beginWave_24 : decode cX8_beginWave 24 = .ok (.getfield 74, 3) := by decide +kernel
theorem dX8_beginWave_27 : decode cX8_beginWave 27 = .ok (.iload_n 2, 1) := by decide +kernel
theorem dX8_beginWave_28 : decode cX8_beginWave 28 = .ok (.iconst 0, 1) := by decide +kernel
theorem dX8_beginWave_29 : decode cX8_beginWave 29 = .ok (.bastore, 1) := by decide +kernel
theorem dX8_beginWave_30 : decode cX8_beginWave 30 = .ok (.iinc 2 1, 3) := by decide +kernel
theorem dX8_beginWave_33 : decode cX8_beginWave 33 = .ok (.goto (-16), 3) := by decide +kernel
theorem dX8_beginWave_36 : decode cX8_beginWave 36 = .ok (.return_, 1) := by decide +kernel
theorem dX8_isNext_0 : decode cX8_isNext 0 = .ok (.aload_n 0, 1) := by decide +kernel
theorem dX8_isNext_1 : decode cX8_isNext 1 = .ok (.iload_n 1, 1) := by decide +kernel
theorem dX8_isNext_2 : decode cX8_isNext 2 = .ok (.invokevirtual 150, 3) := by decide +kernel
theorem dX8_isNext_5 : decode cX8_isNext 5 = .ok (.aload_n 0, 1) := by decide +kernel
theorem dX8_isNext_6 : decode cX8_isNext 6 = .ok (.getfield 71, 3) := by decide +kernel
theorem dX8_isNext_9 : decode cX8_isNext 9 = .ok (.aload_n 0, 1) := by decide +kernel
theorem dX8_isNext_10 : decode cX8_isNext 10 = .ok (.getfield 206, 3) := by decide +kernel
theorem dX8_isNext_13 : decode cX8_isNext 13 = .ok (.iaload, 1) := by decide +kernel
theorem dX8_isNext_14 : decode cX8_isNext 14 = .ok (.if_icmp .ge 56, 3) := by decide +kernel
theorem dX8_isNext_17 : decode cX8_isNext 17 = .ok (.aload_n 0, 1) := by decide +kernel
theorem dX8_isNext_18 : decode cX8_isNext 18 = .ok (.iload_n 1, 1) := by decide +kernel
theorem dX8_isNext_19 : decode cX8_isNext 19 = .ok (.invokevirtual 144, 3) := by decide +kernel
theorem dX8_isNext_22 : decode cX8_isNext 22 = .ok (.aload_n 0, 1) := by decide +kernel
theorem dX8_isNext_23 : decode cX8_isNext 23 = .ok (.getfield 188, 3) := by decide +kernel
theorem dX8_isNext_26 : decode cX8_isNext 26 = .ok (.if_icmp .ge 44, 3) := by decide +kernel
theorem dX8_isNext_29 : decode cX8_isNext 29 = .ok (.aload_n 0, 1) := by decide +kernel
theorem dX8_isNext_30 : decode cX8_isNext 30 = .ok (.getfield 74, 3) := by decide +kernel
theorem dX8_isNext_33 : decode cX8_isNext 33 = .ok (.iload_n 1, 1) := by decide +kernel
theorem dX8_isNext_34 : decode cX8_isNext 34 = .ok (.baload, 1) := by decide +kernel
theorem dX8_isNext_35 : decode cX8_isNext 35 = .ok (.ifCond .ne 35, 3) := by decide +kernel
theorem dX8_isNext_38 : decode cX8_isNext 38 = .ok (.aload_n 0, 1) := by decide +kernel
theorem dX8_isNext_39 : decode cX8_isNext 39 = .ok (.getfield 43, 3) := by decide +kernel
theorem dX8_isNext_42 : decode cX8_isNext 42 = .ok (.iload_n 1, 1) := by decide +kernel
theorem dX8_isNext_43 : decode cX8_isNext 43 = .ok (.iaload, 1) := by decide +kernel
theorem dX8_isNext_44 : decode cX8_isNext 44 = .ok (.ldc 122, 2) := by decide +kernel
theorem dX8_isNext_46 : decode cX8_isNext 46 = .ok (.if_icmp .eq 20, 3) := by decide +kernel
theorem dX8_isNext_49 : decode cX8_isNext 49 = .ok (.aload_n 0, 1) := by decide +kernel
theorem dX8_isNext_50 : decode cX8_isNext 50 = .ok (.aload_n 0, 1) := by decide +kernel
theorem dX8_isNext_51 : decode cX8_isNext 51 = .ok (.getfield 43, 3) := by decide +kernel
theorem dX8_isNext_54 : decode cX8_isNext 54 = .ok (.iload_n 1, 1) := by decide +kernel
theorem dX8_isNext_55 : decode cX8_isNext 55 = .ok (.iaload, 1) := by decide +kernel
theorem dX8_isNext_56 : decode cX8_isNext 56 = .ok (.invokevirtual 144, 3) := by decide +kernel
theorem dX8_isNext_59 : decode cX8_isNext 59 = .ok (.aload_n 0, 1) := by decide +kernel
theorem dX8_isNext_60 : decode cX8_isNext 60 = .ok (.getfield 188, 3) := by decide +kernel
theorem dX8_isNext_63 : decode cX8_isNext 63 = .ok (.if_icmp .lt 7, 3) := by decide +kernel
theorem dX8_isNext_66 : decode cX8_isNext 66 = .ok (.iconst 1, 1) := by decide +kernel
theorem dX8_isNext_67 : decode cX8_isNext 67 = .ok (.goto 4, 3) := by decide +kernel
theorem dX8_isNext_70 : decode cX8_isNext 70 = .ok (.iconst 0, 1) := by decide +kernel
theorem dX8_isNext_71 : decode cX8_isNext 71 = .ok (.ireturn, 1) := by decide +kernel
theorem dX8_tick_0 : decode cX8_tick 0 = .ok (.aload_n 0, 1) := by decide +kernel
theorem dX8_tick_1 : decode cX8_tick 1 = .ok (.iconst 0, 1) := by decide +kernel
theorem dX8_tick_2 : decode cX8_tick 2 = .ok (.putfield 80, 3) := by decide +kernel
theorem dX8_tick_5 : decode cX8_tick 5 = .ok (.iload_n 1, 1) := by decide +kernel
theorem dX8_tick_6 : decode cX8_tick 6 = .ok (.i2l, 1) := by decide +kernel
theorem dX8_tick_7 : decode cX8_tick 7 = .ok (.lconst 0, 1) := by decide +kernel
theorem dX8_tick_8 : decode cX8_tick 8 = .ok (.ldc2_w 215, 3) := by decide +kernel
theorem dX8_tick_11 : decode cX8_tick 11 = .ok (.invokestatic 90, 3) := by decide +kernel
theorem dX8_tick_14 : decode cX8_tick 14 = .ok (.ifCond .ne 6, 3) := by decide +kernel
theorem dX8_tick_17 : decode cX8_tick 17 = .ok (.ldc 100, 2) := by decide +kernel
theorem dX8_tick_19 : decode cX8_tick 19 = .ok (.ireturn, 1) := by decide +kernel
theorem dX8_tick_20 : decode cX8_tick 20 = .ok (.aload_n 0, 1) := by decide +kernel
theorem dX8_tick_21 : decode cX8_tick 21 = .ok (.getfield 184, 3) := by decide +kernel
theorem dX8_tick_24 : decode cX8_tick 24 = .ok (.ifCond .eq 10, 3) := by decide +kernel
theorem dX8_tick_27 : decode cX8_tick 27 = .ok (.aload_n 0, 1) := by decide +kernel
theorem dX8_tick_28 : decode cX8_tick 28 = .ok (.getfield 197, 3) := by decide +kernel
theorem dX8_tick_31 : decode cX8_tick 31 = .ok (.ifCond .le 6, 3) := by decide +kernel
theorem dX8_tick_34 : decode cX8_tick 34 = .ok (.ldc 136, 2) := by decide +kernel
theorem dX8_tick_36 : decode cX8_tick 36 = .ok (.ireturn, 1) := by decide +kernel
theorem dX8_tick_37 : decode cX8_tick 37 = .ok (.iload_n 1, 1) := by decide +kernel
theorem dX8_tick_38 : decode cX8_tick 38 = .ok (.istore_n 2, 1) := by decide +kernel
theorem dX8_tick_39 : decode cX8_tick 39 = .ok (.iconst 0, 1) := by decide +kernel
theorem dX8_tick_40 : decode cX8_tick 40 = .ok (.istore_n 3, 1) := by decide +kernel
theorem dX8_tick_41 : decode cX8_tick 41 = .ok (.iconst 0, 1) := by decide +kernel
theorem dX8_tick_42 : decode cX8_tick 42 = .ok (.istore 4, 2) := by decide +kernel
theorem dX8_tick_44 : decode cX8_tick 44 = .ok (.iload 4, 2) := by decide +kernel
theorem dX8_tick_46 : decode cX8_tick 46 = .ok (.aload_n 0, 1) := by decide +kernel
theorem dX8_tick_47 : decode cX8_tick 47 = .ok (.getfield 127, 3) := by decide +kernel
theorem dX8_tick_50 : decode cX8_tick 50 = .ok (.if_icmp .ge 163, 3) := by decide +kernel
theorem dX8_tick_53 : decode cX8_tick 53 = .ok (.aload_n 0, 1) := by decide +kernel
theorem dX8_tick_54 : decode cX8_tick 54 = .ok (.iload 4, 2) := by decide +kernel
theorem dX8_tick_56 : decode cX8_tick 56 = .ok (.invokevirtual 217, 3) := by decide +kernel
theorem dX8_tick_59 : decode cX8_tick 59 = .ok (.ifCond .eq 148, 3) := by decide +kernel
theorem dX8_tick_62 : decode cX8_tick 62 = .ok (.aload_n 0, 1) := by decide +kernel
theorem dX8_tick_63 : decode cX8_tick 63 = .ok (.aload_n 0, 1) := by decide +kernel
theorem dX8_tick_64 : decode cX8_tick 64 = .ok (.getfield 188, 3) := by decide +kernel
theorem dX8_tick_67 : decode cX8_tick 67 = .ok (.invokevirtual 123, 3) := by decide +kernel
theorem dX8_tick_70 : decode cX8_tick 70 = .ok (.aload_n 0, 1) := by decide +kernel
theorem dX8_tick_71 : decode cX8_tick 71 = .ok (.getfield 31, 3) := by decide +kernel
theorem dX8_tick_74 : decode cX8_tick 74 = .ok (.aload_n 0, 1) := by decide +kernel
theorem dX8_tick_75 : decode cX8_tick 75 = .ok (.iload 4, 2) := by decide +kernel
theorem dX8_tick_77 : decode cX8_tick 77 = .ok (.invokevirtual 144, 3) := by decide +kernel
theorem dX8_tick_80 : decode cX8_tick 80 = .ok (.iaload, 1) := by decide +kernel
theorem dX8_tick_81 : decode cX8_tick 81 = .ok (.ldc 122, 2) := by decide +kernel
theorem dX8_tick_83 : decode cX8_tick 83 = .ok (.if_icmp .ne 18, 3) := by decide +kernel
theorem dX8_tick_86 : decode cX8_tick 86 = .ok (.bipush 100, 2) := by decide +kernel
theorem dX8_tick_88 : decode cX8_tick 88 = .ok (.aload_n 0, 1) := by decide +kernel
theorem dX8_tick_89 : decode cX8_tick 89 = .ok (.getfield 19, 3) := by decide +kernel
theorem dX8_tick_92 : decode cX8_tick 92 = .ok (.aload_n 0, 1) := by decide +kernel
theorem dX8_tick_93 : decode cX8_tick 93 = .ok (.getfield 188, 3) := by decide +kernel
theorem dX8_tick_96 : decode cX8_tick 96 = .ok (.iaload, 1) := by decide +kernel
theorem dX8_tick_97 : decode cX8_tick 97 = .ok (.imul, 1) := by decide +kernel
theorem dX8_tick_98 : decode cX8_tick 98 = .ok (.goto 14, 3) := by decide +kernel
theorem dX8_tick_101 : decode cX8_tick 101 = .ok (.aload_n 0, 1) := by decide +kernel
theorem dX8_tick_102 : decode cX8_tick 102 = .ok (.getfield 31, 3) := by decide +kernel
theorem dX8_tick_105 : decode cX8_tick 105 = .ok (.aload_n 0, 1) := by decide +kernel
theorem dX8_tick_106 : decode cX8_tick 106 = .ok (.iload 4, 2) := by decide +kernel
theorem dX8_tick_108 : decode cX8_tick 108 = .ok (.invokevirtual 144, 3) := by decide +kernel
theorem dX8_tick_111 : decode cX8_tick 111 = .ok (.iaload, 1) := by decide +kernel
theorem dX8_tick_112 : decode cX8_tick 112 = .ok (.istore 5, 2) := by decide +kernel
theorem dX8_tick_114 : decode cX8_tick 114 = .ok (.iload 5, 2) := by decide +kernel
theorem dX8_tick_116 : decode cX8_tick 116 = .ok (.iload_n 2, 1) := by decide +kernel
theorem dX8_tick_117 : decode cX8_tick 117 = .ok (.if_icmp .le 5, 3) := by decide +kernel
theorem dX8_tick_120 : decode cX8_tick 120 = .ok (.iload_n 3, 1) := by decide +kernel
theorem dX8_tick_121 : decode cX8_tick 121 = .ok (.ireturn, 1) := by decide +kernel
theorem dX8_tick_122 : decode cX8_tick 122 = .ok (.iload_n 2, 1) := by decide +kernel
theorem dX8_tick_123 : decode cX8_tick 123 = .ok (.iload 5, 2) := by decide +kernel
theorem dX8_tick_125 : decode cX8_tick 125 = .ok (.isub, 1) := by decide +kernel
theorem dX8_tick_126 : decode cX8_tick 126 = .ok (.istore_n 2, 1) := by decide +kernel
theorem dX8_tick_127 : decode cX8_tick 127 = .ok (.aload_n 0, 1) := by decide +kernel
theorem dX8_tick_128 : decode cX8_tick 128 = .ok (.dup, 1) := by decide +kernel
theorem dX8_tick_129 : decode cX8_tick 129 = .ok (.getfield 200, 3) := by decide +kernel
theorem dX8_tick_132 : decode cX8_tick 132 = .ok (.iload 5, 2) := by decide +kernel
theorem dX8_tick_134 : decode cX8_tick 134 = .ok (.iadd, 1) := by decide +kernel
theorem dX8_tick_135 : decode cX8_tick 135 = .ok (.putfield 200, 3) := by decide +kernel
theorem dX8_tick_138 : decode cX8_tick 138 = .ok (.aload_n 0, 1) := by decide +kernel
theorem dX8_tick_139 : decode cX8_tick 139 = .ok (.getfield 74, 3) := by decide +kernel
theorem dX8_tick_142 : decode cX8_tick 142 = .ok (.iload 4, 2) := by decide +kernel
theorem dX8_tick_144 : decode cX8_tick 144 = .ok (.iconst 1, 1) := by decide +kernel
theorem dX8_tick_145 : decode cX8_tick 145 = .ok (.bastore, 1) := by decide +kernel
theorem dX8_tick_146 : decode cX8_tick 146 = .ok (.aload_n 0, 1) := by decide +kernel
theorem dX8_tick_147 : decode cX8_tick 147 = .ok (.dup, 1) := by decide +kernel
theorem dX8_tick_148 : decode cX8_tick 148 = .ok (.getfield 209, 3) := by decide +kernel
theorem dX8_tick_151 : decode cX8_tick 151 = .ok (.iconst 1, 1) := by decide +kernel
theorem dX8_tick_152 : decode cX8_tick 152 = .ok (.iadd, 1) := by decide +kernel
theorem dX8_tick_153 : decode cX8_tick 153 = .ok (.putfield 209, 3) := by decide +kernel
theorem dX8_tick_156 : decode cX8_tick 156 = .ok (.iinc 3 1, 3) := by decide +kernel
theorem dX8_tick_159 : decode cX8_tick 159 = .ok (.aload_n 0, 1) := by decide +kernel
theorem dX8_tick_160 : decode cX8_tick 160 = .ok (.iload 4, 2) := by decide +kernel
theorem dX8_tick_162 : decode cX8_tick 162 = .ok (.aload_n 0, 1) := by decide +kernel
theorem dX8_tick_163 : decode cX8_tick 163 = .ok (.getfield 188, 3) := by decide +kernel
theorem dX8_tick_166 : decode cX8_tick 166 = .ok (.aload_n 0, 1) := by decide +kernel
theorem dX8_tick_167 : decode cX8_tick 167 = .ok (.iload 4, 2) := by decide +kernel
theorem dX8_tick_169 : decode cX8_tick 169 = .ok (.aload_n 0, 1) := by decide +kernel
theorem dX8_tick_170 : decode cX8_tick 170 = .ok (.getfield 188, 3) := by decide +kernel
theorem dX8_tick_173 : decode cX8_tick 173 = .ok (.invokevirtual 163, 3) := by decide +kernel
theorem dX8_tick_176 : decode cX8_tick 176 = .ok (.iconst 0, 1) := by decide +kernel
theorem dX8_tick_177 : decode cX8_tick 177 = .ok (.invokevirtual 167, 3) := by decide +kernel
theorem dX8_tick_180 : decode cX8_tick 180 = .ok (.aload_n 0, 1) := by decide +kernel
theorem dX8_tick_181 : decode cX8_tick 181 = .ok (.dup, 1) := by decide +kernel
theorem dX8_tick_182 : decode cX8_tick 182 = .ok (.getfield 212, 3) := by decide +kernel
theorem dX8_tick_185 : decode cX8_tick 185 = .ok (.aload_n 0, 1) := by decide +kernel
theorem dX8_tick_186 : decode cX8_tick 186 = .ok (.iload 4, 2) := by decide +kernel
theorem dX8_tick_188 : decode cX8_tick 188 = .ok (.aload_n 0, 1) := by decide +kernel
theorem dX8_tick_189 : decode cX8_tick 189 = .ok (.getfield 188, 3) := by decide +kernel
theorem dX8_tick_192 : decode cX8_tick 192 = .ok (.invokevirtual 171, 3) := by decide +kernel
theorem dX8_tick_195 : decode cX8_tick 195 = .ok (.ifCond .ne 7, 3) := by decide +kernel
theorem dX8_tick_198 : decode cX8_tick 198 = .ok (.iconst 1, 1) := by decide +kernel
theorem dX8_tick_199 : decode cX8_tick 199 = .ok (.goto 4, 3) := by decide +kernel
theorem dX8_tick_202 : decode cX8_tick 202 = .ok (.iconst 0, 1) := by decide +kernel
theorem dX8_tick_203 : decode cX8_tick 203 = .ok (.iadd, 1) := by decide +kernel
theorem dX8_tick_204 : decode cX8_tick 204 = .ok (.putfield 212, 3) := by decide +kernel
theorem dX8_tick_207 : decode cX8_tick 207 = .ok (.iinc 4 1, 3) := by decide +kernel
theorem dX8_tick_210 : decode cX8_tick 210 = .ok (.goto (-166), 3) := by decide +kernel
theorem dX8_tick_213 : decode cX8_tick 213 = .ok (.iload_n 3, 1) := by decide +kernel
theorem dX8_tick_214 : decode cX8_tick 214 = .ok (.ifCond .le 5, 3) := by decide +kernel
theorem dX8_tick_217 : decode cX8_tick 217 = .ok (.iload_n 3, 1) := by decide +kernel
theorem dX8_tick_218 : decode cX8_tick 218 = .ok (.ireturn, 1) := by decide +kernel
theorem dX8_tick_219 : decode cX8_tick 219 = .ok (.bipush 10, 2) := by decide +kernel
theorem dX8_tick_221 : decode cX8_tick 221 = .ok (.aload_n 0, 1) := by decide +kernel
theorem dX8_tick_222 : decode cX8_tick 222 = .ok (.getfield 212, 3) := by decide +kernel
theorem dX8_tick_225 : decode cX8_tick 225 = .ok (.imul, 1) := by decide +kernel
theorem dX8_tick_226 : decode cX8_tick 226 = .ok (.aload_n 0, 1) := by decide +kernel
theorem dX8_tick_227 : decode cX8_tick 227 = .ok (.getfield 194, 3) := by decide +kernel
theorem dX8_tick_230 : decode cX8_tick 230 = .ok (.aload_n 0, 1) := by decide +kernel
theorem dX8_tick_231 : decode cX8_tick 231 = .ok (.getfield 209, 3) := by decide +kernel
theorem dX8_tick_234 : decode cX8_tick 234 = .ok (.imul, 1) := by decide +kernel
theorem dX8_tick_235 : decode cX8_tick 235 = .ok (.if_icmp .le 11, 3) := by decide +kernel
theorem dX8_tick_238 : decode cX8_tick 238 = .ok (.aload_n 0, 1) := by decide +kernel
theorem dX8_tick_239 : decode cX8_tick 239 = .ok (.iconst 1, 1) := by decide +kernel
theorem dX8_tick_240 : decode cX8_tick 240 = .ok (.putfield 197, 3) := by decide +kernel
theorem dX8_tick_243 : decode cX8_tick 243 = .ok (.goto 34, 3) := by decide +kernel
theorem dX8_tick_246 : decode cX8_tick 246 = .ok (.aload_n 0, 1) := by decide +kernel
theorem dX8_tick_247 : decode cX8_tick 247 = .ok (.getfield 206, 3) := by decide +kernel
theorem dX8_tick_250 : decode cX8_tick 250 = .ok (.iconst 1, 1) := by decide +kernel
theorem dX8_tick_251 : decode cX8_tick 251 = .ok (.iadd, 1) := by decide +kernel
theorem dX8_tick_252 : decode cX8_tick 252 = .ok (.aload_n 0, 1) := by decide +kernel
theorem dX8_tick_253 : decode cX8_tick 253 = .ok (.getfield 191, 3) := by decide +kernel
theorem dX8_tick_256 : decode cX8_tick 256 = .ok (.if_icmp .ne 11, 3) := by decide +kernel
theorem dX8_tick_259 : decode cX8_tick 259 = .ok (.aload_n 0, 1) := by decide +kernel
theorem dX8_tick_260 : decode cX8_tick 260 = .ok (.iconst 2, 1) := by decide +kernel
theorem dX8_tick_261 : decode cX8_tick 261 = .ok (.putfield 197, 3) := by decide +kernel
theorem dX8_tick_264 : decode cX8_tick 264 = .ok (.goto 13, 3) := by decide +kernel
theorem dX8_tick_267 : decode cX8_tick 267 = .ok (.aload_n 0, 1) := by decide +kernel
theorem dX8_tick_268 : decode cX8_tick 268 = .ok (.aload_n 0, 1) := by decide +kernel
theorem dX8_tick_269 : decode cX8_tick 269 = .ok (.getfield 206, 3) := by decide +kernel
theorem dX8_tick_272 : decode cX8_tick 272 = .ok (.iconst 1, 1) := by decide +kernel
theorem dX8_tick_273 : decode cX8_tick 273 = .ok (.iadd, 1) := by decide +kernel
theorem dX8_tick_274 : decode cX8_tick 274 = .ok (.invokevirtual 203, 3) := by decide +kernel
theorem dX8_tick_277 : decode cX8_tick 277 = .ok (.iconst 0, 1) := by decide +kernel
theorem dX8_tick_278 : decode cX8_tick 278 = .ok (.ireturn, 1) := by decide +kernel
theorem dX8_runs_0 : decode cX8_runs 0 = .ok (.aload_n 0, 1) := by decide +kernel
theorem dX8_runs_1 : decode cX8_runs 1 = .ok (.iconst 0, 1) := by decide +kernel
theorem dX8_runs_2 : decode cX8_runs 2 = .ok (.putfield 80, 3) := by decide +kernel
theorem dX8_runs_5 : decode cX8_runs 5 = .ok (.iload_n 1, 1) := by decide +kernel
theorem dX8_runs_6 : decode cX8_runs 6 = .ok (.i2l, 1) := by decide +kernel
theorem dX8_runs_7 : decode cX8_runs 7 = .ok (.lconst 0, 1) := by decide +kernel
theorem dX8_runs_8 : decode cX8_runs 8 = .ok (.ldc2_w 220, 3) := by decide +kernel
theorem dX8_runs_11 : decode cX8_runs 11 = .ok (.invokestatic 90, 3) := by decide +kernel
theorem dX8_runs_14 : decode cX8_runs 14 = .ok (.ifCond .ne 6, 3) := by decide +kernel
theorem dX8_runs_17 : decode cX8_runs 17 = .ok (.ldc 100, 2) := by decide +kernel
theorem dX8_runs_19 : decode cX8_runs 19 = .ok (.ireturn, 1) := by decide +kernel
theorem dX8_runs_20 : decode cX8_runs 20 = .ok (.aload_n 0, 1) := by decide +kernel
theorem dX8_runs_21 : decode cX8_runs 21 = .ok (.getfield 184, 3) := by decide +kernel
theorem dX8_runs_24 : decode cX8_runs 24 = .ok (.ifCond .ne 6, 3) := by decide +kernel
theorem dX8_runs_27 : decode cX8_runs 27 = .ok (.ldc 136, 2) := by decide +kernel
theorem dX8_runs_29 : decode cX8_runs 29 = .ok (.ireturn, 1) := by decide +kernel
theorem dX8_runs_30 : decode cX8_runs 30 = .ok (.iload_n 1, 1) := by decide +kernel
theorem dX8_runs_31 : decode cX8_runs 31 = .ok (.iconst 5, 1) := by decide +kernel
theorem dX8_runs_32 : decode cX8_runs 32 = .ok (.if_icmp .ne 43, 3) := by decide +kernel
theorem dX8_runs_35 : decode cX8_runs 35 = .ok (.iconst 0, 1) := by decide +kernel
theorem dX8_runs_36 : decode cX8_runs 36 = .ok (.istore_n 2, 1) := by decide +kernel
theorem dX8_runs_37 : decode cX8_runs 37 = .ok (.iconst 0, 1) := by decide +kernel
theorem dX8_runs_38 : decode cX8_runs 38 = .ok (.istore_n 3, 1) := by decide +kernel
theorem dX8_runs_39 : decode cX8_runs 39 = .ok (.iload_n 3, 1) := by decide +kernel
theorem dX8_runs_40 : decode cX8_runs 40 = .ok (.aload_n 0, 1) := by decide +kernel
theorem dX8_runs_41 : decode cX8_runs 41 = .ok (.getfield 127, 3) := by decide +kernel
theorem dX8_runs_44 : decode cX8_runs 44 = .ok (.if_icmp .ge 29, 3) := by decide +kernel
theorem dX8_runs_47 : decode cX8_runs 47 = .ok (.iload_n 2, 1) := by decide +kernel
theorem dX8_runs_48 : decode cX8_runs 48 = .ok (.aload_n 0, 1) := by decide +kernel
theorem dX8_runs_49 : decode cX8_runs 49 = .ok (.iload_n 3, 1) := by decide +kernel
theorem dX8_runs_50 : decode cX8_runs 50 = .ok (.invokevirtual 144, 3) := by decide +kernel
theorem dX8_runs_53 : decode cX8_runs 53 = .ok (.aload_n 0, 1) := by decide +kernel
theorem dX8_runs_54 : decode cX8_runs 54 = .ok (.getfield 188, 3) := by decide +kernel
theorem dX8_runs_57 : decode cX8_runs 57 = .ok (.if_icmp .lt 7, 3) := by decide +kernel
theorem dX8_runs_60 : decode cX8_runs 60 = .ok (.iconst 1, 1) := by decide +kernel
theorem dX8_runs_61 : decode cX8_runs 61 = .ok (.goto 4, 3) := by decide +kernel
theorem dX8_runs_64 : decode cX8_runs 64 = .ok (.iconst 0, 1) := by decide +kernel
theorem dX8_runs_65 : decode cX8_runs 65 = .ok (.iadd, 1) := by decide +kernel
theorem dX8_runs_66 : decode cX8_runs 66 = .ok (.istore_n 2, 1) := by decide +kernel
theorem dX8_runs_67 : decode cX8_runs 67 = .ok (.iinc 3 1, 3) := by decide +kernel
theorem dX8_runs_70 : decode cX8_runs 70 = .ok (.goto (-31), 3) := by decide +kernel
theorem dX8_runs_73 : decode cX8_runs 73 = .ok (.iload_n 2, 1) := by decide +kernel
theorem dX8_runs_74 : decode cX8_runs 74 = .ok (.ireturn, 1) := by decide +kernel
theorem dX8_runs_75 : decode cX8_runs 75 = .ok (.iload_n 1, 1) := by decide +kernel
theorem dX8_runs_76 : decode cX8_runs 76 = .ok (.ifCond .ne 10, 3) := by decide +kernel
theorem dX8_runs_79 : decode cX8_runs 79 = .ok (.aload_n 0, 1) := by decide +kernel
theorem dX8_runs_80 : decode cX8_runs 80 = .ok (.getfield 206, 3) := by decide +kernel
theorem dX8_runs_83 : decode cX8_runs 83 = .ok (.goto 43, 3) := by decide +kernel
theorem dX8_runs_86 : decode cX8_runs 86 = .ok (.iload_n 1, 1) := by decide +kernel
theorem dX8_runs_87 : decode cX8_runs 87 = .ok (.iconst 1, 1) := by decide +kernel
theorem dX8_runs_88 : decode cX8_runs 88 = .ok (.if_icmp .ne 10, 3) := by decide +kernel
theorem dX8_runs_91 : decode cX8_runs 91 = .ok (.aload_n 0, 1) := by decide +kernel
theorem dX8_runs_92 : decode cX8_runs 92 = .ok (.getfield 209, 3) := by decide +kernel
theorem dX8_runs_95 : decode cX8_runs 95 = .ok (.goto 31, 3) := by decide +kernel
theorem dX8_runs_98 : decode cX8_runs 98 = .ok (.iload_n 1, 1) := by decide +kernel
theorem dX8_runs_99 : decode cX8_runs 99 = .ok (.iconst 2, 1) := by decide +kernel
theorem dX8_runs_100 : decode cX8_runs 100 = .ok (.if_icmp .ne 10, 3) := by decide +kernel
theorem dX8_runs_103 : decode cX8_runs 103 = .ok (.aload_n 0, 1) := by decide +kernel
theorem dX8_runs_104 : decode cX8_runs 104 = .ok (.getfield 212, 3) := by decide +kernel
theorem dX8_runs_107 : decode cX8_runs 107 = .ok (.goto 19, 3) := by decide +kernel
theorem dX8_runs_110 : decode cX8_runs 110 = .ok (.iload_n 1, 1) := by decide +kernel
theorem dX8_runs_111 : decode cX8_runs 111 = .ok (.iconst 3, 1) := by decide +kernel
theorem dX8_runs_112 : decode cX8_runs 112 = .ok (.if_icmp .ne 10, 3) := by decide +kernel
theorem dX8_runs_115 : decode cX8_runs 115 = .ok (.aload_n 0, 1) := by decide +kernel
theorem dX8_runs_116 : decode cX8_runs 116 = .ok (.getfield 197, 3) := by decide +kernel
theorem dX8_runs_119 : decode cX8_runs 119 = .ok (.goto 7, 3) := by decide +kernel
theorem dX8_runs_122 : decode cX8_runs 122 = .ok (.aload_n 0, 1) := by decide +kernel
theorem dX8_runs_123 : decode cX8_runs 123 = .ok (.getfield 200, 3) := by decide +kernel
theorem dX8_runs_126 : decode cX8_runs 126 = .ok (.ireturn, 1) := by decide +kernel
theorem dX8_power__0 : decode cX8_power_ 0 = .ok (.lconst 1, 1) := by decide +kernel
theorem dX8_power__1 : decode cX8_power_ 1 = .ok (.lstore_n 2, 1) := by decide +kernel
theorem dX8_power__2 : decode cX8_power_ 2 = .ok (.iconst 0, 1) := by decide +kernel
theorem dX8_power__3 : decode cX8_power_ 3 = .ok (.istore 4, 2) := by decide +kernel
theorem dX8_power__5 : decode cX8_power_ 5 = .ok (.iload 4, 2) := by decide +kernel
theorem dX8_power__7 : decode cX8_power_ 7 = .ok (.iload_n 1, 1) := by decide +kernel
theorem dX8_power__8 : decode cX8_power_ 8 = .ok (.if_icmp .ge 14, 3) := by decide +kernel
theorem dX8_power__11 : decode cX8_power_ 11 = .ok (.lload_n 2, 1) := by decide +kernel
theorem dX8_power__12 : decode cX8_power_ 12 = .ok (.iload_n 0, 1) := by decide +kernel
theorem dX8_power__13 : decode cX8_power_ 13 = .ok (.i2l, 1) := by decide +kernel
theorem dX8_power__14 : decode cX8_power_ 14 = .ok (.lmul, 1) := by decide +kernel
theorem dX8_power__15 : decode cX8_power_ 15 = .ok (.lstore_n 2, 1) := by decide +kernel
theorem dX8_power__16 : decode cX8_power_ 16 = .ok (.iinc 4 1, 3) := by decide +kernel
theorem dX8_power__19 : decode cX8_power_ 19 = .ok (.goto (-14), 3) := by decide +kernel
theorem dX8_power__22 : decode cX8_power_ 22 = .ok (.lload_n 2, 1) := by decide +kernel
theorem dX8_power__23 : decode cX8_power_ 23 = .ok (.lreturn, 1) := by decide +kernel
theorem dX8_chance_0 : decode cX8_chance 0 = .ok (.aload_n 0, 1) := by decide +kernel
theorem dX8_chance_1 : decode cX8_chance 1 = .ok (.iconst 0, 1) := by decide +kernel
theorem dX8_chance_2 : decode cX8_chance 2 = .ok (.putfield 80, 3) := by decide +kernel
theorem dX8_chance_5 : decode cX8_chance 5 = .ok (.iload_n 1, 1) := by decide +kernel
theorem dX8_chance_6 : decode cX8_chance 6 = .ok (.i2l, 1) := by decide +kernel
theorem dX8_chance_7 : decode cX8_chance 7 = .ok (.lconst 1, 1) := by decide +kernel
theorem dX8_chance_8 : decode cX8_chance 8 = .ok (.ldc2_w 222, 3) := by decide +kernel
theorem dX8_chance_11 : decode cX8_chance 11 = .ok (.invokestatic 90, 3) := by decide +kernel
theorem dX8_chance_14 : decode cX8_chance 14 = .ok (.ifCond .eq 27, 3) := by decide +kernel
theorem dX8_chance_17 : decode cX8_chance 17 = .ok (.iload_n 2, 1) := by decide +kernel
theorem dX8_chance_18 : decode cX8_chance 18 = .ok (.i2l, 1) := by decide +kernel
theorem dX8_chance_19 : decode cX8_chance 19 = .ok (.lconst 0, 1) := by decide +kernel
theorem dX8_chance_20 : decode cX8_chance 20 = .ok (.ldc2_w 180, 3) := by decide +kernel
theorem dX8_chance_23 : decode cX8_chance 23 = .ok (.invokestatic 90, 3) := by decide +kernel
theorem dX8_chance_26 : decode cX8_chance 26 = .ok (.ifCond .eq 15, 3) := by decide +kernel
theorem dX8_chance_29 : decode cX8_chance 29 = .ok (.iload_n 3, 1) := by decide +kernel
theorem dX8_chance_30 : decode cX8_chance 30 = .ok (.i2l, 1) := by decide +kernel
theorem dX8_chance_31 : decode cX8_chance 31 = .ok (.lconst 0, 1) := by decide +kernel
theorem dX8_chance_32 : decode cX8_chance 32 = .ok (.ldc2_w 180, 3) := by decide +kernel
theorem dX8_chance_35 : decode cX8_chance 35 = .ok (.invokestatic 90, 3) := by decide +kernel
theorem dX8_chance_38 : decode cX8_chance 38 = .ok (.ifCond .ne 7, 3) := by decide +kernel
theorem dX8_chance_41 : decode cX8_chance 41 = .ok (.ldc2_w 224, 3) := by decide +kernel
theorem dX8_chance_44 : decode cX8_chance 44 = .ok (.lreturn, 1) := by decide +kernel
theorem dX8_chance_45 : decode cX8_chance 45 = .ok (.lconst 0, 1) := by decide +kernel
theorem dX8_chance_46 : decode cX8_chance 46 = .ok (.lstore 4, 2) := by decide +kernel
theorem dX8_chance_48 : decode cX8_chance 48 = .ok (.lconst 1, 1) := by decide +kernel
theorem dX8_chance_49 : decode cX8_chance 49 = .ok (.lstore 6, 2) := by decide +kernel
theorem dX8_chance_51 : decode cX8_chance 51 = .ok (.iconst 0, 1) := by decide +kernel
theorem dX8_chance_52 : decode cX8_chance 52 = .ok (.istore 8, 2) := by decide +kernel
theorem dX8_chance_54 : decode cX8_chance 54 = .ok (.iload 8, 2) := by decide +kernel
theorem dX8_chance_56 : decode cX8_chance 56 = .ok (.iload_n 1, 1) := by decide +kernel
theorem dX8_chance_57 : decode cX8_chance 57 = .ok (.if_icmp .gt 66, 3) := by decide +kernel
theorem dX8_chance_60 : decode cX8_chance 60 = .ok (.lload 4, 2) := by decide +kernel
theorem dX8_chance_62 : decode cX8_chance 62 = .ok (.bipush 10, 2) := by decide +kernel
theorem dX8_chance_64 : decode cX8_chance 64 = .ok (.iload 8, 2) := by decide +kernel
theorem dX8_chance_66 : decode cX8_chance 66 = .ok (.imul, 1) := by decide +kernel
theorem dX8_chance_67 : decode cX8_chance 67 = .ok (.iload_n 3, 1) := by decide +kernel
theorem dX8_chance_68 : decode cX8_chance 68 = .ok (.iload_n 1, 1) := by decide +kernel
theorem dX8_chance_69 : decode cX8_chance 69 = .ok (.imul, 1) := by decide +kernel
theorem dX8_chance_70 : decode cX8_chance 70 = .ok (.if_icmp .le 7, 3) := by decide +kernel
theorem dX8_chance_73 : decode cX8_chance 73 = .ok (.lconst 0, 1) := by decide +kernel
theorem dX8_chance_74 : decode cX8_chance 74 = .ok (.goto 24, 3) := by decide +kernel
theorem dX8_chance_77 : decode cX8_chance 77 = .ok (.lload 6, 2) := by decide +kernel
theorem dX8_chance_79 : decode cX8_chance 79 = .ok (.iload_n 2, 1) := by decide +kernel
theorem dX8_chance_80 : decode cX8_chance 80 = .ok (.iload 8, 2) := by decide +kernel
theorem dX8_chance_82 : decode cX8_chance 82 = .ok (.invokestatic 226, 3) := by decide +kernel
theorem dX8_chance_85 : decode cX8_chance 85 = .ok (.lmul, 1) := by decide +kernel
theorem dX8_chance_86 : decode cX8_chance 86 = .ok (.bipush 10, 2) := by decide +kernel
theorem dX8_chance_88 : decode cX8_chance 88 = .ok (.iload_n 2, 1) := by decide +kernel
theorem dX8_chance_89 : decode cX8_chance 89 = .ok (.isub, 1) := by decide +kernel
theorem dX8_chance_90 : decode cX8_chance 90 = .ok (.iload_n 1, 1) := by decide +kernel
theorem dX8_chance_91 : decode cX8_chance 91 = .ok (.iload 8, 2) := by decide +kernel
theorem dX8_chance_93 : decode cX8_chance 93 = .ok (.isub, 1) := by decide +kernel
theorem dX8_chance_94 : decode cX8_chance 94 = .ok (.invokestatic 226, 3) := by decide +kernel
theorem dX8_chance_97 : decode cX8_chance 97 = .ok (.lmul, 1) := by decide +kernel
theorem dX8_chance_98 : decode cX8_chance 98 = .ok (.ladd, 1) := by decide +kernel
theorem dX8_chance_99 : decode cX8_chance 99 = .ok (.lstore 4, 2) := by decide +kernel
theorem dX8_chance_101 : decode cX8_chance 101 = .ok (.lload 6, 2) := by decide +kernel
theorem dX8_chance_103 : decode cX8_chance 103 = .ok (.iload_n 1, 1) := by decide +kernel
theorem dX8_chance_104 : decode cX8_chance 104 = .ok (.iload 8, 2) := by decide +kernel
theorem dX8_chance_106 : decode cX8_chance 106 = .ok (.isub, 1) := by decide +kernel
theorem dX8_chance_107 : decode cX8_chance 107 = .ok (.i2l, 1) := by decide +kernel
theorem dX8_chance_108 : decode cX8_chance 108 = .ok (.lmul, 1) := by decide +kernel
theorem dX8_chance_109 : decode cX8_chance 109 = .ok (.iload 8, 2) := by decide +kernel
theorem dX8_chance_111 : decode cX8_chance 111 = .ok (.iconst 1, 1) := by decide +kernel
theorem dX8_chance_112 : decode cX8_chance 112 = .ok (.iadd, 1) := by decide +kernel
theorem dX8_chance_113 : decode cX8_chance 113 = .ok (.i2l, 1) := by decide +kernel
theorem dX8_chance_114 : decode cX8_chance 114 = .ok (.ldiv, 1) := by decide +kernel
theorem dX8_chance_115 : decode cX8_chance 115 = .ok (.lstore 6, 2) := by decide +kernel
theorem dX8_chance_117 : decode cX8_chance 117 = .ok (.iinc 8 1, 3) := by decide +kernel
theorem dX8_chance_120 : decode cX8_chance 120 = .ok (.goto (-66), 3) := by decide +kernel
theorem dX8_chance_123 : decode cX8_chance 123 = .ok (.lload 4, 2) := by decide +kernel
theorem dX8_chance_125 : decode cX8_chance 125 = .ok (.lreturn, 1) := by decide +kernel
theorem dX8_kindOf_0 : decode cX8_kindOf 0 = .ok (.aload_n 0, 1) := by decide +kernel
theorem dX8_kindOf_1 : decode cX8_kindOf 1 = .ok (.iload_n 1, 1) := by decide +kernel
theorem dX8_kindOf_2 : decode cX8_kindOf 2 = .ok (.invokevirtual 144, 3) := by decide +kernel
theorem dX8_kindOf_5 : decode cX8_kindOf 5 = .ok (.aload_n 0, 1) := by decide +kernel
theorem dX8_kindOf_6 : decode cX8_kindOf 6 = .ok (.getfield 105, 3) := by decide +kernel
theorem dX8_kindOf_9 : decode cX8_kindOf 9 = .ok (.iconst 1, 1) := by decide +kernel
theorem dX8_kindOf_10 : decode cX8_kindOf 10 = .ok (.isub, 1) := by decide +kernel
theorem dX8_kindOf_11 : decode cX8_kindOf 11 = .ok (.if_icmp .ne 7, 3) := by decide +kernel
theorem dX8_kindOf_14 : decode cX8_kindOf 14 = .ok (.iconst 1, 1) := by decide +kernel
theorem dX8_kindOf_15 : decode cX8_kindOf 15 = .ok (.goto 4, 3) := by decide +kernel
theorem dX8_kindOf_18 : decode cX8_kindOf 18 = .ok (.iconst 0, 1) := by decide +kernel
theorem dX8_kindOf_19 : decode cX8_kindOf 19 = .ok (.istore_n 2, 1) := by decide +kernel
theorem dX8_kindOf_20 : decode cX8_kindOf 20 = .ok (.iload_n 2, 1) := by decide +kernel
theorem dX8_kindOf_21 : decode cX8_kindOf 21 = .ok (.ifCond .eq 20, 3) := by decide +kernel
theorem dX8_kindOf_24 : decode cX8_kindOf 24 = .ok (.aload_n 0, 1) := by decide +kernel
theorem dX8_kindOf_25 : decode cX8_kindOf 25 = .ok (.getfield 65, 3) := by decide +kernel
theorem dX8_kindOf_28 : decode cX8_kindOf 28 = .ok (.iload_n 1, 1) := by decide +kernel
theorem dX8_kindOf_29 : decode cX8_kindOf 29 = .ok (.iaload, 1) := by decide +kernel
theorem dX8_kindOf_30 : decode cX8_kindOf 30 = .ok (.ifCond .ne 7, 3) := by decide +kernel
theorem dX8_kindOf_33 : decode cX8_kindOf 33 = .ok (.iconst 2, 1) := by decide +kernel
theorem dX8_kindOf_34 : decode cX8_kindOf 34 = .ok (.goto 22, 3) := by decide +kernel
theorem dX8_kindOf_37 : decode cX8_kindOf 37 = .ok (.iconst 1, 1) := by decide +kernel
theorem dX8_kindOf_38 : decode cX8_kindOf 38 = .ok (.goto 18, 3) := by decide +kernel
theorem dX8_kindOf_41 : decode cX8_kindOf 41 = .ok (.aload_n 0, 1) := by decide +kernel
theorem dX8_kindOf_42 : decode cX8_kindOf 42 = .ok (.getfield 68, 3) := by decide +kernel
theorem dX8_kindOf_45 : decode cX8_kindOf 45 = .ok (.iload_n 1, 1) := by decide +kernel
theorem dX8_kindOf_46 : decode cX8_kindOf 46 = .ok (.iaload, 1) := by decide +kernel
theorem dX8_kindOf_47 : decode cX8_kindOf 47 = .ok (.iconst 2, 1) := by decide +kernel
theorem dX8_kindOf_48 : decode cX8_kindOf 48 = .ok (.if_icmp .lt 7, 3) := by decide +kernel
theorem dX8_kindOf_51 : decode cX8_kindOf 51 = .ok (.iconst 3, 1) := by decide +kernel
theorem dX8_kindOf_52 : decode cX8_kindOf 52 = .ok (.goto 4, 3) := by decide +kernel
theorem dX8_kindOf_55 : decode cX8_kindOf 55 = .ok (.iconst 0, 1) := by decide +kernel
theorem dX8_kindOf_56 : decode cX8_kindOf 56 = .ok (.ireturn, 1) := by decide +kernel
theorem dX8_kind_0 : decode cX8_kind 0 = .ok (.aload_n 0, 1) := by decide +kernel
theorem dX8_kind_1 : decode cX8_kind 1 = .ok (.iconst 0, 1) := by decide +kernel
theorem dX8_kind_2 : decode cX8_kind 2 = .ok (.putfield 80, 3) := by decide +kernel
theorem dX8_kind_5 : decode cX8_kind 5 = .ok (.aload_n 0, 1) := by decide +kernel
theorem dX8_kind_6 : decode cX8_kind 6 = .ok (.iload_n 1, 1) := by decide +kernel
theorem dX8_kind_7 : decode cX8_kind 7 = .ok (.invokevirtual 130, 3) := by decide +kernel
theorem dX8_kind_10 : decode cX8_kind 10 = .ok (.ifCond .eq 11, 3) := by decide +kernel
theorem dX8_kind_13 : decode cX8_kind 13 = .ok (.aload_n 0, 1) := by decide +kernel
theorem dX8_kind_14 : decode cX8_kind 14 = .ok (.iload_n 1, 1) := by decide +kernel
theorem dX8_kind_15 : decode cX8_kind 15 = .ok (.invokevirtual 230, 3) := by decide +kernel
theorem dX8_kind_18 : decode cX8_kind 18 = .ok (.goto 5, 3) := by decide +kernel
theorem dX8_kind_21 : decode cX8_kind 21 = .ok (.ldc 100, 2) := by decide +kernel
theorem dX8_kind_23 : decode cX8_kind 23 = .ok (.ireturn, 1) := by decide +kernel
theorem dX8_as_0 : decode cX8_as 0 = .ok (.aload_n 0, 1) := by decide +kernel
theorem dX8_as_1 : decode cX8_as 1 = .ok (.iconst 0, 1) := by decide +kernel
theorem dX8_as_2 : decode cX8_as 2 = .ok (.putfield 80, 3) := by decide +kernel
theorem dX8_as_5 : decode cX8_as 5 = .ok (.aload_n 0, 1) := by decide +kernel
theorem dX8_as_6 : decode cX8_as 6 = .ok (.iload_n 1, 1) := by decide +kernel
theorem dX8_as_7 : decode cX8_as 7 = .ok (.invokevirtual 130, 3) := by decide +kernel
theorem dX8_as_10 : decode cX8_as 10 = .ok (.ifCond .eq 15, 3) := by decide +kernel
theorem dX8_as_13 : decode cX8_as 13 = .ok (.iload_n 2, 1) := by decide +kernel
theorem dX8_as_14 : decode cX8_as 14 = .ok (.i2l, 1) := by decide +kernel
theorem dX8_as_15 : decode cX8_as 15 = .ok (.lconst 0, 1) := by decide +kernel
theorem dX8_as_16 : decode cX8_as 16 = .ok (.ldc2_w 176, 3) := by decide +kernel
theorem dX8_as_19 : decode cX8_as 19 = .ok (.invokestatic 90, 3) := by decide +kernel
theorem dX8_as_22 : decode cX8_as 22 = .ok (.ifCond .ne 6, 3) := by decide +kernel
theorem dX8_as_25 : decode cX8_as 25 = .ok (.ldc 100, 2) := by decide +kernel
theorem dX8_as_27 : decode cX8_as 27 = .ok (.ireturn, 1) := by decide +kernel
theorem dX8_as_28 : decode cX8_as 28 = .ok (.aload_n 0, 1) := by decide +kernel
theorem dX8_as_29 : decode cX8_as 29 = .ok (.iconst 0, 1) := by decide +kernel
theorem dX8_as_30 : decode cX8_as 30 = .ok (.putfield 84, 3) := by decide +kernel
theorem dX8_as_33 : decode cX8_as 33 = .ok (.aload_n 0, 1) := by decide +kernel
theorem dX8_as_34 : decode cX8_as 34 = .ok (.iload_n 1, 1) := by decide +kernel
theorem dX8_as_35 : decode cX8_as 35 = .ok (.invokevirtual 230, 3) := by decide +kernel
theorem dX8_as_38 : decode cX8_as 38 = .ok (.istore_n 3, 1) := by decide +kernel
theorem dX8_as_39 : decode cX8_as 39 = .ok (.iload_n 2, 1) := by decide +kernel
theorem dX8_as_40 : decode cX8_as 40 = .ok (.ifCond .eq 18, 3) := by decide +kernel
theorem dX8_as_43 : decode cX8_as 43 = .ok (.iload_n 3, 1) := by decide +kernel
theorem dX8_as_44 : decode cX8_as 44 = .ok (.iload_n 2, 1) := by decide +kernel
theorem dX8_as_45 : decode cX8_as 45 = .ok (.if_icmp .eq 13, 3) := by decide +kernel
theorem dX8_as_48 : decode cX8_as 48 = .ok (.iload_n 2, 1) := by decide +kernel
theorem dX8_as_49 : decode cX8_as 49 = .ok (.iconst 1, 1) := by decide +kernel
theorem dX8_as_50 : decode cX8_as 50 = .ok (.if_icmp .ne 17, 3) := by decide +kernel
theorem dX8_as_53 : decode cX8_as 53 = .ok (.iload_n 3, 1) := by decide +kernel
theorem dX8_as_54 : decode cX8_as 54 = .ok (.iconst 2, 1) := by decide +kernel
theorem dX8_as_55 : decode cX8_as 55 = .ok (.if_icmp .ne 12, 3) := by decide +kernel
theorem dX8_as_58 : decode cX8_as 58 = .ok (.aload_n 0, 1) := by decide +kernel
theorem dX8_as_59 : decode cX8_as 59 = .ok (.getfield 40, 3) := by decide +kernel
theorem dX8_as_62 : decode cX8_as 62 = .ok (.iload_n 1, 1) := by decide +kernel
theorem dX8_as_63 : decode cX8_as 63 = .ok (.iaload, 1) := by decide +kernel
theorem dX8_as_64 : decode cX8_as 64 = .ok (.goto 8, 3) := by decide +kernel
theorem dX8_as_67 : decode cX8_as 67 = .ok (.aload_n 0, 1) := by decide +kernel
theorem dX8_as_68 : decode cX8_as 68 = .ok (.iconst 3, 1) := by decide +kernel
theorem dX8_as_69 : decode cX8_as 69 = .ok (.invokevirtual 101, 3) := by decide +kernel
theorem dX8_as_72 : decode cX8_as 72 = .ok (.ireturn, 1) := by decide +kernel
theorem dX8_began_0 : decode cX8_began 0 = .ok (.aload_n 0, 1) := by decide +kernel
theorem dX8_began_1 : decode cX8_began 1 = .ok (.getfield 233, 3) := by decide +kernel
theorem dX8_began_4 : decode cX8_began 4 = .ok (.bipush 16, 2) := by decide +kernel
theorem dX8_began_6 : decode cX8_began 6 = .ok (.if_icmp .ge 23, 3) := by decide +kernel
theorem dX8_began_9 : decode cX8_began 9 = .ok (.aload_n 0, 1) := by decide +kernel
theorem dX8_began_10 : decode cX8_began 10 = .ok (.getfield 77, 3) := by decide +kernel
theorem dX8_began_13 : decode cX8_began 13 = .ok (.aload_n 0, 1) := by decide +kernel
theorem dX8_began_14 : decode cX8_began 14 = .ok (.getfield 233, 3) := by decide +kernel
theorem dX8_began_17 : decode cX8_began 17 = .ok (.iload_n 1, 1) := by decide +kernel
theorem dX8_began_18 : decode cX8_began 18 = .ok (.iastore, 1) := by decide +kernel
theorem dX8_began_19 : decode cX8_began 19 = .ok (.aload_n 0, 1) := by decide +kernel
theorem dX8_began_20 : decode cX8_began 20 = .ok (.dup, 1) := by decide +kernel
theorem dX8_began_21 : decode cX8_began 21 = .ok (.getfield 233, 3) := by decide +kernel
theorem dX8_began_24 : decode cX8_began 24 = .ok (.iconst 1, 1) := by decide +kernel
theorem dX8_began_25 : decode cX8_began 25 = .ok (.iadd, 1) := by decide +kernel
theorem dX8_began_26 : decode cX8_began 26 = .ok (.putfield 233, 3) := by decide +kernel
theorem dX8_began_29 : decode cX8_began 29 = .ok (.return_, 1) := by decide +kernel
theorem dX8_worth_0 : decode cX8_worth 0 = .ok (.aload_n 0, 1) := by decide +kernel
theorem dX8_worth_1 : decode cX8_worth 1 = .ok (.iload_n 1, 1) := by decide +kernel
theorem dX8_worth_2 : decode cX8_worth 2 = .ok (.invokevirtual 230, 3) := by decide +kernel
theorem dX8_worth_5 : decode cX8_worth 5 = .ok (.istore_n 2, 1) := by decide +kernel
theorem dX8_worth_6 : decode cX8_worth 6 = .ok (.iload_n 2, 1) := by decide +kernel
theorem dX8_worth_7 : decode cX8_worth 7 = .ok (.iconst 1, 1) := by decide +kernel
theorem dX8_worth_8 : decode cX8_worth 8 = .ok (.if_icmp .eq 8, 3) := by decide +kernel
theorem dX8_worth_11 : decode cX8_worth 11 = .ok (.iload_n 2, 1) := by decide +kernel
theorem dX8_worth_12 : decode cX8_worth 12 = .ok (.iconst 2, 1) := by decide +kernel
theorem dX8_worth_13 : decode cX8_worth 13 = .ok (.if_icmp .ne 7, 3) := by decide +kernel
theorem dX8_worth_16 : decode cX8_worth 16 = .ok (.iconst 1, 1) := by decide +kernel
theorem dX8_worth_17 : decode cX8_worth 17 = .ok (.goto 4, 3) := by decide +kernel
theorem dX8_worth_20 : decode cX8_worth 20 = .ok (.iconst 0, 1) := by decide +kernel
theorem dX8_worth_21 : decode cX8_worth 21 = .ok (.istore_n 3, 1) := by decide +kernel
theorem dX8_worth_22 : decode cX8_worth 22 = .ok (.iload_n 2, 1) := by decide +kernel
theorem dX8_worth_23 : decode cX8_worth 23 = .ok (.iconst 3, 1) := by decide +kernel
theorem dX8_worth_24 : decode cX8_worth 24 = .ok (.if_icmp .ne 9, 3) := by decide +kernel
theorem dX8_worth_27 : decode cX8_worth 27 = .ok (.aload_n 0, 1) := by decide +kernel
theorem dX8_worth_28 : decode cX8_worth 28 = .ok (.bipush 13, 2) := by decide +kernel
theorem dX8_worth_30 : decode cX8_worth 30 = .ok (.invokevirtual 236, 3) := by decide +kernel
theorem dX8_worth_33 : decode cX8_worth 33 = .ok (.iload_n 2, 1) := by decide +kernel
theorem dX8_worth_34 : decode cX8_worth 34 = .ok (.iconst 2, 1) := by decide +kernel
theorem dX8_worth_35 : decode cX8_worth 35 = .ok (.if_icmp .ne 9, 3) := by decide +kernel
theorem dX8_worth_38 : decode cX8_worth 38 = .ok (.aload_n 0, 1) := by decide +kernel
theorem dX8_worth_39 : decode cX8_worth 39 = .ok (.bipush 12, 2) := by decide +kernel
theorem dX8_worth_41 : decode cX8_worth 41 = .ok (.invokevirtual 236, 3) := by decide +kernel
theorem dX8_worth_44 : decode cX8_worth 44 = .ok (.iload_n 3, 1) := by decide +kernel
theorem dX8_worth_45 : decode cX8_worth 45 = .ok (.ifCond .eq 9, 3) := by decide +kernel
theorem dX8_worth_48 : decode cX8_worth 48 = .ok (.aload_n 0, 1) := by decide +kernel
theorem dX8_worth_49 : decode cX8_worth 49 = .ok (.bipush 11, 2) := by decide +kernel
theorem dX8_worth_51 : decode cX8_worth 51 = .ok (.invokevirtual 236, 3) := by decide +kernel
theorem dX8_worth_54 : decode cX8_worth 54 = .ok (.aload_n 0, 1) := by decide +kernel
theorem dX8_worth_55 : decode cX8_worth 55 = .ok (.bipush 10, 2) := by decide +kernel
theorem dX8_worth_57 : decode cX8_worth 57 = .ok (.invokevirtual 236, 3) := by decide +kernel
theorem dX8_worth_60 : decode cX8_worth 60 = .ok (.aload_n 0, 1) := by decide +kernel
theorem dX8_worth_61 : decode cX8_worth 61 = .ok (.iload_n 1, 1) := by decide +kernel
theorem dX8_worth_62 : decode cX8_worth 62 = .ok (.invokevirtual 144, 3) := by decide +kernel
theorem dX8_worth_65 : decode cX8_worth 65 = .ok (.istore 4, 2) := by decide +kernel
theorem dX8_worth_67 : decode cX8_worth 67 = .ok (.iload_n 2, 1) := by decide +kernel
theorem dX8_worth_68 : decode cX8_worth 68 = .ok (.iconst 3, 1) := by decide +kernel
theorem dX8_worth_69 : decode cX8_worth 69 = .ok (.if_icmp .ne 15, 3) := by decide +kernel
theorem dX8_worth_72 : decode cX8_worth 72 = .ok (.iload 4, 2) := by decide +kernel
theorem dX8_worth_74 : decode cX8_worth 74 = .ok (.aload_n 0, 1) := by decide +kernel
theorem dX8_worth_75 : decode cX8_worth 75 = .ok (.getfield 65, 3) := by decide +kernel
theorem dX8_worth_78 : decode cX8_worth 78 = .ok (.iload_n 1, 1) := by decide +kernel
theorem dX8_worth_79 : decode cX8_worth 79 = .ok (.iaload, 1) := by decide +kernel
theorem dX8_worth_80 : decode cX8_worth 80 = .ok (.isub, 1) := by decide +kernel
theorem dX8_worth_81 : decode cX8_worth 81 = .ok (.goto 32, 3) := by decide +kernel
theorem dX8_worth_84 : decode cX8_worth 84 = .ok (.iload_n 2, 1) := by decide +kernel
theorem dX8_worth_85 : decode cX8_worth 85 = .ok (.iconst 2, 1) := by decide +kernel
theorem dX8_worth_86 : decode cX8_worth 86 = .ok (.if_icmp .ne 13, 3) := by decide +kernel
theorem dX8_worth_89 : decode cX8_worth 89 = .ok (.iconst 2, 1) := by decide +kernel
theorem dX8_worth_90 : decode cX8_worth 90 = .ok (.iload 4, 2) := by decide +kernel
theorem dX8_worth_92 : decode cX8_worth 92 = .ok (.bipush 100, 2) := by decide +kernel
theorem dX8_worth_94 : decode cX8_worth 94 = .ok (.iadd, 1) := by decide +kernel
theorem dX8_worth_95 : decode cX8_worth 95 = .ok (.imul, 1) := by decide +kernel
theorem dX8_worth_96 : decode cX8_worth 96 = .ok (.goto 17, 3) := by decide +kernel
theorem dX8_worth_99 : decode cX8_worth 99 = .ok (.iload_n 3, 1) := by decide +kernel
theorem dX8_worth_100 : decode cX8_worth 100 = .ok (.ifCond .eq 11, 3) := by decide +kernel
theorem dX8_worth_103 : decode cX8_worth 103 = .ok (.iload 4, 2) := by decide +kernel
theorem dX8_worth_105 : decode cX8_worth 105 = .ok (.bipush 100, 2) := by decide +kernel
theorem dX8_worth_107 : decode cX8_worth 107 = .ok (.iadd, 1) := by decide +kernel
theorem dX8_worth_108 : decode cX8_worth 108 = .ok (.goto 5, 3) := by decide +kernel
theorem dX8_worth_111 : decode cX8_worth 111 = .ok (.iload 4, 2) := by decide +kernel
theorem dX8_worth_113 : decode cX8_worth 113 = .ok (.ireturn, 1) := by decide +kernel
theorem dX8_marked_0 : decode cX8_marked 0 = .ok (.aload_n 0, 1) := by decide +kernel
theorem dX8_marked_1 : decode cX8_marked 1 = .ok (.iload_n 1, 1) := by decide +kernel
theorem dX8_marked_2 : decode cX8_marked 2 = .ok (.invokevirtual 230, 3) := by decide +kernel
theorem dX8_marked_5 : decode cX8_marked 5 = .ok (.istore_n 2, 1) := by decide +kernel
theorem dX8_marked_6 : decode cX8_marked 6 = .ok (.iload_n 2, 1) := by decide +kernel
theorem dX8_marked_7 : decode cX8_marked 7 = .ok (.iconst 1, 1) := by decide +kernel
theorem dX8_marked_8 : decode cX8_marked 8 = .ok (.if_icmp .eq 8, 3) := by decide +kernel
theorem dX8_marked_11 : decode cX8_marked 11 = .ok (.iload_n 2, 1) := by decide +kernel
theorem dX8_marked_12 : decode cX8_marked 12 = .ok (.iconst 2, 1) := by decide +kernel
theorem dX8_marked_13 : decode cX8_marked 13 = .ok (.if_icmp .ne 7, 3) := by decide +kernel
theorem dX8_marked_16 : decode cX8_marked 16 = .ok (.iconst 1, 1) := by decide +kernel
theorem dX8_marked_17 : decode cX8_marked 17 = .ok (.goto 4, 3) := by decide +kernel
theorem dX8_marked_20 : decode cX8_marked 20 = .ok (.iconst 0, 1) := by decide +kernel
theorem dX8_marked_21 : decode cX8_marked 21 = .ok (.istore_n 3, 1) := by decide +kernel
theorem dX8_marked_22 : decode cX8_marked 22 = .ok (.iload_n 2, 1) := by decide +kernel
theorem dX8_marked_23 : decode cX8_marked 23 = .ok (.iconst 3, 1) := by decide +kernel
theorem dX8_marked_24 : decode cX8_marked 24 = .ok (.if_icmp .ne 9, 3) := by decide +kernel
theorem dX8_marked_27 : decode cX8_marked 27 = .ok (.aload_n 0, 1) := by decide +kernel
theorem dX8_marked_28 : decode cX8_marked 28 = .ok (.bipush 22, 2) := by decide +kernel
theorem dX8_marked_30 : decode cX8_marked 30 = .ok (.invokevirtual 236, 3) := by decide +kernel
theorem dX8_marked_33 : decode cX8_marked 33 = .ok (.iload_n 3, 1) := by decide +kernel
theorem dX8_marked_34 : decode cX8_marked 34 = .ok (.ifCond .eq 9, 3) := by decide +kernel
theorem dX8_marked_37 : decode cX8_marked 37 = .ok (.aload_n 0, 1) := by decide +kernel
theorem dX8_marked_38 : decode cX8_marked 38 = .ok (.bipush 21, 2) := by decide +kernel
theorem dX8_marked_40 : decode cX8_marked 40 = .ok (.invokevirtual 236, 3) := by decide +kernel
theorem dX8_marked_43 : decode cX8_marked 43 = .ok (.aload_n 0, 1) := by decide +kernel
theorem dX8_marked_44 : decode cX8_marked 44 = .ok (.bipush 20, 2) := by decide +kernel
theorem dX8_marked_46 : decode cX8_marked 46 = .ok (.invokevirtual 236, 3) := by decide +kernel
theorem dX8_marked_49 : decode cX8_marked 49 = .ok (.aload_n 0, 1) := by decide +kernel
theorem dX8_marked_50 : decode cX8_marked 50 = .ok (.getfield 40, 3) := by decide +kernel
theorem dX8_marked_53 : decode cX8_marked 53 = .ok (.iload_n 1, 1) := by decide +kernel
theorem dX8_marked_54 : decode cX8_marked 54 = .ok (.iaload, 1) := by decide +kernel
theorem dX8_marked_55 : decode cX8_marked 55 = .ok (.iload_n 2, 1) := by decide +kernel
theorem dX8_marked_56 : decode cX8_marked 56 = .ok (.iconst 3, 1) := by decide +kernel
theorem dX8_marked_57 : decode cX8_marked 57 = .ok (.if_icmp .ne 12, 3) := by decide +kernel
theorem dX8_marked_60 : decode cX8_marked 60 = .ok (.aload_n 0, 1) := by decide +kernel
theorem dX8_marked_61 : decode cX8_marked 61 = .ok (.getfield 62, 3) := by decide +kernel
theorem dX8_marked_64 : decode cX8_marked 64 = .ok (.iload_n 1, 1) := by decide +kernel
theorem dX8_marked_65 : decode cX8_marked 65 = .ok (.iaload, 1) := by decide +kernel
theorem dX8_marked_66 : decode cX8_marked 66 = .ok (.goto 16, 3) := by decide +kernel
theorem dX8_marked_69 : decode cX8_marked 69 = .ok (.iload_n 3, 1) := by decide +kernel
theorem dX8_marked_70 : decode cX8_marked 70 = .ok (.ifCond .eq 11, 3) := by decide +kernel
theorem dX8_marked_73 : decode cX8_marked 73 = .ok (.aload_n 0, 1) := by decide +kernel
theorem dX8_marked_74 : decode cX8_marked 74 = .ok (.iload_n 1, 1) := by decide +kernel
theorem dX8_marked_75 : decode cX8_marked 75 = .ok (.invokevirtual 239, 3) := by decide +kernel
theorem dX8_marked_78 : decode cX8_marked 78 = .ok (.goto 4, 3) := by decide +kernel
theorem dX8_marked_81 : decode cX8_marked 81 = .ok (.iconst 0, 1) := by decide +kernel
theorem dX8_marked_82 : decode cX8_marked 82 = .ok (.iadd, 1) := by decide +kernel
theorem dX8_marked_83 : decode cX8_marked 83 = .ok (.ireturn, 1) := by decide +kernel
theorem dX8_ask_0 : decode cX8_ask 0 = .ok (.aload_n 0, 1) := by decide +kernel
theorem dX8_ask_1 : decode cX8_ask 1 = .ok (.iconst 0, 1) := by decide +kernel
theorem dX8_ask_2 : decode cX8_ask 2 = .ok (.putfield 80, 3) := by decide +kernel
theorem dX8_ask_5 : decode cX8_ask 5 = .ok (.aload_n 0, 1) := by decide +kernel
theorem dX8_ask_6 : decode cX8_ask 6 = .ok (.iload_n 1, 1) := by decide +kernel
theorem dX8_ask_7 : decode cX8_ask 7 = .ok (.invokevirtual 130, 3) := by decide +kernel
theorem dX8_ask_10 : decode cX8_ask 10 = .ok (.ifCond .eq 13, 3) := by decide +kernel
theorem dX8_ask_13 : decode cX8_ask 13 = .ok (.iload_n 2, 1) := by decide +kernel
theorem dX8_ask_14 : decode cX8_ask 14 = .ok (.i2l, 1) := by decide +kernel
theorem dX8_ask_15 : decode cX8_ask 15 = .ok (.lconst 0, 1) := by decide +kernel
theorem dX8_ask_16 : decode cX8_ask 16 = .ok (.lconst 1, 1) := by decide +kernel
theorem dX8_ask_17 : decode cX8_ask 17 = .ok (.invokestatic 90, 3) := by decide +kernel
theorem dX8_ask_20 : decode cX8_ask 20 = .ok (.ifCond .ne 6, 3) := by decide +kernel
theorem dX8_ask_23 : decode cX8_ask 23 = .ok (.ldc 100, 2) := by decide +kernel
theorem dX8_ask_25 : decode cX8_ask 25 = .ok (.ireturn, 1) := by decide +kernel
theorem dX8_ask_26 : decode cX8_ask 26 = .ok (.aload_n 0, 1) := by decide +kernel
theorem dX8_ask_27 : decode cX8_ask 27 = .ok (.iconst 0, 1) := by decide +kernel
theorem dX8_ask_28 : decode cX8_ask 28 = .ok (.putfield 233, 3) := by decide +kernel
theorem dX8_ask_31 : decode cX8_ask 31 = .ok (.iload_n 2, 1) := by decide +kernel
theorem dX8_ask_32 : decode cX8_ask 32 = .ok (.ifCond .ne 11, 3) := by decide +kernel
theorem dX8_ask_35 : decode cX8_ask 35 = .ok (.aload_n 0, 1) := by decide +kernel
theorem dX8_ask_36 : decode cX8_ask 36 = .ok (.iload_n 1, 1) := by decide +kernel
theorem dX8_ask_37 : decode cX8_ask 37 = .ok (.invokevirtual 239, 3) := by decide +kernel
theorem dX8_ask_40 : decode cX8_ask 40 = .ok (.goto 8, 3) := by decide +kernel
theorem dX8_ask_43 : decode cX8_ask 43 = .ok (.aload_n 0, 1) := by decide +kernel
theorem dX8_ask_44 : decode cX8_ask 44 = .ok (.iload_n 1, 1) := by decide +kernel
theorem dX8_ask_45 : decode cX8_ask 45 = .ok (.invokevirtual 242, 3) := by decide +kernel
theorem dX8_ask_48 : decode cX8_ask 48 = .ok (.ireturn, 1) := by decide +kernel
theorem dX8_trace_0 : decode cX8_trace 0 = .ok (.aload_n 0, 1) := by decide +kernel
theorem dX8_trace_1 : decode cX8_trace 1 = .ok (.iconst 0, 1) := by decide +kernel
theorem dX8_trace_2 : decode cX8_trace 2 = .ok (.putfield 80, 3) := by decide +kernel
theorem dX8_trace_5 : decode cX8_trace 5 = .ok (.iload_n 1, 1) := by decide +kernel
theorem dX8_trace_6 : decode cX8_trace 6 = .ok (.i2l, 1) := by decide +kernel
theorem dX8_trace_7 : decode cX8_trace 7 = .ok (.lconst 0, 1) := by decide +kernel
theorem dX8_trace_8 : decode cX8_trace 8 = .ok (.aload_n 0, 1) := by decide +kernel
theorem dX8_trace_9 : decode cX8_trace 9 = .ok (.getfield 233, 3) := by decide +kernel
theorem dX8_trace_12 : decode cX8_trace 12 = .ok (.iconst 1, 1) := by decide +kernel
theorem dX8_trace_13 : decode cX8_trace 13 = .ok (.isub, 1) := by decide +kernel
theorem dX8_trace_14 : decode cX8_trace 14 = .ok (.i2l, 1) := by decide +kernel
theorem dX8_trace_15 : decode cX8_trace 15 = .ok (.invokestatic 90, 3) := by decide +kernel
theorem dX8_trace_18 : decode cX8_trace 18 = .ok (.ifCond .eq 12, 3) := by decide +kernel
theorem dX8_trace_21 : decode cX8_trace 21 = .ok (.aload_n 0, 1) := by decide +kernel
theorem dX8_trace_22 : decode cX8_trace 22 = .ok (.getfield 77, 3) := by decide +kernel
theorem dX8_trace_25 : decode cX8_trace 25 = .ok (.iload_n 1, 1) := by decide +kernel
theorem dX8_trace_26 : decode cX8_trace 26 = .ok (.iaload, 1) := by decide +kernel
theorem dX8_trace_27 : decode cX8_trace 27 = .ok (.goto 5, 3) := by decide +kernel
theorem dX8_trace_30 : decode cX8_trace 30 = .ok (.ldc 122, 2) := by decide +kernel
theorem dX8_trace_32 : decode cX8_trace 32 = .ok (.ireturn, 1) := by decide +kernel
theorem dX8_count_0 : decode cX8_count 0 = .ok (.aload_n 0, 1) := by decide +kernel
theorem dX8_count_1 : decode cX8_count 1 = .ok (.iconst 0, 1) := by decide +kernel
theorem dX8_count_2 : decode cX8_count 2 = .ok (.putfield 80, 3) := by decide +kernel
theorem dX8_count_5 : decode cX8_count 5 = .ok (.iconst 0, 1) := by decide +kernel
theorem dX8_count_6 : decode cX8_count 6 = .ok (.istore_n 2, 1) := by decide +kernel
theorem dX8_count_7 : decode cX8_count 7 = .ok (.iload_n 1, 1) := by decide +kernel
theorem dX8_count_8 : decode cX8_count 8 = .ok (.tableswitch 205 0 6 #[44, 77, 82, 87, 87, 87, 172], 44) := by decide +kernel
theorem dX8_count_52 : decode cX8_count 52 = .ok (.iconst 0, 1) := by decide +kernel
theorem dX8_count_53 : decode cX8_count 53 = .ok (.istore_n 3, 1) := by decide +kernel
theorem dX8_count_54 : decode cX8_count 54 = .ok (.iload_n 3, 1) := by decide +kernel
theorem dX8_count_55 : decode cX8_count 55 = .ok (.bipush 8, 2) := by decide +kernel
theorem dX8_count_57 : decode cX8_count 57 = .ok (.if_icmp .ge 26, 3) := by decide +kernel
theorem dX8_count_60 : decode cX8_count 60 = .ok (.iload_n 2, 1) := by decide +kernel
theorem dX8_count_61 : decode cX8_count 61 = .ok (.aload_n 0, 1) := by decide +kernel
theorem dX8_count_62 : decode cX8_count 62 = .ok (.getfield 7, 3) := by decide +kernel
theorem dX8_count_65 : decode cX8_count 65 = .ok (.iload_n 3, 1) := by decide +kernel
theorem dX8_count_66 : decode cX8_count 66 = .ok (.iaload, 1) := by decide +kernel
theorem dX8_count_67 : decode cX8_count 67 = .ok (.ifCond .lt 7, 3) := by decide +kernel
theorem dX8_count_70 : decode cX8_count 70 = .ok (.iconst 1, 1) := by decide +kernel
theorem dX8_count_71 : decode cX8_count 71 = .ok (.goto 4, 3) := by decide +kernel
theorem dX8_count_74 : decode cX8_count 74 = .ok (.iconst 0, 1) := by decide +kernel
theorem dX8_count_75 : decode cX8_count 75 = .ok (.iadd, 1) := by decide +kernel
theorem dX8_count_76 : decode cX8_count 76 = .ok (.istore_n 2, 1) := by decide +kernel
theorem dX8_count_77 : decode cX8_count 77 = .ok (.iinc 3 1, 3) := by decide +kernel
theorem dX8_count_80 : decode cX8_count 80 = .ok (.goto (-26), 3) := by decide +kernel
theorem dX8_count_83 : decode cX8_count 83 = .ok (.iload_n 2, 1) := by decide +kernel
theorem dX8_count_84 : decode cX8_count 84 = .ok (.ireturn, 1) := by decide +kernel
theorem dX8_count_85 : decode cX8_count 85 = .ok (.aload_n 0, 1) := by decide +kernel
theorem dX8_count_86 : decode cX8_count 86 = .ok (.getfield 105, 3) := by decide +kernel
theorem dX8_count_89 : decode cX8_count 89 = .ok (.ireturn, 1) := by decide +kernel
theorem dX8_count_90 : decode cX8_count 90 = .ok (.aload_n 0, 1) := by decide +kernel
theorem dX8_count_91 : decode cX8_count 91 = .ok (.getfield 127, 3) := by decide +kernel
theorem dX8_count_94 : decode cX8_count 94 = .ok (.ireturn, 1) := by decide +kernel
theorem dX8_count_95 : decode cX8_count 95 = .ok (.iconst 0, 1) := by decide +kernel
theorem dX8_count_96 : decode cX8_count 96 = .ok (.istore_n 3, 1) := by decide +kernel
theorem dX8_count_97 : decode cX8_count 97 = .ok (.iload_n 3, 1) := by decide +kernel
theorem dX8_count_98 : decode cX8_count 98 = .ok (.aload_n 0, 1) := by decide +kernel
theorem dX8_count_99 : decode cX8_count 99 = .ok (.getfield 127, 3) := by decide +kernel
theorem dX8_count_102 : decode cX8_count 102 = .ok (.if_icmp .ge 76, 3) := by decide +kernel
theorem dX8_count_105 : decode cX8_count 105 = .ok (.aload_n 0, 1) := by decide +kernel
theorem dX8_count_106 : decode cX8_count 106 = .ok (.iload_n 3, 1) := by decide +kernel
theorem dX8_count_107 : decode cX8_count 107 = .ok (.invokevirtual 230, 3) := by decide +kernel
theorem dX8_count_110 : decode cX8_count 110 = .ok (.istore 4, 2) := by decide +kernel
theorem dX8_count_112 : decode cX8_count 112 = .ok (.iload_n 2, 1) := by decide +kernel
theorem dX8_count_113 : decode cX8_count 113 = .ok (.iload_n 1, 1) := by decide +kernel
theorem dX8_count_114 : decode cX8_count 114 = .ok (.iconst 3, 1) := by decide +kernel
theorem dX8_count_115 : decode cX8_count 115 = .ok (.if_icmp .ne 19, 3) := by decide +kernel
theorem dX8_count_118 : decode cX8_count 118 = .ok (.aload_n 0, 1) := by decide +kernel
theorem dX8_count_119 : decode cX8_count 119 = .ok (.iload_n 3, 1) := by decide +kernel
theorem dX8_count_120 : decode cX8_count 120 = .ok (.invokevirtual 153, 3) := by decide +kernel
theorem dX8_count_123 : decode cX8_count 123 = .ok (.ifCond .eq 7, 3) := by decide +kernel
theorem dX8_count_126 : decode cX8_count 126 = .ok (.iconst 1, 1) := by decide +kernel
theorem dX8_count_127 : decode cX8_count 127 = .ok (.goto 43, 3) := by decide +kernel
theorem dX8_count_130 : decode cX8_count 130 = .ok (.iconst 0, 1) := by decide +kernel
theorem dX8_count_131 : decode cX8_count 131 = .ok (.goto 39, 3) := by decide +kernel
theorem dX8_count_134 : decode cX8_count 134 = .ok (.iload_n 1, 1) := by decide +kernel
theorem dX8_count_135 : decode cX8_count 135 = .ok (.iconst 4, 1) := by decide +kernel
theorem dX8_count_136 : decode cX8_count 136 = .ok (.if_icmp .ne 23, 3) := by decide +kernel
theorem dX8_count_139 : decode cX8_count 139 = .ok (.iload 4, 2) := by decide +kernel
theorem dX8_count_141 : decode cX8_count 141 = .ok (.iconst 1, 1) := by decide +kernel
theorem dX8_count_142 : decode cX8_count 142 = .ok (.if_icmp .eq 9, 3) := by decide +kernel
theorem dX8_count_145 : decode cX8_count 145 = .ok (.iload 4, 2) := by decide +kernel
theorem dX8_count_147 : decode cX8_count 147 = .ok (.iconst 2, 1) := by decide +kernel
theorem dX8_count_148 : decode cX8_count 148 = .ok (.if_icmp .ne 7, 3) := by decide +kernel
theorem dX8_count_151 : decode cX8_count 151 = .ok (.iconst 1, 1) := by decide +kernel
theorem dX8_count_152 : decode cX8_count 152 = .ok (.goto 18, 3) := by decide +kernel
theorem dX8_count_155 : decode cX8_count 155 = .ok (.iconst 0, 1) := by decide +kernel
theorem dX8_count_156 : decode cX8_count 156 = .ok (.goto 14, 3) := by decide +kernel
theorem dX8_count_159 : decode cX8_count 159 = .ok (.iload 4, 2) := by decide +kernel
theorem dX8_count_161 : decode cX8_count 161 = .ok (.iconst 3, 1) := by decide +kernel
theorem dX8_count_162 : decode cX8_count 162 = .ok (.if_icmp .ne 7, 3) := by decide +kernel
theorem dX8_count_165 : decode cX8_count 165 = .ok (.iconst 1, 1) := by decide +kernel
theorem dX8_count_166 : decode cX8_count 166 = .ok (.goto 4, 3) := by decide +kernel
theorem dX8_count_169 : decode cX8_count 169 = .ok (.iconst 0, 1) := by decide +kernel
theorem dX8_count_170 : decode cX8_count 170 = .ok (.iadd, 1) := by decide +kernel
theorem dX8_count_171 : decode cX8_count 171 = .ok (.istore_n 2, 1) := by decide +kernel
theorem dX8_count_172 : decode cX8_count 172 = .ok (.iinc 3 1, 3) := by decide +kernel
theorem dX8_count_175 : decode cX8_count 175 = .ok (.goto (-78), 3) := by decide +kernel
theorem dX8_count_178 : decode cX8_count 178 = .ok (.iload_n 2, 1) := by decide +kernel
theorem dX8_count_179 : decode cX8_count 179 = .ok (.ireturn, 1) := by decide +kernel
theorem dX8_count_180 : decode cX8_count 180 = .ok (.iconst 0, 1) := by decide +kernel
theorem dX8_count_181 : decode cX8_count 181 = .ok (.istore_n 3, 1) := by decide +kernel
theorem dX8_count_182 : decode cX8_count 182 = .ok (.iload_n 3, 1) := by decide +kernel
theorem dX8_count_183 : decode cX8_count 183 = .ok (.bipush 100, 2) := by decide +kernel
theorem dX8_count_185 : decode cX8_count 185 = .ok (.if_icmp .ge 26, 3) := by decide +kernel
theorem dX8_count_188 : decode cX8_count 188 = .ok (.iload_n 2, 1) := by decide +kernel
theorem dX8_count_189 : decode cX8_count 189 = .ok (.aload_n 0, 1) := by decide +kernel
theorem dX8_count_190 : decode cX8_count 190 = .ok (.getfield 28, 3) := by decide +kernel
theorem dX8_count_193 : decode cX8_count 193 = .ok (.iload_n 3, 1) := by decide +kernel
theorem dX8_count_194 : decode cX8_count 194 = .ok (.iaload, 1) := by decide +kernel
theorem dX8_count_195 : decode cX8_count 195 = .ok (.ifCond .le 7, 3) := by decide +kernel
theorem dX8_count_198 : decode cX8_count 198 = .ok (.iconst 1, 1) := by decide +kernel
theorem dX8_count_199 : decode cX8_count 199 = .ok (.goto 4, 3) := by decide +kernel
theorem dX8_count_202 : decode cX8_count 202 = .ok (.iconst 0, 1) := by decide +kernel
theorem dX8_count_203 : decode cX8_count 203 = .ok (.iadd, 1) := by decide +kernel
theorem dX8_count_204 : decode cX8_count 204 = .ok (.istore_n 2, 1) := by decide +kernel
theorem dX8_count_205 : decode cX8_count 205 = .ok (.iinc 3 1, 3) := by decide +kernel
theorem dX8_count_208 : decode cX8_count 208 = .ok (.goto (-26), 3) := by decide +kernel
theorem dX8_count_211 : decode cX8_count 211 = .ok (.iload_n 2, 1) := by decide +kernel
theorem dX8_count_212 : decode cX8_count 212 = .ok (.ireturn, 1) := by decide +kernel
theorem dX8_count_213 : decode cX8_count 213 = .ok (.ldc 100, 2) := by decide +kernel
theorem dX8_count_215 : decode cX8_count 215 = .ok (.ireturn, 1) := by decide +kernel
theorem dX8_status_0 : decode cX8_status 0 = .ok (.aload_n 0, 1) := by decide +kernel
theorem dX8_status_1 : decode cX8_status 1 = .ok (.iconst 0, 1) := by decide +kernel
theorem dX8_status_2 : decode cX8_status 2 = .ok (.putfield 80, 3) := by decide +kernel
theorem dX8_status_5 : decode cX8_status 5 = .ok (.aload_n 0, 1) := by decide +kernel
theorem dX8_status_6 : decode cX8_status 6 = .ok (.getfield 84, 3) := by decide +kernel
theorem dX8_status_9 : decode cX8_status 9 = .ok (.ireturn, 1) := by decide +kernel
