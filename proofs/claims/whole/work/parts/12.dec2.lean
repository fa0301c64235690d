theorem dM_look_74 : decode cM_look 74 = .ok (.iload_n 2, 1) := by decide +kernel
theorem dM_look_75 : decode cM_look 75 = .ok (.iadd, 1) := by decide +kernel
theorem dM_look_76 : decode cM_look 76 = .ok (.iaload, 1) := by decide +kernel
theorem dM_look_77 : decode cM_look 77 = .ok (.invokestatic 48, 3) := by decide +kernel
theorem dM_look_80 : decode cM_look 80 = .ok (.aload_n 0, 1) := by decide +kernel
theorem dM_look_81 : decode cM_look 81 = .ok (.getfield 44, 3) := by decide +kernel
theorem dM_look_84 : decode cM_look 84 = .ok (.land, 1) := by decide +kernel
theorem dM_look_85 : decode cM_look 85 = .ok (.lor, 1) := by decide +kernel
theorem dM_look_86 : decode cM_look 86 = .ok (.lastore, 1) := by decide +kernel
theorem dM_look_87 : decode cM_look 87 = .ok (.iinc 2 1, 3) := by decide +kernel
theorem dM_look_90 : decode cM_look 90 = .ok (.goto (-55), 3) := by decide +kernel
theorem dM_look_93 : decode cM_look 93 = .ok (.aload_n 0, 1) := by decide +kernel
theorem dM_look_94 : decode cM_look 94 = .ok (.getfield 44, 3) := by decide +kernel
theorem dM_look_97 : decode cM_look 97 = .ok (.iload_n 1, 1) := by decide +kernel
theorem dM_look_98 : decode cM_look 98 = .ok (.invokestatic 36, 3) := by decide +kernel
theorem dM_look_101 : decode cM_look 101 = .ok (.ifCond .eq 25, 3) := by decide +kernel
theorem dM_look_104 : decode cM_look 104 = .ok (.aload_n 0, 1) := by decide +kernel
theorem dM_look_105 : decode cM_look 105 = .ok (.getfield 7, 3) := by decide +kernel
theorem dM_look_108 : decode cM_look 108 = .ok (.iload_n 1, 1) := by decide +kernel
theorem dM_look_109 : decode cM_look 109 = .ok (.iaload, 1) := by decide +kernel
theorem dM_look_110 : decode cM_look 110 = .ok (.ifCond .ne 16, 3) := by decide +kernel
theorem dM_look_113 : decode cM_look 113 = .ok (.aload_n 0, 1) := by decide +kernel
theorem dM_look_114 : decode cM_look 114 = .ok (.aload_n 0, 1) := by decide +kernel
theorem dM_look_115 : decode cM_look 115 = .ok (.getfield 58, 3) := by decide +kernel
theorem dM_look_118 : decode cM_look 118 = .ok (.iload_n 1, 1) := by decide +kernel
theorem dM_look_119 : decode cM_look 119 = .ok (.invokestatic 48, 3) := by decide +kernel
theorem dM_look_122 : decode cM_look 122 = .ok (.lor, 1) := by decide +kernel
theorem dM_look_123 : decode cM_look 123 = .ok (.putfield 58, 3) := by decide +kernel
theorem dM_look_126 : decode cM_look 126 = .ok (.aload_n 0, 1) := by decide +kernel
theorem dM_look_127 : decode cM_look 127 = .ok (.getfield 20, 3) := by decide +kernel
theorem dM_look_130 : decode cM_look 130 = .ok (.iload_n 1, 1) := by decide +kernel
theorem dM_look_131 : decode cM_look 131 = .ok (.lconst 0, 1) := by decide +kernel
theorem dM_look_132 : decode cM_look 132 = .ok (.lastore, 1) := by decide +kernel
theorem dM_look_133 : decode cM_look 133 = .ok (.aload_n 0, 1) := by decide +kernel
theorem dM_look_134 : decode cM_look 134 = .ok (.getfield 23, 3) := by decide +kernel
theorem dM_look_137 : decode cM_look 137 = .ok (.iload_n 1, 1) := by decide +kernel
theorem dM_look_138 : decode cM_look 138 = .ok (.lconst 0, 1) := by decide +kernel
theorem dM_look_139 : decode cM_look 139 = .ok (.lastore, 1) := by decide +kernel
theorem dM_look_140 : decode cM_look 140 = .ok (.aload_n 0, 1) := by decide +kernel
theorem dM_look_141 : decode cM_look 141 = .ok (.getfield 26, 3) := by decide +kernel
theorem dM_look_144 : decode cM_look 144 = .ok (.iload_n 1, 1) := by decide +kernel
theorem dM_look_145 : decode cM_look 145 = .ok (.lconst 0, 1) := by decide +kernel
theorem dM_look_146 : decode cM_look 146 = .ok (.lastore, 1) := by decide +kernel
theorem dM_look_147 : decode cM_look 147 = .ok (.iinc 1 1, 3) := by decide +kernel
theorem dM_look_150 : decode cM_look 150 = .ok (.goto (-130), 3) := by decide +kernel
theorem dM_look_153 : decode cM_look 153 = .ok (.aload_n 0, 1) := by decide +kernel
theorem dM_look_154 : decode cM_look 154 = .ok (.aload_n 0, 1) := by decide +kernel
theorem dM_look_155 : decode cM_look 155 = .ok (.iconst (-1), 1) := by decide +kernel
theorem dM_look_156 : decode cM_look 156 = .ok (.invokevirtual 61, 3) := by decide +kernel
theorem dM_look_159 : decode cM_look 159 = .ok (.putfield 64, 3) := by decide +kernel
theorem dM_look_162 : decode cM_look 162 = .ok (.aload_n 0, 1) := by decide +kernel
theorem dM_look_163 : decode cM_look 163 = .ok (.aload_n 0, 1) := by decide +kernel
theorem dM_look_164 : decode cM_look 164 = .ok (.aload_n 0, 1) := by decide +kernel
theorem dM_look_165 : decode cM_look 165 = .ok (.getfield 58, 3) := by decide +kernel
theorem dM_look_168 : decode cM_look 168 = .ok (.iconst (-1), 1) := by decide +kernel
theorem dM_look_169 : decode cM_look 169 = .ok (.invokevirtual 67, 3) := by decide +kernel
theorem dM_look_172 : decode cM_look 172 = .ok (.putfield 71, 3) := by decide +kernel
theorem dM_look_175 : decode cM_look 175 = .ok (.iconst 0, 1) := by decide +kernel
theorem dM_look_176 : decode cM_look 176 = .ok (.istore_n 1, 1) := by decide +kernel
theorem dM_look_177 : decode cM_look 177 = .ok (.iload_n 1, 1) := by decide +kernel
theorem dM_look_178 : decode cM_look 178 = .ok (.bipush 40, 2) := by decide +kernel
theorem dM_look_180 : decode cM_look 180 = .ok (.if_icmp .ge 147, 3) := by decide +kernel
theorem dM_look_183 : decode cM_look 183 = .ok (.aload_n 0, 1) := by decide +kernel
theorem dM_look_184 : decode cM_look 184 = .ok (.getfield 64, 3) := by decide +kernel
theorem dM_look_187 : decode cM_look 187 = .ok (.iload_n 1, 1) := by decide +kernel
theorem dM_look_188 : decode cM_look 188 = .ok (.invokestatic 36, 3) := by decide +kernel
theorem dM_look_191 : decode cM_look 191 = .ok (.ifCond .eq 20, 3) := by decide +kernel
theorem dM_look_194 : decode cM_look 194 = .ok (.aload_n 0, 1) := by decide +kernel
theorem dM_look_195 : decode cM_look 195 = .ok (.getfield 64, 3) := by decide +kernel
theorem dM_look_198 : decode cM_look 198 = .ok (.aload_n 0, 1) := by decide +kernel
theorem dM_look_199 : decode cM_look 199 = .ok (.iload_n 1, 1) := by decide +kernel
theorem dM_look_200 : decode cM_look 200 = .ok (.invokevirtual 61, 3) := by decide +kernel
theorem dM_look_203 : decode cM_look 203 = .ok (.ldc2_w 56, 3) := by decide +kernel
theorem dM_look_206 : decode cM_look 206 = .ok (.lxor, 1) := by decide +kernel
theorem dM_look_207 : decode cM_look 207 = .ok (.land, 1) := by decide +kernel
theorem dM_look_208 : decode cM_look 208 = .ok (.goto 4, 3) := by decide +kernel
theorem dM_look_211 : decode cM_look 211 = .ok (.lconst 0, 1) := by decide +kernel
theorem dM_look_212 : decode cM_look 212 = .ok (.lstore_n 2, 1) := by decide +kernel
theorem dM_look_213 : decode cM_look 213 = .ok (.aload_n 0, 1) := by decide +kernel
theorem dM_look_214 : decode cM_look 214 = .ok (.getfield 71, 3) := by decide +kernel
theorem dM_look_217 : decode cM_look 217 = .ok (.iload_n 1, 1) := by decide +kernel
theorem dM_look_218 : decode cM_look 218 = .ok (.invokestatic 36, 3) := by decide +kernel
theorem dM_look_221 : decode cM_look 221 = .ok (.ifCond .eq 24, 3) := by decide +kernel
theorem dM_look_224 : decode cM_look 224 = .ok (.aload_n 0, 1) := by decide +kernel
theorem dM_look_225 : decode cM_look 225 = .ok (.getfield 71, 3) := by decide +kernel
theorem dM_look_228 : decode cM_look 228 = .ok (.aload_n 0, 1) := by decide +kernel
theorem dM_look_229 : decode cM_look 229 = .ok (.aload_n 0, 1) := by decide +kernel
theorem dM_look_230 : decode cM_look 230 = .ok (.getfield 58, 3) := by decide +kernel
theorem dM_look_233 : decode cM_look 233 = .ok (.iload_n 1, 1) := by decide +kernel
theorem dM_look_234 : decode cM_look 234 = .ok (.invokevirtual 67, 3) := by decide +kernel
theorem dM_look_237 : decode cM_look 237 = .ok (.ldc2_w 56, 3) := by decide +kernel
theorem dM_look_240 : decode cM_look 240 = .ok (.lxor, 1) := by decide +kernel
theorem dM_look_241 : decode cM_look 241 = .ok (.land, 1) := by decide +kernel
theorem dM_look_242 : decode cM_look 242 = .ok (.goto 4, 3) := by decide +kernel
theorem dM_look_245 : decode cM_look 245 = .ok (.lconst 0, 1) := by decide +kernel
theorem dM_look_246 : decode cM_look 246 = .ok (.lstore 4, 2) := by decide +kernel
theorem dM_look_248 : decode cM_look 248 = .ok (.iconst 0, 1) := by decide +kernel
theorem dM_look_249 : decode cM_look 249 = .ok (.istore 6, 2) := by decide +kernel
theorem dM_look_251 : decode cM_look 251 = .ok (.iload 6, 2) := by decide +kernel
theorem dM_look_253 : decode cM_look 253 = .ok (.bipush 40, 2) := by decide +kernel
theorem dM_look_255 : decode cM_look 255 = .ok (.if_icmp .ge 66, 3) := by decide +kernel
theorem dM_look_258 : decode cM_look 258 = .ok (.lload_n 2, 1) := by decide +kernel
theorem dM_look_259 : decode cM_look 259 = .ok (.iload 6, 2) := by decide +kernel
theorem dM_look_261 : decode cM_look 261 = .ok (.invokestatic 36, 3) := by decide +kernel
theorem dM_look_264 : decode cM_look 264 = .ok (.ifCond .eq 22, 3) := by decide +kernel
theorem dM_look_267 : decode cM_look 267 = .ok (.aload_n 0, 1) := by decide +kernel
theorem dM_look_268 : decode cM_look 268 = .ok (.getfield 20, 3) := by decide +kernel
theorem dM_look_271 : decode cM_look 271 = .ok (.iload 6, 2) := by decide +kernel
theorem dM_look_273 : decode cM_look 273 = .ok (.aload_n 0, 1) := by decide +kernel
theorem dM_look_274 : decode cM_look 274 = .ok (.getfield 20, 3) := by decide +kernel
theorem dM_look_277 : decode cM_look 277 = .ok (.iload 6, 2) := by decide +kernel
theorem dM_look_279 : decode cM_look 279 = .ok (.laload, 1) := by decide +kernel
theorem dM_look_280 : decode cM_look 280 = .ok (.iload_n 1, 1) := by decide +kernel
theorem dM_look_281 : decode cM_look 281 = .ok (.invokestatic 48, 3) := by decide +kernel
theorem dM_look_284 : decode cM_look 284 = .ok (.lor, 1) := by decide +kernel
theorem dM_look_285 : decode cM_look 285 = .ok (.lastore, 1) := by decide +kernel
theorem dM_look_286 : decode cM_look 286 = .ok (.lload 4, 2) := by decide +kernel
theorem dM_look_288 : decode cM_look 288 = .ok (.iload 6, 2) := by decide +kernel
theorem dM_look_290 : decode cM_look 290 = .ok (.invokestatic 36, 3) := by decide +kernel
theorem dM_look_293 : decode cM_look 293 = .ok (.ifCond .eq 22, 3) := by decide +kernel
theorem dM_look_296 : decode cM_look 296 = .ok (.aload_n 0, 1) := by decide +kernel
theorem dM_look_297 : decode cM_look 297 = .ok (.getfield 23, 3) := by decide +kernel
theorem dM_look_300 : decode cM_look 300 = .ok (.iload 6, 2) := by decide +kernel
theorem dM_look_302 : decode cM_look 302 = .ok (.aload_n 0, 1) := by decide +kernel
theorem dM_look_303 : decode cM_look 303 = .ok (.getfield 23, 3) := by decide +kernel
theorem dM_look_306 : decode cM_look 306 = .ok (.iload 6, 2) := by decide +kernel
theorem dM_look_308 : decode cM_look 308 = .ok (.laload, 1) := by decide +kernel
theorem dM_look_309 : decode cM_look 309 = .ok (.iload_n 1, 1) := by decide +kernel
theorem dM_look_310 : decode cM_look 310 = .ok (.invokestatic 48, 3) := by decide +kernel
theorem dM_look_313 : decode cM_look 313 = .ok (.lor, 1) := by decide +kernel
theorem dM_look_314 : decode cM_look 314 = .ok (.lastore, 1) := by decide +kernel
theorem dM_look_315 : decode cM_look 315 = .ok (.iinc 6 1, 3) := by decide +kernel
theorem dM_look_318 : decode cM_look 318 = .ok (.goto (-67), 3) := by decide +kernel
theorem dM_look_321 : decode cM_look 321 = .ok (.iinc 1 1, 3) := by decide +kernel
theorem dM_look_324 : decode cM_look 324 = .ok (.goto (-147), 3) := by decide +kernel
theorem dM_look_327 : decode cM_look 327 = .ok (.aload_n 0, 1) := by decide +kernel
theorem dM_look_328 : decode cM_look 328 = .ok (.invokevirtual 74, 3) := by decide +kernel
theorem dM_look_331 : decode cM_look 331 = .ok (.aload_n 0, 1) := by decide +kernel
theorem dM_look_332 : decode cM_look 332 = .ok (.invokevirtual 77, 3) := by decide +kernel
theorem dM_look_335 : decode cM_look 335 = .ok (.return_, 1) := by decide +kernel
theorem dM_comeTo_0 : decode cM_comeTo 0 = .ok (.iload_n 1, 1) := by decide +kernel
theorem dM_comeTo_1 : decode cM_comeTo 1 = .ok (.ifCond .ne 7, 3) := by decide +kernel
theorem dM_comeTo_4 : decode cM_comeTo 4 = .ok (.lconst 0, 1) := by decide +kernel
theorem dM_comeTo_5 : decode cM_comeTo 5 = .ok (.goto 9, 3) := by decide +kernel
theorem dM_comeTo_8 : decode cM_comeTo 8 = .ok (.aload_n 0, 1) := by decide +kernel
theorem dM_comeTo_9 : decode cM_comeTo 9 = .ok (.getfield 44, 3) := by decide +kernel
theorem dM_comeTo_12 : decode cM_comeTo 12 = .ok (.lconst 1, 1) := by decide +kernel
theorem dM_comeTo_13 : decode cM_comeTo 13 = .ok (.land, 1) := by decide +kernel
theorem dM_comeTo_14 : decode cM_comeTo 14 = .ok (.lstore_n 2, 1) := by decide +kernel
theorem dM_comeTo_15 : decode cM_comeTo 15 = .ok (.iconst 1, 1) := by decide +kernel
theorem dM_comeTo_16 : decode cM_comeTo 16 = .ok (.istore 4, 2) := by decide +kernel
theorem dM_comeTo_18 : decode cM_comeTo 18 = .ok (.iload 4, 2) := by decide +kernel
theorem dM_comeTo_20 : decode cM_comeTo 20 = .ok (.ifCond .eq 81, 3) := by decide +kernel
theorem dM_comeTo_23 : decode cM_comeTo 23 = .ok (.lload_n 2, 1) := by decide +kernel
theorem dM_comeTo_24 : decode cM_comeTo 24 = .ok (.lstore 5, 2) := by decide +kernel
theorem dM_comeTo_26 : decode cM_comeTo 26 = .ok (.iconst 0, 1) := by decide +kernel
theorem dM_comeTo_27 : decode cM_comeTo 27 = .ok (.istore 7, 2) := by decide +kernel
theorem dM_comeTo_29 : decode cM_comeTo 29 = .ok (.iload 7, 2) := by decide +kernel
theorem dM_comeTo_31 : decode cM_comeTo 31 = .ok (.bipush 40, 2) := by decide +kernel
theorem dM_comeTo_33 : decode cM_comeTo 33 = .ok (.if_icmp .ge 30, 3) := by decide +kernel
theorem dM_comeTo_36 : decode cM_comeTo 36 = .ok (.lload_n 2, 1) := by decide +kernel
theorem dM_comeTo_37 : decode cM_comeTo 37 = .ok (.iload 7, 2) := by decide +kernel
theorem dM_comeTo_39 : decode cM_comeTo 39 = .ok (.invokestatic 36, 3) := by decide +kernel
theorem dM_comeTo_42 : decode cM_comeTo 42 = .ok (.ifCond .eq 15, 3) := by decide +kernel
theorem dM_comeTo_45 : decode cM_comeTo 45 = .ok (.lload 5, 2) := by decide +kernel
theorem dM_comeTo_47 : decode cM_comeTo 47 = .ok (.aload_n 0, 1) := by decide +kernel
theorem dM_comeTo_48 : decode cM_comeTo 48 = .ok (.getfield 16, 3) := by decide +kernel
theorem dM_comeTo_51 : decode cM_comeTo 51 = .ok (.iload 7, 2) := by decide +kernel
theorem dM_comeTo_53 : decode cM_comeTo 53 = .ok (.laload, 1) := by decide +kernel
theorem dM_comeTo_54 : decode cM_comeTo 54 = .ok (.lor, 1) := by decide +kernel
theorem dM_comeTo_55 : decode cM_comeTo 55 = .ok (.lstore 5, 2) := by decide +kernel
theorem dM_comeTo_57 : decode cM_comeTo 57 = .ok (.iinc 7 1, 3) := by decide +kernel
theorem dM_comeTo_60 : decode cM_comeTo 60 = .ok (.goto (-31), 3) := by decide +kernel
theorem dM_comeTo_63 : decode cM_comeTo 63 = .ok (.iload_n 1, 1) := by decide +kernel
theorem dM_comeTo_64 : decode cM_comeTo 64 = .ok (.iconst (-1), 1) := by decide +kernel
theorem dM_comeTo_65 : decode cM_comeTo 65 = .ok (.if_icmp .eq 16, 3) := by decide +kernel
theorem dM_comeTo_68 : decode cM_comeTo 68 = .ok (.lload 5, 2) := by decide +kernel
theorem dM_comeTo_70 : decode cM_comeTo 70 = .ok (.iload_n 1, 1) := by decide +kernel
theorem dM_comeTo_71 : decode cM_comeTo 71 = .ok (.invokestatic 48, 3) := by decide +kernel
theorem dM_comeTo_74 : decode cM_comeTo 74 = .ok (.ldc2_w 56, 3) := by decide +kernel
theorem dM_comeTo_77 : decode cM_comeTo 77 = .ok (.lxor, 1) := by decide +kernel
theorem dM_comeTo_78 : decode cM_comeTo 78 = .ok (.land, 1) := by decide +kernel
theorem dM_comeTo_79 : decode cM_comeTo 79 = .ok (.lstore 5, 2) := by decide +kernel
theorem dM_comeTo_81 : decode cM_comeTo 81 = .ok (.lload 5, 2) := by decide +kernel
theorem dM_comeTo_83 : decode cM_comeTo 83 = .ok (.lload_n 2, 1) := by decide +kernel
theorem dM_comeTo_84 : decode cM_comeTo 84 = .ok (.lcmp, 1) := by decide +kernel
theorem dM_comeTo_85 : decode cM_comeTo 85 = .ok (.ifCond .eq 7, 3) := by decide +kernel
theorem dM_comeTo_88 : decode cM_comeTo 88 = .ok (.iconst 1, 1) := by decide +kernel
theorem dM_comeTo_89 : decode cM_comeTo 89 = .ok (.goto 4, 3) := by decide +kernel
theorem dM_comeTo_92 : decode cM_comeTo 92 = .ok (.iconst 0, 1) := by decide +kernel
theorem dM_comeTo_93 : decode cM_comeTo 93 = .ok (.istore 4, 2) := by decide +kernel
theorem dM_comeTo_95 : decode cM_comeTo 95 = .ok (.lload 5, 2) := by decide +kernel
theorem dM_comeTo_97 : decode cM_comeTo 97 = .ok (.lstore_n 2, 1) := by decide +kernel
theorem dM_comeTo_98 : decode cM_comeTo 98 = .ok (.goto (-80), 3) := by decide +kernel
theorem dM_comeTo_101 : decode cM_comeTo 101 = .ok (.lload_n 2, 1) := by decide +kernel
theorem dM_comeTo_102 : decode cM_comeTo 102 = .ok (.lreturn, 1) := by decide +kernel
theorem dM_leadTo_0 : decode cM_leadTo 0 = .ok (.iload_n 3, 1) := by decide +kernel
theorem dM_leadTo_1 : decode cM_leadTo 1 = .ok (.iconst (-1), 1) := by decide +kernel
theorem dM_leadTo_2 : decode cM_leadTo 2 = .ok (.if_icmp .ne 7, 3) := by decide +kernel
theorem dM_leadTo_5 : decode cM_leadTo 5 = .ok (.lconst 0, 1) := by decide +kernel
theorem dM_leadTo_6 : decode cM_leadTo 6 = .ok (.goto 7, 3) := by decide +kernel
theorem dM_leadTo_9 : decode cM_leadTo 9 = .ok (.iload_n 3, 1) := by decide +kernel
theorem dM_leadTo_10 : decode cM_leadTo 10 = .ok (.invokestatic 48, 3) := by decide +kernel
theorem dM_leadTo_13 : decode cM_leadTo 13 = .ok (.lstore 4, 2) := by decide +kernel
theorem dM_leadTo_15 : decode cM_leadTo 15 = .ok (.lload_n 1, 1) := by decide +kernel
theorem dM_leadTo_16 : decode cM_leadTo 16 = .ok (.lload 4, 2) := by decide +kernel
theorem dM_leadTo_18 : decode cM_leadTo 18 = .ok (.ldc2_w 56, 3) := by decide +kernel
theorem dM_leadTo_21 : decode cM_leadTo 21 = .ok (.lxor, 1) := by decide +kernel
theorem dM_leadTo_22 : decode cM_leadTo 22 = .ok (.land, 1) := by decide +kernel
theorem dM_leadTo_23 : decode cM_leadTo 23 = .ok (.lstore 6, 2) := by decide +kernel
theorem dM_leadTo_25 : decode cM_leadTo 25 = .ok (.iconst 1, 1) := by decide +kernel
theorem dM_leadTo_26 : decode cM_leadTo 26 = .ok (.istore 8, 2) := by decide +kernel
theorem dM_leadTo_28 : decode cM_leadTo 28 = .ok (.iload 8, 2) := by decide +kernel
theorem dM_leadTo_30 : decode cM_leadTo 30 = .ok (.ifCond .eq 89, 3) := by decide +kernel
theorem dM_leadTo_33 : decode cM_leadTo 33 = .ok (.lload 6, 2) := by decide +kernel
theorem dM_leadTo_35 : decode cM_leadTo 35 = .ok (.lstore 9, 2) := by decide +kernel
theorem dM_leadTo_37 : decode cM_leadTo 37 = .ok (.iconst 0, 1) := by decide +kernel
theorem dM_leadTo_38 : decode cM_leadTo 38 = .ok (.istore 11, 2) := by decide +kernel
theorem dM_leadTo_40 : decode cM_leadTo 40 = .ok (.iload 11, 2) := by decide +kernel
theorem dM_leadTo_42 : decode cM_leadTo 42 = .ok (.bipush 40, 2) := by decide +kernel
theorem dM_leadTo_44 : decode cM_leadTo 44 = .ok (.if_icmp .ge 53, 3) := by decide +kernel
theorem dM_leadTo_47 : decode cM_leadTo 47 = .ok (.aload_n 0, 1) := by decide +kernel
theorem dM_leadTo_48 : decode cM_leadTo 48 = .ok (.getfield 44, 3) := by decide +kernel
theorem dM_leadTo_51 : decode cM_leadTo 51 = .ok (.lload 4, 2) := by decide +kernel
theorem dM_leadTo_53 : decode cM_leadTo 53 = .ok (.ldc2_w 56, 3) := by decide +kernel
theorem dM_leadTo_56 : decode cM_leadTo 56 = .ok (.lxor, 1) := by decide +kernel
theorem dM_leadTo_57 : decode cM_leadTo 57 = .ok (.land, 1) := by decide +kernel
theorem dM_leadTo_58 : decode cM_leadTo 58 = .ok (.iload 11, 2) := by decide +kernel
theorem dM_leadTo_60 : decode cM_leadTo 60 = .ok (.invokestatic 36, 3) := by decide +kernel
theorem dM_leadTo_63 : decode cM_leadTo 63 = .ok (.ifCond .eq 28, 3) := by decide +kernel
theorem dM_leadTo_66 : decode cM_leadTo 66 = .ok (.aload_n 0, 1) := by decide +kernel
theorem dM_leadTo_67 : decode cM_leadTo 67 = .ok (.getfield 16, 3) := by decide +kernel
theorem dM_leadTo_70 : decode cM_leadTo 70 = .ok (.iload 11, 2) := by decide +kernel
theorem dM_leadTo_72 : decode cM_leadTo 72 = .ok (.laload, 1) := by decide +kernel
theorem dM_leadTo_73 : decode cM_leadTo 73 = .ok (.lload 6, 2) := by decide +kernel
theorem dM_leadTo_75 : decode cM_leadTo 75 = .ok (.land, 1) := by decide +kernel
theorem dM_leadTo_76 : decode cM_leadTo 76 = .ok (.lconst 0, 1) := by decide +kernel
theorem dM_leadTo_77 : decode cM_leadTo 77 = .ok (.lcmp, 1) := by decide +kernel
theorem dM_leadTo_78 : decode cM_leadTo 78 = .ok (.ifCond .eq 13, 3) := by decide +kernel
theorem dM_leadTo_81 : decode cM_leadTo 81 = .ok (.lload 9, 2) := by decide +kernel
theorem dM_leadTo_83 : decode cM_leadTo 83 = .ok (.iload 11, 2) := by decide +kernel
theorem dM_leadTo_85 : decode cM_leadTo 85 = .ok (.invokestatic 48, 3) := by decide +kernel
theorem dM_leadTo_88 : decode cM_leadTo 88 = .ok (.lor, 1) := by decide +kernel
theorem dM_leadTo_89 : decode cM_leadTo 89 = .ok (.lstore 9, 2) := by decide +kernel
theorem dM_leadTo_91 : decode cM_leadTo 91 = .ok (.iinc 11 1, 3) := by decide +kernel
theorem dM_leadTo_94 : decode cM_leadTo 94 = .ok (.goto (-54), 3) := by decide +kernel
theorem dM_leadTo_97 : decode cM_leadTo 97 = .ok (.lload 9, 2) := by decide +kernel
theorem dM_leadTo_99 : decode cM_leadTo 99 = .ok (.lload 6, 2) := by decide +kernel
theorem dM_leadTo_101 : decode cM_leadTo 101 = .ok (.lcmp, 1) := by decide +kernel
theorem dM_leadTo_102 : decode cM_leadTo 102 = .ok (.ifCond .eq 7, 3) := by decide +kernel
theorem dM_leadTo_105 : decode cM_leadTo 105 = .ok (.iconst 1, 1) := by decide +kernel
theorem dM_leadTo_106 : decode cM_leadTo 106 = .ok (.goto 4, 3) := by decide +kernel
theorem dM_leadTo_109 : decode cM_leadTo 109 = .ok (.iconst 0, 1) := by decide +kernel
theorem dM_leadTo_110 : decode cM_leadTo 110 = .ok (.istore 8, 2) := by decide +kernel
theorem dM_leadTo_112 : decode cM_leadTo 112 = .ok (.lload 9, 2) := by decide +kernel
theorem dM_leadTo_114 : decode cM_leadTo 114 = .ok (.lstore 6, 2) := by decide +kernel
theorem dM_leadTo_116 : decode cM_leadTo 116 = .ok (.goto (-88), 3) := by decide +kernel
theorem dM_leadTo_119 : decode cM_leadTo 119 = .ok (.lload 6, 2) := by decide +kernel
theorem dM_leadTo_121 : decode cM_leadTo 121 = .ok (.lreturn, 1) := by decide +kernel
theorem dM_lookAtRounds_0 : decode cM_lookAtRounds 0 = .ok (.aload_n 0, 1) := by decide +kernel
theorem dM_lookAtRounds_1 : decode cM_lookAtRounds 1 = .ok (.lconst 0, 1) := by decide +kernel
theorem dM_lookAtRounds_2 : decode cM_lookAtRounds 2 = .ok (.putfield 80, 3) := by decide +kernel
theorem dM_lookAtRounds_5 : decode cM_lookAtRounds 5 = .ok (.iconst 0, 1) := by decide +kernel
theorem dM_lookAtRounds_6 : decode cM_lookAtRounds 6 = .ok (.istore_n 1, 1) := by decide +kernel
theorem dM_lookAtRounds_7 : decode cM_lookAtRounds 7 = .ok (.iload_n 1, 1) := by decide +kernel
theorem dM_lookAtRounds_8 : decode cM_lookAtRounds 8 = .ok (.bipush 40, 2) := by decide +kernel
theorem dM_lookAtRounds_10 : decode cM_lookAtRounds 10 = .ok (.if_icmp .ge 119, 3) := by decide +kernel
theorem dM_lookAtRounds_13 : decode cM_lookAtRounds 13 = .ok (.lconst 0, 1) := by decide +kernel
theorem dM_lookAtRounds_14 : decode cM_lookAtRounds 14 = .ok (.lstore_n 2, 1) := by decide +kernel
theorem dM_lookAtRounds_15 : decode cM_lookAtRounds 15 = .ok (.iconst 0, 1) := by decide +kernel
theorem dM_lookAtRounds_16 : decode cM_lookAtRounds 16 = .ok (.istore 4, 2) := by decide +kernel
theorem dM_lookAtRounds_18 : decode cM_lookAtRounds 18 = .ok (.iload 4, 2) := by decide +kernel
theorem dM_lookAtRounds_20 : decode cM_lookAtRounds 20 = .ok (.bipush 40, 2) := by decide +kernel
theorem dM_lookAtRounds_22 : decode cM_lookAtRounds 22 = .ok (.if_icmp .ge 57, 3) := by decide +kernel
theorem dM_lookAtRounds_25 : decode cM_lookAtRounds 25 = .ok (.aload_n 0, 1) := by decide +kernel
theorem dM_lookAtRounds_26 : decode cM_lookAtRounds 26 = .ok (.getfield 64, 3) := by decide +kernel
theorem dM_lookAtRounds_29 : decode cM_lookAtRounds 29 = .ok (.iload 4, 2) := by decide +kernel
theorem dM_lookAtRounds_31 : decode cM_lookAtRounds 31 = .ok (.invokestatic 36, 3) := by decide +kernel
theorem dM_lookAtRounds_34 : decode cM_lookAtRounds 34 = .ok (.ifCond .eq 39, 3) := by decide +kernel
theorem dM_lookAtRounds_37 : decode cM_lookAtRounds 37 = .ok (.aload_n 0, 1) := by decide +kernel
theorem dM_lookAtRounds_38 : decode cM_lookAtRounds 38 = .ok (.getfield 16, 3) := by decide +kernel
theorem dM_lookAtRounds_41 : decode cM_lookAtRounds 41 = .ok (.iload 4, 2) := by decide +kernel
theorem dM_lookAtRounds_43 : decode cM_lookAtRounds 43 = .ok (.laload, 1) := by decide +kernel
theorem dM_lookAtRounds_44 : decode cM_lookAtRounds 44 = .ok (.iload_n 1, 1) := by decide +kernel
theorem dM_lookAtRounds_45 : decode cM_lookAtRounds 45 = .ok (.invokestatic 36, 3) := by decide +kernel
theorem dM_lookAtRounds_48 : decode cM_lookAtRounds 48 = .ok (.ifCond .eq 25, 3) := by decide +kernel
theorem dM_lookAtRounds_51 : decode cM_lookAtRounds 51 = .ok (.aload_n 0, 1) := by decide +kernel
theorem dM_lookAtRounds_52 : decode cM_lookAtRounds 52 = .ok (.getfield 20, 3) := by decide +kernel
theorem dM_lookAtRounds_55 : decode cM_lookAtRounds 55 = .ok (.iload 4, 2) := by decide +kernel
theorem dM_lookAtRounds_57 : decode cM_lookAtRounds 57 = .ok (.laload, 1) := by decide +kernel
theorem dM_lookAtRounds_58 : decode cM_lookAtRounds 58 = .ok (.iload_n 1, 1) := by decide +kernel
theorem dM_lookAtRounds_59 : decode cM_lookAtRounds 59 = .ok (.invokestatic 36, 3) := by decide +kernel
theorem dM_lookAtRounds_62 : decode cM_lookAtRounds 62 = .ok (.ifCond .eq 11, 3) := by decide +kernel
theorem dM_lookAtRounds_65 : decode cM_lookAtRounds 65 = .ok (.lload_n 2, 1) := by decide +kernel
theorem dM_lookAtRounds_66 : decode cM_lookAtRounds 66 = .ok (.iload 4, 2) := by decide +kernel
theorem dM_lookAtRounds_68 : decode cM_lookAtRounds 68 = .ok (.invokestatic 48, 3) := by decide +kernel
theorem dM_lookAtRounds_71 : decode cM_lookAtRounds 71 = .ok (.lor, 1) := by decide +kernel
theorem dM_lookAtRounds_72 : decode cM_lookAtRounds 72 = .ok (.lstore_n 2, 1) := by decide +kernel
theorem dM_lookAtRounds_73 : decode cM_lookAtRounds 73 = .ok (.iinc 4 1, 3) := by decide +kernel
theorem dM_lookAtRounds_76 : decode cM_lookAtRounds 76 = .ok (.goto (-58), 3) := by decide +kernel
theorem dM_lookAtRounds_79 : decode cM_lookAtRounds 79 = .ok (.lload_n 2, 1) := by decide +kernel
theorem dM_lookAtRounds_80 : decode cM_lookAtRounds 80 = .ok (.lconst 0, 1) := by decide +kernel
theorem dM_lookAtRounds_81 : decode cM_lookAtRounds 81 = .ok (.lcmp, 1) := by decide +kernel
theorem dM_lookAtRounds_82 : decode cM_lookAtRounds 82 = .ok (.ifCond .ne 6, 3) := by decide +kernel
theorem dM_lookAtRounds_85 : decode cM_lookAtRounds 85 = .ok (.goto 38, 3) := by decide +kernel
theorem dM_lookAtRounds_88 : decode cM_lookAtRounds 88 = .ok (.aload_n 0, 1) := by decide +kernel
theorem dM_lookAtRounds_89 : decode cM_lookAtRounds 89 = .ok (.aload_n 0, 1) := by decide +kernel
theorem dM_lookAtRounds_90 : decode cM_lookAtRounds 90 = .ok (.getfield 80, 3) := by decide +kernel
theorem dM_lookAtRounds_93 : decode cM_lookAtRounds 93 = .ok (.iload_n 1, 1) := by decide +kernel
theorem dM_lookAtRounds_94 : decode cM_lookAtRounds 94 = .ok (.invokestatic 48, 3) := by decide +kernel
theorem dM_lookAtRounds_97 : decode cM_lookAtRounds 97 = .ok (.lor, 1) := by decide +kernel
theorem dM_lookAtRounds_98 : decode cM_lookAtRounds 98 = .ok (.putfield 80, 3) := by decide +kernel
theorem dM_lookAtRounds_101 : decode cM_lookAtRounds 101 = .ok (.aload_n 0, 1) := by decide +kernel
theorem dM_lookAtRounds_102 : decode cM_lookAtRounds 102 = .ok (.getfield 26, 3) := by decide +kernel
theorem dM_lookAtRounds_105 : decode cM_lookAtRounds 105 = .ok (.iload_n 1, 1) := by decide +kernel
theorem dM_lookAtRounds_106 : decode cM_lookAtRounds 106 = .ok (.iload_n 1, 1) := by decide +kernel
theorem dM_lookAtRounds_107 : decode cM_lookAtRounds 107 = .ok (.invokestatic 48, 3) := by decide +kernel
theorem dM_lookAtRounds_110 : decode cM_lookAtRounds 110 = .ok (.aload_n 0, 1) := by decide +kernel
theorem dM_lookAtRounds_111 : decode cM_lookAtRounds 111 = .ok (.lload_n 2, 1) := by decide +kernel
theorem dM_lookAtRounds_112 : decode cM_lookAtRounds 112 = .ok (.iload_n 1, 1) := by decide +kernel
theorem dM_lookAtRounds_113 : decode cM_lookAtRounds 113 = .ok (.invokevirtual 67, 3) := by decide +kernel
theorem dM_lookAtRounds_116 : decode cM_lookAtRounds 116 = .ok (.aload_n 0, 1) := by decide +kernel
theorem dM_lookAtRounds_117 : decode cM_lookAtRounds 117 = .ok (.getfield 64, 3) := by decide +kernel
theorem dM_lookAtRounds_120 : decode cM_lookAtRounds 120 = .ok (.land, 1) := by decide +kernel
theorem dM_lookAtRounds_121 : decode cM_lookAtRounds 121 = .ok (.lor, 1) := by decide +kernel
theorem dM_lookAtRounds_122 : decode cM_lookAtRounds 122 = .ok (.lastore, 1) := by decide +kernel
theorem dM_lookAtRounds_123 : decode cM_lookAtRounds 123 = .ok (.iinc 1 1, 3) := by decide +kernel
theorem dM_lookAtRounds_126 : decode cM_lookAtRounds 126 = .ok (.goto (-119), 3) := by decide +kernel
theorem dM_lookAtRounds_129 : decode cM_lookAtRounds 129 = .ok (.aload_n 0, 1) := by decide +kernel
theorem dM_lookAtRounds_130 : decode cM_lookAtRounds 130 = .ok (.getfield 64, 3) := by decide +kernel
theorem dM_lookAtRounds_133 : decode cM_lookAtRounds 133 = .ok (.lstore_n 1, 1) := by decide +kernel
theorem dM_lookAtRounds_134 : decode cM_lookAtRounds 134 = .ok (.iconst 1, 1) := by decide +kernel
theorem dM_lookAtRounds_135 : decode cM_lookAtRounds 135 = .ok (.istore_n 3, 1) := by decide +kernel
theorem dM_lookAtRounds_136 : decode cM_lookAtRounds 136 = .ok (.iload_n 3, 1) := by decide +kernel
theorem dM_lookAtRounds_137 : decode cM_lookAtRounds 137 = .ok (.ifCond .eq 76, 3) := by decide +kernel
theorem dM_lookAtRounds_140 : decode cM_lookAtRounds 140 = .ok (.iconst 0, 1) := by decide +kernel
theorem dM_lookAtRounds_141 : decode cM_lookAtRounds 141 = .ok (.istore_n 3, 1) := by decide +kernel
theorem dM_lookAtRounds_142 : decode cM_lookAtRounds 142 = .ok (.iconst 0, 1) := by decide +kernel
theorem dM_lookAtRounds_143 : decode cM_lookAtRounds 143 = .ok (.istore 4, 2) := by decide +kernel
theorem dM_lookAtRounds_145 : decode cM_lookAtRounds 145 = .ok (.iload 4, 2) := by decide +kernel
theorem dM_lookAtRounds_147 : decode cM_lookAtRounds 147 = .ok (.bipush 40, 2) := by decide +kernel
theorem dM_lookAtRounds_149 : decode cM_lookAtRounds 149 = .ok (.if_icmp .ge 61, 3) := by decide +kernel
theorem dM_lookAtRounds_152 : decode cM_lookAtRounds 152 = .ok (.lload_n 1, 1) := by decide +kernel
theorem dM_lookAtRounds_153 : decode cM_lookAtRounds 153 = .ok (.iload 4, 2) := by decide +kernel
theorem dM_lookAtRounds_155 : decode cM_lookAtRounds 155 = .ok (.invokestatic 36, 3) := by decide +kernel
theorem dM_lookAtRounds_158 : decode cM_lookAtRounds 158 = .ok (.ifCond .eq 46, 3) := by decide +kernel
theorem dM_lookAtRounds_161 : decode cM_lookAtRounds 161 = .ok (.aload_n 0, 1) := by decide +kernel
theorem dM_lookAtRounds_162 : decode cM_lookAtRounds 162 = .ok (.getfield 16, 3) := by decide +kernel
theorem dM_lookAtRounds_165 : decode cM_lookAtRounds 165 = .ok (.iload 4, 2) := by decide +kernel
theorem dM_lookAtRounds_167 : decode cM_lookAtRounds 167 = .ok (.laload, 1) := by decide +kernel
theorem dM_lookAtRounds_168 : decode cM_lookAtRounds 168 = .ok (.lload_n 1, 1) := by decide +kernel
theorem dM_lookAtRounds_169 : decode cM_lookAtRounds 169 = .ok (.land, 1) := by decide +kernel
theorem dM_lookAtRounds_170 : decode cM_lookAtRounds 170 = .ok (.aload_n 0, 1) := by decide +kernel
theorem dM_lookAtRounds_171 : decode cM_lookAtRounds 171 = .ok (.getfield 20, 3) := by decide +kernel
theorem dM_lookAtRounds_174 : decode cM_lookAtRounds 174 = .ok (.iload 4, 2) := by decide +kernel
theorem dM_lookAtRounds_176 : decode cM_lookAtRounds 176 = .ok (.laload, 1) := by decide +kernel
theorem dM_lookAtRounds_177 : decode cM_lookAtRounds 177 = .ok (.ldc2_w 56, 3) := by decide +kernel
theorem dM_lookAtRounds_180 : decode cM_lookAtRounds 180 = .ok (.lxor, 1) := by decide +kernel
theorem dM_lookAtRounds_181 : decode cM_lookAtRounds 181 = .ok (.land, 1) := by decide +kernel
theorem dM_lookAtRounds_182 : decode cM_lookAtRounds 182 = .ok (.lconst 0, 1) := by decide +kernel
theorem dM_lookAtRounds_183 : decode cM_lookAtRounds 183 = .ok (.lcmp, 1) := by decide +kernel
theorem dM_lookAtRounds_184 : decode cM_lookAtRounds 184 = .ok (.ifCond .eq 6, 3) := by decide +kernel
theorem dM_lookAtRounds_187 : decode cM_lookAtRounds 187 = .ok (.goto 17, 3) := by decide +kernel
theorem dM_lookAtRounds_190 : decode cM_lookAtRounds 190 = .ok (.lload_n 1, 1) := by decide +kernel
theorem dM_lookAtRounds_191 : decode cM_lookAtRounds 191 = .ok (.iload 4, 2) := by decide +kernel
theorem dM_lookAtRounds_193 : decode cM_lookAtRounds 193 = .ok (.invokestatic 48, 3) := by decide +kernel
theorem dM_lookAtRounds_196 : decode cM_lookAtRounds 196 = .ok (.ldc2_w 56, 3) := by decide +kernel
theorem dM_lookAtRounds_199 : decode cM_lookAtRounds 199 = .ok (.lxor, 1) := by decide +kernel
theorem dM_lookAtRounds_200 : decode cM_lookAtRounds 200 = .ok (.land, 1) := by decide +kernel
theorem dM_lookAtRounds_201 : decode cM_lookAtRounds 201 = .ok (.lstore_n 1, 1) := by decide +kernel
theorem dM_lookAtRounds_202 : decode cM_lookAtRounds 202 = .ok (.iconst 1, 1) := by decide +kernel
theorem dM_lookAtRounds_203 : decode cM_lookAtRounds 203 = .ok (.istore_n 3, 1) := by decide +kernel
theorem dM_lookAtRounds_204 : decode cM_lookAtRounds 204 = .ok (.iinc 4 1, 3) := by decide +kernel
theorem dM_lookAtRounds_207 : decode cM_lookAtRounds 207 = .ok (.goto (-62), 3) := by decide +kernel
theorem dM_lookAtRounds_210 : decode cM_lookAtRounds 210 = .ok (.goto (-74), 3) := by decide +kernel
theorem dM_lookAtRounds_213 : decode cM_lookAtRounds 213 = .ok (.aload_n 0, 1) := by decide +kernel
theorem dM_lookAtRounds_214 : decode cM_lookAtRounds 214 = .ok (.lload_n 1, 1) := by decide +kernel
theorem dM_lookAtRounds_215 : decode cM_lookAtRounds 215 = .ok (.lconst 0, 1) := by decide +kernel
theorem dM_lookAtRounds_216 : decode cM_lookAtRounds 216 = .ok (.lcmp, 1) := by decide +kernel
theorem dM_lookAtRounds_217 : decode cM_lookAtRounds 217 = .ok (.ifCond .ne 7, 3) := by decide +kernel
theorem dM_lookAtRounds_220 : decode cM_lookAtRounds 220 = .ok (.iconst 1, 1) := by decide +kernel
theorem dM_lookAtRounds_221 : decode cM_lookAtRounds 221 = .ok (.goto 4, 3) := by decide +kernel
theorem dM_lookAtRounds_224 : decode cM_lookAtRounds 224 = .ok (.iconst 0, 1) := by decide +kernel
theorem dM_lookAtRounds_225 : decode cM_lookAtRounds 225 = .ok (.putfield 83, 3) := by decide +kernel
theorem dM_lookAtRounds_228 : decode cM_lookAtRounds 228 = .ok (.return_, 1) := by decide +kernel
theorem dM_lookAtEdges_0 : decode cM_lookAtEdges 0 = .ok (.iconst 0, 1) := by decide +kernel
theorem dM_lookAtEdges_1 : decode cM_lookAtEdges 1 = .ok (.istore_n 1, 1) := by decide +kernel
theorem dM_lookAtEdges_2 : decode cM_lookAtEdges 2 = .ok (.iload_n 1, 1) := by decide +kernel
theorem dM_lookAtEdges_3 : decode cM_lookAtEdges 3 = .ok (.bipush 40, 2) := by decide +kernel
theorem dM_lookAtEdges_5 : decode cM_lookAtEdges 5 = .ok (.if_icmp .ge 105, 3) := by decide +kernel
theorem dM_lookAtEdges_8 : decode cM_lookAtEdges 8 = .ok (.aload_n 0, 1) := by decide +kernel
theorem dM_lookAtEdges_9 : decode cM_lookAtEdges 9 = .ok (.getfield 29, 3) := by decide +kernel
theorem dM_lookAtEdges_12 : decode cM_lookAtEdges 12 = .ok (.iload_n 1, 1) := by decide +kernel
theorem dM_lookAtEdges_13 : decode cM_lookAtEdges 13 = .ok (.lconst 0, 1) := by decide +kernel
theorem dM_lookAtEdges_14 : decode cM_lookAtEdges 14 = .ok (.lastore, 1) := by decide +kernel
theorem dM_lookAtEdges_15 : decode cM_lookAtEdges 15 = .ok (.iconst 0, 1) := by decide +kernel
theorem dM_lookAtEdges_16 : decode cM_lookAtEdges 16 = .ok (.istore_n 2, 1) := by decide +kernel
theorem dM_lookAtEdges_17 : decode cM_lookAtEdges 17 = .ok (.iload_n 2, 1) := by decide +kernel
theorem dM_lookAtEdges_18 : decode cM_lookAtEdges 18 = .ok (.bipush 40, 2) := by decide +kernel
theorem dM_lookAtEdges_20 : decode cM_lookAtEdges 20 = .ok (.if_icmp .ge 84, 3) := by decide +kernel
theorem dM_lookAtEdges_23 : decode cM_lookAtEdges 23 = .ok (.iconst 0, 1) := by decide +kernel
theorem dM_lookAtEdges_24 : decode cM_lookAtEdges 24 = .ok (.istore_n 3, 1) := by decide +kernel
theorem dM_lookAtEdges_25 : decode cM_lookAtEdges 25 = .ok (.iload_n 3, 1) := by decide +kernel
theorem dM_lookAtEdges_26 : decode cM_lookAtEdges 26 = .ok (.bipush 40, 2) := by decide +kernel
theorem dM_lookAtEdges_28 : decode cM_lookAtEdges 28 = .ok (.if_icmp .ge 70, 3) := by decide +kernel
theorem dM_lookAtEdges_31 : decode cM_lookAtEdges 31 = .ok (.aload_n 0, 1) := by decide +kernel
theorem dM_lookAtEdges_32 : decode cM_lookAtEdges 32 = .ok (.getfield 20, 3) := by decide +kernel
theorem dM_lookAtEdges_35 : decode cM_lookAtEdges 35 = .ok (.iload_n 2, 1) := by decide +kernel
theorem dM_lookAtEdges_36 : decode cM_lookAtEdges 36 = .ok (.laload, 1) := by decide +kernel
theorem dM_lookAtEdges_37 : decode cM_lookAtEdges 37 = .ok (.iload_n 1, 1) := by decide +kernel
theorem dM_lookAtEdges_38 : decode cM_lookAtEdges 38 = .ok (.invokestatic 36, 3) := by decide +kernel
theorem dM_lookAtEdges_41 : decode cM_lookAtEdges 41 = .ok (.ifCond .eq 57, 3) := by decide +kernel
theorem dM_lookAtEdges_44 : decode cM_lookAtEdges 44 = .ok (.aload_n 0, 1) := by decide +kernel
theorem dM_lookAtEdges_45 : decode cM_lookAtEdges 45 = .ok (.getfield 16, 3) := by decide +kernel
theorem dM_lookAtEdges_48 : decode cM_lookAtEdges 48 = .ok (.iload_n 2, 1) := by decide +kernel
theorem dM_lookAtEdges_49 : decode cM_lookAtEdges 49 = .ok (.laload, 1) := by decide +kernel
theorem dM_lookAtEdges_50 : decode cM_lookAtEdges 50 = .ok (.iload_n 3, 1) := by decide +kernel
theorem dM_lookAtEdges_51 : decode cM_lookAtEdges 51 = .ok (.invokestatic 36, 3) := by decide +kernel
theorem dM_lookAtEdges_54 : decode cM_lookAtEdges 54 = .ok (.ifCond .eq 38, 3) := by decide +kernel
theorem dM_lookAtEdges_57 : decode cM_lookAtEdges 57 = .ok (.aload_n 0, 1) := by decide +kernel
theorem dM_lookAtEdges_58 : decode cM_lookAtEdges 58 = .ok (.getfield 20, 3) := by decide +kernel
theorem dM_lookAtEdges_61 : decode cM_lookAtEdges 61 = .ok (.iload_n 3, 1) := by decide +kernel
theorem dM_lookAtEdges_62 : decode cM_lookAtEdges 62 = .ok (.laload, 1) := by decide +kernel
theorem dM_lookAtEdges_63 : decode cM_lookAtEdges 63 = .ok (.iload_n 1, 1) := by decide +kernel
theorem dM_lookAtEdges_64 : decode cM_lookAtEdges 64 = .ok (.invokestatic 36, 3) := by decide +kernel
theorem dM_lookAtEdges_67 : decode cM_lookAtEdges 67 = .ok (.ifCond .eq 8, 3) := by decide +kernel
theorem dM_lookAtEdges_70 : decode cM_lookAtEdges 70 = .ok (.iload_n 3, 1) := by decide +kernel
theorem dM_lookAtEdges_71 : decode cM_lookAtEdges 71 = .ok (.iload_n 1, 1) := by decide +kernel
theorem dM_lookAtEdges_72 : decode cM_lookAtEdges 72 = .ok (.if_icmp .ne 20, 3) := by decide +kernel
theorem dM_lookAtEdges_75 : decode cM_lookAtEdges 75 = .ok (.aload_n 0, 1) := by decide +kernel
theorem dM_lookAtEdges_76 : decode cM_lookAtEdges 76 = .ok (.getfield 29, 3) := by decide +kernel
theorem dM_lookAtEdges_79 : decode cM_lookAtEdges 79 = .ok (.iload_n 1, 1) := by decide +kernel
theorem dM_lookAtEdges_80 : decode cM_lookAtEdges 80 = .ok (.aload_n 0, 1) := by decide +kernel
theorem dM_lookAtEdges_81 : decode cM_lookAtEdges 81 = .ok (.getfield 29, 3) := by decide +kernel
theorem dM_lookAtEdges_84 : decode cM_lookAtEdges 84 = .ok (.iload_n 1, 1) := by decide +kernel
theorem dM_lookAtEdges_85 : decode cM_lookAtEdges 85 = .ok (.laload, 1) := by decide +kernel
theorem dM_lookAtEdges_86 : decode cM_lookAtEdges 86 = .ok (.iload_n 3, 1) := by decide +kernel
theorem dM_lookAtEdges_87 : decode cM_lookAtEdges 87 = .ok (.invokestatic 48, 3) := by decide +kernel
theorem dM_lookAtEdges_90 : decode cM_lookAtEdges 90 = .ok (.lor, 1) := by decide +kernel
theorem dM_lookAtEdges_91 : decode cM_lookAtEdges 91 = .ok (.lastore, 1) := by decide +kernel
theorem dM_lookAtEdges_92 : decode cM_lookAtEdges 92 = .ok (.iinc 3 1, 3) := by decide +kernel
theorem dM_lookAtEdges_95 : decode cM_lookAtEdges 95 = .ok (.goto (-70), 3) := by decide +kernel
theorem dM_lookAtEdges_98 : decode cM_lookAtEdges 98 = .ok (.iinc 2 1, 3) := by decide +kernel
theorem dM_lookAtEdges_101 : decode cM_lookAtEdges 101 = .ok (.goto (-84), 3) := by decide +kernel
theorem dM_lookAtEdges_104 : decode cM_lookAtEdges 104 = .ok (.iinc 1 1, 3) := by decide +kernel
theorem dM_lookAtEdges_107 : decode cM_lookAtEdges 107 = .ok (.goto (-105), 3) := by decide +kernel
theorem dM_lookAtEdges_110 : decode cM_lookAtEdges 110 = .ok (.return_, 1) := by decide +kernel
theorem dM_sizeOf_0 : decode cM_sizeOf 0 = .ok (.iconst 0, 1) := by decide +kernel
theorem dM_sizeOf_1 : decode cM_sizeOf 1 = .ok (.istore_n 2, 1) := by decide +kernel
theorem dM_sizeOf_2 : decode cM_sizeOf 2 = .ok (.iconst 0, 1) := by decide +kernel
theorem dM_sizeOf_3 : decode cM_sizeOf 3 = .ok (.istore_n 3, 1) := by decide +kernel
theorem dM_sizeOf_4 : decode cM_sizeOf 4 = .ok (.iload_n 3, 1) := by decide +kernel
theorem dM_sizeOf_5 : decode cM_sizeOf 5 = .ok (.bipush 40, 2) := by decide +kernel
theorem dM_sizeOf_7 : decode cM_sizeOf 7 = .ok (.if_icmp .ge 25, 3) := by decide +kernel
theorem dM_sizeOf_10 : decode cM_sizeOf 10 = .ok (.iload_n 2, 1) := by decide +kernel
theorem dM_sizeOf_11 : decode cM_sizeOf 11 = .ok (.lload_n 0, 1) := by decide +kernel
theorem dM_sizeOf_12 : decode cM_sizeOf 12 = .ok (.iload_n 3, 1) := by decide +kernel
theorem dM_sizeOf_13 : decode cM_sizeOf 13 = .ok (.invokestatic 36, 3) := by decide +kernel
theorem dM_sizeOf_16 : decode cM_sizeOf 16 = .ok (.ifCond .eq 7, 3) := by decide +kernel
theorem dM_sizeOf_19 : decode cM_sizeOf 19 = .ok (.iconst 1, 1) := by decide +kernel
theorem dM_sizeOf_20 : decode cM_sizeOf 20 = .ok (.goto 4, 3) := by decide +kernel
theorem dM_sizeOf_23 : decode cM_sizeOf 23 = .ok (.iconst 0, 1) := by decide +kernel
theorem dM_sizeOf_24 : decode cM_sizeOf 24 = .ok (.iadd, 1) := by decide +kernel
theorem dM_sizeOf_25 : decode cM_sizeOf 25 = .ok (.istore_n 2, 1) := by decide +kernel
theorem dM_sizeOf_26 : decode cM_sizeOf 26 = .ok (.iinc 3 1, 3) := by decide +kernel
theorem dM_sizeOf_29 : decode cM_sizeOf 29 = .ok (.goto (-25), 3) := by decide +kernel
theorem dM_sizeOf_32 : decode cM_sizeOf 32 = .ok (.iload_n 2, 1) := by decide +kernel
theorem dM_sizeOf_33 : decode cM_sizeOf 33 = .ok (.ireturn, 1) := by decide +kernel
theorem dM_in_0 : decode cM_in 0 = .ok (.iconst 0, 1) := by decide +kernel
theorem dM_in_1 : decode cM_in 1 = .ok (.istore_n 2, 1) := by decide +kernel
theorem dM_in_2 : decode cM_in 2 = .ok (.iconst 0, 1) := by decide +kernel
theorem dM_in_3 : decode cM_in 3 = .ok (.istore_n 3, 1) := by decide +kernel
theorem dM_in_4 : decode cM_in 4 = .ok (.iload_n 3, 1) := by decide +kernel
theorem dM_in_5 : decode cM_in 5 = .ok (.bipush 40, 2) := by decide +kernel
theorem dM_in_7 : decode cM_in 7 = .ok (.if_icmp .ge 30, 3) := by decide +kernel
theorem dM_in_10 : decode cM_in 10 = .ok (.iload_n 2, 1) := by decide +kernel
theorem dM_in_11 : decode cM_in 11 = .ok (.aload_n 0, 1) := by decide +kernel
theorem dM_in_12 : decode cM_in 12 = .ok (.getfield 26, 3) := by decide +kernel
theorem dM_in_15 : decode cM_in 15 = .ok (.iload_n 3, 1) := by decide +kernel
theorem dM_in_16 : decode cM_in 16 = .ok (.laload, 1) := by decide +kernel
theorem dM_in_17 : decode cM_in 17 = .ok (.iload_n 1, 1) := by decide +kernel
theorem dM_in_18 : decode cM_in 18 = .ok (.invokestatic 36, 3) := by decide +kernel
theorem dM_in_21 : decode cM_in 21 = .ok (.ifCond .eq 7, 3) := by decide +kernel
theorem dM_in_24 : decode cM_in 24 = .ok (.iconst 1, 1) := by decide +kernel
theorem dM_in_25 : decode cM_in 25 = .ok (.goto 4, 3) := by decide +kernel
theorem dM_in_28 : decode cM_in 28 = .ok (.iconst 0, 1) := by decide +kernel
theorem dM_in_29 : decode cM_in 29 = .ok (.iadd, 1) := by decide +kernel
theorem dM_in_30 : decode cM_in 30 = .ok (.istore_n 2, 1) := by decide +kernel
theorem dM_in_31 : decode cM_in 31 = .ok (.iinc 3 1, 3) := by decide +kernel
theorem dM_in_34 : decode cM_in 34 = .ok (.goto (-30), 3) := by decide +kernel
theorem dM_in_37 : decode cM_in 37 = .ok (.iload_n 2, 1) := by decide +kernel
theorem dM_in_38 : decode cM_in 38 = .ok (.ireturn, 1) := by decide +kernel
theorem dM_lid_0 : decode cM_lid 0 = .ok (.aload_n 0, 1) := by decide +kernel
theorem dM_lid_1 : decode cM_lid 1 = .ok (.iconst 0, 1) := by decide +kernel
theorem dM_lid_2 : decode cM_lid 2 = .ok (.putfield 32, 3) := by decide +kernel
theorem dM_lid_5 : decode cM_lid 5 = .ok (.aload_n 0, 1) := by decide +kernel
theorem dM_lid_6 : decode cM_lid 6 = .ok (.invokevirtual 86, 3) := by decide +kernel
theorem dM_lid_9 : decode cM_lid 9 = .ok (.iload_n 1, 1) := by decide +kernel
theorem dM_lid_10 : decode cM_lid 10 = .ok (.invokestatic 40, 3) := by decide +kernel
theorem dM_lid_13 : decode cM_lid 13 = .ok (.ifCond .eq 14, 3) := by decide +kernel
theorem dM_lid_16 : decode cM_lid 16 = .ok (.aload_n 0, 1) := by decide +kernel
theorem dM_lid_17 : decode cM_lid 17 = .ok (.getfield 20, 3) := by decide +kernel
theorem dM_lid_20 : decode cM_lid 20 = .ok (.iload_n 1, 1) := by decide +kernel
theorem dM_lid_21 : decode cM_lid 21 = .ok (.invokestatic 97, 3) := by decide +kernel
theorem dM_lid_24 : decode cM_lid 24 = .ok (.goto 4, 3) := by decide +kernel
theorem dM_lid_27 : decode cM_lid 27 = .ok (.iconst (-1), 1) := by decide +kernel
theorem dM_lid_28 : decode cM_lid 28 = .ok (.ireturn, 1) := by decide +kernel
theorem dM_nearest_0 : decode cM_nearest 0 = .ok (.aload_n 0, 1) := by decide +kernel
theorem dM_nearest_1 : decode cM_nearest 1 = .ok (.iload_n 1, 1) := by decide +kernel
theorem dM_nearest_2 : decode cM_nearest 2 = .ok (.laload, 1) := by decide +kernel
theorem dM_nearest_3 : decode cM_nearest 3 = .ok (.iload_n 1, 1) := by decide +kernel
theorem dM_nearest_4 : decode cM_nearest 4 = .ok (.invokestatic 48, 3) := by decide +kernel
theorem dM_nearest_7 : decode cM_nearest 7 = .ok (.ldc2_w 56, 3) := by decide +kernel
theorem dM_nearest_10 : decode cM_nearest 10 = .ok (.lxor, 1) := by decide +kernel
theorem dM_nearest_11 : decode cM_nearest 11 = .ok (.land, 1) := by decide +kernel
theorem dM_nearest_12 : decode cM_nearest 12 = .ok (.lstore_n 2, 1) := by decide +kernel
theorem dM_nearest_13 : decode cM_nearest 13 = .ok (.iconst 0, 1) := by decide +kernel
theorem dM_nearest_14 : decode cM_nearest 14 = .ok (.istore 4, 2) := by decide +kernel
theorem dM_nearest_16 : decode cM_nearest 16 = .ok (.iload 4, 2) := by decide +kernel
theorem dM_nearest_18 : decode cM_nearest 18 = .ok (.bipush 40, 2) := by decide +kernel
theorem dM_nearest_20 : decode cM_nearest 20 = .ok (.if_icmp .ge 30, 3) := by decide +kernel
theorem dM_nearest_23 : decode cM_nearest 23 = .ok (.lload_n 2, 1) := by decide +kernel
theorem dM_nearest_24 : decode cM_nearest 24 = .ok (.iload 4, 2) := by decide +kernel
theorem dM_nearest_26 : decode cM_nearest 26 = .ok (.invokestatic 36, 3) := by decide +kernel
theorem dM_nearest_29 : decode cM_nearest 29 = .ok (.ifCond .eq 15, 3) := by decide +kernel
theorem dM_nearest_32 : decode cM_nearest 32 = .ok (.aload_n 0, 1) := by decide +kernel
theorem dM_nearest_33 : decode cM_nearest 33 = .ok (.iload 4, 2) := by decide +kernel
theorem dM_nearest_35 : decode cM_nearest 35 = .ok (.laload, 1) := by decide +kernel
theorem dM_nearest_36 : decode cM_nearest 36 = .ok (.lload_n 2, 1) := by decide +kernel
theorem dM_nearest_37 : decode cM_nearest 37 = .ok (.lcmp, 1) := by decide +kernel
theorem dM_nearest_38 : decode cM_nearest 38 = .ok (.ifCond .ne 6, 3) := by decide +kernel
theorem dM_nearest_41 : decode cM_nearest 41 = .ok (.iload 4, 2) := by decide +kernel
theorem dM_nearest_43 : decode cM_nearest 43 = .ok (.ireturn, 1) := by decide +kernel
theorem dM_nearest_44 : decode cM_nearest 44 = .ok (.iinc 4 1, 3) := by decide +kernel
theorem dM_nearest_47 : decode cM_nearest 47 = .ok (.goto (-31), 3) := by decide +kernel
theorem dM_nearest_50 : decode cM_nearest 50 = .ok (.iconst (-1), 1) := by decide +kernel
theorem dM_nearest_51 : decode cM_nearest 51 = .ok (.ireturn, 1) := by decide +kernel
theorem dM_meeting_0 : decode cM_meeting 0 = .ok (.aload_n 0, 1) := by decide +kernel
theorem dM_meeting_1 : decode cM_meeting 1 = .ok (.iconst 0, 1) := by decide +kernel
theorem dM_meeting_2 : decode cM_meeting 2 = .ok (.putfield 32, 3) := by decide +kernel
theorem dM_meeting_5 : decode cM_meeting 5 = .ok (.aload_n 0, 1) := by decide +kernel
theorem dM_meeting_6 : decode cM_meeting 6 = .ok (.invokevirtual 86, 3) := by decide +kernel
theorem dM_meeting_9 : decode cM_meeting 9 = .ok (.iload_n 1, 1) := by decide +kernel
theorem dM_meeting_10 : decode cM_meeting 10 = .ok (.invokestatic 40, 3) := by decide +kernel
theorem dM_meeting_13 : decode cM_meeting 13 = .ok (.ifCond .eq 14, 3) := by decide +kernel
theorem dM_meeting_16 : decode cM_meeting 16 = .ok (.aload_n 0, 1) := by decide +kernel
theorem dM_meeting_17 : decode cM_meeting 17 = .ok (.getfield 23, 3) := by decide +kernel
theorem dM_meeting_20 : decode cM_meeting 20 = .ok (.iload_n 1, 1) := by decide +kernel
theorem dM_meeting_21 : decode cM_meeting 21 = .ok (.invokestatic 97, 3) := by decide +kernel
theorem dM_meeting_24 : decode cM_meeting 24 = .ok (.goto 4, 3) := by decide +kernel
theorem dM_meeting_27 : decode cM_meeting 27 = .ok (.iconst (-1), 1) := by decide +kernel
theorem dM_meeting_28 : decode cM_meeting 28 = .ok (.ireturn, 1) := by decide +kernel
theorem dM_set_0 : decode cM_set 0 = .ok (.aload_n 0, 1) := by decide +kernel
theorem dM_set_1 : decode cM_set 1 = .ok (.iconst 0, 1) := by decide +kernel
theorem dM_set_2 : decode cM_set 2 = .ok (.putfield 32, 3) := by decide +kernel
theorem dM_set_5 : decode cM_set 5 = .ok (.iload_n 2, 1) := by decide +kernel
theorem dM_set_6 : decode cM_set 6 = .ok (.invokestatic 40, 3) := by decide +kernel
theorem dM_set_9 : decode cM_set 9 = .ok (.ifCond .ne 5, 3) := by decide +kernel
theorem dM_set_12 : decode cM_set 12 = .ok (.lconst 0, 1) := by decide +kernel
theorem dM_set_13 : decode cM_set 13 = .ok (.lreturn, 1) := by decide +kernel
theorem dM_set_14 : decode cM_set 14 = .ok (.aload_n 0, 1) := by decide +kernel
theorem dM_set_15 : decode cM_set 15 = .ok (.invokevirtual 86, 3) := by decide +kernel
theorem dM_set_18 : decode cM_set 18 = .ok (.iload_n 1, 1) := by decide +kernel
theorem dM_set_19 : decode cM_set 19 = .ok (.tableswitch 77 0 5 #[37, 44, 51, 58, 65, 71], 37) := by decide +kernel
theorem dM_set_56 : decode cM_set 56 = .ok (.aload_n 0, 1) := by decide +kernel
theorem dM_set_57 : decode cM_set 57 = .ok (.getfield 20, 3) := by decide +kernel
theorem dM_set_60 : decode cM_set 60 = .ok (.iload_n 2, 1) := by decide +kernel
theorem dM_set_61 : decode cM_set 61 = .ok (.laload, 1) := by decide +kernel
theorem dM_set_62 : decode cM_set 62 = .ok (.lreturn, 1) := by decide +kernel
theorem dM_set_63 : decode cM_set 63 = .ok (.aload_n 0, 1) := by decide +kernel
theorem dM_set_64 : decode cM_set 64 = .ok (.getfield 23, 3) := by decide +kernel
theorem dM_set_67 : decode cM_set 67 = .ok (.iload_n 2, 1) := by decide +kernel
theorem dM_set_68 : decode cM_set 68 = .ok (.laload, 1) := by decide +kernel
theorem dM_set_69 : decode cM_set 69 = .ok (.lreturn, 1) := by decide +kernel
theorem dM_set_70 : decode cM_set 70 = .ok (.aload_n 0, 1) := by decide +kernel
theorem dM_set_71 : decode cM_set 71 = .ok (.getfield 26, 3) := by decide +kernel
theorem dM_set_74 : decode cM_set 74 = .ok (.iload_n 2, 1) := by decide +kernel
theorem dM_set_75 : decode cM_set 75 = .ok (.laload, 1) := by decide +kernel
theorem dM_set_76 : decode cM_set 76 = .ok (.lreturn, 1) := by decide +kernel
theorem dM_set_77 : decode cM_set 77 = .ok (.aload_n 0, 1) := by decide +kernel
theorem dM_set_78 : decode cM_set 78 = .ok (.getfield 29, 3) := by decide +kernel
theorem dM_set_81 : decode cM_set 81 = .ok (.iload_n 2, 1) := by decide +kernel
theorem dM_set_82 : decode cM_set 82 = .ok (.laload, 1) := by decide +kernel
theorem dM_set_83 : decode cM_set 83 = .ok (.lreturn, 1) := by decide +kernel
theorem dM_set_84 : decode cM_set 84 = .ok (.aload_n 0, 1) := by decide +kernel
theorem dM_set_85 : decode cM_set 85 = .ok (.iload_n 2, 1) := by decide +kernel
theorem dM_set_86 : decode cM_set 86 = .ok (.invokevirtual 101, 3) := by decide +kernel
theorem dM_set_89 : decode cM_set 89 = .ok (.lreturn, 1) := by decide +kernel
theorem dM_set_90 : decode cM_set 90 = .ok (.aload_n 0, 1) := by decide +kernel
theorem dM_set_91 : decode cM_set 91 = .ok (.iload_n 2, 1) := by decide +kernel
theorem dM_set_92 : decode cM_set 92 = .ok (.invokevirtual 104, 3) := by decide +kernel
theorem dM_set_95 : decode cM_set 95 = .ok (.lreturn, 1) := by decide +kernel
theorem dM_set_96 : decode cM_set 96 = .ok (.lconst 0, 1) := by decide +kernel
theorem dM_set_97 : decode cM_set 97 = .ok (.lreturn, 1) := by decide +kernel
theorem dM_hangsOn_0 : decode cM_hangsOn 0 = .ok (.lconst 0, 1) := by decide +kernel
theorem dM_hangsOn_1 : decode cM_hangsOn 1 = .ok (.lstore_n 2, 1) := by decide +kernel
theorem dM_hangsOn_2 : decode cM_hangsOn 2 = .ok (.iconst 0, 1) := by decide +kernel
theorem dM_hangsOn_3 : decode cM_hangsOn 3 = .ok (.istore 4, 2) := by decide +kernel
theorem dM_hangsOn_5 : decode cM_hangsOn 5 = .ok (.iload 4, 2) := by decide +kernel
theorem dM_hangsOn_7 : decode cM_hangsOn 7 = .ok (.bipush 40, 2) := by decide +kernel
