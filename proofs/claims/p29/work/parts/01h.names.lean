theorem dL_orders_97 : decode cL_orders 97 = .ok (.invokestatic 73, 3) := by decide +kernel
theorem dL_orders_100 : decode cL_orders 100 = .ok (.pop, 1) := by decide +kernel
theorem dL_orders_101 : decode cL_orders 101 = .ok (.iload 4, 2) := by decide +kernel
theorem dL_orders_103 : decode cL_orders 103 = .ok (.ifCond .eq 10, 3) := by decide +kernel
theorem dL_orders_106 : decode cL_orders 106 = .ok (.aload_n 0, 1) := by decide +kernel
theorem dL_orders_107 : decode cL_orders 107 = .ok (.bipush 115, 2) := by decide +kernel
theorem dL_orders_109 : decode cL_orders 109 = .ok (.invokevirtual 63, 3) := by decide +kernel
theorem dL_orders_112 : decode cL_orders 112 = .ok (.pop, 1) := by decide +kernel
theorem dL_orders_113 : decode cL_orders 113 = .ok (.aload_n 0, 1) := by decide +kernel
theorem dL_orders_114 : decode cL_orders 114 = .ok (.bipush 116, 2) := by decide +kernel
theorem dL_orders_116 : decode cL_orders 116 = .ok (.invokevirtual 63, 3) := by decide +kernel
theorem dL_orders_119 : decode cL_orders 119 = .ok (.istore 8, 2) := by decide +kernel
theorem dL_orders_121 : decode cL_orders 121 = .ok (.iload 7, 2) := by decide +kernel
theorem dL_orders_123 : decode cL_orders 123 = .ok (.ifCond .eq 19, 3) := by decide +kernel
theorem dL_orders_126 : decode cL_orders 126 = .ok (.aload_n 0, 1) := by decide +kernel
theorem dL_orders_127 : decode cL_orders 127 = .ok (.invokevirtual 70, 3) := by decide +kernel
theorem dL_orders_130 : decode cL_orders 130 = .ok (.bipush (-100), 2) := by decide +kernel
theorem dL_orders_132 : decode cL_orders 132 = .ok (.iload 8, 2) := by decide +kernel
theorem dL_orders_134 : decode cL_orders 134 = .ok (.isub, 1) := by decide +kernel
theorem dL_orders_135 : decode cL_orders 135 = .ok (.if_icmp .ne 7, 3) := by decide +kernel
theorem dL_orders_138 : decode cL_orders 138 = .ok (.iconst 1, 1) := by decide +kernel
theorem dL_orders_139 : decode cL_orders 139 = .ok (.goto 4, 3) := by decide +kernel
theorem dL_orders_142 : decode cL_orders 142 = .ok (.iconst 0, 1) := by decide +kernel
theorem dL_orders_143 : decode cL_orders 143 = .ok (.istore 7, 2) := by decide +kernel
theorem dL_orders_145 : decode cL_orders 145 = .ok (.aload_n 0, 1) := by decide +kernel
theorem dL_orders_146 : decode cL_orders 146 = .ok (.iload_n 3, 1) := by decide +kernel
theorem dL_orders_147 : decode cL_orders 147 = .ok (.invokestatic 73, 3) := by decide +kernel
theorem dL_orders_150 : decode cL_orders 150 = .ok (.istore 8, 2) := by decide +kernel
theorem dL_orders_152 : decode cL_orders 152 = .ok (.aload_n 0, 1) := by decide +kernel
theorem dL_orders_153 : decode cL_orders 153 = .ok (.iload_n 2, 1) := by decide +kernel
theorem dL_orders_154 : decode cL_orders 154 = .ok (.iconst 0, 1) := by decide +kernel
theorem dL_orders_155 : decode cL_orders 155 = .ok (.invokevirtual 29, 3) := by decide +kernel
theorem dL_orders_158 : decode cL_orders 158 = .ok (.ifCond .lt 7, 3) := by decide +kernel
theorem dL_orders_161 : decode cL_orders 161 = .ok (.iconst 1, 1) := by decide +kernel
theorem dL_orders_162 : decode cL_orders 162 = .ok (.goto 4, 3) := by decide +kernel
theorem dL_orders_165 : decode cL_orders 165 = .ok (.iconst 0, 1) := by decide +kernel
theorem dL_orders_166 : decode cL_orders 166 = .ok (.istore 9, 2) := by decide +kernel
theorem dL_orders_168 : decode cL_orders 168 = .ok (.iload 9, 2) := by decide +kernel
theorem dL_orders_170 : decode cL_orders 170 = .ok (.ifCond .eq 10, 3) := by decide +kernel
theorem dL_orders_173 : decode cL_orders 173 = .ok (.iload 5, 2) := by decide +kernel
theorem dL_orders_175 : decode cL_orders 175 = .ok (.bipush 40, 2) := by decide +kernel
theorem dL_orders_177 : decode cL_orders 177 = .ok (.if_icmp .ne 7, 3) := by decide +kernel
theorem dL_orders_180 : decode cL_orders 180 = .ok (.iconst 0, 1) := by decide +kernel
theorem dL_orders_181 : decode cL_orders 181 = .ok (.goto 4, 3) := by decide +kernel
theorem dL_orders_184 : decode cL_orders 184 = .ok (.iconst 2, 1) := by decide +kernel
theorem dL_orders_185 : decode cL_orders 185 = .ok (.istore 10, 2) := by decide +kernel
theorem dL_orders_187 : decode cL_orders 187 = .ok (.iload 7, 2) := by decide +kernel
theorem dL_orders_189 : decode cL_orders 189 = .ok (.ifCond .eq 56, 3) := by decide +kernel
theorem dL_orders_192 : decode cL_orders 192 = .ok (.aload_n 0, 1) := by decide +kernel
theorem dL_orders_193 : decode cL_orders 193 = .ok (.invokevirtual 70, 3) := by decide +kernel
theorem dL_orders_196 : decode cL_orders 196 = .ok (.iload 10, 2) := by decide +kernel
theorem dL_orders_198 : decode cL_orders 198 = .ok (.if_icmp .ne 47, 3) := by decide +kernel
theorem dL_orders_201 : decode cL_orders 201 = .ok (.aload_n 0, 1) := by decide +kernel
theorem dL_orders_202 : decode cL_orders 202 = .ok (.iconst 0, 1) := by decide +kernel
theorem dL_orders_203 : decode cL_orders 203 = .ok (.invokevirtual 9, 3) := by decide +kernel
theorem dL_orders_206 : decode cL_orders 206 = .ok (.iload 6, 2) := by decide +kernel
theorem dL_orders_208 : decode cL_orders 208 = .ok (.iload 10, 2) := by decide +kernel
theorem dL_orders_210 : decode cL_orders 210 = .ok (.iconst 2, 1) := by decide +kernel
theorem dL_orders_211 : decode cL_orders 211 = .ok (.if_icmp .ne 7, 3) := by decide +kernel
theorem dL_orders_214 : decode cL_orders 214 = .ok (.iload_n 3, 1) := by decide +kernel
theorem dL_orders_215 : decode cL_orders 215 = .ok (.goto 4, 3) := by decide +kernel
theorem dL_orders_218 : decode cL_orders 218 = .ok (.iconst 0, 1) := by decide +kernel
theorem dL_orders_219 : decode cL_orders 219 = .ok (.iadd, 1) := by decide +kernel
theorem dL_orders_220 : decode cL_orders 220 = .ok (.if_icmp .ne 25, 3) := by decide +kernel
theorem dL_orders_223 : decode cL_orders 223 = .ok (.aload_n 0, 1) := by decide +kernel
theorem dL_orders_224 : decode cL_orders 224 = .ok (.iconst 2, 1) := by decide +kernel
theorem dL_orders_225 : decode cL_orders 225 = .ok (.invokevirtual 9, 3) := by decide +kernel
theorem dL_orders_228 : decode cL_orders 228 = .ok (.iload 5, 2) := by decide +kernel
theorem dL_orders_230 : decode cL_orders 230 = .ok (.iload 10, 2) := by decide +kernel
theorem dL_orders_232 : decode cL_orders 232 = .ok (.iconst 2, 1) := by decide +kernel
theorem dL_orders_233 : decode cL_orders 233 = .ok (.if_icmp .ne 7, 3) := by decide +kernel
theorem dL_orders_236 : decode cL_orders 236 = .ok (.iconst 1, 1) := by decide +kernel
theorem dL_orders_237 : decode cL_orders 237 = .ok (.goto 4, 3) := by decide +kernel
theorem dL_orders_240 : decode cL_orders 240 = .ok (.iconst 0, 1) := by decide +kernel
theorem dL_orders_241 : decode cL_orders 241 = .ok (.iadd, 1) := by decide +kernel
theorem dL_orders_242 : decode cL_orders 242 = .ok (.if_icmp .eq 5, 3) := by decide +kernel
theorem dL_orders_245 : decode cL_orders 245 = .ok (.iconst 0, 1) := by decide +kernel
theorem dL_orders_246 : decode cL_orders 246 = .ok (.ireturn, 1) := by decide +kernel
theorem dL_orders_247 : decode cL_orders 247 = .ok (.iload 10, 2) := by decide +kernel
theorem dL_orders_249 : decode cL_orders 249 = .ok (.iconst 2, 1) := by decide +kernel
theorem dL_orders_250 : decode cL_orders 250 = .ok (.if_icmp .ne 36, 3) := by decide +kernel
theorem dL_orders_253 : decode cL_orders 253 = .ok (.aload_n 0, 1) := by decide +kernel
theorem dL_orders_254 : decode cL_orders 254 = .ok (.iload 5, 2) := by decide +kernel
theorem dL_orders_256 : decode cL_orders 256 = .ok (.iconst 1, 1) := by decide +kernel
theorem dL_orders_257 : decode cL_orders 257 = .ok (.invokevirtual 15, 3) := by decide +kernel
theorem dL_orders_260 : decode cL_orders 260 = .ok (.iload_n 2, 1) := by decide +kernel
theorem dL_orders_261 : decode cL_orders 261 = .ok (.if_icmp .ne 23, 3) := by decide +kernel
theorem dL_orders_264 : decode cL_orders 264 = .ok (.aload_n 0, 1) := by decide +kernel
theorem dL_orders_265 : decode cL_orders 265 = .ok (.iload 5, 2) := by decide +kernel
theorem dL_orders_267 : decode cL_orders 267 = .ok (.iconst 2, 1) := by decide +kernel
theorem dL_orders_268 : decode cL_orders 268 = .ok (.invokevirtual 15, 3) := by decide +kernel
theorem dL_orders_271 : decode cL_orders 271 = .ok (.iload 4, 2) := by decide +kernel
theorem dL_orders_273 : decode cL_orders 273 = .ok (.ifCond .eq 7, 3) := by decide +kernel
theorem dL_orders_276 : decode cL_orders 276 = .ok (.iconst 1, 1) := by decide +kernel
theorem dL_orders_277 : decode cL_orders 277 = .ok (.goto 4, 3) := by decide +kernel
theorem dL_orders_280 : decode cL_orders 280 = .ok (.iconst 0, 1) := by decide +kernel
theorem dL_orders_281 : decode cL_orders 281 = .ok (.if_icmp .eq 5, 3) := by decide +kernel
theorem dL_orders_284 : decode cL_orders 284 = .ok (.iconst 0, 1) := by decide +kernel
theorem dL_orders_285 : decode cL_orders 285 = .ok (.ireturn, 1) := by decide +kernel
theorem dL_orders_286 : decode cL_orders 286 = .ok (.aload_n 0, 1) := by decide +kernel
theorem dL_orders_287 : decode cL_orders 287 = .ok (.bipush 120, 2) := by decide +kernel
theorem dL_orders_289 : decode cL_orders 289 = .ok (.invokevirtual 63, 3) := by decide +kernel
theorem dL_orders_292 : decode cL_orders 292 = .ok (.pop, 1) := by decide +kernel
theorem dL_orders_293 : decode cL_orders 293 = .ok (.aload_n 0, 1) := by decide +kernel
theorem dL_orders_294 : decode cL_orders 294 = .ok (.bipush 48, 2) := by decide +kernel
theorem dL_orders_296 : decode cL_orders 296 = .ok (.aload_n 0, 1) := by decide +kernel
theorem dL_orders_297 : decode cL_orders 297 = .ok (.iconst 1, 1) := by decide +kernel
theorem dL_orders_298 : decode cL_orders 298 = .ok (.invokevirtual 9, 3) := by decide +kernel
theorem dL_orders_301 : decode cL_orders 301 = .ok (.iadd, 1) := by decide +kernel
theorem dL_orders_302 : decode cL_orders 302 = .ok (.i2c, 1) := by decide +kernel
theorem dL_orders_303 : decode cL_orders 303 = .ok (.invokevirtual 63, 3) := by decide +kernel
theorem dL_orders_306 : decode cL_orders 306 = .ok (.pop, 1) := by decide +kernel
theorem dL_orders_307 : decode cL_orders 307 = .ok (.aload_n 0, 1) := by decide +kernel
theorem dL_orders_308 : decode cL_orders 308 = .ok (.invokevirtual 70, 3) := by decide +kernel
theorem dL_orders_311 : decode cL_orders 311 = .ok (.bipush (-101), 2) := by decide +kernel
theorem dL_orders_313 : decode cL_orders 313 = .ok (.iload 8, 2) := by decide +kernel
theorem dL_orders_315 : decode cL_orders 315 = .ok (.isub, 1) := by decide +kernel
theorem dL_orders_316 : decode cL_orders 316 = .ok (.if_icmp .ne 7, 3) := by decide +kernel
theorem dL_orders_319 : decode cL_orders 319 = .ok (.iconst 1, 1) := by decide +kernel
theorem dL_orders_320 : decode cL_orders 320 = .ok (.goto 4, 3) := by decide +kernel
theorem dL_orders_323 : decode cL_orders 323 = .ok (.iconst 0, 1) := by decide +kernel
theorem dL_orders_324 : decode cL_orders 324 = .ok (.istore 11, 2) := by decide +kernel
theorem dL_orders_326 : decode cL_orders 326 = .ok (.iload 11, 2) := by decide +kernel
theorem dL_orders_328 : decode cL_orders 328 = .ok (.ifCond .eq 34, 3) := by decide +kernel
theorem dL_orders_331 : decode cL_orders 331 = .ok (.aload_n 0, 1) := by decide +kernel
theorem dL_orders_332 : decode cL_orders 332 = .ok (.invokevirtual 47, 3) := by decide +kernel
theorem dL_orders_335 : decode cL_orders 335 = .ok (.ifCond .lt 27, 3) := by decide +kernel
theorem dL_orders_338 : decode cL_orders 338 = .ok (.aload_n 0, 1) := by decide +kernel
theorem dL_orders_339 : decode cL_orders 339 = .ok (.iconst 2, 1) := by decide +kernel
theorem dL_orders_340 : decode cL_orders 340 = .ok (.invokevirtual 9, 3) := by decide +kernel
theorem dL_orders_343 : decode cL_orders 343 = .ok (.iload 5, 2) := by decide +kernel
theorem dL_orders_345 : decode cL_orders 345 = .ok (.if_icmp .ne 17, 3) := by decide +kernel
theorem dL_orders_348 : decode cL_orders 348 = .ok (.aload_n 0, 1) := by decide +kernel
theorem dL_orders_349 : decode cL_orders 349 = .ok (.iconst 0, 1) := by decide +kernel
theorem dL_orders_350 : decode cL_orders 350 = .ok (.invokevirtual 9, 3) := by decide +kernel
theorem dL_orders_353 : decode cL_orders 353 = .ok (.iload 6, 2) := by decide +kernel
theorem dL_orders_355 : decode cL_orders 355 = .ok (.if_icmp .ne 7, 3) := by decide +kernel
theorem dL_orders_358 : decode cL_orders 358 = .ok (.iconst 1, 1) := by decide +kernel
theorem dL_orders_359 : decode cL_orders 359 = .ok (.goto 4, 3) := by decide +kernel
theorem dL_orders_362 : decode cL_orders 362 = .ok (.iconst 0, 1) := by decide +kernel
theorem dL_orders_363 : decode cL_orders 363 = .ok (.ireturn, 1) := by decide +kernel
theorem dL_errors_0 : decode cL_errors 0 = .ok (.aload_n 0, 1) := by decide +kernel
theorem dL_errors_1 : decode cL_errors 1 = .ok (.iconst 1, 1) := by decide +kernel
theorem dL_errors_2 : decode cL_errors 2 = .ok (.invokevirtual 9, 3) := by decide +kernel
theorem dL_errors_5 : decode cL_errors 5 = .ok (.istore_n 1, 1) := by decide +kernel
theorem dL_errors_6 : decode cL_errors 6 = .ok (.aload_n 0, 1) := by decide +kernel
theorem dL_errors_7 : decode cL_errors 7 = .ok (.iconst 2, 1) := by decide +kernel
theorem dL_errors_8 : decode cL_errors 8 = .ok (.invokevirtual 9, 3) := by decide +kernel
theorem dL_errors_11 : decode cL_errors 11 = .ok (.istore_n 2, 1) := by decide +kernel
theorem dL_errors_12 : decode cL_errors 12 = .ok (.aload_n 0, 1) := by decide +kernel
theorem dL_errors_13 : decode cL_errors 13 = .ok (.iconst 3, 1) := by decide +kernel
theorem dL_errors_14 : decode cL_errors 14 = .ok (.iconst 1, 1) := by decide +kernel
theorem dL_errors_15 : decode cL_errors 15 = .ok (.iconst 1, 1) := by decide +kernel
theorem dL_errors_16 : decode cL_errors 16 = .ok (.iconst 1, 1) := by decide +kernel
theorem dL_errors_17 : decode cL_errors 17 = .ok (.invokevirtual 76, 3) := by decide +kernel
theorem dL_errors_20 : decode cL_errors 20 = .ok (.bipush (-2), 2) := by decide +kernel
theorem dL_errors_22 : decode cL_errors 22 = .ok (.if_icmp .ne 155, 3) := by decide +kernel
theorem dL_errors_25 : decode cL_errors 25 = .ok (.aload_n 0, 1) := by decide +kernel
theorem dL_errors_26 : decode cL_errors 26 = .ok (.iconst 0, 1) := by decide +kernel
theorem dL_errors_27 : decode cL_errors 27 = .ok (.iconst 0, 1) := by decide +kernel
theorem dL_errors_28 : decode cL_errors 28 = .ok (.iconst 1, 1) := by decide +kernel
theorem dL_errors_29 : decode cL_errors 29 = .ok (.iconst 1, 1) := by decide +kernel
theorem dL_errors_30 : decode cL_errors 30 = .ok (.invokevirtual 76, 3) := by decide +kernel
theorem dL_errors_33 : decode cL_errors 33 = .ok (.bipush (-2), 2) := by decide +kernel
theorem dL_errors_35 : decode cL_errors 35 = .ok (.if_icmp .ne 142, 3) := by decide +kernel
theorem dL_errors_38 : decode cL_errors 38 = .ok (.aload_n 0, 1) := by decide +kernel
theorem dL_errors_39 : decode cL_errors 39 = .ok (.iconst 0, 1) := by decide +kernel
theorem dL_errors_40 : decode cL_errors 40 = .ok (.iconst 1, 1) := by decide +kernel
theorem dL_errors_41 : decode cL_errors 41 = .ok (.bipush 21, 2) := by decide +kernel
theorem dL_errors_43 : decode cL_errors 43 = .ok (.iconst 1, 1) := by decide +kernel
theorem dL_errors_44 : decode cL_errors 44 = .ok (.invokevirtual 76, 3) := by decide +kernel
theorem dL_errors_47 : decode cL_errors 47 = .ok (.bipush (-2), 2) := by decide +kernel
theorem dL_errors_49 : decode cL_errors 49 = .ok (.if_icmp .ne 128, 3) := by decide +kernel
theorem dL_errors_52 : decode cL_errors 52 = .ok (.aload_n 0, 1) := by decide +kernel
theorem dL_errors_53 : decode cL_errors 53 = .ok (.iconst 0, 1) := by decide +kernel
theorem dL_errors_54 : decode cL_errors 54 = .ok (.iconst 1, 1) := by decide +kernel
theorem dL_errors_55 : decode cL_errors 55 = .ok (.iconst 1, 1) := by decide +kernel
theorem dL_errors_56 : decode cL_errors 56 = .ok (.bipush 11, 2) := by decide +kernel
theorem dL_errors_58 : decode cL_errors 58 = .ok (.invokevirtual 76, 3) := by decide +kernel
theorem dL_errors_61 : decode cL_errors 61 = .ok (.bipush (-2), 2) := by decide +kernel
theorem dL_errors_63 : decode cL_errors 63 = .ok (.if_icmp .ne 114, 3) := by decide +kernel
theorem dL_errors_66 : decode cL_errors 66 = .ok (.aload_n 0, 1) := by decide +kernel
theorem dL_errors_67 : decode cL_errors 67 = .ok (.iload_n 1, 1) := by decide +kernel
theorem dL_errors_68 : decode cL_errors 68 = .ok (.iconst 0, 1) := by decide +kernel
theorem dL_errors_69 : decode cL_errors 69 = .ok (.invokevirtual 80, 3) := by decide +kernel
theorem dL_errors_72 : decode cL_errors 72 = .ok (.iconst (-1), 1) := by decide +kernel
theorem dL_errors_73 : decode cL_errors 73 = .ok (.if_icmp .ne 104, 3) := by decide +kernel
theorem dL_errors_76 : decode cL_errors 76 = .ok (.aload_n 0, 1) := by decide +kernel
theorem dL_errors_77 : decode cL_errors 77 = .ok (.iconst 0, 1) := by decide +kernel
theorem dL_errors_78 : decode cL_errors 78 = .ok (.iconst 3, 1) := by decide +kernel
theorem dL_errors_79 : decode cL_errors 79 = .ok (.invokevirtual 80, 3) := by decide +kernel
theorem dL_errors_82 : decode cL_errors 82 = .ok (.bipush (-2), 2) := by decide +kernel
theorem dL_errors_84 : decode cL_errors 84 = .ok (.if_icmp .ne 93, 3) := by decide +kernel
theorem dL_errors_87 : decode cL_errors 87 = .ok (.aload_n 0, 1) := by decide +kernel
theorem dL_errors_88 : decode cL_errors 88 = .ok (.iconst 0, 1) := by decide +kernel
theorem dL_errors_89 : decode cL_errors 89 = .ok (.invokevirtual 83, 3) := by decide +kernel
theorem dL_errors_92 : decode cL_errors 92 = .ok (.bipush (-2), 2) := by decide +kernel
theorem dL_errors_94 : decode cL_errors 94 = .ok (.if_icmp .ne 83, 3) := by decide +kernel
theorem dL_errors_97 : decode cL_errors 97 = .ok (.aload_n 0, 1) := by decide +kernel
theorem dL_errors_98 : decode cL_errors 98 = .ok (.bipush 41, 2) := by decide +kernel
theorem dL_errors_100 : decode cL_errors 100 = .ok (.invokevirtual 83, 3) := by decide +kernel
theorem dL_errors_103 : decode cL_errors 103 = .ok (.bipush (-2), 2) := by decide +kernel
theorem dL_errors_105 : decode cL_errors 105 = .ok (.if_icmp .ne 72, 3) := by decide +kernel
theorem dL_errors_108 : decode cL_errors 108 = .ok (.aload_n 0, 1) := by decide +kernel
theorem dL_errors_109 : decode cL_errors 109 = .ok (.iconst 4, 1) := by decide +kernel
theorem dL_errors_110 : decode cL_errors 110 = .ok (.iconst 1, 1) := by decide +kernel
theorem dL_errors_111 : decode cL_errors 111 = .ok (.invokevirtual 86, 3) := by decide +kernel
theorem dL_errors_114 : decode cL_errors 114 = .ok (.iconst (-1), 1) := by decide +kernel
theorem dL_errors_115 : decode cL_errors 115 = .ok (.if_icmp .ne 62, 3) := by decide +kernel
theorem dL_errors_118 : decode cL_errors 118 = .ok (.aload_n 0, 1) := by decide +kernel
theorem dL_errors_119 : decode cL_errors 119 = .ok (.iconst 0, 1) := by decide +kernel
theorem dL_errors_120 : decode cL_errors 120 = .ok (.iconst 0, 1) := by decide +kernel
theorem dL_errors_121 : decode cL_errors 121 = .ok (.invokevirtual 86, 3) := by decide +kernel
theorem dL_errors_124 : decode cL_errors 124 = .ok (.bipush (-2), 2) := by decide +kernel
theorem dL_errors_126 : decode cL_errors 126 = .ok (.if_icmp .ne 51, 3) := by decide +kernel
theorem dL_errors_129 : decode cL_errors 129 = .ok (.aload_n 0, 1) := by decide +kernel
theorem dL_errors_130 : decode cL_errors 130 = .ok (.iconst 0, 1) := by decide +kernel
theorem dL_errors_131 : decode cL_errors 131 = .ok (.ldc 89, 2) := by decide +kernel
theorem dL_errors_133 : decode cL_errors 133 = .ok (.invokevirtual 86, 3) := by decide +kernel
theorem dL_errors_136 : decode cL_errors 136 = .ok (.bipush (-2), 2) := by decide +kernel
theorem dL_errors_138 : decode cL_errors 138 = .ok (.if_icmp .ne 39, 3) := by decide +kernel
theorem dL_errors_141 : decode cL_errors 141 = .ok (.aload_n 0, 1) := by decide +kernel
theorem dL_errors_142 : decode cL_errors 142 = .ok (.iconst 4, 1) := by decide +kernel
theorem dL_errors_143 : decode cL_errors 143 = .ok (.invokevirtual 90, 3) := by decide +kernel
theorem dL_errors_146 : decode cL_errors 146 = .ok (.iconst (-1), 1) := by decide +kernel
theorem dL_errors_147 : decode cL_errors 147 = .ok (.if_icmp .ne 30, 3) := by decide +kernel
theorem dL_errors_150 : decode cL_errors 150 = .ok (.aload_n 0, 1) := by decide +kernel
theorem dL_errors_151 : decode cL_errors 151 = .ok (.bipush 12, 2) := by decide +kernel
theorem dL_errors_153 : decode cL_errors 153 = .ok (.iconst 1, 1) := by decide +kernel
theorem dL_errors_154 : decode cL_errors 154 = .ok (.invokevirtual 93, 3) := by decide +kernel
theorem dL_errors_157 : decode cL_errors 157 = .ok (.iconst (-1), 1) := by decide +kernel
theorem dL_errors_158 : decode cL_errors 158 = .ok (.if_icmp .ne 19, 3) := by decide +kernel
theorem dL_errors_161 : decode cL_errors 161 = .ok (.aload_n 0, 1) := by decide +kernel
theorem dL_errors_162 : decode cL_errors 162 = .ok (.sipush 1001, 3) := by decide +kernel
theorem dL_errors_165 : decode cL_errors 165 = .ok (.invokevirtual 97, 3) := by decide +kernel
theorem dL_errors_168 : decode cL_errors 168 = .ok (.bipush (-2), 2) := by decide +kernel
theorem dL_errors_170 : decode cL_errors 170 = .ok (.if_icmp .ne 7, 3) := by decide +kernel
theorem dL_errors_173 : decode cL_errors 173 = .ok (.iconst 1, 1) := by decide +kernel
theorem dL_errors_174 : decode cL_errors 174 = .ok (.goto 4, 3) := by decide +kernel
theorem dL_errors_177 : decode cL_errors 177 = .ok (.iconst 0, 1) := by decide +kernel
theorem dL_errors_178 : decode cL_errors 178 = .ok (.istore_n 3, 1) := by decide +kernel
theorem dL_errors_179 : decode cL_errors 179 = .ok (.iload_n 3, 1) := by decide +kernel
theorem dL_errors_180 : decode cL_errors 180 = .ok (.ifCond .eq 185, 3) := by decide +kernel
theorem dL_errors_183 : decode cL_errors 183 = .ok (.aload_n 0, 1) := by decide +kernel
theorem dL_errors_184 : decode cL_errors 184 = .ok (.iload_n 1, 1) := by decide +kernel
theorem dL_errors_185 : decode cL_errors 185 = .ok (.iconst (-1), 1) := by decide +kernel
theorem dL_errors_186 : decode cL_errors 186 = .ok (.iconst 0, 1) := by decide +kernel
theorem dL_errors_187 : decode cL_errors 187 = .ok (.invokevirtual 100, 3) := by decide +kernel
theorem dL_errors_190 : decode cL_errors 190 = .ok (.iconst (-1), 1) := by decide +kernel
theorem dL_errors_191 : decode cL_errors 191 = .ok (.if_icmp .ne 174, 3) := by decide +kernel
theorem dL_errors_194 : decode cL_errors 194 = .ok (.aload_n 0, 1) := by decide +kernel
theorem dL_errors_195 : decode cL_errors 195 = .ok (.iconst 0, 1) := by decide +kernel
theorem dL_errors_196 : decode cL_errors 196 = .ok (.bipush 12, 2) := by decide +kernel
theorem dL_errors_198 : decode cL_errors 198 = .ok (.iconst 0, 1) := by decide +kernel
theorem dL_errors_199 : decode cL_errors 199 = .ok (.invokevirtual 100, 3) := by decide +kernel
theorem dL_errors_202 : decode cL_errors 202 = .ok (.iconst (-1), 1) := by decide +kernel
theorem dL_errors_203 : decode cL_errors 203 = .ok (.if_icmp .ne 162, 3) := by decide +kernel
theorem dL_errors_206 : decode cL_errors 206 = .ok (.aload_n 0, 1) := by decide +kernel
theorem dL_errors_207 : decode cL_errors 207 = .ok (.iconst 0, 1) := by decide +kernel
theorem dL_errors_208 : decode cL_errors 208 = .ok (.bipush (-2), 2) := by decide +kernel
theorem dL_errors_210 : decode cL_errors 210 = .ok (.iconst 0, 1) := by decide +kernel
theorem dL_errors_211 : decode cL_errors 211 = .ok (.invokevirtual 100, 3) := by decide +kernel
theorem dL_errors_214 : decode cL_errors 214 = .ok (.iconst (-1), 1) := by decide +kernel
theorem dL_errors_215 : decode cL_errors 215 = .ok (.if_icmp .ne 150, 3) := by decide +kernel
theorem dL_errors_218 : decode cL_errors 218 = .ok (.aload_n 0, 1) := by decide +kernel
theorem dL_errors_219 : decode cL_errors 219 = .ok (.iload_n 1, 1) := by decide +kernel
theorem dL_errors_220 : decode cL_errors 220 = .ok (.iconst 0, 1) := by decide +kernel
theorem dL_errors_221 : decode cL_errors 221 = .ok (.invokevirtual 104, 3) := by decide +kernel
theorem dL_errors_224 : decode cL_errors 224 = .ok (.iconst (-1), 1) := by decide +kernel
theorem dL_errors_225 : decode cL_errors 225 = .ok (.if_icmp .ne 140, 3) := by decide +kernel
theorem dL_errors_228 : decode cL_errors 228 = .ok (.aload_n 0, 1) := by decide +kernel
theorem dL_errors_229 : decode cL_errors 229 = .ok (.iconst 0, 1) := by decide +kernel
theorem dL_errors_230 : decode cL_errors 230 = .ok (.iload_n 2, 1) := by decide +kernel
theorem dL_errors_231 : decode cL_errors 231 = .ok (.invokevirtual 104, 3) := by decide +kernel
theorem dL_errors_234 : decode cL_errors 234 = .ok (.iconst (-1), 1) := by decide +kernel
theorem dL_errors_235 : decode cL_errors 235 = .ok (.if_icmp .ne 130, 3) := by decide +kernel
theorem dL_errors_238 : decode cL_errors 238 = .ok (.aload_n 0, 1) := by decide +kernel
theorem dL_errors_239 : decode cL_errors 239 = .ok (.iconst 0, 1) := by decide +kernel
theorem dL_errors_240 : decode cL_errors 240 = .ok (.iload_n 1, 1) := by decide +kernel
theorem dL_errors_241 : decode cL_errors 241 = .ok (.invokevirtual 60, 3) := by decide +kernel
theorem dL_errors_244 : decode cL_errors 244 = .ok (.iconst (-1), 1) := by decide +kernel
theorem dL_errors_245 : decode cL_errors 245 = .ok (.if_icmp .ne 120, 3) := by decide +kernel
theorem dL_errors_248 : decode cL_errors 248 = .ok (.aload_n 0, 1) := by decide +kernel
theorem dL_errors_249 : decode cL_errors 249 = .ok (.iload_n 1, 1) := by decide +kernel
theorem dL_errors_250 : decode cL_errors 250 = .ok (.invokevirtual 54, 3) := by decide +kernel
theorem dL_errors_253 : decode cL_errors 253 = .ok (.iconst (-1), 1) := by decide +kernel
theorem dL_errors_254 : decode cL_errors 254 = .ok (.if_icmp .ne 111, 3) := by decide +kernel
theorem dL_errors_257 : decode cL_errors 257 = .ok (.aload_n 0, 1) := by decide +kernel
theorem dL_errors_258 : decode cL_errors 258 = .ok (.iconst (-1), 1) := by decide +kernel
theorem dL_errors_259 : decode cL_errors 259 = .ok (.invokevirtual 51, 3) := by decide +kernel
theorem dL_errors_262 : decode cL_errors 262 = .ok (.iconst (-1), 1) := by decide +kernel
theorem dL_errors_263 : decode cL_errors 263 = .ok (.if_icmp .ne 102, 3) := by decide +kernel
theorem dL_errors_266 : decode cL_errors 266 = .ok (.aload_n 0, 1) := by decide +kernel
theorem dL_errors_267 : decode cL_errors 267 = .ok (.iload_n 1, 1) := by decide +kernel
theorem dL_errors_268 : decode cL_errors 268 = .ok (.invokevirtual 57, 3) := by decide +kernel
theorem dL_errors_271 : decode cL_errors 271 = .ok (.iconst (-1), 1) := by decide +kernel
theorem dL_errors_272 : decode cL_errors 272 = .ok (.if_icmp .ne 93, 3) := by decide +kernel
theorem dL_errors_275 : decode cL_errors 275 = .ok (.aload_n 0, 1) := by decide +kernel
theorem dL_errors_276 : decode cL_errors 276 = .ok (.iconst 0, 1) := by decide +kernel
theorem dL_errors_277 : decode cL_errors 277 = .ok (.invokevirtual 38, 3) := by decide +kernel
theorem dL_errors_280 : decode cL_errors 280 = .ok (.bipush (-2), 2) := by decide +kernel
theorem dL_errors_282 : decode cL_errors 282 = .ok (.if_icmp .ne 83, 3) := by decide +kernel
theorem dL_errors_285 : decode cL_errors 285 = .ok (.aload_n 0, 1) := by decide +kernel
theorem dL_errors_286 : decode cL_errors 286 = .ok (.sipush 201, 3) := by decide +kernel
theorem dL_errors_289 : decode cL_errors 289 = .ok (.invokevirtual 38, 3) := by decide +kernel
theorem dL_errors_292 : decode cL_errors 292 = .ok (.bipush (-2), 2) := by decide +kernel
theorem dL_errors_294 : decode cL_errors 294 = .ok (.if_icmp .ne 71, 3) := by decide +kernel
theorem dL_errors_297 : decode cL_errors 297 = .ok (.aload_n 0, 1) := by decide +kernel
theorem dL_errors_298 : decode cL_errors 298 = .ok (.iload_n 1, 1) := by decide +kernel
theorem dL_errors_299 : decode cL_errors 299 = .ok (.iconst 0, 1) := by decide +kernel
theorem dL_errors_300 : decode cL_errors 300 = .ok (.invokevirtual 19, 3) := by decide +kernel
theorem dL_errors_303 : decode cL_errors 303 = .ok (.iconst (-1), 1) := by decide +kernel
theorem dL_errors_304 : decode cL_errors 304 = .ok (.if_icmp .ne 61, 3) := by decide +kernel
theorem dL_errors_307 : decode cL_errors 307 = .ok (.aload_n 0, 1) := by decide +kernel
theorem dL_errors_308 : decode cL_errors 308 = .ok (.iload_n 1, 1) := by decide +kernel
theorem dL_errors_309 : decode cL_errors 309 = .ok (.iconst 0, 1) := by decide +kernel
theorem dL_errors_310 : decode cL_errors 310 = .ok (.iconst 0, 1) := by decide +kernel
theorem dL_errors_311 : decode cL_errors 311 = .ok (.invokevirtual 22, 3) := by decide +kernel
theorem dL_errors_314 : decode cL_errors 314 = .ok (.iconst (-1), 1) := by decide +kernel
theorem dL_errors_315 : decode cL_errors 315 = .ok (.if_icmp .ne 50, 3) := by decide +kernel
theorem dL_errors_318 : decode cL_errors 318 = .ok (.aload_n 0, 1) := by decide +kernel
theorem dL_errors_319 : decode cL_errors 319 = .ok (.iconst (-1), 1) := by decide +kernel
theorem dL_errors_320 : decode cL_errors 320 = .ok (.iconst 0, 1) := by decide +kernel
theorem dL_errors_321 : decode cL_errors 321 = .ok (.invokevirtual 41, 3) := by decide +kernel
theorem dL_errors_324 : decode cL_errors 324 = .ok (.bipush (-2), 2) := by decide +kernel
theorem dL_errors_326 : decode cL_errors 326 = .ok (.if_icmp .ne 39, 3) := by decide +kernel
theorem dL_errors_329 : decode cL_errors 329 = .ok (.aload_n 0, 1) := by decide +kernel
theorem dL_errors_330 : decode cL_errors 330 = .ok (.iconst 0, 1) := by decide +kernel
theorem dL_errors_331 : decode cL_errors 331 = .ok (.iconst 4, 1) := by decide +kernel
theorem dL_errors_332 : decode cL_errors 332 = .ok (.invokevirtual 41, 3) := by decide +kernel
theorem dL_errors_335 : decode cL_errors 335 = .ok (.bipush (-2), 2) := by decide +kernel
theorem dL_errors_337 : decode cL_errors 337 = .ok (.if_icmp .ne 28, 3) := by decide +kernel
theorem dL_errors_340 : decode cL_errors 340 = .ok (.aload_n 0, 1) := by decide +kernel
theorem dL_errors_341 : decode cL_errors 341 = .ok (.bipush 20, 2) := by decide +kernel
theorem dL_errors_343 : decode cL_errors 343 = .ok (.iconst 0, 1) := by decide +kernel
theorem dL_errors_344 : decode cL_errors 344 = .ok (.invokevirtual 41, 3) := by decide +kernel
theorem dL_errors_347 : decode cL_errors 347 = .ok (.bipush (-5), 2) := by decide +kernel
theorem dL_errors_349 : decode cL_errors 349 = .ok (.if_icmp .ne 16, 3) := by decide +kernel
theorem dL_errors_352 : decode cL_errors 352 = .ok (.aload_n 0, 1) := by decide +kernel
theorem dL_errors_353 : decode cL_errors 353 = .ok (.iload_n 2, 1) := by decide +kernel
theorem dL_errors_354 : decode cL_errors 354 = .ok (.invokevirtual 44, 3) := by decide +kernel
theorem dL_errors_357 : decode cL_errors 357 = .ok (.iconst (-1), 1) := by decide +kernel
theorem dL_errors_358 : decode cL_errors 358 = .ok (.if_icmp .ne 7, 3) := by decide +kernel
theorem dL_errors_361 : decode cL_errors 361 = .ok (.iconst 1, 1) := by decide +kernel
theorem dL_errors_362 : decode cL_errors 362 = .ok (.goto 4, 3) := by decide +kernel
theorem dL_errors_365 : decode cL_errors 365 = .ok (.iconst 0, 1) := by decide +kernel
theorem dL_errors_366 : decode cL_errors 366 = .ok (.ireturn, 1) := by decide +kernel
theorem dL_law_0 : decode cL_law 0 = .ok (.new 10, 3) := by decide +kernel
theorem dL_law_3 : decode cL_law 3 = .ok (.dup, 1) := by decide +kernel
theorem dL_law_4 : decode cL_law 4 = .ok (.invokespecial 107, 3) := by decide +kernel
theorem dL_law_7 : decode cL_law 7 = .ok (.astore_n 1, 1) := by decide +kernel
theorem dL_law_8 : decode cL_law 8 = .ok (.aload_n 1, 1) := by decide +kernel
theorem dL_law_9 : decode cL_law 9 = .ok (.iconst 2, 1) := by decide +kernel
theorem dL_law_10 : decode cL_law 10 = .ok (.aload_n 0, 1) := by decide +kernel
theorem dL_law_11 : decode cL_law 11 = .ok (.iconst 0, 1) := by decide +kernel
theorem dL_law_12 : decode cL_law 12 = .ok (.invokestatic 108, 3) := by decide +kernel
theorem dL_law_15 : decode cL_law 15 = .ok (.iconst 4, 1) := by decide +kernel
theorem dL_law_16 : decode cL_law 16 = .ok (.invokestatic 112, 3) := by decide +kernel
theorem dL_law_19 : decode cL_law 19 = .ok (.iadd, 1) := by decide +kernel
theorem dL_law_20 : decode cL_law 20 = .ok (.invokevirtual 83, 3) := by decide +kernel
theorem dL_law_23 : decode cL_law 23 = .ok (.ifCond .ne 43, 3) := by decide +kernel
theorem dL_law_26 : decode cL_law 26 = .ok (.aload_n 1, 1) := by decide +kernel
theorem dL_law_27 : decode cL_law 27 = .ok (.iconst 0, 1) := by decide +kernel
theorem dL_law_28 : decode cL_law 28 = .ok (.invokevirtual 90, 3) := by decide +kernel
theorem dL_law_31 : decode cL_law 31 = .ok (.ifCond .ne 35, 3) := by decide +kernel
theorem dL_law_34 : decode cL_law 34 = .ok (.aload_n 1, 1) := by decide +kernel
theorem dL_law_35 : decode cL_law 35 = .ok (.iconst 0, 1) := by decide +kernel
theorem dL_law_36 : decode cL_law 36 = .ok (.invokevirtual 90, 3) := by decide +kernel
theorem dL_law_39 : decode cL_law 39 = .ok (.iconst 1, 1) := by decide +kernel
theorem dL_law_40 : decode cL_law 40 = .ok (.if_icmp .ne 26, 3) := by decide +kernel
theorem dL_law_43 : decode cL_law 43 = .ok (.aload_n 1, 1) := by decide +kernel
theorem dL_law_44 : decode cL_law 44 = .ok (.iconst 0, 1) := by decide +kernel
theorem dL_law_45 : decode cL_law 45 = .ok (.bipush 60, 2) := by decide +kernel
theorem dL_law_47 : decode cL_law 47 = .ok (.invokevirtual 86, 3) := by decide +kernel
theorem dL_law_50 : decode cL_law 50 = .ok (.bipush 60, 2) := by decide +kernel
theorem dL_law_52 : decode cL_law 52 = .ok (.if_icmp .ne 14, 3) := by decide +kernel
theorem dL_law_55 : decode cL_law 55 = .ok (.aload_n 1, 1) := by decide +kernel
theorem dL_law_56 : decode cL_law 56 = .ok (.iconst 0, 1) := by decide +kernel
theorem dL_law_57 : decode cL_law 57 = .ok (.iconst 2, 1) := by decide +kernel
theorem dL_law_58 : decode cL_law 58 = .ok (.iconst 3, 1) := by decide +kernel
theorem dL_law_59 : decode cL_law 59 = .ok (.iconst 4, 1) := by decide +kernel
theorem dL_law_60 : decode cL_law 60 = .ok (.invokevirtual 76, 3) := by decide +kernel
theorem dL_law_63 : decode cL_law 63 = .ok (.ifCond .eq 5, 3) := by decide +kernel
theorem dL_law_66 : decode cL_law 66 = .ok (.iconst 0, 1) := by decide +kernel
theorem dL_law_67 : decode cL_law 67 = .ok (.ireturn, 1) := by decide +kernel
theorem dL_law_68 : decode cL_law 68 = .ok (.iconst 0, 1) := by decide +kernel
theorem dL_law_69 : decode cL_law 69 = .ok (.istore_n 2, 1) := by decide +kernel
theorem dL_law_70 : decode cL_law 70 = .ok (.iload_n 2, 1) := by decide +kernel
theorem dL_law_71 : decode cL_law 71 = .ok (.bipush 40, 2) := by decide +kernel
theorem dL_law_73 : decode cL_law 73 = .ok (.if_icmp .ge 951, 3) := by decide +kernel
theorem dL_law_76 : decode cL_law 76 = .ok (.aload_n 0, 1) := by decide +kernel
theorem dL_law_77 : decode cL_law 77 = .ok (.iconst 1, 1) := by decide +kernel
theorem dL_law_78 : decode cL_law 78 = .ok (.iconst 2, 1) := by decide +kernel
theorem dL_law_79 : decode cL_law 79 = .ok (.iload_n 2, 1) := by decide +kernel
theorem dL_law_80 : decode cL_law 80 = .ok (.imul, 1) := by decide +kernel
theorem dL_law_81 : decode cL_law 81 = .ok (.iadd, 1) := by decide +kernel
theorem dL_law_82 : decode cL_law 82 = .ok (.invokestatic 108, 3) := by decide +kernel
theorem dL_law_85 : decode cL_law 85 = .ok (.istore_n 3, 1) := by decide +kernel
theorem dL_law_86 : decode cL_law 86 = .ok (.aload_n 0, 1) := by decide +kernel
theorem dL_law_87 : decode cL_law 87 = .ok (.iconst 2, 1) := by decide +kernel
theorem dL_law_88 : decode cL_law 88 = .ok (.iconst 2, 1) := by decide +kernel
theorem dL_law_89 : decode cL_law 89 = .ok (.iload_n 2, 1) := by decide +kernel
theorem dL_law_90 : decode cL_law 90 = .ok (.imul, 1) := by decide +kernel
theorem dL_law_91 : decode cL_law 91 = .ok (.iadd, 1) := by decide +kernel
theorem dL_law_92 : decode cL_law 92 = .ok (.invokestatic 108, 3) := by decide +kernel
theorem dL_law_95 : decode cL_law 95 = .ok (.istore 4, 2) := by decide +kernel
theorem dL_law_97 : decode cL_law 97 = .ok (.iload_n 3, 1) := by decide +kernel
theorem dL_law_98 : decode cL_law 98 = .ok (.bipush 17, 2) := by decide +kernel
theorem dL_law_100 : decode cL_law 100 = .ok (.invokestatic 112, 3) := by decide +kernel
theorem dL_law_103 : decode cL_law 103 = .ok (.istore 5, 2) := by decide +kernel
theorem dL_law_105 : decode cL_law 105 = .ok (.iload_n 3, 1) := by decide +kernel
theorem dL_law_106 : decode cL_law 106 = .ok (.iconst 5, 1) := by decide +kernel
theorem dL_law_107 : decode cL_law 107 = .ok (.ishr, 1) := by decide +kernel
theorem dL_law_108 : decode cL_law 108 = .ok (.istore_n 3, 1) := by decide +kernel
theorem dL_law_109 : decode cL_law 109 = .ok (.aload_n 1, 1) := by decide +kernel
theorem dL_law_110 : decode cL_law 110 = .ok (.iconst 1, 1) := by decide +kernel
theorem dL_law_111 : decode cL_law 111 = .ok (.invokevirtual 9, 3) := by decide +kernel
theorem dL_law_114 : decode cL_law 114 = .ok (.istore 6, 2) := by decide +kernel
theorem dL_law_116 : decode cL_law 116 = .ok (.aload_n 1, 1) := by decide +kernel
theorem dL_law_117 : decode cL_law 117 = .ok (.iconst 2, 1) := by decide +kernel
theorem dL_law_118 : decode cL_law 118 = .ok (.invokevirtual 9, 3) := by decide +kernel
theorem dL_law_121 : decode cL_law 121 = .ok (.istore 7, 2) := by decide +kernel
theorem dL_law_123 : decode cL_law 123 = .ok (.iload_n 3, 1) := by decide +kernel
theorem dL_law_124 : decode cL_law 124 = .ok (.iload 6, 2) := by decide +kernel
theorem dL_law_126 : decode cL_law 126 = .ok (.invokestatic 112, 3) := by decide +kernel
theorem dL_law_129 : decode cL_law 129 = .ok (.istore 8, 2) := by decide +kernel
theorem dL_law_131 : decode cL_law 131 = .ok (.iload 7, 2) := by decide +kernel
theorem dL_law_133 : decode cL_law 133 = .ok (.ifCond .ne 7, 3) := by decide +kernel
theorem dL_law_136 : decode cL_law 136 = .ok (.iconst 0, 1) := by decide +kernel
theorem dL_law_137 : decode cL_law 137 = .ok (.goto 10, 3) := by decide +kernel
theorem dL_law_140 : decode cL_law 140 = .ok (.iload 4, 2) := by decide +kernel
theorem dL_law_142 : decode cL_law 142 = .ok (.iload 7, 2) := by decide +kernel
theorem dL_law_144 : decode cL_law 144 = .ok (.invokestatic 112, 3) := by decide +kernel
theorem dL_law_147 : decode cL_law 147 = .ok (.istore 9, 2) := by decide +kernel
theorem dL_law_149 : decode cL_law 149 = .ok (.iconst 1, 1) := by decide +kernel
theorem dL_law_150 : decode cL_law 150 = .ok (.istore 10, 2) := by decide +kernel
theorem dL_law_152 : decode cL_law 152 = .ok (.iload 5, 2) := by decide +kernel
theorem dL_law_154 : decode cL_law 154 = .ok (.ifCond .ne 63, 3) := by decide +kernel
theorem dL_law_157 : decode cL_law 157 = .ok (.iload 6, 2) := by decide +kernel
theorem dL_law_159 : decode cL_law 159 = .ok (.iconst 3, 1) := by decide +kernel
theorem dL_law_160 : decode cL_law 160 = .ok (.if_icmp .gt 47, 3) := by decide +kernel
theorem dL_law_163 : decode cL_law 163 = .ok (.aload_n 1, 1) := by decide +kernel
theorem dL_law_164 : decode cL_law 164 = .ok (.iload_n 3, 1) := by decide +kernel
theorem dL_law_165 : decode cL_law 165 = .ok (.iconst 3, 1) := by decide +kernel
theorem dL_law_166 : decode cL_law 166 = .ok (.invokestatic 112, 3) := by decide +kernel
theorem dL_law_169 : decode cL_law 169 = .ok (.iconst 1, 1) := by decide +kernel
theorem dL_law_170 : decode cL_law 170 = .ok (.iload 4, 2) := by decide +kernel
theorem dL_law_172 : decode cL_law 172 = .ok (.iconst 4, 1) := by decide +kernel
theorem dL_law_173 : decode cL_law 173 = .ok (.invokestatic 112, 3) := by decide +kernel
theorem dL_law_176 : decode cL_law 176 = .ok (.iadd, 1) := by decide +kernel
theorem dL_law_177 : decode cL_law 177 = .ok (.iconst 1, 1) := by decide +kernel
theorem dL_law_178 : decode cL_law 178 = .ok (.iload 4, 2) := by decide +kernel
theorem dL_law_180 : decode cL_law 180 = .ok (.iconst 3, 1) := by decide +kernel
theorem dL_law_181 : decode cL_law 181 = .ok (.ishr, 1) := by decide +kernel
theorem dL_law_182 : decode cL_law 182 = .ok (.bipush 6, 2) := by decide +kernel
theorem dL_law_184 : decode cL_law 184 = .ok (.invokestatic 112, 3) := by decide +kernel
theorem dL_law_187 : decode cL_law 187 = .ok (.iadd, 1) := by decide +kernel
theorem dL_law_188 : decode cL_law 188 = .ok (.iconst 1, 1) := by decide +kernel
theorem dL_law_189 : decode cL_law 189 = .ok (.iload 4, 2) := by decide +kernel
theorem dL_law_191 : decode cL_law 191 = .ok (.bipush 6, 2) := by decide +kernel
theorem dL_law_193 : decode cL_law 193 = .ok (.ishr, 1) := by decide +kernel
theorem dL_law_194 : decode cL_law 194 = .ok (.iconst 5, 1) := by decide +kernel
theorem dL_law_195 : decode cL_law 195 = .ok (.invokestatic 112, 3) := by decide +kernel
theorem dL_law_198 : decode cL_law 198 = .ok (.iadd, 1) := by decide +kernel
theorem dL_law_199 : decode cL_law 199 = .ok (.invokevirtual 76, 3) := by decide +kernel
theorem dL_law_202 : decode cL_law 202 = .ok (.iload 6, 2) := by decide +kernel
theorem dL_law_204 : decode cL_law 204 = .ok (.if_icmp .ne 7, 3) := by decide +kernel
theorem dL_law_207 : decode cL_law 207 = .ok (.iconst 1, 1) := by decide +kernel
theorem dL_law_208 : decode cL_law 208 = .ok (.goto 4, 3) := by decide +kernel
theorem dL_law_211 : decode cL_law 211 = .ok (.iconst 0, 1) := by decide +kernel
theorem dL_law_212 : decode cL_law 212 = .ok (.istore 10, 2) := by decide +kernel
theorem dL_law_214 : decode cL_law 214 = .ok (.goto 783, 3) := by decide +kernel
theorem dL_law_217 : decode cL_law 217 = .ok (.iload 5, 2) := by decide +kernel
theorem dL_law_219 : decode cL_law 219 = .ok (.iconst 1, 1) := by decide +kernel
theorem dL_law_220 : decode cL_law 220 = .ok (.if_icmp .ne 55, 3) := by decide +kernel
theorem dL_law_223 : decode cL_law 223 = .ok (.aload_n 1, 1) := by decide +kernel
theorem dL_law_224 : decode cL_law 224 = .ok (.iload 8, 2) := by decide +kernel
theorem dL_law_226 : decode cL_law 226 = .ok (.iconst 0, 1) := by decide +kernel
theorem dL_law_227 : decode cL_law 227 = .ok (.invokevirtual 19, 3) := by decide +kernel
theorem dL_law_230 : decode cL_law 230 = .ok (.istore 11, 2) := by decide +kernel
theorem dL_law_232 : decode cL_law 232 = .ok (.aload_n 1, 1) := by decide +kernel
theorem dL_law_233 : decode cL_law 233 = .ok (.iload 8, 2) := by decide +kernel
theorem dL_law_235 : decode cL_law 235 = .ok (.iload 4, 2) := by decide +kernel
theorem dL_law_237 : decode cL_law 237 = .ok (.iconst 3, 1) := by decide +kernel
theorem dL_law_238 : decode cL_law 238 = .ok (.invokestatic 112, 3) := by decide +kernel
theorem dL_law_241 : decode cL_law 241 = .ok (.invokevirtual 80, 3) := by decide +kernel
theorem dL_law_244 : decode cL_law 244 = .ok (.iload 11, 2) := by decide +kernel
theorem dL_law_246 : decode cL_law 246 = .ok (.if_icmp .ne 23, 3) := by decide +kernel
theorem dL_law_249 : decode cL_law 249 = .ok (.aload_n 1, 1) := by decide +kernel
theorem dL_law_250 : decode cL_law 250 = .ok (.iload 8, 2) := by decide +kernel
theorem dL_law_252 : decode cL_law 252 = .ok (.iconst 0, 1) := by decide +kernel
theorem dL_law_253 : decode cL_law 253 = .ok (.invokevirtual 19, 3) := by decide +kernel
theorem dL_law_256 : decode cL_law 256 = .ok (.iload 4, 2) := by decide +kernel
theorem dL_law_258 : decode cL_law 258 = .ok (.iconst 3, 1) := by decide +kernel
theorem dL_law_259 : decode cL_law 259 = .ok (.invokestatic 112, 3) := by decide +kernel
theorem dL_law_262 : decode cL_law 262 = .ok (.if_icmp .ne 7, 3) := by decide +kernel
theorem dL_law_265 : decode cL_law 265 = .ok (.iconst 1, 1) := by decide +kernel
theorem dL_law_266 : decode cL_law 266 = .ok (.goto 4, 3) := by decide +kernel
theorem dL_law_269 : decode cL_law 269 = .ok (.iconst 0, 1) := by decide +kernel
theorem dL_law_270 : decode cL_law 270 = .ok (.istore 10, 2) := by decide +kernel
theorem dL_law_272 : decode cL_law 272 = .ok (.goto 725, 3) := by decide +kernel
theorem dL_law_275 : decode cL_law 275 = .ok (.iload 5, 2) := by decide +kernel
theorem dL_law_277 : decode cL_law 277 = .ok (.iconst 2, 1) := by decide +kernel
theorem dL_law_278 : decode cL_law 278 = .ok (.if_icmp .ne 50, 3) := by decide +kernel
theorem dL_law_281 : decode cL_law 281 = .ok (.aload_n 1, 1) := by decide +kernel
theorem dL_law_282 : decode cL_law 282 = .ok (.iconst 0, 1) := by decide +kernel
theorem dL_law_283 : decode cL_law 283 = .ok (.iconst 0, 1) := by decide +kernel
theorem dL_law_284 : decode cL_law 284 = .ok (.invokevirtual 26, 3) := by decide +kernel
theorem dL_law_287 : decode cL_law 287 = .ok (.istore 11, 2) := by decide +kernel
theorem dL_law_289 : decode cL_law 289 = .ok (.aload_n 1, 1) := by decide +kernel
theorem dL_law_290 : decode cL_law 290 = .ok (.iconst 0, 1) := by decide +kernel
theorem dL_law_291 : decode cL_law 291 = .ok (.iconst 1, 1) := by decide +kernel
theorem dL_law_292 : decode cL_law 292 = .ok (.iload 4, 2) := by decide +kernel
theorem dL_law_294 : decode cL_law 294 = .ok (.bipush 50, 2) := by decide +kernel
theorem dL_law_296 : decode cL_law 296 = .ok (.invokestatic 112, 3) := by decide +kernel
theorem dL_law_299 : decode cL_law 299 = .ok (.iadd, 1) := by decide +kernel
theorem dL_law_300 : decode cL_law 300 = .ok (.invokevirtual 86, 3) := by decide +kernel
theorem dL_law_303 : decode cL_law 303 = .ok (.iload 11, 2) := by decide +kernel
theorem dL_law_305 : decode cL_law 305 = .ok (.iconst 1, 1) := by decide +kernel
theorem dL_law_306 : decode cL_law 306 = .ok (.iadd, 1) := by decide +kernel
theorem dL_law_307 : decode cL_law 307 = .ok (.iload 4, 2) := by decide +kernel
theorem dL_law_309 : decode cL_law 309 = .ok (.bipush 50, 2) := by decide +kernel
theorem dL_law_311 : decode cL_law 311 = .ok (.invokestatic 112, 3) := by decide +kernel
theorem dL_law_314 : decode cL_law 314 = .ok (.iadd, 1) := by decide +kernel
theorem dL_law_315 : decode cL_law 315 = .ok (.if_icmp .ne 7, 3) := by decide +kernel
theorem dL_law_318 : decode cL_law 318 = .ok (.iconst 1, 1) := by decide +kernel
theorem dL_law_319 : decode cL_law 319 = .ok (.goto 4, 3) := by decide +kernel
theorem dL_law_322 : decode cL_law 322 = .ok (.iconst 0, 1) := by decide +kernel
theorem dL_law_323 : decode cL_law 323 = .ok (.istore 10, 2) := by decide +kernel
theorem dL_law_325 : decode cL_law 325 = .ok (.goto 672, 3) := by decide +kernel
theorem dL_law_328 : decode cL_law 328 = .ok (.iload 5, 2) := by decide +kernel
theorem dL_law_330 : decode cL_law 330 = .ok (.iconst 3, 1) := by decide +kernel
theorem dL_law_331 : decode cL_law 331 = .ok (.if_icmp .ne 124, 3) := by decide +kernel
theorem dL_law_334 : decode cL_law 334 = .ok (.iload_n 3, 1) := by decide +kernel
theorem dL_law_335 : decode cL_law 335 = .ok (.iconst 3, 1) := by decide +kernel
theorem dL_law_336 : decode cL_law 336 = .ok (.invokestatic 112, 3) := by decide +kernel
theorem dL_law_339 : decode cL_law 339 = .ok (.istore 11, 2) := by decide +kernel
theorem dL_law_341 : decode cL_law 341 = .ok (.aload_n 1, 1) := by decide +kernel
theorem dL_law_342 : decode cL_law 342 = .ok (.iload 11, 2) := by decide +kernel
theorem dL_law_344 : decode cL_law 344 = .ok (.iconst 1, 1) := by decide +kernel
theorem dL_law_345 : decode cL_law 345 = .ok (.invokevirtual 29, 3) := by decide +kernel
theorem dL_law_348 : decode cL_law 348 = .ok (.istore 12, 2) := by decide +kernel
theorem dL_law_350 : decode cL_law 350 = .ok (.iload 4, 2) := by decide +kernel
theorem dL_law_352 : decode cL_law 352 = .ok (.iconst 1, 1) := by decide +kernel
theorem dL_law_353 : decode cL_law 353 = .ok (.iand, 1) := by decide +kernel
theorem dL_law_354 : decode cL_law 354 = .ok (.iconst 1, 1) := by decide +kernel
theorem dL_law_355 : decode cL_law 355 = .ok (.if_icmp .ne 7, 3) := by decide +kernel
theorem dL_law_358 : decode cL_law 358 = .ok (.iconst 1, 1) := by decide +kernel
theorem dL_law_359 : decode cL_law 359 = .ok (.goto 4, 3) := by decide +kernel
theorem dL_law_362 : decode cL_law 362 = .ok (.iconst 0, 1) := by decide +kernel
theorem dL_law_363 : decode cL_law 363 = .ok (.istore 13, 2) := by decide +kernel
theorem dL_law_365 : decode cL_law 365 = .ok (.aload_n 1, 1) := by decide +kernel
theorem dL_law_366 : decode cL_law 366 = .ok (.iload 11, 2) := by decide +kernel
theorem dL_law_368 : decode cL_law 368 = .ok (.iload 13, 2) := by decide +kernel
theorem dL_law_370 : decode cL_law 370 = .ok (.invokevirtual 93, 3) := by decide +kernel
theorem dL_law_373 : decode cL_law 373 = .ok (.istore 14, 2) := by decide +kernel
theorem dL_law_375 : decode cL_law 375 = .ok (.iload 12, 2) := by decide +kernel
theorem dL_law_377 : decode cL_law 377 = .ok (.ifCond .ge 17, 3) := by decide +kernel
theorem dL_law_380 : decode cL_law 380 = .ok (.iload 14, 2) := by decide +kernel
theorem dL_law_382 : decode cL_law 382 = .ok (.iconst (-1), 1) := by decide +kernel
theorem dL_law_383 : decode cL_law 383 = .ok (.if_icmp .ne 7, 3) := by decide +kernel
theorem dL_law_386 : decode cL_law 386 = .ok (.iconst 1, 1) := by decide +kernel
theorem dL_law_387 : decode cL_law 387 = .ok (.goto 63, 3) := by decide +kernel
theorem dL_law_390 : decode cL_law 390 = .ok (.iconst 0, 1) := by decide +kernel
theorem dL_law_391 : decode cL_law 391 = .ok (.goto 59, 3) := by decide +kernel
theorem dL_law_394 : decode cL_law 394 = .ok (.iload 12, 2) := by decide +kernel
theorem dL_law_396 : decode cL_law 396 = .ok (.iconst 1, 1) := by decide +kernel
theorem dL_law_397 : decode cL_law 397 = .ok (.if_icmp .ne 7, 3) := by decide +kernel
theorem dL_law_400 : decode cL_law 400 = .ok (.iconst 1, 1) := by decide +kernel
theorem dL_law_401 : decode cL_law 401 = .ok (.goto 4, 3) := by decide +kernel
theorem dL_law_404 : decode cL_law 404 = .ok (.iconst 0, 1) := by decide +kernel
theorem dL_law_405 : decode cL_law 405 = .ok (.iload 13, 2) := by decide +kernel
theorem dL_law_407 : decode cL_law 407 = .ok (.if_icmp .ne 18, 3) := by decide +kernel
theorem dL_law_410 : decode cL_law 410 = .ok (.iload 14, 2) := by decide +kernel
theorem dL_law_412 : decode cL_law 412 = .ok (.bipush (-5), 2) := by decide +kernel
theorem dL_law_414 : decode cL_law 414 = .ok (.if_icmp .ne 7, 3) := by decide +kernel
theorem dL_law_417 : decode cL_law 417 = .ok (.iconst 1, 1) := by decide +kernel
theorem dL_law_418 : decode cL_law 418 = .ok (.goto 32, 3) := by decide +kernel
theorem dL_law_421 : decode cL_law 421 = .ok (.iconst 0, 1) := by decide +kernel
theorem dL_law_422 : decode cL_law 422 = .ok (.goto 28, 3) := by decide +kernel
theorem dL_law_425 : decode cL_law 425 = .ok (.aload_n 1, 1) := by decide +kernel
theorem dL_law_426 : decode cL_law 426 = .ok (.iload 11, 2) := by decide +kernel
theorem dL_law_428 : decode cL_law 428 = .ok (.iconst 1, 1) := by decide +kernel
theorem dL_law_429 : decode cL_law 429 = .ok (.invokevirtual 29, 3) := by decide +kernel
theorem dL_law_432 : decode cL_law 432 = .ok (.iload 13, 2) := by decide +kernel
theorem dL_law_434 : decode cL_law 434 = .ok (.ifCond .eq 7, 3) := by decide +kernel
theorem dL_law_437 : decode cL_law 437 = .ok (.iconst 1, 1) := by decide +kernel
theorem dL_law_438 : decode cL_law 438 = .ok (.goto 4, 3) := by decide +kernel
theorem dL_law_441 : decode cL_law 441 = .ok (.iconst 0, 1) := by decide +kernel
theorem dL_law_442 : decode cL_law 442 = .ok (.if_icmp .ne 7, 3) := by decide +kernel
theorem dL_law_445 : decode cL_law 445 = .ok (.iconst 1, 1) := by decide +kernel
theorem dL_law_446 : decode cL_law 446 = .ok (.goto 4, 3) := by decide +kernel
theorem dL_law_449 : decode cL_law 449 = .ok (.iconst 0, 1) := by decide +kernel
theorem dL_law_450 : decode cL_law 450 = .ok (.istore 10, 2) := by decide +kernel
theorem dL_law_452 : decode cL_law 452 = .ok (.goto 545, 3) := by decide +kernel
theorem dL_law_455 : decode cL_law 455 = .ok (.iload 5, 2) := by decide +kernel
theorem dL_law_457 : decode cL_law 457 = .ok (.iconst 4, 1) := by decide +kernel
theorem dL_law_458 : decode cL_law 458 = .ok (.if_icmp .ne 55, 3) := by decide +kernel
theorem dL_law_461 : decode cL_law 461 = .ok (.aload_n 1, 1) := by decide +kernel
theorem dL_law_462 : decode cL_law 462 = .ok (.bipush 9, 2) := by decide +kernel
theorem dL_law_464 : decode cL_law 464 = .ok (.invokevirtual 9, 3) := by decide +kernel
theorem dL_law_467 : decode cL_law 467 = .ok (.istore 11, 2) := by decide +kernel
theorem dL_law_469 : decode cL_law 469 = .ok (.aload_n 1, 1) := by decide +kernel
theorem dL_law_470 : decode cL_law 470 = .ok (.iload 4, 2) := by decide +kernel
theorem dL_law_472 : decode cL_law 472 = .ok (.bipush 30, 2) := by decide +kernel
theorem dL_law_474 : decode cL_law 474 = .ok (.invokestatic 112, 3) := by decide +kernel
theorem dL_law_477 : decode cL_law 477 = .ok (.invokevirtual 97, 3) := by decide +kernel
theorem dL_law_480 : decode cL_law 480 = .ok (.iload 11, 2) := by decide +kernel
theorem dL_law_482 : decode cL_law 482 = .ok (.if_icmp .ne 25, 3) := by decide +kernel
theorem dL_law_485 : decode cL_law 485 = .ok (.aload_n 1, 1) := by decide +kernel
theorem dL_law_486 : decode cL_law 486 = .ok (.iconst 2, 1) := by decide +kernel
theorem dL_law_487 : decode cL_law 487 = .ok (.iconst 0, 1) := by decide +kernel
theorem dL_law_488 : decode cL_law 488 = .ok (.invokevirtual 29, 3) := by decide +kernel
theorem dL_law_491 : decode cL_law 491 = .ok (.ifCond .ge 12, 3) := by decide +kernel
theorem dL_law_494 : decode cL_law 494 = .ok (.aload_n 1, 1) := by decide +kernel
theorem dL_law_495 : decode cL_law 495 = .ok (.iconst 0, 1) := by decide +kernel
theorem dL_law_496 : decode cL_law 496 = .ok (.invokevirtual 90, 3) := by decide +kernel
theorem dL_law_499 : decode cL_law 499 = .ok (.iconst 2, 1) := by decide +kernel
theorem dL_law_500 : decode cL_law 500 = .ok (.if_icmp .ne 7, 3) := by decide +kernel
theorem dL_law_503 : decode cL_law 503 = .ok (.iconst 1, 1) := by decide +kernel
theorem dL_law_504 : decode cL_law 504 = .ok (.goto 4, 3) := by decide +kernel
theorem dL_law_507 : decode cL_law 507 = .ok (.iconst 0, 1) := by decide +kernel
theorem dL_law_508 : decode cL_law 508 = .ok (.istore 10, 2) := by decide +kernel
theorem dL_law_510 : decode cL_law 510 = .ok (.goto 487, 3) := by decide +kernel
theorem dL_law_513 : decode cL_law 513 = .ok (.iload 5, 2) := by decide +kernel
theorem dL_law_515 : decode cL_law 515 = .ok (.bipush 8, 2) := by decide +kernel
theorem dL_law_517 : decode cL_law 517 = .ok (.if_icmp .ge 79, 3) := by decide +kernel
theorem dL_law_520 : decode cL_law 520 = .ok (.iload 4, 2) := by decide +kernel
theorem dL_law_522 : decode cL_law 522 = .ok (.iconst 4, 1) := by decide +kernel
theorem dL_law_523 : decode cL_law 523 = .ok (.invokestatic 112, 3) := by decide +kernel
theorem dL_law_526 : decode cL_law 526 = .ok (.iconst 1, 1) := by decide +kernel
theorem dL_law_527 : decode cL_law 527 = .ok (.isub, 1) := by decide +kernel
theorem dL_law_528 : decode cL_law 528 = .ok (.istore 11, 2) := by decide +kernel
theorem dL_law_530 : decode cL_law 530 = .ok (.aload_n 1, 1) := by decide +kernel
theorem dL_law_531 : decode cL_law 531 = .ok (.iload 11, 2) := by decide +kernel
theorem dL_law_533 : decode cL_law 533 = .ok (.iconst 0, 1) := by decide +kernel
theorem dL_law_534 : decode cL_law 534 = .ok (.invokevirtual 29, 3) := by decide +kernel
theorem dL_law_537 : decode cL_law 537 = .ok (.ifCond .ge 7, 3) := by decide +kernel
theorem dL_law_540 : decode cL_law 540 = .ok (.iconst (-1), 1) := by decide +kernel
theorem dL_law_541 : decode cL_law 541 = .ok (.goto 5, 3) := by decide +kernel
theorem dL_law_544 : decode cL_law 544 = .ok (.iload 11, 2) := by decide +kernel
theorem dL_law_546 : decode cL_law 546 = .ok (.istore 11, 2) := by decide +kernel
theorem dL_law_548 : decode cL_law 548 = .ok (.aload_n 1, 1) := by decide +kernel
theorem dL_law_549 : decode cL_law 549 = .ok (.iload 8, 2) := by decide +kernel
theorem dL_law_551 : decode cL_law 551 = .ok (.iload 11, 2) := by decide +kernel
theorem dL_law_553 : decode cL_law 553 = .ok (.iload 4, 2) := by decide +kernel
theorem dL_law_555 : decode cL_law 555 = .ok (.bipush 8, 2) := by decide +kernel
theorem dL_law_557 : decode cL_law 557 = .ok (.iand, 1) := by decide +kernel
theorem dL_law_558 : decode cL_law 558 = .ok (.ifCond .ne 7, 3) := by decide +kernel
theorem dL_law_561 : decode cL_law 561 = .ok (.iconst 1, 1) := by decide +kernel
theorem dL_law_562 : decode cL_law 562 = .ok (.goto 4, 3) := by decide +kernel
theorem dL_law_565 : decode cL_law 565 = .ok (.iconst 0, 1) := by decide +kernel
theorem dL_law_566 : decode cL_law 566 = .ok (.invokevirtual 100, 3) := by decide +kernel
theorem dL_law_569 : decode cL_law 569 = .ok (.iload 7, 2) := by decide +kernel
theorem dL_law_571 : decode cL_law 571 = .ok (.bipush 40, 2) := by decide +kernel
theorem dL_law_573 : decode cL_law 573 = .ok (.if_icmp .ne 8, 3) := by decide +kernel
theorem dL_law_576 : decode cL_law 576 = .ok (.bipush (-3), 2) := by decide +kernel
theorem dL_law_578 : decode cL_law 578 = .ok (.goto 5, 3) := by decide +kernel
theorem dL_law_581 : decode cL_law 581 = .ok (.iload 7, 2) := by decide +kernel
theorem dL_law_583 : decode cL_law 583 = .ok (.if_icmp .ne 7, 3) := by decide +kernel
theorem dL_law_586 : decode cL_law 586 = .ok (.iconst 1, 1) := by decide +kernel
theorem dL_law_587 : decode cL_law 587 = .ok (.goto 4, 3) := by decide +kernel
theorem dL_law_590 : decode cL_law 590 = .ok (.iconst 0, 1) := by decide +kernel
theorem dL_law_591 : decode cL_law 591 = .ok (.istore 10, 2) := by decide +kernel
theorem dL_law_593 : decode cL_law 593 = .ok (.goto 404, 3) := by decide +kernel
theorem dL_law_596 : decode cL_law 596 = .ok (.iload 5, 2) := by decide +kernel
theorem dL_law_598 : decode cL_law 598 = .ok (.bipush 8, 2) := by decide +kernel
theorem dL_law_600 : decode cL_law 600 = .ok (.if_icmp .ne 70, 3) := by decide +kernel
theorem dL_law_603 : decode cL_law 603 = .ok (.iload 7, 2) := by decide +kernel
theorem dL_law_605 : decode cL_law 605 = .ok (.ifCond .le 65, 3) := by decide +kernel
theorem dL_law_608 : decode cL_law 608 = .ok (.aload_n 1, 1) := by decide +kernel
theorem dL_law_609 : decode cL_law 609 = .ok (.iload 8, 2) := by decide +kernel
theorem dL_law_611 : decode cL_law 611 = .ok (.iconst 5, 1) := by decide +kernel
theorem dL_law_612 : decode cL_law 612 = .ok (.invokevirtual 19, 3) := by decide +kernel
theorem dL_law_615 : decode cL_law 615 = .ok (.istore 11, 2) := by decide +kernel
theorem dL_law_617 : decode cL_law 617 = .ok (.aload_n 1, 1) := by decide +kernel
theorem dL_law_618 : decode cL_law 618 = .ok (.iload 9, 2) := by decide +kernel
theorem dL_law_620 : decode cL_law 620 = .ok (.iconst 0, 1) := by decide +kernel
theorem dL_law_621 : decode cL_law 621 = .ok (.invokevirtual 15, 3) := by decide +kernel
theorem dL_law_624 : decode cL_law 624 = .ok (.iconst 3, 1) := by decide +kernel
theorem dL_law_625 : decode cL_law 625 = .ok (.if_icmp .ne 7, 3) := by decide +kernel
theorem dL_law_628 : decode cL_law 628 = .ok (.iconst 1, 1) := by decide +kernel
theorem dL_law_629 : decode cL_law 629 = .ok (.goto 4, 3) := by decide +kernel
theorem dL_law_632 : decode cL_law 632 = .ok (.iconst 0, 1) := by decide +kernel
theorem dL_law_633 : decode cL_law 633 = .ok (.istore 12, 2) := by decide +kernel
theorem dL_law_635 : decode cL_law 635 = .ok (.aload_n 1, 1) := by decide +kernel
theorem dL_law_636 : decode cL_law 636 = .ok (.iload 8, 2) := by decide +kernel
theorem dL_law_638 : decode cL_law 638 = .ok (.iload 9, 2) := by decide +kernel
theorem dL_law_640 : decode cL_law 640 = .ok (.invokevirtual 104, 3) := by decide +kernel
theorem dL_law_643 : decode cL_law 643 = .ok (.iload 12, 2) := by decide +kernel
theorem dL_law_645 : decode cL_law 645 = .ok (.ifCond .eq 10, 3) := by decide +kernel
theorem dL_law_648 : decode cL_law 648 = .ok (.iload 11, 2) := by decide +kernel
theorem dL_law_650 : decode cL_law 650 = .ok (.iconst 1, 1) := by decide +kernel
theorem dL_law_651 : decode cL_law 651 = .ok (.iadd, 1) := by decide +kernel
theorem dL_law_652 : decode cL_law 652 = .ok (.goto 5, 3) := by decide +kernel
theorem dL_law_655 : decode cL_law 655 = .ok (.bipush (-4), 2) := by decide +kernel
theorem dL_law_657 : decode cL_law 657 = .ok (.if_icmp .ne 7, 3) := by decide +kernel
theorem dL_law_660 : decode cL_law 660 = .ok (.iconst 1, 1) := by decide +kernel
theorem dL_law_661 : decode cL_law 661 = .ok (.goto 4, 3) := by decide +kernel
theorem dL_law_664 : decode cL_law 664 = .ok (.iconst 0, 1) := by decide +kernel
theorem dL_law_665 : decode cL_law 665 = .ok (.istore 10, 2) := by decide +kernel
theorem dL_law_667 : decode cL_law 667 = .ok (.goto 330, 3) := by decide +kernel
theorem dL_law_670 : decode cL_law 670 = .ok (.iload 5, 2) := by decide +kernel
theorem dL_law_672 : decode cL_law 672 = .ok (.bipush 9, 2) := by decide +kernel
theorem dL_law_674 : decode cL_law 674 = .ok (.if_icmp .ne 74, 3) := by decide +kernel
theorem dL_law_677 : decode cL_law 677 = .ok (.aload_n 1, 1) := by decide +kernel
theorem dL_law_678 : decode cL_law 678 = .ok (.iload 8, 2) := by decide +kernel
theorem dL_law_680 : decode cL_law 680 = .ok (.iconst 1, 1) := by decide +kernel
theorem dL_law_681 : decode cL_law 681 = .ok (.invokevirtual 19, 3) := by decide +kernel
theorem dL_law_684 : decode cL_law 684 = .ok (.istore 11, 2) := by decide +kernel
theorem dL_law_686 : decode cL_law 686 = .ok (.aload_n 1, 1) := by decide +kernel
theorem dL_law_687 : decode cL_law 687 = .ok (.iload 8, 2) := by decide +kernel
theorem dL_law_689 : decode cL_law 689 = .ok (.bipush 10, 2) := by decide +kernel
theorem dL_law_691 : decode cL_law 691 = .ok (.invokevirtual 19, 3) := by decide +kernel
theorem dL_law_694 : decode cL_law 694 = .ok (.istore 12, 2) := by decide +kernel
theorem dL_law_696 : decode cL_law 696 = .ok (.aload_n 1, 1) := by decide +kernel
theorem dL_law_697 : decode cL_law 697 = .ok (.iload 8, 2) := by decide +kernel
theorem dL_law_699 : decode cL_law 699 = .ok (.invokevirtual 54, 3) := by decide +kernel
theorem dL_law_702 : decode cL_law 702 = .ok (.iload 11, 2) := by decide +kernel
theorem dL_law_704 : decode cL_law 704 = .ok (.iconst 5, 1) := by decide +kernel
theorem dL_law_705 : decode cL_law 705 = .ok (.if_icmp .ne 8, 3) := by decide +kernel
theorem dL_law_708 : decode cL_law 708 = .ok (.bipush (-4), 2) := by decide +kernel
theorem dL_law_710 : decode cL_law 710 = .ok (.goto 25, 3) := by decide +kernel
theorem dL_law_713 : decode cL_law 713 = .ok (.iload 12, 2) := by decide +kernel
theorem dL_law_715 : decode cL_law 715 = .ok (.iconst 1, 1) := by decide +kernel
theorem dL_law_716 : decode cL_law 716 = .ok (.if_icmp .ne 8, 3) := by decide +kernel
theorem dL_law_719 : decode cL_law 719 = .ok (.bipush (-5), 2) := by decide +kernel
theorem dL_law_721 : decode cL_law 721 = .ok (.goto 14, 3) := by decide +kernel
theorem dL_law_724 : decode cL_law 724 = .ok (.iload 11, 2) := by decide +kernel
theorem dL_law_726 : decode cL_law 726 = .ok (.iconst 3, 1) := by decide +kernel
theorem dL_law_727 : decode cL_law 727 = .ok (.if_icmp .ne 7, 3) := by decide +kernel
theorem dL_law_730 : decode cL_law 730 = .ok (.iconst 1, 1) := by decide +kernel
theorem dL_law_731 : decode cL_law 731 = .ok (.goto 4, 3) := by decide +kernel
theorem dL_law_734 : decode cL_law 734 = .ok (.iconst 0, 1) := by decide +kernel
theorem dL_law_735 : decode cL_law 735 = .ok (.if_icmp .ne 7, 3) := by decide +kernel
theorem dL_law_738 : decode cL_law 738 = .ok (.iconst 1, 1) := by decide +kernel
theorem dL_law_739 : decode cL_law 739 = .ok (.goto 4, 3) := by decide +kernel
theorem dL_law_742 : decode cL_law 742 = .ok (.iconst 0, 1) := by decide +kernel
theorem dL_law_743 : decode cL_law 743 = .ok (.istore 10, 2) := by decide +kernel
theorem dL_law_745 : decode cL_law 745 = .ok (.goto 252, 3) := by decide +kernel
theorem dL_law_748 : decode cL_law 748 = .ok (.iload 5, 2) := by decide +kernel
theorem dL_law_750 : decode cL_law 750 = .ok (.bipush 13, 2) := by decide +kernel
theorem dL_law_752 : decode cL_law 752 = .ok (.if_icmp .ge 134, 3) := by decide +kernel
theorem dL_law_755 : decode cL_law 755 = .ok (.iconst 1, 1) := by decide +kernel
theorem dL_law_756 : decode cL_law 756 = .ok (.istore 11, 2) := by decide +kernel
theorem dL_law_758 : decode cL_law 758 = .ok (.iconst 0, 1) := by decide +kernel
theorem dL_law_759 : decode cL_law 759 = .ok (.istore 12, 2) := by decide +kernel
theorem dL_law_761 : decode cL_law 761 = .ok (.iload 12, 2) := by decide +kernel
theorem dL_law_763 : decode cL_law 763 = .ok (.iload 6, 2) := by decide +kernel
theorem dL_law_765 : decode cL_law 765 = .ok (.if_icmp .ge 39, 3) := by decide +kernel
theorem dL_law_768 : decode cL_law 768 = .ok (.iload 11, 2) := by decide +kernel
theorem dL_law_770 : decode cL_law 770 = .ok (.ifCond .eq 25, 3) := by decide +kernel
theorem dL_law_773 : decode cL_law 773 = .ok (.iload 12, 2) := by decide +kernel
theorem dL_law_775 : decode cL_law 775 = .ok (.iload 8, 2) := by decide +kernel
theorem dL_law_777 : decode cL_law 777 = .ok (.if_icmp .eq 14, 3) := by decide +kernel
theorem dL_law_780 : decode cL_law 780 = .ok (.aload_n 1, 1) := by decide +kernel
theorem dL_law_781 : decode cL_law 781 = .ok (.iload 12, 2) := by decide +kernel
theorem dL_law_783 : decode cL_law 783 = .ok (.iconst 1, 1) := by decide +kernel
theorem dL_law_784 : decode cL_law 784 = .ok (.invokevirtual 19, 3) := by decide +kernel
theorem dL_law_787 : decode cL_law 787 = .ok (.iconst 5, 1) := by decide +kernel
theorem dL_law_788 : decode cL_law 788 = .ok (.if_icmp .ne 7, 3) := by decide +kernel
theorem dL_law_791 : decode cL_law 791 = .ok (.iconst 1, 1) := by decide +kernel
theorem dL_law_792 : decode cL_law 792 = .ok (.goto 4, 3) := by decide +kernel
theorem dL_law_795 : decode cL_law 795 = .ok (.iconst 0, 1) := by decide +kernel
theorem dL_law_796 : decode cL_law 796 = .ok (.istore 11, 2) := by decide +kernel
theorem dL_law_798 : decode cL_law 798 = .ok (.iinc 12 1, 3) := by decide +kernel
theorem dL_law_801 : decode cL_law 801 = .ok (.goto (-40), 3) := by decide +kernel
theorem dL_law_804 : decode cL_law 804 = .ok (.iconst 1, 1) := by decide +kernel
theorem dL_law_805 : decode cL_law 805 = .ok (.iload 4, 2) := by decide +kernel
theorem dL_law_807 : decode cL_law 807 = .ok (.bipush 9, 2) := by decide +kernel
theorem dL_law_809 : decode cL_law 809 = .ok (.invokestatic 112, 3) := by decide +kernel
theorem dL_law_812 : decode cL_law 812 = .ok (.iadd, 1) := by decide +kernel
theorem dL_law_813 : decode cL_law 813 = .ok (.istore 12, 2) := by decide +kernel
theorem dL_law_815 : decode cL_law 815 = .ok (.iconst 0, 1) := by decide +kernel
theorem dL_law_816 : decode cL_law 816 = .ok (.istore 13, 2) := by decide +kernel
theorem dL_law_818 : decode cL_law 818 = .ok (.iload 13, 2) := by decide +kernel
theorem dL_law_820 : decode cL_law 820 = .ok (.iload 12, 2) := by decide +kernel
theorem dL_law_822 : decode cL_law 822 = .ok (.if_icmp .ge 35, 3) := by decide +kernel
theorem dL_law_825 : decode cL_law 825 = .ok (.iload 11, 2) := by decide +kernel
theorem dL_law_827 : decode cL_law 827 = .ok (.ifCond .eq 30, 3) := by decide +kernel
theorem dL_law_830 : decode cL_law 830 = .ok (.iload 10, 2) := by decide +kernel
theorem dL_law_832 : decode cL_law 832 = .ok (.ifCond .eq 16, 3) := by decide +kernel
theorem dL_law_835 : decode cL_law 835 = .ok (.aload_n 1, 1) := by decide +kernel
theorem dL_law_836 : decode cL_law 836 = .ok (.iload 8, 2) := by decide +kernel
theorem dL_law_838 : decode cL_law 838 = .ok (.invokestatic 115, 3) := by decide +kernel
theorem dL_law_841 : decode cL_law 841 = .ok (.ifCond .eq 7, 3) := by decide +kernel
theorem dL_law_844 : decode cL_law 844 = .ok (.iconst 1, 1) := by decide +kernel
theorem dL_law_845 : decode cL_law 845 = .ok (.goto 4, 3) := by decide +kernel
theorem dL_law_848 : decode cL_law 848 = .ok (.iconst 0, 1) := by decide +kernel
theorem dL_law_849 : decode cL_law 849 = .ok (.istore 10, 2) := by decide +kernel
theorem dL_law_851 : decode cL_law 851 = .ok (.iinc 13 1, 3) := by decide +kernel
theorem dL_law_854 : decode cL_law 854 = .ok (.goto (-36), 3) := by decide +kernel
theorem dL_law_857 : decode cL_law 857 = .ok (.iload 10, 2) := by decide +kernel
theorem dL_law_859 : decode cL_law 859 = .ok (.ifCond .eq 21, 3) := by decide +kernel
theorem dL_law_862 : decode cL_law 862 = .ok (.iload 11, 2) := by decide +kernel
theorem dL_law_864 : decode cL_law 864 = .ok (.ifCond .ne 12, 3) := by decide +kernel
theorem dL_law_867 : decode cL_law 867 = .ok (.aload_n 1, 1) := by decide +kernel
theorem dL_law_868 : decode cL_law 868 = .ok (.iload 12, 2) := by decide +kernel
theorem dL_law_870 : decode cL_law 870 = .ok (.invokevirtual 38, 3) := by decide +kernel
theorem dL_law_873 : decode cL_law 873 = .ok (.ifCond .lt 7, 3) := by decide +kernel
theorem dL_law_876 : decode cL_law 876 = .ok (.iconst 1, 1) := by decide +kernel
theorem dL_law_877 : decode cL_law 877 = .ok (.goto 4, 3) := by decide +kernel
theorem dL_law_880 : decode cL_law 880 = .ok (.iconst 0, 1) := by decide +kernel
theorem dL_law_881 : decode cL_law 881 = .ok (.istore 10, 2) := by decide +kernel
theorem dL_law_883 : decode cL_law 883 = .ok (.goto 114, 3) := by decide +kernel
theorem dL_law_886 : decode cL_law 886 = .ok (.iload 5, 2) := by decide +kernel
theorem dL_law_888 : decode cL_law 888 = .ok (.bipush 13, 2) := by decide +kernel
theorem dL_law_890 : decode cL_law 890 = .ok (.if_icmp .ne 19, 3) := by decide +kernel
theorem dL_law_893 : decode cL_law 893 = .ok (.iload 7, 2) := by decide +kernel
theorem dL_law_895 : decode cL_law 895 = .ok (.ifCond .le 14, 3) := by decide +kernel
theorem dL_law_898 : decode cL_law 898 = .ok (.aload_n 1, 1) := by decide +kernel
theorem dL_law_899 : decode cL_law 899 = .ok (.iload 9, 2) := by decide +kernel
theorem dL_law_901 : decode cL_law 901 = .ok (.invokestatic 119, 3) := by decide +kernel
theorem dL_law_904 : decode cL_law 904 = .ok (.istore 10, 2) := by decide +kernel
theorem dL_law_906 : decode cL_law 906 = .ok (.goto 91, 3) := by decide +kernel
theorem dL_law_909 : decode cL_law 909 = .ok (.iload 5, 2) := by decide +kernel
theorem dL_law_911 : decode cL_law 911 = .ok (.bipush 14, 2) := by decide +kernel
theorem dL_law_913 : decode cL_law 913 = .ok (.if_icmp .ne 14, 3) := by decide +kernel
theorem dL_law_916 : decode cL_law 916 = .ok (.aload_n 1, 1) := by decide +kernel
theorem dL_law_917 : decode cL_law 917 = .ok (.iload 8, 2) := by decide +kernel
theorem dL_law_919 : decode cL_law 919 = .ok (.invokestatic 122, 3) := by decide +kernel
theorem dL_law_922 : decode cL_law 922 = .ok (.istore 10, 2) := by decide +kernel
theorem dL_law_924 : decode cL_law 924 = .ok (.goto 73, 3) := by decide +kernel
theorem dL_law_927 : decode cL_law 927 = .ok (.iload 5, 2) := by decide +kernel
theorem dL_law_929 : decode cL_law 929 = .ok (.bipush 15, 2) := by decide +kernel
theorem dL_law_931 : decode cL_law 931 = .ok (.if_icmp .ne 21, 3) := by decide +kernel
theorem dL_law_934 : decode cL_law 934 = .ok (.aload_n 1, 1) := by decide +kernel
theorem dL_law_935 : decode cL_law 935 = .ok (.iload 8, 2) := by decide +kernel
theorem dL_law_937 : decode cL_law 937 = .ok (.iload 4, 2) := by decide +kernel
theorem dL_law_939 : decode cL_law 939 = .ok (.iload 6, 2) := by decide +kernel
theorem dL_law_941 : decode cL_law 941 = .ok (.invokestatic 112, 3) := by decide +kernel
theorem dL_law_944 : decode cL_law 944 = .ok (.invokestatic 125, 3) := by decide +kernel
theorem dL_law_947 : decode cL_law 947 = .ok (.istore 10, 2) := by decide +kernel
theorem dL_law_949 : decode cL_law 949 = .ok (.goto 48, 3) := by decide +kernel
theorem dL_law_952 : decode cL_law 952 = .ok (.iload 5, 2) := by decide +kernel
theorem dL_law_954 : decode cL_law 954 = .ok (.bipush 16, 2) := by decide +kernel
theorem dL_law_956 : decode cL_law 956 = .ok (.if_icmp .ne 41, 3) := by decide +kernel
theorem dL_law_959 : decode cL_law 959 = .ok (.aload_n 1, 1) := by decide +kernel
theorem dL_law_960 : decode cL_law 960 = .ok (.iload 8, 2) := by decide +kernel
theorem dL_law_962 : decode cL_law 962 = .ok (.iload 4, 2) := by decide +kernel
theorem dL_law_964 : decode cL_law 964 = .ok (.bipush 14, 2) := by decide +kernel
theorem dL_law_966 : decode cL_law 966 = .ok (.invokestatic 112, 3) := by decide +kernel
theorem dL_law_969 : decode cL_law 969 = .ok (.iconst 1, 1) := by decide +kernel
theorem dL_law_970 : decode cL_law 970 = .ok (.iload 4, 2) := by decide +kernel
theorem dL_law_972 : decode cL_law 972 = .ok (.iconst 4, 1) := by decide +kernel
theorem dL_law_973 : decode cL_law 973 = .ok (.ishr, 1) := by decide +kernel
theorem dL_law_974 : decode cL_law 974 = .ok (.bipush 40, 2) := by decide +kernel
theorem dL_law_976 : decode cL_law 976 = .ok (.invokestatic 112, 3) := by decide +kernel
theorem dL_law_979 : decode cL_law 979 = .ok (.iadd, 1) := by decide +kernel
theorem dL_law_980 : decode cL_law 980 = .ok (.iload 4, 2) := by decide +kernel
theorem dL_law_982 : decode cL_law 982 = .ok (.iconst 2, 1) := by decide +kernel
theorem dL_law_983 : decode cL_law 983 = .ok (.iand, 1) := by decide +kernel
theorem dL_law_984 : decode cL_law 984 = .ok (.ifCond .ne 7, 3) := by decide +kernel
theorem dL_law_987 : decode cL_law 987 = .ok (.iconst 1, 1) := by decide +kernel
theorem dL_law_988 : decode cL_law 988 = .ok (.goto 4, 3) := by decide +kernel
theorem dL_law_991 : decode cL_law 991 = .ok (.iconst 0, 1) := by decide +kernel
theorem dL_law_992 : decode cL_law 992 = .ok (.invokestatic 129, 3) := by decide +kernel
theorem dL_law_995 : decode cL_law 995 = .ok (.istore 10, 2) := by decide +kernel
theorem dL_law_997 : decode cL_law 997 = .ok (.iload 10, 2) := by decide +kernel
theorem dL_law_999 : decode cL_law 999 = .ok (.ifCond .eq 17, 3) := by decide +kernel
theorem dL_law_1002 : decode cL_law 1002 = .ok (.aload_n 1, 1) := by decide +kernel
theorem dL_law_1003 : decode cL_law 1003 = .ok (.invokestatic 133, 3) := by decide +kernel
theorem dL_law_1006 : decode cL_law 1006 = .ok (.ifCond .eq 10, 3) := by decide +kernel
theorem dL_law_1009 : decode cL_law 1009 = .ok (.aload_n 1, 1) := by decide +kernel
theorem dL_law_1010 : decode cL_law 1010 = .ok (.invokestatic 137, 3) := by decide +kernel
theorem dL_law_1013 : decode cL_law 1013 = .ok (.ifCond .ne 5, 3) := by decide +kernel
theorem dL_law_1016 : decode cL_law 1016 = .ok (.iconst 0, 1) := by decide +kernel
theorem dL_law_1017 : decode cL_law 1017 = .ok (.ireturn, 1) := by decide +kernel
theorem dL_law_1018 : decode cL_law 1018 = .ok (.iinc 2 1, 3) := by decide +kernel
theorem dL_law_1021 : decode cL_law 1021 = .ok (.goto (-951), 3) := by decide +kernel
theorem dL_law_1024 : decode cL_law 1024 = .ok (.aload_n 1, 1) := by decide +kernel
theorem dL_law_1025 : decode cL_law 1025 = .ok (.invokestatic 140, 3) := by decide +kernel
theorem dL_law_1028 : decode cL_law 1028 = .ok (.ireturn, 1) := by decide +kernel
abbrev vwCl : List vw_C := [(RX0, TX0, 6), (RX1, TX1, 15), (RX2, TX2, 3), (RX3, TX3, 7), (RX4, TX4, 3), (RX5, TX5, 7), (RX6, TX6, 5), (RX7, TX7, 2), (RX8, TX8, 11), (RX9, TX9, 4)]
