theorem dL_below_0 : decode cL_below 0 = .ok (.iload_n 0, 1) := by decide +kernel
theorem dL_below_1 : decode cL_below 1 = .ok (.ldc 7, 2) := by decide +kernel
theorem dL_below_3 : decode cL_below 3 = .ok (.iand, 1) := by decide +kernel
theorem dL_below_4 : decode cL_below 4 = .ok (.iload_n 1, 1) := by decide +kernel
theorem dL_below_5 : decode cL_below 5 = .ok (.irem, 1) := by decide +kernel
theorem dL_below_6 : decode cL_below 6 = .ok (.ireturn, 1) := by decide +kernel
theorem dL_cell_0 : decode cL_cell 0 = .ok (.iload_n 1, 1) := by decide +kernel
theorem dL_cell_1 : decode cL_cell 1 = .ok (.aload_n 0, 1) := by decide +kernel
theorem dL_cell_2 : decode cL_cell 2 = .ok (.arraylength, 1) := by decide +kernel
theorem dL_cell_3 : decode cL_cell 3 = .ok (.if_icmp .ge 9, 3) := by decide +kernel
theorem dL_cell_6 : decode cL_cell 6 = .ok (.aload_n 0, 1) := by decide +kernel
theorem dL_cell_7 : decode cL_cell 7 = .ok (.iload_n 1, 1) := by decide +kernel
theorem dL_cell_8 : decode cL_cell 8 = .ok (.iaload, 1) := by decide +kernel
theorem dL_cell_9 : decode cL_cell 9 = .ok (.goto 9, 3) := by decide +kernel
theorem dL_cell_12 : decode cL_cell 12 = .ok (.ldc 8, 2) := by decide +kernel
theorem dL_cell_14 : decode cL_cell 14 = .ok (.iload_n 1, 1) := by decide +kernel
theorem dL_cell_15 : decode cL_cell 15 = .ok (.iconst 3, 1) := by decide +kernel
theorem dL_cell_16 : decode cL_cell 16 = .ok (.iadd, 1) := by decide +kernel
theorem dL_cell_17 : decode cL_cell 17 = .ok (.imul, 1) := by decide +kernel
theorem dL_cell_18 : decode cL_cell 18 = .ok (.ireturn, 1) := by decide +kernel
theorem dL_quarter_0 : decode cL_quarter 0 = .ok (.new 9, 3) := by decide +kernel
theorem dL_quarter_3 : decode cL_quarter 3 = .ok (.dup, 1) := by decide +kernel
theorem dL_quarter_4 : decode cL_quarter 4 = .ok (.invokespecial 11, 3) := by decide +kernel
theorem dL_quarter_7 : decode cL_quarter 7 = .ok (.astore_n 1, 1) := by decide +kernel
theorem dL_quarter_8 : decode cL_quarter 8 = .ok (.aload_n 0, 1) := by decide +kernel
theorem dL_quarter_9 : decode cL_quarter 9 = .ok (.iconst 0, 1) := by decide +kernel
theorem dL_quarter_10 : decode cL_quarter 10 = .ok (.invokestatic 12, 3) := by decide +kernel
theorem dL_quarter_13 : decode cL_quarter 13 = .ok (.bipush 40, 2) := by decide +kernel
theorem dL_quarter_15 : decode cL_quarter 15 = .ok (.invokestatic 18, 3) := by decide +kernel
theorem dL_quarter_18 : decode cL_quarter 18 = .ok (.istore_n 2, 1) := by decide +kernel
theorem dL_quarter_19 : decode cL_quarter 19 = .ok (.iconst 0, 1) := by decide +kernel
theorem dL_quarter_20 : decode cL_quarter 20 = .ok (.istore_n 3, 1) := by decide +kernel
theorem dL_quarter_21 : decode cL_quarter 21 = .ok (.iload_n 3, 1) := by decide +kernel
theorem dL_quarter_22 : decode cL_quarter 22 = .ok (.iload_n 2, 1) := by decide +kernel
theorem dL_quarter_23 : decode cL_quarter 23 = .ok (.if_icmp .ge 73, 3) := by decide +kernel
theorem dL_quarter_26 : decode cL_quarter 26 = .ok (.aload_n 0, 1) := by decide +kernel
theorem dL_quarter_27 : decode cL_quarter 27 = .ok (.iconst 1, 1) := by decide +kernel
theorem dL_quarter_28 : decode cL_quarter 28 = .ok (.iload_n 3, 1) := by decide +kernel
theorem dL_quarter_29 : decode cL_quarter 29 = .ok (.iconst 3, 1) := by decide +kernel
theorem dL_quarter_30 : decode cL_quarter 30 = .ok (.irem, 1) := by decide +kernel
theorem dL_quarter_31 : decode cL_quarter 31 = .ok (.iadd, 1) := by decide +kernel
theorem dL_quarter_32 : decode cL_quarter 32 = .ok (.invokestatic 12, 3) := by decide +kernel
theorem dL_quarter_35 : decode cL_quarter 35 = .ok (.iload_n 3, 1) := by decide +kernel
theorem dL_quarter_36 : decode cL_quarter 36 = .ok (.iconst 3, 1) := by decide +kernel
theorem dL_quarter_37 : decode cL_quarter 37 = .ok (.idiv, 1) := by decide +kernel
theorem dL_quarter_38 : decode cL_quarter 38 = .ok (.ishr, 1) := by decide +kernel
theorem dL_quarter_39 : decode cL_quarter 39 = .ok (.bipush 53, 2) := by decide +kernel
theorem dL_quarter_41 : decode cL_quarter 41 = .ok (.iload_n 3, 1) := by decide +kernel
theorem dL_quarter_42 : decode cL_quarter 42 = .ok (.imul, 1) := by decide +kernel
theorem dL_quarter_43 : decode cL_quarter 43 = .ok (.iadd, 1) := by decide +kernel
theorem dL_quarter_44 : decode cL_quarter 44 = .ok (.istore 4, 2) := by decide +kernel
theorem dL_quarter_46 : decode cL_quarter 46 = .ok (.aload_n 1, 1) := by decide +kernel
theorem dL_quarter_47 : decode cL_quarter 47 = .ok (.iload 4, 2) := by decide +kernel
theorem dL_quarter_49 : decode cL_quarter 49 = .ok (.bipush 12, 2) := by decide +kernel
theorem dL_quarter_51 : decode cL_quarter 51 = .ok (.invokestatic 18, 3) := by decide +kernel
theorem dL_quarter_54 : decode cL_quarter 54 = .ok (.iload 4, 2) := by decide +kernel
theorem dL_quarter_56 : decode cL_quarter 56 = .ok (.iconst 4, 1) := by decide +kernel
theorem dL_quarter_57 : decode cL_quarter 57 = .ok (.ishr, 1) := by decide +kernel
theorem dL_quarter_58 : decode cL_quarter 58 = .ok (.bipush 9, 2) := by decide +kernel
theorem dL_quarter_60 : decode cL_quarter 60 = .ok (.invokestatic 18, 3) := by decide +kernel
theorem dL_quarter_63 : decode cL_quarter 63 = .ok (.invokevirtual 22, 3) := by decide +kernel
theorem dL_quarter_66 : decode cL_quarter 66 = .ok (.ifCond .ne 24, 3) := by decide +kernel
theorem dL_quarter_69 : decode cL_quarter 69 = .ok (.aload_n 1, 1) := by decide +kernel
theorem dL_quarter_70 : decode cL_quarter 70 = .ok (.iload 4, 2) := by decide +kernel
theorem dL_quarter_72 : decode cL_quarter 72 = .ok (.bipush 12, 2) := by decide +kernel
theorem dL_quarter_74 : decode cL_quarter 74 = .ok (.invokestatic 18, 3) := by decide +kernel
theorem dL_quarter_77 : decode cL_quarter 77 = .ok (.iload 4, 2) := by decide +kernel
theorem dL_quarter_79 : decode cL_quarter 79 = .ok (.iconst 4, 1) := by decide +kernel
theorem dL_quarter_80 : decode cL_quarter 80 = .ok (.ishr, 1) := by decide +kernel
theorem dL_quarter_81 : decode cL_quarter 81 = .ok (.bipush 9, 2) := by decide +kernel
theorem dL_quarter_83 : decode cL_quarter 83 = .ok (.invokestatic 18, 3) := by decide +kernel
theorem dL_quarter_86 : decode cL_quarter 86 = .ok (.invokevirtual 24, 3) := by decide +kernel
theorem dL_quarter_89 : decode cL_quarter 89 = .ok (.pop, 1) := by decide +kernel
theorem dL_quarter_90 : decode cL_quarter 90 = .ok (.iinc 3 1, 3) := by decide +kernel
theorem dL_quarter_93 : decode cL_quarter 93 = .ok (.goto (-72), 3) := by decide +kernel
theorem dL_quarter_96 : decode cL_quarter 96 = .ok (.aload_n 0, 1) := by decide +kernel
theorem dL_quarter_97 : decode cL_quarter 97 = .ok (.iconst 0, 1) := by decide +kernel
theorem dL_quarter_98 : decode cL_quarter 98 = .ok (.invokestatic 12, 3) := by decide +kernel
theorem dL_quarter_101 : decode cL_quarter 101 = .ok (.bipush 6, 2) := by decide +kernel
theorem dL_quarter_103 : decode cL_quarter 103 = .ok (.ishr, 1) := by decide +kernel
theorem dL_quarter_104 : decode cL_quarter 104 = .ok (.bipush 30, 2) := by decide +kernel
theorem dL_quarter_106 : decode cL_quarter 106 = .ok (.invokestatic 18, 3) := by decide +kernel
theorem dL_quarter_109 : decode cL_quarter 109 = .ok (.istore_n 3, 1) := by decide +kernel
theorem dL_quarter_110 : decode cL_quarter 110 = .ok (.iconst 0, 1) := by decide +kernel
theorem dL_quarter_111 : decode cL_quarter 111 = .ok (.istore 4, 2) := by decide +kernel
theorem dL_quarter_113 : decode cL_quarter 113 = .ok (.iload 4, 2) := by decide +kernel
theorem dL_quarter_115 : decode cL_quarter 115 = .ok (.iload_n 3, 1) := by decide +kernel
theorem dL_quarter_116 : decode cL_quarter 116 = .ok (.if_icmp .ge 86, 3) := by decide +kernel
theorem dL_quarter_119 : decode cL_quarter 119 = .ok (.aload_n 0, 1) := by decide +kernel
theorem dL_quarter_120 : decode cL_quarter 120 = .ok (.iconst 4, 1) := by decide +kernel
theorem dL_quarter_121 : decode cL_quarter 121 = .ok (.iload 4, 2) := by decide +kernel
theorem dL_quarter_123 : decode cL_quarter 123 = .ok (.iconst 3, 1) := by decide +kernel
theorem dL_quarter_124 : decode cL_quarter 124 = .ok (.irem, 1) := by decide +kernel
theorem dL_quarter_125 : decode cL_quarter 125 = .ok (.iadd, 1) := by decide +kernel
theorem dL_quarter_126 : decode cL_quarter 126 = .ok (.invokestatic 12, 3) := by decide +kernel
theorem dL_quarter_129 : decode cL_quarter 129 = .ok (.iload 4, 2) := by decide +kernel
theorem dL_quarter_131 : decode cL_quarter 131 = .ok (.iconst 3, 1) := by decide +kernel
theorem dL_quarter_132 : decode cL_quarter 132 = .ok (.idiv, 1) := by decide +kernel
theorem dL_quarter_133 : decode cL_quarter 133 = .ok (.ishr, 1) := by decide +kernel
theorem dL_quarter_134 : decode cL_quarter 134 = .ok (.bipush 71, 2) := by decide +kernel
theorem dL_quarter_136 : decode cL_quarter 136 = .ok (.iload 4, 2) := by decide +kernel
theorem dL_quarter_138 : decode cL_quarter 138 = .ok (.imul, 1) := by decide +kernel
theorem dL_quarter_139 : decode cL_quarter 139 = .ok (.iadd, 1) := by decide +kernel
theorem dL_quarter_140 : decode cL_quarter 140 = .ok (.istore 5, 2) := by decide +kernel
theorem dL_quarter_142 : decode cL_quarter 142 = .ok (.aload_n 1, 1) := by decide +kernel
theorem dL_quarter_143 : decode cL_quarter 143 = .ok (.iload 5, 2) := by decide +kernel
theorem dL_quarter_145 : decode cL_quarter 145 = .ok (.bipush 12, 2) := by decide +kernel
theorem dL_quarter_147 : decode cL_quarter 147 = .ok (.invokestatic 18, 3) := by decide +kernel
theorem dL_quarter_150 : decode cL_quarter 150 = .ok (.iload 5, 2) := by decide +kernel
theorem dL_quarter_152 : decode cL_quarter 152 = .ok (.iconst 4, 1) := by decide +kernel
theorem dL_quarter_153 : decode cL_quarter 153 = .ok (.ishr, 1) := by decide +kernel
theorem dL_quarter_154 : decode cL_quarter 154 = .ok (.bipush 9, 2) := by decide +kernel
theorem dL_quarter_156 : decode cL_quarter 156 = .ok (.invokestatic 18, 3) := by decide +kernel
theorem dL_quarter_159 : decode cL_quarter 159 = .ok (.invokevirtual 22, 3) := by decide +kernel
theorem dL_quarter_162 : decode cL_quarter 162 = .ok (.ifCond .lt 34, 3) := by decide +kernel
theorem dL_quarter_165 : decode cL_quarter 165 = .ok (.aload_n 1, 1) := by decide +kernel
theorem dL_quarter_166 : decode cL_quarter 166 = .ok (.iload 5, 2) := by decide +kernel
theorem dL_quarter_168 : decode cL_quarter 168 = .ok (.bipush 12, 2) := by decide +kernel
theorem dL_quarter_170 : decode cL_quarter 170 = .ok (.invokestatic 18, 3) := by decide +kernel
theorem dL_quarter_173 : decode cL_quarter 173 = .ok (.iload 5, 2) := by decide +kernel
theorem dL_quarter_175 : decode cL_quarter 175 = .ok (.iconst 4, 1) := by decide +kernel
theorem dL_quarter_176 : decode cL_quarter 176 = .ok (.ishr, 1) := by decide +kernel
theorem dL_quarter_177 : decode cL_quarter 177 = .ok (.bipush 9, 2) := by decide +kernel
theorem dL_quarter_179 : decode cL_quarter 179 = .ok (.invokestatic 18, 3) := by decide +kernel
theorem dL_quarter_182 : decode cL_quarter 182 = .ok (.iconst 1, 1) := by decide +kernel
theorem dL_quarter_183 : decode cL_quarter 183 = .ok (.iload 5, 2) := by decide +kernel
theorem dL_quarter_185 : decode cL_quarter 185 = .ok (.iconst 3, 1) := by decide +kernel
theorem dL_quarter_186 : decode cL_quarter 186 = .ok (.ishr, 1) := by decide +kernel
theorem dL_quarter_187 : decode cL_quarter 187 = .ok (.iconst 3, 1) := by decide +kernel
theorem dL_quarter_188 : decode cL_quarter 188 = .ok (.invokestatic 18, 3) := by decide +kernel
theorem dL_quarter_191 : decode cL_quarter 191 = .ok (.iadd, 1) := by decide +kernel
theorem dL_quarter_192 : decode cL_quarter 192 = .ok (.invokevirtual 28, 3) := by decide +kernel
theorem dL_quarter_195 : decode cL_quarter 195 = .ok (.pop, 1) := by decide +kernel
theorem dL_quarter_196 : decode cL_quarter 196 = .ok (.iinc 4 1, 3) := by decide +kernel
theorem dL_quarter_199 : decode cL_quarter 199 = .ok (.goto (-86), 3) := by decide +kernel
theorem dL_quarter_202 : decode cL_quarter 202 = .ok (.aload_n 0, 1) := by decide +kernel
theorem dL_quarter_203 : decode cL_quarter 203 = .ok (.bipush 7, 2) := by decide +kernel
theorem dL_quarter_205 : decode cL_quarter 205 = .ok (.invokestatic 12, 3) := by decide +kernel
theorem dL_quarter_208 : decode cL_quarter 208 = .ok (.bipush 7, 2) := by decide +kernel
theorem dL_quarter_210 : decode cL_quarter 210 = .ok (.invokestatic 18, 3) := by decide +kernel
theorem dL_quarter_213 : decode cL_quarter 213 = .ok (.istore 4, 2) := by decide +kernel
theorem dL_quarter_215 : decode cL_quarter 215 = .ok (.iconst 0, 1) := by decide +kernel
theorem dL_quarter_216 : decode cL_quarter 216 = .ok (.istore 5, 2) := by decide +kernel
theorem dL_quarter_218 : decode cL_quarter 218 = .ok (.iload 5, 2) := by decide +kernel
theorem dL_quarter_220 : decode cL_quarter 220 = .ok (.iconst 3, 1) := by decide +kernel
theorem dL_quarter_221 : decode cL_quarter 221 = .ok (.iload 4, 2) := by decide +kernel
theorem dL_quarter_223 : decode cL_quarter 223 = .ok (.imul, 1) := by decide +kernel
theorem dL_quarter_224 : decode cL_quarter 224 = .ok (.if_icmp .ge 71, 3) := by decide +kernel
theorem dL_quarter_227 : decode cL_quarter 227 = .ok (.aload_n 1, 1) := by decide +kernel
theorem dL_quarter_228 : decode cL_quarter 228 = .ok (.iconst 4, 1) := by decide +kernel
theorem dL_quarter_229 : decode cL_quarter 229 = .ok (.invokevirtual 32, 3) := by decide +kernel
theorem dL_quarter_232 : decode cL_quarter 232 = .ok (.iload 4, 2) := by decide +kernel
theorem dL_quarter_234 : decode cL_quarter 234 = .ok (.if_icmp .ge 61, 3) := by decide +kernel
theorem dL_quarter_237 : decode cL_quarter 237 = .ok (.aload_n 0, 1) := by decide +kernel
theorem dL_quarter_238 : decode cL_quarter 238 = .ok (.bipush 8, 2) := by decide +kernel
theorem dL_quarter_240 : decode cL_quarter 240 = .ok (.iload 5, 2) := by decide +kernel
theorem dL_quarter_242 : decode cL_quarter 242 = .ok (.iconst 3, 1) := by decide +kernel
theorem dL_quarter_243 : decode cL_quarter 243 = .ok (.irem, 1) := by decide +kernel
theorem dL_quarter_244 : decode cL_quarter 244 = .ok (.iadd, 1) := by decide +kernel
theorem dL_quarter_245 : decode cL_quarter 245 = .ok (.invokestatic 12, 3) := by decide +kernel
theorem dL_quarter_248 : decode cL_quarter 248 = .ok (.iload 5, 2) := by decide +kernel
theorem dL_quarter_250 : decode cL_quarter 250 = .ok (.iconst 3, 1) := by decide +kernel
theorem dL_quarter_251 : decode cL_quarter 251 = .ok (.idiv, 1) := by decide +kernel
theorem dL_quarter_252 : decode cL_quarter 252 = .ok (.iconst 3, 1) := by decide +kernel
theorem dL_quarter_253 : decode cL_quarter 253 = .ok (.imul, 1) := by decide +kernel
theorem dL_quarter_254 : decode cL_quarter 254 = .ok (.ishr, 1) := by decide +kernel
theorem dL_quarter_255 : decode cL_quarter 255 = .ok (.istore 6, 2) := by decide +kernel
theorem dL_quarter_257 : decode cL_quarter 257 = .ok (.aload_n 1, 1) := by decide +kernel
theorem dL_quarter_258 : decode cL_quarter 258 = .ok (.iload 6, 2) := by decide +kernel
theorem dL_quarter_260 : decode cL_quarter 260 = .ok (.bipush 12, 2) := by decide +kernel
theorem dL_quarter_262 : decode cL_quarter 262 = .ok (.invokestatic 18, 3) := by decide +kernel
theorem dL_quarter_265 : decode cL_quarter 265 = .ok (.iload 6, 2) := by decide +kernel
theorem dL_quarter_267 : decode cL_quarter 267 = .ok (.iconst 4, 1) := by decide +kernel
theorem dL_quarter_268 : decode cL_quarter 268 = .ok (.ishr, 1) := by decide +kernel
theorem dL_quarter_269 : decode cL_quarter 269 = .ok (.bipush 9, 2) := by decide +kernel
theorem dL_quarter_271 : decode cL_quarter 271 = .ok (.invokestatic 18, 3) := by decide +kernel
theorem dL_quarter_274 : decode cL_quarter 274 = .ok (.iconst 1, 1) := by decide +kernel
theorem dL_quarter_275 : decode cL_quarter 275 = .ok (.iload 6, 2) := by decide +kernel
theorem dL_quarter_277 : decode cL_quarter 277 = .ok (.iconst 2, 1) := by decide +kernel
theorem dL_quarter_278 : decode cL_quarter 278 = .ok (.ishr, 1) := by decide +kernel
theorem dL_quarter_279 : decode cL_quarter 279 = .ok (.bipush 9, 2) := by decide +kernel
theorem dL_quarter_281 : decode cL_quarter 281 = .ok (.invokestatic 18, 3) := by decide +kernel
theorem dL_quarter_284 : decode cL_quarter 284 = .ok (.iadd, 1) := by decide +kernel
theorem dL_quarter_285 : decode cL_quarter 285 = .ok (.invokestatic 36, 3) := by decide +kernel
theorem dL_quarter_288 : decode cL_quarter 288 = .ok (.pop, 1) := by decide +kernel
theorem dL_quarter_289 : decode cL_quarter 289 = .ok (.iinc 5 1, 3) := by decide +kernel
theorem dL_quarter_292 : decode cL_quarter 292 = .ok (.goto (-74), 3) := by decide +kernel
theorem dL_quarter_295 : decode cL_quarter 295 = .ok (.aload_n 0, 1) := by decide +kernel
theorem dL_quarter_296 : decode cL_quarter 296 = .ok (.bipush 7, 2) := by decide +kernel
theorem dL_quarter_298 : decode cL_quarter 298 = .ok (.invokestatic 12, 3) := by decide +kernel
theorem dL_quarter_301 : decode cL_quarter 301 = .ok (.iconst 4, 1) := by decide +kernel
theorem dL_quarter_302 : decode cL_quarter 302 = .ok (.ishr, 1) := by decide +kernel
theorem dL_quarter_303 : decode cL_quarter 303 = .ok (.iconst 4, 1) := by decide +kernel
theorem dL_quarter_304 : decode cL_quarter 304 = .ok (.invokestatic 18, 3) := by decide +kernel
theorem dL_quarter_307 : decode cL_quarter 307 = .ok (.istore 5, 2) := by decide +kernel
theorem dL_quarter_309 : decode cL_quarter 309 = .ok (.iconst 0, 1) := by decide +kernel
theorem dL_quarter_310 : decode cL_quarter 310 = .ok (.istore 6, 2) := by decide +kernel
theorem dL_quarter_312 : decode cL_quarter 312 = .ok (.iload 6, 2) := by decide +kernel
theorem dL_quarter_314 : decode cL_quarter 314 = .ok (.iload 5, 2) := by decide +kernel
theorem dL_quarter_316 : decode cL_quarter 316 = .ok (.if_icmp .ge 76, 3) := by decide +kernel
theorem dL_quarter_319 : decode cL_quarter 319 = .ok (.aload_n 0, 1) := by decide +kernel
theorem dL_quarter_320 : decode cL_quarter 320 = .ok (.bipush 11, 2) := by decide +kernel
theorem dL_quarter_322 : decode cL_quarter 322 = .ok (.invokestatic 12, 3) := by decide +kernel
theorem dL_quarter_325 : decode cL_quarter 325 = .ok (.iconst 4, 1) := by decide +kernel
theorem dL_quarter_326 : decode cL_quarter 326 = .ok (.iload 6, 2) := by decide +kernel
theorem dL_quarter_328 : decode cL_quarter 328 = .ok (.imul, 1) := by decide +kernel
theorem dL_quarter_329 : decode cL_quarter 329 = .ok (.ishr, 1) := by decide +kernel
theorem dL_quarter_330 : decode cL_quarter 330 = .ok (.istore 7, 2) := by decide +kernel
theorem dL_quarter_332 : decode cL_quarter 332 = .ok (.iconst 1, 1) := by decide +kernel
theorem dL_quarter_333 : decode cL_quarter 333 = .ok (.iload 7, 2) := by decide +kernel
theorem dL_quarter_335 : decode cL_quarter 335 = .ok (.iconst 3, 1) := by decide +kernel
theorem dL_quarter_336 : decode cL_quarter 336 = .ok (.ishr, 1) := by decide +kernel
theorem dL_quarter_337 : decode cL_quarter 337 = .ok (.bipush 12, 2) := by decide +kernel
theorem dL_quarter_339 : decode cL_quarter 339 = .ok (.invokestatic 18, 3) := by decide +kernel
theorem dL_quarter_342 : decode cL_quarter 342 = .ok (.iadd, 1) := by decide +kernel
theorem dL_quarter_343 : decode cL_quarter 343 = .ok (.istore 8, 2) := by decide +kernel
theorem dL_quarter_345 : decode cL_quarter 345 = .ok (.aload_n 1, 1) := by decide +kernel
theorem dL_quarter_346 : decode cL_quarter 346 = .ok (.iload 7, 2) := by decide +kernel
theorem dL_quarter_348 : decode cL_quarter 348 = .ok (.bipush 12, 2) := by decide +kernel
theorem dL_quarter_350 : decode cL_quarter 350 = .ok (.invokestatic 18, 3) := by decide +kernel
theorem dL_quarter_353 : decode cL_quarter 353 = .ok (.iload 7, 2) := by decide +kernel
theorem dL_quarter_355 : decode cL_quarter 355 = .ok (.iconst 5, 1) := by decide +kernel
theorem dL_quarter_356 : decode cL_quarter 356 = .ok (.ishr, 1) := by decide +kernel
theorem dL_quarter_357 : decode cL_quarter 357 = .ok (.bipush 9, 2) := by decide +kernel
theorem dL_quarter_359 : decode cL_quarter 359 = .ok (.invokestatic 18, 3) := by decide +kernel
theorem dL_quarter_362 : decode cL_quarter 362 = .ok (.iload 8, 2) := by decide +kernel
theorem dL_quarter_364 : decode cL_quarter 364 = .ok (.aload_n 0, 1) := by decide +kernel
theorem dL_quarter_365 : decode cL_quarter 365 = .ok (.bipush 12, 2) := by decide +kernel
theorem dL_quarter_367 : decode cL_quarter 367 = .ok (.invokestatic 12, 3) := by decide +kernel
theorem dL_quarter_370 : decode cL_quarter 370 = .ok (.iload 6, 2) := by decide +kernel
theorem dL_quarter_372 : decode cL_quarter 372 = .ok (.ishr, 1) := by decide +kernel
theorem dL_quarter_373 : decode cL_quarter 373 = .ok (.iconst 1, 1) := by decide +kernel
theorem dL_quarter_374 : decode cL_quarter 374 = .ok (.iconst 2, 1) := by decide +kernel
theorem dL_quarter_375 : decode cL_quarter 375 = .ok (.iload 8, 2) := by decide +kernel
theorem dL_quarter_377 : decode cL_quarter 377 = .ok (.imul, 1) := by decide +kernel
theorem dL_quarter_378 : decode cL_quarter 378 = .ok (.ishl, 1) := by decide +kernel
theorem dL_quarter_379 : decode cL_quarter 379 = .ok (.iconst 1, 1) := by decide +kernel
theorem dL_quarter_380 : decode cL_quarter 380 = .ok (.isub, 1) := by decide +kernel
theorem dL_quarter_381 : decode cL_quarter 381 = .ok (.iand, 1) := by decide +kernel
theorem dL_quarter_382 : decode cL_quarter 382 = .ok (.invokestatic 40, 3) := by decide +kernel
theorem dL_quarter_385 : decode cL_quarter 385 = .ok (.pop, 1) := by decide +kernel
theorem dL_quarter_386 : decode cL_quarter 386 = .ok (.iinc 6 1, 3) := by decide +kernel
theorem dL_quarter_389 : decode cL_quarter 389 = .ok (.goto (-77), 3) := by decide +kernel
theorem dL_quarter_392 : decode cL_quarter 392 = .ok (.iconst 0, 1) := by decide +kernel
theorem dL_quarter_393 : decode cL_quarter 393 = .ok (.istore 6, 2) := by decide +kernel
theorem dL_quarter_395 : decode cL_quarter 395 = .ok (.iload 6, 2) := by decide +kernel
theorem dL_quarter_397 : decode cL_quarter 397 = .ok (.aload_n 1, 1) := by decide +kernel
theorem dL_quarter_398 : decode cL_quarter 398 = .ok (.iconst 4, 1) := by decide +kernel
theorem dL_quarter_399 : decode cL_quarter 399 = .ok (.invokevirtual 32, 3) := by decide +kernel
theorem dL_quarter_402 : decode cL_quarter 402 = .ok (.if_icmp .ge 110, 3) := by decide +kernel
theorem dL_quarter_405 : decode cL_quarter 405 = .ok (.aload_n 0, 1) := by decide +kernel
theorem dL_quarter_406 : decode cL_quarter 406 = .ok (.bipush 13, 2) := by decide +kernel
theorem dL_quarter_408 : decode cL_quarter 408 = .ok (.iload 6, 2) := by decide +kernel
theorem dL_quarter_410 : decode cL_quarter 410 = .ok (.iconst 3, 1) := by decide +kernel
theorem dL_quarter_411 : decode cL_quarter 411 = .ok (.irem, 1) := by decide +kernel
theorem dL_quarter_412 : decode cL_quarter 412 = .ok (.iadd, 1) := by decide +kernel
theorem dL_quarter_413 : decode cL_quarter 413 = .ok (.invokestatic 12, 3) := by decide +kernel
theorem dL_quarter_416 : decode cL_quarter 416 = .ok (.iload 6, 2) := by decide +kernel
theorem dL_quarter_418 : decode cL_quarter 418 = .ok (.iconst 3, 1) := by decide +kernel
theorem dL_quarter_419 : decode cL_quarter 419 = .ok (.idiv, 1) := by decide +kernel
theorem dL_quarter_420 : decode cL_quarter 420 = .ok (.ishr, 1) := by decide +kernel
theorem dL_quarter_421 : decode cL_quarter 421 = .ok (.istore 7, 2) := by decide +kernel
theorem dL_quarter_423 : decode cL_quarter 423 = .ok (.iload 7, 2) := by decide +kernel
theorem dL_quarter_425 : decode cL_quarter 425 = .ok (.bipush 16, 2) := by decide +kernel
theorem dL_quarter_427 : decode cL_quarter 427 = .ok (.invokestatic 18, 3) := by decide +kernel
theorem dL_quarter_430 : decode cL_quarter 430 = .ok (.istore 8, 2) := by decide +kernel
theorem dL_quarter_432 : decode cL_quarter 432 = .ok (.iload 8, 2) := by decide +kernel
theorem dL_quarter_434 : decode cL_quarter 434 = .ok (.ifCond .le 54, 3) := by decide +kernel
theorem dL_quarter_437 : decode cL_quarter 437 = .ok (.aload_n 1, 1) := by decide +kernel
theorem dL_quarter_438 : decode cL_quarter 438 = .ok (.iload 6, 2) := by decide +kernel
theorem dL_quarter_440 : decode cL_quarter 440 = .ok (.iload 7, 2) := by decide +kernel
theorem dL_quarter_442 : decode cL_quarter 442 = .ok (.iload 8, 2) := by decide +kernel
theorem dL_quarter_444 : decode cL_quarter 444 = .ok (.ishr, 1) := by decide +kernel
theorem dL_quarter_445 : decode cL_quarter 445 = .ok (.iconst 3, 1) := by decide +kernel
theorem dL_quarter_446 : decode cL_quarter 446 = .ok (.invokestatic 18, 3) := by decide +kernel
theorem dL_quarter_449 : decode cL_quarter 449 = .ok (.ifCond .ne 18, 3) := by decide +kernel
theorem dL_quarter_452 : decode cL_quarter 452 = .ok (.iload 7, 2) := by decide +kernel
theorem dL_quarter_454 : decode cL_quarter 454 = .ok (.iconst 1, 1) := by decide +kernel
theorem dL_quarter_455 : decode cL_quarter 455 = .ok (.iload 8, 2) := by decide +kernel
theorem dL_quarter_457 : decode cL_quarter 457 = .ok (.iadd, 1) := by decide +kernel
theorem dL_quarter_458 : decode cL_quarter 458 = .ok (.ishr, 1) := by decide +kernel
theorem dL_quarter_459 : decode cL_quarter 459 = .ok (.bipush 12, 2) := by decide +kernel
theorem dL_quarter_461 : decode cL_quarter 461 = .ok (.invokestatic 18, 3) := by decide +kernel
theorem dL_quarter_464 : decode cL_quarter 464 = .ok (.goto 14, 3) := by decide +kernel
theorem dL_quarter_467 : decode cL_quarter 467 = .ok (.iload 7, 2) := by decide +kernel
theorem dL_quarter_469 : decode cL_quarter 469 = .ok (.iconst 2, 1) := by decide +kernel
theorem dL_quarter_470 : decode cL_quarter 470 = .ok (.iload 8, 2) := by decide +kernel
theorem dL_quarter_472 : decode cL_quarter 472 = .ok (.iadd, 1) := by decide +kernel
theorem dL_quarter_473 : decode cL_quarter 473 = .ok (.ishr, 1) := by decide +kernel
theorem dL_quarter_474 : decode cL_quarter 474 = .ok (.iconst 4, 1) := by decide +kernel
theorem dL_quarter_475 : decode cL_quarter 475 = .ok (.invokestatic 18, 3) := by decide +kernel
theorem dL_quarter_478 : decode cL_quarter 478 = .ok (.invokevirtual 44, 3) := by decide +kernel
theorem dL_quarter_481 : decode cL_quarter 481 = .ok (.pop, 1) := by decide +kernel
theorem dL_quarter_482 : decode cL_quarter 482 = .ok (.iinc 8 (-1), 3) := by decide +kernel
theorem dL_quarter_485 : decode cL_quarter 485 = .ok (.goto (-53), 3) := by decide +kernel
theorem dL_quarter_488 : decode cL_quarter 488 = .ok (.iload 7, 2) := by decide +kernel
theorem dL_quarter_490 : decode cL_quarter 490 = .ok (.iconst 5, 1) := by decide +kernel
theorem dL_quarter_491 : decode cL_quarter 491 = .ok (.ishr, 1) := by decide +kernel
theorem dL_quarter_492 : decode cL_quarter 492 = .ok (.iconst 3, 1) := by decide +kernel
theorem dL_quarter_493 : decode cL_quarter 493 = .ok (.invokestatic 18, 3) := by decide +kernel
theorem dL_quarter_496 : decode cL_quarter 496 = .ok (.ifCond .ne 10, 3) := by decide +kernel
theorem dL_quarter_499 : decode cL_quarter 499 = .ok (.aload_n 1, 1) := by decide +kernel
theorem dL_quarter_500 : decode cL_quarter 500 = .ok (.iload 6, 2) := by decide +kernel
theorem dL_quarter_502 : decode cL_quarter 502 = .ok (.invokevirtual 47, 3) := by decide +kernel
theorem dL_quarter_505 : decode cL_quarter 505 = .ok (.pop, 1) := by decide +kernel
theorem dL_quarter_506 : decode cL_quarter 506 = .ok (.iinc 6 1, 3) := by decide +kernel
theorem dL_quarter_509 : decode cL_quarter 509 = .ok (.goto (-114), 3) := by decide +kernel
theorem dL_quarter_512 : decode cL_quarter 512 = .ok (.aload_n 0, 1) := by decide +kernel
theorem dL_quarter_513 : decode cL_quarter 513 = .ok (.bipush 15, 2) := by decide +kernel
theorem dL_quarter_515 : decode cL_quarter 515 = .ok (.invokestatic 12, 3) := by decide +kernel
theorem dL_quarter_518 : decode cL_quarter 518 = .ok (.iconst 2, 1) := by decide +kernel
theorem dL_quarter_519 : decode cL_quarter 519 = .ok (.invokestatic 18, 3) := by decide +kernel
theorem dL_quarter_522 : decode cL_quarter 522 = .ok (.ifCond .ne 23, 3) := by decide +kernel
theorem dL_quarter_525 : decode cL_quarter 525 = .ok (.aload_n 1, 1) := by decide +kernel
theorem dL_quarter_526 : decode cL_quarter 526 = .ok (.iconst 1, 1) := by decide +kernel
theorem dL_quarter_527 : decode cL_quarter 527 = .ok (.aload_n 0, 1) := by decide +kernel
theorem dL_quarter_528 : decode cL_quarter 528 = .ok (.bipush 15, 2) := by decide +kernel
theorem dL_quarter_530 : decode cL_quarter 530 = .ok (.invokestatic 12, 3) := by decide +kernel
theorem dL_quarter_533 : decode cL_quarter 533 = .ok (.iconst 2, 1) := by decide +kernel
theorem dL_quarter_534 : decode cL_quarter 534 = .ok (.ishr, 1) := by decide +kernel
theorem dL_quarter_535 : decode cL_quarter 535 = .ok (.bipush 6, 2) := by decide +kernel
theorem dL_quarter_537 : decode cL_quarter 537 = .ok (.invokestatic 18, 3) := by decide +kernel
theorem dL_quarter_540 : decode cL_quarter 540 = .ok (.iadd, 1) := by decide +kernel
theorem dL_quarter_541 : decode cL_quarter 541 = .ok (.invokevirtual 51, 3) := by decide +kernel
theorem dL_quarter_544 : decode cL_quarter 544 = .ok (.pop, 1) := by decide +kernel
theorem dL_quarter_545 : decode cL_quarter 545 = .ok (.aload_n 1, 1) := by decide +kernel
theorem dL_quarter_546 : decode cL_quarter 546 = .ok (.areturn, 1) := by decide +kernel
theorem dL_gather_0 : decode cL_gather 0 = .ok (.aload_n 0, 1) := by decide +kernel
theorem dL_gather_1 : decode cL_gather 1 = .ok (.iload_n 1, 1) := by decide +kernel
theorem dL_gather_2 : decode cL_gather 2 = .ok (.iload_n 2, 1) := by decide +kernel
theorem dL_gather_3 : decode cL_gather 3 = .ok (.iload_n 3, 1) := by decide +kernel
theorem dL_gather_4 : decode cL_gather 4 = .ok (.invokevirtual 54, 3) := by decide +kernel
theorem dL_gather_7 : decode cL_gather 7 = .ok (.ireturn, 1) := by decide +kernel
theorem dL_gather_8 : decode cL_gather 8 = .ok (.astore 4, 2) := by decide +kernel
theorem dL_gather_10 : decode cL_gather 10 = .ok (.iconst (-1), 1) := by decide +kernel
theorem dL_gather_11 : decode cL_gather 11 = .ok (.ireturn, 1) := by decide +kernel
theorem dL_patrol_0 : decode cL_patrol 0 = .ok (.aload_n 0, 1) := by decide +kernel
theorem dL_patrol_1 : decode cL_patrol 1 = .ok (.iload_n 1, 1) := by decide +kernel
theorem dL_patrol_2 : decode cL_patrol 2 = .ok (.iload_n 2, 1) := by decide +kernel
theorem dL_patrol_3 : decode cL_patrol 3 = .ok (.iload_n 3, 1) := by decide +kernel
theorem dL_patrol_4 : decode cL_patrol 4 = .ok (.iload 4, 2) := by decide +kernel
theorem dL_patrol_6 : decode cL_patrol 6 = .ok (.invokevirtual 58, 3) := by decide +kernel
theorem dL_patrol_9 : decode cL_patrol 9 = .ok (.ireturn, 1) := by decide +kernel
theorem dL_patrol_10 : decode cL_patrol 10 = .ok (.astore 5, 2) := by decide +kernel
theorem dL_patrol_12 : decode cL_patrol 12 = .ok (.iconst (-1), 1) := by decide +kernel
theorem dL_patrol_13 : decode cL_patrol 13 = .ok (.ireturn, 1) := by decide +kernel
theorem dL_order_0 : decode cL_order 0 = .ok (.aload_n 0, 1) := by decide +kernel
theorem dL_order_1 : decode cL_order 1 = .ok (.iload_n 1, 1) := by decide +kernel
theorem dL_order_2 : decode cL_order 2 = .ok (.iload_n 2, 1) := by decide +kernel
theorem dL_order_3 : decode cL_order 3 = .ok (.invokevirtual 44, 3) := by decide +kernel
theorem dL_order_6 : decode cL_order 6 = .ok (.ireturn, 1) := by decide +kernel
theorem dL_order_7 : decode cL_order 7 = .ok (.astore_n 3, 1) := by decide +kernel
theorem dL_order_8 : decode cL_order 8 = .ok (.iconst (-1), 1) := by decide +kernel
theorem dL_order_9 : decode cL_order 9 = .ok (.ireturn, 1) := by decide +kernel
theorem dL_law_0 : decode cL_law 0 = .ok (.aload_n 0, 1) := by decide +kernel
theorem dL_law_1 : decode cL_law 1 = .ok (.invokestatic 61, 3) := by decide +kernel
theorem dL_law_4 : decode cL_law 4 = .ok (.astore_n 1, 1) := by decide +kernel
theorem dL_law_5 : decode cL_law 5 = .ok (.iconst 0, 1) := by decide +kernel
theorem dL_law_6 : decode cL_law 6 = .ok (.istore_n 2, 1) := by decide +kernel
theorem dL_law_7 : decode cL_law 7 = .ok (.iload_n 2, 1) := by decide +kernel
theorem dL_law_8 : decode cL_law 8 = .ok (.bipush 6, 2) := by decide +kernel
theorem dL_law_10 : decode cL_law 10 = .ok (.if_icmp .ge 17, 3) := by decide +kernel
theorem dL_law_13 : decode cL_law 13 = .ok (.aload_n 1, 1) := by decide +kernel
theorem dL_law_14 : decode cL_law 14 = .ok (.iload_n 2, 1) := by decide +kernel
theorem dL_law_15 : decode cL_law 15 = .ok (.invokestatic 65, 3) := by decide +kernel
theorem dL_law_18 : decode cL_law 18 = .ok (.ifCond .eq 9, 3) := by decide +kernel
theorem dL_law_21 : decode cL_law 21 = .ok (.iinc 2 1, 3) := by decide +kernel
theorem dL_law_24 : decode cL_law 24 = .ok (.goto (-17), 3) := by decide +kernel
theorem dL_law_27 : decode cL_law 27 = .ok (.aload_n 1, 1) := by decide +kernel
theorem dL_law_28 : decode cL_law 28 = .ok (.bipush 6, 2) := by decide +kernel
theorem dL_law_30 : decode cL_law 30 = .ok (.invokevirtual 32, 3) := by decide +kernel
theorem dL_law_33 : decode cL_law 33 = .ok (.istore_n 3, 1) := by decide +kernel
theorem dL_law_34 : decode cL_law 34 = .ok (.iconst 0, 1) := by decide +kernel
theorem dL_law_35 : decode cL_law 35 = .ok (.istore 4, 2) := by decide +kernel
theorem dL_law_37 : decode cL_law 37 = .ok (.iload 4, 2) := by decide +kernel
theorem dL_law_39 : decode cL_law 39 = .ok (.bipush 20, 2) := by decide +kernel
theorem dL_law_41 : decode cL_law 41 = .ok (.if_icmp .ge 1275, 3) := by decide +kernel
theorem dL_law_44 : decode cL_law 44 = .ok (.aload_n 0, 1) := by decide +kernel
theorem dL_law_45 : decode cL_law 45 = .ok (.iload 4, 2) := by decide +kernel
theorem dL_law_47 : decode cL_law 47 = .ok (.bipush 16, 2) := by decide +kernel
theorem dL_law_49 : decode cL_law 49 = .ok (.irem, 1) := by decide +kernel
theorem dL_law_50 : decode cL_law 50 = .ok (.invokestatic 12, 3) := by decide +kernel
theorem dL_law_53 : decode cL_law 53 = .ok (.iload 4, 2) := by decide +kernel
theorem dL_law_55 : decode cL_law 55 = .ok (.bipush 16, 2) := by decide +kernel
theorem dL_law_57 : decode cL_law 57 = .ok (.idiv, 1) := by decide +kernel
theorem dL_law_58 : decode cL_law 58 = .ok (.iconst 5, 1) := by decide +kernel
theorem dL_law_59 : decode cL_law 59 = .ok (.imul, 1) := by decide +kernel
theorem dL_law_60 : decode cL_law 60 = .ok (.ishr, 1) := by decide +kernel
theorem dL_law_61 : decode cL_law 61 = .ok (.istore 5, 2) := by decide +kernel
theorem dL_law_63 : decode cL_law 63 = .ok (.iload 5, 2) := by decide +kernel
theorem dL_law_65 : decode cL_law 65 = .ok (.iconst 4, 1) := by decide +kernel
theorem dL_law_66 : decode cL_law 66 = .ok (.ishr, 1) := by decide +kernel
theorem dL_law_67 : decode cL_law 67 = .ok (.bipush 12, 2) := by decide +kernel
theorem dL_law_69 : decode cL_law 69 = .ok (.invokestatic 18, 3) := by decide +kernel
theorem dL_law_72 : decode cL_law 72 = .ok (.istore 6, 2) := by decide +kernel
theorem dL_law_74 : decode cL_law 74 = .ok (.iload 5, 2) := by decide +kernel
theorem dL_law_76 : decode cL_law 76 = .ok (.iconst 2, 1) := by decide +kernel
theorem dL_law_77 : decode cL_law 77 = .ok (.ishr, 1) := by decide +kernel
theorem dL_law_78 : decode cL_law 78 = .ok (.bipush 6, 2) := by decide +kernel
theorem dL_law_80 : decode cL_law 80 = .ok (.invokestatic 18, 3) := by decide +kernel
theorem dL_law_83 : decode cL_law 83 = .ok (.istore 7, 2) := by decide +kernel
theorem dL_law_85 : decode cL_law 85 = .ok (.iload 7, 2) := by decide +kernel
theorem dL_law_87 : decode cL_law 87 = .ok (.iload_n 2, 1) := by decide +kernel
theorem dL_law_88 : decode cL_law 88 = .ok (.if_icmp .ge 54, 3) := by decide +kernel
theorem dL_law_91 : decode cL_law 91 = .ok (.aload_n 1, 1) := by decide +kernel
theorem dL_law_92 : decode cL_law 92 = .ok (.iload 7, 2) := by decide +kernel
theorem dL_law_94 : decode cL_law 94 = .ok (.iconst 4, 1) := by decide +kernel
theorem dL_law_95 : decode cL_law 95 = .ok (.invokevirtual 69, 3) := by decide +kernel
theorem dL_law_98 : decode cL_law 98 = .ok (.istore 8, 2) := by decide +kernel
theorem dL_law_100 : decode cL_law 100 = .ok (.aload_n 1, 1) := by decide +kernel
theorem dL_law_101 : decode cL_law 101 = .ok (.iload 7, 2) := by decide +kernel
theorem dL_law_103 : decode cL_law 103 = .ok (.iload 6, 2) := by decide +kernel
theorem dL_law_105 : decode cL_law 105 = .ok (.invokestatic 72, 3) := by decide +kernel
theorem dL_law_108 : decode cL_law 108 = .ok (.istore 9, 2) := by decide +kernel
theorem dL_law_110 : decode cL_law 110 = .ok (.iload 9, 2) := by decide +kernel
theorem dL_law_112 : decode cL_law 112 = .ok (.aload_n 1, 1) := by decide +kernel
theorem dL_law_113 : decode cL_law 113 = .ok (.iload 7, 2) := by decide +kernel
theorem dL_law_115 : decode cL_law 115 = .ok (.iconst 2, 1) := by decide +kernel
theorem dL_law_116 : decode cL_law 116 = .ok (.invokevirtual 69, 3) := by decide +kernel
theorem dL_law_119 : decode cL_law 119 = .ok (.ifCond .le 17, 3) := by decide +kernel
theorem dL_law_122 : decode cL_law 122 = .ok (.iload 8, 2) := by decide +kernel
theorem dL_law_124 : decode cL_law 124 = .ok (.bipush 24, 2) := by decide +kernel
theorem dL_law_126 : decode cL_law 126 = .ok (.if_icmp .ge 10, 3) := by decide +kernel
theorem dL_law_129 : decode cL_law 129 = .ok (.iload 8, 2) := by decide +kernel
theorem dL_law_131 : decode cL_law 131 = .ok (.iconst 1, 1) := by decide +kernel
theorem dL_law_132 : decode cL_law 132 = .ok (.iadd, 1) := by decide +kernel
theorem dL_law_133 : decode cL_law 133 = .ok (.goto 4, 3) := by decide +kernel
theorem dL_law_136 : decode cL_law 136 = .ok (.iconst (-1), 1) := by decide +kernel
theorem dL_law_137 : decode cL_law 137 = .ok (.if_icmp .eq 5, 3) := by decide +kernel
theorem dL_law_140 : decode cL_law 140 = .ok (.iconst 0, 1) := by decide +kernel
theorem dL_law_141 : decode cL_law 141 = .ok (.ireturn, 1) := by decide +kernel
theorem dL_law_142 : decode cL_law 142 = .ok (.iload_n 2, 1) := by decide +kernel
theorem dL_law_143 : decode cL_law 143 = .ok (.bipush 8, 2) := by decide +kernel
theorem dL_law_145 : decode cL_law 145 = .ok (.multianewarray 75 2, 4) := by decide +kernel
theorem dL_law_149 : decode cL_law 149 = .ok (.astore 8, 2) := by decide +kernel
theorem dL_law_151 : decode cL_law 151 = .ok (.iconst 0, 1) := by decide +kernel
theorem dL_law_152 : decode cL_law 152 = .ok (.istore 9, 2) := by decide +kernel
theorem dL_law_154 : decode cL_law 154 = .ok (.iload 9, 2) := by decide +kernel
theorem dL_law_156 : decode cL_law 156 = .ok (.iload_n 2, 1) := by decide +kernel
theorem dL_law_157 : decode cL_law 157 = .ok (.if_icmp .ge 41, 3) := by decide +kernel
theorem dL_law_160 : decode cL_law 160 = .ok (.iconst 0, 1) := by decide +kernel
theorem dL_law_161 : decode cL_law 161 = .ok (.istore 10, 2) := by decide +kernel
theorem dL_law_163 : decode cL_law 163 = .ok (.iload 10, 2) := by decide +kernel
theorem dL_law_165 : decode cL_law 165 = .ok (.bipush 8, 2) := by decide +kernel
theorem dL_law_167 : decode cL_law 167 = .ok (.if_icmp .ge 25, 3) := by decide +kernel
theorem dL_law_170 : decode cL_law 170 = .ok (.aload 8, 2) := by decide +kernel
theorem dL_law_172 : decode cL_law 172 = .ok (.iload 9, 2) := by decide +kernel
theorem dL_law_174 : decode cL_law 174 = .ok (.aaload, 1) := by decide +kernel
theorem dL_law_175 : decode cL_law 175 = .ok (.iload 10, 2) := by decide +kernel
theorem dL_law_177 : decode cL_law 177 = .ok (.aload_n 1, 1) := by decide +kernel
theorem dL_law_178 : decode cL_law 178 = .ok (.iload 9, 2) := by decide +kernel
theorem dL_law_180 : decode cL_law 180 = .ok (.iload 10, 2) := by decide +kernel
theorem dL_law_182 : decode cL_law 182 = .ok (.invokevirtual 69, 3) := by decide +kernel
theorem dL_law_185 : decode cL_law 185 = .ok (.iastore, 1) := by decide +kernel
theorem dL_law_186 : decode cL_law 186 = .ok (.iinc 10 1, 3) := by decide +kernel
theorem dL_law_189 : decode cL_law 189 = .ok (.goto (-26), 3) := by decide +kernel
theorem dL_law_192 : decode cL_law 192 = .ok (.iinc 9 1, 3) := by decide +kernel
theorem dL_law_195 : decode cL_law 195 = .ok (.goto (-41), 3) := by decide +kernel
theorem dL_law_198 : decode cL_law 198 = .ok (.iload_n 3, 1) := by decide +kernel
theorem dL_law_199 : decode cL_law 199 = .ok (.iconst 3, 1) := by decide +kernel
theorem dL_law_200 : decode cL_law 200 = .ok (.multianewarray 75 2, 4) := by decide +kernel
theorem dL_law_204 : decode cL_law 204 = .ok (.astore 9, 2) := by decide +kernel
theorem dL_law_206 : decode cL_law 206 = .ok (.iconst 0, 1) := by decide +kernel
theorem dL_law_207 : decode cL_law 207 = .ok (.istore 10, 2) := by decide +kernel
theorem dL_law_209 : decode cL_law 209 = .ok (.iload 10, 2) := by decide +kernel
theorem dL_law_211 : decode cL_law 211 = .ok (.iload_n 3, 1) := by decide +kernel
theorem dL_law_212 : decode cL_law 212 = .ok (.if_icmp .ge 40, 3) := by decide +kernel
theorem dL_law_215 : decode cL_law 215 = .ok (.iconst 0, 1) := by decide +kernel
theorem dL_law_216 : decode cL_law 216 = .ok (.istore 11, 2) := by decide +kernel
theorem dL_law_218 : decode cL_law 218 = .ok (.iload 11, 2) := by decide +kernel
theorem dL_law_220 : decode cL_law 220 = .ok (.iconst 3, 1) := by decide +kernel
theorem dL_law_221 : decode cL_law 221 = .ok (.if_icmp .ge 25, 3) := by decide +kernel
theorem dL_law_224 : decode cL_law 224 = .ok (.aload 9, 2) := by decide +kernel
theorem dL_law_226 : decode cL_law 226 = .ok (.iload 10, 2) := by decide +kernel
theorem dL_law_228 : decode cL_law 228 = .ok (.aaload, 1) := by decide +kernel
theorem dL_law_229 : decode cL_law 229 = .ok (.iload 11, 2) := by decide +kernel
theorem dL_law_231 : decode cL_law 231 = .ok (.aload_n 1, 1) := by decide +kernel
theorem dL_law_232 : decode cL_law 232 = .ok (.iload 10, 2) := by decide +kernel
theorem dL_law_234 : decode cL_law 234 = .ok (.iload 11, 2) := by decide +kernel
theorem dL_law_236 : decode cL_law 236 = .ok (.invokevirtual 77, 3) := by decide +kernel
theorem dL_law_239 : decode cL_law 239 = .ok (.iastore, 1) := by decide +kernel
theorem dL_law_240 : decode cL_law 240 = .ok (.iinc 11 1, 3) := by decide +kernel
theorem dL_law_243 : decode cL_law 243 = .ok (.goto (-25), 3) := by decide +kernel
theorem dL_law_246 : decode cL_law 246 = .ok (.iinc 10 1, 3) := by decide +kernel
theorem dL_law_249 : decode cL_law 249 = .ok (.goto (-40), 3) := by decide +kernel
theorem dL_law_252 : decode cL_law 252 = .ok (.bipush 108, 2) := by decide +kernel
theorem dL_law_254 : decode cL_law 254 = .ok (.newarray .int, 2) := by decide +kernel
theorem dL_law_256 : decode cL_law 256 = .ok (.astore 10, 2) := by decide +kernel
theorem dL_law_258 : decode cL_law 258 = .ok (.iconst 0, 1) := by decide +kernel
theorem dL_law_259 : decode cL_law 259 = .ok (.istore 11, 2) := by decide +kernel
theorem dL_law_261 : decode cL_law 261 = .ok (.iload 11, 2) := by decide +kernel
theorem dL_law_263 : decode cL_law 263 = .ok (.bipush 108, 2) := by decide +kernel
theorem dL_law_265 : decode cL_law 265 = .ok (.if_icmp .ge 28, 3) := by decide +kernel
theorem dL_law_268 : decode cL_law 268 = .ok (.aload 10, 2) := by decide +kernel
theorem dL_law_270 : decode cL_law 270 = .ok (.iload 11, 2) := by decide +kernel
theorem dL_law_272 : decode cL_law 272 = .ok (.aload_n 1, 1) := by decide +kernel
theorem dL_law_273 : decode cL_law 273 = .ok (.iload 11, 2) := by decide +kernel
theorem dL_law_275 : decode cL_law 275 = .ok (.bipush 12, 2) := by decide +kernel
theorem dL_law_277 : decode cL_law 277 = .ok (.irem, 1) := by decide +kernel
theorem dL_law_278 : decode cL_law 278 = .ok (.iload 11, 2) := by decide +kernel
theorem dL_law_280 : decode cL_law 280 = .ok (.bipush 12, 2) := by decide +kernel
theorem dL_law_282 : decode cL_law 282 = .ok (.idiv, 1) := by decide +kernel
theorem dL_law_283 : decode cL_law 283 = .ok (.invokevirtual 22, 3) := by decide +kernel
theorem dL_law_286 : decode cL_law 286 = .ok (.iastore, 1) := by decide +kernel
theorem dL_law_287 : decode cL_law 287 = .ok (.iinc 11 1, 3) := by decide +kernel
theorem dL_law_290 : decode cL_law 290 = .ok (.goto (-29), 3) := by decide +kernel
theorem dL_law_293 : decode cL_law 293 = .ok (.aload_n 1, 1) := by decide +kernel
theorem dL_law_294 : decode cL_law 294 = .ok (.iconst 1, 1) := by decide +kernel
theorem dL_law_295 : decode cL_law 295 = .ok (.invokevirtual 32, 3) := by decide +kernel
theorem dL_law_298 : decode cL_law 298 = .ok (.istore 11, 2) := by decide +kernel
theorem dL_law_300 : decode cL_law 300 = .ok (.aload_n 1, 1) := by decide +kernel
theorem dL_law_301 : decode cL_law 301 = .ok (.iconst 2, 1) := by decide +kernel
theorem dL_law_302 : decode cL_law 302 = .ok (.invokevirtual 32, 3) := by decide +kernel
theorem dL_law_305 : decode cL_law 305 = .ok (.istore 12, 2) := by decide +kernel
theorem dL_law_307 : decode cL_law 307 = .ok (.aload_n 1, 1) := by decide +kernel
theorem dL_law_308 : decode cL_law 308 = .ok (.bipush 7, 2) := by decide +kernel
theorem dL_law_310 : decode cL_law 310 = .ok (.invokevirtual 32, 3) := by decide +kernel
theorem dL_law_313 : decode cL_law 313 = .ok (.istore 13, 2) := by decide +kernel
theorem dL_law_315 : decode cL_law 315 = .ok (.aload_n 1, 1) := by decide +kernel
theorem dL_law_316 : decode cL_law 316 = .ok (.invokevirtual 80, 3) := by decide +kernel
theorem dL_law_319 : decode cL_law 319 = .ok (.lstore 14, 2) := by decide +kernel
theorem dL_law_321 : decode cL_law 321 = .ok (.aload_n 1, 1) := by decide +kernel
theorem dL_law_322 : decode cL_law 322 = .ok (.iconst 1, 1) := by decide +kernel
theorem dL_law_323 : decode cL_law 323 = .ok (.iconst 0, 1) := by decide +kernel
theorem dL_law_324 : decode cL_law 324 = .ok (.invokevirtual 84, 3) := by decide +kernel
theorem dL_law_327 : decode cL_law 327 = .ok (.istore 16, 2) := by decide +kernel
theorem dL_law_329 : decode cL_law 329 = .ok (.aload_n 1, 1) := by decide +kernel
theorem dL_law_330 : decode cL_law 330 = .ok (.invokevirtual 87, 3) := by decide +kernel
theorem dL_law_333 : decode cL_law 333 = .ok (.istore 17, 2) := by decide +kernel
theorem dL_law_335 : decode cL_law 335 = .ok (.aload_n 1, 1) := by decide +kernel
theorem dL_law_336 : decode cL_law 336 = .ok (.iconst 1, 1) := by decide +kernel
theorem dL_law_337 : decode cL_law 337 = .ok (.iconst 2, 1) := by decide +kernel
theorem dL_law_338 : decode cL_law 338 = .ok (.invokevirtual 84, 3) := by decide +kernel
theorem dL_law_341 : decode cL_law 341 = .ok (.istore 18, 2) := by decide +kernel
theorem dL_law_343 : decode cL_law 343 = .ok (.iload 7, 2) := by decide +kernel
theorem dL_law_345 : decode cL_law 345 = .ok (.iload_n 2, 1) := by decide +kernel
theorem dL_law_346 : decode cL_law 346 = .ok (.if_icmp .ge 12, 3) := by decide +kernel
theorem dL_law_349 : decode cL_law 349 = .ok (.aload_n 1, 1) := by decide +kernel
theorem dL_law_350 : decode cL_law 350 = .ok (.iload 7, 2) := by decide +kernel
theorem dL_law_352 : decode cL_law 352 = .ok (.invokevirtual 91, 3) := by decide +kernel
theorem dL_law_355 : decode cL_law 355 = .ok (.goto 4, 3) := by decide +kernel
theorem dL_law_358 : decode cL_law 358 = .ok (.iconst (-1), 1) := by decide +kernel
theorem dL_law_359 : decode cL_law 359 = .ok (.istore 19, 2) := by decide +kernel
theorem dL_law_361 : decode cL_law 361 = .ok (.aload_n 1, 1) := by decide +kernel
theorem dL_law_362 : decode cL_law 362 = .ok (.invokevirtual 80, 3) := by decide +kernel
theorem dL_law_365 : decode cL_law 365 = .ok (.lload 14, 2) := by decide +kernel
theorem dL_law_367 : decode cL_law 367 = .ok (.lcmp, 1) := by decide +kernel
theorem dL_law_368 : decode cL_law 368 = .ok (.ifCond .ne 56, 3) := by decide +kernel
theorem dL_law_371 : decode cL_law 371 = .ok (.iload 17, 2) := by decide +kernel
theorem dL_law_373 : decode cL_law 373 = .ok (.ifCond .lt 51, 3) := by decide +kernel
theorem dL_law_376 : decode cL_law 376 = .ok (.iload 17, 2) := by decide +kernel
theorem dL_law_378 : decode cL_law 378 = .ok (.bipush 9, 2) := by decide +kernel
theorem dL_law_380 : decode cL_law 380 = .ok (.if_icmp .gt 44, 3) := by decide +kernel
theorem dL_law_383 : decode cL_law 383 = .ok (.iload 19, 2) := by decide +kernel
theorem dL_law_385 : decode cL_law 385 = .ok (.bipush 11, 2) := by decide +kernel
theorem dL_law_387 : decode cL_law 387 = .ok (.if_icmp .gt 37, 3) := by decide +kernel
theorem dL_law_390 : decode cL_law 390 = .ok (.iload 7, 2) := by decide +kernel
theorem dL_law_392 : decode cL_law 392 = .ok (.iload_n 2, 1) := by decide +kernel
theorem dL_law_393 : decode cL_law 393 = .ok (.if_icmp .ge 33, 3) := by decide +kernel
theorem dL_law_396 : decode cL_law 396 = .ok (.iload 19, 2) := by decide +kernel
