theorem dL_below_0 : decode cL_below 0 = .ok (.iload_n 0, 1) := by decide +kernel
theorem dL_below_1 : decode cL_below 1 = .ok (.ldc 7, 2) := by decide +kernel
theorem dL_below_3 : decode cL_below 3 = .ok (.iand, 1) := by decide +kernel
theorem dL_below_4 : decode cL_below 4 = .ok (.iload_n 1, 1) := by decide +kernel
theorem dL_below_5 : decode cL_below 5 = .ok (.irem, 1) := by decide +kernel
theorem dL_below_6 : decode cL_below 6 = .ok (.ireturn, 1) := by decide +kernel
theorem dL_cell_0 : decode cL_cell 0 = .ok (.iload_n 1, 1) := by decide +kernel
theorem dL_cell_1 : decode cL_cell 1 = .ok (.aload_n 0, 1) := by decide +kernel
theorem dL_cell_2 : decode cL_cell 2 = .ok (.arraylength, 1) := by decide +kernel
theorem dL_cell_3 : decode cL_cell 3 = .ok (.if_icmp .ge 9, 3) := by decide +kernel
theorem dL_cell_6 : decode cL_cell 6 = .ok (.aload_n 0, 1) := by decide +kernel
theorem dL_cell_7 : decode cL_cell 7 = .ok (.iload_n 1, 1) := by decide +kernel
theorem dL_cell_8 : decode cL_cell 8 = .ok (.iaload, 1) := by decide +kernel
theorem dL_cell_9 : decode cL_cell 9 = .ok (.goto 9, 3) := by decide +kernel
theorem dL_cell_12 : decode cL_cell 12 = .ok (.ldc 8, 2) := by decide +kernel
theorem dL_cell_14 : decode cL_cell 14 = .ok (.iload_n 1, 1) := by decide +kernel
theorem dL_cell_15 : decode cL_cell 15 = .ok (.iconst 3, 1) := by decide +kernel
theorem dL_cell_16 : decode cL_cell 16 = .ok (.iadd, 1) := by decide +kernel
theorem dL_cell_17 : decode cL_cell 17 = .ok (.imul, 1) := by decide +kernel
theorem dL_cell_18 : decode cL_cell 18 = .ok (.ireturn, 1) := by decide +kernel
theorem dL_build_0 : decode cL_build 0 = .ok (.new 9, 3) := by decide +kernel
theorem dL_build_3 : decode cL_build 3 = .ok (.dup, 1) := by decide +kernel
theorem dL_build_4 : decode cL_build 4 = .ok (.invokespecial 11, 3) := by decide +kernel
theorem dL_build_7 : decode cL_build 7 = .ok (.astore_n 2, 1) := by decide +kernel
theorem dL_build_8 : decode cL_build 8 = .ok (.aload_n 1, 1) := by decide +kernel
theorem dL_build_9 : decode cL_build 9 = .ok (.iconst 0, 1) := by decide +kernel
theorem dL_build_10 : decode cL_build 10 = .ok (.invokestatic 12, 3) := by decide +kernel
theorem dL_build_13 : decode cL_build 13 = .ok (.bipush 40, 2) := by decide +kernel
theorem dL_build_15 : decode cL_build 15 = .ok (.invokestatic 18, 3) := by decide +kernel
theorem dL_build_18 : decode cL_build 18 = .ok (.istore_n 3, 1) := by decide +kernel
theorem dL_build_19 : decode cL_build 19 = .ok (.aload_n 1, 1) := by decide +kernel
theorem dL_build_20 : decode cL_build 20 = .ok (.iconst 0, 1) := by decide +kernel
theorem dL_build_21 : decode cL_build 21 = .ok (.invokestatic 12, 3) := by decide +kernel
theorem dL_build_24 : decode cL_build 24 = .ok (.iconst 4, 1) := by decide +kernel
theorem dL_build_25 : decode cL_build 25 = .ok (.ishr, 1) := by decide +kernel
theorem dL_build_26 : decode cL_build 26 = .ok (.bipush 25, 2) := by decide +kernel
theorem dL_build_28 : decode cL_build 28 = .ok (.invokestatic 18, 3) := by decide +kernel
theorem dL_build_31 : decode cL_build 31 = .ok (.istore 4, 2) := by decide +kernel
theorem dL_build_33 : decode cL_build 33 = .ok (.iconst 0, 1) := by decide +kernel
theorem dL_build_34 : decode cL_build 34 = .ok (.istore 5, 2) := by decide +kernel
theorem dL_build_36 : decode cL_build 36 = .ok (.iload 5, 2) := by decide +kernel
theorem dL_build_38 : decode cL_build 38 = .ok (.bipush 40, 2) := by decide +kernel
theorem dL_build_40 : decode cL_build 40 = .ok (.if_icmp .ge 99, 3) := by decide +kernel
theorem dL_build_43 : decode cL_build 43 = .ok (.iload 5, 2) := by decide +kernel
theorem dL_build_45 : decode cL_build 45 = .ok (.iload_n 3, 1) := by decide +kernel
theorem dL_build_46 : decode cL_build 46 = .ok (.isub, 1) := by decide +kernel
theorem dL_build_47 : decode cL_build 47 = .ok (.bipush 40, 2) := by decide +kernel
theorem dL_build_49 : decode cL_build 49 = .ok (.iadd, 1) := by decide +kernel
theorem dL_build_50 : decode cL_build 50 = .ok (.bipush 40, 2) := by decide +kernel
theorem dL_build_52 : decode cL_build 52 = .ok (.irem, 1) := by decide +kernel
theorem dL_build_53 : decode cL_build 53 = .ok (.iload 4, 2) := by decide +kernel
theorem dL_build_55 : decode cL_build 55 = .ok (.if_icmp .ge 7, 3) := by decide +kernel
theorem dL_build_58 : decode cL_build 58 = .ok (.iconst 1, 1) := by decide +kernel
theorem dL_build_59 : decode cL_build 59 = .ok (.goto 4, 3) := by decide +kernel
theorem dL_build_62 : decode cL_build 62 = .ok (.iconst 0, 1) := by decide +kernel
theorem dL_build_63 : decode cL_build 63 = .ok (.istore 6, 2) := by decide +kernel
theorem dL_build_65 : decode cL_build 65 = .ok (.iload 6, 2) := by decide +kernel
theorem dL_build_67 : decode cL_build 67 = .ok (.ifCond .eq 23, 3) := by decide +kernel
theorem dL_build_70 : decode cL_build 70 = .ok (.aload_n 1, 1) := by decide +kernel
theorem dL_build_71 : decode cL_build 71 = .ok (.iconst 1, 1) := by decide +kernel
theorem dL_build_72 : decode cL_build 72 = .ok (.invokestatic 12, 3) := by decide +kernel
theorem dL_build_75 : decode cL_build 75 = .ok (.iload 5, 2) := by decide +kernel
theorem dL_build_77 : decode cL_build 77 = .ok (.bipush 20, 2) := by decide +kernel
theorem dL_build_79 : decode cL_build 79 = .ok (.irem, 1) := by decide +kernel
theorem dL_build_80 : decode cL_build 80 = .ok (.ishr, 1) := by decide +kernel
theorem dL_build_81 : decode cL_build 81 = .ok (.bipush 10, 2) := by decide +kernel
theorem dL_build_83 : decode cL_build 83 = .ok (.invokestatic 18, 3) := by decide +kernel
theorem dL_build_86 : decode cL_build 86 = .ok (.ineg, 1) := by decide +kernel
theorem dL_build_87 : decode cL_build 87 = .ok (.goto 21, 3) := by decide +kernel
theorem dL_build_90 : decode cL_build 90 = .ok (.aload_n 1, 1) := by decide +kernel
theorem dL_build_91 : decode cL_build 91 = .ok (.iconst 2, 1) := by decide +kernel
theorem dL_build_92 : decode cL_build 92 = .ok (.invokestatic 12, 3) := by decide +kernel
theorem dL_build_95 : decode cL_build 95 = .ok (.iload 5, 2) := by decide +kernel
theorem dL_build_97 : decode cL_build 97 = .ok (.bipush 20, 2) := by decide +kernel
theorem dL_build_99 : decode cL_build 99 = .ok (.irem, 1) := by decide +kernel
theorem dL_build_100 : decode cL_build 100 = .ok (.ishr, 1) := by decide +kernel
theorem dL_build_101 : decode cL_build 101 = .ok (.bipush 12, 2) := by decide +kernel
theorem dL_build_103 : decode cL_build 103 = .ok (.invokestatic 18, 3) := by decide +kernel
theorem dL_build_106 : decode cL_build 106 = .ok (.iconst 2, 1) := by decide +kernel
theorem dL_build_107 : decode cL_build 107 = .ok (.isub, 1) := by decide +kernel
theorem dL_build_108 : decode cL_build 108 = .ok (.istore 7, 2) := by decide +kernel
theorem dL_build_110 : decode cL_build 110 = .ok (.aload_n 2, 1) := by decide +kernel
theorem dL_build_111 : decode cL_build 111 = .ok (.getfield 22, 3) := by decide +kernel
theorem dL_build_114 : decode cL_build 114 = .ok (.iload 5, 2) := by decide +kernel
theorem dL_build_116 : decode cL_build 116 = .ok (.iload 7, 2) := by decide +kernel
theorem dL_build_118 : decode cL_build 118 = .ok (.iastore, 1) := by decide +kernel
theorem dL_build_119 : decode cL_build 119 = .ok (.aload_n 0, 1) := by decide +kernel
theorem dL_build_120 : decode cL_build 120 = .ok (.iload 5, 2) := by decide +kernel
theorem dL_build_122 : decode cL_build 122 = .ok (.iload 7, 2) := by decide +kernel
theorem dL_build_124 : decode cL_build 124 = .ok (.invokevirtual 26, 3) := by decide +kernel
theorem dL_build_127 : decode cL_build 127 = .ok (.iconst 4, 1) := by decide +kernel
theorem dL_build_128 : decode cL_build 128 = .ok (.if_icmp .eq 5, 3) := by decide +kernel
theorem dL_build_131 : decode cL_build 131 = .ok (.aconst_null, 1) := by decide +kernel
theorem dL_build_132 : decode cL_build 132 = .ok (.areturn, 1) := by decide +kernel
theorem dL_build_133 : decode cL_build 133 = .ok (.iinc 5 1, 3) := by decide +kernel
theorem dL_build_136 : decode cL_build 136 = .ok (.goto (-100), 3) := by decide +kernel
theorem dL_build_139 : decode cL_build 139 = .ok (.iconst 1, 1) := by decide +kernel
theorem dL_build_140 : decode cL_build 140 = .ok (.aload_n 1, 1) := by decide +kernel
theorem dL_build_141 : decode cL_build 141 = .ok (.iconst 3, 1) := by decide +kernel
theorem dL_build_142 : decode cL_build 142 = .ok (.invokestatic 12, 3) := by decide +kernel
theorem dL_build_145 : decode cL_build 145 = .ok (.bipush 7, 2) := by decide +kernel
theorem dL_build_147 : decode cL_build 147 = .ok (.invokestatic 18, 3) := by decide +kernel
theorem dL_build_150 : decode cL_build 150 = .ok (.iadd, 1) := by decide +kernel
theorem dL_build_151 : decode cL_build 151 = .ok (.istore 5, 2) := by decide +kernel
theorem dL_build_153 : decode cL_build 153 = .ok (.iconst 0, 1) := by decide +kernel
theorem dL_build_154 : decode cL_build 154 = .ok (.istore 6, 2) := by decide +kernel
theorem dL_build_156 : decode cL_build 156 = .ok (.iload 6, 2) := by decide +kernel
theorem dL_build_158 : decode cL_build 158 = .ok (.iload 5, 2) := by decide +kernel
theorem dL_build_160 : decode cL_build 160 = .ok (.if_icmp .ge 165, 3) := by decide +kernel
theorem dL_build_163 : decode cL_build 163 = .ok (.iconst 1, 1) := by decide +kernel
theorem dL_build_164 : decode cL_build 164 = .ok (.aload_n 1, 1) := by decide +kernel
theorem dL_build_165 : decode cL_build 165 = .ok (.iconst 4, 1) := by decide +kernel
theorem dL_build_166 : decode cL_build 166 = .ok (.invokestatic 12, 3) := by decide +kernel
theorem dL_build_169 : decode cL_build 169 = .ok (.iconst 2, 1) := by decide +kernel
theorem dL_build_170 : decode cL_build 170 = .ok (.iload 6, 2) := by decide +kernel
theorem dL_build_172 : decode cL_build 172 = .ok (.imul, 1) := by decide +kernel
theorem dL_build_173 : decode cL_build 173 = .ok (.ishr, 1) := by decide +kernel
theorem dL_build_174 : decode cL_build 174 = .ok (.bipush 9, 2) := by decide +kernel
theorem dL_build_176 : decode cL_build 176 = .ok (.invokestatic 18, 3) := by decide +kernel
theorem dL_build_179 : decode cL_build 179 = .ok (.iadd, 1) := by decide +kernel
theorem dL_build_180 : decode cL_build 180 = .ok (.istore 7, 2) := by decide +kernel
theorem dL_build_182 : decode cL_build 182 = .ok (.aload_n 1, 1) := by decide +kernel
theorem dL_build_183 : decode cL_build 183 = .ok (.iconst 5, 1) := by decide +kernel
theorem dL_build_184 : decode cL_build 184 = .ok (.invokestatic 12, 3) := by decide +kernel
theorem dL_build_187 : decode cL_build 187 = .ok (.iload 6, 2) := by decide +kernel
theorem dL_build_189 : decode cL_build 189 = .ok (.ishr, 1) := by decide +kernel
theorem dL_build_190 : decode cL_build 190 = .ok (.bipush 6, 2) := by decide +kernel
theorem dL_build_192 : decode cL_build 192 = .ok (.invokestatic 18, 3) := by decide +kernel
theorem dL_build_195 : decode cL_build 195 = .ok (.istore 8, 2) := by decide +kernel
theorem dL_build_197 : decode cL_build 197 = .ok (.aload_n 0, 1) := by decide +kernel
theorem dL_build_198 : decode cL_build 198 = .ok (.iload 7, 2) := by decide +kernel
theorem dL_build_200 : decode cL_build 200 = .ok (.iload 8, 2) := by decide +kernel
theorem dL_build_202 : decode cL_build 202 = .ok (.invokevirtual 31, 3) := by decide +kernel
theorem dL_build_205 : decode cL_build 205 = .ok (.iload 6, 2) := by decide +kernel
theorem dL_build_207 : decode cL_build 207 = .ok (.if_icmp .eq 5, 3) := by decide +kernel
theorem dL_build_210 : decode cL_build 210 = .ok (.aconst_null, 1) := by decide +kernel
theorem dL_build_211 : decode cL_build 211 = .ok (.areturn, 1) := by decide +kernel
theorem dL_build_212 : decode cL_build 212 = .ok (.aload_n 2, 1) := by decide +kernel
theorem dL_build_213 : decode cL_build 213 = .ok (.getfield 34, 3) := by decide +kernel
theorem dL_build_216 : decode cL_build 216 = .ok (.iload 6, 2) := by decide +kernel
theorem dL_build_218 : decode cL_build 218 = .ok (.iload 7, 2) := by decide +kernel
theorem dL_build_220 : decode cL_build 220 = .ok (.iastore, 1) := by decide +kernel
theorem dL_build_221 : decode cL_build 221 = .ok (.iconst 5, 1) := by decide +kernel
theorem dL_build_222 : decode cL_build 222 = .ok (.newarray .int, 2) := by decide +kernel
theorem dL_build_224 : decode cL_build 224 = .ok (.dup, 1) := by decide +kernel
theorem dL_build_225 : decode cL_build 225 = .ok (.iconst 0, 1) := by decide +kernel
theorem dL_build_226 : decode cL_build 226 = .ok (.iload 8, 2) := by decide +kernel
theorem dL_build_228 : decode cL_build 228 = .ok (.iastore, 1) := by decide +kernel
theorem dL_build_229 : decode cL_build 229 = .ok (.dup, 1) := by decide +kernel
theorem dL_build_230 : decode cL_build 230 = .ok (.iconst 1, 1) := by decide +kernel
theorem dL_build_231 : decode cL_build 231 = .ok (.iconst 0, 1) := by decide +kernel
theorem dL_build_232 : decode cL_build 232 = .ok (.iastore, 1) := by decide +kernel
theorem dL_build_233 : decode cL_build 233 = .ok (.dup, 1) := by decide +kernel
theorem dL_build_234 : decode cL_build 234 = .ok (.iconst 2, 1) := by decide +kernel
theorem dL_build_235 : decode cL_build 235 = .ok (.iconst 0, 1) := by decide +kernel
theorem dL_build_236 : decode cL_build 236 = .ok (.iastore, 1) := by decide +kernel
theorem dL_build_237 : decode cL_build 237 = .ok (.dup, 1) := by decide +kernel
theorem dL_build_238 : decode cL_build 238 = .ok (.iconst 3, 1) := by decide +kernel
theorem dL_build_239 : decode cL_build 239 = .ok (.iconst 0, 1) := by decide +kernel
theorem dL_build_240 : decode cL_build 240 = .ok (.iastore, 1) := by decide +kernel
theorem dL_build_241 : decode cL_build 241 = .ok (.dup, 1) := by decide +kernel
theorem dL_build_242 : decode cL_build 242 = .ok (.iconst 4, 1) := by decide +kernel
theorem dL_build_243 : decode cL_build 243 = .ok (.iconst 0, 1) := by decide +kernel
theorem dL_build_244 : decode cL_build 244 = .ok (.iastore, 1) := by decide +kernel
theorem dL_build_245 : decode cL_build 245 = .ok (.astore 9, 2) := by decide +kernel
theorem dL_build_247 : decode cL_build 247 = .ok (.iconst 0, 1) := by decide +kernel
theorem dL_build_248 : decode cL_build 248 = .ok (.istore 10, 2) := by decide +kernel
theorem dL_build_250 : decode cL_build 250 = .ok (.iload 10, 2) := by decide +kernel
theorem dL_build_252 : decode cL_build 252 = .ok (.iconst 4, 1) := by decide +kernel
theorem dL_build_253 : decode cL_build 253 = .ok (.if_icmp .ge 53, 3) := by decide +kernel
theorem dL_build_256 : decode cL_build 256 = .ok (.aload 9, 2) := by decide +kernel
theorem dL_build_258 : decode cL_build 258 = .ok (.iconst 1, 1) := by decide +kernel
theorem dL_build_259 : decode cL_build 259 = .ok (.iload 10, 2) := by decide +kernel
theorem dL_build_261 : decode cL_build 261 = .ok (.iadd, 1) := by decide +kernel
theorem dL_build_262 : decode cL_build 262 = .ok (.aload_n 1, 1) := by decide +kernel
theorem dL_build_263 : decode cL_build 263 = .ok (.bipush 6, 2) := by decide +kernel
theorem dL_build_265 : decode cL_build 265 = .ok (.iload 10, 2) := by decide +kernel
theorem dL_build_267 : decode cL_build 267 = .ok (.iadd, 1) := by decide +kernel
theorem dL_build_268 : decode cL_build 268 = .ok (.invokestatic 12, 3) := by decide +kernel
theorem dL_build_271 : decode cL_build 271 = .ok (.iload 6, 2) := by decide +kernel
theorem dL_build_273 : decode cL_build 273 = .ok (.ishr, 1) := by decide +kernel
theorem dL_build_274 : decode cL_build 274 = .ok (.bipush 51, 2) := by decide +kernel
theorem dL_build_276 : decode cL_build 276 = .ok (.invokestatic 18, 3) := by decide +kernel
theorem dL_build_279 : decode cL_build 279 = .ok (.iastore, 1) := by decide +kernel
theorem dL_build_280 : decode cL_build 280 = .ok (.aload_n 0, 1) := by decide +kernel
theorem dL_build_281 : decode cL_build 281 = .ok (.iload 6, 2) := by decide +kernel
theorem dL_build_283 : decode cL_build 283 = .ok (.iload 10, 2) := by decide +kernel
theorem dL_build_285 : decode cL_build 285 = .ok (.aload 9, 2) := by decide +kernel
theorem dL_build_287 : decode cL_build 287 = .ok (.iconst 1, 1) := by decide +kernel
theorem dL_build_288 : decode cL_build 288 = .ok (.iload 10, 2) := by decide +kernel
theorem dL_build_290 : decode cL_build 290 = .ok (.iadd, 1) := by decide +kernel
theorem dL_build_291 : decode cL_build 291 = .ok (.iaload, 1) := by decide +kernel
theorem dL_build_292 : decode cL_build 292 = .ok (.invokevirtual 37, 3) := by decide +kernel
theorem dL_build_295 : decode cL_build 295 = .ok (.ifCond .eq 5, 3) := by decide +kernel
theorem dL_build_298 : decode cL_build 298 = .ok (.aconst_null, 1) := by decide +kernel
theorem dL_build_299 : decode cL_build 299 = .ok (.areturn, 1) := by decide +kernel
theorem dL_build_300 : decode cL_build 300 = .ok (.iinc 10 1, 3) := by decide +kernel
theorem dL_build_303 : decode cL_build 303 = .ok (.goto (-53), 3) := by decide +kernel
theorem dL_build_306 : decode cL_build 306 = .ok (.aload_n 2, 1) := by decide +kernel
theorem dL_build_307 : decode cL_build 307 = .ok (.aload_n 2, 1) := by decide +kernel
theorem dL_build_308 : decode cL_build 308 = .ok (.getfield 41, 3) := by decide +kernel
theorem dL_build_311 : decode cL_build 311 = .ok (.aload 9, 2) := by decide +kernel
theorem dL_build_313 : decode cL_build 313 = .ok (.invokestatic 45, 3) := by decide +kernel
theorem dL_build_316 : decode cL_build 316 = .ok (.putfield 41, 3) := by decide +kernel
theorem dL_build_319 : decode cL_build 319 = .ok (.iinc 6 1, 3) := by decide +kernel
theorem dL_build_322 : decode cL_build 322 = .ok (.goto (-166), 3) := by decide +kernel
theorem dL_build_325 : decode cL_build 325 = .ok (.aload_n 2, 1) := by decide +kernel
theorem dL_build_326 : decode cL_build 326 = .ok (.iconst 2, 1) := by decide +kernel
theorem dL_build_327 : decode cL_build 327 = .ok (.aload_n 1, 1) := by decide +kernel
theorem dL_build_328 : decode cL_build 328 = .ok (.bipush 10, 2) := by decide +kernel
theorem dL_build_330 : decode cL_build 330 = .ok (.invokestatic 12, 3) := by decide +kernel
theorem dL_build_333 : decode cL_build 333 = .ok (.iconst 4, 1) := by decide +kernel
theorem dL_build_334 : decode cL_build 334 = .ok (.invokestatic 18, 3) := by decide +kernel
theorem dL_build_337 : decode cL_build 337 = .ok (.iadd, 1) := by decide +kernel
theorem dL_build_338 : decode cL_build 338 = .ok (.newarray .int, 2) := by decide +kernel
theorem dL_build_340 : decode cL_build 340 = .ok (.putfield 49, 3) := by decide +kernel
theorem dL_build_343 : decode cL_build 343 = .ok (.iconst 0, 1) := by decide +kernel
theorem dL_build_344 : decode cL_build 344 = .ok (.istore 6, 2) := by decide +kernel
theorem dL_build_346 : decode cL_build 346 = .ok (.iload 6, 2) := by decide +kernel
theorem dL_build_348 : decode cL_build 348 = .ok (.aload_n 2, 1) := by decide +kernel
theorem dL_build_349 : decode cL_build 349 = .ok (.getfield 49, 3) := by decide +kernel
theorem dL_build_352 : decode cL_build 352 = .ok (.arraylength, 1) := by decide +kernel
theorem dL_build_353 : decode cL_build 353 = .ok (.if_icmp .ge 72, 3) := by decide +kernel
theorem dL_build_356 : decode cL_build 356 = .ok (.aload_n 2, 1) := by decide +kernel
theorem dL_build_357 : decode cL_build 357 = .ok (.getfield 49, 3) := by decide +kernel
theorem dL_build_360 : decode cL_build 360 = .ok (.iload 6, 2) := by decide +kernel
theorem dL_build_362 : decode cL_build 362 = .ok (.aload_n 1, 1) := by decide +kernel
theorem dL_build_363 : decode cL_build 363 = .ok (.bipush 11, 2) := by decide +kernel
theorem dL_build_365 : decode cL_build 365 = .ok (.invokestatic 12, 3) := by decide +kernel
theorem dL_build_368 : decode cL_build 368 = .ok (.iconst 2, 1) := by decide +kernel
theorem dL_build_369 : decode cL_build 369 = .ok (.iload 6, 2) := by decide +kernel
theorem dL_build_371 : decode cL_build 371 = .ok (.imul, 1) := by decide +kernel
theorem dL_build_372 : decode cL_build 372 = .ok (.ishr, 1) := by decide +kernel
theorem dL_build_373 : decode cL_build 373 = .ok (.aload_n 1, 1) := by decide +kernel
theorem dL_build_374 : decode cL_build 374 = .ok (.bipush 11, 2) := by decide +kernel
theorem dL_build_376 : decode cL_build 376 = .ok (.invokestatic 12, 3) := by decide +kernel
theorem dL_build_379 : decode cL_build 379 = .ok (.iload 6, 2) := by decide +kernel
theorem dL_build_381 : decode cL_build 381 = .ok (.ishr, 1) := by decide +kernel
theorem dL_build_382 : decode cL_build 382 = .ok (.iconst 2, 1) := by decide +kernel
theorem dL_build_383 : decode cL_build 383 = .ok (.invokestatic 18, 3) := by decide +kernel
theorem dL_build_386 : decode cL_build 386 = .ok (.ifCond .ne 8, 3) := by decide +kernel
theorem dL_build_389 : decode cL_build 389 = .ok (.bipush 30, 2) := by decide +kernel
theorem dL_build_391 : decode cL_build 391 = .ok (.goto 6, 3) := by decide +kernel
theorem dL_build_394 : decode cL_build 394 = .ok (.sipush 5001, 3) := by decide +kernel
theorem dL_build_397 : decode cL_build 397 = .ok (.invokestatic 18, 3) := by decide +kernel
theorem dL_build_400 : decode cL_build 400 = .ok (.iastore, 1) := by decide +kernel
theorem dL_build_401 : decode cL_build 401 = .ok (.aload_n 0, 1) := by decide +kernel
theorem dL_build_402 : decode cL_build 402 = .ok (.aload_n 2, 1) := by decide +kernel
theorem dL_build_403 : decode cL_build 403 = .ok (.getfield 49, 3) := by decide +kernel
theorem dL_build_406 : decode cL_build 406 = .ok (.iload 6, 2) := by decide +kernel
theorem dL_build_408 : decode cL_build 408 = .ok (.iaload, 1) := by decide +kernel
theorem dL_build_409 : decode cL_build 409 = .ok (.invokevirtual 52, 3) := by decide +kernel
theorem dL_build_412 : decode cL_build 412 = .ok (.iload 6, 2) := by decide +kernel
theorem dL_build_414 : decode cL_build 414 = .ok (.if_icmp .eq 5, 3) := by decide +kernel
theorem dL_build_417 : decode cL_build 417 = .ok (.aconst_null, 1) := by decide +kernel
theorem dL_build_418 : decode cL_build 418 = .ok (.areturn, 1) := by decide +kernel
theorem dL_build_419 : decode cL_build 419 = .ok (.iinc 6 1, 3) := by decide +kernel
theorem dL_build_422 : decode cL_build 422 = .ok (.goto (-76), 3) := by decide +kernel
theorem dL_build_425 : decode cL_build 425 = .ok (.iconst 1, 1) := by decide +kernel
theorem dL_build_426 : decode cL_build 426 = .ok (.aload_n 1, 1) := by decide +kernel
theorem dL_build_427 : decode cL_build 427 = .ok (.bipush 12, 2) := by decide +kernel
theorem dL_build_429 : decode cL_build 429 = .ok (.invokestatic 12, 3) := by decide +kernel
theorem dL_build_432 : decode cL_build 432 = .ok (.bipush 9, 2) := by decide +kernel
theorem dL_build_434 : decode cL_build 434 = .ok (.invokestatic 18, 3) := by decide +kernel
theorem dL_build_437 : decode cL_build 437 = .ok (.iadd, 1) := by decide +kernel
theorem dL_build_438 : decode cL_build 438 = .ok (.istore 6, 2) := by decide +kernel
theorem dL_build_440 : decode cL_build 440 = .ok (.iconst 0, 1) := by decide +kernel
theorem dL_build_441 : decode cL_build 441 = .ok (.istore 7, 2) := by decide +kernel
theorem dL_build_443 : decode cL_build 443 = .ok (.iload 7, 2) := by decide +kernel
theorem dL_build_445 : decode cL_build 445 = .ok (.iload 6, 2) := by decide +kernel
theorem dL_build_447 : decode cL_build 447 = .ok (.if_icmp .ge 89, 3) := by decide +kernel
theorem dL_build_450 : decode cL_build 450 = .ok (.aload_n 1, 1) := by decide +kernel
theorem dL_build_451 : decode cL_build 451 = .ok (.bipush 13, 2) := by decide +kernel
theorem dL_build_453 : decode cL_build 453 = .ok (.invokestatic 12, 3) := by decide +kernel
theorem dL_build_456 : decode cL_build 456 = .ok (.iload 7, 2) := by decide +kernel
theorem dL_build_458 : decode cL_build 458 = .ok (.ishr, 1) := by decide +kernel
theorem dL_build_459 : decode cL_build 459 = .ok (.bipush 11, 2) := by decide +kernel
theorem dL_build_461 : decode cL_build 461 = .ok (.iload 7, 2) := by decide +kernel
theorem dL_build_463 : decode cL_build 463 = .ok (.imul, 1) := by decide +kernel
theorem dL_build_464 : decode cL_build 464 = .ok (.iadd, 1) := by decide +kernel
theorem dL_build_465 : decode cL_build 465 = .ok (.istore 8, 2) := by decide +kernel
theorem dL_build_467 : decode cL_build 467 = .ok (.iload 8, 2) := by decide +kernel
theorem dL_build_469 : decode cL_build 469 = .ok (.aload_n 2, 1) := by decide +kernel
theorem dL_build_470 : decode cL_build 470 = .ok (.getfield 49, 3) := by decide +kernel
theorem dL_build_473 : decode cL_build 473 = .ok (.arraylength, 1) := by decide +kernel
theorem dL_build_474 : decode cL_build 474 = .ok (.invokestatic 18, 3) := by decide +kernel
theorem dL_build_477 : decode cL_build 477 = .ok (.istore 9, 2) := by decide +kernel
theorem dL_build_479 : decode cL_build 479 = .ok (.iload 8, 2) := by decide +kernel
theorem dL_build_481 : decode cL_build 481 = .ok (.iconst 2, 1) := by decide +kernel
theorem dL_build_482 : decode cL_build 482 = .ok (.ishr, 1) := by decide +kernel
theorem dL_build_483 : decode cL_build 483 = .ok (.iload 5, 2) := by decide +kernel
theorem dL_build_485 : decode cL_build 485 = .ok (.invokestatic 18, 3) := by decide +kernel
theorem dL_build_488 : decode cL_build 488 = .ok (.istore 10, 2) := by decide +kernel
theorem dL_build_490 : decode cL_build 490 = .ok (.iconst 1, 1) := by decide +kernel
theorem dL_build_491 : decode cL_build 491 = .ok (.iload 8, 2) := by decide +kernel
theorem dL_build_493 : decode cL_build 493 = .ok (.iconst 4, 1) := by decide +kernel
theorem dL_build_494 : decode cL_build 494 = .ok (.ishr, 1) := by decide +kernel
theorem dL_build_495 : decode cL_build 495 = .ok (.bipush 60, 2) := by decide +kernel
theorem dL_build_497 : decode cL_build 497 = .ok (.invokestatic 18, 3) := by decide +kernel
theorem dL_build_500 : decode cL_build 500 = .ok (.iadd, 1) := by decide +kernel
theorem dL_build_501 : decode cL_build 501 = .ok (.istore 11, 2) := by decide +kernel
theorem dL_build_503 : decode cL_build 503 = .ok (.aload_n 0, 1) := by decide +kernel
theorem dL_build_504 : decode cL_build 504 = .ok (.iload 9, 2) := by decide +kernel
theorem dL_build_506 : decode cL_build 506 = .ok (.iload 10, 2) := by decide +kernel
theorem dL_build_508 : decode cL_build 508 = .ok (.iload 11, 2) := by decide +kernel
theorem dL_build_510 : decode cL_build 510 = .ok (.invokevirtual 56, 3) := by decide +kernel
theorem dL_build_513 : decode cL_build 513 = .ok (.iload 7, 2) := by decide +kernel
theorem dL_build_515 : decode cL_build 515 = .ok (.if_icmp .eq 5, 3) := by decide +kernel
theorem dL_build_518 : decode cL_build 518 = .ok (.aconst_null, 1) := by decide +kernel
theorem dL_build_519 : decode cL_build 519 = .ok (.areturn, 1) := by decide +kernel
theorem dL_build_520 : decode cL_build 520 = .ok (.aload_n 2, 1) := by decide +kernel
theorem dL_build_521 : decode cL_build 521 = .ok (.iload 9, 2) := by decide +kernel
theorem dL_build_523 : decode cL_build 523 = .ok (.iload 10, 2) := by decide +kernel
theorem dL_build_525 : decode cL_build 525 = .ok (.iload 11, 2) := by decide +kernel
theorem dL_build_527 : decode cL_build 527 = .ok (.invokevirtual 59, 3) := by decide +kernel
theorem dL_build_530 : decode cL_build 530 = .ok (.iinc 7 1, 3) := by decide +kernel
theorem dL_build_533 : decode cL_build 533 = .ok (.goto (-90), 3) := by decide +kernel
theorem dL_build_536 : decode cL_build 536 = .ok (.aload_n 2, 1) := by decide +kernel
theorem dL_build_537 : decode cL_build 537 = .ok (.areturn, 1) := by decide +kernel
theorem dL_act_0 : decode cL_act 0 = .ok (.aload_n 1, 1) := by decide +kernel
theorem dL_act_1 : decode cL_act 1 = .ok (.getfield 41, 3) := by decide +kernel
theorem dL_act_4 : decode cL_act 4 = .ok (.arraylength, 1) := by decide +kernel
theorem dL_act_5 : decode cL_act 5 = .ok (.istore_n 3, 1) := by decide +kernel
theorem dL_act_6 : decode cL_act 6 = .ok (.iload_n 2, 1) := by decide +kernel
theorem dL_act_7 : decode cL_act 7 = .ok (.aload_n 1, 1) := by decide +kernel
theorem dL_act_8 : decode cL_act 8 = .ok (.getfield 49, 3) := by decide +kernel
theorem dL_act_11 : decode cL_act 11 = .ok (.arraylength, 1) := by decide +kernel
theorem dL_act_12 : decode cL_act 12 = .ok (.invokestatic 18, 3) := by decide +kernel
theorem dL_act_15 : decode cL_act 15 = .ok (.istore 4, 2) := by decide +kernel
theorem dL_act_17 : decode cL_act 17 = .ok (.iload_n 2, 1) := by decide +kernel
theorem dL_act_18 : decode cL_act 18 = .ok (.iconst 2, 1) := by decide +kernel
theorem dL_act_19 : decode cL_act 19 = .ok (.ishr, 1) := by decide +kernel
theorem dL_act_20 : decode cL_act 20 = .ok (.iload_n 3, 1) := by decide +kernel
theorem dL_act_21 : decode cL_act 21 = .ok (.invokestatic 18, 3) := by decide +kernel
theorem dL_act_24 : decode cL_act 24 = .ok (.istore 5, 2) := by decide +kernel
theorem dL_act_26 : decode cL_act 26 = .ok (.iload_n 2, 1) := by decide +kernel
theorem dL_act_27 : decode cL_act 27 = .ok (.iconst 3, 1) := by decide +kernel
theorem dL_act_28 : decode cL_act 28 = .ok (.ishr, 1) := by decide +kernel
theorem dL_act_29 : decode cL_act 29 = .ok (.iconst 4, 1) := by decide +kernel
theorem dL_act_30 : decode cL_act 30 = .ok (.invokestatic 18, 3) := by decide +kernel
theorem dL_act_33 : decode cL_act 33 = .ok (.istore 6, 2) := by decide +kernel
theorem dL_act_35 : decode cL_act 35 = .ok (.iload_n 2, 1) := by decide +kernel
theorem dL_act_36 : decode cL_act 36 = .ok (.iconst 4, 1) := by decide +kernel
theorem dL_act_37 : decode cL_act 37 = .ok (.ishr, 1) := by decide +kernel
theorem dL_act_38 : decode cL_act 38 = .ok (.aload_n 1, 1) := by decide +kernel
theorem dL_act_39 : decode cL_act 39 = .ok (.getfield 62, 3) := by decide +kernel
theorem dL_act_42 : decode cL_act 42 = .ok (.arraylength, 1) := by decide +kernel
theorem dL_act_43 : decode cL_act 43 = .ok (.invokestatic 18, 3) := by decide +kernel
theorem dL_act_46 : decode cL_act 46 = .ok (.istore 7, 2) := by decide +kernel
theorem dL_act_48 : decode cL_act 48 = .ok (.aload_n 1, 1) := by decide +kernel
theorem dL_act_49 : decode cL_act 49 = .ok (.getfield 62, 3) := by decide +kernel
theorem dL_act_52 : decode cL_act 52 = .ok (.iload 7, 2) := by decide +kernel
theorem dL_act_54 : decode cL_act 54 = .ok (.aaload, 1) := by decide +kernel
theorem dL_act_55 : decode cL_act 55 = .ok (.astore 8, 2) := by decide +kernel
theorem dL_act_57 : decode cL_act 57 = .ok (.iload_n 2, 1) := by decide +kernel
theorem dL_act_58 : decode cL_act 58 = .ok (.bipush 9, 2) := by decide +kernel
theorem dL_act_60 : decode cL_act 60 = .ok (.ishr, 1) := by decide +kernel
theorem dL_act_61 : decode cL_act 61 = .ok (.bipush 10, 2) := by decide +kernel
theorem dL_act_63 : decode cL_act 63 = .ok (.invokestatic 18, 3) := by decide +kernel
theorem dL_act_66 : decode cL_act 66 = .ok (.tableswitch 624 0 8 #[50, 50, 114, 226, 366, 366, 366, 418, 541], 50) := by decide +kernel
theorem dL_act_116 : decode cL_act 116 = .ok (.iconst 1, 1) := by decide +kernel
theorem dL_act_117 : decode cL_act 117 = .ok (.iload_n 2, 1) := by decide +kernel
theorem dL_act_118 : decode cL_act 118 = .ok (.iconst 5, 1) := by decide +kernel
theorem dL_act_119 : decode cL_act 119 = .ok (.ishr, 1) := by decide +kernel
theorem dL_act_120 : decode cL_act 120 = .ok (.bipush 60, 2) := by decide +kernel
theorem dL_act_122 : decode cL_act 122 = .ok (.invokestatic 18, 3) := by decide +kernel
theorem dL_act_125 : decode cL_act 125 = .ok (.iadd, 1) := by decide +kernel
theorem dL_act_126 : decode cL_act 126 = .ok (.istore 9, 2) := by decide +kernel
theorem dL_act_128 : decode cL_act 128 = .ok (.aload_n 1, 1) := by decide +kernel
theorem dL_act_129 : decode cL_act 129 = .ok (.getfield 66, 3) := by decide +kernel
theorem dL_act_132 : decode cL_act 132 = .ok (.iload 4, 2) := by decide +kernel
theorem dL_act_134 : decode cL_act 134 = .ok (.aaload, 1) := by decide +kernel
theorem dL_act_135 : decode cL_act 135 = .ok (.iload 5, 2) := by decide +kernel
theorem dL_act_137 : decode cL_act 137 = .ok (.aaload, 1) := by decide +kernel
theorem dL_act_138 : decode cL_act 138 = .ok (.iload 6, 2) := by decide +kernel
theorem dL_act_140 : decode cL_act 140 = .ok (.dup2, 1) := by decide +kernel
theorem dL_act_141 : decode cL_act 141 = .ok (.iaload, 1) := by decide +kernel
theorem dL_act_142 : decode cL_act 142 = .ok (.iload 9, 2) := by decide +kernel
theorem dL_act_144 : decode cL_act 144 = .ok (.iadd, 1) := by decide +kernel
theorem dL_act_145 : decode cL_act 145 = .ok (.iastore, 1) := by decide +kernel
theorem dL_act_146 : decode cL_act 146 = .ok (.aload_n 0, 1) := by decide +kernel
theorem dL_act_147 : decode cL_act 147 = .ok (.iload 4, 2) := by decide +kernel
theorem dL_act_149 : decode cL_act 149 = .ok (.iload 5, 2) := by decide +kernel
theorem dL_act_151 : decode cL_act 151 = .ok (.iload 6, 2) := by decide +kernel
theorem dL_act_153 : decode cL_act 153 = .ok (.iload 9, 2) := by decide +kernel
theorem dL_act_155 : decode cL_act 155 = .ok (.invokevirtual 70, 3) := by decide +kernel
theorem dL_act_158 : decode cL_act 158 = .ok (.aload_n 1, 1) := by decide +kernel
theorem dL_act_159 : decode cL_act 159 = .ok (.getfield 66, 3) := by decide +kernel
theorem dL_act_162 : decode cL_act 162 = .ok (.iload 4, 2) := by decide +kernel
theorem dL_act_164 : decode cL_act 164 = .ok (.aaload, 1) := by decide +kernel
theorem dL_act_165 : decode cL_act 165 = .ok (.iload 5, 2) := by decide +kernel
theorem dL_act_167 : decode cL_act 167 = .ok (.aaload, 1) := by decide +kernel
theorem dL_act_168 : decode cL_act 168 = .ok (.iload 6, 2) := by decide +kernel
theorem dL_act_170 : decode cL_act 170 = .ok (.iaload, 1) := by decide +kernel
theorem dL_act_171 : decode cL_act 171 = .ok (.if_icmp .ne 7, 3) := by decide +kernel
theorem dL_act_174 : decode cL_act 174 = .ok (.iconst 1, 1) := by decide +kernel
theorem dL_act_175 : decode cL_act 175 = .ok (.goto 4, 3) := by decide +kernel
theorem dL_act_178 : decode cL_act 178 = .ok (.iconst 0, 1) := by decide +kernel
theorem dL_act_179 : decode cL_act 179 = .ok (.ireturn, 1) := by decide +kernel
theorem dL_act_180 : decode cL_act 180 = .ok (.aload_n 1, 1) := by decide +kernel
theorem dL_act_181 : decode cL_act 181 = .ok (.getfield 66, 3) := by decide +kernel
theorem dL_act_184 : decode cL_act 184 = .ok (.iload 4, 2) := by decide +kernel
theorem dL_act_186 : decode cL_act 186 = .ok (.aaload, 1) := by decide +kernel
theorem dL_act_187 : decode cL_act 187 = .ok (.iload 5, 2) := by decide +kernel
theorem dL_act_189 : decode cL_act 189 = .ok (.aaload, 1) := by decide +kernel
theorem dL_act_190 : decode cL_act 190 = .ok (.iload 6, 2) := by decide +kernel
theorem dL_act_192 : decode cL_act 192 = .ok (.iaload, 1) := by decide +kernel
theorem dL_act_193 : decode cL_act 193 = .ok (.ifCond .ne 5, 3) := by decide +kernel
theorem dL_act_196 : decode cL_act 196 = .ok (.iconst 1, 1) := by decide +kernel
theorem dL_act_197 : decode cL_act 197 = .ok (.ireturn, 1) := by decide +kernel
theorem dL_act_198 : decode cL_act 198 = .ok (.iconst 1, 1) := by decide +kernel
theorem dL_act_199 : decode cL_act 199 = .ok (.iload_n 2, 1) := by decide +kernel
theorem dL_act_200 : decode cL_act 200 = .ok (.iconst 5, 1) := by decide +kernel
theorem dL_act_201 : decode cL_act 201 = .ok (.ishr, 1) := by decide +kernel
theorem dL_act_202 : decode cL_act 202 = .ok (.aload_n 1, 1) := by decide +kernel
theorem dL_act_203 : decode cL_act 203 = .ok (.getfield 66, 3) := by decide +kernel
theorem dL_act_206 : decode cL_act 206 = .ok (.iload 4, 2) := by decide +kernel
theorem dL_act_208 : decode cL_act 208 = .ok (.aaload, 1) := by decide +kernel
theorem dL_act_209 : decode cL_act 209 = .ok (.iload 5, 2) := by decide +kernel
theorem dL_act_211 : decode cL_act 211 = .ok (.aaload, 1) := by decide +kernel
theorem dL_act_212 : decode cL_act 212 = .ok (.iload 6, 2) := by decide +kernel
theorem dL_act_214 : decode cL_act 214 = .ok (.iaload, 1) := by decide +kernel
theorem dL_act_215 : decode cL_act 215 = .ok (.invokestatic 18, 3) := by decide +kernel
theorem dL_act_218 : decode cL_act 218 = .ok (.iadd, 1) := by decide +kernel
theorem dL_act_219 : decode cL_act 219 = .ok (.istore 10, 2) := by decide +kernel
theorem dL_act_221 : decode cL_act 221 = .ok (.aload_n 1, 1) := by decide +kernel
theorem dL_act_222 : decode cL_act 222 = .ok (.getfield 66, 3) := by decide +kernel
theorem dL_act_225 : decode cL_act 225 = .ok (.iload 4, 2) := by decide +kernel
theorem dL_act_227 : decode cL_act 227 = .ok (.aaload, 1) := by decide +kernel
theorem dL_act_228 : decode cL_act 228 = .ok (.iload 5, 2) := by decide +kernel
theorem dL_act_230 : decode cL_act 230 = .ok (.aaload, 1) := by decide +kernel
theorem dL_act_231 : decode cL_act 231 = .ok (.iload 6, 2) := by decide +kernel
theorem dL_act_233 : decode cL_act 233 = .ok (.dup2, 1) := by decide +kernel
theorem dL_act_234 : decode cL_act 234 = .ok (.iaload, 1) := by decide +kernel
theorem dL_act_235 : decode cL_act 235 = .ok (.iload 10, 2) := by decide +kernel
theorem dL_act_237 : decode cL_act 237 = .ok (.isub, 1) := by decide +kernel
theorem dL_act_238 : decode cL_act 238 = .ok (.iastore, 1) := by decide +kernel
theorem dL_act_239 : decode cL_act 239 = .ok (.aload_n 1, 1) := by decide +kernel
theorem dL_act_240 : decode cL_act 240 = .ok (.getfield 49, 3) := by decide +kernel
theorem dL_act_243 : decode cL_act 243 = .ok (.iload 4, 2) := by decide +kernel
theorem dL_act_245 : decode cL_act 245 = .ok (.dup2, 1) := by decide +kernel
theorem dL_act_246 : decode cL_act 246 = .ok (.iaload, 1) := by decide +kernel
theorem dL_act_247 : decode cL_act 247 = .ok (.iload 10, 2) := by decide +kernel
theorem dL_act_249 : decode cL_act 249 = .ok (.aload_n 1, 1) := by decide +kernel
theorem dL_act_250 : decode cL_act 250 = .ok (.getfield 41, 3) := by decide +kernel
theorem dL_act_253 : decode cL_act 253 = .ok (.iload 5, 2) := by decide +kernel
theorem dL_act_255 : decode cL_act 255 = .ok (.aaload, 1) := by decide +kernel
theorem dL_act_256 : decode cL_act 256 = .ok (.iconst 1, 1) := by decide +kernel
theorem dL_act_257 : decode cL_act 257 = .ok (.iload 6, 2) := by decide +kernel
theorem dL_act_259 : decode cL_act 259 = .ok (.iadd, 1) := by decide +kernel
theorem dL_act_260 : decode cL_act 260 = .ok (.iaload, 1) := by decide +kernel
theorem dL_act_261 : decode cL_act 261 = .ok (.imul, 1) := by decide +kernel
theorem dL_act_262 : decode cL_act 262 = .ok (.iadd, 1) := by decide +kernel
theorem dL_act_263 : decode cL_act 263 = .ok (.iastore, 1) := by decide +kernel
theorem dL_act_264 : decode cL_act 264 = .ok (.aload_n 0, 1) := by decide +kernel
theorem dL_act_265 : decode cL_act 265 = .ok (.iload 4, 2) := by decide +kernel
theorem dL_act_267 : decode cL_act 267 = .ok (.iload 5, 2) := by decide +kernel
theorem dL_act_269 : decode cL_act 269 = .ok (.iload 6, 2) := by decide +kernel
theorem dL_act_271 : decode cL_act 271 = .ok (.iload 10, 2) := by decide +kernel
theorem dL_act_273 : decode cL_act 273 = .ok (.invokevirtual 74, 3) := by decide +kernel
theorem dL_act_276 : decode cL_act 276 = .ok (.aload_n 1, 1) := by decide +kernel
theorem dL_act_277 : decode cL_act 277 = .ok (.getfield 49, 3) := by decide +kernel
theorem dL_act_280 : decode cL_act 280 = .ok (.iload 4, 2) := by decide +kernel
theorem dL_act_282 : decode cL_act 282 = .ok (.iaload, 1) := by decide +kernel
theorem dL_act_283 : decode cL_act 283 = .ok (.if_icmp .ne 7, 3) := by decide +kernel
theorem dL_act_286 : decode cL_act 286 = .ok (.iconst 1, 1) := by decide +kernel
theorem dL_act_287 : decode cL_act 287 = .ok (.goto 4, 3) := by decide +kernel
theorem dL_act_290 : decode cL_act 290 = .ok (.iconst 0, 1) := by decide +kernel
theorem dL_act_291 : decode cL_act 291 = .ok (.ireturn, 1) := by decide +kernel
theorem dL_act_292 : decode cL_act 292 = .ok (.aload 8, 2) := by decide +kernel
theorem dL_act_294 : decode cL_act 294 = .ok (.getfield 77, 3) := by decide +kernel
theorem dL_act_297 : decode cL_act 297 = .ok (.iconst 1, 1) := by decide +kernel
theorem dL_act_298 : decode cL_act 298 = .ok (.if_icmp .le 5, 3) := by decide +kernel
theorem dL_act_301 : decode cL_act 301 = .ok (.iconst 1, 1) := by decide +kernel
theorem dL_act_302 : decode cL_act 302 = .ok (.ireturn, 1) := by decide +kernel
theorem dL_act_303 : decode cL_act 303 = .ok (.bipush 60, 2) := by decide +kernel
theorem dL_act_305 : decode cL_act 305 = .ok (.aload 8, 2) := by decide +kernel
theorem dL_act_307 : decode cL_act 307 = .ok (.getfield 83, 3) := by decide +kernel
theorem dL_act_310 : decode cL_act 310 = .ok (.aload 8, 2) := by decide +kernel
theorem dL_act_312 : decode cL_act 312 = .ok (.invokevirtual 86, 3) := by decide +kernel
theorem dL_act_315 : decode cL_act 315 = .ok (.isub, 1) := by decide +kernel
theorem dL_act_316 : decode cL_act 316 = .ok (.invokestatic 90, 3) := by decide +kernel
theorem dL_act_319 : decode cL_act 319 = .ok (.aload_n 1, 1) := by decide +kernel
theorem dL_act_320 : decode cL_act 320 = .ok (.getfield 66, 3) := by decide +kernel
theorem dL_act_323 : decode cL_act 323 = .ok (.aload 8, 2) := by decide +kernel
theorem dL_act_325 : decode cL_act 325 = .ok (.getfield 95, 3) := by decide +kernel
theorem dL_act_328 : decode cL_act 328 = .ok (.aaload, 1) := by decide +kernel
theorem dL_act_329 : decode cL_act 329 = .ok (.aload 8, 2) := by decide +kernel
theorem dL_act_331 : decode cL_act 331 = .ok (.getfield 98, 3) := by decide +kernel
theorem dL_act_334 : decode cL_act 334 = .ok (.aaload, 1) := by decide +kernel
theorem dL_act_335 : decode cL_act 335 = .ok (.iload 6, 2) := by decide +kernel
theorem dL_act_337 : decode cL_act 337 = .ok (.iaload, 1) := by decide +kernel
theorem dL_act_338 : decode cL_act 338 = .ok (.invokestatic 90, 3) := by decide +kernel
theorem dL_act_341 : decode cL_act 341 = .ok (.istore 11, 2) := by decide +kernel
theorem dL_act_343 : decode cL_act 343 = .ok (.iload_n 2, 1) := by decide +kernel
theorem dL_act_344 : decode cL_act 344 = .ok (.iconst 5, 1) := by decide +kernel
theorem dL_act_345 : decode cL_act 345 = .ok (.ishr, 1) := by decide +kernel
theorem dL_act_346 : decode cL_act 346 = .ok (.iconst 3, 1) := by decide +kernel
theorem dL_act_347 : decode cL_act 347 = .ok (.invokestatic 18, 3) := by decide +kernel
theorem dL_act_350 : decode cL_act 350 = .ok (.ifCond .ne 14, 3) := by decide +kernel
theorem dL_act_353 : decode cL_act 353 = .ok (.aload 8, 2) := by decide +kernel
theorem dL_act_355 : decode cL_act 355 = .ok (.getfield 101, 3) := by decide +kernel
theorem dL_act_358 : decode cL_act 358 = .ok (.iload 6, 2) := by decide +kernel
theorem dL_act_360 : decode cL_act 360 = .ok (.iaload, 1) := by decide +kernel
theorem dL_act_361 : decode cL_act 361 = .ok (.ineg, 1) := by decide +kernel
theorem dL_act_362 : decode cL_act 362 = .ok (.istore 11, 2) := by decide +kernel
theorem dL_act_364 : decode cL_act 364 = .ok (.iload 11, 2) := by decide +kernel
theorem dL_act_366 : decode cL_act 366 = .ok (.ifCond .ne 5, 3) := by decide +kernel
theorem dL_act_369 : decode cL_act 369 = .ok (.iconst 1, 1) := by decide +kernel
theorem dL_act_370 : decode cL_act 370 = .ok (.ireturn, 1) := by decide +kernel
theorem dL_act_371 : decode cL_act 371 = .ok (.aload_n 1, 1) := by decide +kernel
theorem dL_act_372 : decode cL_act 372 = .ok (.getfield 66, 3) := by decide +kernel
theorem dL_act_375 : decode cL_act 375 = .ok (.aload 8, 2) := by decide +kernel
theorem dL_act_377 : decode cL_act 377 = .ok (.getfield 95, 3) := by decide +kernel
theorem dL_act_380 : decode cL_act 380 = .ok (.aaload, 1) := by decide +kernel
theorem dL_act_381 : decode cL_act 381 = .ok (.aload 8, 2) := by decide +kernel
theorem dL_act_383 : decode cL_act 383 = .ok (.getfield 98, 3) := by decide +kernel
theorem dL_act_386 : decode cL_act 386 = .ok (.aaload, 1) := by decide +kernel
theorem dL_act_387 : decode cL_act 387 = .ok (.iload 6, 2) := by decide +kernel
theorem dL_act_389 : decode cL_act 389 = .ok (.dup2, 1) := by decide +kernel
theorem dL_act_390 : decode cL_act 390 = .ok (.iaload, 1) := by decide +kernel
theorem dL_act_391 : decode cL_act 391 = .ok (.iload 11, 2) := by decide +kernel
theorem dL_act_393 : decode cL_act 393 = .ok (.isub, 1) := by decide +kernel
theorem dL_act_394 : decode cL_act 394 = .ok (.iastore, 1) := by decide +kernel
theorem dL_act_395 : decode cL_act 395 = .ok (.aload 8, 2) := by decide +kernel
theorem dL_act_397 : decode cL_act 397 = .ok (.getfield 101, 3) := by decide +kernel
theorem dL_act_400 : decode cL_act 400 = .ok (.iload 6, 2) := by decide +kernel
theorem dL_act_402 : decode cL_act 402 = .ok (.dup2, 1) := by decide +kernel
theorem dL_act_403 : decode cL_act 403 = .ok (.iaload, 1) := by decide +kernel
theorem dL_act_404 : decode cL_act 404 = .ok (.iload 11, 2) := by decide +kernel
theorem dL_act_406 : decode cL_act 406 = .ok (.iadd, 1) := by decide +kernel
theorem dL_act_407 : decode cL_act 407 = .ok (.iastore, 1) := by decide +kernel
theorem dL_act_408 : decode cL_act 408 = .ok (.aload_n 0, 1) := by decide +kernel
theorem dL_act_409 : decode cL_act 409 = .ok (.iload 7, 2) := by decide +kernel
theorem dL_act_411 : decode cL_act 411 = .ok (.iload 6, 2) := by decide +kernel
theorem dL_act_413 : decode cL_act 413 = .ok (.iload 11, 2) := by decide +kernel
theorem dL_act_415 : decode cL_act 415 = .ok (.invokevirtual 104, 3) := by decide +kernel
theorem dL_act_418 : decode cL_act 418 = .ok (.aload 8, 2) := by decide +kernel
theorem dL_act_420 : decode cL_act 420 = .ok (.invokevirtual 86, 3) := by decide +kernel
theorem dL_act_423 : decode cL_act 423 = .ok (.if_icmp .ne 7, 3) := by decide +kernel
theorem dL_act_426 : decode cL_act 426 = .ok (.iconst 1, 1) := by decide +kernel
theorem dL_act_427 : decode cL_act 427 = .ok (.goto 4, 3) := by decide +kernel
theorem dL_act_430 : decode cL_act 430 = .ok (.iconst 0, 1) := by decide +kernel
theorem dL_act_431 : decode cL_act 431 = .ok (.ireturn, 1) := by decide +kernel
theorem dL_act_432 : decode cL_act 432 = .ok (.aload 8, 2) := by decide +kernel
theorem dL_act_434 : decode cL_act 434 = .ok (.getfield 77, 3) := by decide +kernel
theorem dL_act_437 : decode cL_act 437 = .ok (.iconst 3, 1) := by decide +kernel
theorem dL_act_438 : decode cL_act 438 = .ok (.if_icmp .ne 5, 3) := by decide +kernel
theorem dL_act_441 : decode cL_act 441 = .ok (.iconst 1, 1) := by decide +kernel
theorem dL_act_442 : decode cL_act 442 = .ok (.ireturn, 1) := by decide +kernel
theorem dL_act_443 : decode cL_act 443 = .ok (.aload 8, 2) := by decide +kernel
theorem dL_act_445 : decode cL_act 445 = .ok (.iload 5, 2) := by decide +kernel
theorem dL_act_447 : decode cL_act 447 = .ok (.putfield 107, 3) := by decide +kernel
theorem dL_act_450 : decode cL_act 450 = .ok (.aload_n 0, 1) := by decide +kernel
theorem dL_act_451 : decode cL_act 451 = .ok (.iload 7, 2) := by decide +kernel
theorem dL_act_453 : decode cL_act 453 = .ok (.iload 5, 2) := by decide +kernel
theorem dL_act_455 : decode cL_act 455 = .ok (.invokevirtual 110, 3) := by decide +kernel
theorem dL_act_458 : decode cL_act 458 = .ok (.aload 8, 2) := by decide +kernel
theorem dL_act_460 : decode cL_act 460 = .ok (.getfield 113, 3) := by decide +kernel
theorem dL_act_463 : decode cL_act 463 = .ok (.aload_n 1, 1) := by decide +kernel
theorem dL_act_464 : decode cL_act 464 = .ok (.aload 8, 2) := by decide +kernel
theorem dL_act_466 : decode cL_act 466 = .ok (.getfield 98, 3) := by decide +kernel
theorem dL_act_469 : decode cL_act 469 = .ok (.iload 5, 2) := by decide +kernel
theorem dL_act_471 : decode cL_act 471 = .ok (.invokevirtual 116, 3) := by decide +kernel
theorem dL_act_474 : decode cL_act 474 = .ok (.iadd, 1) := by decide +kernel
theorem dL_act_475 : decode cL_act 475 = .ok (.if_icmp .ne 7, 3) := by decide +kernel
theorem dL_act_478 : decode cL_act 478 = .ok (.iconst 1, 1) := by decide +kernel
theorem dL_act_479 : decode cL_act 479 = .ok (.goto 4, 3) := by decide +kernel
theorem dL_act_482 : decode cL_act 482 = .ok (.iconst 0, 1) := by decide +kernel
theorem dL_act_483 : decode cL_act 483 = .ok (.ireturn, 1) := by decide +kernel
theorem dL_act_484 : decode cL_act 484 = .ok (.aload 8, 2) := by decide +kernel
theorem dL_act_486 : decode cL_act 486 = .ok (.getfield 77, 3) := by decide +kernel
theorem dL_act_489 : decode cL_act 489 = .ok (.iconst 1, 1) := by decide +kernel
theorem dL_act_490 : decode cL_act 490 = .ok (.if_icmp .le 5, 3) := by decide +kernel
theorem dL_act_493 : decode cL_act 493 = .ok (.iconst 1, 1) := by decide +kernel
theorem dL_act_494 : decode cL_act 494 = .ok (.ireturn, 1) := by decide +kernel
theorem dL_act_495 : decode cL_act 495 = .ok (.iload_n 2, 1) := by decide +kernel
theorem dL_act_496 : decode cL_act 496 = .ok (.iconst 5, 1) := by decide +kernel
theorem dL_act_497 : decode cL_act 497 = .ok (.ishr, 1) := by decide +kernel
theorem dL_act_498 : decode cL_act 498 = .ok (.iconst 4, 1) := by decide +kernel
theorem dL_act_499 : decode cL_act 499 = .ok (.invokestatic 18, 3) := by decide +kernel
theorem dL_act_502 : decode cL_act 502 = .ok (.ifCond .le 7, 3) := by decide +kernel
theorem dL_act_505 : decode cL_act 505 = .ok (.iconst 1, 1) := by decide +kernel
theorem dL_act_506 : decode cL_act 506 = .ok (.goto 4, 3) := by decide +kernel
theorem dL_act_509 : decode cL_act 509 = .ok (.iconst 0, 1) := by decide +kernel
theorem dL_act_510 : decode cL_act 510 = .ok (.istore 12, 2) := by decide +kernel
theorem dL_act_512 : decode cL_act 512 = .ok (.iload 12, 2) := by decide +kernel
theorem dL_act_514 : decode cL_act 514 = .ok (.ifCond .eq 38, 3) := by decide +kernel
theorem dL_act_517 : decode cL_act 517 = .ok (.aload 8, 2) := by decide +kernel
theorem dL_act_519 : decode cL_act 519 = .ok (.getfield 77, 3) := by decide +kernel
theorem dL_act_522 : decode cL_act 522 = .ok (.ifCond .ne 30, 3) := by decide +kernel
theorem dL_act_525 : decode cL_act 525 = .ok (.aload_n 1, 1) := by decide +kernel
theorem dL_act_526 : decode cL_act 526 = .ok (.aload 8, 2) := by decide +kernel
theorem dL_act_528 : decode cL_act 528 = .ok (.getfield 98, 3) := by decide +kernel
theorem dL_act_531 : decode cL_act 531 = .ok (.iconst 1, 1) := by decide +kernel
theorem dL_act_532 : decode cL_act 532 = .ok (.invokevirtual 119, 3) := by decide +kernel
theorem dL_act_535 : decode cL_act 535 = .ok (.aload_n 1, 1) := by decide +kernel
theorem dL_act_536 : decode cL_act 536 = .ok (.getfield 41, 3) := by decide +kernel
theorem dL_act_539 : decode cL_act 539 = .ok (.aload 8, 2) := by decide +kernel
theorem dL_act_541 : decode cL_act 541 = .ok (.getfield 98, 3) := by decide +kernel
theorem dL_act_544 : decode cL_act 544 = .ok (.aaload, 1) := by decide +kernel
theorem dL_act_545 : decode cL_act 545 = .ok (.iconst 0, 1) := by decide +kernel
theorem dL_act_546 : decode cL_act 546 = .ok (.iaload, 1) := by decide +kernel
theorem dL_act_547 : decode cL_act 547 = .ok (.if_icmp .ne 5, 3) := by decide +kernel
theorem dL_act_550 : decode cL_act 550 = .ok (.iconst 1, 1) := by decide +kernel
theorem dL_act_551 : decode cL_act 551 = .ok (.ireturn, 1) := by decide +kernel
theorem dL_act_552 : decode cL_act 552 = .ok (.aload 8, 2) := by decide +kernel
theorem dL_act_554 : decode cL_act 554 = .ok (.iload 12, 2) := by decide +kernel
theorem dL_act_556 : decode cL_act 556 = .ok (.ifCond .eq 7, 3) := by decide +kernel
theorem dL_act_559 : decode cL_act 559 = .ok (.iconst 1, 1) := by decide +kernel
theorem dL_act_560 : decode cL_act 560 = .ok (.goto 4, 3) := by decide +kernel
theorem dL_act_563 : decode cL_act 563 = .ok (.iconst 0, 1) := by decide +kernel
theorem dL_act_564 : decode cL_act 564 = .ok (.putfield 77, 3) := by decide +kernel
theorem dL_act_567 : decode cL_act 567 = .ok (.aload_n 0, 1) := by decide +kernel
theorem dL_act_568 : decode cL_act 568 = .ok (.iload 7, 2) := by decide +kernel
theorem dL_act_570 : decode cL_act 570 = .ok (.iload 12, 2) := by decide +kernel
theorem dL_act_572 : decode cL_act 572 = .ok (.invokevirtual 122, 3) := by decide +kernel
theorem dL_act_575 : decode cL_act 575 = .ok (.aload_n 1, 1) := by decide +kernel
theorem dL_act_576 : decode cL_act 576 = .ok (.getfield 41, 3) := by decide +kernel
theorem dL_act_579 : decode cL_act 579 = .ok (.aload 8, 2) := by decide +kernel
theorem dL_act_581 : decode cL_act 581 = .ok (.getfield 98, 3) := by decide +kernel
theorem dL_act_584 : decode cL_act 584 = .ok (.aaload, 1) := by decide +kernel
theorem dL_act_585 : decode cL_act 585 = .ok (.iconst 0, 1) := by decide +kernel
theorem dL_act_586 : decode cL_act 586 = .ok (.iaload, 1) := by decide +kernel
theorem dL_act_587 : decode cL_act 587 = .ok (.aload_n 1, 1) := by decide +kernel
theorem dL_act_588 : decode cL_act 588 = .ok (.aload 8, 2) := by decide +kernel
theorem dL_act_590 : decode cL_act 590 = .ok (.getfield 98, 3) := by decide +kernel
theorem dL_act_593 : decode cL_act 593 = .ok (.iconst 1, 1) := by decide +kernel
theorem dL_act_594 : decode cL_act 594 = .ok (.invokevirtual 119, 3) := by decide +kernel
theorem dL_act_597 : decode cL_act 597 = .ok (.isub, 1) := by decide +kernel
theorem dL_act_598 : decode cL_act 598 = .ok (.if_icmp .ne 7, 3) := by decide +kernel
theorem dL_act_601 : decode cL_act 601 = .ok (.iconst 1, 1) := by decide +kernel
theorem dL_act_602 : decode cL_act 602 = .ok (.goto 4, 3) := by decide +kernel
theorem dL_act_605 : decode cL_act 605 = .ok (.iconst 0, 1) := by decide +kernel
theorem dL_act_606 : decode cL_act 606 = .ok (.ireturn, 1) := by decide +kernel
theorem dL_act_607 : decode cL_act 607 = .ok (.aload 8, 2) := by decide +kernel
theorem dL_act_609 : decode cL_act 609 = .ok (.getfield 77, 3) := by decide +kernel
theorem dL_act_612 : decode cL_act 612 = .ok (.iconst 1, 1) := by decide +kernel
theorem dL_act_613 : decode cL_act 613 = .ok (.if_icmp .le 5, 3) := by decide +kernel
theorem dL_act_616 : decode cL_act 616 = .ok (.iconst 1, 1) := by decide +kernel
theorem dL_act_617 : decode cL_act 617 = .ok (.ireturn, 1) := by decide +kernel
theorem dL_act_618 : decode cL_act 618 = .ok (.aload 8, 2) := by decide +kernel
theorem dL_act_620 : decode cL_act 620 = .ok (.getfield 126, 3) := by decide +kernel
theorem dL_act_623 : decode cL_act 623 = .ok (.bipush 20, 2) := by decide +kernel
theorem dL_act_625 : decode cL_act 625 = .ok (.if_icmp .ge 45, 3) := by decide +kernel
theorem dL_act_628 : decode cL_act 628 = .ok (.aload_n 1, 1) := by decide +kernel
theorem dL_act_629 : decode cL_act 629 = .ok (.getfield 49, 3) := by decide +kernel
theorem dL_act_632 : decode cL_act 632 = .ok (.aload 8, 2) := by decide +kernel
theorem dL_act_634 : decode cL_act 634 = .ok (.getfield 95, 3) := by decide +kernel
theorem dL_act_637 : decode cL_act 637 = .ok (.iaload, 1) := by decide +kernel
theorem dL_act_638 : decode cL_act 638 = .ok (.iconst 3, 1) := by decide +kernel
theorem dL_act_639 : decode cL_act 639 = .ok (.if_icmp .lt 31, 3) := by decide +kernel
theorem dL_act_642 : decode cL_act 642 = .ok (.aload 8, 2) := by decide +kernel
theorem dL_act_644 : decode cL_act 644 = .ok (.dup, 1) := by decide +kernel
theorem dL_act_645 : decode cL_act 645 = .ok (.getfield 126, 3) := by decide +kernel
theorem dL_act_648 : decode cL_act 648 = .ok (.iconst 1, 1) := by decide +kernel
theorem dL_act_649 : decode cL_act 649 = .ok (.iadd, 1) := by decide +kernel
theorem dL_act_650 : decode cL_act 650 = .ok (.putfield 126, 3) := by decide +kernel
theorem dL_act_653 : decode cL_act 653 = .ok (.aload_n 1, 1) := by decide +kernel
theorem dL_act_654 : decode cL_act 654 = .ok (.getfield 49, 3) := by decide +kernel
theorem dL_act_657 : decode cL_act 657 = .ok (.aload 8, 2) := by decide +kernel
theorem dL_act_659 : decode cL_act 659 = .ok (.getfield 95, 3) := by decide +kernel
theorem dL_act_662 : decode cL_act 662 = .ok (.dup2, 1) := by decide +kernel
theorem dL_act_663 : decode cL_act 663 = .ok (.iaload, 1) := by decide +kernel
theorem dL_act_664 : decode cL_act 664 = .ok (.iconst 3, 1) := by decide +kernel
theorem dL_act_665 : decode cL_act 665 = .ok (.isub, 1) := by decide +kernel
theorem dL_act_666 : decode cL_act 666 = .ok (.iastore, 1) := by decide +kernel
theorem dL_act_667 : decode cL_act 667 = .ok (.goto (-49), 3) := by decide +kernel
theorem dL_act_670 : decode cL_act 670 = .ok (.aload_n 0, 1) := by decide +kernel
theorem dL_act_671 : decode cL_act 671 = .ok (.iload 7, 2) := by decide +kernel
theorem dL_act_673 : decode cL_act 673 = .ok (.invokevirtual 129, 3) := by decide +kernel
theorem dL_act_676 : decode cL_act 676 = .ok (.aload 8, 2) := by decide +kernel
theorem dL_act_678 : decode cL_act 678 = .ok (.getfield 126, 3) := by decide +kernel
theorem dL_act_681 : decode cL_act 681 = .ok (.if_icmp .ne 7, 3) := by decide +kernel
theorem dL_act_684 : decode cL_act 684 = .ok (.iconst 1, 1) := by decide +kernel
theorem dL_act_685 : decode cL_act 685 = .ok (.goto 4, 3) := by decide +kernel
theorem dL_act_688 : decode cL_act 688 = .ok (.iconst 0, 1) := by decide +kernel
theorem dL_act_689 : decode cL_act 689 = .ok (.ireturn, 1) := by decide +kernel
theorem dL_act_690 : decode cL_act 690 = .ok (.iload 4, 2) := by decide +kernel
theorem dL_act_692 : decode cL_act 692 = .ok (.iconst 1, 1) := by decide +kernel
theorem dL_act_693 : decode cL_act 693 = .ok (.iadd, 1) := by decide +kernel
theorem dL_act_694 : decode cL_act 694 = .ok (.aload_n 1, 1) := by decide +kernel
theorem dL_act_695 : decode cL_act 695 = .ok (.getfield 49, 3) := by decide +kernel
theorem dL_act_698 : decode cL_act 698 = .ok (.arraylength, 1) := by decide +kernel
theorem dL_act_699 : decode cL_act 699 = .ok (.irem, 1) := by decide +kernel
theorem dL_act_700 : decode cL_act 700 = .ok (.istore 13, 2) := by decide +kernel
theorem dL_act_702 : decode cL_act 702 = .ok (.iload_n 2, 1) := by decide +kernel
theorem dL_act_703 : decode cL_act 703 = .ok (.bipush 7, 2) := by decide +kernel
theorem dL_act_705 : decode cL_act 705 = .ok (.ishr, 1) := by decide +kernel
theorem dL_act_706 : decode cL_act 706 = .ok (.iconst 3, 1) := by decide +kernel
theorem dL_act_707 : decode cL_act 707 = .ok (.invokestatic 18, 3) := by decide +kernel
theorem dL_act_710 : decode cL_act 710 = .ok (.ifCond .ne 98, 3) := by decide +kernel
theorem dL_act_713 : decode cL_act 713 = .ok (.iconst 0, 1) := by decide +kernel
theorem dL_act_714 : decode cL_act 714 = .ok (.istore 14, 2) := by decide +kernel
theorem dL_act_716 : decode cL_act 716 = .ok (.iload 14, 2) := by decide +kernel
theorem dL_act_718 : decode cL_act 718 = .ok (.aload_n 1, 1) := by decide +kernel
theorem dL_act_719 : decode cL_act 719 = .ok (.getfield 132, 3) := by decide +kernel
theorem dL_act_722 : decode cL_act 722 = .ok (.arraylength, 1) := by decide +kernel
theorem dL_act_723 : decode cL_act 723 = .ok (.if_icmp .ge 83, 3) := by decide +kernel
theorem dL_act_726 : decode cL_act 726 = .ok (.aload_n 1, 1) := by decide +kernel
theorem dL_act_727 : decode cL_act 727 = .ok (.getfield 132, 3) := by decide +kernel
theorem dL_act_730 : decode cL_act 730 = .ok (.iload 14, 2) := by decide +kernel
theorem dL_act_732 : decode cL_act 732 = .ok (.aaload, 1) := by decide +kernel
theorem dL_act_733 : decode cL_act 733 = .ok (.astore 15, 2) := by decide +kernel
theorem dL_act_735 : decode cL_act 735 = .ok (.aload 15, 2) := by decide +kernel
theorem dL_act_737 : decode cL_act 737 = .ok (.bipush 6, 2) := by decide +kernel
theorem dL_act_739 : decode cL_act 739 = .ok (.iaload, 1) := by decide +kernel
theorem dL_act_740 : decode cL_act 740 = .ok (.ifCond .gt 60, 3) := by decide +kernel
theorem dL_act_743 : decode cL_act 743 = .ok (.aload_n 1, 1) := by decide +kernel
theorem dL_act_744 : decode cL_act 744 = .ok (.getfield 66, 3) := by decide +kernel
theorem dL_act_747 : decode cL_act 747 = .ok (.aload 15, 2) := by decide +kernel
theorem dL_act_749 : decode cL_act 749 = .ok (.iconst 1, 1) := by decide +kernel
theorem dL_act_750 : decode cL_act 750 = .ok (.iaload, 1) := by decide +kernel
theorem dL_act_751 : decode cL_act 751 = .ok (.aaload, 1) := by decide +kernel
theorem dL_act_752 : decode cL_act 752 = .ok (.iload 5, 2) := by decide +kernel
theorem dL_act_754 : decode cL_act 754 = .ok (.aaload, 1) := by decide +kernel
theorem dL_act_755 : decode cL_act 755 = .ok (.aload 15, 2) := by decide +kernel
theorem dL_act_757 : decode cL_act 757 = .ok (.iconst 3, 1) := by decide +kernel
theorem dL_act_758 : decode cL_act 758 = .ok (.iaload, 1) := by decide +kernel
theorem dL_act_759 : decode cL_act 759 = .ok (.iaload, 1) := by decide +kernel
theorem dL_act_760 : decode cL_act 760 = .ok (.aload 15, 2) := by decide +kernel
theorem dL_act_762 : decode cL_act 762 = .ok (.iconst 4, 1) := by decide +kernel
theorem dL_act_763 : decode cL_act 763 = .ok (.iaload, 1) := by decide +kernel
theorem dL_act_764 : decode cL_act 764 = .ok (.if_icmp .ge 6, 3) := by decide +kernel
theorem dL_act_767 : decode cL_act 767 = .ok (.goto 33, 3) := by decide +kernel
theorem dL_act_770 : decode cL_act 770 = .ok (.aload_n 1, 1) := by decide +kernel
theorem dL_act_771 : decode cL_act 771 = .ok (.aload 15, 2) := by decide +kernel
theorem dL_act_773 : decode cL_act 773 = .ok (.iload 5, 2) := by decide +kernel
theorem dL_act_775 : decode cL_act 775 = .ok (.invokevirtual 135, 3) := by decide +kernel
theorem dL_act_778 : decode cL_act 778 = .ok (.pop, 1) := by decide +kernel
theorem dL_act_779 : decode cL_act 779 = .ok (.aload_n 0, 1) := by decide +kernel
theorem dL_act_780 : decode cL_act 780 = .ok (.iload 14, 2) := by decide +kernel
theorem dL_act_782 : decode cL_act 782 = .ok (.iload 5, 2) := by decide +kernel
theorem dL_act_784 : decode cL_act 784 = .ok (.invokevirtual 139, 3) := by decide +kernel
theorem dL_act_787 : decode cL_act 787 = .ok (.aload 15, 2) := by decide +kernel
theorem dL_act_789 : decode cL_act 789 = .ok (.iconst 4, 1) := by decide +kernel
theorem dL_act_790 : decode cL_act 790 = .ok (.iaload, 1) := by decide +kernel
theorem dL_act_791 : decode cL_act 791 = .ok (.if_icmp .ne 7, 3) := by decide +kernel
theorem dL_act_794 : decode cL_act 794 = .ok (.iconst 1, 1) := by decide +kernel
theorem dL_act_795 : decode cL_act 795 = .ok (.goto 4, 3) := by decide +kernel
theorem dL_act_798 : decode cL_act 798 = .ok (.iconst 0, 1) := by decide +kernel
theorem dL_act_799 : decode cL_act 799 = .ok (.ireturn, 1) := by decide +kernel
theorem dL_act_800 : decode cL_act 800 = .ok (.iinc 14 1, 3) := by decide +kernel
theorem dL_act_803 : decode cL_act 803 = .ok (.goto (-87), 3) := by decide +kernel
theorem dL_act_806 : decode cL_act 806 = .ok (.iconst 1, 1) := by decide +kernel
theorem dL_act_807 : decode cL_act 807 = .ok (.ireturn, 1) := by decide +kernel
theorem dL_act_808 : decode cL_act 808 = .ok (.aload_n 1, 1) := by decide +kernel
theorem dL_act_809 : decode cL_act 809 = .ok (.getfield 132, 3) := by decide +kernel
theorem dL_act_812 : decode cL_act 812 = .ok (.arraylength, 1) := by decide +kernel
theorem dL_act_813 : decode cL_act 813 = .ok (.bipush 30, 2) := by decide +kernel
theorem dL_act_815 : decode cL_act 815 = .ok (.if_icmp .eq 19, 3) := by decide +kernel
theorem dL_act_818 : decode cL_act 818 = .ok (.aload_n 1, 1) := by decide +kernel
theorem dL_act_819 : decode cL_act 819 = .ok (.getfield 66, 3) := by decide +kernel
theorem dL_act_822 : decode cL_act 822 = .ok (.iload 4, 2) := by decide +kernel
theorem dL_act_824 : decode cL_act 824 = .ok (.aaload, 1) := by decide +kernel
theorem dL_act_825 : decode cL_act 825 = .ok (.iload 5, 2) := by decide +kernel
theorem dL_act_827 : decode cL_act 827 = .ok (.aaload, 1) := by decide +kernel
theorem dL_act_828 : decode cL_act 828 = .ok (.iload 6, 2) := by decide +kernel
theorem dL_act_830 : decode cL_act 830 = .ok (.iaload, 1) := by decide +kernel
theorem dL_act_831 : decode cL_act 831 = .ok (.ifCond .ne 5, 3) := by decide +kernel
theorem dL_act_834 : decode cL_act 834 = .ok (.iconst 1, 1) := by decide +kernel
theorem dL_act_835 : decode cL_act 835 = .ok (.ireturn, 1) := by decide +kernel
theorem dL_act_836 : decode cL_act 836 = .ok (.iconst 1, 1) := by decide +kernel
theorem dL_act_837 : decode cL_act 837 = .ok (.iload_n 2, 1) := by decide +kernel
theorem dL_act_838 : decode cL_act 838 = .ok (.iconst 5, 1) := by decide +kernel
theorem dL_act_839 : decode cL_act 839 = .ok (.ishr, 1) := by decide +kernel
theorem dL_act_840 : decode cL_act 840 = .ok (.aload_n 1, 1) := by decide +kernel
theorem dL_act_841 : decode cL_act 841 = .ok (.getfield 66, 3) := by decide +kernel
theorem dL_act_844 : decode cL_act 844 = .ok (.iload 4, 2) := by decide +kernel
theorem dL_act_846 : decode cL_act 846 = .ok (.aaload, 1) := by decide +kernel
theorem dL_act_847 : decode cL_act 847 = .ok (.iload 5, 2) := by decide +kernel
theorem dL_act_849 : decode cL_act 849 = .ok (.aaload, 1) := by decide +kernel
theorem dL_act_850 : decode cL_act 850 = .ok (.iload 6, 2) := by decide +kernel
theorem dL_act_852 : decode cL_act 852 = .ok (.iaload, 1) := by decide +kernel
theorem dL_act_853 : decode cL_act 853 = .ok (.invokestatic 18, 3) := by decide +kernel
theorem dL_act_856 : decode cL_act 856 = .ok (.iadd, 1) := by decide +kernel
theorem dL_act_857 : decode cL_act 857 = .ok (.istore 14, 2) := by decide +kernel
theorem dL_act_859 : decode cL_act 859 = .ok (.aload_n 1, 1) := by decide +kernel
theorem dL_act_860 : decode cL_act 860 = .ok (.getfield 142, 3) := by decide +kernel
theorem dL_act_863 : decode cL_act 863 = .ok (.iload_n 2, 1) := by decide +kernel
theorem dL_act_864 : decode cL_act 864 = .ok (.bipush 6, 2) := by decide +kernel
theorem dL_act_866 : decode cL_act 866 = .ok (.ishr, 1) := by decide +kernel
theorem dL_act_867 : decode cL_act 867 = .ok (.bipush 20, 2) := by decide +kernel
theorem dL_act_869 : decode cL_act 869 = .ok (.invokestatic 18, 3) := by decide +kernel
theorem dL_act_872 : decode cL_act 872 = .ok (.iadd, 1) := by decide +kernel
theorem dL_act_873 : decode cL_act 873 = .ok (.istore 15, 2) := by decide +kernel
theorem dL_act_875 : decode cL_act 875 = .ok (.aload_n 1, 1) := by decide +kernel
theorem dL_act_876 : decode cL_act 876 = .ok (.getfield 66, 3) := by decide +kernel
theorem dL_act_879 : decode cL_act 879 = .ok (.iload 4, 2) := by decide +kernel
theorem dL_act_881 : decode cL_act 881 = .ok (.aaload, 1) := by decide +kernel
theorem dL_act_882 : decode cL_act 882 = .ok (.iload 5, 2) := by decide +kernel
theorem dL_act_884 : decode cL_act 884 = .ok (.aaload, 1) := by decide +kernel
theorem dL_act_885 : decode cL_act 885 = .ok (.iload 6, 2) := by decide +kernel
theorem dL_act_887 : decode cL_act 887 = .ok (.dup2, 1) := by decide +kernel
theorem dL_act_888 : decode cL_act 888 = .ok (.iaload, 1) := by decide +kernel
theorem dL_act_889 : decode cL_act 889 = .ok (.iload 14, 2) := by decide +kernel
theorem dL_act_891 : decode cL_act 891 = .ok (.isub, 1) := by decide +kernel
theorem dL_act_892 : decode cL_act 892 = .ok (.iastore, 1) := by decide +kernel
theorem dL_act_893 : decode cL_act 893 = .ok (.aload_n 1, 1) := by decide +kernel
theorem dL_act_894 : decode cL_act 894 = .ok (.getfield 66, 3) := by decide +kernel
theorem dL_act_897 : decode cL_act 897 = .ok (.iload 13, 2) := by decide +kernel
theorem dL_act_899 : decode cL_act 899 = .ok (.aaload, 1) := by decide +kernel
theorem dL_act_900 : decode cL_act 900 = .ok (.iload 5, 2) := by decide +kernel
theorem dL_act_902 : decode cL_act 902 = .ok (.aaload, 1) := by decide +kernel
theorem dL_act_903 : decode cL_act 903 = .ok (.iload 6, 2) := by decide +kernel
theorem dL_act_905 : decode cL_act 905 = .ok (.dup2, 1) := by decide +kernel
theorem dL_act_906 : decode cL_act 906 = .ok (.iaload, 1) := by decide +kernel
theorem dL_act_907 : decode cL_act 907 = .ok (.iload 14, 2) := by decide +kernel
theorem dL_act_909 : decode cL_act 909 = .ok (.iadd, 1) := by decide +kernel
theorem dL_act_910 : decode cL_act 910 = .ok (.iastore, 1) := by decide +kernel
theorem dL_act_911 : decode cL_act 911 = .ok (.aload_n 1, 1) := by decide +kernel
theorem dL_act_912 : decode cL_act 912 = .ok (.aload_n 1, 1) := by decide +kernel
theorem dL_act_913 : decode cL_act 913 = .ok (.getfield 132, 3) := by decide +kernel
theorem dL_act_916 : decode cL_act 916 = .ok (.bipush 7, 2) := by decide +kernel
theorem dL_act_918 : decode cL_act 918 = .ok (.newarray .int, 2) := by decide +kernel
theorem dL_act_920 : decode cL_act 920 = .ok (.dup, 1) := by decide +kernel
theorem dL_act_921 : decode cL_act 921 = .ok (.iconst 0, 1) := by decide +kernel
theorem dL_act_922 : decode cL_act 922 = .ok (.iload 4, 2) := by decide +kernel
theorem dL_act_924 : decode cL_act 924 = .ok (.iastore, 1) := by decide +kernel
theorem dL_act_925 : decode cL_act 925 = .ok (.dup, 1) := by decide +kernel
theorem dL_act_926 : decode cL_act 926 = .ok (.iconst 1, 1) := by decide +kernel
theorem dL_act_927 : decode cL_act 927 = .ok (.iload 13, 2) := by decide +kernel
theorem dL_act_929 : decode cL_act 929 = .ok (.iastore, 1) := by decide +kernel
theorem dL_act_930 : decode cL_act 930 = .ok (.dup, 1) := by decide +kernel
theorem dL_act_931 : decode cL_act 931 = .ok (.iconst 2, 1) := by decide +kernel
theorem dL_act_932 : decode cL_act 932 = .ok (.iload 5, 2) := by decide +kernel
theorem dL_act_934 : decode cL_act 934 = .ok (.iastore, 1) := by decide +kernel
theorem dL_act_935 : decode cL_act 935 = .ok (.dup, 1) := by decide +kernel
theorem dL_act_936 : decode cL_act 936 = .ok (.iconst 3, 1) := by decide +kernel
theorem dL_act_937 : decode cL_act 937 = .ok (.iload 6, 2) := by decide +kernel
theorem dL_act_939 : decode cL_act 939 = .ok (.iastore, 1) := by decide +kernel
theorem dL_act_940 : decode cL_act 940 = .ok (.dup, 1) := by decide +kernel
theorem dL_act_941 : decode cL_act 941 = .ok (.iconst 4, 1) := by decide +kernel
theorem dL_act_942 : decode cL_act 942 = .ok (.iload 14, 2) := by decide +kernel
theorem dL_act_944 : decode cL_act 944 = .ok (.iload 14, 2) := by decide +kernel
theorem dL_act_946 : decode cL_act 946 = .ok (.bipush 10, 2) := by decide +kernel
theorem dL_act_948 : decode cL_act 948 = .ok (.idiv, 1) := by decide +kernel
theorem dL_act_949 : decode cL_act 949 = .ok (.iadd, 1) := by decide +kernel
theorem dL_act_950 : decode cL_act 950 = .ok (.iastore, 1) := by decide +kernel
theorem dL_act_951 : decode cL_act 951 = .ok (.dup, 1) := by decide +kernel
theorem dL_act_952 : decode cL_act 952 = .ok (.iconst 5, 1) := by decide +kernel
theorem dL_act_953 : decode cL_act 953 = .ok (.iload 15, 2) := by decide +kernel
theorem dL_act_955 : decode cL_act 955 = .ok (.iastore, 1) := by decide +kernel
theorem dL_act_956 : decode cL_act 956 = .ok (.dup, 1) := by decide +kernel
theorem dL_act_957 : decode cL_act 957 = .ok (.bipush 6, 2) := by decide +kernel
theorem dL_act_959 : decode cL_act 959 = .ok (.iconst 0, 1) := by decide +kernel
theorem dL_act_960 : decode cL_act 960 = .ok (.iastore, 1) := by decide +kernel
theorem dL_act_961 : decode cL_act 961 = .ok (.invokestatic 45, 3) := by decide +kernel
theorem dL_act_964 : decode cL_act 964 = .ok (.putfield 132, 3) := by decide +kernel
theorem dL_act_967 : decode cL_act 967 = .ok (.aload_n 0, 1) := by decide +kernel
theorem dL_act_968 : decode cL_act 968 = .ok (.iload 4, 2) := by decide +kernel
theorem dL_act_970 : decode cL_act 970 = .ok (.iload 13, 2) := by decide +kernel
theorem dL_act_972 : decode cL_act 972 = .ok (.iload 5, 2) := by decide +kernel
theorem dL_act_974 : decode cL_act 974 = .ok (.iload 6, 2) := by decide +kernel
theorem dL_act_976 : decode cL_act 976 = .ok (.iload 14, 2) := by decide +kernel
theorem dL_act_978 : decode cL_act 978 = .ok (.iload 15, 2) := by decide +kernel
theorem dL_act_980 : decode cL_act 980 = .ok (.invokevirtual 145, 3) := by decide +kernel
theorem dL_act_983 : decode cL_act 983 = .ok (.aload_n 1, 1) := by decide +kernel
theorem dL_act_984 : decode cL_act 984 = .ok (.getfield 132, 3) := by decide +kernel
theorem dL_act_987 : decode cL_act 987 = .ok (.arraylength, 1) := by decide +kernel
theorem dL_act_988 : decode cL_act 988 = .ok (.iconst 1, 1) := by decide +kernel
theorem dL_act_989 : decode cL_act 989 = .ok (.isub, 1) := by decide +kernel
theorem dL_act_990 : decode cL_act 990 = .ok (.if_icmp .ne 7, 3) := by decide +kernel
theorem dL_act_993 : decode cL_act 993 = .ok (.iconst 1, 1) := by decide +kernel
theorem dL_act_994 : decode cL_act 994 = .ok (.goto 4, 3) := by decide +kernel
theorem dL_act_997 : decode cL_act 997 = .ok (.iconst 0, 1) := by decide +kernel
theorem dL_act_998 : decode cL_act 998 = .ok (.ireturn, 1) := by decide +kernel
