theorem dX12_blow_50 : decode cX12_blow 50 = .ok (.iload 4, 2) := by decide +kernel
theorem dX12_blow_52 : decode cX12_blow 52 = .ok (.iload_n 2, 1) := by decide +kernel
theorem dX12_blow_53 : decode cX12_blow 53 = .ok (.if_icmp .eq 45, 3) := by decide +kernel
theorem dX12_blow_56 : decode cX12_blow 56 = .ok (.aload_n 0, 1) := by decide +kernel
theorem dX12_blow_57 : decode cX12_blow 57 = .ok (.getfield 7, 3) := by decide +kernel
theorem dX12_blow_60 : decode cX12_blow 60 = .ok (.iload 5, 2) := by decide +kernel
theorem dX12_blow_62 : decode cX12_blow 62 = .ok (.iconst 1, 1) := by decide +kernel
theorem dX12_blow_63 : decode cX12_blow 63 = .ok (.iadd, 1) := by decide +kernel
theorem dX12_blow_64 : decode cX12_blow 64 = .ok (.iaload, 1) := by decide +kernel
theorem dX12_blow_65 : decode cX12_blow 65 = .ok (.iload_n 1, 1) := by decide +kernel
theorem dX12_blow_66 : decode cX12_blow 66 = .ok (.if_icmp .gt 32, 3) := by decide +kernel
theorem dX12_blow_69 : decode cX12_blow 69 = .ok (.aload_n 0, 1) := by decide +kernel
theorem dX12_blow_70 : decode cX12_blow 70 = .ok (.getfield 7, 3) := by decide +kernel
theorem dX12_blow_73 : decode cX12_blow 73 = .ok (.iload 5, 2) := by decide +kernel
theorem dX12_blow_75 : decode cX12_blow 75 = .ok (.iconst 2, 1) := by decide +kernel
theorem dX12_blow_76 : decode cX12_blow 76 = .ok (.iadd, 1) := by decide +kernel
theorem dX12_blow_77 : decode cX12_blow 77 = .ok (.iaload, 1) := by decide +kernel
theorem dX12_blow_78 : decode cX12_blow 78 = .ok (.ifCond .lt 16, 3) := by decide +kernel
theorem dX12_blow_81 : decode cX12_blow 81 = .ok (.iload_n 1, 1) := by decide +kernel
theorem dX12_blow_82 : decode cX12_blow 82 = .ok (.aload_n 0, 1) := by decide +kernel
theorem dX12_blow_83 : decode cX12_blow 83 = .ok (.getfield 7, 3) := by decide +kernel
theorem dX12_blow_86 : decode cX12_blow 86 = .ok (.iload 5, 2) := by decide +kernel
theorem dX12_blow_88 : decode cX12_blow 88 = .ok (.iconst 2, 1) := by decide +kernel
theorem dX12_blow_89 : decode cX12_blow 89 = .ok (.iadd, 1) := by decide +kernel
theorem dX12_blow_90 : decode cX12_blow 90 = .ok (.iaload, 1) := by decide +kernel
theorem dX12_blow_91 : decode cX12_blow 91 = .ok (.if_icmp .ge 7, 3) := by decide +kernel
theorem dX12_blow_94 : decode cX12_blow 94 = .ok (.iconst 1, 1) := by decide +kernel
theorem dX12_blow_95 : decode cX12_blow 95 = .ok (.goto 4, 3) := by decide +kernel
theorem dX12_blow_98 : decode cX12_blow 98 = .ok (.iconst 0, 1) := by decide +kernel
theorem dX12_blow_99 : decode cX12_blow 99 = .ok (.istore 6, 2) := by decide +kernel
theorem dX12_blow_101 : decode cX12_blow 101 = .ok (.iload 6, 2) := by decide +kernel
theorem dX12_blow_103 : decode cX12_blow 103 = .ok (.ifCond .eq 50, 3) := by decide +kernel
theorem dX12_blow_106 : decode cX12_blow 106 = .ok (.aload_n 0, 1) := by decide +kernel
theorem dX12_blow_107 : decode cX12_blow 107 = .ok (.getfield 19, 3) := by decide +kernel
theorem dX12_blow_110 : decode cX12_blow 110 = .ok (.aload_n 0, 1) := by decide +kernel
theorem dX12_blow_111 : decode cX12_blow 111 = .ok (.getfield 7, 3) := by decide +kernel
theorem dX12_blow_114 : decode cX12_blow 114 = .ok (.iload 5, 2) := by decide +kernel
theorem dX12_blow_116 : decode cX12_blow 116 = .ok (.iaload, 1) := by decide +kernel
theorem dX12_blow_117 : decode cX12_blow 117 = .ok (.iaload, 1) := by decide +kernel
theorem dX12_blow_118 : decode cX12_blow 118 = .ok (.ifCond .ne 6, 3) := by decide +kernel
theorem dX12_blow_121 : decode cX12_blow 121 = .ok (.goto 32, 3) := by decide +kernel
theorem dX12_blow_124 : decode cX12_blow 124 = .ok (.aload_n 0, 1) := by decide +kernel
theorem dX12_blow_125 : decode cX12_blow 125 = .ok (.getfield 19, 3) := by decide +kernel
theorem dX12_blow_128 : decode cX12_blow 128 = .ok (.aload_n 0, 1) := by decide +kernel
theorem dX12_blow_129 : decode cX12_blow 129 = .ok (.getfield 7, 3) := by decide +kernel
theorem dX12_blow_132 : decode cX12_blow 132 = .ok (.iload 5, 2) := by decide +kernel
theorem dX12_blow_134 : decode cX12_blow 134 = .ok (.iaload, 1) := by decide +kernel
theorem dX12_blow_135 : decode cX12_blow 135 = .ok (.iconst 0, 1) := by decide +kernel
theorem dX12_blow_136 : decode cX12_blow 136 = .ok (.iastore, 1) := by decide +kernel
theorem dX12_blow_137 : decode cX12_blow 137 = .ok (.aload_n 0, 1) := by decide +kernel
theorem dX12_blow_138 : decode cX12_blow 138 = .ok (.getfield 22, 3) := by decide +kernel
theorem dX12_blow_141 : decode cX12_blow 141 = .ok (.iload_n 3, 1) := by decide +kernel
theorem dX12_blow_142 : decode cX12_blow 142 = .ok (.aload_n 0, 1) := by decide +kernel
theorem dX12_blow_143 : decode cX12_blow 143 = .ok (.getfield 7, 3) := by decide +kernel
theorem dX12_blow_146 : decode cX12_blow 146 = .ok (.iload 5, 2) := by decide +kernel
theorem dX12_blow_148 : decode cX12_blow 148 = .ok (.iaload, 1) := by decide +kernel
theorem dX12_blow_149 : decode cX12_blow 149 = .ok (.iastore, 1) := by decide +kernel
theorem dX12_blow_150 : decode cX12_blow 150 = .ok (.iinc 3 1, 3) := by decide +kernel
theorem dX12_blow_153 : decode cX12_blow 153 = .ok (.iinc 4 1, 3) := by decide +kernel
theorem dX12_blow_156 : decode cX12_blow 156 = .ok (.goto (-127), 3) := by decide +kernel
theorem dX12_blow_159 : decode cX12_blow 159 = .ok (.iconst 0, 1) := by decide +kernel
theorem dX12_blow_160 : decode cX12_blow 160 = .ok (.istore 4, 2) := by decide +kernel
theorem dX12_blow_162 : decode cX12_blow 162 = .ok (.iload 4, 2) := by decide +kernel
theorem dX12_blow_164 : decode cX12_blow 164 = .ok (.iload_n 3, 1) := by decide +kernel
theorem dX12_blow_165 : decode cX12_blow 165 = .ok (.if_icmp .ge 136, 3) := by decide +kernel
theorem dX12_blow_168 : decode cX12_blow 168 = .ok (.aload_n 0, 1) := by decide +kernel
theorem dX12_blow_169 : decode cX12_blow 169 = .ok (.getfield 22, 3) := by decide +kernel
theorem dX12_blow_172 : decode cX12_blow 172 = .ok (.iload 4, 2) := by decide +kernel
theorem dX12_blow_174 : decode cX12_blow 174 = .ok (.iaload, 1) := by decide +kernel
theorem dX12_blow_175 : decode cX12_blow 175 = .ok (.istore 5, 2) := by decide +kernel
theorem dX12_blow_177 : decode cX12_blow 177 = .ok (.aload_n 0, 1) := by decide +kernel
theorem dX12_blow_178 : decode cX12_blow 178 = .ok (.getfield 19, 3) := by decide +kernel
theorem dX12_blow_181 : decode cX12_blow 181 = .ok (.iload 5, 2) := by decide +kernel
theorem dX12_blow_183 : decode cX12_blow 183 = .ok (.iaload, 1) := by decide +kernel
theorem dX12_blow_184 : decode cX12_blow 184 = .ok (.aload_n 0, 1) := by decide +kernel
theorem dX12_blow_185 : decode cX12_blow 185 = .ok (.getfield 7, 3) := by decide +kernel
theorem dX12_blow_188 : decode cX12_blow 188 = .ok (.bipush 13, 2) := by decide +kernel
theorem dX12_blow_190 : decode cX12_blow 190 = .ok (.iaload, 1) := by decide +kernel
theorem dX12_blow_191 : decode cX12_blow 191 = .ok (.if_icmp .eq 104, 3) := by decide +kernel
theorem dX12_blow_194 : decode cX12_blow 194 = .ok (.aload_n 0, 1) := by decide +kernel
theorem dX12_blow_195 : decode cX12_blow 195 = .ok (.getfield 19, 3) := by decide +kernel
theorem dX12_blow_198 : decode cX12_blow 198 = .ok (.iload 5, 2) := by decide +kernel
theorem dX12_blow_200 : decode cX12_blow 200 = .ok (.iaload, 1) := by decide +kernel
theorem dX12_blow_201 : decode cX12_blow 201 = .ok (.ifCond .le 15, 3) := by decide +kernel
theorem dX12_blow_204 : decode cX12_blow 204 = .ok (.aload_n 0, 1) := by decide +kernel
theorem dX12_blow_205 : decode cX12_blow 205 = .ok (.iload 5, 2) := by decide +kernel
theorem dX12_blow_207 : decode cX12_blow 207 = .ok (.invokevirtual 118, 3) := by decide +kernel
theorem dX12_blow_210 : decode cX12_blow 210 = .ok (.ifCond .ne 6, 3) := by decide +kernel
theorem dX12_blow_213 : decode cX12_blow 213 = .ok (.goto 82, 3) := by decide +kernel
theorem dX12_blow_216 : decode cX12_blow 216 = .ok (.iconst 0, 1) := by decide +kernel
theorem dX12_blow_217 : decode cX12_blow 217 = .ok (.istore 6, 2) := by decide +kernel
theorem dX12_blow_219 : decode cX12_blow 219 = .ok (.iload 6, 2) := by decide +kernel
theorem dX12_blow_221 : decode cX12_blow 221 = .ok (.iconst 4, 1) := by decide +kernel
theorem dX12_blow_222 : decode cX12_blow 222 = .ok (.if_icmp .ge 73, 3) := by decide +kernel
theorem dX12_blow_225 : decode cX12_blow 225 = .ok (.aload_n 0, 1) := by decide +kernel
theorem dX12_blow_226 : decode cX12_blow 226 = .ok (.iload 5, 2) := by decide +kernel
theorem dX12_blow_228 : decode cX12_blow 228 = .ok (.iload 6, 2) := by decide +kernel
theorem dX12_blow_230 : decode cX12_blow 230 = .ok (.invokevirtual 111, 3) := by decide +kernel
theorem dX12_blow_233 : decode cX12_blow 233 = .ok (.istore 7, 2) := by decide +kernel
theorem dX12_blow_235 : decode cX12_blow 235 = .ok (.iload 7, 2) := by decide +kernel
theorem dX12_blow_237 : decode cX12_blow 237 = .ok (.ifCond .lt 52, 3) := by decide +kernel
theorem dX12_blow_240 : decode cX12_blow 240 = .ok (.aload_n 0, 1) := by decide +kernel
theorem dX12_blow_241 : decode cX12_blow 241 = .ok (.getfield 19, 3) := by decide +kernel
theorem dX12_blow_244 : decode cX12_blow 244 = .ok (.iload 7, 2) := by decide +kernel
theorem dX12_blow_246 : decode cX12_blow 246 = .ok (.iaload, 1) := by decide +kernel
theorem dX12_blow_247 : decode cX12_blow 247 = .ok (.ifCond .ge 42, 3) := by decide +kernel
theorem dX12_blow_250 : decode cX12_blow 250 = .ok (.aload_n 0, 1) := by decide +kernel
theorem dX12_blow_251 : decode cX12_blow 251 = .ok (.iload 7, 2) := by decide +kernel
theorem dX12_blow_253 : decode cX12_blow 253 = .ok (.invokevirtual 118, 3) := by decide +kernel
theorem dX12_blow_256 : decode cX12_blow 256 = .ok (.ifCond .ne 6, 3) := by decide +kernel
theorem dX12_blow_259 : decode cX12_blow 259 = .ok (.goto 30, 3) := by decide +kernel
theorem dX12_blow_262 : decode cX12_blow 262 = .ok (.aload_n 0, 1) := by decide +kernel
theorem dX12_blow_263 : decode cX12_blow 263 = .ok (.getfield 19, 3) := by decide +kernel
theorem dX12_blow_266 : decode cX12_blow 266 = .ok (.iload 7, 2) := by decide +kernel
theorem dX12_blow_268 : decode cX12_blow 268 = .ok (.aload_n 0, 1) := by decide +kernel
theorem dX12_blow_269 : decode cX12_blow 269 = .ok (.getfield 19, 3) := by decide +kernel
theorem dX12_blow_272 : decode cX12_blow 272 = .ok (.iload 5, 2) := by decide +kernel
theorem dX12_blow_274 : decode cX12_blow 274 = .ok (.iaload, 1) := by decide +kernel
theorem dX12_blow_275 : decode cX12_blow 275 = .ok (.iconst 1, 1) := by decide +kernel
theorem dX12_blow_276 : decode cX12_blow 276 = .ok (.iadd, 1) := by decide +kernel
theorem dX12_blow_277 : decode cX12_blow 277 = .ok (.iastore, 1) := by decide +kernel
theorem dX12_blow_278 : decode cX12_blow 278 = .ok (.aload_n 0, 1) := by decide +kernel
theorem dX12_blow_279 : decode cX12_blow 279 = .ok (.getfield 22, 3) := by decide +kernel
theorem dX12_blow_282 : decode cX12_blow 282 = .ok (.iload_n 3, 1) := by decide +kernel
theorem dX12_blow_283 : decode cX12_blow 283 = .ok (.iload 7, 2) := by decide +kernel
theorem dX12_blow_285 : decode cX12_blow 285 = .ok (.iastore, 1) := by decide +kernel
theorem dX12_blow_286 : decode cX12_blow 286 = .ok (.iinc 3 1, 3) := by decide +kernel
theorem dX12_blow_289 : decode cX12_blow 289 = .ok (.iinc 6 1, 3) := by decide +kernel
theorem dX12_blow_292 : decode cX12_blow 292 = .ok (.goto (-73), 3) := by decide +kernel
theorem dX12_blow_295 : decode cX12_blow 295 = .ok (.iinc 4 1, 3) := by decide +kernel
theorem dX12_blow_298 : decode cX12_blow 298 = .ok (.goto (-136), 3) := by decide +kernel
theorem dX12_blow_301 : decode cX12_blow 301 = .ok (.iconst 0, 1) := by decide +kernel
theorem dX12_blow_302 : decode cX12_blow 302 = .ok (.istore 4, 2) := by decide +kernel
theorem dX12_blow_304 : decode cX12_blow 304 = .ok (.iload 4, 2) := by decide +kernel
theorem dX12_blow_306 : decode cX12_blow 306 = .ok (.aload_n 0, 1) := by decide +kernel
theorem dX12_blow_307 : decode cX12_blow 307 = .ok (.getfield 86, 3) := by decide +kernel
theorem dX12_blow_310 : decode cX12_blow 310 = .ok (.aload_n 0, 1) := by decide +kernel
theorem dX12_blow_311 : decode cX12_blow 311 = .ok (.getfield 89, 3) := by decide +kernel
theorem dX12_blow_314 : decode cX12_blow 314 = .ok (.imul, 1) := by decide +kernel
theorem dX12_blow_315 : decode cX12_blow 315 = .ok (.if_icmp .ge 124, 3) := by decide +kernel
theorem dX12_blow_318 : decode cX12_blow 318 = .ok (.aload_n 0, 1) := by decide +kernel
theorem dX12_blow_319 : decode cX12_blow 319 = .ok (.getfield 43, 3) := by decide +kernel
theorem dX12_blow_322 : decode cX12_blow 322 = .ok (.iload 4, 2) := by decide +kernel
theorem dX12_blow_324 : decode cX12_blow 324 = .ok (.aload_n 0, 1) := by decide +kernel
theorem dX12_blow_325 : decode cX12_blow 325 = .ok (.getfield 19, 3) := by decide +kernel
theorem dX12_blow_328 : decode cX12_blow 328 = .ok (.iload 4, 2) := by decide +kernel
theorem dX12_blow_330 : decode cX12_blow 330 = .ok (.iaload, 1) := by decide +kernel
theorem dX12_blow_331 : decode cX12_blow 331 = .ok (.ifCond .lt 7, 3) := by decide +kernel
theorem dX12_blow_334 : decode cX12_blow 334 = .ok (.iconst 1, 1) := by decide +kernel
theorem dX12_blow_335 : decode cX12_blow 335 = .ok (.goto 4, 3) := by decide +kernel
theorem dX12_blow_338 : decode cX12_blow 338 = .ok (.iconst 0, 1) := by decide +kernel
theorem dX12_blow_339 : decode cX12_blow 339 = .ok (.bastore, 1) := by decide +kernel
theorem dX12_blow_340 : decode cX12_blow 340 = .ok (.iconst 0, 1) := by decide +kernel
theorem dX12_blow_341 : decode cX12_blow 341 = .ok (.istore 5, 2) := by decide +kernel
theorem dX12_blow_343 : decode cX12_blow 343 = .ok (.iload 5, 2) := by decide +kernel
theorem dX12_blow_345 : decode cX12_blow 345 = .ok (.iconst 4, 1) := by decide +kernel
theorem dX12_blow_346 : decode cX12_blow 346 = .ok (.if_icmp .ge 87, 3) := by decide +kernel
theorem dX12_blow_349 : decode cX12_blow 349 = .ok (.aload_n 0, 1) := by decide +kernel
theorem dX12_blow_350 : decode cX12_blow 350 = .ok (.getfield 43, 3) := by decide +kernel
theorem dX12_blow_353 : decode cX12_blow 353 = .ok (.iload 4, 2) := by decide +kernel
theorem dX12_blow_355 : decode cX12_blow 355 = .ok (.baload, 1) := by decide +kernel
theorem dX12_blow_356 : decode cX12_blow 356 = .ok (.ifCond .ne 77, 3) := by decide +kernel
theorem dX12_blow_359 : decode cX12_blow 359 = .ok (.aload_n 0, 1) := by decide +kernel
theorem dX12_blow_360 : decode cX12_blow 360 = .ok (.iload 4, 2) := by decide +kernel
theorem dX12_blow_362 : decode cX12_blow 362 = .ok (.invokevirtual 118, 3) := by decide +kernel
theorem dX12_blow_365 : decode cX12_blow 365 = .ok (.ifCond .ne 68, 3) := by decide +kernel
theorem dX12_blow_368 : decode cX12_blow 368 = .ok (.aload_n 0, 1) := by decide +kernel
theorem dX12_blow_369 : decode cX12_blow 369 = .ok (.iload 4, 2) := by decide +kernel
theorem dX12_blow_371 : decode cX12_blow 371 = .ok (.iload 5, 2) := by decide +kernel
theorem dX12_blow_373 : decode cX12_blow 373 = .ok (.invokevirtual 111, 3) := by decide +kernel
theorem dX12_blow_376 : decode cX12_blow 376 = .ok (.istore 6, 2) := by decide +kernel
theorem dX12_blow_378 : decode cX12_blow 378 = .ok (.aload_n 0, 1) := by decide +kernel
theorem dX12_blow_379 : decode cX12_blow 379 = .ok (.getfield 43, 3) := by decide +kernel
theorem dX12_blow_382 : decode cX12_blow 382 = .ok (.iload 4, 2) := by decide +kernel
theorem dX12_blow_384 : decode cX12_blow 384 = .ok (.iload 6, 2) := by decide +kernel
theorem dX12_blow_386 : decode cX12_blow 386 = .ok (.ifCond .lt 39, 3) := by decide +kernel
theorem dX12_blow_389 : decode cX12_blow 389 = .ok (.aload_n 0, 1) := by decide +kernel
theorem dX12_blow_390 : decode cX12_blow 390 = .ok (.iload 6, 2) := by decide +kernel
theorem dX12_blow_392 : decode cX12_blow 392 = .ok (.invokevirtual 118, 3) := by decide +kernel
theorem dX12_blow_395 : decode cX12_blow 395 = .ok (.ifCond .eq 30, 3) := by decide +kernel
theorem dX12_blow_398 : decode cX12_blow 398 = .ok (.aload_n 0, 1) := by decide +kernel
theorem dX12_blow_399 : decode cX12_blow 399 = .ok (.getfield 19, 3) := by decide +kernel
theorem dX12_blow_402 : decode cX12_blow 402 = .ok (.iload 6, 2) := by decide +kernel
theorem dX12_blow_404 : decode cX12_blow 404 = .ok (.iaload, 1) := by decide +kernel
theorem dX12_blow_405 : decode cX12_blow 405 = .ok (.iconst 0, 1) := by decide +kernel
theorem dX12_blow_406 : decode cX12_blow 406 = .ok (.aload_n 0, 1) := by decide +kernel
theorem dX12_blow_407 : decode cX12_blow 407 = .ok (.getfield 7, 3) := by decide +kernel
theorem dX12_blow_410 : decode cX12_blow 410 = .ok (.bipush 13, 2) := by decide +kernel
theorem dX12_blow_412 : decode cX12_blow 412 = .ok (.iaload, 1) := by decide +kernel
theorem dX12_blow_413 : decode cX12_blow 413 = .ok (.iconst 1, 1) := by decide +kernel
theorem dX12_blow_414 : decode cX12_blow 414 = .ok (.isub, 1) := by decide +kernel
theorem dX12_blow_415 : decode cX12_blow 415 = .ok (.invokestatic 96, 3) := by decide +kernel
theorem dX12_blow_418 : decode cX12_blow 418 = .ok (.ifCond .eq 7, 3) := by decide +kernel
theorem dX12_blow_421 : decode cX12_blow 421 = .ok (.iconst 1, 1) := by decide +kernel
theorem dX12_blow_422 : decode cX12_blow 422 = .ok (.goto 4, 3) := by decide +kernel
theorem dX12_blow_425 : decode cX12_blow 425 = .ok (.iconst 0, 1) := by decide +kernel
theorem dX12_blow_426 : decode cX12_blow 426 = .ok (.bastore, 1) := by decide +kernel
theorem dX12_blow_427 : decode cX12_blow 427 = .ok (.iinc 5 1, 3) := by decide +kernel
theorem dX12_blow_430 : decode cX12_blow 430 = .ok (.goto (-87), 3) := by decide +kernel
theorem dX12_blow_433 : decode cX12_blow 433 = .ok (.iinc 4 1, 3) := by decide +kernel
theorem dX12_blow_436 : decode cX12_blow 436 = .ok (.goto (-132), 3) := by decide +kernel
theorem dX12_blow_439 : decode cX12_blow 439 = .ok (.return_, 1) := by decide +kernel
theorem dX12_burnOn_0 : decode cX12_burnOn 0 = .ok (.iconst 0, 1) := by decide +kernel
theorem dX12_burnOn_1 : decode cX12_burnOn 1 = .ok (.istore_n 1, 1) := by decide +kernel
theorem dX12_burnOn_2 : decode cX12_burnOn 2 = .ok (.iload_n 1, 1) := by decide +kernel
theorem dX12_burnOn_3 : decode cX12_burnOn 3 = .ok (.bipush 64, 2) := by decide +kernel
theorem dX12_burnOn_5 : decode cX12_burnOn 5 = .ok (.if_icmp .ge 21, 3) := by decide +kernel
theorem dX12_burnOn_8 : decode cX12_burnOn 8 = .ok (.aload_n 0, 1) := by decide +kernel
theorem dX12_burnOn_9 : decode cX12_burnOn 9 = .ok (.getfield 28, 3) := by decide +kernel
theorem dX12_burnOn_12 : decode cX12_burnOn 12 = .ok (.iload_n 1, 1) := by decide +kernel
theorem dX12_burnOn_13 : decode cX12_burnOn 13 = .ok (.aload_n 0, 1) := by decide +kernel
theorem dX12_burnOn_14 : decode cX12_burnOn 14 = .ok (.getfield 25, 3) := by decide +kernel
theorem dX12_burnOn_17 : decode cX12_burnOn 17 = .ok (.iload_n 1, 1) := by decide +kernel
theorem dX12_burnOn_18 : decode cX12_burnOn 18 = .ok (.iaload, 1) := by decide +kernel
theorem dX12_burnOn_19 : decode cX12_burnOn 19 = .ok (.iastore, 1) := by decide +kernel
theorem dX12_burnOn_20 : decode cX12_burnOn 20 = .ok (.iinc 1 1, 3) := by decide +kernel
theorem dX12_burnOn_23 : decode cX12_burnOn 23 = .ok (.goto (-21), 3) := by decide +kernel
theorem dX12_burnOn_26 : decode cX12_burnOn 26 = .ok (.iconst 0, 1) := by decide +kernel
theorem dX12_burnOn_27 : decode cX12_burnOn 27 = .ok (.istore_n 1, 1) := by decide +kernel
theorem dX12_burnOn_28 : decode cX12_burnOn 28 = .ok (.iload_n 1, 1) := by decide +kernel
theorem dX12_burnOn_29 : decode cX12_burnOn 29 = .ok (.aload_n 0, 1) := by decide +kernel
theorem dX12_burnOn_30 : decode cX12_burnOn 30 = .ok (.getfield 86, 3) := by decide +kernel
theorem dX12_burnOn_33 : decode cX12_burnOn 33 = .ok (.aload_n 0, 1) := by decide +kernel
theorem dX12_burnOn_34 : decode cX12_burnOn 34 = .ok (.getfield 89, 3) := by decide +kernel
theorem dX12_burnOn_37 : decode cX12_burnOn 37 = .ok (.imul, 1) := by decide +kernel
theorem dX12_burnOn_38 : decode cX12_burnOn 38 = .ok (.if_icmp .ge 217, 3) := by decide +kernel
theorem dX12_burnOn_41 : decode cX12_burnOn 41 = .ok (.aload_n 0, 1) := by decide +kernel
theorem dX12_burnOn_42 : decode cX12_burnOn 42 = .ok (.getfield 28, 3) := by decide +kernel
theorem dX12_burnOn_45 : decode cX12_burnOn 45 = .ok (.iload_n 1, 1) := by decide +kernel
theorem dX12_burnOn_46 : decode cX12_burnOn 46 = .ok (.iaload, 1) := by decide +kernel
theorem dX12_burnOn_47 : decode cX12_burnOn 47 = .ok (.iconst 1, 1) := by decide +kernel
theorem dX12_burnOn_48 : decode cX12_burnOn 48 = .ok (.if_icmp .ne 66, 3) := by decide +kernel
theorem dX12_burnOn_51 : decode cX12_burnOn 51 = .ok (.aload_n 0, 1) := by decide +kernel
theorem dX12_burnOn_52 : decode cX12_burnOn 52 = .ok (.getfield 31, 3) := by decide +kernel
theorem dX12_burnOn_55 : decode cX12_burnOn 55 = .ok (.iload_n 1, 1) := by decide +kernel
theorem dX12_burnOn_56 : decode cX12_burnOn 56 = .ok (.dup2, 1) := by decide +kernel
theorem dX12_burnOn_57 : decode cX12_burnOn 57 = .ok (.iaload, 1) := by decide +kernel
theorem dX12_burnOn_58 : decode cX12_burnOn 58 = .ok (.aload_n 0, 1) := by decide +kernel
theorem dX12_burnOn_59 : decode cX12_burnOn 59 = .ok (.getfield 43, 3) := by decide +kernel
theorem dX12_burnOn_62 : decode cX12_burnOn 62 = .ok (.iload_n 1, 1) := by decide +kernel
theorem dX12_burnOn_63 : decode cX12_burnOn 63 = .ok (.baload, 1) := by decide +kernel
theorem dX12_burnOn_64 : decode cX12_burnOn 64 = .ok (.ifCond .eq 13, 3) := by decide +kernel
theorem dX12_burnOn_67 : decode cX12_burnOn 67 = .ok (.aload_n 0, 1) := by decide +kernel
theorem dX12_burnOn_68 : decode cX12_burnOn 68 = .ok (.getfield 7, 3) := by decide +kernel
theorem dX12_burnOn_71 : decode cX12_burnOn 71 = .ok (.bipush 12, 2) := by decide +kernel
theorem dX12_burnOn_73 : decode cX12_burnOn 73 = .ok (.iaload, 1) := by decide +kernel
theorem dX12_burnOn_74 : decode cX12_burnOn 74 = .ok (.goto 12, 3) := by decide +kernel
theorem dX12_burnOn_77 : decode cX12_burnOn 77 = .ok (.aload_n 0, 1) := by decide +kernel
theorem dX12_burnOn_78 : decode cX12_burnOn 78 = .ok (.getfield 7, 3) := by decide +kernel
theorem dX12_burnOn_81 : decode cX12_burnOn 81 = .ok (.bipush 12, 2) := by decide +kernel
theorem dX12_burnOn_83 : decode cX12_burnOn 83 = .ok (.iaload, 1) := by decide +kernel
theorem dX12_burnOn_84 : decode cX12_burnOn 84 = .ok (.iconst 2, 1) := by decide +kernel
theorem dX12_burnOn_85 : decode cX12_burnOn 85 = .ok (.idiv, 1) := by decide +kernel
theorem dX12_burnOn_86 : decode cX12_burnOn 86 = .ok (.isub, 1) := by decide +kernel
theorem dX12_burnOn_87 : decode cX12_burnOn 87 = .ok (.iastore, 1) := by decide +kernel
theorem dX12_burnOn_88 : decode cX12_burnOn 88 = .ok (.aload_n 0, 1) := by decide +kernel
theorem dX12_burnOn_89 : decode cX12_burnOn 89 = .ok (.getfield 31, 3) := by decide +kernel
theorem dX12_burnOn_92 : decode cX12_burnOn 92 = .ok (.iload_n 1, 1) := by decide +kernel
theorem dX12_burnOn_93 : decode cX12_burnOn 93 = .ok (.iaload, 1) := by decide +kernel
theorem dX12_burnOn_94 : decode cX12_burnOn 94 = .ok (.ifCond .gt 155, 3) := by decide +kernel
theorem dX12_burnOn_97 : decode cX12_burnOn 97 = .ok (.aload_n 0, 1) := by decide +kernel
theorem dX12_burnOn_98 : decode cX12_burnOn 98 = .ok (.getfield 31, 3) := by decide +kernel
theorem dX12_burnOn_101 : decode cX12_burnOn 101 = .ok (.iload_n 1, 1) := by decide +kernel
theorem dX12_burnOn_102 : decode cX12_burnOn 102 = .ok (.iconst 0, 1) := by decide +kernel
theorem dX12_burnOn_103 : decode cX12_burnOn 103 = .ok (.iastore, 1) := by decide +kernel
theorem dX12_burnOn_104 : decode cX12_burnOn 104 = .ok (.aload_n 0, 1) := by decide +kernel
theorem dX12_burnOn_105 : decode cX12_burnOn 105 = .ok (.getfield 25, 3) := by decide +kernel
theorem dX12_burnOn_108 : decode cX12_burnOn 108 = .ok (.iload_n 1, 1) := by decide +kernel
theorem dX12_burnOn_109 : decode cX12_burnOn 109 = .ok (.iconst 2, 1) := by decide +kernel
theorem dX12_burnOn_110 : decode cX12_burnOn 110 = .ok (.iastore, 1) := by decide +kernel
theorem dX12_burnOn_111 : decode cX12_burnOn 111 = .ok (.goto 138, 3) := by decide +kernel
theorem dX12_burnOn_114 : decode cX12_burnOn 114 = .ok (.aload_n 0, 1) := by decide +kernel
theorem dX12_burnOn_115 : decode cX12_burnOn 115 = .ok (.getfield 31, 3) := by decide +kernel
theorem dX12_burnOn_118 : decode cX12_burnOn 118 = .ok (.iload_n 1, 1) := by decide +kernel
theorem dX12_burnOn_119 : decode cX12_burnOn 119 = .ok (.iaload, 1) := by decide +kernel
theorem dX12_burnOn_120 : decode cX12_burnOn 120 = .ok (.ifCond .le 129, 3) := by decide +kernel
theorem dX12_burnOn_123 : decode cX12_burnOn 123 = .ok (.iconst 0, 1) := by decide +kernel
theorem dX12_burnOn_124 : decode cX12_burnOn 124 = .ok (.istore_n 2, 1) := by decide +kernel
theorem dX12_burnOn_125 : decode cX12_burnOn 125 = .ok (.iconst 0, 1) := by decide +kernel
theorem dX12_burnOn_126 : decode cX12_burnOn 126 = .ok (.istore_n 3, 1) := by decide +kernel
theorem dX12_burnOn_127 : decode cX12_burnOn 127 = .ok (.iload_n 3, 1) := by decide +kernel
theorem dX12_burnOn_128 : decode cX12_burnOn 128 = .ok (.iconst 4, 1) := by decide +kernel
theorem dX12_burnOn_129 : decode cX12_burnOn 129 = .ok (.if_icmp .ge 41, 3) := by decide +kernel
theorem dX12_burnOn_132 : decode cX12_burnOn 132 = .ok (.iload_n 2, 1) := by decide +kernel
theorem dX12_burnOn_133 : decode cX12_burnOn 133 = .ok (.aload_n 0, 1) := by decide +kernel
theorem dX12_burnOn_134 : decode cX12_burnOn 134 = .ok (.iload_n 1, 1) := by decide +kernel
theorem dX12_burnOn_135 : decode cX12_burnOn 135 = .ok (.iload_n 3, 1) := by decide +kernel
theorem dX12_burnOn_136 : decode cX12_burnOn 136 = .ok (.invokevirtual 111, 3) := by decide +kernel
theorem dX12_burnOn_139 : decode cX12_burnOn 139 = .ok (.ifCond .lt 22, 3) := by decide +kernel
theorem dX12_burnOn_142 : decode cX12_burnOn 142 = .ok (.aload_n 0, 1) := by decide +kernel
theorem dX12_burnOn_143 : decode cX12_burnOn 143 = .ok (.getfield 28, 3) := by decide +kernel
theorem dX12_burnOn_146 : decode cX12_burnOn 146 = .ok (.aload_n 0, 1) := by decide +kernel
theorem dX12_burnOn_147 : decode cX12_burnOn 147 = .ok (.iload_n 1, 1) := by decide +kernel
theorem dX12_burnOn_148 : decode cX12_burnOn 148 = .ok (.iload_n 3, 1) := by decide +kernel
theorem dX12_burnOn_149 : decode cX12_burnOn 149 = .ok (.invokevirtual 111, 3) := by decide +kernel
theorem dX12_burnOn_152 : decode cX12_burnOn 152 = .ok (.iaload, 1) := by decide +kernel
theorem dX12_burnOn_153 : decode cX12_burnOn 153 = .ok (.iconst 1, 1) := by decide +kernel
theorem dX12_burnOn_154 : decode cX12_burnOn 154 = .ok (.if_icmp .ne 7, 3) := by decide +kernel
theorem dX12_burnOn_157 : decode cX12_burnOn 157 = .ok (.iconst 1, 1) := by decide +kernel
theorem dX12_burnOn_158 : decode cX12_burnOn 158 = .ok (.goto 4, 3) := by decide +kernel
theorem dX12_burnOn_161 : decode cX12_burnOn 161 = .ok (.iconst 0, 1) := by decide +kernel
theorem dX12_burnOn_162 : decode cX12_burnOn 162 = .ok (.iadd, 1) := by decide +kernel
theorem dX12_burnOn_163 : decode cX12_burnOn 163 = .ok (.istore_n 2, 1) := by decide +kernel
theorem dX12_burnOn_164 : decode cX12_burnOn 164 = .ok (.iinc 3 1, 3) := by decide +kernel
theorem dX12_burnOn_167 : decode cX12_burnOn 167 = .ok (.goto (-40), 3) := by decide +kernel
theorem dX12_burnOn_170 : decode cX12_burnOn 170 = .ok (.aload_n 0, 1) := by decide +kernel
theorem dX12_burnOn_171 : decode cX12_burnOn 171 = .ok (.getfield 34, 3) := by decide +kernel
theorem dX12_burnOn_174 : decode cX12_burnOn 174 = .ok (.iload_n 1, 1) := by decide +kernel
theorem dX12_burnOn_175 : decode cX12_burnOn 175 = .ok (.aload_n 0, 1) := by decide +kernel
theorem dX12_burnOn_176 : decode cX12_burnOn 176 = .ok (.getfield 43, 3) := by decide +kernel
theorem dX12_burnOn_179 : decode cX12_burnOn 179 = .ok (.iload_n 1, 1) := by decide +kernel
theorem dX12_burnOn_180 : decode cX12_burnOn 180 = .ok (.baload, 1) := by decide +kernel
theorem dX12_burnOn_181 : decode cX12_burnOn 181 = .ok (.ifCond .eq 14, 3) := by decide +kernel
theorem dX12_burnOn_184 : decode cX12_burnOn 184 = .ok (.aload_n 0, 1) := by decide +kernel
theorem dX12_burnOn_185 : decode cX12_burnOn 185 = .ok (.getfield 34, 3) := by decide +kernel
theorem dX12_burnOn_188 : decode cX12_burnOn 188 = .ok (.iload_n 1, 1) := by decide +kernel
theorem dX12_burnOn_189 : decode cX12_burnOn 189 = .ok (.iaload, 1) := by decide +kernel
theorem dX12_burnOn_190 : decode cX12_burnOn 190 = .ok (.iload_n 2, 1) := by decide +kernel
theorem dX12_burnOn_191 : decode cX12_burnOn 191 = .ok (.iadd, 1) := by decide +kernel
theorem dX12_burnOn_192 : decode cX12_burnOn 192 = .ok (.goto 24, 3) := by decide +kernel
theorem dX12_burnOn_195 : decode cX12_burnOn 195 = .ok (.aload_n 0, 1) := by decide +kernel
theorem dX12_burnOn_196 : decode cX12_burnOn 196 = .ok (.getfield 34, 3) := by decide +kernel
theorem dX12_burnOn_199 : decode cX12_burnOn 199 = .ok (.iload_n 1, 1) := by decide +kernel
theorem dX12_burnOn_200 : decode cX12_burnOn 200 = .ok (.iaload, 1) := by decide +kernel
theorem dX12_burnOn_201 : decode cX12_burnOn 201 = .ok (.ifCond .le 14, 3) := by decide +kernel
theorem dX12_burnOn_204 : decode cX12_burnOn 204 = .ok (.aload_n 0, 1) := by decide +kernel
theorem dX12_burnOn_205 : decode cX12_burnOn 205 = .ok (.getfield 34, 3) := by decide +kernel
theorem dX12_burnOn_208 : decode cX12_burnOn 208 = .ok (.iload_n 1, 1) := by decide +kernel
theorem dX12_burnOn_209 : decode cX12_burnOn 209 = .ok (.iaload, 1) := by decide +kernel
theorem dX12_burnOn_210 : decode cX12_burnOn 210 = .ok (.iconst 1, 1) := by decide +kernel
theorem dX12_burnOn_211 : decode cX12_burnOn 211 = .ok (.isub, 1) := by decide +kernel
theorem dX12_burnOn_212 : decode cX12_burnOn 212 = .ok (.goto 4, 3) := by decide +kernel
theorem dX12_burnOn_215 : decode cX12_burnOn 215 = .ok (.iconst 0, 1) := by decide +kernel
theorem dX12_burnOn_216 : decode cX12_burnOn 216 = .ok (.iastore, 1) := by decide +kernel
theorem dX12_burnOn_217 : decode cX12_burnOn 217 = .ok (.aload_n 0, 1) := by decide +kernel
theorem dX12_burnOn_218 : decode cX12_burnOn 218 = .ok (.getfield 43, 3) := by decide +kernel
theorem dX12_burnOn_221 : decode cX12_burnOn 221 = .ok (.iload_n 1, 1) := by decide +kernel
theorem dX12_burnOn_222 : decode cX12_burnOn 222 = .ok (.baload, 1) := by decide +kernel
theorem dX12_burnOn_223 : decode cX12_burnOn 223 = .ok (.ifCond .eq 26, 3) := by decide +kernel
theorem dX12_burnOn_226 : decode cX12_burnOn 226 = .ok (.aload_n 0, 1) := by decide +kernel
theorem dX12_burnOn_227 : decode cX12_burnOn 227 = .ok (.getfield 34, 3) := by decide +kernel
theorem dX12_burnOn_230 : decode cX12_burnOn 230 = .ok (.iload_n 1, 1) := by decide +kernel
theorem dX12_burnOn_231 : decode cX12_burnOn 231 = .ok (.iaload, 1) := by decide +kernel
theorem dX12_burnOn_232 : decode cX12_burnOn 232 = .ok (.aload_n 0, 1) := by decide +kernel
theorem dX12_burnOn_233 : decode cX12_burnOn 233 = .ok (.getfield 7, 3) := by decide +kernel
theorem dX12_burnOn_236 : decode cX12_burnOn 236 = .ok (.bipush 11, 2) := by decide +kernel
theorem dX12_burnOn_238 : decode cX12_burnOn 238 = .ok (.iaload, 1) := by decide +kernel
theorem dX12_burnOn_239 : decode cX12_burnOn 239 = .ok (.if_icmp .lt 10, 3) := by decide +kernel
theorem dX12_burnOn_242 : decode cX12_burnOn 242 = .ok (.aload_n 0, 1) := by decide +kernel
theorem dX12_burnOn_243 : decode cX12_burnOn 243 = .ok (.getfield 25, 3) := by decide +kernel
theorem dX12_burnOn_246 : decode cX12_burnOn 246 = .ok (.iload_n 1, 1) := by decide +kernel
theorem dX12_burnOn_247 : decode cX12_burnOn 247 = .ok (.iconst 1, 1) := by decide +kernel
theorem dX12_burnOn_248 : decode cX12_burnOn 248 = .ok (.iastore, 1) := by decide +kernel
theorem dX12_burnOn_249 : decode cX12_burnOn 249 = .ok (.iinc 1 1, 3) := by decide +kernel
theorem dX12_burnOn_252 : decode cX12_burnOn 252 = .ok (.goto (-224), 3) := by decide +kernel
theorem dX12_burnOn_255 : decode cX12_burnOn 255 = .ok (.return_, 1) := by decide +kernel
theorem dX12_run_0 : decode cX12_run 0 = .ok (.aload_n 0, 1) := by decide +kernel
theorem dX12_run_1 : decode cX12_run 1 = .ok (.invokevirtual 121, 3) := by decide +kernel
theorem dX12_run_4 : decode cX12_run 4 = .ok (.aload_n 0, 1) := by decide +kernel
theorem dX12_run_5 : decode cX12_run 5 = .ok (.getfield 51, 3) := by decide +kernel
theorem dX12_run_8 : decode cX12_run 8 = .ok (.iload_n 1, 1) := by decide +kernel
theorem dX12_run_9 : decode cX12_run 9 = .ok (.iconst 0, 1) := by decide +kernel
theorem dX12_run_10 : decode cX12_run 10 = .ok (.iastore, 1) := by decide +kernel
theorem dX12_run_11 : decode cX12_run 11 = .ok (.iconst 0, 1) := by decide +kernel
theorem dX12_run_12 : decode cX12_run 12 = .ok (.istore 5, 2) := by decide +kernel
theorem dX12_run_14 : decode cX12_run 14 = .ok (.iload 5, 2) := by decide +kernel
theorem dX12_run_16 : decode cX12_run 16 = .ok (.iload_n 2, 1) := by decide +kernel
theorem dX12_run_17 : decode cX12_run 17 = .ok (.if_icmp .gt 78, 3) := by decide +kernel
theorem dX12_run_20 : decode cX12_run 20 = .ok (.aload_n 0, 1) := by decide +kernel
theorem dX12_run_21 : decode cX12_run 21 = .ok (.iload_n 1, 1) := by decide +kernel
theorem dX12_run_22 : decode cX12_run 22 = .ok (.iload 5, 2) := by decide +kernel
theorem dX12_run_24 : decode cX12_run 24 = .ok (.iload 4, 2) := by decide +kernel
theorem dX12_run_26 : decode cX12_run 26 = .ok (.invokevirtual 124, 3) := by decide +kernel
theorem dX12_run_29 : decode cX12_run 29 = .ok (.iconst 0, 1) := by decide +kernel
theorem dX12_run_30 : decode cX12_run 30 = .ok (.istore 6, 2) := by decide +kernel
theorem dX12_run_32 : decode cX12_run 32 = .ok (.iload 6, 2) := by decide +kernel
theorem dX12_run_34 : decode cX12_run 34 = .ok (.bipush 64, 2) := by decide +kernel
theorem dX12_run_36 : decode cX12_run 36 = .ok (.if_icmp .ge 35, 3) := by decide +kernel
theorem dX12_run_39 : decode cX12_run 39 = .ok (.aload_n 0, 1) := by decide +kernel
theorem dX12_run_40 : decode cX12_run 40 = .ok (.getfield 48, 3) := by decide +kernel
theorem dX12_run_43 : decode cX12_run 43 = .ok (.sipush 6400, 3) := by decide +kernel
theorem dX12_run_46 : decode cX12_run 46 = .ok (.iload_n 1, 1) := by decide +kernel
theorem dX12_run_47 : decode cX12_run 47 = .ok (.imul, 1) := by decide +kernel
theorem dX12_run_48 : decode cX12_run 48 = .ok (.bipush 64, 2) := by decide +kernel
theorem dX12_run_50 : decode cX12_run 50 = .ok (.iload 5, 2) := by decide +kernel
theorem dX12_run_52 : decode cX12_run 52 = .ok (.imul, 1) := by decide +kernel
theorem dX12_run_53 : decode cX12_run 53 = .ok (.iadd, 1) := by decide +kernel
theorem dX12_run_54 : decode cX12_run 54 = .ok (.iload 6, 2) := by decide +kernel
theorem dX12_run_56 : decode cX12_run 56 = .ok (.iadd, 1) := by decide +kernel
theorem dX12_run_57 : decode cX12_run 57 = .ok (.aload_n 0, 1) := by decide +kernel
theorem dX12_run_58 : decode cX12_run 58 = .ok (.getfield 25, 3) := by decide +kernel
theorem dX12_run_61 : decode cX12_run 61 = .ok (.iload 6, 2) := by decide +kernel
theorem dX12_run_63 : decode cX12_run 63 = .ok (.iaload, 1) := by decide +kernel
theorem dX12_run_64 : decode cX12_run 64 = .ok (.iastore, 1) := by decide +kernel
theorem dX12_run_65 : decode cX12_run 65 = .ok (.iinc 6 1, 3) := by decide +kernel
theorem dX12_run_68 : decode cX12_run 68 = .ok (.goto (-36), 3) := by decide +kernel
theorem dX12_run_71 : decode cX12_run 71 = .ok (.iload 5, 2) := by decide +kernel
theorem dX12_run_73 : decode cX12_run 73 = .ok (.iload_n 2, 1) := by decide +kernel
theorem dX12_run_74 : decode cX12_run 74 = .ok (.if_icmp .ne 4, 3) := by decide +kernel
theorem dX12_run_77 : decode cX12_run 77 = .ok (.return_, 1) := by decide +kernel
theorem dX12_run_78 : decode cX12_run 78 = .ok (.aload_n 0, 1) := by decide +kernel
theorem dX12_run_79 : decode cX12_run 79 = .ok (.iload 5, 2) := by decide +kernel
theorem dX12_run_81 : decode cX12_run 81 = .ok (.iload_n 3, 1) := by decide +kernel
theorem dX12_run_82 : decode cX12_run 82 = .ok (.invokevirtual 128, 3) := by decide +kernel
theorem dX12_run_85 : decode cX12_run 85 = .ok (.aload_n 0, 1) := by decide +kernel
theorem dX12_run_86 : decode cX12_run 86 = .ok (.invokevirtual 132, 3) := by decide +kernel
theorem dX12_run_89 : decode cX12_run 89 = .ok (.iinc 5 1, 3) := by decide +kernel
theorem dX12_run_92 : decode cX12_run 92 = .ok (.goto (-78), 3) := by decide +kernel
theorem dX12_run_95 : decode cX12_run 95 = .ok (.return_, 1) := by decide +kernel
theorem dX12_runAll_0 : decode cX12_runAll 0 = .ok (.iconst 0, 1) := by decide +kernel
theorem dX12_runAll_1 : decode cX12_runAll 1 = .ok (.istore_n 1, 1) := by decide +kernel
theorem dX12_runAll_2 : decode cX12_runAll 2 = .ok (.iload_n 1, 1) := by decide +kernel
theorem dX12_runAll_3 : decode cX12_runAll 3 = .ok (.aload_n 0, 1) := by decide +kernel
theorem dX12_runAll_4 : decode cX12_runAll 4 = .ok (.getfield 7, 3) := by decide +kernel
theorem dX12_runAll_7 : decode cX12_runAll 7 = .ok (.iconst 3, 1) := by decide +kernel
theorem dX12_runAll_8 : decode cX12_runAll 8 = .ok (.iaload, 1) := by decide +kernel
theorem dX12_runAll_9 : decode cX12_runAll 9 = .ok (.if_icmp .ge 18, 3) := by decide +kernel
theorem dX12_runAll_12 : decode cX12_runAll 12 = .ok (.aload_n 0, 1) := by decide +kernel
theorem dX12_runAll_13 : decode cX12_runAll 13 = .ok (.iload_n 1, 1) := by decide +kernel
theorem dX12_runAll_14 : decode cX12_runAll 14 = .ok (.bipush 99, 2) := by decide +kernel
theorem dX12_runAll_16 : decode cX12_runAll 16 = .ok (.iconst (-1), 1) := by decide +kernel
theorem dX12_runAll_17 : decode cX12_runAll 17 = .ok (.iconst 0, 1) := by decide +kernel
theorem dX12_runAll_18 : decode cX12_runAll 18 = .ok (.invokevirtual 135, 3) := by decide +kernel
theorem dX12_runAll_21 : decode cX12_runAll 21 = .ok (.iinc 1 1, 3) := by decide +kernel
theorem dX12_runAll_24 : decode cX12_runAll 24 = .ok (.goto (-22), 3) := by decide +kernel
theorem dX12_runAll_27 : decode cX12_runAll 27 = .ok (.return_, 1) := by decide +kernel
theorem dX12_burns_0 : decode cX12_burns 0 = .ok (.aload_n 0, 1) := by decide +kernel
theorem dX12_burns_1 : decode cX12_burns 1 = .ok (.iload_n 1, 1) := by decide +kernel
theorem dX12_burns_2 : decode cX12_burns 2 = .ok (.invokevirtual 139, 3) := by decide +kernel
theorem dX12_burns_5 : decode cX12_burns 5 = .ok (.ifCond .eq 28, 3) := by decide +kernel
theorem dX12_burns_8 : decode cX12_burns 8 = .ok (.iload_n 2, 1) := by decide +kernel
theorem dX12_burns_9 : decode cX12_burns 9 = .ok (.invokestatic 115, 3) := by decide +kernel
theorem dX12_burns_12 : decode cX12_burns 12 = .ok (.ifCond .eq 21, 3) := by decide +kernel
theorem dX12_burns_15 : decode cX12_burns 15 = .ok (.aload_n 0, 1) := by decide +kernel
theorem dX12_burns_16 : decode cX12_burns 16 = .ok (.iload_n 3, 1) := by decide +kernel
theorem dX12_burns_17 : decode cX12_burns 17 = .ok (.invokevirtual 100, 3) := by decide +kernel
theorem dX12_burns_20 : decode cX12_burns 20 = .ok (.ifCond .eq 13, 3) := by decide +kernel
theorem dX12_burns_23 : decode cX12_burns 23 = .ok (.iload 4, 2) := by decide +kernel
theorem dX12_burns_25 : decode cX12_burns 25 = .ok (.iconst 0, 1) := by decide +kernel
theorem dX12_burns_26 : decode cX12_burns 26 = .ok (.iconst 3, 1) := by decide +kernel
theorem dX12_burns_27 : decode cX12_burns 27 = .ok (.invokestatic 96, 3) := by decide +kernel
theorem dX12_burns_30 : decode cX12_burns 30 = .ok (.ifCond .ne 5, 3) := by decide +kernel
theorem dX12_burns_33 : decode cX12_burns 33 = .ok (.iconst (-1), 1) := by decide +kernel
theorem dX12_burns_34 : decode cX12_burns 34 = .ok (.ireturn, 1) := by decide +kernel
theorem dX12_burns_35 : decode cX12_burns 35 = .ok (.aload_n 0, 1) := by decide +kernel
theorem dX12_burns_36 : decode cX12_burns 36 = .ok (.iload_n 1, 1) := by decide +kernel
theorem dX12_burns_37 : decode cX12_burns 37 = .ok (.iload_n 2, 1) := by decide +kernel
theorem dX12_burns_38 : decode cX12_burns 38 = .ok (.iconst (-1), 1) := by decide +kernel
theorem dX12_burns_39 : decode cX12_burns 39 = .ok (.iconst 0, 1) := by decide +kernel
theorem dX12_burns_40 : decode cX12_burns 40 = .ok (.invokevirtual 135, 3) := by decide +kernel
theorem dX12_burns_43 : decode cX12_burns 43 = .ok (.iload 4, 2) := by decide +kernel
theorem dX12_burns_45 : decode cX12_burns 45 = .ok (.iconst 3, 1) := by decide +kernel
theorem dX12_burns_46 : decode cX12_burns 46 = .ok (.if_icmp .ne 9, 3) := by decide +kernel
theorem dX12_burns_49 : decode cX12_burns 49 = .ok (.aload_n 0, 1) := by decide +kernel
theorem dX12_burns_50 : decode cX12_burns 50 = .ok (.iload_n 2, 1) := by decide +kernel
theorem dX12_burns_51 : decode cX12_burns 51 = .ok (.iconst (-1), 1) := by decide +kernel
theorem dX12_burns_52 : decode cX12_burns 52 = .ok (.invokevirtual 128, 3) := by decide +kernel
theorem dX12_burns_55 : decode cX12_burns 55 = .ok (.iload 4, 2) := by decide +kernel
theorem dX12_burns_57 : decode cX12_burns 57 = .ok (.ifCond .ne 12, 3) := by decide +kernel
theorem dX12_burns_60 : decode cX12_burns 60 = .ok (.aload_n 0, 1) := by decide +kernel
theorem dX12_burns_61 : decode cX12_burns 61 = .ok (.getfield 25, 3) := by decide +kernel
theorem dX12_burns_64 : decode cX12_burns 64 = .ok (.iload_n 3, 1) := by decide +kernel
theorem dX12_burns_65 : decode cX12_burns 65 = .ok (.iaload, 1) := by decide +kernel
theorem dX12_burns_66 : decode cX12_burns 66 = .ok (.goto 47, 3) := by decide +kernel
theorem dX12_burns_69 : decode cX12_burns 69 = .ok (.iload 4, 2) := by decide +kernel
theorem dX12_burns_71 : decode cX12_burns 71 = .ok (.iconst 1, 1) := by decide +kernel
theorem dX12_burns_72 : decode cX12_burns 72 = .ok (.if_icmp .ne 12, 3) := by decide +kernel
theorem dX12_burns_75 : decode cX12_burns 75 = .ok (.aload_n 0, 1) := by decide +kernel
theorem dX12_burns_76 : decode cX12_burns 76 = .ok (.getfield 31, 3) := by decide +kernel
theorem dX12_burns_79 : decode cX12_burns 79 = .ok (.iload_n 3, 1) := by decide +kernel
theorem dX12_burns_80 : decode cX12_burns 80 = .ok (.iaload, 1) := by decide +kernel
theorem dX12_burns_81 : decode cX12_burns 81 = .ok (.goto 32, 3) := by decide +kernel
theorem dX12_burns_84 : decode cX12_burns 84 = .ok (.iload 4, 2) := by decide +kernel
theorem dX12_burns_86 : decode cX12_burns 86 = .ok (.iconst 2, 1) := by decide +kernel
theorem dX12_burns_87 : decode cX12_burns 87 = .ok (.if_icmp .ne 12, 3) := by decide +kernel
theorem dX12_burns_90 : decode cX12_burns 90 = .ok (.aload_n 0, 1) := by decide +kernel
theorem dX12_burns_91 : decode cX12_burns 91 = .ok (.getfield 34, 3) := by decide +kernel
theorem dX12_burns_94 : decode cX12_burns 94 = .ok (.iload_n 3, 1) := by decide +kernel
theorem dX12_burns_95 : decode cX12_burns 95 = .ok (.iaload, 1) := by decide +kernel
theorem dX12_burns_96 : decode cX12_burns 96 = .ok (.goto 17, 3) := by decide +kernel
theorem dX12_burns_99 : decode cX12_burns 99 = .ok (.aload_n 0, 1) := by decide +kernel
theorem dX12_burns_100 : decode cX12_burns 100 = .ok (.getfield 43, 3) := by decide +kernel
theorem dX12_burns_103 : decode cX12_burns 103 = .ok (.iload_n 3, 1) := by decide +kernel
theorem dX12_burns_104 : decode cX12_burns 104 = .ok (.baload, 1) := by decide +kernel
theorem dX12_burns_105 : decode cX12_burns 105 = .ok (.ifCond .eq 7, 3) := by decide +kernel
theorem dX12_burns_108 : decode cX12_burns 108 = .ok (.iconst 1, 1) := by decide +kernel
theorem dX12_burns_109 : decode cX12_burns 109 = .ok (.goto 4, 3) := by decide +kernel
theorem dX12_burns_112 : decode cX12_burns 112 = .ok (.iconst 0, 1) := by decide +kernel
theorem dX12_burns_113 : decode cX12_burns 113 = .ok (.ireturn, 1) := by decide +kernel
theorem dX12_lostAt_0 : decode cX12_lostAt 0 = .ok (.iconst 0, 1) := by decide +kernel
theorem dX12_lostAt_1 : decode cX12_lostAt 1 = .ok (.istore_n 3, 1) := by decide +kernel
theorem dX12_lostAt_2 : decode cX12_lostAt 2 = .ok (.iconst 0, 1) := by decide +kernel
theorem dX12_lostAt_3 : decode cX12_lostAt 3 = .ok (.istore 4, 2) := by decide +kernel
theorem dX12_lostAt_5 : decode cX12_lostAt 5 = .ok (.iload 4, 2) := by decide +kernel
theorem dX12_lostAt_7 : decode cX12_lostAt 7 = .ok (.bipush 64, 2) := by decide +kernel
theorem dX12_lostAt_9 : decode cX12_lostAt 9 = .ok (.if_icmp .ge 38, 3) := by decide +kernel
theorem dX12_lostAt_12 : decode cX12_lostAt 12 = .ok (.iload_n 3, 1) := by decide +kernel
theorem dX12_lostAt_13 : decode cX12_lostAt 13 = .ok (.aload_n 0, 1) := by decide +kernel
theorem dX12_lostAt_14 : decode cX12_lostAt 14 = .ok (.getfield 48, 3) := by decide +kernel
theorem dX12_lostAt_17 : decode cX12_lostAt 17 = .ok (.sipush 6400, 3) := by decide +kernel
theorem dX12_lostAt_20 : decode cX12_lostAt 20 = .ok (.iload_n 1, 1) := by decide +kernel
theorem dX12_lostAt_21 : decode cX12_lostAt 21 = .ok (.imul, 1) := by decide +kernel
theorem dX12_lostAt_22 : decode cX12_lostAt 22 = .ok (.bipush 64, 2) := by decide +kernel
theorem dX12_lostAt_24 : decode cX12_lostAt 24 = .ok (.iload_n 2, 1) := by decide +kernel
theorem dX12_lostAt_25 : decode cX12_lostAt 25 = .ok (.imul, 1) := by decide +kernel
theorem dX12_lostAt_26 : decode cX12_lostAt 26 = .ok (.iadd, 1) := by decide +kernel
theorem dX12_lostAt_27 : decode cX12_lostAt 27 = .ok (.iload 4, 2) := by decide +kernel
theorem dX12_lostAt_29 : decode cX12_lostAt 29 = .ok (.iadd, 1) := by decide +kernel
theorem dX12_lostAt_30 : decode cX12_lostAt 30 = .ok (.iaload, 1) := by decide +kernel
theorem dX12_lostAt_31 : decode cX12_lostAt 31 = .ok (.ifCond .le 7, 3) := by decide +kernel
theorem dX12_lostAt_34 : decode cX12_lostAt 34 = .ok (.iconst 1, 1) := by decide +kernel
theorem dX12_lostAt_35 : decode cX12_lostAt 35 = .ok (.goto 4, 3) := by decide +kernel
theorem dX12_lostAt_38 : decode cX12_lostAt 38 = .ok (.iconst 0, 1) := by decide +kernel
theorem dX12_lostAt_39 : decode cX12_lostAt 39 = .ok (.iadd, 1) := by decide +kernel
theorem dX12_lostAt_40 : decode cX12_lostAt 40 = .ok (.istore_n 3, 1) := by decide +kernel
theorem dX12_lostAt_41 : decode cX12_lostAt 41 = .ok (.iinc 4 1, 3) := by decide +kernel
theorem dX12_lostAt_44 : decode cX12_lostAt 44 = .ok (.goto (-39), 3) := by decide +kernel
theorem dX12_lostAt_47 : decode cX12_lostAt 47 = .ok (.iload_n 3, 1) := by decide +kernel
theorem dX12_lostAt_48 : decode cX12_lostAt 48 = .ok (.ireturn, 1) := by decide +kernel
theorem dX12_lost_0 : decode cX12_lost 0 = .ok (.aload_n 0, 1) := by decide +kernel
theorem dX12_lost_1 : decode cX12_lost 1 = .ok (.iload_n 1, 1) := by decide +kernel
theorem dX12_lost_2 : decode cX12_lost 2 = .ok (.invokevirtual 139, 3) := by decide +kernel
theorem dX12_lost_5 : decode cX12_lost 5 = .ok (.ifCond .eq 10, 3) := by decide +kernel
theorem dX12_lost_8 : decode cX12_lost 8 = .ok (.iload_n 2, 1) := by decide +kernel
theorem dX12_lost_9 : decode cX12_lost 9 = .ok (.invokestatic 115, 3) := by decide +kernel
theorem dX12_lost_12 : decode cX12_lost 12 = .ok (.ifCond .ne 5, 3) := by decide +kernel
theorem dX12_lost_15 : decode cX12_lost 15 = .ok (.iconst (-1), 1) := by decide +kernel
theorem dX12_lost_16 : decode cX12_lost 16 = .ok (.ireturn, 1) := by decide +kernel
theorem dX12_lost_17 : decode cX12_lost 17 = .ok (.aload_n 0, 1) := by decide +kernel
theorem dX12_lost_18 : decode cX12_lost 18 = .ok (.iload_n 1, 1) := by decide +kernel
theorem dX12_lost_19 : decode cX12_lost 19 = .ok (.iload_n 2, 1) := by decide +kernel
theorem dX12_lost_20 : decode cX12_lost 20 = .ok (.iconst (-1), 1) := by decide +kernel
theorem dX12_lost_21 : decode cX12_lost 21 = .ok (.iconst 0, 1) := by decide +kernel
theorem dX12_lost_22 : decode cX12_lost 22 = .ok (.invokevirtual 135, 3) := by decide +kernel
theorem dX12_lost_25 : decode cX12_lost 25 = .ok (.aload_n 0, 1) := by decide +kernel
theorem dX12_lost_26 : decode cX12_lost 26 = .ok (.iload_n 1, 1) := by decide +kernel
theorem dX12_lost_27 : decode cX12_lost 27 = .ok (.iload_n 2, 1) := by decide +kernel
theorem dX12_lost_28 : decode cX12_lost 28 = .ok (.invokevirtual 142, 3) := by decide +kernel
theorem dX12_lost_31 : decode cX12_lost 31 = .ok (.ireturn, 1) := by decide +kernel
theorem dX12_fed_0 : decode cX12_fed 0 = .ok (.aload_n 0, 1) := by decide +kernel
theorem dX12_fed_1 : decode cX12_fed 1 = .ok (.iload_n 1, 1) := by decide +kernel
theorem dX12_fed_2 : decode cX12_fed 2 = .ok (.invokevirtual 139, 3) := by decide +kernel
theorem dX12_fed_5 : decode cX12_fed 5 = .ok (.ifCond .eq 18, 3) := by decide +kernel
theorem dX12_fed_8 : decode cX12_fed 8 = .ok (.iload_n 2, 1) := by decide +kernel
theorem dX12_fed_9 : decode cX12_fed 9 = .ok (.invokestatic 115, 3) := by decide +kernel
theorem dX12_fed_12 : decode cX12_fed 12 = .ok (.ifCond .eq 11, 3) := by decide +kernel
theorem dX12_fed_15 : decode cX12_fed 15 = .ok (.aload_n 0, 1) := by decide +kernel
theorem dX12_fed_16 : decode cX12_fed 16 = .ok (.iload_n 3, 1) := by decide +kernel
theorem dX12_fed_17 : decode cX12_fed 17 = .ok (.invokevirtual 104, 3) := by decide +kernel
theorem dX12_fed_20 : decode cX12_fed 20 = .ok (.ifCond .ne 7, 3) := by decide +kernel
theorem dX12_fed_23 : decode cX12_fed 23 = .ok (.sipush (-1000), 3) := by decide +kernel
theorem dX12_fed_26 : decode cX12_fed 26 = .ok (.ireturn, 1) := by decide +kernel
theorem dX12_fed_27 : decode cX12_fed 27 = .ok (.aload_n 0, 1) := by decide +kernel
theorem dX12_fed_28 : decode cX12_fed 28 = .ok (.iload_n 1, 1) := by decide +kernel
theorem dX12_fed_29 : decode cX12_fed 29 = .ok (.iload_n 2, 1) := by decide +kernel
theorem dX12_fed_30 : decode cX12_fed 30 = .ok (.iconst (-1), 1) := by decide +kernel
theorem dX12_fed_31 : decode cX12_fed 31 = .ok (.iconst 0, 1) := by decide +kernel
theorem dX12_fed_32 : decode cX12_fed 32 = .ok (.invokevirtual 135, 3) := by decide +kernel
theorem dX12_fed_35 : decode cX12_fed 35 = .ok (.aload_n 0, 1) := by decide +kernel
theorem dX12_fed_36 : decode cX12_fed 36 = .ok (.iload_n 1, 1) := by decide +kernel
theorem dX12_fed_37 : decode cX12_fed 37 = .ok (.iload_n 2, 1) := by decide +kernel
theorem dX12_fed_38 : decode cX12_fed 38 = .ok (.invokevirtual 142, 3) := by decide +kernel
theorem dX12_fed_41 : decode cX12_fed 41 = .ok (.istore 4, 2) := by decide +kernel
theorem dX12_fed_43 : decode cX12_fed 43 = .ok (.aload_n 0, 1) := by decide +kernel
theorem dX12_fed_44 : decode cX12_fed 44 = .ok (.iload_n 1, 1) := by decide +kernel
theorem dX12_fed_45 : decode cX12_fed 45 = .ok (.iload_n 2, 1) := by decide +kernel
theorem dX12_fed_46 : decode cX12_fed 46 = .ok (.iload_n 3, 1) := by decide +kernel
theorem dX12_fed_47 : decode cX12_fed 47 = .ok (.iconst 0, 1) := by decide +kernel
theorem dX12_fed_48 : decode cX12_fed 48 = .ok (.invokevirtual 135, 3) := by decide +kernel
theorem dX12_fed_51 : decode cX12_fed 51 = .ok (.iload 4, 2) := by decide +kernel
theorem dX12_fed_53 : decode cX12_fed 53 = .ok (.aload_n 0, 1) := by decide +kernel
theorem dX12_fed_54 : decode cX12_fed 54 = .ok (.iload_n 1, 1) := by decide +kernel
theorem dX12_fed_55 : decode cX12_fed 55 = .ok (.iload_n 2, 1) := by decide +kernel
theorem dX12_fed_56 : decode cX12_fed 56 = .ok (.invokevirtual 142, 3) := by decide +kernel
theorem dX12_fed_59 : decode cX12_fed 59 = .ok (.isub, 1) := by decide +kernel
theorem dX12_fed_60 : decode cX12_fed 60 = .ok (.ireturn, 1) := by decide +kernel
theorem dX12_read_0 : decode cX12_read 0 = .ok (.aload_n 0, 1) := by decide +kernel
theorem dX12_read_1 : decode cX12_read 1 = .ok (.iload_n 1, 1) := by decide +kernel
theorem dX12_read_2 : decode cX12_read 2 = .ok (.invokevirtual 100, 3) := by decide +kernel
theorem dX12_read_5 : decode cX12_read 5 = .ok (.ifCond .eq 32, 3) := by decide +kernel
theorem dX12_read_8 : decode cX12_read 8 = .ok (.iload_n 2, 1) := by decide +kernel
theorem dX12_read_9 : decode cX12_read 9 = .ok (.invokestatic 115, 3) := by decide +kernel
theorem dX12_read_12 : decode cX12_read 12 = .ok (.ifCond .eq 25, 3) := by decide +kernel
theorem dX12_read_15 : decode cX12_read 15 = .ok (.iload_n 2, 1) := by decide +kernel
theorem dX12_read_16 : decode cX12_read 16 = .ok (.aload_n 0, 1) := by decide +kernel
theorem dX12_read_17 : decode cX12_read 17 = .ok (.getfield 7, 3) := by decide +kernel
theorem dX12_read_20 : decode cX12_read 20 = .ok (.iconst 0, 1) := by decide +kernel
theorem dX12_read_21 : decode cX12_read 21 = .ok (.iaload, 1) := by decide +kernel
theorem dX12_read_22 : decode cX12_read 22 = .ok (.if_icmp .gt 15, 3) := by decide +kernel
theorem dX12_read_25 : decode cX12_read 25 = .ok (.aload_n 0, 1) := by decide +kernel
theorem dX12_read_26 : decode cX12_read 26 = .ok (.getfield 7, 3) := by decide +kernel
theorem dX12_read_29 : decode cX12_read 29 = .ok (.iconst 4, 1) := by decide +kernel
theorem dX12_read_30 : decode cX12_read 30 = .ok (.iaload, 1) := by decide +kernel
theorem dX12_read_31 : decode cX12_read 31 = .ok (.sipush 200, 3) := by decide +kernel
theorem dX12_read_34 : decode cX12_read 34 = .ok (.if_icmp .ne 5, 3) := by decide +kernel
theorem dX12_read_37 : decode cX12_read 37 = .ok (.iconst (-1), 1) := by decide +kernel
theorem dX12_read_38 : decode cX12_read 38 = .ok (.ireturn, 1) := by decide +kernel
theorem dX12_read_39 : decode cX12_read 39 = .ok (.sipush 280, 3) := by decide +kernel
theorem dX12_read_42 : decode cX12_read 42 = .ok (.iconst 4, 1) := by decide +kernel
theorem dX12_read_43 : decode cX12_read 43 = .ok (.aload_n 0, 1) := by decide +kernel
theorem dX12_read_44 : decode cX12_read 44 = .ok (.getfield 7, 3) := by decide +kernel
theorem dX12_read_47 : decode cX12_read 47 = .ok (.iconst 4, 1) := by decide +kernel
theorem dX12_read_48 : decode cX12_read 48 = .ok (.iaload, 1) := by decide +kernel
theorem dX12_read_49 : decode cX12_read 49 = .ok (.imul, 1) := by decide +kernel
theorem dX12_read_50 : decode cX12_read 50 = .ok (.iadd, 1) := by decide +kernel
theorem dX12_read_51 : decode cX12_read 51 = .ok (.istore 4, 2) := by decide +kernel
theorem dX12_read_53 : decode cX12_read 53 = .ok (.aload_n 0, 1) := by decide +kernel
theorem dX12_read_54 : decode cX12_read 54 = .ok (.getfield 7, 3) := by decide +kernel
theorem dX12_read_57 : decode cX12_read 57 = .ok (.iload 4, 2) := by decide +kernel
theorem dX12_read_59 : decode cX12_read 59 = .ok (.iload_n 1, 1) := by decide +kernel
theorem dX12_read_60 : decode cX12_read 60 = .ok (.iastore, 1) := by decide +kernel
theorem dX12_read_61 : decode cX12_read 61 = .ok (.aload_n 0, 1) := by decide +kernel
theorem dX12_read_62 : decode cX12_read 62 = .ok (.getfield 7, 3) := by decide +kernel
theorem dX12_read_65 : decode cX12_read 65 = .ok (.iload 4, 2) := by decide +kernel
theorem dX12_read_67 : decode cX12_read 67 = .ok (.iconst 1, 1) := by decide +kernel
theorem dX12_read_68 : decode cX12_read 68 = .ok (.iadd, 1) := by decide +kernel
theorem dX12_read_69 : decode cX12_read 69 = .ok (.iload_n 2, 1) := by decide +kernel
theorem dX12_read_70 : decode cX12_read 70 = .ok (.iastore, 1) := by decide +kernel
theorem dX12_read_71 : decode cX12_read 71 = .ok (.aload_n 0, 1) := by decide +kernel
theorem dX12_read_72 : decode cX12_read 72 = .ok (.getfield 7, 3) := by decide +kernel
theorem dX12_read_75 : decode cX12_read 75 = .ok (.iload 4, 2) := by decide +kernel
theorem dX12_read_77 : decode cX12_read 77 = .ok (.iconst 2, 1) := by decide +kernel
theorem dX12_read_78 : decode cX12_read 78 = .ok (.iadd, 1) := by decide +kernel
theorem dX12_read_79 : decode cX12_read 79 = .ok (.iload_n 3, 1) := by decide +kernel
theorem dX12_read_80 : decode cX12_read 80 = .ok (.ifCond .eq 7, 3) := by decide +kernel
theorem dX12_read_83 : decode cX12_read 83 = .ok (.iconst 1, 1) := by decide +kernel
theorem dX12_read_84 : decode cX12_read 84 = .ok (.goto 4, 3) := by decide +kernel
theorem dX12_read_87 : decode cX12_read 87 = .ok (.iconst 0, 1) := by decide +kernel
theorem dX12_read_88 : decode cX12_read 88 = .ok (.iastore, 1) := by decide +kernel
theorem dX12_read_89 : decode cX12_read 89 = .ok (.aload_n 0, 1) := by decide +kernel
theorem dX12_read_90 : decode cX12_read 90 = .ok (.getfield 7, 3) := by decide +kernel
theorem dX12_read_93 : decode cX12_read 93 = .ok (.iload 4, 2) := by decide +kernel
theorem dX12_read_95 : decode cX12_read 95 = .ok (.iconst 3, 1) := by decide +kernel
theorem dX12_read_96 : decode cX12_read 96 = .ok (.iadd, 1) := by decide +kernel
theorem dX12_read_97 : decode cX12_read 97 = .ok (.aload_n 0, 1) := by decide +kernel
theorem dX12_read_98 : decode cX12_read 98 = .ok (.getfield 7, 3) := by decide +kernel
theorem dX12_read_101 : decode cX12_read 101 = .ok (.iconst 0, 1) := by decide +kernel
theorem dX12_read_102 : decode cX12_read 102 = .ok (.iaload, 1) := by decide +kernel
theorem dX12_read_103 : decode cX12_read 103 = .ok (.iastore, 1) := by decide +kernel
theorem dX12_read_104 : decode cX12_read 104 = .ok (.aload_n 0, 1) := by decide +kernel
theorem dX12_read_105 : decode cX12_read 105 = .ok (.getfield 7, 3) := by decide +kernel
theorem dX12_read_108 : decode cX12_read 108 = .ok (.iconst 4, 1) := by decide +kernel
theorem dX12_read_109 : decode cX12_read 109 = .ok (.dup2, 1) := by decide +kernel
theorem dX12_read_110 : decode cX12_read 110 = .ok (.iaload, 1) := by decide +kernel
theorem dX12_read_111 : decode cX12_read 111 = .ok (.iconst 1, 1) := by decide +kernel
theorem dX12_read_112 : decode cX12_read 112 = .ok (.iadd, 1) := by decide +kernel
theorem dX12_read_113 : decode cX12_read 113 = .ok (.iastore, 1) := by decide +kernel
theorem dX12_read_114 : decode cX12_read 114 = .ok (.aload_n 0, 1) := by decide +kernel
theorem dX12_read_115 : decode cX12_read 115 = .ok (.getfield 7, 3) := by decide +kernel
theorem dX12_read_118 : decode cX12_read 118 = .ok (.iconst 4, 1) := by decide +kernel
theorem dX12_read_119 : decode cX12_read 119 = .ok (.iaload, 1) := by decide +kernel
theorem dX12_read_120 : decode cX12_read 120 = .ok (.ireturn, 1) := by decide +kernel
theorem dX12_isLet_0 : decode cX12_isLet 0 = .ok (.iconst 0, 1) := by decide +kernel
theorem dX12_isLet_1 : decode cX12_isLet 1 = .ok (.istore_n 3, 1) := by decide +kernel
theorem dX12_isLet_2 : decode cX12_isLet 2 = .ok (.iload_n 3, 1) := by decide +kernel
theorem dX12_isLet_3 : decode cX12_isLet 3 = .ok (.aload_n 0, 1) := by decide +kernel
theorem dX12_isLet_4 : decode cX12_isLet 4 = .ok (.getfield 7, 3) := by decide +kernel
theorem dX12_isLet_7 : decode cX12_isLet 7 = .ok (.iconst 4, 1) := by decide +kernel
theorem dX12_isLet_8 : decode cX12_isLet 8 = .ok (.iaload, 1) := by decide +kernel
theorem dX12_isLet_9 : decode cX12_isLet 9 = .ok (.if_icmp .ge 89, 3) := by decide +kernel
theorem dX12_isLet_12 : decode cX12_isLet 12 = .ok (.sipush 280, 3) := by decide +kernel
theorem dX12_isLet_15 : decode cX12_isLet 15 = .ok (.iconst 4, 1) := by decide +kernel
theorem dX12_isLet_16 : decode cX12_isLet 16 = .ok (.iload_n 3, 1) := by decide +kernel
theorem dX12_isLet_17 : decode cX12_isLet 17 = .ok (.imul, 1) := by decide +kernel
theorem dX12_isLet_18 : decode cX12_isLet 18 = .ok (.iadd, 1) := by decide +kernel
theorem dX12_isLet_19 : decode cX12_isLet 19 = .ok (.istore 4, 2) := by decide +kernel
theorem dX12_isLet_21 : decode cX12_isLet 21 = .ok (.aload_n 0, 1) := by decide +kernel
theorem dX12_isLet_22 : decode cX12_isLet 22 = .ok (.getfield 48, 3) := by decide +kernel
theorem dX12_isLet_25 : decode cX12_isLet 25 = .ok (.sipush 6400, 3) := by decide +kernel
theorem dX12_isLet_28 : decode cX12_isLet 28 = .ok (.iload_n 1, 1) := by decide +kernel
theorem dX12_isLet_29 : decode cX12_isLet 29 = .ok (.imul, 1) := by decide +kernel
theorem dX12_isLet_30 : decode cX12_isLet 30 = .ok (.bipush 64, 2) := by decide +kernel
theorem dX12_isLet_32 : decode cX12_isLet 32 = .ok (.aload_n 0, 1) := by decide +kernel
theorem dX12_isLet_33 : decode cX12_isLet 33 = .ok (.getfield 7, 3) := by decide +kernel
theorem dX12_isLet_36 : decode cX12_isLet 36 = .ok (.iload 4, 2) := by decide +kernel
theorem dX12_isLet_38 : decode cX12_isLet 38 = .ok (.iconst 1, 1) := by decide +kernel
theorem dX12_isLet_39 : decode cX12_isLet 39 = .ok (.iadd, 1) := by decide +kernel
theorem dX12_isLet_40 : decode cX12_isLet 40 = .ok (.iaload, 1) := by decide +kernel
theorem dX12_isLet_41 : decode cX12_isLet 41 = .ok (.imul, 1) := by decide +kernel
theorem dX12_isLet_42 : decode cX12_isLet 42 = .ok (.iadd, 1) := by decide +kernel
theorem dX12_isLet_43 : decode cX12_isLet 43 = .ok (.aload_n 0, 1) := by decide +kernel
theorem dX12_isLet_44 : decode cX12_isLet 44 = .ok (.getfield 7, 3) := by decide +kernel
theorem dX12_isLet_47 : decode cX12_isLet 47 = .ok (.iload 4, 2) := by decide +kernel
theorem dX12_isLet_49 : decode cX12_isLet 49 = .ok (.iaload, 1) := by decide +kernel
theorem dX12_isLet_50 : decode cX12_isLet 50 = .ok (.iadd, 1) := by decide +kernel
theorem dX12_isLet_51 : decode cX12_isLet 51 = .ok (.iaload, 1) := by decide +kernel
theorem dX12_isLet_52 : decode cX12_isLet 52 = .ok (.iconst 1, 1) := by decide +kernel
theorem dX12_isLet_53 : decode cX12_isLet 53 = .ok (.if_icmp .ne 7, 3) := by decide +kernel
theorem dX12_isLet_56 : decode cX12_isLet 56 = .ok (.iconst 1, 1) := by decide +kernel
theorem dX12_isLet_57 : decode cX12_isLet 57 = .ok (.goto 4, 3) := by decide +kernel
theorem dX12_isLet_60 : decode cX12_isLet 60 = .ok (.iconst 0, 1) := by decide +kernel
theorem dX12_isLet_61 : decode cX12_isLet 61 = .ok (.istore 5, 2) := by decide +kernel
theorem dX12_isLet_63 : decode cX12_isLet 63 = .ok (.aload_n 0, 1) := by decide +kernel
theorem dX12_isLet_64 : decode cX12_isLet 64 = .ok (.getfield 7, 3) := by decide +kernel
theorem dX12_isLet_67 : decode cX12_isLet 67 = .ok (.iload 4, 2) := by decide +kernel
theorem dX12_isLet_69 : decode cX12_isLet 69 = .ok (.iconst 3, 1) := by decide +kernel
theorem dX12_isLet_70 : decode cX12_isLet 70 = .ok (.iadd, 1) := by decide +kernel
theorem dX12_isLet_71 : decode cX12_isLet 71 = .ok (.iaload, 1) := by decide +kernel
theorem dX12_isLet_72 : decode cX12_isLet 72 = .ok (.iload_n 2, 1) := by decide +kernel
theorem dX12_isLet_73 : decode cX12_isLet 73 = .ok (.if_icmp .gt 19, 3) := by decide +kernel
theorem dX12_isLet_76 : decode cX12_isLet 76 = .ok (.iload 5, 2) := by decide +kernel
theorem dX12_isLet_78 : decode cX12_isLet 78 = .ok (.aload_n 0, 1) := by decide +kernel
theorem dX12_isLet_79 : decode cX12_isLet 79 = .ok (.getfield 7, 3) := by decide +kernel
theorem dX12_isLet_82 : decode cX12_isLet 82 = .ok (.iload 4, 2) := by decide +kernel
theorem dX12_isLet_84 : decode cX12_isLet 84 = .ok (.iconst 2, 1) := by decide +kernel
theorem dX12_isLet_85 : decode cX12_isLet 85 = .ok (.iadd, 1) := by decide +kernel
theorem dX12_isLet_86 : decode cX12_isLet 86 = .ok (.iaload, 1) := by decide +kernel
theorem dX12_isLet_87 : decode cX12_isLet 87 = .ok (.if_icmp .eq 5, 3) := by decide +kernel
theorem dX12_isLet_90 : decode cX12_isLet 90 = .ok (.iconst 0, 1) := by decide +kernel
theorem dX12_isLet_91 : decode cX12_isLet 91 = .ok (.ireturn, 1) := by decide +kernel
theorem dX12_isLet_92 : decode cX12_isLet 92 = .ok (.iinc 3 1, 3) := by decide +kernel
theorem dX12_isLet_95 : decode cX12_isLet 95 = .ok (.goto (-93), 3) := by decide +kernel
theorem dX12_isLet_98 : decode cX12_isLet 98 = .ok (.iconst 1, 1) := by decide +kernel
theorem dX12_isLet_99 : decode cX12_isLet 99 = .ok (.ireturn, 1) := by decide +kernel
theorem dX12_manyLet_0 : decode cX12_manyLet 0 = .ok (.iconst 0, 1) := by decide +kernel
theorem dX12_manyLet_1 : decode cX12_manyLet 1 = .ok (.istore_n 2, 1) := by decide +kernel
theorem dX12_manyLet_2 : decode cX12_manyLet 2 = .ok (.iconst 0, 1) := by decide +kernel
theorem dX12_manyLet_3 : decode cX12_manyLet 3 = .ok (.istore_n 3, 1) := by decide +kernel
theorem dX12_manyLet_4 : decode cX12_manyLet 4 = .ok (.iload_n 3, 1) := by decide +kernel
theorem dX12_manyLet_5 : decode cX12_manyLet 5 = .ok (.aload_n 0, 1) := by decide +kernel
theorem dX12_manyLet_6 : decode cX12_manyLet 6 = .ok (.getfield 7, 3) := by decide +kernel
theorem dX12_manyLet_9 : decode cX12_manyLet 9 = .ok (.iconst 3, 1) := by decide +kernel
theorem dX12_manyLet_10 : decode cX12_manyLet 10 = .ok (.iaload, 1) := by decide +kernel
theorem dX12_manyLet_11 : decode cX12_manyLet 11 = .ok (.if_icmp .ge 26, 3) := by decide +kernel
theorem dX12_manyLet_14 : decode cX12_manyLet 14 = .ok (.iload_n 2, 1) := by decide +kernel
theorem dX12_manyLet_15 : decode cX12_manyLet 15 = .ok (.aload_n 0, 1) := by decide +kernel
theorem dX12_manyLet_16 : decode cX12_manyLet 16 = .ok (.iload_n 3, 1) := by decide +kernel
theorem dX12_manyLet_17 : decode cX12_manyLet 17 = .ok (.iload_n 1, 1) := by decide +kernel
theorem dX12_manyLet_18 : decode cX12_manyLet 18 = .ok (.invokevirtual 145, 3) := by decide +kernel
theorem dX12_manyLet_21 : decode cX12_manyLet 21 = .ok (.ifCond .eq 7, 3) := by decide +kernel
theorem dX12_manyLet_24 : decode cX12_manyLet 24 = .ok (.iconst 1, 1) := by decide +kernel
theorem dX12_manyLet_25 : decode cX12_manyLet 25 = .ok (.goto 4, 3) := by decide +kernel
theorem dX12_manyLet_28 : decode cX12_manyLet 28 = .ok (.iconst 0, 1) := by decide +kernel
theorem dX12_manyLet_29 : decode cX12_manyLet 29 = .ok (.iadd, 1) := by decide +kernel
theorem dX12_manyLet_30 : decode cX12_manyLet 30 = .ok (.istore_n 2, 1) := by decide +kernel
theorem dX12_manyLet_31 : decode cX12_manyLet 31 = .ok (.iinc 3 1, 3) := by decide +kernel
theorem dX12_manyLet_34 : decode cX12_manyLet 34 = .ok (.goto (-30), 3) := by decide +kernel
theorem dX12_manyLet_37 : decode cX12_manyLet 37 = .ok (.iload_n 2, 1) := by decide +kernel
theorem dX12_manyLet_38 : decode cX12_manyLet 38 = .ok (.ireturn, 1) := by decide +kernel
theorem dX12_manyBurn_0 : decode cX12_manyBurn 0 = .ok (.iconst 0, 1) := by decide +kernel
theorem dX12_manyBurn_1 : decode cX12_manyBurn 1 = .ok (.istore 4, 2) := by decide +kernel
theorem dX12_manyBurn_3 : decode cX12_manyBurn 3 = .ok (.iconst 0, 1) := by decide +kernel
theorem dX12_manyBurn_4 : decode cX12_manyBurn 4 = .ok (.istore 5, 2) := by decide +kernel
theorem dX12_manyBurn_6 : decode cX12_manyBurn 6 = .ok (.iload 5, 2) := by decide +kernel
theorem dX12_manyBurn_8 : decode cX12_manyBurn 8 = .ok (.aload_n 0, 1) := by decide +kernel
theorem dX12_manyBurn_9 : decode cX12_manyBurn 9 = .ok (.getfield 7, 3) := by decide +kernel
theorem dX12_manyBurn_12 : decode cX12_manyBurn 12 = .ok (.iconst 3, 1) := by decide +kernel
theorem dX12_manyBurn_13 : decode cX12_manyBurn 13 = .ok (.iaload, 1) := by decide +kernel
theorem dX12_manyBurn_14 : decode cX12_manyBurn 14 = .ok (.if_icmp .ge 51, 3) := by decide +kernel
theorem dX12_manyBurn_17 : decode cX12_manyBurn 17 = .ok (.iload 4, 2) := by decide +kernel
theorem dX12_manyBurn_19 : decode cX12_manyBurn 19 = .ok (.aload_n 0, 1) := by decide +kernel
theorem dX12_manyBurn_20 : decode cX12_manyBurn 20 = .ok (.iload 5, 2) := by decide +kernel
theorem dX12_manyBurn_22 : decode cX12_manyBurn 22 = .ok (.iload_n 3, 1) := by decide +kernel
theorem dX12_manyBurn_23 : decode cX12_manyBurn 23 = .ok (.invokevirtual 145, 3) := by decide +kernel
theorem dX12_manyBurn_26 : decode cX12_manyBurn 26 = .ok (.ifCond .eq 29, 3) := by decide +kernel
theorem dX12_manyBurn_29 : decode cX12_manyBurn 29 = .ok (.aload_n 0, 1) := by decide +kernel
theorem dX12_manyBurn_30 : decode cX12_manyBurn 30 = .ok (.getfield 48, 3) := by decide +kernel
theorem dX12_manyBurn_33 : decode cX12_manyBurn 33 = .ok (.sipush 6400, 3) := by decide +kernel
theorem dX12_manyBurn_36 : decode cX12_manyBurn 36 = .ok (.iload 5, 2) := by decide +kernel
theorem dX12_manyBurn_38 : decode cX12_manyBurn 38 = .ok (.imul, 1) := by decide +kernel
theorem dX12_manyBurn_39 : decode cX12_manyBurn 39 = .ok (.bipush 64, 2) := by decide +kernel
theorem dX12_manyBurn_41 : decode cX12_manyBurn 41 = .ok (.iload_n 2, 1) := by decide +kernel
theorem dX12_manyBurn_42 : decode cX12_manyBurn 42 = .ok (.imul, 1) := by decide +kernel
theorem dX12_manyBurn_43 : decode cX12_manyBurn 43 = .ok (.iadd, 1) := by decide +kernel
theorem dX12_manyBurn_44 : decode cX12_manyBurn 44 = .ok (.iload_n 1, 1) := by decide +kernel
theorem dX12_manyBurn_45 : decode cX12_manyBurn 45 = .ok (.iadd, 1) := by decide +kernel
theorem dX12_manyBurn_46 : decode cX12_manyBurn 46 = .ok (.iaload, 1) := by decide +kernel
theorem dX12_manyBurn_47 : decode cX12_manyBurn 47 = .ok (.iconst 1, 1) := by decide +kernel
theorem dX12_manyBurn_48 : decode cX12_manyBurn 48 = .ok (.if_icmp .ne 7, 3) := by decide +kernel
theorem dX12_manyBurn_51 : decode cX12_manyBurn 51 = .ok (.iconst 1, 1) := by decide +kernel
theorem dX12_manyBurn_52 : decode cX12_manyBurn 52 = .ok (.goto 4, 3) := by decide +kernel
theorem dX12_manyBurn_55 : decode cX12_manyBurn 55 = .ok (.iconst 0, 1) := by decide +kernel
theorem dX12_manyBurn_56 : decode cX12_manyBurn 56 = .ok (.iadd, 1) := by decide +kernel
theorem dX12_manyBurn_57 : decode cX12_manyBurn 57 = .ok (.istore 4, 2) := by decide +kernel
theorem dX12_manyBurn_59 : decode cX12_manyBurn 59 = .ok (.iinc 5 1, 3) := by decide +kernel
theorem dX12_manyBurn_62 : decode cX12_manyBurn 62 = .ok (.goto (-56), 3) := by decide +kernel
theorem dX12_manyBurn_65 : decode cX12_manyBurn 65 = .ok (.iload 4, 2) := by decide +kernel
theorem dX12_manyBurn_67 : decode cX12_manyBurn 67 = .ok (.ireturn, 1) := by decide +kernel
theorem dX12_let_0 : decode cX12_let 0 = .ok (.iload_n 1, 1) := by decide +kernel
theorem dX12_let_1 : decode cX12_let 1 = .ok (.iconst (-1), 1) := by decide +kernel
theorem dX12_let_2 : decode cX12_let 2 = .ok (.if_icmp .eq 11, 3) := by decide +kernel
theorem dX12_let_5 : decode cX12_let 5 = .ok (.aload_n 0, 1) := by decide +kernel
theorem dX12_let_6 : decode cX12_let 6 = .ok (.iload_n 1, 1) := by decide +kernel
theorem dX12_let_7 : decode cX12_let 7 = .ok (.invokevirtual 139, 3) := by decide +kernel
theorem dX12_let_10 : decode cX12_let 10 = .ok (.ifCond .eq 13, 3) := by decide +kernel
theorem dX12_let_13 : decode cX12_let 13 = .ok (.iload_n 2, 1) := by decide +kernel
theorem dX12_let_14 : decode cX12_let 14 = .ok (.iconst 0, 1) := by decide +kernel
theorem dX12_let_15 : decode cX12_let 15 = .ok (.bipush 100, 2) := by decide +kernel
theorem dX12_let_17 : decode cX12_let 17 = .ok (.invokestatic 96, 3) := by decide +kernel
theorem dX12_let_20 : decode cX12_let 20 = .ok (.ifCond .ne 5, 3) := by decide +kernel
theorem dX12_let_23 : decode cX12_let 23 = .ok (.iconst (-1), 1) := by decide +kernel
theorem dX12_let_24 : decode cX12_let 24 = .ok (.ireturn, 1) := by decide +kernel
theorem dX12_let_25 : decode cX12_let 25 = .ok (.aload_n 0, 1) := by decide +kernel
theorem dX12_let_26 : decode cX12_let 26 = .ok (.invokevirtual 149, 3) := by decide +kernel
theorem dX12_let_29 : decode cX12_let 29 = .ok (.iload_n 1, 1) := by decide +kernel
theorem dX12_let_30 : decode cX12_let 30 = .ok (.iconst (-1), 1) := by decide +kernel
theorem dX12_let_31 : decode cX12_let 31 = .ok (.if_icmp .ne 11, 3) := by decide +kernel
theorem dX12_let_34 : decode cX12_let 34 = .ok (.aload_n 0, 1) := by decide +kernel
theorem dX12_let_35 : decode cX12_let 35 = .ok (.iload_n 2, 1) := by decide +kernel
theorem dX12_let_36 : decode cX12_let 36 = .ok (.invokevirtual 152, 3) := by decide +kernel
theorem dX12_let_39 : decode cX12_let 39 = .ok (.goto 17, 3) := by decide +kernel
theorem dX12_let_42 : decode cX12_let 42 = .ok (.aload_n 0, 1) := by decide +kernel
theorem dX12_let_43 : decode cX12_let 43 = .ok (.iload_n 1, 1) := by decide +kernel
theorem dX12_let_44 : decode cX12_let 44 = .ok (.iload_n 2, 1) := by decide +kernel
theorem dX12_let_45 : decode cX12_let 45 = .ok (.invokevirtual 145, 3) := by decide +kernel
theorem dX12_let_48 : decode cX12_let 48 = .ok (.ifCond .eq 7, 3) := by decide +kernel
theorem dX12_let_51 : decode cX12_let 51 = .ok (.iconst 1, 1) := by decide +kernel
theorem dX12_let_52 : decode cX12_let 52 = .ok (.goto 4, 3) := by decide +kernel
theorem dX12_let_55 : decode cX12_let 55 = .ok (.iconst 0, 1) := by decide +kernel
theorem dX12_let_56 : decode cX12_let 56 = .ok (.ireturn, 1) := by decide +kernel
theorem dX12_span_0 : decode cX12_span 0 = .ok (.aload_n 0, 1) := by decide +kernel
theorem dX12_span_1 : decode cX12_span 1 = .ok (.iload_n 1, 1) := by decide +kernel
theorem dX12_span_2 : decode cX12_span 2 = .ok (.invokevirtual 100, 3) := by decide +kernel
theorem dX12_span_5 : decode cX12_span 5 = .ok (.ifCond .eq 20, 3) := by decide +kernel
theorem dX12_span_8 : decode cX12_span 8 = .ok (.iload_n 2, 1) := by decide +kernel
theorem dX12_span_9 : decode cX12_span 9 = .ok (.invokestatic 115, 3) := by decide +kernel
theorem dX12_span_12 : decode cX12_span 12 = .ok (.ifCond .eq 13, 3) := by decide +kernel
theorem dX12_span_15 : decode cX12_span 15 = .ok (.iload_n 3, 1) := by decide +kernel
theorem dX12_span_16 : decode cX12_span 16 = .ok (.iconst 0, 1) := by decide +kernel
theorem dX12_span_17 : decode cX12_span 17 = .ok (.bipush 100, 2) := by decide +kernel
theorem dX12_span_19 : decode cX12_span 19 = .ok (.invokestatic 96, 3) := by decide +kernel
theorem dX12_span_22 : decode cX12_span 22 = .ok (.ifCond .ne 5, 3) := by decide +kernel
theorem dX12_span_25 : decode cX12_span 25 = .ok (.iconst (-1), 1) := by decide +kernel
theorem dX12_span_26 : decode cX12_span 26 = .ok (.ireturn, 1) := by decide +kernel
theorem dX12_span_27 : decode cX12_span 27 = .ok (.aload_n 0, 1) := by decide +kernel
theorem dX12_span_28 : decode cX12_span 28 = .ok (.invokevirtual 149, 3) := by decide +kernel
theorem dX12_span_31 : decode cX12_span 31 = .ok (.aload_n 0, 1) := by decide +kernel
theorem dX12_span_32 : decode cX12_span 32 = .ok (.iload_n 3, 1) := by decide +kernel
theorem dX12_span_33 : decode cX12_span 33 = .ok (.invokevirtual 152, 3) := by decide +kernel
theorem dX12_span_36 : decode cX12_span 36 = .ok (.istore 4, 2) := by decide +kernel
theorem dX12_span_38 : decode cX12_span 38 = .ok (.aload_n 0, 1) := by decide +kernel
theorem dX12_span_39 : decode cX12_span 39 = .ok (.iload_n 1, 1) := by decide +kernel
theorem dX12_span_40 : decode cX12_span 40 = .ok (.iload_n 2, 1) := by decide +kernel
theorem dX12_span_41 : decode cX12_span 41 = .ok (.iload_n 3, 1) := by decide +kernel
theorem dX12_span_42 : decode cX12_span 42 = .ok (.invokevirtual 155, 3) := by decide +kernel
theorem dX12_span_45 : decode cX12_span 45 = .ok (.istore 5, 2) := by decide +kernel
theorem dX12_span_47 : decode cX12_span 47 = .ok (.iload 4, 2) := by decide +kernel
theorem dX12_span_49 : decode cX12_span 49 = .ok (.ifCond .ne 7, 3) := by decide +kernel
theorem dX12_span_52 : decode cX12_span 52 = .ok (.iconst (-1), 1) := by decide +kernel
theorem dX12_span_53 : decode cX12_span 53 = .ok (.goto 24, 3) := by decide +kernel
theorem dX12_span_56 : decode cX12_span 56 = .ok (.iload 5, 2) := by decide +kernel
theorem dX12_span_58 : decode cX12_span 58 = .ok (.iload 4, 2) := by decide +kernel
theorem dX12_span_60 : decode cX12_span 60 = .ok (.if_icmp .ne 7, 3) := by decide +kernel
theorem dX12_span_63 : decode cX12_span 63 = .ok (.iconst 2, 1) := by decide +kernel
theorem dX12_span_64 : decode cX12_span 64 = .ok (.goto 13, 3) := by decide +kernel
theorem dX12_span_67 : decode cX12_span 67 = .ok (.iload 5, 2) := by decide +kernel
theorem dX12_span_69 : decode cX12_span 69 = .ok (.ifCond .le 7, 3) := by decide +kernel
theorem dX12_span_72 : decode cX12_span 72 = .ok (.iconst 1, 1) := by decide +kernel
theorem dX12_span_73 : decode cX12_span 73 = .ok (.goto 4, 3) := by decide +kernel
theorem dX12_span_76 : decode cX12_span 76 = .ok (.iconst 0, 1) := by decide +kernel
theorem dX12_span_77 : decode cX12_span 77 = .ok (.ireturn, 1) := by decide +kernel
theorem dX12_parts_0 : decode cX12_parts 0 = .ok (.iload_n 1, 1) := by decide +kernel
theorem dX12_parts_1 : decode cX12_parts 1 = .ok (.invokestatic 115, 3) := by decide +kernel
theorem dX12_parts_4 : decode cX12_parts 4 = .ok (.ifCond .ne 5, 3) := by decide +kernel
theorem dX12_parts_7 : decode cX12_parts 7 = .ok (.iconst (-1), 1) := by decide +kernel
theorem dX12_parts_8 : decode cX12_parts 8 = .ok (.ireturn, 1) := by decide +kernel
theorem dX12_parts_9 : decode cX12_parts 9 = .ok (.aload_n 0, 1) := by decide +kernel
theorem dX12_parts_10 : decode cX12_parts 10 = .ok (.invokevirtual 149, 3) := by decide +kernel
theorem dX12_parts_13 : decode cX12_parts 13 = .ok (.aload_n 0, 1) := by decide +kernel
theorem dX12_parts_14 : decode cX12_parts 14 = .ok (.aload_n 0, 1) := by decide +kernel
theorem dX12_parts_15 : decode cX12_parts 15 = .ok (.getfield 7, 3) := by decide +kernel
theorem dX12_parts_18 : decode cX12_parts 18 = .ok (.iconst 0, 1) := by decide +kernel
theorem dX12_parts_19 : decode cX12_parts 19 = .ok (.iaload, 1) := by decide +kernel
theorem dX12_parts_20 : decode cX12_parts 20 = .ok (.invokevirtual 152, 3) := by decide +kernel
theorem dX12_parts_23 : decode cX12_parts 23 = .ok (.istore_n 2, 1) := by decide +kernel
theorem dX12_parts_24 : decode cX12_parts 24 = .ok (.iconst (-1), 1) := by decide +kernel
theorem dX12_parts_25 : decode cX12_parts 25 = .ok (.istore_n 3, 1) := by decide +kernel
theorem dX12_parts_26 : decode cX12_parts 26 = .ok (.iconst 0, 1) := by decide +kernel
theorem dX12_parts_27 : decode cX12_parts 27 = .ok (.istore 4, 2) := by decide +kernel
theorem dX12_parts_29 : decode cX12_parts 29 = .ok (.iconst 0, 1) := by decide +kernel
theorem dX12_parts_30 : decode cX12_parts 30 = .ok (.istore 5, 2) := by decide +kernel
theorem dX12_parts_32 : decode cX12_parts 32 = .ok (.iload 5, 2) := by decide +kernel
theorem dX12_parts_34 : decode cX12_parts 34 = .ok (.aload_n 0, 1) := by decide +kernel
theorem dX12_parts_35 : decode cX12_parts 35 = .ok (.getfield 86, 3) := by decide +kernel
theorem dX12_parts_38 : decode cX12_parts 38 = .ok (.aload_n 0, 1) := by decide +kernel
theorem dX12_parts_39 : decode cX12_parts 39 = .ok (.getfield 89, 3) := by decide +kernel
theorem dX12_parts_42 : decode cX12_parts 42 = .ok (.imul, 1) := by decide +kernel
theorem dX12_parts_43 : decode cX12_parts 43 = .ok (.if_icmp .ge 61, 3) := by decide +kernel
theorem dX12_parts_46 : decode cX12_parts 46 = .ok (.aload_n 0, 1) := by decide +kernel
theorem dX12_parts_47 : decode cX12_parts 47 = .ok (.iload 5, 2) := by decide +kernel
theorem dX12_parts_49 : decode cX12_parts 49 = .ok (.iload_n 1, 1) := by decide +kernel
theorem dX12_parts_50 : decode cX12_parts 50 = .ok (.aload_n 0, 1) := by decide +kernel
theorem dX12_parts_51 : decode cX12_parts 51 = .ok (.getfield 7, 3) := by decide +kernel
theorem dX12_parts_54 : decode cX12_parts 54 = .ok (.iconst 0, 1) := by decide +kernel
theorem dX12_parts_55 : decode cX12_parts 55 = .ok (.iaload, 1) := by decide +kernel
theorem dX12_parts_56 : decode cX12_parts 56 = .ok (.invokevirtual 155, 3) := by decide +kernel
theorem dX12_parts_59 : decode cX12_parts 59 = .ok (.istore 6, 2) := by decide +kernel
theorem dX12_parts_61 : decode cX12_parts 61 = .ok (.iload 6, 2) := by decide +kernel
theorem dX12_parts_63 : decode cX12_parts 63 = .ok (.iload_n 2, 1) := by decide +kernel
theorem dX12_parts_64 : decode cX12_parts 64 = .ok (.iload 6, 2) := by decide +kernel
theorem dX12_parts_66 : decode cX12_parts 66 = .ok (.isub, 1) := by decide +kernel
theorem dX12_parts_67 : decode cX12_parts 67 = .ok (.if_icmp .ge 8, 3) := by decide +kernel
theorem dX12_parts_70 : decode cX12_parts 70 = .ok (.iload 6, 2) := by decide +kernel
theorem dX12_parts_72 : decode cX12_parts 72 = .ok (.goto 7, 3) := by decide +kernel
theorem dX12_parts_75 : decode cX12_parts 75 = .ok (.iload_n 2, 1) := by decide +kernel
theorem dX12_parts_76 : decode cX12_parts 76 = .ok (.iload 6, 2) := by decide +kernel
theorem dX12_parts_78 : decode cX12_parts 78 = .ok (.isub, 1) := by decide +kernel
theorem dX12_parts_79 : decode cX12_parts 79 = .ok (.istore 7, 2) := by decide +kernel
theorem dX12_parts_81 : decode cX12_parts 81 = .ok (.iload 7, 2) := by decide +kernel
theorem dX12_parts_83 : decode cX12_parts 83 = .ok (.iload 4, 2) := by decide +kernel
theorem dX12_parts_85 : decode cX12_parts 85 = .ok (.if_icmp .gt 6, 3) := by decide +kernel
theorem dX12_parts_88 : decode cX12_parts 88 = .ok (.goto 10, 3) := by decide +kernel
theorem dX12_parts_91 : decode cX12_parts 91 = .ok (.iload 5, 2) := by decide +kernel
theorem dX12_parts_93 : decode cX12_parts 93 = .ok (.istore_n 3, 1) := by decide +kernel
theorem dX12_parts_94 : decode cX12_parts 94 = .ok (.iload 7, 2) := by decide +kernel
theorem dX12_parts_96 : decode cX12_parts 96 = .ok (.istore 4, 2) := by decide +kernel
theorem dX12_parts_98 : decode cX12_parts 98 = .ok (.iinc 5 1, 3) := by decide +kernel
theorem dX12_parts_101 : decode cX12_parts 101 = .ok (.goto (-69), 3) := by decide +kernel
theorem dX12_parts_104 : decode cX12_parts 104 = .ok (.iload_n 3, 1) := by decide +kernel
theorem dX12_parts_105 : decode cX12_parts 105 = .ok (.ireturn, 1) := by decide +kernel
theorem dX12_inTime_0 : decode cX12_inTime 0 = .ok (.iload_n 1, 1) := by decide +kernel
theorem dX12_inTime_1 : decode cX12_inTime 1 = .ok (.iconst 0, 1) := by decide +kernel
theorem dX12_inTime_2 : decode cX12_inTime 2 = .ok (.aload_n 0, 1) := by decide +kernel
theorem dX12_inTime_3 : decode cX12_inTime 3 = .ok (.getfield 7, 3) := by decide +kernel
theorem dX12_inTime_6 : decode cX12_inTime 6 = .ok (.iconst 2, 1) := by decide +kernel
theorem dX12_inTime_7 : decode cX12_inTime 7 = .ok (.iaload, 1) := by decide +kernel
theorem dX12_inTime_8 : decode cX12_inTime 8 = .ok (.iconst 1, 1) := by decide +kernel
theorem dX12_inTime_9 : decode cX12_inTime 9 = .ok (.isub, 1) := by decide +kernel
theorem dX12_inTime_10 : decode cX12_inTime 10 = .ok (.invokestatic 96, 3) := by decide +kernel
theorem dX12_inTime_13 : decode cX12_inTime 13 = .ok (.ifCond .eq 16, 3) := by decide +kernel
theorem dX12_inTime_16 : decode cX12_inTime 16 = .ok (.iload_n 2, 1) := by decide +kernel
theorem dX12_inTime_17 : decode cX12_inTime 17 = .ok (.iconst (-1), 1) := by decide +kernel
theorem dX12_inTime_18 : decode cX12_inTime 18 = .ok (.if_icmp .eq 13, 3) := by decide +kernel
theorem dX12_inTime_21 : decode cX12_inTime 21 = .ok (.aload_n 0, 1) := by decide +kernel
theorem dX12_inTime_22 : decode cX12_inTime 22 = .ok (.iload_n 2, 1) := by decide +kernel
theorem dX12_inTime_23 : decode cX12_inTime 23 = .ok (.invokevirtual 139, 3) := by decide +kernel
theorem dX12_inTime_26 : decode cX12_inTime 26 = .ok (.ifCond .ne 5, 3) := by decide +kernel
theorem dX12_inTime_29 : decode cX12_inTime 29 = .ok (.iconst (-1), 1) := by decide +kernel
theorem dX12_inTime_30 : decode cX12_inTime 30 = .ok (.ireturn, 1) := by decide +kernel
theorem dX12_inTime_31 : decode cX12_inTime 31 = .ok (.aload_n 0, 1) := by decide +kernel
theorem dX12_inTime_32 : decode cX12_inTime 32 = .ok (.invokevirtual 149, 3) := by decide +kernel
theorem dX12_inTime_35 : decode cX12_inTime 35 = .ok (.iload_n 2, 1) := by decide +kernel
theorem dX12_inTime_36 : decode cX12_inTime 36 = .ok (.iconst (-1), 1) := by decide +kernel
theorem dX12_inTime_37 : decode cX12_inTime 37 = .ok (.if_icmp .eq 23, 3) := by decide +kernel
theorem dX12_inTime_40 : decode cX12_inTime 40 = .ok (.aload_n 0, 1) := by decide +kernel
theorem dX12_inTime_41 : decode cX12_inTime 41 = .ok (.getfield 51, 3) := by decide +kernel
theorem dX12_inTime_44 : decode cX12_inTime 44 = .ok (.iload_n 2, 1) := by decide +kernel
theorem dX12_inTime_45 : decode cX12_inTime 45 = .ok (.iaload, 1) := by decide +kernel
theorem dX12_inTime_46 : decode cX12_inTime 46 = .ok (.iload_n 1, 1) := by decide +kernel
theorem dX12_inTime_47 : decode cX12_inTime 47 = .ok (.ishr, 1) := by decide +kernel
theorem dX12_inTime_48 : decode cX12_inTime 48 = .ok (.iconst 1, 1) := by decide +kernel
theorem dX12_inTime_49 : decode cX12_inTime 49 = .ok (.iand, 1) := by decide +kernel
theorem dX12_inTime_50 : decode cX12_inTime 50 = .ok (.iconst 1, 1) := by decide +kernel
theorem dX12_inTime_51 : decode cX12_inTime 51 = .ok (.if_icmp .ne 7, 3) := by decide +kernel
theorem dX12_inTime_54 : decode cX12_inTime 54 = .ok (.iconst 0, 1) := by decide +kernel
theorem dX12_inTime_55 : decode cX12_inTime 55 = .ok (.goto 4, 3) := by decide +kernel
theorem dX12_inTime_58 : decode cX12_inTime 58 = .ok (.iconst 1, 1) := by decide +kernel
theorem dX12_inTime_59 : decode cX12_inTime 59 = .ok (.ireturn, 1) := by decide +kernel
theorem dX12_inTime_60 : decode cX12_inTime 60 = .ok (.aload_n 0, 1) := by decide +kernel
theorem dX12_inTime_61 : decode cX12_inTime 61 = .ok (.aload_n 0, 1) := by decide +kernel
theorem dX12_inTime_62 : decode cX12_inTime 62 = .ok (.getfield 7, 3) := by decide +kernel
theorem dX12_inTime_65 : decode cX12_inTime 65 = .ok (.iconst 0, 1) := by decide +kernel
theorem dX12_inTime_66 : decode cX12_inTime 66 = .ok (.iaload, 1) := by decide +kernel
theorem dX12_inTime_67 : decode cX12_inTime 67 = .ok (.invokevirtual 152, 3) := by decide +kernel
theorem dX12_inTime_70 : decode cX12_inTime 70 = .ok (.istore_n 3, 1) := by decide +kernel
theorem dX12_inTime_71 : decode cX12_inTime 71 = .ok (.iconst 0, 1) := by decide +kernel
theorem dX12_inTime_72 : decode cX12_inTime 72 = .ok (.istore 4, 2) := by decide +kernel
theorem dX12_inTime_74 : decode cX12_inTime 74 = .ok (.iconst 0, 1) := by decide +kernel
theorem dX12_inTime_75 : decode cX12_inTime 75 = .ok (.istore 5, 2) := by decide +kernel
theorem dX12_inTime_77 : decode cX12_inTime 77 = .ok (.iload 5, 2) := by decide +kernel
theorem dX12_inTime_79 : decode cX12_inTime 79 = .ok (.aload_n 0, 1) := by decide +kernel
theorem dX12_inTime_80 : decode cX12_inTime 80 = .ok (.getfield 7, 3) := by decide +kernel
theorem dX12_inTime_83 : decode cX12_inTime 83 = .ok (.iconst 3, 1) := by decide +kernel
theorem dX12_inTime_84 : decode cX12_inTime 84 = .ok (.iaload, 1) := by decide +kernel
theorem dX12_inTime_85 : decode cX12_inTime 85 = .ok (.if_icmp .ge 48, 3) := by decide +kernel
theorem dX12_inTime_88 : decode cX12_inTime 88 = .ok (.iload 4, 2) := by decide +kernel
theorem dX12_inTime_90 : decode cX12_inTime 90 = .ok (.aload_n 0, 1) := by decide +kernel
theorem dX12_inTime_91 : decode cX12_inTime 91 = .ok (.iload 5, 2) := by decide +kernel
theorem dX12_inTime_93 : decode cX12_inTime 93 = .ok (.aload_n 0, 1) := by decide +kernel
theorem dX12_inTime_94 : decode cX12_inTime 94 = .ok (.getfield 7, 3) := by decide +kernel
theorem dX12_inTime_97 : decode cX12_inTime 97 = .ok (.iconst 0, 1) := by decide +kernel
theorem dX12_inTime_98 : decode cX12_inTime 98 = .ok (.iaload, 1) := by decide +kernel
theorem dX12_inTime_99 : decode cX12_inTime 99 = .ok (.invokevirtual 145, 3) := by decide +kernel
theorem dX12_inTime_102 : decode cX12_inTime 102 = .ok (.ifCond .eq 21, 3) := by decide +kernel
theorem dX12_inTime_105 : decode cX12_inTime 105 = .ok (.aload_n 0, 1) := by decide +kernel
theorem dX12_inTime_106 : decode cX12_inTime 106 = .ok (.getfield 51, 3) := by decide +kernel
theorem dX12_inTime_109 : decode cX12_inTime 109 = .ok (.iload 5, 2) := by decide +kernel
theorem dX12_inTime_111 : decode cX12_inTime 111 = .ok (.iaload, 1) := by decide +kernel
theorem dX12_inTime_112 : decode cX12_inTime 112 = .ok (.iload_n 1, 1) := by decide +kernel
theorem dX12_inTime_113 : decode cX12_inTime 113 = .ok (.ishr, 1) := by decide +kernel
theorem dX12_inTime_114 : decode cX12_inTime 114 = .ok (.iconst 1, 1) := by decide +kernel
theorem dX12_inTime_115 : decode cX12_inTime 115 = .ok (.iand, 1) := by decide +kernel
theorem dX12_inTime_116 : decode cX12_inTime 116 = .ok (.ifCond .ne 7, 3) := by decide +kernel
theorem dX12_inTime_119 : decode cX12_inTime 119 = .ok (.iconst 1, 1) := by decide +kernel
theorem dX12_inTime_120 : decode cX12_inTime 120 = .ok (.goto 4, 3) := by decide +kernel
theorem dX12_inTime_123 : decode cX12_inTime 123 = .ok (.iconst 0, 1) := by decide +kernel
theorem dX12_inTime_124 : decode cX12_inTime 124 = .ok (.iadd, 1) := by decide +kernel
theorem dX12_inTime_125 : decode cX12_inTime 125 = .ok (.istore 4, 2) := by decide +kernel
theorem dX12_inTime_127 : decode cX12_inTime 127 = .ok (.iinc 5 1, 3) := by decide +kernel
theorem dX12_inTime_130 : decode cX12_inTime 130 = .ok (.goto (-53), 3) := by decide +kernel
theorem dX12_inTime_133 : decode cX12_inTime 133 = .ok (.iload_n 3, 1) := by decide +kernel
theorem dX12_inTime_134 : decode cX12_inTime 134 = .ok (.ifCond .ne 7, 3) := by decide +kernel
theorem dX12_inTime_137 : decode cX12_inTime 137 = .ok (.iconst (-1), 1) := by decide +kernel
theorem dX12_inTime_138 : decode cX12_inTime 138 = .ok (.goto 23, 3) := by decide +kernel
theorem dX12_inTime_141 : decode cX12_inTime 141 = .ok (.iload 4, 2) := by decide +kernel
theorem dX12_inTime_143 : decode cX12_inTime 143 = .ok (.iload_n 3, 1) := by decide +kernel
theorem dX12_inTime_144 : decode cX12_inTime 144 = .ok (.if_icmp .ne 7, 3) := by decide +kernel
theorem dX12_inTime_147 : decode cX12_inTime 147 = .ok (.iconst 2, 1) := by decide +kernel
theorem dX12_inTime_148 : decode cX12_inTime 148 = .ok (.goto 13, 3) := by decide +kernel
theorem dX12_inTime_151 : decode cX12_inTime 151 = .ok (.iload 4, 2) := by decide +kernel
theorem dX12_inTime_153 : decode cX12_inTime 153 = .ok (.ifCond .le 7, 3) := by decide +kernel
theorem dX12_inTime_156 : decode cX12_inTime 156 = .ok (.iconst 1, 1) := by decide +kernel
theorem dX12_inTime_157 : decode cX12_inTime 157 = .ok (.goto 4, 3) := by decide +kernel
theorem dX12_inTime_160 : decode cX12_inTime 160 = .ok (.iconst 0, 1) := by decide +kernel
theorem dX12_inTime_161 : decode cX12_inTime 161 = .ok (.ireturn, 1) := by decide +kernel
theorem dX12_house_0 : decode cX12_house 0 = .ok (.aload_n 0, 1) := by decide +kernel
theorem dX12_house_1 : decode cX12_house 1 = .ok (.iload_n 1, 1) := by decide +kernel
theorem dX12_house_2 : decode cX12_house 2 = .ok (.invokevirtual 100, 3) := by decide +kernel
theorem dX12_house_5 : decode cX12_house 5 = .ok (.ifCond .eq 34, 3) := by decide +kernel
theorem dX12_house_8 : decode cX12_house 8 = .ok (.iload_n 2, 1) := by decide +kernel
theorem dX12_house_9 : decode cX12_house 9 = .ok (.iconst 0, 1) := by decide +kernel
theorem dX12_house_10 : decode cX12_house 10 = .ok (.bipush 9, 2) := by decide +kernel
theorem dX12_house_12 : decode cX12_house 12 = .ok (.invokestatic 96, 3) := by decide +kernel
theorem dX12_house_15 : decode cX12_house 15 = .ok (.ifCond .eq 24, 3) := by decide +kernel
theorem dX12_house_18 : decode cX12_house 18 = .ok (.iload_n 3, 1) := by decide +kernel
theorem dX12_house_19 : decode cX12_house 19 = .ok (.iconst 1, 1) := by decide +kernel
theorem dX12_house_20 : decode cX12_house 20 = .ok (.bipush 9, 2) := by decide +kernel
theorem dX12_house_22 : decode cX12_house 22 = .ok (.invokestatic 96, 3) := by decide +kernel
theorem dX12_house_25 : decode cX12_house 25 = .ok (.ifCond .eq 14, 3) := by decide +kernel
theorem dX12_house_28 : decode cX12_house 28 = .ok (.aload_n 0, 1) := by decide +kernel
theorem dX12_house_29 : decode cX12_house 29 = .ok (.getfield 7, 3) := by decide +kernel
theorem dX12_house_32 : decode cX12_house 32 = .ok (.iconst 5, 1) := by decide +kernel
theorem dX12_house_33 : decode cX12_house 33 = .ok (.iaload, 1) := by decide +kernel
theorem dX12_house_34 : decode cX12_house 34 = .ok (.bipush 20, 2) := by decide +kernel
theorem dX12_house_36 : decode cX12_house 36 = .ok (.if_icmp .ne 5, 3) := by decide +kernel
theorem dX12_house_39 : decode cX12_house 39 = .ok (.iconst (-1), 1) := by decide +kernel
theorem dX12_house_40 : decode cX12_house 40 = .ok (.ireturn, 1) := by decide +kernel
theorem dX12_house_41 : decode cX12_house 41 = .ok (.sipush 1080, 3) := by decide +kernel
theorem dX12_house_44 : decode cX12_house 44 = .ok (.iconst 5, 1) := by decide +kernel
theorem dX12_house_45 : decode cX12_house 45 = .ok (.aload_n 0, 1) := by decide +kernel
theorem dX12_house_46 : decode cX12_house 46 = .ok (.getfield 7, 3) := by decide +kernel
theorem dX12_house_49 : decode cX12_house 49 = .ok (.iconst 5, 1) := by decide +kernel
theorem dX12_house_50 : decode cX12_house 50 = .ok (.iaload, 1) := by decide +kernel
theorem dX12_house_51 : decode cX12_house 51 = .ok (.imul, 1) := by decide +kernel
theorem dX12_house_52 : decode cX12_house 52 = .ok (.iadd, 1) := by decide +kernel
theorem dX12_house_53 : decode cX12_house 53 = .ok (.istore 4, 2) := by decide +kernel
theorem dX12_house_55 : decode cX12_house 55 = .ok (.aload_n 0, 1) := by decide +kernel
theorem dX12_house_56 : decode cX12_house 56 = .ok (.getfield 7, 3) := by decide +kernel
theorem dX12_house_59 : decode cX12_house 59 = .ok (.iload 4, 2) := by decide +kernel
theorem dX12_house_61 : decode cX12_house 61 = .ok (.iload_n 1, 1) := by decide +kernel
theorem dX12_house_62 : decode cX12_house 62 = .ok (.iastore, 1) := by decide +kernel
theorem dX12_house_63 : decode cX12_house 63 = .ok (.aload_n 0, 1) := by decide +kernel
theorem dX12_house_64 : decode cX12_house 64 = .ok (.getfield 7, 3) := by decide +kernel
theorem dX12_house_67 : decode cX12_house 67 = .ok (.iload 4, 2) := by decide +kernel
theorem dX12_house_69 : decode cX12_house 69 = .ok (.iconst 1, 1) := by decide +kernel
theorem dX12_house_70 : decode cX12_house 70 = .ok (.iadd, 1) := by decide +kernel
theorem dX12_house_71 : decode cX12_house 71 = .ok (.iload_n 2, 1) := by decide +kernel
theorem dX12_house_72 : decode cX12_house 72 = .ok (.iastore, 1) := by decide +kernel
theorem dX12_house_73 : decode cX12_house 73 = .ok (.aload_n 0, 1) := by decide +kernel
theorem dX12_house_74 : decode cX12_house 74 = .ok (.getfield 7, 3) := by decide +kernel
theorem dX12_house_77 : decode cX12_house 77 = .ok (.iload 4, 2) := by decide +kernel
theorem dX12_house_79 : decode cX12_house 79 = .ok (.iconst 2, 1) := by decide +kernel
theorem dX12_house_80 : decode cX12_house 80 = .ok (.iadd, 1) := by decide +kernel
theorem dX12_house_81 : decode cX12_house 81 = .ok (.iload_n 3, 1) := by decide +kernel
theorem dX12_house_82 : decode cX12_house 82 = .ok (.iastore, 1) := by decide +kernel
theorem dX12_house_83 : decode cX12_house 83 = .ok (.aload_n 0, 1) := by decide +kernel
theorem dX12_house_84 : decode cX12_house 84 = .ok (.getfield 7, 3) := by decide +kernel
theorem dX12_house_87 : decode cX12_house 87 = .ok (.iload 4, 2) := by decide +kernel
theorem dX12_house_89 : decode cX12_house 89 = .ok (.iconst 3, 1) := by decide +kernel
theorem dX12_house_90 : decode cX12_house 90 = .ok (.iadd, 1) := by decide +kernel
theorem dX12_house_91 : decode cX12_house 91 = .ok (.iconst 0, 1) := by decide +kernel
theorem dX12_house_92 : decode cX12_house 92 = .ok (.iastore, 1) := by decide +kernel
theorem dX12_house_93 : decode cX12_house 93 = .ok (.aload_n 0, 1) := by decide +kernel
theorem dX12_house_94 : decode cX12_house 94 = .ok (.getfield 7, 3) := by decide +kernel
theorem dX12_house_97 : decode cX12_house 97 = .ok (.iload 4, 2) := by decide +kernel
theorem dX12_house_99 : decode cX12_house 99 = .ok (.iconst 4, 1) := by decide +kernel
theorem dX12_house_100 : decode cX12_house 100 = .ok (.iadd, 1) := by decide +kernel
theorem dX12_house_101 : decode cX12_house 101 = .ok (.iconst (-1), 1) := by decide +kernel
theorem dX12_house_102 : decode cX12_house 102 = .ok (.iastore, 1) := by decide +kernel
theorem dX12_house_103 : decode cX12_house 103 = .ok (.aload_n 0, 1) := by decide +kernel
theorem dX12_house_104 : decode cX12_house 104 = .ok (.getfield 7, 3) := by decide +kernel
theorem dX12_house_107 : decode cX12_house 107 = .ok (.iconst 5, 1) := by decide +kernel
theorem dX12_house_108 : decode cX12_house 108 = .ok (.dup2, 1) := by decide +kernel
theorem dX12_house_109 : decode cX12_house 109 = .ok (.iaload, 1) := by decide +kernel
theorem dX12_house_110 : decode cX12_house 110 = .ok (.iconst 1, 1) := by decide +kernel
theorem dX12_house_111 : decode cX12_house 111 = .ok (.iadd, 1) := by decide +kernel
theorem dX12_house_112 : decode cX12_house 112 = .ok (.iastore, 1) := by decide +kernel
theorem dX12_house_113 : decode cX12_house 113 = .ok (.aload_n 0, 1) := by decide +kernel
theorem dX12_house_114 : decode cX12_house 114 = .ok (.getfield 7, 3) := by decide +kernel
theorem dX12_house_117 : decode cX12_house 117 = .ok (.iconst 5, 1) := by decide +kernel
theorem dX12_house_118 : decode cX12_house 118 = .ok (.iaload, 1) := by decide +kernel
theorem dX12_house_119 : decode cX12_house 119 = .ok (.iconst 1, 1) := by decide +kernel
theorem dX12_house_120 : decode cX12_house 120 = .ok (.isub, 1) := by decide +kernel
theorem dX12_house_121 : decode cX12_house 121 = .ok (.ireturn, 1) := by decide +kernel
theorem dX12_isHouse_0 : decode cX12_isHouse 0 = .ok (.iload_n 1, 1) := by decide +kernel
theorem dX12_isHouse_1 : decode cX12_isHouse 1 = .ok (.iconst 0, 1) := by decide +kernel
theorem dX12_isHouse_2 : decode cX12_isHouse 2 = .ok (.aload_n 0, 1) := by decide +kernel
theorem dX12_isHouse_3 : decode cX12_isHouse 3 = .ok (.getfield 7, 3) := by decide +kernel
theorem dX12_isHouse_6 : decode cX12_isHouse 6 = .ok (.iconst 5, 1) := by decide +kernel
theorem dX12_isHouse_7 : decode cX12_isHouse 7 = .ok (.iaload, 1) := by decide +kernel
theorem dX12_isHouse_8 : decode cX12_isHouse 8 = .ok (.iconst 1, 1) := by decide +kernel
theorem dX12_isHouse_9 : decode cX12_isHouse 9 = .ok (.isub, 1) := by decide +kernel
theorem dX12_isHouse_10 : decode cX12_isHouse 10 = .ok (.invokestatic 96, 3) := by decide +kernel
theorem dX12_isHouse_13 : decode cX12_isHouse 13 = .ok (.ireturn, 1) := by decide +kernel
theorem dX12_gasOf_0 : decode cX12_gasOf 0 = .ok (.iconst (-1), 1) := by decide +kernel
theorem dX12_gasOf_1 : decode cX12_gasOf 1 = .ok (.istore 4, 2) := by decide +kernel
theorem dX12_gasOf_3 : decode cX12_gasOf 3 = .ok (.aload_n 0, 1) := by decide +kernel
theorem dX12_gasOf_4 : decode cX12_gasOf 4 = .ok (.getfield 7, 3) := by decide +kernel
theorem dX12_gasOf_7 : decode cX12_gasOf 7 = .ok (.sipush 1080, 3) := by decide +kernel
theorem dX12_gasOf_10 : decode cX12_gasOf 10 = .ok (.iconst 5, 1) := by decide +kernel
theorem dX12_gasOf_11 : decode cX12_gasOf 11 = .ok (.iload_n 1, 1) := by decide +kernel
theorem dX12_gasOf_12 : decode cX12_gasOf 12 = .ok (.imul, 1) := by decide +kernel
theorem dX12_gasOf_13 : decode cX12_gasOf 13 = .ok (.iadd, 1) := by decide +kernel
theorem dX12_gasOf_14 : decode cX12_gasOf 14 = .ok (.iaload, 1) := by decide +kernel
theorem dX12_gasOf_15 : decode cX12_gasOf 15 = .ok (.istore 5, 2) := by decide +kernel
theorem dX12_gasOf_17 : decode cX12_gasOf 17 = .ok (.iconst 0, 1) := by decide +kernel
theorem dX12_gasOf_18 : decode cX12_gasOf 18 = .ok (.istore 6, 2) := by decide +kernel
theorem dX12_gasOf_20 : decode cX12_gasOf 20 = .ok (.iload 6, 2) := by decide +kernel
theorem dX12_gasOf_22 : decode cX12_gasOf 22 = .ok (.aload_n 0, 1) := by decide +kernel
theorem dX12_gasOf_23 : decode cX12_gasOf 23 = .ok (.getfield 7, 3) := by decide +kernel
theorem dX12_gasOf_26 : decode cX12_gasOf 26 = .ok (.iconst 3, 1) := by decide +kernel
theorem dX12_gasOf_27 : decode cX12_gasOf 27 = .ok (.iaload, 1) := by decide +kernel
theorem dX12_gasOf_28 : decode cX12_gasOf 28 = .ok (.if_icmp .ge 179, 3) := by decide +kernel
theorem dX12_gasOf_31 : decode cX12_gasOf 31 = .ok (.aload_n 0, 1) := by decide +kernel
theorem dX12_gasOf_32 : decode cX12_gasOf 32 = .ok (.iload 6, 2) := by decide +kernel
theorem dX12_gasOf_34 : decode cX12_gasOf 34 = .ok (.aload_n 0, 1) := by decide +kernel
theorem dX12_gasOf_35 : decode cX12_gasOf 35 = .ok (.getfield 7, 3) := by decide +kernel
theorem dX12_gasOf_38 : decode cX12_gasOf 38 = .ok (.iconst 0, 1) := by decide +kernel
theorem dX12_gasOf_39 : decode cX12_gasOf 39 = .ok (.iaload, 1) := by decide +kernel
theorem dX12_gasOf_40 : decode cX12_gasOf 40 = .ok (.invokevirtual 145, 3) := by decide +kernel
theorem dX12_gasOf_43 : decode cX12_gasOf 43 = .ok (.ifCond .ne 6, 3) := by decide +kernel
theorem dX12_gasOf_46 : decode cX12_gasOf 46 = .ok (.goto 155, 3) := by decide +kernel
theorem dX12_gasOf_49 : decode cX12_gasOf 49 = .ok (.iconst 0, 1) := by decide +kernel
theorem dX12_gasOf_50 : decode cX12_gasOf 50 = .ok (.istore 7, 2) := by decide +kernel
theorem dX12_gasOf_52 : decode cX12_gasOf 52 = .ok (.iconst 0, 1) := by decide +kernel
theorem dX12_gasOf_53 : decode cX12_gasOf 53 = .ok (.istore 8, 2) := by decide +kernel
theorem dX12_gasOf_55 : decode cX12_gasOf 55 = .ok (.iload 8, 2) := by decide +kernel
theorem dX12_gasOf_57 : decode cX12_gasOf 57 = .ok (.aload_n 0, 1) := by decide +kernel
theorem dX12_gasOf_58 : decode cX12_gasOf 58 = .ok (.getfield 86, 3) := by decide +kernel
theorem dX12_gasOf_61 : decode cX12_gasOf 61 = .ok (.aload_n 0, 1) := by decide +kernel
theorem dX12_gasOf_62 : decode cX12_gasOf 62 = .ok (.getfield 89, 3) := by decide +kernel
theorem dX12_gasOf_65 : decode cX12_gasOf 65 = .ok (.imul, 1) := by decide +kernel
theorem dX12_gasOf_66 : decode cX12_gasOf 66 = .ok (.if_icmp .ge 86, 3) := by decide +kernel
theorem dX12_gasOf_69 : decode cX12_gasOf 69 = .ok (.iload 8, 2) := by decide +kernel
theorem dX12_gasOf_71 : decode cX12_gasOf 71 = .ok (.aload_n 0, 1) := by decide +kernel
theorem dX12_gasOf_72 : decode cX12_gasOf 72 = .ok (.getfield 86, 3) := by decide +kernel
theorem dX12_gasOf_75 : decode cX12_gasOf 75 = .ok (.irem, 1) := by decide +kernel
theorem dX12_gasOf_76 : decode cX12_gasOf 76 = .ok (.iload 5, 2) := by decide +kernel
theorem dX12_gasOf_78 : decode cX12_gasOf 78 = .ok (.aload_n 0, 1) := by decide +kernel
theorem dX12_gasOf_79 : decode cX12_gasOf 79 = .ok (.getfield 86, 3) := by decide +kernel
theorem dX12_gasOf_82 : decode cX12_gasOf 82 = .ok (.irem, 1) := by decide +kernel
theorem dX12_gasOf_83 : decode cX12_gasOf 83 = .ok (.isub, 1) := by decide +kernel
theorem dX12_gasOf_84 : decode cX12_gasOf 84 = .ok (.invokestatic 159, 3) := by decide +kernel
theorem dX12_gasOf_87 : decode cX12_gasOf 87 = .ok (.iload 8, 2) := by decide +kernel
theorem dX12_gasOf_89 : decode cX12_gasOf 89 = .ok (.aload_n 0, 1) := by decide +kernel
theorem dX12_gasOf_90 : decode cX12_gasOf 90 = .ok (.getfield 86, 3) := by decide +kernel
theorem dX12_gasOf_93 : decode cX12_gasOf 93 = .ok (.idiv, 1) := by decide +kernel
theorem dX12_gasOf_94 : decode cX12_gasOf 94 = .ok (.iload 5, 2) := by decide +kernel
theorem dX12_gasOf_96 : decode cX12_gasOf 96 = .ok (.aload_n 0, 1) := by decide +kernel
theorem dX12_gasOf_97 : decode cX12_gasOf 97 = .ok (.getfield 86, 3) := by decide +kernel
theorem dX12_gasOf_100 : decode cX12_gasOf 100 = .ok (.idiv, 1) := by decide +kernel
theorem dX12_gasOf_101 : decode cX12_gasOf 101 = .ok (.isub, 1) := by decide +kernel
theorem dX12_gasOf_102 : decode cX12_gasOf 102 = .ok (.invokestatic 159, 3) := by decide +kernel
theorem dX12_gasOf_105 : decode cX12_gasOf 105 = .ok (.iadd, 1) := by decide +kernel
theorem dX12_gasOf_106 : decode cX12_gasOf 106 = .ok (.istore 9, 2) := by decide +kernel
theorem dX12_gasOf_108 : decode cX12_gasOf 108 = .ok (.iload 9, 2) := by decide +kernel
theorem dX12_gasOf_110 : decode cX12_gasOf 110 = .ok (.iconst 4, 1) := by decide +kernel
theorem dX12_gasOf_111 : decode cX12_gasOf 111 = .ok (.if_icmp .ge 35, 3) := by decide +kernel
theorem dX12_gasOf_114 : decode cX12_gasOf 114 = .ok (.aload_n 0, 1) := by decide +kernel
theorem dX12_gasOf_115 : decode cX12_gasOf 115 = .ok (.getfield 48, 3) := by decide +kernel
theorem dX12_gasOf_118 : decode cX12_gasOf 118 = .ok (.sipush 6400, 3) := by decide +kernel
theorem dX12_gasOf_121 : decode cX12_gasOf 121 = .ok (.iload 6, 2) := by decide +kernel
theorem dX12_gasOf_123 : decode cX12_gasOf 123 = .ok (.imul, 1) := by decide +kernel
theorem dX12_gasOf_124 : decode cX12_gasOf 124 = .ok (.bipush 64, 2) := by decide +kernel
theorem dX12_gasOf_126 : decode cX12_gasOf 126 = .ok (.iload_n 2, 1) := by decide +kernel
theorem dX12_gasOf_127 : decode cX12_gasOf 127 = .ok (.imul, 1) := by decide +kernel
theorem dX12_gasOf_128 : decode cX12_gasOf 128 = .ok (.iadd, 1) := by decide +kernel
theorem dX12_gasOf_129 : decode cX12_gasOf 129 = .ok (.iload 8, 2) := by decide +kernel
theorem dX12_gasOf_131 : decode cX12_gasOf 131 = .ok (.iadd, 1) := by decide +kernel
theorem dX12_gasOf_132 : decode cX12_gasOf 132 = .ok (.iaload, 1) := by decide +kernel
theorem dX12_gasOf_133 : decode cX12_gasOf 133 = .ok (.iconst 1, 1) := by decide +kernel
theorem dX12_gasOf_134 : decode cX12_gasOf 134 = .ok (.if_icmp .ne 12, 3) := by decide +kernel
theorem dX12_gasOf_137 : decode cX12_gasOf 137 = .ok (.iload 7, 2) := by decide +kernel
theorem dX12_gasOf_139 : decode cX12_gasOf 139 = .ok (.iconst 4, 1) := by decide +kernel
theorem dX12_gasOf_140 : decode cX12_gasOf 140 = .ok (.iload 9, 2) := by decide +kernel
theorem dX12_gasOf_142 : decode cX12_gasOf 142 = .ok (.isub, 1) := by decide +kernel
theorem dX12_gasOf_143 : decode cX12_gasOf 143 = .ok (.iadd, 1) := by decide +kernel
theorem dX12_gasOf_144 : decode cX12_gasOf 144 = .ok (.istore 7, 2) := by decide +kernel
theorem dX12_gasOf_146 : decode cX12_gasOf 146 = .ok (.iinc 8 1, 3) := by decide +kernel
theorem dX12_gasOf_149 : decode cX12_gasOf 149 = .ok (.goto (-94), 3) := by decide +kernel
theorem dX12_gasOf_152 : decode cX12_gasOf 152 = .ok (.iload 7, 2) := by decide +kernel
theorem dX12_gasOf_154 : decode cX12_gasOf 154 = .ok (.aload_n 0, 1) := by decide +kernel
theorem dX12_gasOf_155 : decode cX12_gasOf 155 = .ok (.getfield 7, 3) := by decide +kernel
theorem dX12_gasOf_158 : decode cX12_gasOf 158 = .ok (.sipush 1080, 3) := by decide +kernel
theorem dX12_gasOf_161 : decode cX12_gasOf 161 = .ok (.iconst 5, 1) := by decide +kernel
theorem dX12_gasOf_162 : decode cX12_gasOf 162 = .ok (.iload_n 1, 1) := by decide +kernel
theorem dX12_gasOf_163 : decode cX12_gasOf 163 = .ok (.imul, 1) := by decide +kernel
theorem dX12_gasOf_164 : decode cX12_gasOf 164 = .ok (.iadd, 1) := by decide +kernel
theorem dX12_gasOf_165 : decode cX12_gasOf 165 = .ok (.iconst 1, 1) := by decide +kernel
theorem dX12_gasOf_166 : decode cX12_gasOf 166 = .ok (.iadd, 1) := by decide +kernel
theorem dX12_gasOf_167 : decode cX12_gasOf 167 = .ok (.iaload, 1) := by decide +kernel
theorem dX12_gasOf_168 : decode cX12_gasOf 168 = .ok (.imul, 1) := by decide +kernel
theorem dX12_gasOf_169 : decode cX12_gasOf 169 = .ok (.istore 7, 2) := by decide +kernel
theorem dX12_gasOf_171 : decode cX12_gasOf 171 = .ok (.iload 4, 2) := by decide +kernel
theorem dX12_gasOf_173 : decode cX12_gasOf 173 = .ok (.ifCond .lt 24, 3) := by decide +kernel
theorem dX12_gasOf_176 : decode cX12_gasOf 176 = .ok (.iload_n 3, 1) := by decide +kernel
theorem dX12_gasOf_177 : decode cX12_gasOf 177 = .ok (.ifCond .eq 13, 3) := by decide +kernel
theorem dX12_gasOf_180 : decode cX12_gasOf 180 = .ok (.iload 7, 2) := by decide +kernel
theorem dX12_gasOf_182 : decode cX12_gasOf 182 = .ok (.iload 4, 2) := by decide +kernel
theorem dX12_gasOf_184 : decode cX12_gasOf 184 = .ok (.if_icmp .le 17, 3) := by decide +kernel
theorem dX12_gasOf_187 : decode cX12_gasOf 187 = .ok (.goto 10, 3) := by decide +kernel
theorem dX12_gasOf_190 : decode cX12_gasOf 190 = .ok (.iload 7, 2) := by decide +kernel
theorem dX12_gasOf_192 : decode cX12_gasOf 192 = .ok (.iload 4, 2) := by decide +kernel
theorem dX12_gasOf_194 : decode cX12_gasOf 194 = .ok (.if_icmp .ge 7, 3) := by decide +kernel
theorem dX12_gasOf_197 : decode cX12_gasOf 197 = .ok (.iload 7, 2) := by decide +kernel
theorem dX12_gasOf_199 : decode cX12_gasOf 199 = .ok (.istore 4, 2) := by decide +kernel
theorem dX12_gasOf_201 : decode cX12_gasOf 201 = .ok (.iinc 6 1, 3) := by decide +kernel
theorem dX12_gasOf_204 : decode cX12_gasOf 204 = .ok (.goto (-184), 3) := by decide +kernel
theorem dX12_gasOf_207 : decode cX12_gasOf 207 = .ok (.iload 4, 2) := by decide +kernel
theorem dX12_gasOf_209 : decode cX12_gasOf 209 = .ok (.ifCond .ge 7, 3) := by decide +kernel
theorem dX12_gasOf_212 : decode cX12_gasOf 212 = .ok (.iconst 0, 1) := by decide +kernel
theorem dX12_gasOf_213 : decode cX12_gasOf 213 = .ok (.goto 5, 3) := by decide +kernel
theorem dX12_gasOf_216 : decode cX12_gasOf 216 = .ok (.iload 4, 2) := by decide +kernel
theorem dX12_gasOf_218 : decode cX12_gasOf 218 = .ok (.ireturn, 1) := by decide +kernel
theorem dX12_gas_0 : decode cX12_gas 0 = .ok (.aload_n 0, 1) := by decide +kernel
theorem dX12_gas_1 : decode cX12_gas 1 = .ok (.iload_n 1, 1) := by decide +kernel
theorem dX12_gas_2 : decode cX12_gas 2 = .ok (.invokevirtual 162, 3) := by decide +kernel
theorem dX12_gas_5 : decode cX12_gas 5 = .ok (.ifCond .eq 10, 3) := by decide +kernel
theorem dX12_gas_8 : decode cX12_gas 8 = .ok (.iload_n 2, 1) := by decide +kernel
theorem dX12_gas_9 : decode cX12_gas 9 = .ok (.invokestatic 115, 3) := by decide +kernel
theorem dX12_gas_12 : decode cX12_gas 12 = .ok (.ifCond .ne 5, 3) := by decide +kernel
theorem dX12_gas_15 : decode cX12_gas 15 = .ok (.iconst (-1), 1) := by decide +kernel
theorem dX12_gas_16 : decode cX12_gas 16 = .ok (.ireturn, 1) := by decide +kernel
theorem dX12_gas_17 : decode cX12_gas 17 = .ok (.aload_n 0, 1) := by decide +kernel
theorem dX12_gas_18 : decode cX12_gas 18 = .ok (.invokevirtual 149, 3) := by decide +kernel
theorem dX12_gas_21 : decode cX12_gas 21 = .ok (.aload_n 0, 1) := by decide +kernel
theorem dX12_gas_22 : decode cX12_gas 22 = .ok (.iload_n 1, 1) := by decide +kernel
theorem dX12_gas_23 : decode cX12_gas 23 = .ok (.iload_n 2, 1) := by decide +kernel
theorem dX12_gas_24 : decode cX12_gas 24 = .ok (.iload_n 3, 1) := by decide +kernel
theorem dX12_gas_25 : decode cX12_gas 25 = .ok (.invokevirtual 165, 3) := by decide +kernel
theorem dX12_gas_28 : decode cX12_gas 28 = .ok (.ireturn, 1) := by decide +kernel
theorem dX12_person_0 : decode cX12_person 0 = .ok (.aload_n 0, 1) := by decide +kernel
theorem dX12_person_1 : decode cX12_person 1 = .ok (.iload_n 1, 1) := by decide +kernel
theorem dX12_person_2 : decode cX12_person 2 = .ok (.invokevirtual 162, 3) := by decide +kernel
theorem dX12_person_5 : decode cX12_person 5 = .ok (.ifCond .eq 36, 3) := by decide +kernel
theorem dX12_person_8 : decode cX12_person 8 = .ok (.iload_n 2, 1) := by decide +kernel
theorem dX12_person_9 : decode cX12_person 9 = .ok (.iconst 0, 1) := by decide +kernel
theorem dX12_person_10 : decode cX12_person 10 = .ok (.bipush 9, 2) := by decide +kernel
theorem dX12_person_12 : decode cX12_person 12 = .ok (.invokestatic 96, 3) := by decide +kernel
theorem dX12_person_15 : decode cX12_person 15 = .ok (.ifCond .eq 26, 3) := by decide +kernel
theorem dX12_person_18 : decode cX12_person 18 = .ok (.iload_n 3, 1) := by decide +kernel
theorem dX12_person_19 : decode cX12_person 19 = .ok (.iconst 0, 1) := by decide +kernel
theorem dX12_person_20 : decode cX12_person 20 = .ok (.sipush 9999, 3) := by decide +kernel
theorem dX12_person_23 : decode cX12_person 23 = .ok (.invokestatic 96, 3) := by decide +kernel
theorem dX12_person_26 : decode cX12_person 26 = .ok (.ifCond .eq 15, 3) := by decide +kernel
theorem dX12_person_29 : decode cX12_person 29 = .ok (.aload_n 0, 1) := by decide +kernel
theorem dX12_person_30 : decode cX12_person 30 = .ok (.getfield 7, 3) := by decide +kernel
theorem dX12_person_33 : decode cX12_person 33 = .ok (.bipush 6, 2) := by decide +kernel
theorem dX12_person_35 : decode cX12_person 35 = .ok (.iaload, 1) := by decide +kernel
theorem dX12_person_36 : decode cX12_person 36 = .ok (.bipush 60, 2) := by decide +kernel
theorem dX12_person_38 : decode cX12_person 38 = .ok (.if_icmp .ne 5, 3) := by decide +kernel
theorem dX12_person_41 : decode cX12_person 41 = .ok (.iconst (-1), 1) := by decide +kernel
theorem dX12_person_42 : decode cX12_person 42 = .ok (.ireturn, 1) := by decide +kernel
theorem dX12_person_43 : decode cX12_person 43 = .ok (.sipush 1200, 3) := by decide +kernel
theorem dX12_person_46 : decode cX12_person 46 = .ok (.iconst 5, 1) := by decide +kernel
theorem dX12_person_47 : decode cX12_person 47 = .ok (.aload_n 0, 1) := by decide +kernel
theorem dX12_person_48 : decode cX12_person 48 = .ok (.getfield 7, 3) := by decide +kernel
theorem dX12_person_51 : decode cX12_person 51 = .ok (.bipush 6, 2) := by decide +kernel
theorem dX12_person_53 : decode cX12_person 53 = .ok (.iaload, 1) := by decide +kernel
theorem dX12_person_54 : decode cX12_person 54 = .ok (.imul, 1) := by decide +kernel
theorem dX12_person_55 : decode cX12_person 55 = .ok (.iadd, 1) := by decide +kernel
theorem dX12_person_56 : decode cX12_person 56 = .ok (.istore 4, 2) := by decide +kernel
theorem dX12_person_58 : decode cX12_person 58 = .ok (.aload_n 0, 1) := by decide +kernel
theorem dX12_person_59 : decode cX12_person 59 = .ok (.getfield 7, 3) := by decide +kernel
theorem dX12_person_62 : decode cX12_person 62 = .ok (.iload 4, 2) := by decide +kernel
theorem dX12_person_64 : decode cX12_person 64 = .ok (.iload_n 1, 1) := by decide +kernel
theorem dX12_person_65 : decode cX12_person 65 = .ok (.iastore, 1) := by decide +kernel
theorem dX12_person_66 : decode cX12_person 66 = .ok (.aload_n 0, 1) := by decide +kernel
theorem dX12_person_67 : decode cX12_person 67 = .ok (.getfield 7, 3) := by decide +kernel
theorem dX12_person_70 : decode cX12_person 70 = .ok (.iload 4, 2) := by decide +kernel
theorem dX12_person_72 : decode cX12_person 72 = .ok (.iconst 1, 1) := by decide +kernel
theorem dX12_person_73 : decode cX12_person 73 = .ok (.iadd, 1) := by decide +kernel
theorem dX12_person_74 : decode cX12_person 74 = .ok (.iload_n 2, 1) := by decide +kernel
theorem dX12_person_75 : decode cX12_person 75 = .ok (.iastore, 1) := by decide +kernel
theorem dX12_person_76 : decode cX12_person 76 = .ok (.aload_n 0, 1) := by decide +kernel
theorem dX12_person_77 : decode cX12_person 77 = .ok (.getfield 7, 3) := by decide +kernel
theorem dX12_person_80 : decode cX12_person 80 = .ok (.iload 4, 2) := by decide +kernel
theorem dX12_person_82 : decode cX12_person 82 = .ok (.iconst 2, 1) := by decide +kernel
theorem dX12_person_83 : decode cX12_person 83 = .ok (.iadd, 1) := by decide +kernel
theorem dX12_person_84 : decode cX12_person 84 = .ok (.iload_n 3, 1) := by decide +kernel
theorem dX12_person_85 : decode cX12_person 85 = .ok (.iastore, 1) := by decide +kernel
theorem dX12_person_86 : decode cX12_person 86 = .ok (.aload_n 0, 1) := by decide +kernel
theorem dX12_person_87 : decode cX12_person 87 = .ok (.getfield 7, 3) := by decide +kernel
theorem dX12_person_90 : decode cX12_person 90 = .ok (.iload 4, 2) := by decide +kernel
theorem dX12_person_92 : decode cX12_person 92 = .ok (.iconst 3, 1) := by decide +kernel
theorem dX12_person_93 : decode cX12_person 93 = .ok (.iadd, 1) := by decide +kernel
theorem dX12_person_94 : decode cX12_person 94 = .ok (.iconst 0, 1) := by decide +kernel
theorem dX12_person_95 : decode cX12_person 95 = .ok (.iastore, 1) := by decide +kernel
theorem dX12_person_96 : decode cX12_person 96 = .ok (.aload_n 0, 1) := by decide +kernel
theorem dX12_person_97 : decode cX12_person 97 = .ok (.getfield 7, 3) := by decide +kernel
theorem dX12_person_100 : decode cX12_person 100 = .ok (.iload 4, 2) := by decide +kernel
theorem dX12_person_102 : decode cX12_person 102 = .ok (.iconst 4, 1) := by decide +kernel
theorem dX12_person_103 : decode cX12_person 103 = .ok (.iadd, 1) := by decide +kernel
theorem dX12_person_104 : decode cX12_person 104 = .ok (.iconst (-1), 1) := by decide +kernel
theorem dX12_person_105 : decode cX12_person 105 = .ok (.iastore, 1) := by decide +kernel
theorem dX12_person_106 : decode cX12_person 106 = .ok (.aload_n 0, 1) := by decide +kernel
theorem dX12_person_107 : decode cX12_person 107 = .ok (.getfield 7, 3) := by decide +kernel
theorem dX12_person_110 : decode cX12_person 110 = .ok (.bipush 6, 2) := by decide +kernel
theorem dX12_person_112 : decode cX12_person 112 = .ok (.dup2, 1) := by decide +kernel
theorem dX12_person_113 : decode cX12_person 113 = .ok (.iaload, 1) := by decide +kernel
theorem dX12_person_114 : decode cX12_person 114 = .ok (.iconst 1, 1) := by decide +kernel
theorem dX12_person_115 : decode cX12_person 115 = .ok (.iadd, 1) := by decide +kernel
theorem dX12_person_116 : decode cX12_person 116 = .ok (.iastore, 1) := by decide +kernel
theorem dX12_person_117 : decode cX12_person 117 = .ok (.aload_n 0, 1) := by decide +kernel
theorem dX12_person_118 : decode cX12_person 118 = .ok (.getfield 7, 3) := by decide +kernel
theorem dX12_person_121 : decode cX12_person 121 = .ok (.bipush 6, 2) := by decide +kernel
theorem dX12_person_123 : decode cX12_person 123 = .ok (.iaload, 1) := by decide +kernel
theorem dX12_person_124 : decode cX12_person 124 = .ok (.iconst 1, 1) := by decide +kernel
theorem dX12_person_125 : decode cX12_person 125 = .ok (.isub, 1) := by decide +kernel
theorem dX12_person_126 : decode cX12_person 126 = .ok (.ireturn, 1) := by decide +kernel
theorem dX12_isPerson_0 : decode cX12_isPerson 0 = .ok (.iload_n 1, 1) := by decide +kernel
theorem dX12_isPerson_1 : decode cX12_isPerson 1 = .ok (.iconst 0, 1) := by decide +kernel
theorem dX12_isPerson_2 : decode cX12_isPerson 2 = .ok (.aload_n 0, 1) := by decide +kernel
theorem dX12_isPerson_3 : decode cX12_isPerson 3 = .ok (.getfield 7, 3) := by decide +kernel
theorem dX12_isPerson_6 : decode cX12_isPerson 6 = .ok (.bipush 6, 2) := by decide +kernel
theorem dX12_isPerson_8 : decode cX12_isPerson 8 = .ok (.iaload, 1) := by decide +kernel
theorem dX12_isPerson_9 : decode cX12_isPerson 9 = .ok (.iconst 1, 1) := by decide +kernel
theorem dX12_isPerson_10 : decode cX12_isPerson 10 = .ok (.isub, 1) := by decide +kernel
theorem dX12_isPerson_11 : decode cX12_isPerson 11 = .ok (.invokestatic 96, 3) := by decide +kernel
theorem dX12_isPerson_14 : decode cX12_isPerson 14 = .ok (.ireturn, 1) := by decide +kernel
theorem dX12_hears_0 : decode cX12_hears 0 = .ok (.aload_n 0, 1) := by decide +kernel
theorem dX12_hears_1 : decode cX12_hears 1 = .ok (.iload_n 1, 1) := by decide +kernel
theorem dX12_hears_2 : decode cX12_hears 2 = .ok (.invokevirtual 169, 3) := by decide +kernel
theorem dX12_hears_5 : decode cX12_hears 5 = .ok (.ifCond .eq 13, 3) := by decide +kernel
theorem dX12_hears_8 : decode cX12_hears 8 = .ok (.iload_n 2, 1) := by decide +kernel
theorem dX12_hears_9 : decode cX12_hears 9 = .ok (.iconst 0, 1) := by decide +kernel
theorem dX12_hears_10 : decode cX12_hears 10 = .ok (.bipush 9, 2) := by decide +kernel
theorem dX12_hears_12 : decode cX12_hears 12 = .ok (.invokestatic 96, 3) := by decide +kernel
theorem dX12_hears_15 : decode cX12_hears 15 = .ok (.ifCond .ne 5, 3) := by decide +kernel
theorem dX12_hears_18 : decode cX12_hears 18 = .ok (.iconst 0, 1) := by decide +kernel
theorem dX12_hears_19 : decode cX12_hears 19 = .ok (.ireturn, 1) := by decide +kernel
theorem dX12_hears_20 : decode cX12_hears 20 = .ok (.aload_n 0, 1) := by decide +kernel
theorem dX12_hears_21 : decode cX12_hears 21 = .ok (.getfield 7, 3) := by decide +kernel
theorem dX12_hears_24 : decode cX12_hears 24 = .ok (.sipush 1200, 3) := by decide +kernel
theorem dX12_hears_27 : decode cX12_hears 27 = .ok (.iconst 5, 1) := by decide +kernel
theorem dX12_hears_28 : decode cX12_hears 28 = .ok (.iload_n 1, 1) := by decide +kernel
theorem dX12_hears_29 : decode cX12_hears 29 = .ok (.imul, 1) := by decide +kernel
theorem dX12_hears_30 : decode cX12_hears 30 = .ok (.iadd, 1) := by decide +kernel
theorem dX12_hears_31 : decode cX12_hears 31 = .ok (.iconst 3, 1) := by decide +kernel
theorem dX12_hears_32 : decode cX12_hears 32 = .ok (.iadd, 1) := by decide +kernel
theorem dX12_hears_33 : decode cX12_hears 33 = .ok (.iload_n 2, 1) := by decide +kernel
theorem dX12_hears_34 : decode cX12_hears 34 = .ok (.iastore, 1) := by decide +kernel
theorem dX12_hears_35 : decode cX12_hears 35 = .ok (.iconst 1, 1) := by decide +kernel
theorem dX12_hears_36 : decode cX12_hears 36 = .ok (.ireturn, 1) := by decide +kernel
theorem dX12_offer_0 : decode cX12_offer 0 = .ok (.aload_n 0, 1) := by decide +kernel
theorem dX12_offer_1 : decode cX12_offer 1 = .ok (.iload_n 1, 1) := by decide +kernel
theorem dX12_offer_2 : decode cX12_offer 2 = .ok (.invokevirtual 162, 3) := by decide +kernel
theorem dX12_offer_5 : decode cX12_offer 5 = .ok (.ifCond .eq 31, 3) := by decide +kernel
theorem dX12_offer_8 : decode cX12_offer 8 = .ok (.iload_n 2, 1) := by decide +kernel
theorem dX12_offer_9 : decode cX12_offer 9 = .ok (.iconst 0, 1) := by decide +kernel
theorem dX12_offer_10 : decode cX12_offer 10 = .ok (.sipush 9999, 3) := by decide +kernel
theorem dX12_offer_13 : decode cX12_offer 13 = .ok (.invokestatic 96, 3) := by decide +kernel
theorem dX12_offer_16 : decode cX12_offer 16 = .ok (.ifCond .eq 20, 3) := by decide +kernel
theorem dX12_offer_19 : decode cX12_offer 19 = .ok (.iload_n 3, 1) := by decide +kernel
theorem dX12_offer_20 : decode cX12_offer 20 = .ok (.invokestatic 115, 3) := by decide +kernel
theorem dX12_offer_23 : decode cX12_offer 23 = .ok (.ifCond .eq 13, 3) := by decide +kernel
theorem dX12_offer_26 : decode cX12_offer 26 = .ok (.iload_n 3, 1) := by decide +kernel
theorem dX12_offer_27 : decode cX12_offer 27 = .ok (.aload_n 0, 1) := by decide +kernel
theorem dX12_offer_28 : decode cX12_offer 28 = .ok (.getfield 7, 3) := by decide +kernel
theorem dX12_offer_31 : decode cX12_offer 31 = .ok (.iconst 0, 1) := by decide +kernel
theorem dX12_offer_32 : decode cX12_offer 32 = .ok (.iaload, 1) := by decide +kernel
theorem dX12_offer_33 : decode cX12_offer 33 = .ok (.if_icmp .ge 5, 3) := by decide +kernel
theorem dX12_offer_36 : decode cX12_offer 36 = .ok (.iconst 0, 1) := by decide +kernel
theorem dX12_offer_37 : decode cX12_offer 37 = .ok (.ireturn, 1) := by decide +kernel
theorem dX12_offer_38 : decode cX12_offer 38 = .ok (.aload_n 0, 1) := by decide +kernel
theorem dX12_offer_39 : decode cX12_offer 39 = .ok (.getfield 7, 3) := by decide +kernel
theorem dX12_offer_42 : decode cX12_offer 42 = .ok (.sipush 1080, 3) := by decide +kernel
theorem dX12_offer_45 : decode cX12_offer 45 = .ok (.iconst 5, 1) := by decide +kernel
theorem dX12_offer_46 : decode cX12_offer 46 = .ok (.iload_n 1, 1) := by decide +kernel
theorem dX12_offer_47 : decode cX12_offer 47 = .ok (.imul, 1) := by decide +kernel
theorem dX12_offer_48 : decode cX12_offer 48 = .ok (.iadd, 1) := by decide +kernel
theorem dX12_offer_49 : decode cX12_offer 49 = .ok (.iconst 3, 1) := by decide +kernel
theorem dX12_offer_50 : decode cX12_offer 50 = .ok (.iadd, 1) := by decide +kernel
theorem dX12_offer_51 : decode cX12_offer 51 = .ok (.iload_n 2, 1) := by decide +kernel
theorem dX12_offer_52 : decode cX12_offer 52 = .ok (.iastore, 1) := by decide +kernel
theorem dX12_offer_53 : decode cX12_offer 53 = .ok (.aload_n 0, 1) := by decide +kernel
theorem dX12_offer_54 : decode cX12_offer 54 = .ok (.getfield 7, 3) := by decide +kernel
theorem dX12_offer_57 : decode cX12_offer 57 = .ok (.sipush 1080, 3) := by decide +kernel
theorem dX12_offer_60 : decode cX12_offer 60 = .ok (.iconst 5, 1) := by decide +kernel
theorem dX12_offer_61 : decode cX12_offer 61 = .ok (.iload_n 1, 1) := by decide +kernel
theorem dX12_offer_62 : decode cX12_offer 62 = .ok (.imul, 1) := by decide +kernel
theorem dX12_offer_63 : decode cX12_offer 63 = .ok (.iadd, 1) := by decide +kernel
theorem dX12_offer_64 : decode cX12_offer 64 = .ok (.iconst 4, 1) := by decide +kernel
theorem dX12_offer_65 : decode cX12_offer 65 = .ok (.iadd, 1) := by decide +kernel
theorem dX12_offer_66 : decode cX12_offer 66 = .ok (.iload_n 3, 1) := by decide +kernel
theorem dX12_offer_67 : decode cX12_offer 67 = .ok (.iastore, 1) := by decide +kernel
theorem dX12_offer_68 : decode cX12_offer 68 = .ok (.iconst 1, 1) := by decide +kernel
theorem dX12_offer_69 : decode cX12_offer 69 = .ok (.ireturn, 1) := by decide +kernel
theorem dX12_pull_0 : decode cX12_pull 0 = .ok (.iload_n 1, 1) := by decide +kernel
theorem dX12_pull_1 : decode cX12_pull 1 = .ok (.iconst 0, 1) := by decide +kernel
theorem dX12_pull_2 : decode cX12_pull 2 = .ok (.sipush 999, 3) := by decide +kernel
theorem dX12_pull_5 : decode cX12_pull 5 = .ok (.invokestatic 96, 3) := by decide +kernel
theorem dX12_pull_8 : decode cX12_pull 8 = .ok (.ifCond .ne 5, 3) := by decide +kernel
theorem dX12_pull_11 : decode cX12_pull 11 = .ok (.iconst 0, 1) := by decide +kernel
theorem dX12_pull_12 : decode cX12_pull 12 = .ok (.ireturn, 1) := by decide +kernel
theorem dX12_pull_13 : decode cX12_pull 13 = .ok (.aload_n 0, 1) := by decide +kernel
theorem dX12_pull_14 : decode cX12_pull 14 = .ok (.getfield 7, 3) := by decide +kernel
theorem dX12_pull_17 : decode cX12_pull 17 = .ok (.bipush 14, 2) := by decide +kernel
theorem dX12_pull_19 : decode cX12_pull 19 = .ok (.iload_n 1, 1) := by decide +kernel
theorem dX12_pull_20 : decode cX12_pull 20 = .ok (.iastore, 1) := by decide +kernel
