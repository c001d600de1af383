theorem dL_cell_0 : decode cL_cell 0 = .ok (.iload_n 1, 1) := by decide +kernel
theorem dL_cell_1 : decode cL_cell 1 = .ok (.aload_n 0, 1) := by decide +kernel
theorem dL_cell_2 : decode cL_cell 2 = .ok (.arraylength, 1) := by decide +kernel
theorem dL_cell_3 : decode cL_cell 3 = .ok (.if_icmp .ge 9, 3) := by decide +kernel
theorem dL_cell_6 : decode cL_cell 6 = .ok (.aload_n 0, 1) := by decide +kernel
theorem dL_cell_7 : decode cL_cell 7 = .ok (.iload_n 1, 1) := by decide +kernel
theorem dL_cell_8 : decode cL_cell 8 = .ok (.iaload, 1) := by decide +kernel
theorem dL_cell_9 : decode cL_cell 9 = .ok (.goto 15, 3) := by decide +kernel
theorem dL_cell_12 : decode cL_cell 12 = .ok (.sipush 7919, 3) := by decide +kernel
theorem dL_cell_15 : decode cL_cell 15 = .ok (.iload_n 1, 1) := by decide +kernel
theorem dL_cell_16 : decode cL_cell 16 = .ok (.iconst 3, 1) := by decide +kernel
theorem dL_cell_17 : decode cL_cell 17 = .ok (.iadd, 1) := by decide +kernel
theorem dL_cell_18 : decode cL_cell 18 = .ok (.imul, 1) := by decide +kernel
theorem dL_cell_19 : decode cL_cell 19 = .ok (.iload_n 1, 1) := by decide +kernel
theorem dL_cell_20 : decode cL_cell 20 = .ok (.bipush 11, 2) := by decide +kernel
theorem dL_cell_22 : decode cL_cell 22 = .ok (.iadd, 1) := by decide +kernel
theorem dL_cell_23 : decode cL_cell 23 = .ok (.imul, 1) := by decide +kernel
theorem dL_cell_24 : decode cL_cell 24 = .ok (.ireturn, 1) := by decide +kernel
theorem dL_low_0 : decode cL_low 0 = .ok (.iload_n 0, 1) := by decide +kernel
theorem dL_low_1 : decode cL_low 1 = .ok (.ldc 7, 2) := by decide +kernel
theorem dL_low_3 : decode cL_low 3 = .ok (.iand, 1) := by decide +kernel
theorem dL_low_4 : decode cL_low 4 = .ok (.iload_n 1, 1) := by decide +kernel
theorem dL_low_5 : decode cL_low 5 = .ok (.irem, 1) := by decide +kernel
theorem dL_low_6 : decode cL_low 6 = .ok (.ireturn, 1) := by decide +kernel
theorem dL_much_0 : decode cL_much 0 = .ok (.iconst 1, 1) := by decide +kernel
theorem dL_much_1 : decode cL_much 1 = .ok (.iload_n 0, 1) := by decide +kernel
theorem dL_much_2 : decode cL_much 2 = .ok (.iload_n 0, 1) := by decide +kernel
theorem dL_much_3 : decode cL_much 3 = .ok (.iconst 1, 1) := by decide +kernel
theorem dL_much_4 : decode cL_much 4 = .ok (.iand, 1) := by decide +kernel
theorem dL_much_5 : decode cL_much 5 = .ok (.ifCond .ne 9, 3) := by decide +kernel
theorem dL_much_8 : decode cL_much 8 = .ok (.sipush 300, 3) := by decide +kernel
theorem dL_much_11 : decode cL_much 11 = .ok (.goto 6, 3) := by decide +kernel
theorem dL_much_14 : decode cL_much 14 = .ok (.sipush 9999, 3) := by decide +kernel
theorem dL_much_17 : decode cL_much 17 = .ok (.invokestatic 8, 3) := by decide +kernel
theorem dL_much_20 : decode cL_much 20 = .ok (.iadd, 1) := by decide +kernel
theorem dL_much_21 : decode cL_much 21 = .ok (.ireturn, 1) := by decide +kernel
theorem dL_does_0 : decode cL_does 0 = .ok (.iload_n 1, 1) := by decide +kernel
theorem dL_does_1 : decode cL_does 1 = .ok (.iconst 4, 1) := by decide +kernel
theorem dL_does_2 : decode cL_does 2 = .ok (.ishr, 1) := by decide +kernel
theorem dL_does_3 : decode cL_does 3 = .ok (.iconst 3, 1) := by decide +kernel
theorem dL_does_4 : decode cL_does 4 = .ok (.invokestatic 8, 3) := by decide +kernel
theorem dL_does_7 : decode cL_does 7 = .ok (.istore_n 3, 1) := by decide +kernel
theorem dL_does_8 : decode cL_does 8 = .ok (.iload_n 1, 1) := by decide +kernel
theorem dL_does_9 : decode cL_does 9 = .ok (.bipush 6, 2) := by decide +kernel
theorem dL_does_11 : decode cL_does 11 = .ok (.ishr, 1) := by decide +kernel
theorem dL_does_12 : decode cL_does 12 = .ok (.iconst 3, 1) := by decide +kernel
theorem dL_does_13 : decode cL_does 13 = .ok (.invokestatic 8, 3) := by decide +kernel
theorem dL_does_16 : decode cL_does 16 = .ok (.istore 4, 2) := by decide +kernel
theorem dL_does_18 : decode cL_does 18 = .ok (.aload_n 0, 1) := by decide +kernel
theorem dL_does_19 : decode cL_does 19 = .ok (.invokevirtual 14, 3) := by decide +kernel
theorem dL_does_22 : decode cL_does 22 = .ok (.istore 5, 2) := by decide +kernel
theorem dL_does_24 : decode cL_does 24 = .ok (.iload_n 1, 1) := by decide +kernel
theorem dL_does_25 : decode cL_does 25 = .ok (.bipush 15, 2) := by decide +kernel
theorem dL_does_27 : decode cL_does 27 = .ok (.iand, 1) := by decide +kernel
theorem dL_does_28 : decode cL_does 28 = .ok (.tableswitch 560 0 13 #[72, 121, 164, 213, 213, 213, 282, 326, 390, 390, 390, 397, 462, 514], 72) := by decide +kernel
theorem dL_does_100 : decode cL_does 100 = .ok (.aload_n 0, 1) := by decide +kernel
theorem dL_does_101 : decode cL_does 101 = .ok (.iload 4, 2) := by decide +kernel
theorem dL_does_103 : decode cL_does 103 = .ok (.iconst 1, 1) := by decide +kernel
theorem dL_does_104 : decode cL_does 104 = .ok (.iload_n 2, 1) := by decide +kernel
theorem dL_does_105 : decode cL_does 105 = .ok (.sipush 300, 3) := by decide +kernel
theorem dL_does_108 : decode cL_does 108 = .ok (.invokestatic 8, 3) := by decide +kernel
theorem dL_does_111 : decode cL_does 111 = .ok (.iadd, 1) := by decide +kernel
theorem dL_does_112 : decode cL_does 112 = .ok (.invokevirtual 20, 3) := by decide +kernel
theorem dL_does_115 : decode cL_does 115 = .ok (.aload_n 0, 1) := by decide +kernel
theorem dL_does_116 : decode cL_does 116 = .ok (.invokevirtual 14, 3) := by decide +kernel
theorem dL_does_119 : decode cL_does 119 = .ok (.iload 5, 2) := by decide +kernel
theorem dL_does_121 : decode cL_does 121 = .ok (.isub, 1) := by decide +kernel
theorem dL_does_122 : decode cL_does 122 = .ok (.if_icmp .ne 25, 3) := by decide +kernel
theorem dL_does_125 : decode cL_does 125 = .ok (.aload_n 0, 1) := by decide +kernel
theorem dL_does_126 : decode cL_does 126 = .ok (.iload 4, 2) := by decide +kernel
theorem dL_does_128 : decode cL_does 128 = .ok (.invokevirtual 23, 3) := by decide +kernel
theorem dL_does_131 : decode cL_does 131 = .ok (.iconst 1, 1) := by decide +kernel
theorem dL_does_132 : decode cL_does 132 = .ok (.iload_n 2, 1) := by decide +kernel
theorem dL_does_133 : decode cL_does 133 = .ok (.sipush 300, 3) := by decide +kernel
theorem dL_does_136 : decode cL_does 136 = .ok (.invokestatic 8, 3) := by decide +kernel
theorem dL_does_139 : decode cL_does 139 = .ok (.iadd, 1) := by decide +kernel
theorem dL_does_140 : decode cL_does 140 = .ok (.if_icmp .ne 7, 3) := by decide +kernel
theorem dL_does_143 : decode cL_does 143 = .ok (.iconst 1, 1) := by decide +kernel
theorem dL_does_144 : decode cL_does 144 = .ok (.goto 4, 3) := by decide +kernel
theorem dL_does_147 : decode cL_does 147 = .ok (.iconst 0, 1) := by decide +kernel
theorem dL_does_148 : decode cL_does 148 = .ok (.ireturn, 1) := by decide +kernel
theorem dL_does_149 : decode cL_does 149 = .ok (.aload_n 0, 1) := by decide +kernel
theorem dL_does_150 : decode cL_does 150 = .ok (.iload 4, 2) := by decide +kernel
theorem dL_does_152 : decode cL_does 152 = .ok (.iload_n 2, 1) := by decide +kernel
theorem dL_does_153 : decode cL_does 153 = .ok (.bipush 91, 2) := by decide +kernel
theorem dL_does_155 : decode cL_does 155 = .ok (.invokestatic 8, 3) := by decide +kernel
theorem dL_does_158 : decode cL_does 158 = .ok (.invokevirtual 27, 3) := by decide +kernel
theorem dL_does_161 : decode cL_does 161 = .ok (.aload_n 0, 1) := by decide +kernel
theorem dL_does_162 : decode cL_does 162 = .ok (.invokevirtual 14, 3) := by decide +kernel
theorem dL_does_165 : decode cL_does 165 = .ok (.iload 5, 2) := by decide +kernel
theorem dL_does_167 : decode cL_does 167 = .ok (.isub, 1) := by decide +kernel
theorem dL_does_168 : decode cL_does 168 = .ok (.if_icmp .ne 22, 3) := by decide +kernel
theorem dL_does_171 : decode cL_does 171 = .ok (.aload_n 0, 1) := by decide +kernel
theorem dL_does_172 : decode cL_does 172 = .ok (.iload 4, 2) := by decide +kernel
theorem dL_does_174 : decode cL_does 174 = .ok (.invokevirtual 30, 3) := by decide +kernel
theorem dL_does_177 : decode cL_does 177 = .ok (.iload_n 2, 1) := by decide +kernel
theorem dL_does_178 : decode cL_does 178 = .ok (.bipush 91, 2) := by decide +kernel
theorem dL_does_180 : decode cL_does 180 = .ok (.invokestatic 8, 3) := by decide +kernel
theorem dL_does_183 : decode cL_does 183 = .ok (.if_icmp .ne 7, 3) := by decide +kernel
theorem dL_does_186 : decode cL_does 186 = .ok (.iconst 1, 1) := by decide +kernel
theorem dL_does_187 : decode cL_does 187 = .ok (.goto 4, 3) := by decide +kernel
theorem dL_does_190 : decode cL_does 190 = .ok (.iconst 0, 1) := by decide +kernel
theorem dL_does_191 : decode cL_does 191 = .ok (.ireturn, 1) := by decide +kernel
theorem dL_does_192 : decode cL_does 192 = .ok (.iconst 1, 1) := by decide +kernel
theorem dL_does_193 : decode cL_does 193 = .ok (.iload_n 2, 1) := by decide +kernel
theorem dL_does_194 : decode cL_does 194 = .ok (.bipush 90, 2) := by decide +kernel
theorem dL_does_196 : decode cL_does 196 = .ok (.invokestatic 8, 3) := by decide +kernel
theorem dL_does_199 : decode cL_does 199 = .ok (.iadd, 1) := by decide +kernel
theorem dL_does_200 : decode cL_does 200 = .ok (.istore 6, 2) := by decide +kernel
theorem dL_does_202 : decode cL_does 202 = .ok (.aload_n 0, 1) := by decide +kernel
theorem dL_does_203 : decode cL_does 203 = .ok (.iload 6, 2) := by decide +kernel
theorem dL_does_205 : decode cL_does 205 = .ok (.invokevirtual 33, 3) := by decide +kernel
theorem dL_does_208 : decode cL_does 208 = .ok (.istore 7, 2) := by decide +kernel
theorem dL_does_210 : decode cL_does 210 = .ok (.aload_n 0, 1) := by decide +kernel
theorem dL_does_211 : decode cL_does 211 = .ok (.iload 6, 2) := by decide +kernel
theorem dL_does_213 : decode cL_does 213 = .ok (.invokevirtual 36, 3) := by decide +kernel
theorem dL_does_216 : decode cL_does 216 = .ok (.aload_n 0, 1) := by decide +kernel
theorem dL_does_217 : decode cL_does 217 = .ok (.invokevirtual 14, 3) := by decide +kernel
theorem dL_does_220 : decode cL_does 220 = .ok (.iload 5, 2) := by decide +kernel
theorem dL_does_222 : decode cL_does 222 = .ok (.isub, 1) := by decide +kernel
theorem dL_does_223 : decode cL_does 223 = .ok (.if_icmp .ne 16, 3) := by decide +kernel
theorem dL_does_226 : decode cL_does 226 = .ok (.aload_n 0, 1) := by decide +kernel
theorem dL_does_227 : decode cL_does 227 = .ok (.invokevirtual 39, 3) := by decide +kernel
theorem dL_does_230 : decode cL_does 230 = .ok (.iload 7, 2) := by decide +kernel
theorem dL_does_232 : decode cL_does 232 = .ok (.if_icmp .ne 7, 3) := by decide +kernel
theorem dL_does_235 : decode cL_does 235 = .ok (.iconst 1, 1) := by decide +kernel
theorem dL_does_236 : decode cL_does 236 = .ok (.goto 4, 3) := by decide +kernel
theorem dL_does_239 : decode cL_does 239 = .ok (.iconst 0, 1) := by decide +kernel
theorem dL_does_240 : decode cL_does 240 = .ok (.ireturn, 1) := by decide +kernel
theorem dL_does_241 : decode cL_does 241 = .ok (.iconst 1, 1) := by decide +kernel
theorem dL_does_242 : decode cL_does 242 = .ok (.iload_n 2, 1) := by decide +kernel
theorem dL_does_243 : decode cL_does 243 = .ok (.bipush 20, 2) := by decide +kernel
theorem dL_does_245 : decode cL_does 245 = .ok (.invokestatic 8, 3) := by decide +kernel
theorem dL_does_248 : decode cL_does 248 = .ok (.iadd, 1) := by decide +kernel
theorem dL_does_249 : decode cL_does 249 = .ok (.istore 8, 2) := by decide +kernel
theorem dL_does_251 : decode cL_does 251 = .ok (.aload_n 0, 1) := by decide +kernel
theorem dL_does_252 : decode cL_does 252 = .ok (.iload_n 3, 1) := by decide +kernel
theorem dL_does_253 : decode cL_does 253 = .ok (.iload 4, 2) := by decide +kernel
theorem dL_does_255 : decode cL_does 255 = .ok (.invokevirtual 42, 3) := by decide +kernel
theorem dL_does_258 : decode cL_does 258 = .ok (.istore 9, 2) := by decide +kernel
theorem dL_does_260 : decode cL_does 260 = .ok (.aload_n 0, 1) := by decide +kernel
theorem dL_does_261 : decode cL_does 261 = .ok (.iload_n 3, 1) := by decide +kernel
theorem dL_does_262 : decode cL_does 262 = .ok (.invokevirtual 45, 3) := by decide +kernel
theorem dL_does_265 : decode cL_does 265 = .ok (.istore 10, 2) := by decide +kernel
theorem dL_does_267 : decode cL_does 267 = .ok (.iload 9, 2) := by decide +kernel
theorem dL_does_269 : decode cL_does 269 = .ok (.iload 8, 2) := by decide +kernel
theorem dL_does_271 : decode cL_does 271 = .ok (.iadd, 1) := by decide +kernel
theorem dL_does_272 : decode cL_does 272 = .ok (.bipush 99, 2) := by decide +kernel
theorem dL_does_274 : decode cL_does 274 = .ok (.if_icmp .gt 30, 3) := by decide +kernel
theorem dL_does_277 : decode cL_does 277 = .ok (.aload_n 0, 1) := by decide +kernel
theorem dL_does_278 : decode cL_does 278 = .ok (.iload_n 3, 1) := by decide +kernel
theorem dL_does_279 : decode cL_does 279 = .ok (.iload 4, 2) := by decide +kernel
theorem dL_does_281 : decode cL_does 281 = .ok (.iload 8, 2) := by decide +kernel
theorem dL_does_283 : decode cL_does 283 = .ok (.invokevirtual 48, 3) := by decide +kernel
theorem dL_does_286 : decode cL_does 286 = .ok (.iload 9, 2) := by decide +kernel
theorem dL_does_288 : decode cL_does 288 = .ok (.iload 8, 2) := by decide +kernel
theorem dL_does_290 : decode cL_does 290 = .ok (.iadd, 1) := by decide +kernel
theorem dL_does_291 : decode cL_does 291 = .ok (.if_icmp .ne 17, 3) := by decide +kernel
theorem dL_does_294 : decode cL_does 294 = .ok (.aload_n 0, 1) := by decide +kernel
theorem dL_does_295 : decode cL_does 295 = .ok (.iload_n 3, 1) := by decide +kernel
theorem dL_does_296 : decode cL_does 296 = .ok (.invokevirtual 45, 3) := by decide +kernel
theorem dL_does_299 : decode cL_does 299 = .ok (.iload 10, 2) := by decide +kernel
theorem dL_does_301 : decode cL_does 301 = .ok (.if_icmp .lt 7, 3) := by decide +kernel
theorem dL_does_304 : decode cL_does 304 = .ok (.iconst 1, 1) := by decide +kernel
theorem dL_does_305 : decode cL_does 305 = .ok (.goto 4, 3) := by decide +kernel
theorem dL_does_308 : decode cL_does 308 = .ok (.iconst 0, 1) := by decide +kernel
theorem dL_does_309 : decode cL_does 309 = .ok (.ireturn, 1) := by decide +kernel
theorem dL_does_310 : decode cL_does 310 = .ok (.aload_n 0, 1) := by decide +kernel
theorem dL_does_311 : decode cL_does 311 = .ok (.iload_n 3, 1) := by decide +kernel
theorem dL_does_312 : decode cL_does 312 = .ok (.invokevirtual 52, 3) := by decide +kernel
theorem dL_does_315 : decode cL_does 315 = .ok (.istore 11, 2) := by decide +kernel
theorem dL_does_317 : decode cL_does 317 = .ok (.iload 11, 2) := by decide +kernel
theorem dL_does_319 : decode cL_does 319 = .ok (.iload_n 2, 1) := by decide +kernel
theorem dL_does_320 : decode cL_does 320 = .ok (.invokestatic 55, 3) := by decide +kernel
theorem dL_does_323 : decode cL_does 323 = .ok (.iadd, 1) := by decide +kernel
theorem dL_does_324 : decode cL_does 324 = .ok (.ldc 58, 2) := by decide +kernel
theorem dL_does_326 : decode cL_does 326 = .ok (.if_icmp .gt 22, 3) := by decide +kernel
theorem dL_does_329 : decode cL_does 329 = .ok (.aload_n 0, 1) := by decide +kernel
theorem dL_does_330 : decode cL_does 330 = .ok (.iload_n 3, 1) := by decide +kernel
theorem dL_does_331 : decode cL_does 331 = .ok (.iload_n 2, 1) := by decide +kernel
theorem dL_does_332 : decode cL_does 332 = .ok (.invokestatic 55, 3) := by decide +kernel
theorem dL_does_335 : decode cL_does 335 = .ok (.invokevirtual 59, 3) := by decide +kernel
theorem dL_does_338 : decode cL_does 338 = .ok (.iload 11, 2) := by decide +kernel
theorem dL_does_340 : decode cL_does 340 = .ok (.iload_n 2, 1) := by decide +kernel
theorem dL_does_341 : decode cL_does 341 = .ok (.invokestatic 55, 3) := by decide +kernel
theorem dL_does_344 : decode cL_does 344 = .ok (.iadd, 1) := by decide +kernel
theorem dL_does_345 : decode cL_does 345 = .ok (.if_icmp .ne 7, 3) := by decide +kernel
theorem dL_does_348 : decode cL_does 348 = .ok (.iconst 1, 1) := by decide +kernel
theorem dL_does_349 : decode cL_does 349 = .ok (.goto 4, 3) := by decide +kernel
theorem dL_does_352 : decode cL_does 352 = .ok (.iconst 0, 1) := by decide +kernel
theorem dL_does_353 : decode cL_does 353 = .ok (.ireturn, 1) := by decide +kernel
theorem dL_does_354 : decode cL_does 354 = .ok (.iconst 1, 1) := by decide +kernel
theorem dL_does_355 : decode cL_does 355 = .ok (.iload_n 2, 1) := by decide +kernel
theorem dL_does_356 : decode cL_does 356 = .ok (.iconst 4, 1) := by decide +kernel
theorem dL_does_357 : decode cL_does 357 = .ok (.invokestatic 8, 3) := by decide +kernel
theorem dL_does_360 : decode cL_does 360 = .ok (.iadd, 1) := by decide +kernel
theorem dL_does_361 : decode cL_does 361 = .ok (.istore 12, 2) := by decide +kernel
theorem dL_does_363 : decode cL_does 363 = .ok (.aload_n 0, 1) := by decide +kernel
theorem dL_does_364 : decode cL_does 364 = .ok (.iload_n 3, 1) := by decide +kernel
theorem dL_does_365 : decode cL_does 365 = .ok (.iload 4, 2) := by decide +kernel
theorem dL_does_367 : decode cL_does 367 = .ok (.invokevirtual 42, 3) := by decide +kernel
theorem dL_does_370 : decode cL_does 370 = .ok (.istore 13, 2) := by decide +kernel
theorem dL_does_372 : decode cL_does 372 = .ok (.iload 13, 2) := by decide +kernel
theorem dL_does_374 : decode cL_does 374 = .ok (.iload 12, 2) := by decide +kernel
theorem dL_does_376 : decode cL_does 376 = .ok (.if_icmp .lt 36, 3) := by decide +kernel
theorem dL_does_379 : decode cL_does 379 = .ok (.aload_n 0, 1) := by decide +kernel
theorem dL_does_380 : decode cL_does 380 = .ok (.iload_n 3, 1) := by decide +kernel
theorem dL_does_381 : decode cL_does 381 = .ok (.invokevirtual 62, 3) := by decide +kernel
theorem dL_does_384 : decode cL_does 384 = .ok (.ifCond .gt 28, 3) := by decide +kernel
theorem dL_does_387 : decode cL_does 387 = .ok (.aload_n 0, 1) := by decide +kernel
theorem dL_does_388 : decode cL_does 388 = .ok (.iload_n 3, 1) := by decide +kernel
theorem dL_does_389 : decode cL_does 389 = .ok (.iload 4, 2) := by decide +kernel
theorem dL_does_391 : decode cL_does 391 = .ok (.iload 12, 2) := by decide +kernel
theorem dL_does_393 : decode cL_does 393 = .ok (.invokevirtual 65, 3) := by decide +kernel
theorem dL_does_396 : decode cL_does 396 = .ok (.iload 13, 2) := by decide +kernel
theorem dL_does_398 : decode cL_does 398 = .ok (.iload 12, 2) := by decide +kernel
theorem dL_does_400 : decode cL_does 400 = .ok (.isub, 1) := by decide +kernel
theorem dL_does_401 : decode cL_does 401 = .ok (.if_icmp .ne 15, 3) := by decide +kernel
theorem dL_does_404 : decode cL_does 404 = .ok (.aload_n 0, 1) := by decide +kernel
theorem dL_does_405 : decode cL_does 405 = .ok (.iload_n 3, 1) := by decide +kernel
theorem dL_does_406 : decode cL_does 406 = .ok (.invokevirtual 68, 3) := by decide +kernel
theorem dL_does_409 : decode cL_does 409 = .ok (.ifCond .ne 7, 3) := by decide +kernel
theorem dL_does_412 : decode cL_does 412 = .ok (.iconst 1, 1) := by decide +kernel
theorem dL_does_413 : decode cL_does 413 = .ok (.goto 4, 3) := by decide +kernel
theorem dL_does_416 : decode cL_does 416 = .ok (.iconst 0, 1) := by decide +kernel
theorem dL_does_417 : decode cL_does 417 = .ok (.ireturn, 1) := by decide +kernel
theorem dL_does_418 : decode cL_does 418 = .ok (.aload_n 0, 1) := by decide +kernel
theorem dL_does_419 : decode cL_does 419 = .ok (.iload_n 3, 1) := by decide +kernel
theorem dL_does_420 : decode cL_does 420 = .ok (.iload_n 2, 1) := by decide +kernel
theorem dL_does_421 : decode cL_does 421 = .ok (.invokestatic 72, 3) := by decide +kernel
theorem dL_does_424 : decode cL_does 424 = .ok (.ireturn, 1) := by decide +kernel
theorem dL_does_425 : decode cL_does 425 = .ok (.aload_n 0, 1) := by decide +kernel
theorem dL_does_426 : decode cL_does 426 = .ok (.iload_n 3, 1) := by decide +kernel
theorem dL_does_427 : decode cL_does 427 = .ok (.invokevirtual 62, 3) := by decide +kernel
theorem dL_does_430 : decode cL_does 430 = .ok (.istore 14, 2) := by decide +kernel
theorem dL_does_432 : decode cL_does 432 = .ok (.iload_n 2, 1) := by decide +kernel
theorem dL_does_433 : decode cL_does 433 = .ok (.invokestatic 55, 3) := by decide +kernel
theorem dL_does_436 : decode cL_does 436 = .ok (.iload 14, 2) := by decide +kernel
theorem dL_does_438 : decode cL_does 438 = .ok (.if_icmp .ge 10, 3) := by decide +kernel
theorem dL_does_441 : decode cL_does 441 = .ok (.iload_n 2, 1) := by decide +kernel
theorem dL_does_442 : decode cL_does 442 = .ok (.invokestatic 55, 3) := by decide +kernel
theorem dL_does_445 : decode cL_does 445 = .ok (.goto 5, 3) := by decide +kernel
theorem dL_does_448 : decode cL_does 448 = .ok (.iload 14, 2) := by decide +kernel
theorem dL_does_450 : decode cL_does 450 = .ok (.istore 15, 2) := by decide +kernel
theorem dL_does_452 : decode cL_does 452 = .ok (.iload 14, 2) := by decide +kernel
theorem dL_does_454 : decode cL_does 454 = .ok (.ifCond .eq 30, 3) := by decide +kernel
theorem dL_does_457 : decode cL_does 457 = .ok (.aload_n 0, 1) := by decide +kernel
theorem dL_does_458 : decode cL_does 458 = .ok (.iload_n 3, 1) := by decide +kernel
theorem dL_does_459 : decode cL_does 459 = .ok (.iload_n 2, 1) := by decide +kernel
theorem dL_does_460 : decode cL_does 460 = .ok (.invokestatic 55, 3) := by decide +kernel
theorem dL_does_463 : decode cL_does 463 = .ok (.invokevirtual 76, 3) := by decide +kernel
theorem dL_does_466 : decode cL_does 466 = .ok (.iload 15, 2) := by decide +kernel
theorem dL_does_468 : decode cL_does 468 = .ok (.if_icmp .ne 20, 3) := by decide +kernel
theorem dL_does_471 : decode cL_does 471 = .ok (.aload_n 0, 1) := by decide +kernel
theorem dL_does_472 : decode cL_does 472 = .ok (.iload_n 3, 1) := by decide +kernel
theorem dL_does_473 : decode cL_does 473 = .ok (.invokevirtual 62, 3) := by decide +kernel
theorem dL_does_476 : decode cL_does 476 = .ok (.iload 14, 2) := by decide +kernel
theorem dL_does_478 : decode cL_does 478 = .ok (.iload 15, 2) := by decide +kernel
theorem dL_does_480 : decode cL_does 480 = .ok (.isub, 1) := by decide +kernel
theorem dL_does_481 : decode cL_does 481 = .ok (.if_icmp .ne 7, 3) := by decide +kernel
theorem dL_does_484 : decode cL_does 484 = .ok (.iconst 1, 1) := by decide +kernel
theorem dL_does_485 : decode cL_does 485 = .ok (.goto 4, 3) := by decide +kernel
theorem dL_does_488 : decode cL_does 488 = .ok (.iconst 0, 1) := by decide +kernel
theorem dL_does_489 : decode cL_does 489 = .ok (.ireturn, 1) := by decide +kernel
theorem dL_does_490 : decode cL_does 490 = .ok (.iload_n 2, 1) := by decide +kernel
theorem dL_does_491 : decode cL_does 491 = .ok (.iconst 1, 1) := by decide +kernel
theorem dL_does_492 : decode cL_does 492 = .ok (.iand, 1) := by decide +kernel
theorem dL_does_493 : decode cL_does 493 = .ok (.ifCond .ne 26, 3) := by decide +kernel
theorem dL_does_496 : decode cL_does 496 = .ok (.aload_n 0, 1) := by decide +kernel
theorem dL_does_497 : decode cL_does 497 = .ok (.iload_n 2, 1) := by decide +kernel
theorem dL_does_498 : decode cL_does 498 = .ok (.iconst 1, 1) := by decide +kernel
theorem dL_does_499 : decode cL_does 499 = .ok (.ishr, 1) := by decide +kernel
theorem dL_does_500 : decode cL_does 500 = .ok (.bipush 101, 2) := by decide +kernel
theorem dL_does_502 : decode cL_does 502 = .ok (.invokestatic 8, 3) := by decide +kernel
theorem dL_does_505 : decode cL_does 505 = .ok (.invokevirtual 79, 3) := by decide +kernel
theorem dL_does_508 : decode cL_does 508 = .ok (.ifCond .lt 7, 3) := by decide +kernel
theorem dL_does_511 : decode cL_does 511 = .ok (.iconst 1, 1) := by decide +kernel
theorem dL_does_512 : decode cL_does 512 = .ok (.goto 29, 3) := by decide +kernel
theorem dL_does_515 : decode cL_does 515 = .ok (.iconst 0, 1) := by decide +kernel
theorem dL_does_516 : decode cL_does 516 = .ok (.goto 25, 3) := by decide +kernel
theorem dL_does_519 : decode cL_does 519 = .ok (.aload_n 0, 1) := by decide +kernel
theorem dL_does_520 : decode cL_does 520 = .ok (.iconst 1, 1) := by decide +kernel
theorem dL_does_521 : decode cL_does 521 = .ok (.iload_n 2, 1) := by decide +kernel
theorem dL_does_522 : decode cL_does 522 = .ok (.iconst 1, 1) := by decide +kernel
theorem dL_does_523 : decode cL_does 523 = .ok (.ishr, 1) := by decide +kernel
theorem dL_does_524 : decode cL_does 524 = .ok (.bipush 8, 2) := by decide +kernel
theorem dL_does_526 : decode cL_does 526 = .ok (.invokestatic 8, 3) := by decide +kernel
theorem dL_does_529 : decode cL_does 529 = .ok (.iadd, 1) := by decide +kernel
theorem dL_does_530 : decode cL_does 530 = .ok (.invokevirtual 82, 3) := by decide +kernel
theorem dL_does_533 : decode cL_does 533 = .ok (.ifCond .le 7, 3) := by decide +kernel
theorem dL_does_536 : decode cL_does 536 = .ok (.iconst 1, 1) := by decide +kernel
theorem dL_does_537 : decode cL_does 537 = .ok (.goto 4, 3) := by decide +kernel
theorem dL_does_540 : decode cL_does 540 = .ok (.iconst 0, 1) := by decide +kernel
theorem dL_does_541 : decode cL_does 541 = .ok (.ireturn, 1) := by decide +kernel
theorem dL_does_542 : decode cL_does 542 = .ok (.iload_n 2, 1) := by decide +kernel
theorem dL_does_543 : decode cL_does 543 = .ok (.iconst 1, 1) := by decide +kernel
theorem dL_does_544 : decode cL_does 544 = .ok (.iand, 1) := by decide +kernel
theorem dL_does_545 : decode cL_does 545 = .ok (.ifCond .ne 26, 3) := by decide +kernel
theorem dL_does_548 : decode cL_does 548 = .ok (.aload_n 0, 1) := by decide +kernel
theorem dL_does_549 : decode cL_does 549 = .ok (.iload_n 2, 1) := by decide +kernel
theorem dL_does_550 : decode cL_does 550 = .ok (.iconst 1, 1) := by decide +kernel
theorem dL_does_551 : decode cL_does 551 = .ok (.ishr, 1) := by decide +kernel
theorem dL_does_552 : decode cL_does 552 = .ok (.bipush 51, 2) := by decide +kernel
theorem dL_does_554 : decode cL_does 554 = .ok (.invokestatic 8, 3) := by decide +kernel
theorem dL_does_557 : decode cL_does 557 = .ok (.invokevirtual 85, 3) := by decide +kernel
theorem dL_does_560 : decode cL_does 560 = .ok (.ifCond .lt 7, 3) := by decide +kernel
theorem dL_does_563 : decode cL_does 563 = .ok (.iconst 1, 1) := by decide +kernel
theorem dL_does_564 : decode cL_does 564 = .ok (.goto 23, 3) := by decide +kernel
theorem dL_does_567 : decode cL_does 567 = .ok (.iconst 0, 1) := by decide +kernel
theorem dL_does_568 : decode cL_does 568 = .ok (.goto 19, 3) := by decide +kernel
theorem dL_does_571 : decode cL_does 571 = .ok (.aload_n 0, 1) := by decide +kernel
theorem dL_does_572 : decode cL_does 572 = .ok (.invokevirtual 88, 3) := by decide +kernel
theorem dL_does_575 : decode cL_does 575 = .ok (.aload_n 0, 1) := by decide +kernel
theorem dL_does_576 : decode cL_does 576 = .ok (.invokevirtual 91, 3) := by decide +kernel
theorem dL_does_579 : decode cL_does 579 = .ok (.if_icmp .ne 7, 3) := by decide +kernel
theorem dL_does_582 : decode cL_does 582 = .ok (.iconst 1, 1) := by decide +kernel
theorem dL_does_583 : decode cL_does 583 = .ok (.goto 4, 3) := by decide +kernel
theorem dL_does_586 : decode cL_does 586 = .ok (.iconst 0, 1) := by decide +kernel
theorem dL_does_587 : decode cL_does 587 = .ok (.ireturn, 1) := by decide +kernel
theorem dL_does_588 : decode cL_does 588 = .ok (.aload_n 0, 1) := by decide +kernel
theorem dL_does_589 : decode cL_does 589 = .ok (.iconst 1, 1) := by decide +kernel
theorem dL_does_590 : decode cL_does 590 = .ok (.iload_n 2, 1) := by decide +kernel
theorem dL_does_591 : decode cL_does 591 = .ok (.bipush 12, 2) := by decide +kernel
theorem dL_does_593 : decode cL_does 593 = .ok (.invokestatic 8, 3) := by decide +kernel
theorem dL_does_596 : decode cL_does 596 = .ok (.iadd, 1) := by decide +kernel
theorem dL_does_597 : decode cL_does 597 = .ok (.invokestatic 94, 3) := by decide +kernel
theorem dL_does_600 : decode cL_does 600 = .ok (.ireturn, 1) := by decide +kernel
theorem dL_isLent_0 : decode cL_isLent 0 = .ok (.aload_n 0, 1) := by decide +kernel
theorem dL_isLent_1 : decode cL_isLent 1 = .ok (.iload_n 1, 1) := by decide +kernel
theorem dL_isLent_2 : decode cL_isLent 2 = .ok (.invokevirtual 98, 3) := by decide +kernel
theorem dL_isLent_5 : decode cL_isLent 5 = .ok (.istore_n 3, 1) := by decide +kernel
theorem dL_isLent_6 : decode cL_isLent 6 = .ok (.aload_n 0, 1) := by decide +kernel
theorem dL_isLent_7 : decode cL_isLent 7 = .ok (.iload_n 1, 1) := by decide +kernel
theorem dL_isLent_8 : decode cL_isLent 8 = .ok (.invokevirtual 62, 3) := by decide +kernel
theorem dL_isLent_11 : decode cL_isLent 11 = .ok (.istore 4, 2) := by decide +kernel
theorem dL_isLent_13 : decode cL_isLent 13 = .ok (.aload_n 0, 1) := by decide +kernel
theorem dL_isLent_14 : decode cL_isLent 14 = .ok (.invokevirtual 101, 3) := by decide +kernel
theorem dL_isLent_17 : decode cL_isLent 17 = .ok (.istore 5, 2) := by decide +kernel
theorem dL_isLent_19 : decode cL_isLent 19 = .ok (.iload_n 3, 1) := by decide +kernel
theorem dL_isLent_20 : decode cL_isLent 20 = .ok (.ifCond .ne 5, 3) := by decide +kernel
theorem dL_isLent_23 : decode cL_isLent 23 = .ok (.iconst 1, 1) := by decide +kernel
theorem dL_isLent_24 : decode cL_isLent 24 = .ok (.ireturn, 1) := by decide +kernel
theorem dL_isLent_25 : decode cL_isLent 25 = .ok (.iload_n 2, 1) := by decide +kernel
theorem dL_isLent_26 : decode cL_isLent 26 = .ok (.iconst 1, 1) := by decide +kernel
theorem dL_isLent_27 : decode cL_isLent 27 = .ok (.iand, 1) := by decide +kernel
theorem dL_isLent_28 : decode cL_isLent 28 = .ok (.ifCond .ne 14, 3) := by decide +kernel
theorem dL_isLent_31 : decode cL_isLent 31 = .ok (.iload_n 3, 1) := by decide +kernel
theorem dL_isLent_32 : decode cL_isLent 32 = .ok (.sipush 10000, 3) := by decide +kernel
theorem dL_isLent_35 : decode cL_isLent 35 = .ok (.if_icmp .ge 7, 3) := by decide +kernel
theorem dL_isLent_38 : decode cL_isLent 38 = .ok (.iload_n 3, 1) := by decide +kernel
theorem dL_isLent_39 : decode cL_isLent 39 = .ok (.goto 25, 3) := by decide +kernel
theorem dL_isLent_42 : decode cL_isLent 42 = .ok (.iconst 1, 1) := by decide +kernel
theorem dL_isLent_43 : decode cL_isLent 43 = .ok (.iload_n 2, 1) := by decide +kernel
theorem dL_isLent_44 : decode cL_isLent 44 = .ok (.iconst 1, 1) := by decide +kernel
theorem dL_isLent_45 : decode cL_isLent 45 = .ok (.ishr, 1) := by decide +kernel
theorem dL_isLent_46 : decode cL_isLent 46 = .ok (.iload_n 3, 1) := by decide +kernel
theorem dL_isLent_47 : decode cL_isLent 47 = .ok (.sipush 9999, 3) := by decide +kernel
theorem dL_isLent_50 : decode cL_isLent 50 = .ok (.if_icmp .ge 7, 3) := by decide +kernel
theorem dL_isLent_53 : decode cL_isLent 53 = .ok (.iload_n 3, 1) := by decide +kernel
theorem dL_isLent_54 : decode cL_isLent 54 = .ok (.goto 6, 3) := by decide +kernel
theorem dL_isLent_57 : decode cL_isLent 57 = .ok (.sipush 9999, 3) := by decide +kernel
theorem dL_isLent_60 : decode cL_isLent 60 = .ok (.invokestatic 8, 3) := by decide +kernel
theorem dL_isLent_63 : decode cL_isLent 63 = .ok (.iadd, 1) := by decide +kernel
theorem dL_isLent_64 : decode cL_isLent 64 = .ok (.istore 6, 2) := by decide +kernel
theorem dL_isLent_66 : decode cL_isLent 66 = .ok (.aload_n 0, 1) := by decide +kernel
theorem dL_isLent_67 : decode cL_isLent 67 = .ok (.iload_n 1, 1) := by decide +kernel
theorem dL_isLent_68 : decode cL_isLent 68 = .ok (.iload 6, 2) := by decide +kernel
theorem dL_isLent_70 : decode cL_isLent 70 = .ok (.invokevirtual 104, 3) := by decide +kernel
theorem dL_isLent_73 : decode cL_isLent 73 = .ok (.iload 4, 2) := by decide +kernel
theorem dL_isLent_75 : decode cL_isLent 75 = .ok (.iload 6, 2) := by decide +kernel
theorem dL_isLent_77 : decode cL_isLent 77 = .ok (.iadd, 1) := by decide +kernel
theorem dL_isLent_78 : decode cL_isLent 78 = .ok (.if_icmp .ne 39, 3) := by decide +kernel
theorem dL_isLent_81 : decode cL_isLent 81 = .ok (.aload_n 0, 1) := by decide +kernel
theorem dL_isLent_82 : decode cL_isLent 82 = .ok (.iload_n 1, 1) := by decide +kernel
theorem dL_isLent_83 : decode cL_isLent 83 = .ok (.invokevirtual 98, 3) := by decide +kernel
theorem dL_isLent_86 : decode cL_isLent 86 = .ok (.iload_n 3, 1) := by decide +kernel
theorem dL_isLent_87 : decode cL_isLent 87 = .ok (.iload 6, 2) := by decide +kernel
theorem dL_isLent_89 : decode cL_isLent 89 = .ok (.isub, 1) := by decide +kernel
theorem dL_isLent_90 : decode cL_isLent 90 = .ok (.if_icmp .ne 27, 3) := by decide +kernel
theorem dL_isLent_93 : decode cL_isLent 93 = .ok (.aload_n 0, 1) := by decide +kernel
theorem dL_isLent_94 : decode cL_isLent 94 = .ok (.iload_n 1, 1) := by decide +kernel
theorem dL_isLent_95 : decode cL_isLent 95 = .ok (.invokevirtual 68, 3) := by decide +kernel
theorem dL_isLent_98 : decode cL_isLent 98 = .ok (.ifCond .ne 19, 3) := by decide +kernel
theorem dL_isLent_101 : decode cL_isLent 101 = .ok (.aload_n 0, 1) := by decide +kernel
theorem dL_isLent_102 : decode cL_isLent 102 = .ok (.invokevirtual 101, 3) := by decide +kernel
theorem dL_isLent_105 : decode cL_isLent 105 = .ok (.iload 5, 2) := by decide +kernel
theorem dL_isLent_107 : decode cL_isLent 107 = .ok (.iload 6, 2) := by decide +kernel
theorem dL_isLent_109 : decode cL_isLent 109 = .ok (.iadd, 1) := by decide +kernel
theorem dL_isLent_110 : decode cL_isLent 110 = .ok (.if_icmp .ne 7, 3) := by decide +kernel
theorem dL_isLent_113 : decode cL_isLent 113 = .ok (.iconst 1, 1) := by decide +kernel
theorem dL_isLent_114 : decode cL_isLent 114 = .ok (.goto 4, 3) := by decide +kernel
theorem dL_isLent_117 : decode cL_isLent 117 = .ok (.iconst 0, 1) := by decide +kernel
theorem dL_isLent_118 : decode cL_isLent 118 = .ok (.ireturn, 1) := by decide +kernel
theorem dL_isPassed_0 : decode cL_isPassed 0 = .ok (.aload_n 0, 1) := by decide +kernel
theorem dL_isPassed_1 : decode cL_isPassed 1 = .ok (.invokevirtual 107, 3) := by decide +kernel
theorem dL_isPassed_4 : decode cL_isPassed 4 = .ok (.istore_n 2, 1) := by decide +kernel
theorem dL_isPassed_5 : decode cL_isPassed 5 = .ok (.aload_n 0, 1) := by decide +kernel
theorem dL_isPassed_6 : decode cL_isPassed 6 = .ok (.invokevirtual 110, 3) := by decide +kernel
theorem dL_isPassed_9 : decode cL_isPassed 9 = .ok (.istore_n 3, 1) := by decide +kernel
theorem dL_isPassed_10 : decode cL_isPassed 10 = .ok (.aload_n 0, 1) := by decide +kernel
theorem dL_isPassed_11 : decode cL_isPassed 11 = .ok (.invokevirtual 113, 3) := by decide +kernel
theorem dL_isPassed_14 : decode cL_isPassed 14 = .ok (.istore 4, 2) := by decide +kernel
theorem dL_isPassed_16 : decode cL_isPassed 16 = .ok (.aload_n 0, 1) := by decide +kernel
theorem dL_isPassed_17 : decode cL_isPassed 17 = .ok (.iload_n 1, 1) := by decide +kernel
theorem dL_isPassed_18 : decode cL_isPassed 18 = .ok (.invokevirtual 116, 3) := by decide +kernel
theorem dL_isPassed_21 : decode cL_isPassed 21 = .ok (.istore 5, 2) := by decide +kernel
theorem dL_isPassed_23 : decode cL_isPassed 23 = .ok (.iload 5, 2) := by decide +kernel
theorem dL_isPassed_25 : decode cL_isPassed 25 = .ok (.aload_n 0, 1) := by decide +kernel
theorem dL_isPassed_26 : decode cL_isPassed 26 = .ok (.invokevirtual 107, 3) := by decide +kernel
theorem dL_isPassed_29 : decode cL_isPassed 29 = .ok (.iload_n 2, 1) := by decide +kernel
theorem dL_isPassed_30 : decode cL_isPassed 30 = .ok (.isub, 1) := by decide +kernel
theorem dL_isPassed_31 : decode cL_isPassed 31 = .ok (.if_icmp .ne 34, 3) := by decide +kernel
theorem dL_isPassed_34 : decode cL_isPassed 34 = .ok (.aload_n 0, 1) := by decide +kernel
theorem dL_isPassed_35 : decode cL_isPassed 35 = .ok (.invokevirtual 110, 3) := by decide +kernel
theorem dL_isPassed_38 : decode cL_isPassed 38 = .ok (.iload_n 3, 1) := by decide +kernel
theorem dL_isPassed_39 : decode cL_isPassed 39 = .ok (.iload_n 1, 1) := by decide +kernel
theorem dL_isPassed_40 : decode cL_isPassed 40 = .ok (.iadd, 1) := by decide +kernel
theorem dL_isPassed_41 : decode cL_isPassed 41 = .ok (.if_icmp .ne 24, 3) := by decide +kernel
theorem dL_isPassed_44 : decode cL_isPassed 44 = .ok (.iload 4, 2) := by decide +kernel
theorem dL_isPassed_46 : decode cL_isPassed 46 = .ok (.ifCond .gt 15, 3) := by decide +kernel
theorem dL_isPassed_49 : decode cL_isPassed 49 = .ok (.iload 5, 2) := by decide +kernel
theorem dL_isPassed_51 : decode cL_isPassed 51 = .ok (.ifCond .ne 14, 3) := by decide +kernel
theorem dL_isPassed_54 : decode cL_isPassed 54 = .ok (.aload_n 0, 1) := by decide +kernel
theorem dL_isPassed_55 : decode cL_isPassed 55 = .ok (.invokevirtual 119, 3) := by decide +kernel
theorem dL_isPassed_58 : decode cL_isPassed 58 = .ok (.ifCond .ne 7, 3) := by decide +kernel
theorem dL_isPassed_61 : decode cL_isPassed 61 = .ok (.iconst 1, 1) := by decide +kernel
theorem dL_isPassed_62 : decode cL_isPassed 62 = .ok (.goto 4, 3) := by decide +kernel
theorem dL_isPassed_65 : decode cL_isPassed 65 = .ok (.iconst 0, 1) := by decide +kernel
theorem dL_isPassed_66 : decode cL_isPassed 66 = .ok (.ireturn, 1) := by decide +kernel
theorem dL_isClientSo_0 : decode cL_isClientSo 0 = .ok (.aload_n 0, 1) := by decide +kernel
theorem dL_isClientSo_1 : decode cL_isClientSo 1 = .ok (.iload_n 1, 1) := by decide +kernel
theorem dL_isClientSo_2 : decode cL_isClientSo 2 = .ok (.invokevirtual 52, 3) := by decide +kernel
theorem dL_isClientSo_5 : decode cL_isClientSo 5 = .ok (.istore_n 2, 1) := by decide +kernel
theorem dL_isClientSo_6 : decode cL_isClientSo 6 = .ok (.iconst 0, 1) := by decide +kernel
theorem dL_isClientSo_7 : decode cL_isClientSo 7 = .ok (.istore_n 3, 1) := by decide +kernel
theorem dL_isClientSo_8 : decode cL_isClientSo 8 = .ok (.iconst 0, 1) := by decide +kernel
theorem dL_isClientSo_9 : decode cL_isClientSo 9 = .ok (.istore 4, 2) := by decide +kernel
theorem dL_isClientSo_11 : decode cL_isClientSo 11 = .ok (.iconst 0, 1) := by decide +kernel
theorem dL_isClientSo_12 : decode cL_isClientSo 12 = .ok (.istore 5, 2) := by decide +kernel
theorem dL_isClientSo_14 : decode cL_isClientSo 14 = .ok (.iload 5, 2) := by decide +kernel
theorem dL_isClientSo_16 : decode cL_isClientSo 16 = .ok (.bipush 6, 2) := by decide +kernel
theorem dL_isClientSo_18 : decode cL_isClientSo 18 = .ok (.if_icmp .ge 65, 3) := by decide +kernel
theorem dL_isClientSo_21 : decode cL_isClientSo 21 = .ok (.iload_n 2, 1) := by decide +kernel
theorem dL_isClientSo_22 : decode cL_isClientSo 22 = .ok (.aload_n 0, 1) := by decide +kernel
theorem dL_isClientSo_23 : decode cL_isClientSo 23 = .ok (.iload_n 1, 1) := by decide +kernel
theorem dL_isClientSo_24 : decode cL_isClientSo 24 = .ok (.iload 5, 2) := by decide +kernel
theorem dL_isClientSo_26 : decode cL_isClientSo 26 = .ok (.invokevirtual 42, 3) := by decide +kernel
theorem dL_isClientSo_29 : decode cL_isClientSo 29 = .ok (.aload_n 0, 1) := by decide +kernel
theorem dL_isClientSo_30 : decode cL_isClientSo 30 = .ok (.iload 5, 2) := by decide +kernel
theorem dL_isClientSo_32 : decode cL_isClientSo 32 = .ok (.invokevirtual 23, 3) := by decide +kernel
theorem dL_isClientSo_35 : decode cL_isClientSo 35 = .ok (.imul, 1) := by decide +kernel
theorem dL_isClientSo_36 : decode cL_isClientSo 36 = .ok (.iadd, 1) := by decide +kernel
theorem dL_isClientSo_37 : decode cL_isClientSo 37 = .ok (.istore_n 2, 1) := by decide +kernel
theorem dL_isClientSo_38 : decode cL_isClientSo 38 = .ok (.iload_n 3, 1) := by decide +kernel
theorem dL_isClientSo_39 : decode cL_isClientSo 39 = .ok (.aload_n 0, 1) := by decide +kernel
theorem dL_isClientSo_40 : decode cL_isClientSo 40 = .ok (.iload_n 1, 1) := by decide +kernel
theorem dL_isClientSo_41 : decode cL_isClientSo 41 = .ok (.iload 5, 2) := by decide +kernel
theorem dL_isClientSo_43 : decode cL_isClientSo 43 = .ok (.invokevirtual 42, 3) := by decide +kernel
theorem dL_isClientSo_46 : decode cL_isClientSo 46 = .ok (.aload_n 0, 1) := by decide +kernel
theorem dL_isClientSo_47 : decode cL_isClientSo 47 = .ok (.iload 5, 2) := by decide +kernel
theorem dL_isClientSo_49 : decode cL_isClientSo 49 = .ok (.invokevirtual 23, 3) := by decide +kernel
theorem dL_isClientSo_52 : decode cL_isClientSo 52 = .ok (.imul, 1) := by decide +kernel
theorem dL_isClientSo_53 : decode cL_isClientSo 53 = .ok (.bipush 100, 2) := by decide +kernel
theorem dL_isClientSo_55 : decode cL_isClientSo 55 = .ok (.aload_n 0, 1) := by decide +kernel
theorem dL_isClientSo_56 : decode cL_isClientSo 56 = .ok (.iload 5, 2) := by decide +kernel
theorem dL_isClientSo_58 : decode cL_isClientSo 58 = .ok (.invokevirtual 30, 3) := by decide +kernel
theorem dL_isClientSo_61 : decode cL_isClientSo 61 = .ok (.isub, 1) := by decide +kernel
theorem dL_isClientSo_62 : decode cL_isClientSo 62 = .ok (.imul, 1) := by decide +kernel
theorem dL_isClientSo_63 : decode cL_isClientSo 63 = .ok (.iadd, 1) := by decide +kernel
theorem dL_isClientSo_64 : decode cL_isClientSo 64 = .ok (.istore_n 3, 1) := by decide +kernel
theorem dL_isClientSo_65 : decode cL_isClientSo 65 = .ok (.iload 4, 2) := by decide +kernel
theorem dL_isClientSo_67 : decode cL_isClientSo 67 = .ok (.aload_n 0, 1) := by decide +kernel
theorem dL_isClientSo_68 : decode cL_isClientSo 68 = .ok (.iload_n 1, 1) := by decide +kernel
theorem dL_isClientSo_69 : decode cL_isClientSo 69 = .ok (.iload 5, 2) := by decide +kernel
theorem dL_isClientSo_71 : decode cL_isClientSo 71 = .ok (.invokevirtual 42, 3) := by decide +kernel
theorem dL_isClientSo_74 : decode cL_isClientSo 74 = .ok (.iadd, 1) := by decide +kernel
theorem dL_isClientSo_75 : decode cL_isClientSo 75 = .ok (.istore 4, 2) := by decide +kernel
theorem dL_isClientSo_77 : decode cL_isClientSo 77 = .ok (.iinc 5 1, 3) := by decide +kernel
theorem dL_isClientSo_80 : decode cL_isClientSo 80 = .ok (.goto (-66), 3) := by decide +kernel
theorem dL_isClientSo_83 : decode cL_isClientSo 83 = .ok (.aload_n 0, 1) := by decide +kernel
theorem dL_isClientSo_84 : decode cL_isClientSo 84 = .ok (.iload_n 1, 1) := by decide +kernel
theorem dL_isClientSo_85 : decode cL_isClientSo 85 = .ok (.invokevirtual 52, 3) := by decide +kernel
theorem dL_isClientSo_88 : decode cL_isClientSo 88 = .ok (.iload_n 3, 1) := by decide +kernel
theorem dL_isClientSo_89 : decode cL_isClientSo 89 = .ok (.bipush 100, 2) := by decide +kernel
theorem dL_isClientSo_91 : decode cL_isClientSo 91 = .ok (.idiv, 1) := by decide +kernel
theorem dL_isClientSo_92 : decode cL_isClientSo 92 = .ok (.iadd, 1) := by decide +kernel
theorem dL_isClientSo_93 : decode cL_isClientSo 93 = .ok (.istore 5, 2) := by decide +kernel
theorem dL_isClientSo_95 : decode cL_isClientSo 95 = .ok (.aload_n 0, 1) := by decide +kernel
theorem dL_isClientSo_96 : decode cL_isClientSo 96 = .ok (.iload_n 1, 1) := by decide +kernel
theorem dL_isClientSo_97 : decode cL_isClientSo 97 = .ok (.invokevirtual 62, 3) := by decide +kernel
theorem dL_isClientSo_100 : decode cL_isClientSo 100 = .ok (.istore 6, 2) := by decide +kernel
theorem dL_isClientSo_102 : decode cL_isClientSo 102 = .ok (.aload_n 0, 1) := by decide +kernel
theorem dL_isClientSo_103 : decode cL_isClientSo 103 = .ok (.iload_n 1, 1) := by decide +kernel
theorem dL_isClientSo_104 : decode cL_isClientSo 104 = .ok (.invokevirtual 68, 3) := by decide +kernel
theorem dL_isClientSo_107 : decode cL_isClientSo 107 = .ok (.istore 7, 2) := by decide +kernel
theorem dL_isClientSo_109 : decode cL_isClientSo 109 = .ok (.aload_n 0, 1) := by decide +kernel
theorem dL_isClientSo_110 : decode cL_isClientSo 110 = .ok (.iload_n 1, 1) := by decide +kernel
theorem dL_isClientSo_111 : decode cL_isClientSo 111 = .ok (.invokevirtual 122, 3) := by decide +kernel
theorem dL_isClientSo_114 : decode cL_isClientSo 114 = .ok (.iload_n 2, 1) := by decide +kernel
theorem dL_isClientSo_115 : decode cL_isClientSo 115 = .ok (.if_icmp .ne 66, 3) := by decide +kernel
theorem dL_isClientSo_118 : decode cL_isClientSo 118 = .ok (.aload_n 0, 1) := by decide +kernel
theorem dL_isClientSo_119 : decode cL_isClientSo 119 = .ok (.iload_n 1, 1) := by decide +kernel
theorem dL_isClientSo_120 : decode cL_isClientSo 120 = .ok (.invokevirtual 45, 3) := by decide +kernel
theorem dL_isClientSo_123 : decode cL_isClientSo 123 = .ok (.iload 5, 2) := by decide +kernel
theorem dL_isClientSo_125 : decode cL_isClientSo 125 = .ok (.if_icmp .ne 56, 3) := by decide +kernel
theorem dL_isClientSo_128 : decode cL_isClientSo 128 = .ok (.iload 7, 2) := by decide +kernel
theorem dL_isClientSo_130 : decode cL_isClientSo 130 = .ok (.iload 6, 2) := by decide +kernel
theorem dL_isClientSo_132 : decode cL_isClientSo 132 = .ok (.iload 5, 2) := by decide +kernel
theorem dL_isClientSo_134 : decode cL_isClientSo 134 = .ok (.if_icmp .le 7, 3) := by decide +kernel
theorem dL_isClientSo_137 : decode cL_isClientSo 137 = .ok (.iconst 1, 1) := by decide +kernel
theorem dL_isClientSo_138 : decode cL_isClientSo 138 = .ok (.goto 4, 3) := by decide +kernel
theorem dL_isClientSo_141 : decode cL_isClientSo 141 = .ok (.iconst 0, 1) := by decide +kernel
theorem dL_isClientSo_142 : decode cL_isClientSo 142 = .ok (.if_icmp .ne 39, 3) := by decide +kernel
theorem dL_isClientSo_145 : decode cL_isClientSo 145 = .ok (.aload_n 0, 1) := by decide +kernel
theorem dL_isClientSo_146 : decode cL_isClientSo 146 = .ok (.iload_n 1, 1) := by decide +kernel
theorem dL_isClientSo_147 : decode cL_isClientSo 147 = .ok (.invokevirtual 98, 3) := by decide +kernel
theorem dL_isClientSo_150 : decode cL_isClientSo 150 = .ok (.aload_n 0, 1) := by decide +kernel
theorem dL_isClientSo_151 : decode cL_isClientSo 151 = .ok (.iload_n 1, 1) := by decide +kernel
theorem dL_isClientSo_152 : decode cL_isClientSo 152 = .ok (.invokevirtual 125, 3) := by decide +kernel
theorem dL_isClientSo_155 : decode cL_isClientSo 155 = .ok (.ifCond .ne 10, 3) := by decide +kernel
theorem dL_isClientSo_158 : decode cL_isClientSo 158 = .ok (.iload 6, 2) := by decide +kernel
theorem dL_isClientSo_160 : decode cL_isClientSo 160 = .ok (.iload 5, 2) := by decide +kernel
theorem dL_isClientSo_162 : decode cL_isClientSo 162 = .ok (.if_icmp .le 7, 3) := by decide +kernel
theorem dL_isClientSo_165 : decode cL_isClientSo 165 = .ok (.iconst 0, 1) := by decide +kernel
theorem dL_isClientSo_166 : decode cL_isClientSo 166 = .ok (.goto 8, 3) := by decide +kernel
theorem dL_isClientSo_169 : decode cL_isClientSo 169 = .ok (.iload 5, 2) := by decide +kernel
theorem dL_isClientSo_171 : decode cL_isClientSo 171 = .ok (.iload 6, 2) := by decide +kernel
theorem dL_isClientSo_173 : decode cL_isClientSo 173 = .ok (.isub, 1) := by decide +kernel
theorem dL_isClientSo_174 : decode cL_isClientSo 174 = .ok (.if_icmp .ne 7, 3) := by decide +kernel
theorem dL_isClientSo_177 : decode cL_isClientSo 177 = .ok (.iconst 1, 1) := by decide +kernel
theorem dL_isClientSo_178 : decode cL_isClientSo 178 = .ok (.goto 4, 3) := by decide +kernel
theorem dL_isClientSo_181 : decode cL_isClientSo 181 = .ok (.iconst 0, 1) := by decide +kernel
theorem dL_isClientSo_182 : decode cL_isClientSo 182 = .ok (.istore 8, 2) := by decide +kernel
theorem dL_isClientSo_184 : decode cL_isClientSo 184 = .ok (.iload 8, 2) := by decide +kernel
theorem dL_isClientSo_186 : decode cL_isClientSo 186 = .ok (.ifCond .eq 46, 3) := by decide +kernel
theorem dL_isClientSo_189 : decode cL_isClientSo 189 = .ok (.iload 7, 2) := by decide +kernel
theorem dL_isClientSo_191 : decode cL_isClientSo 191 = .ok (.ifCond .eq 37, 3) := by decide +kernel
theorem dL_isClientSo_194 : decode cL_isClientSo 194 = .ok (.aload_n 0, 1) := by decide +kernel
theorem dL_isClientSo_195 : decode cL_isClientSo 195 = .ok (.iload_n 1, 1) := by decide +kernel
theorem dL_isClientSo_196 : decode cL_isClientSo 196 = .ok (.invokevirtual 128, 3) := by decide +kernel
theorem dL_isClientSo_199 : decode cL_isClientSo 199 = .ok (.ifCond .le 33, 3) := by decide +kernel
theorem dL_isClientSo_202 : decode cL_isClientSo 202 = .ok (.aload_n 0, 1) := by decide +kernel
theorem dL_isClientSo_203 : decode cL_isClientSo 203 = .ok (.iload_n 1, 1) := by decide +kernel
theorem dL_isClientSo_204 : decode cL_isClientSo 204 = .ok (.invokevirtual 128, 3) := by decide +kernel
theorem dL_isClientSo_207 : decode cL_isClientSo 207 = .ok (.bipush 25, 2) := by decide +kernel
theorem dL_isClientSo_209 : decode cL_isClientSo 209 = .ok (.if_icmp .ge 23, 3) := by decide +kernel
theorem dL_isClientSo_212 : decode cL_isClientSo 212 = .ok (.aload_n 0, 1) := by decide +kernel
theorem dL_isClientSo_213 : decode cL_isClientSo 213 = .ok (.iload_n 1, 1) := by decide +kernel
theorem dL_isClientSo_214 : decode cL_isClientSo 214 = .ok (.invokevirtual 131, 3) := by decide +kernel
theorem dL_isClientSo_217 : decode cL_isClientSo 217 = .ok (.ifCond .ne 15, 3) := by decide +kernel
theorem dL_isClientSo_220 : decode cL_isClientSo 220 = .ok (.aload_n 0, 1) := by decide +kernel
theorem dL_isClientSo_221 : decode cL_isClientSo 221 = .ok (.iload_n 1, 1) := by decide +kernel
theorem dL_isClientSo_222 : decode cL_isClientSo 222 = .ok (.invokevirtual 134, 3) := by decide +kernel
theorem dL_isClientSo_225 : decode cL_isClientSo 225 = .ok (.ifCond .ne 7, 3) := by decide +kernel
theorem dL_isClientSo_228 : decode cL_isClientSo 228 = .ok (.iconst 1, 1) := by decide +kernel
theorem dL_isClientSo_229 : decode cL_isClientSo 229 = .ok (.goto 4, 3) := by decide +kernel
theorem dL_isClientSo_232 : decode cL_isClientSo 232 = .ok (.iconst 0, 1) := by decide +kernel
theorem dL_isClientSo_233 : decode cL_isClientSo 233 = .ok (.istore 8, 2) := by decide +kernel
theorem dL_isClientSo_235 : decode cL_isClientSo 235 = .ok (.aload_n 0, 1) := by decide +kernel
theorem dL_isClientSo_236 : decode cL_isClientSo 236 = .ok (.iload_n 1, 1) := by decide +kernel
theorem dL_isClientSo_237 : decode cL_isClientSo 237 = .ok (.invokevirtual 137, 3) := by decide +kernel
theorem dL_isClientSo_240 : decode cL_isClientSo 240 = .ok (.istore 9, 2) := by decide +kernel
theorem dL_isClientSo_242 : decode cL_isClientSo 242 = .ok (.aload_n 0, 1) := by decide +kernel
theorem dL_isClientSo_243 : decode cL_isClientSo 243 = .ok (.iload_n 1, 1) := by decide +kernel
theorem dL_isClientSo_244 : decode cL_isClientSo 244 = .ok (.invokevirtual 140, 3) := by decide +kernel
theorem dL_isClientSo_247 : decode cL_isClientSo 247 = .ok (.istore 10, 2) := by decide +kernel
theorem dL_isClientSo_249 : decode cL_isClientSo 249 = .ok (.iload 8, 2) := by decide +kernel
theorem dL_isClientSo_251 : decode cL_isClientSo 251 = .ok (.ifCond .eq 51, 3) := by decide +kernel
theorem dL_isClientSo_254 : decode cL_isClientSo 254 = .ok (.iload 9, 2) := by decide +kernel
theorem dL_isClientSo_256 : decode cL_isClientSo 256 = .ok (.ifCond .lt 46, 3) := by decide +kernel
theorem dL_isClientSo_259 : decode cL_isClientSo 259 = .ok (.iload 9, 2) := by decide +kernel
theorem dL_isClientSo_261 : decode cL_isClientSo 261 = .ok (.iload 4, 2) := by decide +kernel
theorem dL_isClientSo_263 : decode cL_isClientSo 263 = .ok (.if_icmp .gt 39, 3) := by decide +kernel
theorem dL_isClientSo_266 : decode cL_isClientSo 266 = .ok (.iload 10, 2) := by decide +kernel
theorem dL_isClientSo_268 : decode cL_isClientSo 268 = .ok (.ifCond .lt 34, 3) := by decide +kernel
theorem dL_isClientSo_271 : decode cL_isClientSo 271 = .ok (.iload 10, 2) := by decide +kernel
theorem dL_isClientSo_273 : decode cL_isClientSo 273 = .ok (.iload 6, 2) := by decide +kernel
theorem dL_isClientSo_275 : decode cL_isClientSo 275 = .ok (.if_icmp .gt 27, 3) := by decide +kernel
theorem dL_isClientSo_278 : decode cL_isClientSo 278 = .ok (.aload_n 0, 1) := by decide +kernel
theorem dL_isClientSo_279 : decode cL_isClientSo 279 = .ok (.iload_n 1, 1) := by decide +kernel
theorem dL_isClientSo_280 : decode cL_isClientSo 280 = .ok (.invokevirtual 52, 3) := by decide +kernel
theorem dL_isClientSo_283 : decode cL_isClientSo 283 = .ok (.iload 6, 2) := by decide +kernel
theorem dL_isClientSo_285 : decode cL_isClientSo 285 = .ok (.if_icmp .lt 13, 3) := by decide +kernel
theorem dL_isClientSo_288 : decode cL_isClientSo 288 = .ok (.iload 9, 2) := by decide +kernel
theorem dL_isClientSo_290 : decode cL_isClientSo 290 = .ok (.ifCond .ne 12, 3) := by decide +kernel
theorem dL_isClientSo_293 : decode cL_isClientSo 293 = .ok (.iload 10, 2) := by decide +kernel
theorem dL_isClientSo_295 : decode cL_isClientSo 295 = .ok (.ifCond .ne 7, 3) := by decide +kernel
theorem dL_isClientSo_298 : decode cL_isClientSo 298 = .ok (.iconst 1, 1) := by decide +kernel
theorem dL_isClientSo_299 : decode cL_isClientSo 299 = .ok (.goto 4, 3) := by decide +kernel
theorem dL_isClientSo_302 : decode cL_isClientSo 302 = .ok (.iconst 0, 1) := by decide +kernel
theorem dL_isClientSo_303 : decode cL_isClientSo 303 = .ok (.istore 8, 2) := by decide +kernel
theorem dL_isClientSo_305 : decode cL_isClientSo 305 = .ok (.iload 7, 2) := by decide +kernel
theorem dL_isClientSo_307 : decode cL_isClientSo 307 = .ok (.ifCond .ne 86, 3) := by decide +kernel
theorem dL_isClientSo_310 : decode cL_isClientSo 310 = .ok (.iload 6, 2) := by decide +kernel
theorem dL_isClientSo_312 : decode cL_isClientSo 312 = .ok (.aload_n 0, 1) := by decide +kernel
theorem dL_isClientSo_313 : decode cL_isClientSo 313 = .ok (.iload_n 1, 1) := by decide +kernel
theorem dL_isClientSo_314 : decode cL_isClientSo 314 = .ok (.invokevirtual 52, 3) := by decide +kernel
theorem dL_isClientSo_317 : decode cL_isClientSo 317 = .ok (.if_icmp .le 76, 3) := by decide +kernel
theorem dL_isClientSo_320 : decode cL_isClientSo 320 = .ok (.aload_n 0, 1) := by decide +kernel
theorem dL_isClientSo_321 : decode cL_isClientSo 321 = .ok (.iload_n 1, 1) := by decide +kernel
theorem dL_isClientSo_322 : decode cL_isClientSo 322 = .ok (.invokevirtual 131, 3) := by decide +kernel
theorem dL_isClientSo_325 : decode cL_isClientSo 325 = .ok (.istore 11, 2) := by decide +kernel
theorem dL_isClientSo_327 : decode cL_isClientSo 327 = .ok (.iload 8, 2) := by decide +kernel
theorem dL_isClientSo_329 : decode cL_isClientSo 329 = .ok (.ifCond .eq 61, 3) := by decide +kernel
theorem dL_isClientSo_332 : decode cL_isClientSo 332 = .ok (.aload_n 0, 1) := by decide +kernel
theorem dL_isClientSo_333 : decode cL_isClientSo 333 = .ok (.iload_n 1, 1) := by decide +kernel
theorem dL_isClientSo_334 : decode cL_isClientSo 334 = .ok (.invokevirtual 143, 3) := by decide +kernel
theorem dL_isClientSo_337 : decode cL_isClientSo 337 = .ok (.iload 11, 2) := by decide +kernel
theorem dL_isClientSo_339 : decode cL_isClientSo 339 = .ok (.if_icmp .ne 51, 3) := by decide +kernel
theorem dL_isClientSo_342 : decode cL_isClientSo 342 = .ok (.iload 11, 2) := by decide +kernel
theorem dL_isClientSo_344 : decode cL_isClientSo 344 = .ok (.ifCond .le 46, 3) := by decide +kernel
theorem dL_isClientSo_347 : decode cL_isClientSo 347 = .ok (.iload 11, 2) := by decide +kernel
theorem dL_isClientSo_349 : decode cL_isClientSo 349 = .ok (.bipush 101, 2) := by decide +kernel
theorem dL_isClientSo_351 : decode cL_isClientSo 351 = .ok (.if_icmp .ge 39, 3) := by decide +kernel
theorem dL_isClientSo_354 : decode cL_isClientSo 354 = .ok (.aload_n 0, 1) := by decide +kernel
theorem dL_isClientSo_355 : decode cL_isClientSo 355 = .ok (.iload_n 1, 1) := by decide +kernel
theorem dL_isClientSo_356 : decode cL_isClientSo 356 = .ok (.iload 11, 2) := by decide +kernel
theorem dL_isClientSo_358 : decode cL_isClientSo 358 = .ok (.invokestatic 146, 3) := by decide +kernel
theorem dL_isClientSo_361 : decode cL_isClientSo 361 = .ok (.iload 6, 2) := by decide +kernel
theorem dL_isClientSo_363 : decode cL_isClientSo 363 = .ok (.if_icmp .ge 27, 3) := by decide +kernel
theorem dL_isClientSo_366 : decode cL_isClientSo 366 = .ok (.iload 11, 2) := by decide +kernel
theorem dL_isClientSo_368 : decode cL_isClientSo 368 = .ok (.iconst 1, 1) := by decide +kernel
theorem dL_isClientSo_369 : decode cL_isClientSo 369 = .ok (.if_icmp .eq 17, 3) := by decide +kernel
theorem dL_isClientSo_372 : decode cL_isClientSo 372 = .ok (.aload_n 0, 1) := by decide +kernel
theorem dL_isClientSo_373 : decode cL_isClientSo 373 = .ok (.iload_n 1, 1) := by decide +kernel
theorem dL_isClientSo_374 : decode cL_isClientSo 374 = .ok (.iload 11, 2) := by decide +kernel
theorem dL_isClientSo_376 : decode cL_isClientSo 376 = .ok (.iconst 1, 1) := by decide +kernel
theorem dL_isClientSo_377 : decode cL_isClientSo 377 = .ok (.isub, 1) := by decide +kernel
theorem dL_isClientSo_378 : decode cL_isClientSo 378 = .ok (.invokestatic 146, 3) := by decide +kernel
theorem dL_isClientSo_381 : decode cL_isClientSo 381 = .ok (.iload 6, 2) := by decide +kernel
theorem dL_isClientSo_383 : decode cL_isClientSo 383 = .ok (.if_icmp .lt 7, 3) := by decide +kernel
theorem dL_isClientSo_386 : decode cL_isClientSo 386 = .ok (.iconst 1, 1) := by decide +kernel
theorem dL_isClientSo_387 : decode cL_isClientSo 387 = .ok (.goto 4, 3) := by decide +kernel
theorem dL_isClientSo_390 : decode cL_isClientSo 390 = .ok (.iconst 0, 1) := by decide +kernel
theorem dL_isClientSo_391 : decode cL_isClientSo 391 = .ok (.istore 8, 2) := by decide +kernel
theorem dL_isClientSo_393 : decode cL_isClientSo 393 = .ok (.iload 8, 2) := by decide +kernel
theorem dL_isClientSo_395 : decode cL_isClientSo 395 = .ok (.ireturn, 1) := by decide +kernel
theorem dL_ifFallen_0 : decode cL_ifFallen 0 = .ok (.iconst 0, 1) := by decide +kernel
theorem dL_ifFallen_1 : decode cL_ifFallen 1 = .ok (.istore_n 3, 1) := by decide +kernel
theorem dL_ifFallen_2 : decode cL_ifFallen 2 = .ok (.iconst 0, 1) := by decide +kernel
theorem dL_ifFallen_3 : decode cL_ifFallen 3 = .ok (.istore 4, 2) := by decide +kernel
theorem dL_ifFallen_5 : decode cL_ifFallen 5 = .ok (.iload 4, 2) := by decide +kernel
theorem dL_ifFallen_7 : decode cL_ifFallen 7 = .ok (.bipush 6, 2) := by decide +kernel
theorem dL_ifFallen_9 : decode cL_ifFallen 9 = .ok (.if_icmp .ge 44, 3) := by decide +kernel
theorem dL_ifFallen_12 : decode cL_ifFallen 12 = .ok (.iload_n 3, 1) := by decide +kernel
theorem dL_ifFallen_13 : decode cL_ifFallen 13 = .ok (.aload_n 0, 1) := by decide +kernel
theorem dL_ifFallen_14 : decode cL_ifFallen 14 = .ok (.iload_n 1, 1) := by decide +kernel
theorem dL_ifFallen_15 : decode cL_ifFallen 15 = .ok (.iload 4, 2) := by decide +kernel
theorem dL_ifFallen_17 : decode cL_ifFallen 17 = .ok (.invokevirtual 42, 3) := by decide +kernel
theorem dL_ifFallen_20 : decode cL_ifFallen 20 = .ok (.aload_n 0, 1) := by decide +kernel
theorem dL_ifFallen_21 : decode cL_ifFallen 21 = .ok (.iload 4, 2) := by decide +kernel
theorem dL_ifFallen_23 : decode cL_ifFallen 23 = .ok (.invokevirtual 23, 3) := by decide +kernel
theorem dL_ifFallen_26 : decode cL_ifFallen 26 = .ok (.bipush 100, 2) := by decide +kernel
theorem dL_ifFallen_28 : decode cL_ifFallen 28 = .ok (.iload_n 2, 1) := by decide +kernel
theorem dL_ifFallen_29 : decode cL_ifFallen 29 = .ok (.isub, 1) := by decide +kernel
theorem dL_ifFallen_30 : decode cL_ifFallen 30 = .ok (.imul, 1) := by decide +kernel
theorem dL_ifFallen_31 : decode cL_ifFallen 31 = .ok (.bipush 100, 2) := by decide +kernel
theorem dL_ifFallen_33 : decode cL_ifFallen 33 = .ok (.idiv, 1) := by decide +kernel
theorem dL_ifFallen_34 : decode cL_ifFallen 34 = .ok (.imul, 1) := by decide +kernel
theorem dL_ifFallen_35 : decode cL_ifFallen 35 = .ok (.bipush 100, 2) := by decide +kernel
theorem dL_ifFallen_37 : decode cL_ifFallen 37 = .ok (.aload_n 0, 1) := by decide +kernel
theorem dL_ifFallen_38 : decode cL_ifFallen 38 = .ok (.iload 4, 2) := by decide +kernel
theorem dL_ifFallen_40 : decode cL_ifFallen 40 = .ok (.invokevirtual 30, 3) := by decide +kernel
theorem dL_ifFallen_43 : decode cL_ifFallen 43 = .ok (.isub, 1) := by decide +kernel
theorem dL_ifFallen_44 : decode cL_ifFallen 44 = .ok (.imul, 1) := by decide +kernel
theorem dL_ifFallen_45 : decode cL_ifFallen 45 = .ok (.iadd, 1) := by decide +kernel
theorem dL_ifFallen_46 : decode cL_ifFallen 46 = .ok (.istore_n 3, 1) := by decide +kernel
theorem dL_ifFallen_47 : decode cL_ifFallen 47 = .ok (.iinc 4 1, 3) := by decide +kernel
theorem dL_ifFallen_50 : decode cL_ifFallen 50 = .ok (.goto (-45), 3) := by decide +kernel
theorem dL_ifFallen_53 : decode cL_ifFallen 53 = .ok (.aload_n 0, 1) := by decide +kernel
theorem dL_ifFallen_54 : decode cL_ifFallen 54 = .ok (.iload_n 1, 1) := by decide +kernel
theorem dL_ifFallen_55 : decode cL_ifFallen 55 = .ok (.invokevirtual 52, 3) := by decide +kernel
theorem dL_ifFallen_58 : decode cL_ifFallen 58 = .ok (.iload_n 3, 1) := by decide +kernel
theorem dL_ifFallen_59 : decode cL_ifFallen 59 = .ok (.bipush 100, 2) := by decide +kernel
theorem dL_ifFallen_61 : decode cL_ifFallen 61 = .ok (.idiv, 1) := by decide +kernel
theorem dL_ifFallen_62 : decode cL_ifFallen 62 = .ok (.iadd, 1) := by decide +kernel
theorem dL_ifFallen_63 : decode cL_ifFallen 63 = .ok (.ireturn, 1) := by decide +kernel
theorem dL_isRiskSo_0 : decode cL_isRiskSo 0 = .ok (.iconst 0, 1) := by decide +kernel
theorem dL_isRiskSo_1 : decode cL_isRiskSo 1 = .ok (.istore_n 1, 1) := by decide +kernel
theorem dL_isRiskSo_2 : decode cL_isRiskSo 2 = .ok (.iconst 1, 1) := by decide +kernel
theorem dL_isRiskSo_3 : decode cL_isRiskSo 3 = .ok (.istore_n 2, 1) := by decide +kernel
theorem dL_isRiskSo_4 : decode cL_isRiskSo 4 = .ok (.iconst 0, 1) := by decide +kernel
theorem dL_isRiskSo_5 : decode cL_isRiskSo 5 = .ok (.istore_n 3, 1) := by decide +kernel
theorem dL_isRiskSo_6 : decode cL_isRiskSo 6 = .ok (.iload_n 3, 1) := by decide +kernel
theorem dL_isRiskSo_7 : decode cL_isRiskSo 7 = .ok (.bipush 8, 2) := by decide +kernel
theorem dL_isRiskSo_9 : decode cL_isRiskSo 9 = .ok (.if_icmp .ge 167, 3) := by decide +kernel
theorem dL_isRiskSo_12 : decode cL_isRiskSo 12 = .ok (.aload_n 0, 1) := by decide +kernel
theorem dL_isRiskSo_13 : decode cL_isRiskSo 13 = .ok (.iload_n 3, 1) := by decide +kernel
theorem dL_isRiskSo_14 : decode cL_isRiskSo 14 = .ok (.invokevirtual 150, 3) := by decide +kernel
theorem dL_isRiskSo_17 : decode cL_isRiskSo 17 = .ok (.istore 4, 2) := by decide +kernel
theorem dL_isRiskSo_19 : decode cL_isRiskSo 19 = .ok (.iload_n 1, 1) := by decide +kernel
theorem dL_isRiskSo_20 : decode cL_isRiskSo 20 = .ok (.iconst 1, 1) := by decide +kernel
theorem dL_isRiskSo_21 : decode cL_isRiskSo 21 = .ok (.iload 4, 2) := by decide +kernel
theorem dL_isRiskSo_23 : decode cL_isRiskSo 23 = .ok (.ishl, 1) := by decide +kernel
theorem dL_isRiskSo_24 : decode cL_isRiskSo 24 = .ok (.ior, 1) := by decide +kernel
theorem dL_isRiskSo_25 : decode cL_isRiskSo 25 = .ok (.istore_n 1, 1) := by decide +kernel
theorem dL_isRiskSo_26 : decode cL_isRiskSo 26 = .ok (.iload_n 2, 1) := by decide +kernel
theorem dL_isRiskSo_27 : decode cL_isRiskSo 27 = .ok (.ifCond .eq 27, 3) := by decide +kernel
theorem dL_isRiskSo_30 : decode cL_isRiskSo 30 = .ok (.aload_n 0, 1) := by decide +kernel
theorem dL_isRiskSo_31 : decode cL_isRiskSo 31 = .ok (.iload_n 3, 1) := by decide +kernel
theorem dL_isRiskSo_32 : decode cL_isRiskSo 32 = .ok (.invokevirtual 153, 3) := by decide +kernel
theorem dL_isRiskSo_35 : decode cL_isRiskSo 35 = .ok (.iload 4, 2) := by decide +kernel
theorem dL_isRiskSo_37 : decode cL_isRiskSo 37 = .ok (.if_icmp .ne 17, 3) := by decide +kernel
theorem dL_isRiskSo_40 : decode cL_isRiskSo 40 = .ok (.aload_n 0, 1) := by decide +kernel
theorem dL_isRiskSo_41 : decode cL_isRiskSo 41 = .ok (.iload 4, 2) := by decide +kernel
theorem dL_isRiskSo_43 : decode cL_isRiskSo 43 = .ok (.invokevirtual 156, 3) := by decide +kernel
theorem dL_isRiskSo_46 : decode cL_isRiskSo 46 = .ok (.iload_n 3, 1) := by decide +kernel
theorem dL_isRiskSo_47 : decode cL_isRiskSo 47 = .ok (.if_icmp .ne 7, 3) := by decide +kernel
theorem dL_isRiskSo_50 : decode cL_isRiskSo 50 = .ok (.iconst 1, 1) := by decide +kernel
theorem dL_isRiskSo_51 : decode cL_isRiskSo 51 = .ok (.goto 4, 3) := by decide +kernel
theorem dL_isRiskSo_54 : decode cL_isRiskSo 54 = .ok (.iconst 0, 1) := by decide +kernel
theorem dL_isRiskSo_55 : decode cL_isRiskSo 55 = .ok (.istore_n 2, 1) := by decide +kernel
theorem dL_isRiskSo_56 : decode cL_isRiskSo 56 = .ok (.iload_n 3, 1) := by decide +kernel
theorem dL_isRiskSo_57 : decode cL_isRiskSo 57 = .ok (.ifCond .le 113, 3) := by decide +kernel
theorem dL_isRiskSo_60 : decode cL_isRiskSo 60 = .ok (.aload_n 0, 1) := by decide +kernel
theorem dL_isRiskSo_61 : decode cL_isRiskSo 61 = .ok (.iload_n 3, 1) := by decide +kernel
theorem dL_isRiskSo_62 : decode cL_isRiskSo 62 = .ok (.iconst 1, 1) := by decide +kernel
theorem dL_isRiskSo_63 : decode cL_isRiskSo 63 = .ok (.isub, 1) := by decide +kernel
theorem dL_isRiskSo_64 : decode cL_isRiskSo 64 = .ok (.invokevirtual 150, 3) := by decide +kernel
theorem dL_isRiskSo_67 : decode cL_isRiskSo 67 = .ok (.istore 5, 2) := by decide +kernel
theorem dL_isRiskSo_69 : decode cL_isRiskSo 69 = .ok (.aload_n 0, 1) := by decide +kernel
theorem dL_isRiskSo_70 : decode cL_isRiskSo 70 = .ok (.iload 5, 2) := by decide +kernel
theorem dL_isRiskSo_72 : decode cL_isRiskSo 72 = .ok (.invokevirtual 45, 3) := by decide +kernel
theorem dL_isRiskSo_75 : decode cL_isRiskSo 75 = .ok (.i2l, 1) := by decide +kernel
theorem dL_isRiskSo_76 : decode cL_isRiskSo 76 = .ok (.aload_n 0, 1) := by decide +kernel
theorem dL_isRiskSo_77 : decode cL_isRiskSo 77 = .ok (.iload 4, 2) := by decide +kernel
theorem dL_isRiskSo_79 : decode cL_isRiskSo 79 = .ok (.invokevirtual 62, 3) := by decide +kernel
theorem dL_isRiskSo_82 : decode cL_isRiskSo 82 = .ok (.i2l, 1) := by decide +kernel
theorem dL_isRiskSo_83 : decode cL_isRiskSo 83 = .ok (.lmul, 1) := by decide +kernel
theorem dL_isRiskSo_84 : decode cL_isRiskSo 84 = .ok (.aload_n 0, 1) := by decide +kernel
theorem dL_isRiskSo_85 : decode cL_isRiskSo 85 = .ok (.iload 4, 2) := by decide +kernel
theorem dL_isRiskSo_87 : decode cL_isRiskSo 87 = .ok (.invokevirtual 45, 3) := by decide +kernel
theorem dL_isRiskSo_90 : decode cL_isRiskSo 90 = .ok (.i2l, 1) := by decide +kernel
theorem dL_isRiskSo_91 : decode cL_isRiskSo 91 = .ok (.aload_n 0, 1) := by decide +kernel
theorem dL_isRiskSo_92 : decode cL_isRiskSo 92 = .ok (.iload 5, 2) := by decide +kernel
theorem dL_isRiskSo_94 : decode cL_isRiskSo 94 = .ok (.invokevirtual 62, 3) := by decide +kernel
theorem dL_isRiskSo_97 : decode cL_isRiskSo 97 = .ok (.i2l, 1) := by decide +kernel
theorem dL_isRiskSo_98 : decode cL_isRiskSo 98 = .ok (.lmul, 1) := by decide +kernel
theorem dL_isRiskSo_99 : decode cL_isRiskSo 99 = .ok (.lsub, 1) := by decide +kernel
theorem dL_isRiskSo_100 : decode cL_isRiskSo 100 = .ok (.lstore 6, 2) := by decide +kernel
theorem dL_isRiskSo_102 : decode cL_isRiskSo 102 = .ok (.iload_n 2, 1) := by decide +kernel
theorem dL_isRiskSo_103 : decode cL_isRiskSo 103 = .ok (.ifCond .eq 65, 3) := by decide +kernel
theorem dL_isRiskSo_106 : decode cL_isRiskSo 106 = .ok (.aload_n 0, 1) := by decide +kernel
theorem dL_isRiskSo_107 : decode cL_isRiskSo 107 = .ok (.iload 5, 2) := by decide +kernel
theorem dL_isRiskSo_109 : decode cL_isRiskSo 109 = .ok (.invokevirtual 62, 3) := by decide +kernel
theorem dL_isRiskSo_112 : decode cL_isRiskSo 112 = .ok (.ifCond .ne 22, 3) := by decide +kernel
theorem dL_isRiskSo_115 : decode cL_isRiskSo 115 = .ok (.aload_n 0, 1) := by decide +kernel
theorem dL_isRiskSo_116 : decode cL_isRiskSo 116 = .ok (.iload 4, 2) := by decide +kernel
theorem dL_isRiskSo_118 : decode cL_isRiskSo 118 = .ok (.invokevirtual 62, 3) := by decide +kernel
theorem dL_isRiskSo_121 : decode cL_isRiskSo 121 = .ok (.ifCond .ne 47, 3) := by decide +kernel
theorem dL_isRiskSo_124 : decode cL_isRiskSo 124 = .ok (.iload 5, 2) := by decide +kernel
theorem dL_isRiskSo_126 : decode cL_isRiskSo 126 = .ok (.iload 4, 2) := by decide +kernel
theorem dL_isRiskSo_128 : decode cL_isRiskSo 128 = .ok (.if_icmp .ge 40, 3) := by decide +kernel
theorem dL_isRiskSo_131 : decode cL_isRiskSo 131 = .ok (.goto 33, 3) := by decide +kernel
theorem dL_isRiskSo_134 : decode cL_isRiskSo 134 = .ok (.aload_n 0, 1) := by decide +kernel
theorem dL_isRiskSo_135 : decode cL_isRiskSo 135 = .ok (.iload 4, 2) := by decide +kernel
theorem dL_isRiskSo_137 : decode cL_isRiskSo 137 = .ok (.invokevirtual 62, 3) := by decide +kernel
theorem dL_isRiskSo_140 : decode cL_isRiskSo 140 = .ok (.ifCond .eq 24, 3) := by decide +kernel
theorem dL_isRiskSo_143 : decode cL_isRiskSo 143 = .ok (.lload 6, 2) := by decide +kernel
theorem dL_isRiskSo_145 : decode cL_isRiskSo 145 = .ok (.lconst 0, 1) := by decide +kernel
theorem dL_isRiskSo_146 : decode cL_isRiskSo 146 = .ok (.lcmp, 1) := by decide +kernel
theorem dL_isRiskSo_147 : decode cL_isRiskSo 147 = .ok (.ifCond .lt 17, 3) := by decide +kernel
theorem dL_isRiskSo_150 : decode cL_isRiskSo 150 = .ok (.lload 6, 2) := by decide +kernel
theorem dL_isRiskSo_152 : decode cL_isRiskSo 152 = .ok (.lconst 0, 1) := by decide +kernel
theorem dL_isRiskSo_153 : decode cL_isRiskSo 153 = .ok (.lcmp, 1) := by decide +kernel
theorem dL_isRiskSo_154 : decode cL_isRiskSo 154 = .ok (.ifCond .ne 14, 3) := by decide +kernel
theorem dL_isRiskSo_157 : decode cL_isRiskSo 157 = .ok (.iload 5, 2) := by decide +kernel
theorem dL_isRiskSo_159 : decode cL_isRiskSo 159 = .ok (.iload 4, 2) := by decide +kernel
theorem dL_isRiskSo_161 : decode cL_isRiskSo 161 = .ok (.if_icmp .ge 7, 3) := by decide +kernel
theorem dL_isRiskSo_164 : decode cL_isRiskSo 164 = .ok (.iconst 1, 1) := by decide +kernel
theorem dL_isRiskSo_165 : decode cL_isRiskSo 165 = .ok (.goto 4, 3) := by decide +kernel
theorem dL_isRiskSo_168 : decode cL_isRiskSo 168 = .ok (.iconst 0, 1) := by decide +kernel
theorem dL_isRiskSo_169 : decode cL_isRiskSo 169 = .ok (.istore_n 2, 1) := by decide +kernel
theorem dL_isRiskSo_170 : decode cL_isRiskSo 170 = .ok (.iinc 3 1, 3) := by decide +kernel
theorem dL_isRiskSo_173 : decode cL_isRiskSo 173 = .ok (.goto (-167), 3) := by decide +kernel
theorem dL_isRiskSo_176 : decode cL_isRiskSo 176 = .ok (.iload_n 2, 1) := by decide +kernel
theorem dL_isRiskSo_177 : decode cL_isRiskSo 177 = .ok (.ifCond .eq 14, 3) := by decide +kernel
theorem dL_isRiskSo_180 : decode cL_isRiskSo 180 = .ok (.iload_n 1, 1) := by decide +kernel
theorem dL_isRiskSo_181 : decode cL_isRiskSo 181 = .ok (.sipush 255, 3) := by decide +kernel
theorem dL_isRiskSo_184 : decode cL_isRiskSo 184 = .ok (.if_icmp .ne 7, 3) := by decide +kernel
theorem dL_isRiskSo_187 : decode cL_isRiskSo 187 = .ok (.iconst 1, 1) := by decide +kernel
theorem dL_isRiskSo_188 : decode cL_isRiskSo 188 = .ok (.goto 4, 3) := by decide +kernel
theorem dL_isRiskSo_191 : decode cL_isRiskSo 191 = .ok (.iconst 0, 1) := by decide +kernel
theorem dL_isRiskSo_192 : decode cL_isRiskSo 192 = .ok (.ireturn, 1) := by decide +kernel
theorem dL_areAccountsSo_0 : decode cL_areAccountsSo 0 = .ok (.iconst 0, 1) := by decide +kernel
theorem dL_areAccountsSo_1 : decode cL_areAccountsSo 1 = .ok (.istore_n 1, 1) := by decide +kernel
theorem dL_areAccountsSo_2 : decode cL_areAccountsSo 2 = .ok (.iconst 0, 1) := by decide +kernel
theorem dL_areAccountsSo_3 : decode cL_areAccountsSo 3 = .ok (.istore_n 2, 1) := by decide +kernel
theorem dL_areAccountsSo_4 : decode cL_areAccountsSo 4 = .ok (.iconst 0, 1) := by decide +kernel
theorem dL_areAccountsSo_5 : decode cL_areAccountsSo 5 = .ok (.istore_n 3, 1) := by decide +kernel
theorem dL_areAccountsSo_6 : decode cL_areAccountsSo 6 = .ok (.iconst 1, 1) := by decide +kernel
theorem dL_areAccountsSo_7 : decode cL_areAccountsSo 7 = .ok (.istore 4, 2) := by decide +kernel
theorem dL_areAccountsSo_9 : decode cL_areAccountsSo 9 = .ok (.iconst 0, 1) := by decide +kernel
theorem dL_areAccountsSo_10 : decode cL_areAccountsSo 10 = .ok (.istore 5, 2) := by decide +kernel
theorem dL_areAccountsSo_12 : decode cL_areAccountsSo 12 = .ok (.iload 5, 2) := by decide +kernel
theorem dL_areAccountsSo_14 : decode cL_areAccountsSo 14 = .ok (.bipush 8, 2) := by decide +kernel
theorem dL_areAccountsSo_16 : decode cL_areAccountsSo 16 = .ok (.if_icmp .ge 44, 3) := by decide +kernel
theorem dL_areAccountsSo_19 : decode cL_areAccountsSo 19 = .ok (.iload_n 1, 1) := by decide +kernel
theorem dL_areAccountsSo_20 : decode cL_areAccountsSo 20 = .ok (.aload_n 0, 1) := by decide +kernel
theorem dL_areAccountsSo_21 : decode cL_areAccountsSo 21 = .ok (.iload 5, 2) := by decide +kernel
theorem dL_areAccountsSo_23 : decode cL_areAccountsSo 23 = .ok (.invokevirtual 62, 3) := by decide +kernel
theorem dL_areAccountsSo_26 : decode cL_areAccountsSo 26 = .ok (.iadd, 1) := by decide +kernel
theorem dL_areAccountsSo_27 : decode cL_areAccountsSo 27 = .ok (.istore_n 1, 1) := by decide +kernel
theorem dL_areAccountsSo_28 : decode cL_areAccountsSo 28 = .ok (.iload_n 2, 1) := by decide +kernel
theorem dL_areAccountsSo_29 : decode cL_areAccountsSo 29 = .ok (.aload_n 0, 1) := by decide +kernel
theorem dL_areAccountsSo_30 : decode cL_areAccountsSo 30 = .ok (.iload 5, 2) := by decide +kernel
theorem dL_areAccountsSo_32 : decode cL_areAccountsSo 32 = .ok (.invokevirtual 68, 3) := by decide +kernel
theorem dL_areAccountsSo_35 : decode cL_areAccountsSo 35 = .ok (.ifCond .eq 7, 3) := by decide +kernel
theorem dL_areAccountsSo_38 : decode cL_areAccountsSo 38 = .ok (.iconst 1, 1) := by decide +kernel
theorem dL_areAccountsSo_39 : decode cL_areAccountsSo 39 = .ok (.goto 4, 3) := by decide +kernel
theorem dL_areAccountsSo_42 : decode cL_areAccountsSo 42 = .ok (.iconst 0, 1) := by decide +kernel
theorem dL_areAccountsSo_43 : decode cL_areAccountsSo 43 = .ok (.iadd, 1) := by decide +kernel
theorem dL_areAccountsSo_44 : decode cL_areAccountsSo 44 = .ok (.istore_n 2, 1) := by decide +kernel
theorem dL_areAccountsSo_45 : decode cL_areAccountsSo 45 = .ok (.iload_n 3, 1) := by decide +kernel
theorem dL_areAccountsSo_46 : decode cL_areAccountsSo 46 = .ok (.aload_n 0, 1) := by decide +kernel
theorem dL_areAccountsSo_47 : decode cL_areAccountsSo 47 = .ok (.iload 5, 2) := by decide +kernel
theorem dL_areAccountsSo_49 : decode cL_areAccountsSo 49 = .ok (.invokevirtual 45, 3) := by decide +kernel
theorem dL_areAccountsSo_52 : decode cL_areAccountsSo 52 = .ok (.iadd, 1) := by decide +kernel
theorem dL_areAccountsSo_53 : decode cL_areAccountsSo 53 = .ok (.istore_n 3, 1) := by decide +kernel
theorem dL_areAccountsSo_54 : decode cL_areAccountsSo 54 = .ok (.iinc 5 1, 3) := by decide +kernel
theorem dL_areAccountsSo_57 : decode cL_areAccountsSo 57 = .ok (.goto (-45), 3) := by decide +kernel
theorem dL_areAccountsSo_60 : decode cL_areAccountsSo 60 = .ok (.iconst 0, 1) := by decide +kernel
theorem dL_areAccountsSo_61 : decode cL_areAccountsSo 61 = .ok (.istore 5, 2) := by decide +kernel
theorem dL_areAccountsSo_63 : decode cL_areAccountsSo 63 = .ok (.iload 5, 2) := by decide +kernel
theorem dL_areAccountsSo_65 : decode cL_areAccountsSo 65 = .ok (.bipush 6, 2) := by decide +kernel
theorem dL_areAccountsSo_67 : decode cL_areAccountsSo 67 = .ok (.if_icmp .ge 73, 3) := by decide +kernel
theorem dL_areAccountsSo_70 : decode cL_areAccountsSo 70 = .ok (.iconst 0, 1) := by decide +kernel
theorem dL_areAccountsSo_71 : decode cL_areAccountsSo 71 = .ok (.istore 6, 2) := by decide +kernel
theorem dL_areAccountsSo_73 : decode cL_areAccountsSo 73 = .ok (.iconst 0, 1) := by decide +kernel
theorem dL_areAccountsSo_74 : decode cL_areAccountsSo 74 = .ok (.istore 7, 2) := by decide +kernel
theorem dL_areAccountsSo_76 : decode cL_areAccountsSo 76 = .ok (.iload 7, 2) := by decide +kernel
theorem dL_areAccountsSo_78 : decode cL_areAccountsSo 78 = .ok (.bipush 8, 2) := by decide +kernel
theorem dL_areAccountsSo_80 : decode cL_areAccountsSo 80 = .ok (.if_icmp .ge 22, 3) := by decide +kernel
theorem dL_areAccountsSo_83 : decode cL_areAccountsSo 83 = .ok (.iload 6, 2) := by decide +kernel
theorem dL_areAccountsSo_85 : decode cL_areAccountsSo 85 = .ok (.aload_n 0, 1) := by decide +kernel
theorem dL_areAccountsSo_86 : decode cL_areAccountsSo 86 = .ok (.iload 7, 2) := by decide +kernel
theorem dL_areAccountsSo_88 : decode cL_areAccountsSo 88 = .ok (.iload 5, 2) := by decide +kernel
theorem dL_areAccountsSo_90 : decode cL_areAccountsSo 90 = .ok (.invokevirtual 42, 3) := by decide +kernel
theorem dL_areAccountsSo_93 : decode cL_areAccountsSo 93 = .ok (.iadd, 1) := by decide +kernel
theorem dL_areAccountsSo_94 : decode cL_areAccountsSo 94 = .ok (.istore 6, 2) := by decide +kernel
theorem dL_areAccountsSo_96 : decode cL_areAccountsSo 96 = .ok (.iinc 7 1, 3) := by decide +kernel
theorem dL_areAccountsSo_99 : decode cL_areAccountsSo 99 = .ok (.goto (-23), 3) := by decide +kernel
theorem dL_areAccountsSo_102 : decode cL_areAccountsSo 102 = .ok (.iload 4, 2) := by decide +kernel
theorem dL_areAccountsSo_104 : decode cL_areAccountsSo 104 = .ok (.ifCond .eq 27, 3) := by decide +kernel
theorem dL_areAccountsSo_107 : decode cL_areAccountsSo 107 = .ok (.aload_n 0, 1) := by decide +kernel
theorem dL_areAccountsSo_108 : decode cL_areAccountsSo 108 = .ok (.iload 5, 2) := by decide +kernel
theorem dL_areAccountsSo_110 : decode cL_areAccountsSo 110 = .ok (.invokevirtual 159, 3) := by decide +kernel
theorem dL_areAccountsSo_113 : decode cL_areAccountsSo 113 = .ok (.iload 6, 2) := by decide +kernel
theorem dL_areAccountsSo_115 : decode cL_areAccountsSo 115 = .ok (.if_icmp .ne 16, 3) := by decide +kernel
theorem dL_areAccountsSo_118 : decode cL_areAccountsSo 118 = .ok (.aload_n 0, 1) := by decide +kernel
theorem dL_areAccountsSo_119 : decode cL_areAccountsSo 119 = .ok (.iload 5, 2) := by decide +kernel
theorem dL_areAccountsSo_121 : decode cL_areAccountsSo 121 = .ok (.invokevirtual 162, 3) := by decide +kernel
theorem dL_areAccountsSo_124 : decode cL_areAccountsSo 124 = .ok (.ifCond .lt 7, 3) := by decide +kernel
theorem dL_areAccountsSo_127 : decode cL_areAccountsSo 127 = .ok (.iconst 1, 1) := by decide +kernel
theorem dL_areAccountsSo_128 : decode cL_areAccountsSo 128 = .ok (.goto 4, 3) := by decide +kernel
theorem dL_areAccountsSo_131 : decode cL_areAccountsSo 131 = .ok (.iconst 0, 1) := by decide +kernel
theorem dL_areAccountsSo_132 : decode cL_areAccountsSo 132 = .ok (.istore 4, 2) := by decide +kernel
theorem dL_areAccountsSo_134 : decode cL_areAccountsSo 134 = .ok (.iinc 5 1, 3) := by decide +kernel
theorem dL_areAccountsSo_137 : decode cL_areAccountsSo 137 = .ok (.goto (-74), 3) := by decide +kernel
theorem dL_areAccountsSo_140 : decode cL_areAccountsSo 140 = .ok (.iload 4, 2) := by decide +kernel
theorem dL_areAccountsSo_142 : decode cL_areAccountsSo 142 = .ok (.ifCond .eq 54, 3) := by decide +kernel
theorem dL_areAccountsSo_145 : decode cL_areAccountsSo 145 = .ok (.aload_n 0, 1) := by decide +kernel
theorem dL_areAccountsSo_146 : decode cL_areAccountsSo 146 = .ok (.invokevirtual 113, 3) := by decide +kernel
theorem dL_areAccountsSo_149 : decode cL_areAccountsSo 149 = .ok (.iload_n 1, 1) := by decide +kernel
theorem dL_areAccountsSo_150 : decode cL_areAccountsSo 150 = .ok (.if_icmp .ne 46, 3) := by decide +kernel
theorem dL_areAccountsSo_153 : decode cL_areAccountsSo 153 = .ok (.aload_n 0, 1) := by decide +kernel
theorem dL_areAccountsSo_154 : decode cL_areAccountsSo 154 = .ok (.invokevirtual 119, 3) := by decide +kernel
theorem dL_areAccountsSo_157 : decode cL_areAccountsSo 157 = .ok (.iload_n 1, 1) := by decide +kernel
theorem dL_areAccountsSo_158 : decode cL_areAccountsSo 158 = .ok (.if_icmp .ne 38, 3) := by decide +kernel
theorem dL_areAccountsSo_161 : decode cL_areAccountsSo 161 = .ok (.aload_n 0, 1) := by decide +kernel
theorem dL_areAccountsSo_162 : decode cL_areAccountsSo 162 = .ok (.invokevirtual 101, 3) := by decide +kernel
theorem dL_areAccountsSo_165 : decode cL_areAccountsSo 165 = .ok (.aload_n 0, 1) := by decide +kernel
theorem dL_areAccountsSo_166 : decode cL_areAccountsSo 166 = .ok (.invokevirtual 165, 3) := by decide +kernel
theorem dL_areAccountsSo_169 : decode cL_areAccountsSo 169 = .ok (.iadd, 1) := by decide +kernel
theorem dL_areAccountsSo_170 : decode cL_areAccountsSo 170 = .ok (.aload_n 0, 1) := by decide +kernel
theorem dL_areAccountsSo_171 : decode cL_areAccountsSo 171 = .ok (.invokevirtual 168, 3) := by decide +kernel
theorem dL_areAccountsSo_174 : decode cL_areAccountsSo 174 = .ok (.isub, 1) := by decide +kernel
theorem dL_areAccountsSo_175 : decode cL_areAccountsSo 175 = .ok (.aload_n 0, 1) := by decide +kernel
theorem dL_areAccountsSo_176 : decode cL_areAccountsSo 176 = .ok (.invokevirtual 171, 3) := by decide +kernel
theorem dL_areAccountsSo_179 : decode cL_areAccountsSo 179 = .ok (.isub, 1) := by decide +kernel
theorem dL_areAccountsSo_180 : decode cL_areAccountsSo 180 = .ok (.iload_n 1, 1) := by decide +kernel
theorem dL_areAccountsSo_181 : decode cL_areAccountsSo 181 = .ok (.if_icmp .ne 15, 3) := by decide +kernel
theorem dL_areAccountsSo_184 : decode cL_areAccountsSo 184 = .ok (.aload_n 0, 1) := by decide +kernel
theorem dL_areAccountsSo_185 : decode cL_areAccountsSo 185 = .ok (.invokevirtual 39, 3) := by decide +kernel
theorem dL_areAccountsSo_188 : decode cL_areAccountsSo 188 = .ok (.iload_n 2, 1) := by decide +kernel
theorem dL_areAccountsSo_189 : decode cL_areAccountsSo 189 = .ok (.if_icmp .ne 7, 3) := by decide +kernel
theorem dL_areAccountsSo_192 : decode cL_areAccountsSo 192 = .ok (.iconst 1, 1) := by decide +kernel
theorem dL_areAccountsSo_193 : decode cL_areAccountsSo 193 = .ok (.goto 4, 3) := by decide +kernel
theorem dL_areAccountsSo_196 : decode cL_areAccountsSo 196 = .ok (.iconst 0, 1) := by decide +kernel
theorem dL_areAccountsSo_197 : decode cL_areAccountsSo 197 = .ok (.istore 4, 2) := by decide +kernel
theorem dL_areAccountsSo_199 : decode cL_areAccountsSo 199 = .ok (.iload 4, 2) := by decide +kernel
theorem dL_areAccountsSo_201 : decode cL_areAccountsSo 201 = .ok (.ifCond .eq 53, 3) := by decide +kernel
theorem dL_areAccountsSo_204 : decode cL_areAccountsSo 204 = .ok (.iload_n 3, 1) := by decide +kernel
theorem dL_areAccountsSo_205 : decode cL_areAccountsSo 205 = .ok (.ifCond .ne 15, 3) := by decide +kernel
theorem dL_areAccountsSo_208 : decode cL_areAccountsSo 208 = .ok (.aload_n 0, 1) := by decide +kernel
theorem dL_areAccountsSo_209 : decode cL_areAccountsSo 209 = .ok (.invokevirtual 174, 3) := by decide +kernel
theorem dL_areAccountsSo_212 : decode cL_areAccountsSo 212 = .ok (.dconst 0, 1) := by decide +kernel
theorem dL_areAccountsSo_213 : decode cL_areAccountsSo 213 = .ok (.dcmp .l, 1) := by decide +kernel
theorem dL_areAccountsSo_214 : decode cL_areAccountsSo 214 = .ok (.ifCond .ne 40, 3) := by decide +kernel
theorem dL_areAccountsSo_217 : decode cL_areAccountsSo 217 = .ok (.goto 33, 3) := by decide +kernel
theorem dL_areAccountsSo_220 : decode cL_areAccountsSo 220 = .ok (.aload_n 0, 1) := by decide +kernel
theorem dL_areAccountsSo_221 : decode cL_areAccountsSo 221 = .ok (.invokevirtual 174, 3) := by decide +kernel
theorem dL_areAccountsSo_224 : decode cL_areAccountsSo 224 = .ok (.iload_n 3, 1) := by decide +kernel
theorem dL_areAccountsSo_225 : decode cL_areAccountsSo 225 = .ok (.i2d, 1) := by decide +kernel
theorem dL_areAccountsSo_226 : decode cL_areAccountsSo 226 = .ok (.dmul, 1) := by decide +kernel
theorem dL_areAccountsSo_227 : decode cL_areAccountsSo 227 = .ok (.iload_n 1, 1) := by decide +kernel
theorem dL_areAccountsSo_228 : decode cL_areAccountsSo 228 = .ok (.iconst 1, 1) := by decide +kernel
theorem dL_areAccountsSo_229 : decode cL_areAccountsSo 229 = .ok (.isub, 1) := by decide +kernel
theorem dL_areAccountsSo_230 : decode cL_areAccountsSo 230 = .ok (.i2d, 1) := by decide +kernel
theorem dL_areAccountsSo_231 : decode cL_areAccountsSo 231 = .ok (.dcmp .l, 1) := by decide +kernel
theorem dL_areAccountsSo_232 : decode cL_areAccountsSo 232 = .ok (.ifCond .le 22, 3) := by decide +kernel
theorem dL_areAccountsSo_235 : decode cL_areAccountsSo 235 = .ok (.aload_n 0, 1) := by decide +kernel
theorem dL_areAccountsSo_236 : decode cL_areAccountsSo 236 = .ok (.invokevirtual 174, 3) := by decide +kernel
theorem dL_areAccountsSo_239 : decode cL_areAccountsSo 239 = .ok (.iload_n 3, 1) := by decide +kernel
theorem dL_areAccountsSo_240 : decode cL_areAccountsSo 240 = .ok (.i2d, 1) := by decide +kernel
theorem dL_areAccountsSo_241 : decode cL_areAccountsSo 241 = .ok (.dmul, 1) := by decide +kernel
theorem dL_areAccountsSo_242 : decode cL_areAccountsSo 242 = .ok (.iload_n 1, 1) := by decide +kernel
theorem dL_areAccountsSo_243 : decode cL_areAccountsSo 243 = .ok (.iconst 1, 1) := by decide +kernel
theorem dL_areAccountsSo_244 : decode cL_areAccountsSo 244 = .ok (.iadd, 1) := by decide +kernel
theorem dL_areAccountsSo_245 : decode cL_areAccountsSo 245 = .ok (.i2d, 1) := by decide +kernel
theorem dL_areAccountsSo_246 : decode cL_areAccountsSo 246 = .ok (.dcmp .g, 1) := by decide +kernel
theorem dL_areAccountsSo_247 : decode cL_areAccountsSo 247 = .ok (.ifCond .ge 7, 3) := by decide +kernel
theorem dL_areAccountsSo_250 : decode cL_areAccountsSo 250 = .ok (.iconst 1, 1) := by decide +kernel
theorem dL_areAccountsSo_251 : decode cL_areAccountsSo 251 = .ok (.goto 4, 3) := by decide +kernel
theorem dL_areAccountsSo_254 : decode cL_areAccountsSo 254 = .ok (.iconst 0, 1) := by decide +kernel
theorem dL_areAccountsSo_255 : decode cL_areAccountsSo 255 = .ok (.ireturn, 1) := by decide +kernel
theorem dL_law_0 : decode cL_law 0 = .ok (.new 15, 3) := by decide +kernel
theorem dL_law_3 : decode cL_law 3 = .ok (.dup, 1) := by decide +kernel
theorem dL_law_4 : decode cL_law 4 = .ok (.invokespecial 178, 3) := by decide +kernel
theorem dL_law_7 : decode cL_law 7 = .ok (.astore_n 1, 1) := by decide +kernel
theorem dL_law_8 : decode cL_law 8 = .ok (.iconst 0, 1) := by decide +kernel
theorem dL_law_9 : decode cL_law 9 = .ok (.istore_n 2, 1) := by decide +kernel
theorem dL_law_10 : decode cL_law 10 = .ok (.iload_n 2, 1) := by decide +kernel
theorem dL_law_11 : decode cL_law 11 = .ok (.bipush 50, 2) := by decide +kernel
theorem dL_law_13 : decode cL_law 13 = .ok (.if_icmp .ge 65, 3) := by decide +kernel
theorem dL_law_16 : decode cL_law 16 = .ok (.aload_n 0, 1) := by decide +kernel
theorem dL_law_17 : decode cL_law 17 = .ok (.iload_n 2, 1) := by decide +kernel
theorem dL_law_18 : decode cL_law 18 = .ok (.invokestatic 179, 3) := by decide +kernel
theorem dL_law_21 : decode cL_law 21 = .ok (.istore_n 3, 1) := by decide +kernel
theorem dL_law_22 : decode cL_law 22 = .ok (.aload_n 0, 1) := by decide +kernel
theorem dL_law_23 : decode cL_law 23 = .ok (.iload_n 2, 1) := by decide +kernel
theorem dL_law_24 : decode cL_law 24 = .ok (.bipush 14, 2) := by decide +kernel
theorem dL_law_26 : decode cL_law 26 = .ok (.iadd, 1) := by decide +kernel
theorem dL_law_27 : decode cL_law 27 = .ok (.invokestatic 179, 3) := by decide +kernel
theorem dL_law_30 : decode cL_law 30 = .ok (.istore 4, 2) := by decide +kernel
theorem dL_law_32 : decode cL_law 32 = .ok (.aload_n 1, 1) := by decide +kernel
theorem dL_law_33 : decode cL_law 33 = .ok (.iload_n 3, 1) := by decide +kernel
theorem dL_law_34 : decode cL_law 34 = .ok (.iload 4, 2) := by decide +kernel
theorem dL_law_36 : decode cL_law 36 = .ok (.invokestatic 183, 3) := by decide +kernel
theorem dL_law_39 : decode cL_law 39 = .ok (.ifCond .eq 31, 3) := by decide +kernel
theorem dL_law_42 : decode cL_law 42 = .ok (.aload_n 1, 1) := by decide +kernel
theorem dL_law_43 : decode cL_law 43 = .ok (.iload_n 3, 1) := by decide +kernel
theorem dL_law_44 : decode cL_law 44 = .ok (.iconst 3, 1) := by decide +kernel
theorem dL_law_45 : decode cL_law 45 = .ok (.ishr, 1) := by decide +kernel
theorem dL_law_46 : decode cL_law 46 = .ok (.iconst 3, 1) := by decide +kernel
theorem dL_law_47 : decode cL_law 47 = .ok (.invokestatic 8, 3) := by decide +kernel
theorem dL_law_50 : decode cL_law 50 = .ok (.invokestatic 186, 3) := by decide +kernel
theorem dL_law_53 : decode cL_law 53 = .ok (.ifCond .eq 17, 3) := by decide +kernel
theorem dL_law_56 : decode cL_law 56 = .ok (.aload_n 1, 1) := by decide +kernel
theorem dL_law_57 : decode cL_law 57 = .ok (.invokestatic 189, 3) := by decide +kernel
theorem dL_law_60 : decode cL_law 60 = .ok (.ifCond .eq 10, 3) := by decide +kernel
theorem dL_law_63 : decode cL_law 63 = .ok (.aload_n 1, 1) := by decide +kernel
theorem dL_law_64 : decode cL_law 64 = .ok (.invokestatic 193, 3) := by decide +kernel
theorem dL_law_67 : decode cL_law 67 = .ok (.ifCond .ne 5, 3) := by decide +kernel
theorem dL_law_70 : decode cL_law 70 = .ok (.iconst 0, 1) := by decide +kernel
theorem dL_law_71 : decode cL_law 71 = .ok (.ireturn, 1) := by decide +kernel
theorem dL_law_72 : decode cL_law 72 = .ok (.iinc 2 1, 3) := by decide +kernel
theorem dL_law_75 : decode cL_law 75 = .ok (.goto (-65), 3) := by decide +kernel
theorem dL_law_78 : decode cL_law 78 = .ok (.iconst 1, 1) := by decide +kernel
theorem dL_law_79 : decode cL_law 79 = .ok (.ireturn, 1) := by decide +kernel
