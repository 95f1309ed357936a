theorem dL_name_84 : decode cL_name 84 = .ok (.iconst 0, 1) := by decide +kernel
theorem dL_name_85 : decode cL_name 85 = .ok (.if_icmp .eq 5, 3) := by decide +kernel
theorem dL_name_88 : decode cL_name 88 = .ok (.iconst 0, 1) := by decide +kernel
theorem dL_name_89 : decode cL_name 89 = .ok (.ireturn, 1) := by decide +kernel
theorem dL_name_90 : decode cL_name 90 = .ok (.iload 6, 2) := by decide +kernel
theorem dL_name_92 : decode cL_name 92 = .ok (.ifCond .eq 11, 3) := by decide +kernel
theorem dL_name_95 : decode cL_name 95 = .ok (.iload 6, 2) := by decide +kernel
theorem dL_name_97 : decode cL_name 97 = .ok (.iload_n 2, 1) := by decide +kernel
theorem dL_name_98 : decode cL_name 98 = .ok (.iconst 1, 1) := by decide +kernel
theorem dL_name_99 : decode cL_name 99 = .ok (.isub, 1) := by decide +kernel
theorem dL_name_100 : decode cL_name 100 = .ok (.if_icmp .ne 38, 3) := by decide +kernel
theorem dL_name_103 : decode cL_name 103 = .ok (.aload_n 0, 1) := by decide +kernel
theorem dL_name_104 : decode cL_name 104 = .ok (.iload_n 1, 1) := by decide +kernel
theorem dL_name_105 : decode cL_name 105 = .ok (.iload 6, 2) := by decide +kernel
theorem dL_name_107 : decode cL_name 107 = .ok (.iconst 5, 1) := by decide +kernel
theorem dL_name_108 : decode cL_name 108 = .ok (.invokevirtual 34, 3) := by decide +kernel
theorem dL_name_111 : decode cL_name 111 = .ok (.iload 5, 2) := by decide +kernel
theorem dL_name_113 : decode cL_name 113 = .ok (.ifCond .ne 9, 3) := by decide +kernel
theorem dL_name_116 : decode cL_name 116 = .ok (.sipush (-1005), 3) := by decide +kernel
theorem dL_name_119 : decode cL_name 119 = .ok (.goto 14, 3) := by decide +kernel
theorem dL_name_122 : decode cL_name 122 = .ok (.aload_n 0, 1) := by decide +kernel
theorem dL_name_123 : decode cL_name 123 = .ok (.iload_n 1, 1) := by decide +kernel
theorem dL_name_124 : decode cL_name 124 = .ok (.iconst 5, 1) := by decide +kernel
theorem dL_name_125 : decode cL_name 125 = .ok (.invokevirtual 19, 3) := by decide +kernel
theorem dL_name_128 : decode cL_name 128 = .ok (.iload 5, 2) := by decide +kernel
theorem dL_name_130 : decode cL_name 130 = .ok (.iload_n 3, 1) := by decide +kernel
theorem dL_name_131 : decode cL_name 131 = .ok (.imul, 1) := by decide +kernel
theorem dL_name_132 : decode cL_name 132 = .ok (.iadd, 1) := by decide +kernel
theorem dL_name_133 : decode cL_name 133 = .ok (.if_icmp .eq 5, 3) := by decide +kernel
theorem dL_name_136 : decode cL_name 136 = .ok (.iconst 0, 1) := by decide +kernel
theorem dL_name_137 : decode cL_name 137 = .ok (.ireturn, 1) := by decide +kernel
theorem dL_name_138 : decode cL_name 138 = .ok (.iload 4, 2) := by decide +kernel
theorem dL_name_140 : decode cL_name 140 = .ok (.iload 7, 2) := by decide +kernel
theorem dL_name_142 : decode cL_name 142 = .ok (.bipush 45, 2) := by decide +kernel
theorem dL_name_144 : decode cL_name 144 = .ok (.if_icmp .ne 7, 3) := by decide +kernel
theorem dL_name_147 : decode cL_name 147 = .ok (.iconst 2, 1) := by decide +kernel
theorem dL_name_148 : decode cL_name 148 = .ok (.goto 25, 3) := by decide +kernel
theorem dL_name_151 : decode cL_name 151 = .ok (.iload 7, 2) := by decide +kernel
theorem dL_name_153 : decode cL_name 153 = .ok (.bipush 46, 2) := by decide +kernel
theorem dL_name_155 : decode cL_name 155 = .ok (.if_icmp .ne 7, 3) := by decide +kernel
theorem dL_name_158 : decode cL_name 158 = .ok (.iconst 1, 1) := by decide +kernel
theorem dL_name_159 : decode cL_name 159 = .ok (.goto 14, 3) := by decide +kernel
theorem dL_name_162 : decode cL_name 162 = .ok (.iconst 1, 1) := by decide +kernel
theorem dL_name_163 : decode cL_name 163 = .ok (.iload 7, 2) := by decide +kernel
theorem dL_name_165 : decode cL_name 165 = .ok (.bipush 65, 2) := by decide +kernel
theorem dL_name_167 : decode cL_name 167 = .ok (.isub, 1) := by decide +kernel
theorem dL_name_168 : decode cL_name 168 = .ok (.iconst 3, 1) := by decide +kernel
theorem dL_name_169 : decode cL_name 169 = .ok (.imul, 1) := by decide +kernel
theorem dL_name_170 : decode cL_name 170 = .ok (.iconst 5, 1) := by decide +kernel
theorem dL_name_171 : decode cL_name 171 = .ok (.irem, 1) := by decide +kernel
theorem dL_name_172 : decode cL_name 172 = .ok (.iadd, 1) := by decide +kernel
theorem dL_name_173 : decode cL_name 173 = .ok (.iadd, 1) := by decide +kernel
theorem dL_name_174 : decode cL_name 174 = .ok (.istore 4, 2) := by decide +kernel
theorem dL_name_176 : decode cL_name 176 = .ok (.iload_n 3, 1) := by decide +kernel
theorem dL_name_177 : decode cL_name 177 = .ok (.aload_n 0, 1) := by decide +kernel
theorem dL_name_178 : decode cL_name 178 = .ok (.iload_n 1, 1) := by decide +kernel
theorem dL_name_179 : decode cL_name 179 = .ok (.iload 6, 2) := by decide +kernel
theorem dL_name_181 : decode cL_name 181 = .ok (.iconst 2, 1) := by decide +kernel
theorem dL_name_182 : decode cL_name 182 = .ok (.invokevirtual 34, 3) := by decide +kernel
theorem dL_name_185 : decode cL_name 185 = .ok (.iadd, 1) := by decide +kernel
theorem dL_name_186 : decode cL_name 186 = .ok (.istore_n 3, 1) := by decide +kernel
theorem dL_name_187 : decode cL_name 187 = .ok (.iload 6, 2) := by decide +kernel
theorem dL_name_189 : decode cL_name 189 = .ok (.iload_n 2, 1) := by decide +kernel
theorem dL_name_190 : decode cL_name 190 = .ok (.iconst 1, 1) := by decide +kernel
theorem dL_name_191 : decode cL_name 191 = .ok (.isub, 1) := by decide +kernel
theorem dL_name_192 : decode cL_name 192 = .ok (.if_icmp .ge 131, 3) := by decide +kernel
theorem dL_name_195 : decode cL_name 195 = .ok (.aload_n 0, 1) := by decide +kernel
theorem dL_name_196 : decode cL_name 196 = .ok (.iload_n 1, 1) := by decide +kernel
theorem dL_name_197 : decode cL_name 197 = .ok (.iload 6, 2) := by decide +kernel
theorem dL_name_199 : decode cL_name 199 = .ok (.iconst 1, 1) := by decide +kernel
theorem dL_name_200 : decode cL_name 200 = .ok (.iadd, 1) := by decide +kernel
theorem dL_name_201 : decode cL_name 201 = .ok (.iconst 0, 1) := by decide +kernel
theorem dL_name_202 : decode cL_name 202 = .ok (.invokevirtual 34, 3) := by decide +kernel
theorem dL_name_205 : decode cL_name 205 = .ok (.istore 9, 2) := by decide +kernel
theorem dL_name_207 : decode cL_name 207 = .ok (.iload 7, 2) := by decide +kernel
theorem dL_name_209 : decode cL_name 209 = .ok (.bipush 65, 2) := by decide +kernel
theorem dL_name_211 : decode cL_name 211 = .ok (.if_icmp .ge 7, 3) := by decide +kernel
theorem dL_name_214 : decode cL_name 214 = .ok (.iconst 2, 1) := by decide +kernel
theorem dL_name_215 : decode cL_name 215 = .ok (.goto 10, 3) := by decide +kernel
theorem dL_name_218 : decode cL_name 218 = .ok (.iload 7, 2) := by decide +kernel
theorem dL_name_220 : decode cL_name 220 = .ok (.bipush 65, 2) := by decide +kernel
theorem dL_name_222 : decode cL_name 222 = .ok (.isub, 1) := by decide +kernel
theorem dL_name_223 : decode cL_name 223 = .ok (.iconst 3, 1) := by decide +kernel
theorem dL_name_224 : decode cL_name 224 = .ok (.irem, 1) := by decide +kernel
theorem dL_name_225 : decode cL_name 225 = .ok (.iload 9, 2) := by decide +kernel
theorem dL_name_227 : decode cL_name 227 = .ok (.bipush 65, 2) := by decide +kernel
theorem dL_name_229 : decode cL_name 229 = .ok (.if_icmp .ge 7, 3) := by decide +kernel
theorem dL_name_232 : decode cL_name 232 = .ok (.iconst 2, 1) := by decide +kernel
theorem dL_name_233 : decode cL_name 233 = .ok (.goto 10, 3) := by decide +kernel
theorem dL_name_236 : decode cL_name 236 = .ok (.iload 9, 2) := by decide +kernel
theorem dL_name_238 : decode cL_name 238 = .ok (.bipush 65, 2) := by decide +kernel
theorem dL_name_240 : decode cL_name 240 = .ok (.isub, 1) := by decide +kernel
theorem dL_name_241 : decode cL_name 241 = .ok (.iconst 3, 1) := by decide +kernel
theorem dL_name_242 : decode cL_name 242 = .ok (.irem, 1) := by decide +kernel
theorem dL_name_243 : decode cL_name 243 = .ok (.iadd, 1) := by decide +kernel
theorem dL_name_244 : decode cL_name 244 = .ok (.istore 10, 2) := by decide +kernel
theorem dL_name_246 : decode cL_name 246 = .ok (.bipush 6, 2) := by decide +kernel
theorem dL_name_248 : decode cL_name 248 = .ok (.iload 10, 2) := by decide +kernel
theorem dL_name_250 : decode cL_name 250 = .ok (.isub, 1) := by decide +kernel
theorem dL_name_251 : decode cL_name 251 = .ok (.aload_n 0, 1) := by decide +kernel
theorem dL_name_252 : decode cL_name 252 = .ok (.iload 7, 2) := by decide +kernel
theorem dL_name_254 : decode cL_name 254 = .ok (.i2c, 1) := by decide +kernel
theorem dL_name_255 : decode cL_name 255 = .ok (.iload 9, 2) := by decide +kernel
theorem dL_name_257 : decode cL_name 257 = .ok (.i2c, 1) := by decide +kernel
theorem dL_name_258 : decode cL_name 258 = .ok (.invokevirtual 38, 3) := by decide +kernel
theorem dL_name_261 : decode cL_name 261 = .ok (.iadd, 1) := by decide +kernel
theorem dL_name_262 : decode cL_name 262 = .ok (.istore 11, 2) := by decide +kernel
theorem dL_name_264 : decode cL_name 264 = .ok (.iload 8, 2) := by decide +kernel
theorem dL_name_266 : decode cL_name 266 = .ok (.iload 11, 2) := by decide +kernel
theorem dL_name_268 : decode cL_name 268 = .ok (.iconst 1, 1) := by decide +kernel
theorem dL_name_269 : decode cL_name 269 = .ok (.if_icmp .ge 7, 3) := by decide +kernel
theorem dL_name_272 : decode cL_name 272 = .ok (.iconst 1, 1) := by decide +kernel
theorem dL_name_273 : decode cL_name 273 = .ok (.goto 5, 3) := by decide +kernel
theorem dL_name_276 : decode cL_name 276 = .ok (.iload 11, 2) := by decide +kernel
theorem dL_name_278 : decode cL_name 278 = .ok (.if_icmp .ne 38, 3) := by decide +kernel
theorem dL_name_281 : decode cL_name 281 = .ok (.aload_n 0, 1) := by decide +kernel
theorem dL_name_282 : decode cL_name 282 = .ok (.iload_n 1, 1) := by decide +kernel
theorem dL_name_283 : decode cL_name 283 = .ok (.iload 6, 2) := by decide +kernel
theorem dL_name_285 : decode cL_name 285 = .ok (.iconst 4, 1) := by decide +kernel
theorem dL_name_286 : decode cL_name 286 = .ok (.invokevirtual 34, 3) := by decide +kernel
theorem dL_name_289 : decode cL_name 289 = .ok (.iload 8, 2) := by decide +kernel
theorem dL_name_291 : decode cL_name 291 = .ok (.iload 10, 2) := by decide +kernel
theorem dL_name_293 : decode cL_name 293 = .ok (.iadd, 1) := by decide +kernel
theorem dL_name_294 : decode cL_name 294 = .ok (.if_icmp .ne 22, 3) := by decide +kernel
theorem dL_name_297 : decode cL_name 297 = .ok (.iload 7, 2) := by decide +kernel
theorem dL_name_299 : decode cL_name 299 = .ok (.bipush 65, 2) := by decide +kernel
theorem dL_name_301 : decode cL_name 301 = .ok (.if_icmp .ge 17, 3) := by decide +kernel
theorem dL_name_304 : decode cL_name 304 = .ok (.iload 9, 2) := by decide +kernel
theorem dL_name_306 : decode cL_name 306 = .ok (.bipush 65, 2) := by decide +kernel
theorem dL_name_308 : decode cL_name 308 = .ok (.if_icmp .lt 8, 3) := by decide +kernel
theorem dL_name_311 : decode cL_name 311 = .ok (.iload 6, 2) := by decide +kernel
theorem dL_name_313 : decode cL_name 313 = .ok (.ifCond .ne 5, 3) := by decide +kernel
theorem dL_name_316 : decode cL_name 316 = .ok (.iconst 0, 1) := by decide +kernel
theorem dL_name_317 : decode cL_name 317 = .ok (.ireturn, 1) := by decide +kernel
theorem dL_name_318 : decode cL_name 318 = .ok (.iload_n 3, 1) := by decide +kernel
theorem dL_name_319 : decode cL_name 319 = .ok (.iload 8, 2) := by decide +kernel
theorem dL_name_321 : decode cL_name 321 = .ok (.iadd, 1) := by decide +kernel
theorem dL_name_322 : decode cL_name 322 = .ok (.istore_n 3, 1) := by decide +kernel
theorem dL_name_323 : decode cL_name 323 = .ok (.iinc 6 1, 3) := by decide +kernel
theorem dL_name_326 : decode cL_name 326 = .ok (.goto (-305), 3) := by decide +kernel
theorem dL_name_329 : decode cL_name 329 = .ok (.aload_n 0, 1) := by decide +kernel
theorem dL_name_330 : decode cL_name 330 = .ok (.iconst 3, 1) := by decide +kernel
theorem dL_name_331 : decode cL_name 331 = .ok (.invokevirtual 13, 3) := by decide +kernel
theorem dL_name_334 : decode cL_name 334 = .ok (.istore 6, 2) := by decide +kernel
theorem dL_name_336 : decode cL_name 336 = .ok (.aload_n 0, 1) := by decide +kernel
theorem dL_name_337 : decode cL_name 337 = .ok (.iconst 0, 1) := by decide +kernel
theorem dL_name_338 : decode cL_name 338 = .ok (.invokevirtual 13, 3) := by decide +kernel
theorem dL_name_341 : decode cL_name 341 = .ok (.iconst 2, 1) := by decide +kernel
theorem dL_name_342 : decode cL_name 342 = .ok (.aload_n 0, 1) := by decide +kernel
theorem dL_name_343 : decode cL_name 343 = .ok (.iconst 2, 1) := by decide +kernel
theorem dL_name_344 : decode cL_name 344 = .ok (.invokevirtual 13, 3) := by decide +kernel
theorem dL_name_347 : decode cL_name 347 = .ok (.imul, 1) := by decide +kernel
theorem dL_name_348 : decode cL_name 348 = .ok (.isub, 1) := by decide +kernel
theorem dL_name_349 : decode cL_name 349 = .ok (.iload 6, 2) := by decide +kernel
theorem dL_name_351 : decode cL_name 351 = .ok (.idiv, 1) := by decide +kernel
theorem dL_name_352 : decode cL_name 352 = .ok (.istore 7, 2) := by decide +kernel
theorem dL_name_354 : decode cL_name 354 = .ok (.aload_n 0, 1) := by decide +kernel
theorem dL_name_355 : decode cL_name 355 = .ok (.iconst 2, 1) := by decide +kernel
theorem dL_name_356 : decode cL_name 356 = .ok (.invokevirtual 13, 3) := by decide +kernel
theorem dL_name_359 : decode cL_name 359 = .ok (.iload_n 1, 1) := by decide +kernel
theorem dL_name_360 : decode cL_name 360 = .ok (.iload 6, 2) := by decide +kernel
theorem dL_name_362 : decode cL_name 362 = .ok (.irem, 1) := by decide +kernel
theorem dL_name_363 : decode cL_name 363 = .ok (.iload 7, 2) := by decide +kernel
theorem dL_name_365 : decode cL_name 365 = .ok (.imul, 1) := by decide +kernel
theorem dL_name_366 : decode cL_name 366 = .ok (.iadd, 1) := by decide +kernel
theorem dL_name_367 : decode cL_name 367 = .ok (.istore 8, 2) := by decide +kernel
theorem dL_name_369 : decode cL_name 369 = .ok (.iload 5, 2) := by decide +kernel
theorem dL_name_371 : decode cL_name 371 = .ok (.ifCond .le 44, 3) := by decide +kernel
theorem dL_name_374 : decode cL_name 374 = .ok (.iload_n 3, 1) := by decide +kernel
theorem dL_name_375 : decode cL_name 375 = .ok (.iload 5, 2) := by decide +kernel
theorem dL_name_377 : decode cL_name 377 = .ok (.imul, 1) := by decide +kernel
theorem dL_name_378 : decode cL_name 378 = .ok (.iload 7, 2) := by decide +kernel
theorem dL_name_380 : decode cL_name 380 = .ok (.if_icmp .gt 35, 3) := by decide +kernel
theorem dL_name_383 : decode cL_name 383 = .ok (.bipush 12, 2) := by decide +kernel
theorem dL_name_385 : decode cL_name 385 = .ok (.iload 5, 2) := by decide +kernel
theorem dL_name_387 : decode cL_name 387 = .ok (.imul, 1) := by decide +kernel
theorem dL_name_388 : decode cL_name 388 = .ok (.iload_n 1, 1) := by decide +kernel
theorem dL_name_389 : decode cL_name 389 = .ok (.iload 6, 2) := by decide +kernel
theorem dL_name_391 : decode cL_name 391 = .ok (.idiv, 1) := by decide +kernel
theorem dL_name_392 : decode cL_name 392 = .ok (.iconst 1, 1) := by decide +kernel
theorem dL_name_393 : decode cL_name 393 = .ok (.iadd, 1) := by decide +kernel
theorem dL_name_394 : decode cL_name 394 = .ok (.imul, 1) := by decide +kernel
theorem dL_name_395 : decode cL_name 395 = .ok (.aload_n 0, 1) := by decide +kernel
theorem dL_name_396 : decode cL_name 396 = .ok (.iconst 1, 1) := by decide +kernel
theorem dL_name_397 : decode cL_name 397 = .ok (.invokevirtual 13, 3) := by decide +kernel
theorem dL_name_400 : decode cL_name 400 = .ok (.iconst 2, 1) := by decide +kernel
theorem dL_name_401 : decode cL_name 401 = .ok (.aload_n 0, 1) := by decide +kernel
theorem dL_name_402 : decode cL_name 402 = .ok (.iconst 2, 1) := by decide +kernel
theorem dL_name_403 : decode cL_name 403 = .ok (.invokevirtual 13, 3) := by decide +kernel
theorem dL_name_406 : decode cL_name 406 = .ok (.imul, 1) := by decide +kernel
theorem dL_name_407 : decode cL_name 407 = .ok (.isub, 1) := by decide +kernel
theorem dL_name_408 : decode cL_name 408 = .ok (.if_icmp .gt 7, 3) := by decide +kernel
theorem dL_name_411 : decode cL_name 411 = .ok (.iconst 1, 1) := by decide +kernel
theorem dL_name_412 : decode cL_name 412 = .ok (.goto 4, 3) := by decide +kernel
theorem dL_name_415 : decode cL_name 415 = .ok (.iconst 0, 1) := by decide +kernel
theorem dL_name_416 : decode cL_name 416 = .ok (.istore 9, 2) := by decide +kernel
theorem dL_name_418 : decode cL_name 418 = .ok (.aload_n 0, 1) := by decide +kernel
theorem dL_name_419 : decode cL_name 419 = .ok (.iload_n 1, 1) := by decide +kernel
theorem dL_name_420 : decode cL_name 420 = .ok (.iconst 1, 1) := by decide +kernel
theorem dL_name_421 : decode cL_name 421 = .ok (.invokevirtual 19, 3) := by decide +kernel
theorem dL_name_424 : decode cL_name 424 = .ok (.iload_n 3, 1) := by decide +kernel
theorem dL_name_425 : decode cL_name 425 = .ok (.if_icmp .ne 74, 3) := by decide +kernel
theorem dL_name_428 : decode cL_name 428 = .ok (.aload_n 0, 1) := by decide +kernel
theorem dL_name_429 : decode cL_name 429 = .ok (.iload_n 1, 1) := by decide +kernel
theorem dL_name_430 : decode cL_name 430 = .ok (.bipush 10, 2) := by decide +kernel
theorem dL_name_432 : decode cL_name 432 = .ok (.invokevirtual 19, 3) := by decide +kernel
theorem dL_name_435 : decode cL_name 435 = .ok (.iload 4, 2) := by decide +kernel
theorem dL_name_437 : decode cL_name 437 = .ok (.if_icmp .ne 62, 3) := by decide +kernel
theorem dL_name_440 : decode cL_name 440 = .ok (.aload_n 0, 1) := by decide +kernel
theorem dL_name_441 : decode cL_name 441 = .ok (.iload_n 1, 1) := by decide +kernel
theorem dL_name_442 : decode cL_name 442 = .ok (.iconst 3, 1) := by decide +kernel
theorem dL_name_443 : decode cL_name 443 = .ok (.invokevirtual 19, 3) := by decide +kernel
theorem dL_name_446 : decode cL_name 446 = .ok (.iload_n 1, 1) := by decide +kernel
theorem dL_name_447 : decode cL_name 447 = .ok (.iload 6, 2) := by decide +kernel
theorem dL_name_449 : decode cL_name 449 = .ok (.idiv, 1) := by decide +kernel
theorem dL_name_450 : decode cL_name 450 = .ok (.if_icmp .ne 49, 3) := by decide +kernel
theorem dL_name_453 : decode cL_name 453 = .ok (.aload_n 0, 1) := by decide +kernel
theorem dL_name_454 : decode cL_name 454 = .ok (.iload_n 1, 1) := by decide +kernel
theorem dL_name_455 : decode cL_name 455 = .ok (.iconst 4, 1) := by decide +kernel
theorem dL_name_456 : decode cL_name 456 = .ok (.invokevirtual 19, 3) := by decide +kernel
theorem dL_name_459 : decode cL_name 459 = .ok (.iload_n 1, 1) := by decide +kernel
theorem dL_name_460 : decode cL_name 460 = .ok (.iload 6, 2) := by decide +kernel
theorem dL_name_462 : decode cL_name 462 = .ok (.irem, 1) := by decide +kernel
theorem dL_name_463 : decode cL_name 463 = .ok (.if_icmp .ne 36, 3) := by decide +kernel
theorem dL_name_466 : decode cL_name 466 = .ok (.aload_n 0, 1) := by decide +kernel
theorem dL_name_467 : decode cL_name 467 = .ok (.iload_n 1, 1) := by decide +kernel
theorem dL_name_468 : decode cL_name 468 = .ok (.bipush 7, 2) := by decide +kernel
theorem dL_name_470 : decode cL_name 470 = .ok (.invokevirtual 19, 3) := by decide +kernel
theorem dL_name_473 : decode cL_name 473 = .ok (.iload 9, 2) := by decide +kernel
theorem dL_name_475 : decode cL_name 475 = .ok (.ifCond .eq 7, 3) := by decide +kernel
theorem dL_name_478 : decode cL_name 478 = .ok (.iconst 1, 1) := by decide +kernel
theorem dL_name_479 : decode cL_name 479 = .ok (.goto 4, 3) := by decide +kernel
theorem dL_name_482 : decode cL_name 482 = .ok (.iconst 0, 1) := by decide +kernel
theorem dL_name_483 : decode cL_name 483 = .ok (.if_icmp .ne 16, 3) := by decide +kernel
theorem dL_name_486 : decode cL_name 486 = .ok (.aload_n 0, 1) := by decide +kernel
theorem dL_name_487 : decode cL_name 487 = .ok (.iload_n 1, 1) := by decide +kernel
theorem dL_name_488 : decode cL_name 488 = .ok (.iload_n 2, 1) := by decide +kernel
theorem dL_name_489 : decode cL_name 489 = .ok (.iconst 0, 1) := by decide +kernel
theorem dL_name_490 : decode cL_name 490 = .ok (.invokevirtual 34, 3) := by decide +kernel
theorem dL_name_493 : decode cL_name 493 = .ok (.sipush (-1001), 3) := by decide +kernel
theorem dL_name_496 : decode cL_name 496 = .ok (.if_icmp .eq 5, 3) := by decide +kernel
theorem dL_name_499 : decode cL_name 499 = .ok (.iconst 0, 1) := by decide +kernel
theorem dL_name_500 : decode cL_name 500 = .ok (.ireturn, 1) := by decide +kernel
theorem dL_name_501 : decode cL_name 501 = .ok (.iload 5, 2) := by decide +kernel
theorem dL_name_503 : decode cL_name 503 = .ok (.ifCond .ne 56, 3) := by decide +kernel
theorem dL_name_506 : decode cL_name 506 = .ok (.aload_n 0, 1) := by decide +kernel
theorem dL_name_507 : decode cL_name 507 = .ok (.iload_n 1, 1) := by decide +kernel
theorem dL_name_508 : decode cL_name 508 = .ok (.iconst 5, 1) := by decide +kernel
theorem dL_name_509 : decode cL_name 509 = .ok (.invokevirtual 19, 3) := by decide +kernel
theorem dL_name_512 : decode cL_name 512 = .ok (.sipush (-1005), 3) := by decide +kernel
theorem dL_name_515 : decode cL_name 515 = .ok (.if_icmp .ne 42, 3) := by decide +kernel
theorem dL_name_518 : decode cL_name 518 = .ok (.aload_n 0, 1) := by decide +kernel
theorem dL_name_519 : decode cL_name 519 = .ok (.iload_n 1, 1) := by decide +kernel
theorem dL_name_520 : decode cL_name 520 = .ok (.bipush 6, 2) := by decide +kernel
theorem dL_name_522 : decode cL_name 522 = .ok (.invokevirtual 19, 3) := by decide +kernel
theorem dL_name_525 : decode cL_name 525 = .ok (.sipush (-1005), 3) := by decide +kernel
theorem dL_name_528 : decode cL_name 528 = .ok (.if_icmp .ne 29, 3) := by decide +kernel
theorem dL_name_531 : decode cL_name 531 = .ok (.aload_n 0, 1) := by decide +kernel
theorem dL_name_532 : decode cL_name 532 = .ok (.iload_n 1, 1) := by decide +kernel
theorem dL_name_533 : decode cL_name 533 = .ok (.bipush 8, 2) := by decide +kernel
theorem dL_name_535 : decode cL_name 535 = .ok (.invokevirtual 19, 3) := by decide +kernel
theorem dL_name_538 : decode cL_name 538 = .ok (.sipush (-1005), 3) := by decide +kernel
theorem dL_name_541 : decode cL_name 541 = .ok (.if_icmp .ne 16, 3) := by decide +kernel
theorem dL_name_544 : decode cL_name 544 = .ok (.aload_n 0, 1) := by decide +kernel
theorem dL_name_545 : decode cL_name 545 = .ok (.iload_n 1, 1) := by decide +kernel
theorem dL_name_546 : decode cL_name 546 = .ok (.iconst 2, 1) := by decide +kernel
theorem dL_name_547 : decode cL_name 547 = .ok (.invokevirtual 19, 3) := by decide +kernel
theorem dL_name_550 : decode cL_name 550 = .ok (.ifCond .ne 7, 3) := by decide +kernel
theorem dL_name_553 : decode cL_name 553 = .ok (.iconst 1, 1) := by decide +kernel
theorem dL_name_554 : decode cL_name 554 = .ok (.goto 4, 3) := by decide +kernel
theorem dL_name_557 : decode cL_name 557 = .ok (.iconst 0, 1) := by decide +kernel
theorem dL_name_558 : decode cL_name 558 = .ok (.ireturn, 1) := by decide +kernel
theorem dL_name_559 : decode cL_name 559 = .ok (.aload_n 0, 1) := by decide +kernel
theorem dL_name_560 : decode cL_name 560 = .ok (.iload_n 1, 1) := by decide +kernel
theorem dL_name_561 : decode cL_name 561 = .ok (.iconst 5, 1) := by decide +kernel
theorem dL_name_562 : decode cL_name 562 = .ok (.invokevirtual 19, 3) := by decide +kernel
theorem dL_name_565 : decode cL_name 565 = .ok (.istore 10, 2) := by decide +kernel
theorem dL_name_567 : decode cL_name 567 = .ok (.iconst 2, 1) := by decide +kernel
theorem dL_name_568 : decode cL_name 568 = .ok (.iload 8, 2) := by decide +kernel
theorem dL_name_570 : decode cL_name 570 = .ok (.imul, 1) := by decide +kernel
theorem dL_name_571 : decode cL_name 571 = .ok (.iload 7, 2) := by decide +kernel
theorem dL_name_573 : decode cL_name 573 = .ok (.iadd, 1) := by decide +kernel
theorem dL_name_574 : decode cL_name 574 = .ok (.iload_n 3, 1) := by decide +kernel
theorem dL_name_575 : decode cL_name 575 = .ok (.iload 5, 2) := by decide +kernel
theorem dL_name_577 : decode cL_name 577 = .ok (.imul, 1) := by decide +kernel
theorem dL_name_578 : decode cL_name 578 = .ok (.isub, 1) := by decide +kernel
theorem dL_name_579 : decode cL_name 579 = .ok (.iconst 2, 1) := by decide +kernel
theorem dL_name_580 : decode cL_name 580 = .ok (.invokestatic 42, 3) := by decide +kernel
theorem dL_name_583 : decode cL_name 583 = .ok (.istore 11, 2) := by decide +kernel
theorem dL_name_585 : decode cL_name 585 = .ok (.iload 10, 2) := by decide +kernel
theorem dL_name_587 : decode cL_name 587 = .ok (.iload 8, 2) := by decide +kernel
theorem dL_name_589 : decode cL_name 589 = .ok (.if_icmp .lt 29, 3) := by decide +kernel
theorem dL_name_592 : decode cL_name 592 = .ok (.iload 10, 2) := by decide +kernel
theorem dL_name_594 : decode cL_name 594 = .ok (.iload_n 3, 1) := by decide +kernel
theorem dL_name_595 : decode cL_name 595 = .ok (.iload 5, 2) := by decide +kernel
theorem dL_name_597 : decode cL_name 597 = .ok (.imul, 1) := by decide +kernel
theorem dL_name_598 : decode cL_name 598 = .ok (.iadd, 1) := by decide +kernel
theorem dL_name_599 : decode cL_name 599 = .ok (.iload 8, 2) := by decide +kernel
theorem dL_name_601 : decode cL_name 601 = .ok (.iload 7, 2) := by decide +kernel
theorem dL_name_603 : decode cL_name 603 = .ok (.iadd, 1) := by decide +kernel
theorem dL_name_604 : decode cL_name 604 = .ok (.if_icmp .le 10, 3) := by decide +kernel
theorem dL_name_607 : decode cL_name 607 = .ok (.iload 10, 2) := by decide +kernel
theorem dL_name_609 : decode cL_name 609 = .ok (.iload 8, 2) := by decide +kernel
theorem dL_name_611 : decode cL_name 611 = .ok (.if_icmp .ne 7, 3) := by decide +kernel
theorem dL_name_614 : decode cL_name 614 = .ok (.iconst 1, 1) := by decide +kernel
theorem dL_name_615 : decode cL_name 615 = .ok (.goto 4, 3) := by decide +kernel
theorem dL_name_618 : decode cL_name 618 = .ok (.iconst 0, 1) := by decide +kernel
theorem dL_name_619 : decode cL_name 619 = .ok (.istore 12, 2) := by decide +kernel
theorem dL_name_621 : decode cL_name 621 = .ok (.iload 12, 2) := by decide +kernel
theorem dL_name_623 : decode cL_name 623 = .ok (.ifCond .eq 85, 3) := by decide +kernel
theorem dL_name_626 : decode cL_name 626 = .ok (.aload_n 0, 1) := by decide +kernel
theorem dL_name_627 : decode cL_name 627 = .ok (.iload_n 1, 1) := by decide +kernel
theorem dL_name_628 : decode cL_name 628 = .ok (.bipush 6, 2) := by decide +kernel
theorem dL_name_630 : decode cL_name 630 = .ok (.invokevirtual 19, 3) := by decide +kernel
theorem dL_name_633 : decode cL_name 633 = .ok (.aload_n 0, 1) := by decide +kernel
theorem dL_name_634 : decode cL_name 634 = .ok (.iconst 2, 1) := by decide +kernel
theorem dL_name_635 : decode cL_name 635 = .ok (.invokevirtual 13, 3) := by decide +kernel
theorem dL_name_638 : decode cL_name 638 = .ok (.bipush 12, 2) := by decide +kernel
theorem dL_name_640 : decode cL_name 640 = .ok (.iload 5, 2) := by decide +kernel
theorem dL_name_642 : decode cL_name 642 = .ok (.imul, 1) := by decide +kernel
theorem dL_name_643 : decode cL_name 643 = .ok (.iload_n 1, 1) := by decide +kernel
theorem dL_name_644 : decode cL_name 644 = .ok (.iload 6, 2) := by decide +kernel
theorem dL_name_646 : decode cL_name 646 = .ok (.idiv, 1) := by decide +kernel
theorem dL_name_647 : decode cL_name 647 = .ok (.imul, 1) := by decide +kernel
theorem dL_name_648 : decode cL_name 648 = .ok (.iadd, 1) := by decide +kernel
theorem dL_name_649 : decode cL_name 649 = .ok (.if_icmp .ne 59, 3) := by decide +kernel
theorem dL_name_652 : decode cL_name 652 = .ok (.aload_n 0, 1) := by decide +kernel
theorem dL_name_653 : decode cL_name 653 = .ok (.iload_n 1, 1) := by decide +kernel
theorem dL_name_654 : decode cL_name 654 = .ok (.bipush 8, 2) := by decide +kernel
theorem dL_name_656 : decode cL_name 656 = .ok (.invokevirtual 19, 3) := by decide +kernel
theorem dL_name_659 : decode cL_name 659 = .ok (.iload_n 3, 1) := by decide +kernel
theorem dL_name_660 : decode cL_name 660 = .ok (.iload 5, 2) := by decide +kernel
theorem dL_name_662 : decode cL_name 662 = .ok (.imul, 1) := by decide +kernel
theorem dL_name_663 : decode cL_name 663 = .ok (.if_icmp .ne 45, 3) := by decide +kernel
theorem dL_name_666 : decode cL_name 666 = .ok (.aload_n 0, 1) := by decide +kernel
theorem dL_name_667 : decode cL_name 667 = .ok (.iload_n 1, 1) := by decide +kernel
theorem dL_name_668 : decode cL_name 668 = .ok (.bipush 9, 2) := by decide +kernel
theorem dL_name_670 : decode cL_name 670 = .ok (.invokevirtual 19, 3) := by decide +kernel
theorem dL_name_673 : decode cL_name 673 = .ok (.iload 11, 2) := by decide +kernel
theorem dL_name_675 : decode cL_name 675 = .ok (.iload 8, 2) := by decide +kernel
theorem dL_name_677 : decode cL_name 677 = .ok (.if_icmp .ge 8, 3) := by decide +kernel
theorem dL_name_680 : decode cL_name 680 = .ok (.iload 8, 2) := by decide +kernel
theorem dL_name_682 : decode cL_name 682 = .ok (.goto 5, 3) := by decide +kernel
theorem dL_name_685 : decode cL_name 685 = .ok (.iload 11, 2) := by decide +kernel
theorem dL_name_687 : decode cL_name 687 = .ok (.if_icmp .ne 21, 3) := by decide +kernel
theorem dL_name_690 : decode cL_name 690 = .ok (.aload_n 0, 1) := by decide +kernel
theorem dL_name_691 : decode cL_name 691 = .ok (.iload_n 1, 1) := by decide +kernel
theorem dL_name_692 : decode cL_name 692 = .ok (.iconst 2, 1) := by decide +kernel
theorem dL_name_693 : decode cL_name 693 = .ok (.invokevirtual 19, 3) := by decide +kernel
theorem dL_name_696 : decode cL_name 696 = .ok (.ifCond .eq 8, 3) := by decide +kernel
theorem dL_name_699 : decode cL_name 699 = .ok (.iload 9, 2) := by decide +kernel
theorem dL_name_701 : decode cL_name 701 = .ok (.ifCond .eq 7, 3) := by decide +kernel
theorem dL_name_704 : decode cL_name 704 = .ok (.iconst 1, 1) := by decide +kernel
theorem dL_name_705 : decode cL_name 705 = .ok (.goto 4, 3) := by decide +kernel
theorem dL_name_708 : decode cL_name 708 = .ok (.iconst 0, 1) := by decide +kernel
theorem dL_name_709 : decode cL_name 709 = .ok (.ireturn, 1) := by decide +kernel
set_option maxRecDepth 100000 in
theorem ggL_sizes_X6_count : GoodIn wsL_sizes wsX6_count := goodIn_r _ [5, 6, 7, 8, 9, 10, 11, 12, 13, 14, 15, 16, 17, 18, 19, 20, 21, 22, 23, 24, 25, 26, 27, 28, 29, 30, 31, 32, 33, 198, 199, 200, 201, 202, 203, 204, 205, 206, 207, 208, 209, 210, 211, 212, 213, 214, 215, 216, 217, 218, 219, 220, 221, 222, 223, 224] rfl (by decide +kernel)
set_option maxRecDepth 20000 in
theorem gL_sizes_X6_count : GoodIn wsL_sizes (wsV RL 13 RX6 yX6_count wsX6_count) := goodIn_app (goodIn_of _ (by decide +kernel)) ggL_sizes_X6_count
set_option maxRecDepth 100000 in
theorem ggL_sizes_X6_size : GoodIn wsL_sizes wsX6_size := goodIn_r _ [37, 6, 38, 39, 40, 12, 41, 42, 43, 44, 45, 46, 47, 48, 49, 14, 50, 51, 52, 53, 54, 55, 56, 57, 58, 59, 60, 61, 62, 63, 64, 65, 66, 67, 68, 69, 70, 71, 72, 73, 74, 75, 76, 77, 78, 79, 80, 81, 82, 83, 84, 85, 86, 87, 88, 89, 90, 91, 92, 93, 94, 95, 96, 97, 98, 99, 100, 101, 102, 103, 104, 105, 106, 107, 23, 24, 25, 26, 27, 28, 29, 30, 31, 32, 33, 108, 109, 110, 111, 198, 199, 200, 201, 202, 203, 204, 205, 206, 207, 208, 209, 210, 211, 212, 213, 214, 215, 216, 217, 218, 219] rfl (by decide +kernel)
set_option maxRecDepth 20000 in
theorem gL_sizes_X6_size : GoodIn wsL_sizes (wsV RL 30 RX6 yX6_size wsX6_size) := goodIn_app (goodIn_of _ (by decide +kernel)) ggL_sizes_X6_size
set_option maxRecDepth 100000 in
theorem ggL_sizes_X6_name : GoodIn wsL_sizes wsX6_name := goodIn_r _ [115, 6, 116, 117, 118, 65, 119, 120, 121, 63, 64, 66, 67, 122, 59, 60, 12, 61, 45, 62, 68, 69, 70, 71, 72, 73, 74, 75, 76, 77, 78, 79, 80, 81, 82, 83, 84, 85, 54, 55, 56, 57, 86, 87, 88, 89, 90, 91, 92, 93, 94, 95, 96, 97, 98, 99, 100, 101, 123, 124, 125, 126, 14, 127, 128, 129, 130, 26, 27, 28, 29, 30, 31, 32, 33, 131, 132, 133, 134, 135, 136, 137, 138, 139, 140, 141, 38, 39, 40, 41, 42, 43, 44, 46, 47, 48, 49, 50, 51, 52, 53, 58, 102, 103, 104, 105, 106, 107, 23, 24, 25, 108, 109, 110, 111, 142, 143, 144, 4, 145, 146, 147, 148, 149, 150, 151, 152, 153, 154, 155, 156, 157, 158, 159, 160, 161, 162, 163, 164, 165, 166, 167, 168, 169, 170, 171, 172, 173, 174, 175, 198, 199, 200, 201, 202, 203, 204, 205, 206, 207, 208, 209, 210, 211, 212, 213, 214, 215, 216, 217, 218, 219] rfl (by decide +kernel)
set_option maxRecDepth 20000 in
theorem gL_sizes_X6_name : GoodIn wsL_sizes (wsV RL 19 RX6 yX6_name wsX6_name) := goodIn_app (goodIn_of _ (by decide +kernel)) ggL_sizes_X6_name
set_option maxRecDepth 100000 in
theorem ggL_sizes_X6_sizeBy : GoodIn wsL_sizes wsX6_sizeBy := goodIn_r _ [179, 6, 180, 181, 4, 182, 183, 51, 52, 12, 53, 45, 54, 55, 56, 57, 58, 59, 60, 61, 62, 63, 64, 65, 66, 67, 68, 69, 70, 71, 72, 73, 74, 75, 76, 77, 78, 79, 80, 81, 82, 83, 84, 85, 86, 87, 88, 89, 90, 91, 92, 93, 94, 95, 96, 97, 98, 99, 100, 101, 184, 103, 104, 105, 106, 107, 23, 24, 25, 26, 27, 28, 29, 30, 31, 32, 33, 108, 109, 110, 111, 198, 199, 200, 201, 202, 203, 204, 205, 206, 207, 208, 209, 210, 211, 212, 213, 214, 215, 216, 217, 218, 219] rfl (by decide +kernel)
set_option maxRecDepth 20000 in
theorem gL_sizes_X6_sizeBy : GoodIn wsL_sizes (wsV RL 47 RX6 yX6_sizeBy wsX6_sizeBy) := goodIn_app (goodIn_of _ (by decide +kernel)) ggL_sizes_X6_sizeBy
set_option maxRecDepth 100000 in
theorem ggL_sizes_X6_longest : GoodIn wsL_sizes wsX6_longest := goodIn_r _ [188, 6, 183, 51, 52, 12, 53, 45, 54, 55, 56, 57, 58, 59, 60, 61, 62, 63, 64, 65, 66, 67, 68, 69, 70, 71, 72, 73, 74, 75, 76, 77, 78, 79, 80, 81, 82, 83, 84, 85, 86, 87, 88, 89, 90, 91, 92, 93, 94, 95, 96, 97, 98, 99, 100, 101, 122, 198, 199, 200, 201, 202, 203, 204, 205, 206, 207, 208, 209, 210, 211, 212, 213, 214, 215, 216, 217, 218, 219] rfl (by decide +kernel)
set_option maxRecDepth 20000 in
theorem gL_sizes_X6_longest : GoodIn wsL_sizes (wsV RL 50 RX6 yX6_longest wsX6_longest) := goodIn_app (goodIn_of _ (by decide +kernel)) ggL_sizes_X6_longest
set_option maxRecDepth 100000 in
theorem ggL_sizes_X6_sizeWithout : GoodIn wsL_sizes wsX6_sizeWithout := goodIn_r _ [192, 6, 116, 117, 118, 65, 119, 120, 183, 51, 52, 12, 53, 45, 54, 55, 56, 57, 58, 59, 60, 61, 62, 63, 64, 66, 67, 68, 69, 70, 71, 72, 73, 74, 75, 76, 77, 78, 79, 80, 81, 82, 83, 84, 85, 86, 87, 88, 89, 90, 91, 92, 93, 94, 95, 96, 97, 98, 99, 100, 101, 184, 103, 104, 105, 106, 107, 23, 24, 25, 26, 27, 28, 29, 30, 31, 32, 33, 108, 109, 110, 111, 198, 199, 200, 201, 202, 203, 204, 205, 206, 207, 208, 209, 210, 211, 212, 213, 214, 215, 216, 217, 218, 219] rfl (by decide +kernel)
set_option maxRecDepth 20000 in
theorem gL_sizes_X6_sizeWithout : GoodIn wsL_sizes (wsV RL 53 RX6 yX6_sizeWithout wsX6_sizeWithout) := goodIn_app (goodIn_of _ (by decide +kernel)) ggL_sizes_X6_sizeWithout
set_option maxRecDepth 100000 in
theorem ggL_sizes_X6_leastWidth : GoodIn wsL_sizes wsX6_leastWidth := goodIn_r _ [196, 6, 197, 55, 56, 57, 183, 51, 52, 12, 53, 45, 54, 58, 59, 60, 61, 62, 63, 64, 65, 66, 67, 68, 69, 70, 71, 72, 73, 74, 75, 76, 77, 78, 79, 80, 81, 82, 83, 84, 85, 86, 87, 88, 89, 90, 91, 92, 93, 94, 95, 96, 97, 98, 99, 100, 101, 198, 199, 200, 201, 202, 203, 204, 205, 206, 207, 208, 209, 210, 211, 212, 213, 214, 215, 216, 217, 218, 219] rfl (by decide +kernel)
set_option maxRecDepth 20000 in
theorem gL_sizes_X6_leastWidth : GoodIn wsL_sizes (wsV RL 56 RX6 yX6_leastWidth wsX6_leastWidth) := goodIn_app (goodIn_of _ (by decide +kernel)) ggL_sizes_X6_leastWidth
theorem dL_sizes_0 : decode cL_sizes 0 = .ok (.aload_n 0, 1) := by decide +kernel
theorem dL_sizes_1 : decode cL_sizes 1 = .ok (.iconst 4, 1) := by decide +kernel
theorem dL_sizes_2 : decode cL_sizes 2 = .ok (.invokevirtual 13, 3) := by decide +kernel
theorem dL_sizes_5 : decode cL_sizes 5 = .ok (.istore_n 2, 1) := by decide +kernel
theorem dL_sizes_6 : decode cL_sizes 6 = .ok (.aload_n 0, 1) := by decide +kernel
theorem dL_sizes_7 : decode cL_sizes 7 = .ok (.invokevirtual 30, 3) := by decide +kernel
theorem dL_sizes_10 : decode cL_sizes 10 = .ok (.istore_n 3, 1) := by decide +kernel
theorem dL_sizes_11 : decode cL_sizes 11 = .ok (.iconst 0, 1) := by decide +kernel
theorem dL_sizes_12 : decode cL_sizes 12 = .ok (.istore 4, 2) := by decide +kernel
theorem dL_sizes_14 : decode cL_sizes 14 = .ok (.sipush (-1005), 3) := by decide +kernel
theorem dL_sizes_17 : decode cL_sizes 17 = .ok (.istore 5, 2) := by decide +kernel
theorem dL_sizes_19 : decode cL_sizes 19 = .ok (.iconst 0, 1) := by decide +kernel
theorem dL_sizes_20 : decode cL_sizes 20 = .ok (.istore 6, 2) := by decide +kernel
theorem dL_sizes_22 : decode cL_sizes 22 = .ok (.iload 6, 2) := by decide +kernel
theorem dL_sizes_24 : decode cL_sizes 24 = .ok (.iload_n 2, 1) := by decide +kernel
theorem dL_sizes_25 : decode cL_sizes 25 = .ok (.if_icmp .ge 50, 3) := by decide +kernel
theorem dL_sizes_28 : decode cL_sizes 28 = .ok (.aload_n 0, 1) := by decide +kernel
theorem dL_sizes_29 : decode cL_sizes 29 = .ok (.iload 6, 2) := by decide +kernel
theorem dL_sizes_31 : decode cL_sizes 31 = .ok (.iconst 1, 1) := by decide +kernel
theorem dL_sizes_32 : decode cL_sizes 32 = .ok (.invokevirtual 19, 3) := by decide +kernel
theorem dL_sizes_35 : decode cL_sizes 35 = .ok (.istore 7, 2) := by decide +kernel
theorem dL_sizes_37 : decode cL_sizes 37 = .ok (.iload 7, 2) := by decide +kernel
theorem dL_sizes_39 : decode cL_sizes 39 = .ok (.iload 4, 2) := by decide +kernel
theorem dL_sizes_41 : decode cL_sizes 41 = .ok (.if_icmp .le 8, 3) := by decide +kernel
theorem dL_sizes_44 : decode cL_sizes 44 = .ok (.iload 6, 2) := by decide +kernel
theorem dL_sizes_46 : decode cL_sizes 46 = .ok (.goto 5, 3) := by decide +kernel
theorem dL_sizes_49 : decode cL_sizes 49 = .ok (.iload 5, 2) := by decide +kernel
theorem dL_sizes_51 : decode cL_sizes 51 = .ok (.istore 5, 2) := by decide +kernel
theorem dL_sizes_53 : decode cL_sizes 53 = .ok (.iload 7, 2) := by decide +kernel
theorem dL_sizes_55 : decode cL_sizes 55 = .ok (.iload 4, 2) := by decide +kernel
theorem dL_sizes_57 : decode cL_sizes 57 = .ok (.if_icmp .le 8, 3) := by decide +kernel
theorem dL_sizes_60 : decode cL_sizes 60 = .ok (.iload 7, 2) := by decide +kernel
theorem dL_sizes_62 : decode cL_sizes 62 = .ok (.goto 5, 3) := by decide +kernel
theorem dL_sizes_65 : decode cL_sizes 65 = .ok (.iload 4, 2) := by decide +kernel
theorem dL_sizes_67 : decode cL_sizes 67 = .ok (.istore 4, 2) := by decide +kernel
theorem dL_sizes_69 : decode cL_sizes 69 = .ok (.iinc 6 1, 3) := by decide +kernel
theorem dL_sizes_72 : decode cL_sizes 72 = .ok (.goto (-50), 3) := by decide +kernel
theorem dL_sizes_75 : decode cL_sizes 75 = .ok (.aload_n 0, 1) := by decide +kernel
theorem dL_sizes_76 : decode cL_sizes 76 = .ok (.iconst 3, 1) := by decide +kernel
theorem dL_sizes_77 : decode cL_sizes 77 = .ok (.invokevirtual 13, 3) := by decide +kernel
theorem dL_sizes_80 : decode cL_sizes 80 = .ok (.istore 6, 2) := by decide +kernel
theorem dL_sizes_82 : decode cL_sizes 82 = .ok (.iload_n 2, 1) := by decide +kernel
theorem dL_sizes_83 : decode cL_sizes 83 = .ok (.iload 6, 2) := by decide +kernel
theorem dL_sizes_85 : decode cL_sizes 85 = .ok (.iadd, 1) := by decide +kernel
theorem dL_sizes_86 : decode cL_sizes 86 = .ok (.iconst 1, 1) := by decide +kernel
theorem dL_sizes_87 : decode cL_sizes 87 = .ok (.isub, 1) := by decide +kernel
theorem dL_sizes_88 : decode cL_sizes 88 = .ok (.iload 6, 2) := by decide +kernel
theorem dL_sizes_90 : decode cL_sizes 90 = .ok (.idiv, 1) := by decide +kernel
theorem dL_sizes_91 : decode cL_sizes 91 = .ok (.istore 7, 2) := by decide +kernel
theorem dL_sizes_93 : decode cL_sizes 93 = .ok (.aload_n 0, 1) := by decide +kernel
theorem dL_sizes_94 : decode cL_sizes 94 = .ok (.iconst 0, 1) := by decide +kernel
theorem dL_sizes_95 : decode cL_sizes 95 = .ok (.invokevirtual 13, 3) := by decide +kernel
theorem dL_sizes_98 : decode cL_sizes 98 = .ok (.iconst 2, 1) := by decide +kernel
theorem dL_sizes_99 : decode cL_sizes 99 = .ok (.aload_n 0, 1) := by decide +kernel
theorem dL_sizes_100 : decode cL_sizes 100 = .ok (.iconst 2, 1) := by decide +kernel
theorem dL_sizes_101 : decode cL_sizes 101 = .ok (.invokevirtual 13, 3) := by decide +kernel
theorem dL_sizes_104 : decode cL_sizes 104 = .ok (.imul, 1) := by decide +kernel
theorem dL_sizes_105 : decode cL_sizes 105 = .ok (.isub, 1) := by decide +kernel
theorem dL_sizes_106 : decode cL_sizes 106 = .ok (.iload 6, 2) := by decide +kernel
theorem dL_sizes_108 : decode cL_sizes 108 = .ok (.idiv, 1) := by decide +kernel
theorem dL_sizes_109 : decode cL_sizes 109 = .ok (.istore 8, 2) := by decide +kernel
theorem dL_sizes_111 : decode cL_sizes 111 = .ok (.aload_n 0, 1) := by decide +kernel
theorem dL_sizes_112 : decode cL_sizes 112 = .ok (.iconst 1, 1) := by decide +kernel
theorem dL_sizes_113 : decode cL_sizes 113 = .ok (.invokevirtual 13, 3) := by decide +kernel
theorem dL_sizes_116 : decode cL_sizes 116 = .ok (.iconst 2, 1) := by decide +kernel
theorem dL_sizes_117 : decode cL_sizes 117 = .ok (.aload_n 0, 1) := by decide +kernel
theorem dL_sizes_118 : decode cL_sizes 118 = .ok (.iconst 2, 1) := by decide +kernel
theorem dL_sizes_119 : decode cL_sizes 119 = .ok (.invokevirtual 13, 3) := by decide +kernel
theorem dL_sizes_122 : decode cL_sizes 122 = .ok (.imul, 1) := by decide +kernel
theorem dL_sizes_123 : decode cL_sizes 123 = .ok (.isub, 1) := by decide +kernel
theorem dL_sizes_124 : decode cL_sizes 124 = .ok (.istore 9, 2) := by decide +kernel
theorem dL_sizes_126 : decode cL_sizes 126 = .ok (.bipush 40, 2) := by decide +kernel
theorem dL_sizes_128 : decode cL_sizes 128 = .ok (.istore 10, 2) := by decide +kernel
theorem dL_sizes_130 : decode cL_sizes 130 = .ok (.iload 10, 2) := by decide +kernel
theorem dL_sizes_132 : decode cL_sizes 132 = .ok (.ifCond .le 36, 3) := by decide +kernel
theorem dL_sizes_135 : decode cL_sizes 135 = .ok (.iload_n 2, 1) := by decide +kernel
theorem dL_sizes_136 : decode cL_sizes 136 = .ok (.ifCond .le 32, 3) := by decide +kernel
theorem dL_sizes_139 : decode cL_sizes 139 = .ok (.iload 4, 2) := by decide +kernel
theorem dL_sizes_141 : decode cL_sizes 141 = .ok (.iload 10, 2) := by decide +kernel
theorem dL_sizes_143 : decode cL_sizes 143 = .ok (.imul, 1) := by decide +kernel
theorem dL_sizes_144 : decode cL_sizes 144 = .ok (.iload 8, 2) := by decide +kernel
theorem dL_sizes_146 : decode cL_sizes 146 = .ok (.if_icmp .gt 16, 3) := by decide +kernel
theorem dL_sizes_149 : decode cL_sizes 149 = .ok (.bipush 12, 2) := by decide +kernel
theorem dL_sizes_151 : decode cL_sizes 151 = .ok (.iload 10, 2) := by decide +kernel
theorem dL_sizes_153 : decode cL_sizes 153 = .ok (.imul, 1) := by decide +kernel
theorem dL_sizes_154 : decode cL_sizes 154 = .ok (.iload 7, 2) := by decide +kernel
theorem dL_sizes_156 : decode cL_sizes 156 = .ok (.imul, 1) := by decide +kernel
theorem dL_sizes_157 : decode cL_sizes 157 = .ok (.iload 9, 2) := by decide +kernel
theorem dL_sizes_159 : decode cL_sizes 159 = .ok (.if_icmp .le 9, 3) := by decide +kernel
theorem dL_sizes_162 : decode cL_sizes 162 = .ok (.iinc 10 (-1), 3) := by decide +kernel
theorem dL_sizes_165 : decode cL_sizes 165 = .ok (.goto (-35), 3) := by decide +kernel
theorem dL_sizes_168 : decode cL_sizes 168 = .ok (.aload_n 0, 1) := by decide +kernel
theorem dL_sizes_169 : decode cL_sizes 169 = .ok (.aload_n 0, 1) := by decide +kernel
theorem dL_sizes_170 : decode cL_sizes 170 = .ok (.iconst 0, 1) := by decide +kernel
theorem dL_sizes_171 : decode cL_sizes 171 = .ok (.invokevirtual 13, 3) := by decide +kernel
theorem dL_sizes_174 : decode cL_sizes 174 = .ok (.aload_n 0, 1) := by decide +kernel
theorem dL_sizes_175 : decode cL_sizes 175 = .ok (.iconst 1, 1) := by decide +kernel
theorem dL_sizes_176 : decode cL_sizes 176 = .ok (.invokevirtual 13, 3) := by decide +kernel
theorem dL_sizes_179 : decode cL_sizes 179 = .ok (.invokevirtual 47, 3) := by decide +kernel
theorem dL_sizes_182 : decode cL_sizes 182 = .ok (.iload 10, 2) := by decide +kernel
theorem dL_sizes_184 : decode cL_sizes 184 = .ok (.if_icmp .ne 50, 3) := by decide +kernel
theorem dL_sizes_187 : decode cL_sizes 187 = .ok (.aload_n 0, 1) := by decide +kernel
theorem dL_sizes_188 : decode cL_sizes 188 = .ok (.iconst 5, 1) := by decide +kernel
theorem dL_sizes_189 : decode cL_sizes 189 = .ok (.invokevirtual 13, 3) := by decide +kernel
theorem dL_sizes_192 : decode cL_sizes 192 = .ok (.ifCond .ne 9, 3) := by decide +kernel
theorem dL_sizes_195 : decode cL_sizes 195 = .ok (.iload_n 3, 1) := by decide +kernel
theorem dL_sizes_196 : decode cL_sizes 196 = .ok (.iload 10, 2) := by decide +kernel
theorem dL_sizes_198 : decode cL_sizes 198 = .ok (.if_icmp .ne 36, 3) := by decide +kernel
theorem dL_sizes_201 : decode cL_sizes 201 = .ok (.aload_n 0, 1) := by decide +kernel
theorem dL_sizes_202 : decode cL_sizes 202 = .ok (.iconst 5, 1) := by decide +kernel
theorem dL_sizes_203 : decode cL_sizes 203 = .ok (.invokevirtual 13, 3) := by decide +kernel
theorem dL_sizes_206 : decode cL_sizes 206 = .ok (.ifCond .le 8, 3) := by decide +kernel
theorem dL_sizes_209 : decode cL_sizes 209 = .ok (.iload_n 3, 1) := by decide +kernel
theorem dL_sizes_210 : decode cL_sizes 210 = .ok (.iconst 1, 1) := by decide +kernel
theorem dL_sizes_211 : decode cL_sizes 211 = .ok (.if_icmp .lt 23, 3) := by decide +kernel
theorem dL_sizes_214 : decode cL_sizes 214 = .ok (.aload_n 0, 1) := by decide +kernel
theorem dL_sizes_215 : decode cL_sizes 215 = .ok (.invokevirtual 50, 3) := by decide +kernel
theorem dL_sizes_218 : decode cL_sizes 218 = .ok (.iload 5, 2) := by decide +kernel
theorem dL_sizes_220 : decode cL_sizes 220 = .ok (.if_icmp .ne 14, 3) := by decide +kernel
theorem dL_sizes_223 : decode cL_sizes 223 = .ok (.aload_n 0, 1) := by decide +kernel
theorem dL_sizes_224 : decode cL_sizes 224 = .ok (.bipush 6, 2) := by decide +kernel
theorem dL_sizes_226 : decode cL_sizes 226 = .ok (.invokevirtual 13, 3) := by decide +kernel
theorem dL_sizes_229 : decode cL_sizes 229 = .ok (.iload 7, 2) := by decide +kernel
theorem dL_sizes_231 : decode cL_sizes 231 = .ok (.if_icmp .eq 5, 3) := by decide +kernel
theorem dL_sizes_234 : decode cL_sizes 234 = .ok (.iconst 0, 1) := by decide +kernel
theorem dL_sizes_235 : decode cL_sizes 235 = .ok (.ireturn, 1) := by decide +kernel
theorem dL_sizes_236 : decode cL_sizes 236 = .ok (.iload_n 2, 1) := by decide +kernel
theorem dL_sizes_237 : decode cL_sizes 237 = .ok (.ifCond .le 15, 3) := by decide +kernel
theorem dL_sizes_240 : decode cL_sizes 240 = .ok (.aload_n 0, 1) := by decide +kernel
theorem dL_sizes_241 : decode cL_sizes 241 = .ok (.iload_n 1, 1) := by decide +kernel
theorem dL_sizes_242 : decode cL_sizes 242 = .ok (.invokevirtual 53, 3) := by decide +kernel
theorem dL_sizes_245 : decode cL_sizes 245 = .ok (.iload 10, 2) := by decide +kernel
theorem dL_sizes_247 : decode cL_sizes 247 = .ok (.if_icmp .ge 5, 3) := by decide +kernel
theorem dL_sizes_250 : decode cL_sizes 250 = .ok (.iconst 0, 1) := by decide +kernel
theorem dL_sizes_251 : decode cL_sizes 251 = .ok (.ireturn, 1) := by decide +kernel
theorem dL_sizes_252 : decode cL_sizes 252 = .ok (.aload_n 0, 1) := by decide +kernel
theorem dL_sizes_253 : decode cL_sizes 253 = .ok (.bipush 7, 2) := by decide +kernel
theorem dL_sizes_255 : decode cL_sizes 255 = .ok (.invokevirtual 56, 3) := by decide +kernel
theorem dL_sizes_258 : decode cL_sizes 258 = .ok (.istore 11, 2) := by decide +kernel
theorem dL_sizes_260 : decode cL_sizes 260 = .ok (.iload 4, 2) := by decide +kernel
theorem dL_sizes_262 : decode cL_sizes 262 = .ok (.bipush 7, 2) := by decide +kernel
theorem dL_sizes_264 : decode cL_sizes 264 = .ok (.imul, 1) := by decide +kernel
theorem dL_sizes_265 : decode cL_sizes 265 = .ok (.iload 6, 2) := by decide +kernel
theorem dL_sizes_267 : decode cL_sizes 267 = .ok (.imul, 1) := by decide +kernel
theorem dL_sizes_268 : decode cL_sizes 268 = .ok (.iconst 2, 1) := by decide +kernel
theorem dL_sizes_269 : decode cL_sizes 269 = .ok (.aload_n 0, 1) := by decide +kernel
theorem dL_sizes_270 : decode cL_sizes 270 = .ok (.iconst 2, 1) := by decide +kernel
theorem dL_sizes_271 : decode cL_sizes 271 = .ok (.invokevirtual 13, 3) := by decide +kernel
theorem dL_sizes_274 : decode cL_sizes 274 = .ok (.imul, 1) := by decide +kernel
theorem dL_sizes_275 : decode cL_sizes 275 = .ok (.iadd, 1) := by decide +kernel
theorem dL_sizes_276 : decode cL_sizes 276 = .ok (.istore 12, 2) := by decide +kernel
theorem dL_sizes_278 : decode cL_sizes 278 = .ok (.iload 11, 2) := by decide +kernel
theorem dL_sizes_280 : decode cL_sizes 280 = .ok (.iload_n 2, 1) := by decide +kernel
theorem dL_sizes_281 : decode cL_sizes 281 = .ok (.ifCond .ne 9, 3) := by decide +kernel
theorem dL_sizes_284 : decode cL_sizes 284 = .ok (.sipush (-1005), 3) := by decide +kernel
theorem dL_sizes_287 : decode cL_sizes 287 = .ok (.goto 19, 3) := by decide +kernel
theorem dL_sizes_290 : decode cL_sizes 290 = .ok (.iload 12, 2) := by decide +kernel
theorem dL_sizes_292 : decode cL_sizes 292 = .ok (.sipush 300, 3) := by decide +kernel
theorem dL_sizes_295 : decode cL_sizes 295 = .ok (.if_icmp .ge 9, 3) := by decide +kernel
theorem dL_sizes_298 : decode cL_sizes 298 = .ok (.sipush 300, 3) := by decide +kernel
theorem dL_sizes_301 : decode cL_sizes 301 = .ok (.goto 5, 3) := by decide +kernel
theorem dL_sizes_304 : decode cL_sizes 304 = .ok (.iload 12, 2) := by decide +kernel
theorem dL_sizes_306 : decode cL_sizes 306 = .ok (.if_icmp .ne 45, 3) := by decide +kernel
theorem dL_sizes_309 : decode cL_sizes 309 = .ok (.aload_n 0, 1) := by decide +kernel
theorem dL_sizes_310 : decode cL_sizes 310 = .ok (.sipush 299, 3) := by decide +kernel
theorem dL_sizes_313 : decode cL_sizes 313 = .ok (.bipush 100, 2) := by decide +kernel
theorem dL_sizes_315 : decode cL_sizes 315 = .ok (.invokevirtual 47, 3) := by decide +kernel
theorem dL_sizes_318 : decode cL_sizes 318 = .ok (.sipush (-1002), 3) := by decide +kernel
theorem dL_sizes_321 : decode cL_sizes 321 = .ok (.if_icmp .ne 30, 3) := by decide +kernel
theorem dL_sizes_324 : decode cL_sizes 324 = .ok (.aload_n 0, 1) := by decide +kernel
theorem dL_sizes_325 : decode cL_sizes 325 = .ok (.bipush 41, 2) := by decide +kernel
theorem dL_sizes_327 : decode cL_sizes 327 = .ok (.invokevirtual 56, 3) := by decide +kernel
theorem dL_sizes_330 : decode cL_sizes 330 = .ok (.sipush (-1002), 3) := by decide +kernel
theorem dL_sizes_333 : decode cL_sizes 333 = .ok (.if_icmp .ne 18, 3) := by decide +kernel
theorem dL_sizes_336 : decode cL_sizes 336 = .ok (.aload_n 0, 1) := by decide +kernel
theorem dL_sizes_337 : decode cL_sizes 337 = .ok (.iload_n 2, 1) := by decide +kernel
theorem dL_sizes_338 : decode cL_sizes 338 = .ok (.invokevirtual 53, 3) := by decide +kernel
theorem dL_sizes_341 : decode cL_sizes 341 = .ok (.sipush (-1001), 3) := by decide +kernel
theorem dL_sizes_344 : decode cL_sizes 344 = .ok (.if_icmp .ne 7, 3) := by decide +kernel
theorem dL_sizes_347 : decode cL_sizes 347 = .ok (.iconst 1, 1) := by decide +kernel
theorem dL_sizes_348 : decode cL_sizes 348 = .ok (.goto 4, 3) := by decide +kernel
theorem dL_sizes_351 : decode cL_sizes 351 = .ok (.iconst 0, 1) := by decide +kernel
theorem dL_sizes_352 : decode cL_sizes 352 = .ok (.ireturn, 1) := by decide +kernel
set_option maxRecDepth 100000 in
theorem ggL_pairs_X6_count : GoodIn wsL_pairs wsX6_count := goodIn_r _ [5, 6, 7, 8, 9, 10, 11, 12, 13, 14, 15, 16, 17, 18, 19, 20, 21, 22, 23, 24, 25, 26, 27, 28, 29, 30, 31, 32, 33, 84, 85, 86, 87, 88, 89, 90, 91, 92, 93, 94, 95, 96, 97, 98, 99, 100, 101, 102, 103, 104, 105, 106, 107, 108, 109, 110] rfl (by decide +kernel)
set_option maxRecDepth 20000 in
theorem gL_pairs_X6_count : GoodIn wsL_pairs (wsV RL 13 RX6 yX6_count wsX6_count) := goodIn_app (goodIn_of _ (by decide +kernel)) ggL_pairs_X6_count
set_option maxRecDepth 100000 in
theorem ggL_pairs_X6_pair : GoodIn wsL_pairs wsX6_pair := goodIn_r _ [37, 6, 38, 39, 40, 41, 42, 43, 44, 45, 46, 47, 48, 49, 50, 51, 52, 53, 54, 55, 56, 57, 58, 59, 84, 85, 86, 87, 88, 89, 90, 91, 92, 93, 94, 95, 96, 97, 98, 102, 103, 104, 105] rfl (by decide +kernel)
set_option maxRecDepth 20000 in
theorem gL_pairs_X6_pair : GoodIn wsL_pairs (wsV RL 25 RX6 yX6_pair wsX6_pair) := goodIn_app (goodIn_of _ (by decide +kernel)) ggL_pairs_X6_pair
set_option maxRecDepth 100000 in
theorem ggL_pairs_X6_adjustment : GoodIn wsL_pairs wsX6_adjustment := goodIn_r _ [63, 6, 64, 65, 66, 67, 68, 69, 70, 71, 72, 73, 74, 75, 76, 12, 77, 78, 79, 80, 81, 41, 82, 43, 48, 54, 83, 56, 57, 58, 59, 84, 85, 86, 87, 88, 89, 90, 91, 92, 93, 94, 95, 96, 97, 98, 102, 103, 104, 105] rfl (by decide +kernel)
set_option maxRecDepth 20000 in
theorem gL_pairs_X6_adjustment : GoodIn wsL_pairs (wsV RL 38 RX6 yX6_adjustment wsX6_adjustment) := goodIn_app (goodIn_of _ (by decide +kernel)) ggL_pairs_X6_adjustment
theorem dL_pairs_0 : decode cL_pairs 0 = .ok (.aload_n 0, 1) := by decide +kernel
theorem dL_pairs_1 : decode cL_pairs 1 = .ok (.bipush 9, 2) := by decide +kernel
theorem dL_pairs_3 : decode cL_pairs 3 = .ok (.invokevirtual 13, 3) := by decide +kernel
theorem dL_pairs_6 : decode cL_pairs 6 = .ok (.istore_n 1, 1) := by decide +kernel
theorem dL_pairs_7 : decode cL_pairs 7 = .ok (.iconst 0, 1) := by decide +kernel
theorem dL_pairs_8 : decode cL_pairs 8 = .ok (.istore_n 2, 1) := by decide +kernel
theorem dL_pairs_9 : decode cL_pairs 9 = .ok (.iload_n 2, 1) := by decide +kernel
theorem dL_pairs_10 : decode cL_pairs 10 = .ok (.iload_n 1, 1) := by decide +kernel
theorem dL_pairs_11 : decode cL_pairs 11 = .ok (.if_icmp .ge 55, 3) := by decide +kernel
theorem dL_pairs_14 : decode cL_pairs 14 = .ok (.aload_n 0, 1) := by decide +kernel
theorem dL_pairs_15 : decode cL_pairs 15 = .ok (.iload_n 2, 1) := by decide +kernel
theorem dL_pairs_16 : decode cL_pairs 16 = .ok (.iconst 2, 1) := by decide +kernel
theorem dL_pairs_17 : decode cL_pairs 17 = .ok (.invokevirtual 25, 3) := by decide +kernel
theorem dL_pairs_20 : decode cL_pairs 20 = .ok (.istore_n 3, 1) := by decide +kernel
theorem dL_pairs_21 : decode cL_pairs 21 = .ok (.iload_n 3, 1) := by decide +kernel
theorem dL_pairs_22 : decode cL_pairs 22 = .ok (.ifCond .eq 36, 3) := by decide +kernel
theorem dL_pairs_25 : decode cL_pairs 25 = .ok (.iload_n 3, 1) := by decide +kernel
theorem dL_pairs_26 : decode cL_pairs 26 = .ok (.bipush (-3), 2) := by decide +kernel
theorem dL_pairs_28 : decode cL_pairs 28 = .ok (.if_icmp .lt 30, 3) := by decide +kernel
theorem dL_pairs_31 : decode cL_pairs 31 = .ok (.iload_n 3, 1) := by decide +kernel
theorem dL_pairs_32 : decode cL_pairs 32 = .ok (.iconst 3, 1) := by decide +kernel
theorem dL_pairs_33 : decode cL_pairs 33 = .ok (.if_icmp .gt 25, 3) := by decide +kernel
theorem dL_pairs_36 : decode cL_pairs 36 = .ok (.aload_n 0, 1) := by decide +kernel
theorem dL_pairs_37 : decode cL_pairs 37 = .ok (.aload_n 0, 1) := by decide +kernel
theorem dL_pairs_38 : decode cL_pairs 38 = .ok (.iload_n 2, 1) := by decide +kernel
theorem dL_pairs_39 : decode cL_pairs 39 = .ok (.iconst 0, 1) := by decide +kernel
theorem dL_pairs_40 : decode cL_pairs 40 = .ok (.invokevirtual 25, 3) := by decide +kernel
theorem dL_pairs_43 : decode cL_pairs 43 = .ok (.i2c, 1) := by decide +kernel
theorem dL_pairs_44 : decode cL_pairs 44 = .ok (.aload_n 0, 1) := by decide +kernel
theorem dL_pairs_45 : decode cL_pairs 45 = .ok (.iload_n 2, 1) := by decide +kernel
theorem dL_pairs_46 : decode cL_pairs 46 = .ok (.iconst 1, 1) := by decide +kernel
theorem dL_pairs_47 : decode cL_pairs 47 = .ok (.invokevirtual 25, 3) := by decide +kernel
theorem dL_pairs_50 : decode cL_pairs 50 = .ok (.i2c, 1) := by decide +kernel
theorem dL_pairs_51 : decode cL_pairs 51 = .ok (.invokevirtual 38, 3) := by decide +kernel
theorem dL_pairs_54 : decode cL_pairs 54 = .ok (.iload_n 3, 1) := by decide +kernel
theorem dL_pairs_55 : decode cL_pairs 55 = .ok (.if_icmp .eq 5, 3) := by decide +kernel
theorem dL_pairs_58 : decode cL_pairs 58 = .ok (.iconst 0, 1) := by decide +kernel
theorem dL_pairs_59 : decode cL_pairs 59 = .ok (.ireturn, 1) := by decide +kernel
theorem dL_pairs_60 : decode cL_pairs 60 = .ok (.iinc 2 1, 3) := by decide +kernel
theorem dL_pairs_63 : decode cL_pairs 63 = .ok (.goto (-54), 3) := by decide +kernel
theorem dL_pairs_66 : decode cL_pairs 66 = .ok (.iload_n 1, 1) := by decide +kernel
theorem dL_pairs_67 : decode cL_pairs 67 = .ok (.bipush 16, 2) := by decide +kernel
theorem dL_pairs_69 : decode cL_pairs 69 = .ok (.if_icmp .gt 45, 3) := by decide +kernel
theorem dL_pairs_72 : decode cL_pairs 72 = .ok (.aload_n 0, 1) := by decide +kernel
theorem dL_pairs_73 : decode cL_pairs 73 = .ok (.iload_n 1, 1) := by decide +kernel
theorem dL_pairs_74 : decode cL_pairs 74 = .ok (.iconst 0, 1) := by decide +kernel
theorem dL_pairs_75 : decode cL_pairs 75 = .ok (.invokevirtual 25, 3) := by decide +kernel
theorem dL_pairs_78 : decode cL_pairs 78 = .ok (.sipush (-1005), 3) := by decide +kernel
theorem dL_pairs_81 : decode cL_pairs 81 = .ok (.if_icmp .ne 33, 3) := by decide +kernel
theorem dL_pairs_84 : decode cL_pairs 84 = .ok (.aload_n 0, 1) := by decide +kernel
theorem dL_pairs_85 : decode cL_pairs 85 = .ok (.iconst (-1), 1) := by decide +kernel
theorem dL_pairs_86 : decode cL_pairs 86 = .ok (.iconst 0, 1) := by decide +kernel
theorem dL_pairs_87 : decode cL_pairs 87 = .ok (.invokevirtual 25, 3) := by decide +kernel
theorem dL_pairs_90 : decode cL_pairs 90 = .ok (.sipush (-1002), 3) := by decide +kernel
theorem dL_pairs_93 : decode cL_pairs 93 = .ok (.if_icmp .ne 21, 3) := by decide +kernel
theorem dL_pairs_96 : decode cL_pairs 96 = .ok (.aload_n 0, 1) := by decide +kernel
theorem dL_pairs_97 : decode cL_pairs 97 = .ok (.bipush 97, 2) := by decide +kernel
theorem dL_pairs_99 : decode cL_pairs 99 = .ok (.bipush 65, 2) := by decide +kernel
theorem dL_pairs_101 : decode cL_pairs 101 = .ok (.invokevirtual 38, 3) := by decide +kernel
theorem dL_pairs_104 : decode cL_pairs 104 = .ok (.sipush (-1001), 3) := by decide +kernel
theorem dL_pairs_107 : decode cL_pairs 107 = .ok (.if_icmp .ne 7, 3) := by decide +kernel
theorem dL_pairs_110 : decode cL_pairs 110 = .ok (.iconst 1, 1) := by decide +kernel
theorem dL_pairs_111 : decode cL_pairs 111 = .ok (.goto 4, 3) := by decide +kernel
theorem dL_pairs_114 : decode cL_pairs 114 = .ok (.iconst 0, 1) := by decide +kernel
theorem dL_pairs_115 : decode cL_pairs 115 = .ok (.ireturn, 1) := by decide +kernel
set_option maxRecDepth 100000 in
theorem ggL_points_X6_size : GoodIn wsL_points wsX6_size := goodIn_r _ [5, 6, 7, 8, 9, 10, 11, 12, 13, 14, 15, 16, 17, 18, 19, 20, 21, 22, 23, 24, 25, 26, 27, 28, 29, 30, 31, 32, 33, 34, 35, 36, 37, 38, 39, 40, 41, 42, 43, 44, 45, 46, 47, 48, 49, 50, 51, 52, 53, 54, 55, 56, 57, 58, 59, 60, 61, 62, 63, 64, 65, 66, 67, 68, 69, 70, 71, 72, 73, 74, 75, 76, 77, 78, 79, 80, 81, 82, 83, 84, 85, 86, 87, 88, 89, 90, 91, 92, 93, 198, 199, 200, 201, 202, 203, 204, 205, 206, 207, 208, 209, 210, 211, 212, 213, 214, 215, 216, 217, 218, 219] rfl (by decide +kernel)
set_option maxRecDepth 20000 in
theorem gL_points_X6_size : GoodIn wsL_points (wsV RL 30 RX6 yX6_size wsX6_size) := goodIn_app (goodIn_of _ (by decide +kernel)) ggL_points_X6_size
set_option maxRecDepth 100000 in
theorem ggL_points_X6_name : GoodIn wsL_points wsX6_name := goodIn_r _ [97, 6, 98, 99, 100, 36, 101, 102, 103, 34, 35, 37, 38, 104, 30, 31, 10, 32, 15, 33, 39, 40, 41, 42, 43, 44, 45, 46, 47, 48, 49, 50, 51, 52, 53, 54, 55, 56, 25, 26, 27, 28, 57, 58, 59, 60, 61, 62, 63, 64, 65, 66, 67, 68, 69, 70, 71, 72, 105, 106, 107, 108, 20, 109, 110, 111, 112, 82, 83, 84, 85, 86, 87, 88, 89, 113, 114, 115, 116, 117, 118, 119, 120, 121, 122, 123, 7, 8, 9, 11, 12, 13, 14, 16, 17, 18, 19, 21, 22, 23, 24, 29, 73, 74, 75, 76, 77, 78, 79, 80, 81, 90, 91, 92, 93, 124, 125, 126, 4, 127, 128, 129, 130, 131, 132, 133, 134, 135, 136, 137, 138, 139, 140, 141, 142, 143, 144, 145, 146, 147, 148, 149, 150, 151, 152, 153, 154, 155, 156, 157, 198, 199, 200, 201, 202, 203, 204, 205, 206, 207, 208, 209, 210, 211, 212, 213, 214, 215, 216, 217, 218, 219] rfl (by decide +kernel)
set_option maxRecDepth 20000 in
theorem gL_points_X6_name : GoodIn wsL_points (wsV RL 19 RX6 yX6_name wsX6_name) := goodIn_app (goodIn_of _ (by decide +kernel)) ggL_points_X6_name
set_option maxRecDepth 100000 in
theorem ggL_points_L_low : GoodIn wsL_points wsL_low := goodIn_r _ [161, 162] rfl (by decide +kernel)
set_option maxRecDepth 20000 in
theorem gL_points_L_low : GoodIn wsL_points (va_wsS RL 59 yL_low wsL_low) := goodIn_app (goodIn_of _ (by decide +kernel)) ggL_points_L_low
set_option maxRecDepth 100000 in
theorem ggL_points_X6_sign : GoodIn wsL_points wsX6_sign := goodIn_r _ [166, 6, 167, 168, 169, 36, 170, 171, 99, 100, 101, 102, 172, 34, 35, 37, 38, 173, 44, 45, 46, 47, 174, 40, 41, 10, 42, 15, 43, 48, 49, 50, 51, 52, 53, 54, 55, 56, 25, 26, 27, 28, 33, 57, 58, 59, 60, 61, 62, 63, 64, 65, 66, 67, 68, 69, 70, 71, 72, 175, 176, 177, 178, 179, 180, 181, 182, 183, 184, 7, 8, 9, 11, 12, 13, 14, 16, 17, 18, 19, 20, 21, 22, 23, 24, 29, 30, 31, 32, 39, 73, 74, 75, 76, 77, 78, 79, 80, 81, 82, 83, 84, 85, 86, 87, 88, 89, 90, 91, 92, 93, 185, 186, 187, 4, 188, 133, 134, 135, 136, 137, 138, 139, 140, 141, 142, 143, 144, 114, 115, 116, 145, 118, 119, 120, 121, 122, 123, 146, 147, 148, 149, 198, 199, 200, 201, 202, 203, 204, 205, 206, 207, 208, 209, 210, 211, 212, 213, 214, 215, 216, 217, 218, 219] rfl (by decide +kernel)
set_option maxRecDepth 20000 in
theorem gL_points_X6_sign : GoodIn wsL_points (wsV RL 34 RX6 yX6_sign wsX6_sign) := goodIn_app (goodIn_of _ (by decide +kernel)) ggL_points_X6_sign
set_option maxRecDepth 100000 in
theorem ggL_points_X6_signAt : GoodIn wsL_points wsX6_signAt := goodIn_r _ [192, 6, 7, 8, 9, 10, 11, 12, 13, 14, 15, 16, 17, 18, 19, 20, 21, 22, 23, 24, 25, 26, 27, 28, 29, 30, 31, 32, 33, 34, 35, 36, 37, 38, 39, 40, 41, 42, 43, 44, 45, 46, 47, 48, 49, 50, 51, 52, 53, 54, 55, 56, 57, 58, 59, 60, 61, 62, 63, 64, 65, 66, 67, 68, 69, 70, 71, 72, 73, 74, 75, 76, 77, 78, 79, 80, 81, 82, 83, 84, 85, 86, 87, 88, 89, 90, 91, 92, 93, 150, 151, 152, 153, 132, 110, 111, 112, 193, 194, 195, 196, 197, 134, 135, 136, 137, 138, 139, 140, 141, 142, 143, 144, 114, 115, 116, 145, 118, 119, 120, 121, 122, 123, 146, 147, 148, 149, 198, 199, 200, 201, 202, 203, 204, 205, 206, 207, 208, 209, 210, 211, 212, 213, 214, 215, 216, 217, 218, 219] rfl (by decide +kernel)
set_option maxRecDepth 20000 in
theorem gL_points_X6_signAt : GoodIn wsL_points (wsV RL 62 RX6 yX6_signAt wsX6_signAt) := goodIn_app (goodIn_of _ (by decide +kernel)) ggL_points_X6_signAt
theorem dL_points_0 : decode cL_points 0 = .ok (.aload_n 0, 1) := by decide +kernel
theorem dL_points_1 : decode cL_points 1 = .ok (.invokevirtual 30, 3) := by decide +kernel
theorem dL_points_4 : decode cL_points 4 = .ok (.istore_n 3, 1) := by decide +kernel
theorem dL_points_5 : decode cL_points 5 = .ok (.iload_n 3, 1) := by decide +kernel
theorem dL_points_6 : decode cL_points 6 = .ok (.ifCond .ne 7, 3) := by decide +kernel
theorem dL_points_9 : decode cL_points 9 = .ok (.iconst 0, 1) := by decide +kernel
theorem dL_points_10 : decode cL_points 10 = .ok (.goto 17, 3) := by decide +kernel
theorem dL_points_13 : decode cL_points 13 = .ok (.aload_n 0, 1) := by decide +kernel
theorem dL_points_14 : decode cL_points 14 = .ok (.iload_n 1, 1) := by decide +kernel
theorem dL_points_15 : decode cL_points 15 = .ok (.bipush 6, 2) := by decide +kernel
theorem dL_points_17 : decode cL_points 17 = .ok (.invokevirtual 19, 3) := by decide +kernel
theorem dL_points_20 : decode cL_points 20 = .ok (.bipush 12, 2) := by decide +kernel
theorem dL_points_22 : decode cL_points 22 = .ok (.iload_n 3, 1) := by decide +kernel
theorem dL_points_23 : decode cL_points 23 = .ok (.imul, 1) := by decide +kernel
theorem dL_points_24 : decode cL_points 24 = .ok (.iadd, 1) := by decide +kernel
theorem dL_points_25 : decode cL_points 25 = .ok (.iconst 1, 1) := by decide +kernel
theorem dL_points_26 : decode cL_points 26 = .ok (.isub, 1) := by decide +kernel
theorem dL_points_27 : decode cL_points 27 = .ok (.istore 4, 2) := by decide +kernel
theorem dL_points_29 : decode cL_points 29 = .ok (.aload_n 0, 1) := by decide +kernel
theorem dL_points_30 : decode cL_points 30 = .ok (.iload_n 1, 1) := by decide +kernel
theorem dL_points_31 : decode cL_points 31 = .ok (.iconst 0, 1) := by decide +kernel
theorem dL_points_32 : decode cL_points 32 = .ok (.invokevirtual 19, 3) := by decide +kernel
theorem dL_points_35 : decode cL_points 35 = .ok (.istore 5, 2) := by decide +kernel
theorem dL_points_37 : decode cL_points 37 = .ok (.iconst 0, 1) := by decide +kernel
theorem dL_points_38 : decode cL_points 38 = .ok (.istore 6, 2) := by decide +kernel
theorem dL_points_40 : decode cL_points 40 = .ok (.iload_n 3, 1) := by decide +kernel
theorem dL_points_41 : decode cL_points 41 = .ok (.ifCond .le 178, 3) := by decide +kernel
theorem dL_points_44 : decode cL_points 44 = .ok (.iload 6, 2) := by decide +kernel
theorem dL_points_46 : decode cL_points 46 = .ok (.iconst 2, 1) := by decide +kernel
theorem dL_points_47 : decode cL_points 47 = .ok (.if_icmp .ge 172, 3) := by decide +kernel
theorem dL_points_50 : decode cL_points 50 = .ok (.iload 6, 2) := by decide +kernel
theorem dL_points_52 : decode cL_points 52 = .ok (.ifCond .ne 10, 3) := by decide +kernel
theorem dL_points_55 : decode cL_points 55 = .ok (.iload 5, 2) := by decide +kernel
theorem dL_points_57 : decode cL_points 57 = .ok (.iconst 1, 1) := by decide +kernel
theorem dL_points_58 : decode cL_points 58 = .ok (.isub, 1) := by decide +kernel
theorem dL_points_59 : decode cL_points 59 = .ok (.goto 9, 3) := by decide +kernel
theorem dL_points_62 : decode cL_points 62 = .ok (.iload_n 2, 1) := by decide +kernel
theorem dL_points_63 : decode cL_points 63 = .ok (.iload 5, 2) := by decide +kernel
theorem dL_points_65 : decode cL_points 65 = .ok (.invokestatic 59, 3) := by decide +kernel
theorem dL_points_68 : decode cL_points 68 = .ok (.istore 7, 2) := by decide +kernel
theorem dL_points_70 : decode cL_points 70 = .ok (.aload_n 0, 1) := by decide +kernel
theorem dL_points_71 : decode cL_points 71 = .ok (.iload_n 1, 1) := by decide +kernel
theorem dL_points_72 : decode cL_points 72 = .ok (.iload 7, 2) := by decide +kernel
theorem dL_points_74 : decode cL_points 74 = .ok (.iconst 5, 1) := by decide +kernel
theorem dL_points_75 : decode cL_points 75 = .ok (.invokevirtual 34, 3) := by decide +kernel
theorem dL_points_78 : decode cL_points 78 = .ok (.istore 8, 2) := by decide +kernel
theorem dL_points_80 : decode cL_points 80 = .ok (.iload 8, 2) := by decide +kernel
theorem dL_points_82 : decode cL_points 82 = .ok (.iload_n 3, 1) := by decide +kernel
theorem dL_points_83 : decode cL_points 83 = .ok (.aload_n 0, 1) := by decide +kernel
theorem dL_points_84 : decode cL_points 84 = .ok (.iload_n 1, 1) := by decide +kernel
theorem dL_points_85 : decode cL_points 85 = .ok (.iload 7, 2) := by decide +kernel
theorem dL_points_87 : decode cL_points 87 = .ok (.iconst 2, 1) := by decide +kernel
theorem dL_points_88 : decode cL_points 88 = .ok (.invokevirtual 34, 3) := by decide +kernel
theorem dL_points_91 : decode cL_points 91 = .ok (.imul, 1) := by decide +kernel
theorem dL_points_92 : decode cL_points 92 = .ok (.iadd, 1) := by decide +kernel
theorem dL_points_93 : decode cL_points 93 = .ok (.istore 9, 2) := by decide +kernel
theorem dL_points_95 : decode cL_points 95 = .ok (.aload_n 0, 1) := by decide +kernel
theorem dL_points_96 : decode cL_points 96 = .ok (.iload 8, 2) := by decide +kernel
theorem dL_points_98 : decode cL_points 98 = .ok (.iload 4, 2) := by decide +kernel
theorem dL_points_100 : decode cL_points 100 = .ok (.invokevirtual 62, 3) := by decide +kernel
theorem dL_points_103 : decode cL_points 103 = .ok (.istore 10, 2) := by decide +kernel
theorem dL_points_105 : decode cL_points 105 = .ok (.aload_n 0, 1) := by decide +kernel
theorem dL_points_106 : decode cL_points 106 = .ok (.iload 9, 2) := by decide +kernel
theorem dL_points_108 : decode cL_points 108 = .ok (.iconst 1, 1) := by decide +kernel
theorem dL_points_109 : decode cL_points 109 = .ok (.isub, 1) := by decide +kernel
theorem dL_points_110 : decode cL_points 110 = .ok (.iload 4, 2) := by decide +kernel
theorem dL_points_112 : decode cL_points 112 = .ok (.invokevirtual 62, 3) := by decide +kernel
theorem dL_points_115 : decode cL_points 115 = .ok (.istore 11, 2) := by decide +kernel
theorem dL_points_117 : decode cL_points 117 = .ok (.iload 10, 2) := by decide +kernel
theorem dL_points_119 : decode cL_points 119 = .ok (.bipush 100, 2) := by decide +kernel
theorem dL_points_121 : decode cL_points 121 = .ok (.idiv, 1) := by decide +kernel
theorem dL_points_122 : decode cL_points 122 = .ok (.iload_n 1, 1) := by decide +kernel
theorem dL_points_123 : decode cL_points 123 = .ok (.if_icmp .gt 64, 3) := by decide +kernel
theorem dL_points_126 : decode cL_points 126 = .ok (.iload 11, 2) := by decide +kernel
theorem dL_points_128 : decode cL_points 128 = .ok (.bipush 100, 2) := by decide +kernel
theorem dL_points_130 : decode cL_points 130 = .ok (.idiv, 1) := by decide +kernel
theorem dL_points_131 : decode cL_points 131 = .ok (.iload_n 1, 1) := by decide +kernel
theorem dL_points_132 : decode cL_points 132 = .ok (.if_icmp .gt 55, 3) := by decide +kernel
theorem dL_points_135 : decode cL_points 135 = .ok (.iload 10, 2) := by decide +kernel
theorem dL_points_137 : decode cL_points 137 = .ok (.bipush 100, 2) := by decide +kernel
theorem dL_points_139 : decode cL_points 139 = .ok (.idiv, 1) := by decide +kernel
theorem dL_points_140 : decode cL_points 140 = .ok (.iload_n 1, 1) := by decide +kernel
theorem dL_points_141 : decode cL_points 141 = .ok (.if_icmp .ne 15, 3) := by decide +kernel
theorem dL_points_144 : decode cL_points 144 = .ok (.iload 10, 2) := by decide +kernel
theorem dL_points_146 : decode cL_points 146 = .ok (.bipush 100, 2) := by decide +kernel
theorem dL_points_148 : decode cL_points 148 = .ok (.iload_n 1, 1) := by decide +kernel
theorem dL_points_149 : decode cL_points 149 = .ok (.imul, 1) := by decide +kernel
theorem dL_points_150 : decode cL_points 150 = .ok (.iload 7, 2) := by decide +kernel
theorem dL_points_152 : decode cL_points 152 = .ok (.iadd, 1) := by decide +kernel
theorem dL_points_153 : decode cL_points 153 = .ok (.if_icmp .ne 34, 3) := by decide +kernel
theorem dL_points_156 : decode cL_points 156 = .ok (.iload 11, 2) := by decide +kernel
theorem dL_points_158 : decode cL_points 158 = .ok (.bipush 100, 2) := by decide +kernel
theorem dL_points_160 : decode cL_points 160 = .ok (.idiv, 1) := by decide +kernel
theorem dL_points_161 : decode cL_points 161 = .ok (.iload_n 1, 1) := by decide +kernel
theorem dL_points_162 : decode cL_points 162 = .ok (.if_icmp .ne 15, 3) := by decide +kernel
theorem dL_points_165 : decode cL_points 165 = .ok (.iload 11, 2) := by decide +kernel
theorem dL_points_167 : decode cL_points 167 = .ok (.bipush 100, 2) := by decide +kernel
theorem dL_points_169 : decode cL_points 169 = .ok (.iload_n 1, 1) := by decide +kernel
theorem dL_points_170 : decode cL_points 170 = .ok (.imul, 1) := by decide +kernel
theorem dL_points_171 : decode cL_points 171 = .ok (.iload 7, 2) := by decide +kernel
theorem dL_points_173 : decode cL_points 173 = .ok (.iadd, 1) := by decide +kernel
theorem dL_points_174 : decode cL_points 174 = .ok (.if_icmp .ne 13, 3) := by decide +kernel
theorem dL_points_177 : decode cL_points 177 = .ok (.iload 10, 2) := by decide +kernel
theorem dL_points_179 : decode cL_points 179 = .ok (.ifCond .lt 8, 3) := by decide +kernel
theorem dL_points_182 : decode cL_points 182 = .ok (.iload 11, 2) := by decide +kernel
theorem dL_points_184 : decode cL_points 184 = .ok (.ifCond .ge 5, 3) := by decide +kernel
theorem dL_points_187 : decode cL_points 187 = .ok (.iconst 0, 1) := by decide +kernel
theorem dL_points_188 : decode cL_points 188 = .ok (.ireturn, 1) := by decide +kernel
theorem dL_points_189 : decode cL_points 189 = .ok (.aload_n 0, 1) := by decide +kernel
theorem dL_points_190 : decode cL_points 190 = .ok (.iload 9, 2) := by decide +kernel
theorem dL_points_192 : decode cL_points 192 = .ok (.iload 4, 2) := by decide +kernel
theorem dL_points_194 : decode cL_points 194 = .ok (.invokevirtual 62, 3) := by decide +kernel
theorem dL_points_197 : decode cL_points 197 = .ok (.istore 12, 2) := by decide +kernel
theorem dL_points_199 : decode cL_points 199 = .ok (.iload 12, 2) := by decide +kernel
theorem dL_points_201 : decode cL_points 201 = .ok (.bipush 100, 2) := by decide +kernel
theorem dL_points_203 : decode cL_points 203 = .ok (.iload_n 1, 1) := by decide +kernel
theorem dL_points_204 : decode cL_points 204 = .ok (.imul, 1) := by decide +kernel
theorem dL_points_205 : decode cL_points 205 = .ok (.iload 7, 2) := by decide +kernel
theorem dL_points_207 : decode cL_points 207 = .ok (.iadd, 1) := by decide +kernel
theorem dL_points_208 : decode cL_points 208 = .ok (.if_icmp .ne 5, 3) := by decide +kernel
theorem dL_points_211 : decode cL_points 211 = .ok (.iconst 0, 1) := by decide +kernel
theorem dL_points_212 : decode cL_points 212 = .ok (.ireturn, 1) := by decide +kernel
theorem dL_points_213 : decode cL_points 213 = .ok (.iinc 6 1, 3) := by decide +kernel
theorem dL_points_216 : decode cL_points 216 = .ok (.goto (-176), 3) := by decide +kernel
theorem dL_points_219 : decode cL_points 219 = .ok (.aload_n 0, 1) := by decide +kernel
theorem dL_points_220 : decode cL_points 220 = .ok (.iconst (-1), 1) := by decide +kernel
theorem dL_points_221 : decode cL_points 221 = .ok (.iconst 0, 1) := by decide +kernel
theorem dL_points_222 : decode cL_points 222 = .ok (.invokevirtual 62, 3) := by decide +kernel
theorem dL_points_225 : decode cL_points 225 = .ok (.sipush (-1002), 3) := by decide +kernel
theorem dL_points_228 : decode cL_points 228 = .ok (.if_icmp .ne 25, 3) := by decide +kernel
theorem dL_points_231 : decode cL_points 231 = .ok (.iload_n 3, 1) := by decide +kernel
theorem dL_points_232 : decode cL_points 232 = .ok (.ifCond .gt 17, 3) := by decide +kernel
theorem dL_points_235 : decode cL_points 235 = .ok (.aload_n 0, 1) := by decide +kernel
theorem dL_points_236 : decode cL_points 236 = .ok (.bipush 30, 2) := by decide +kernel
theorem dL_points_238 : decode cL_points 238 = .ok (.bipush 30, 2) := by decide +kernel
theorem dL_points_240 : decode cL_points 240 = .ok (.invokevirtual 62, 3) := by decide +kernel
theorem dL_points_243 : decode cL_points 243 = .ok (.sipush (-1005), 3) := by decide +kernel
theorem dL_points_246 : decode cL_points 246 = .ok (.if_icmp .ne 7, 3) := by decide +kernel
theorem dL_points_249 : decode cL_points 249 = .ok (.iconst 1, 1) := by decide +kernel
theorem dL_points_250 : decode cL_points 250 = .ok (.goto 4, 3) := by decide +kernel
theorem dL_points_253 : decode cL_points 253 = .ok (.iconst 0, 1) := by decide +kernel
theorem dL_points_254 : decode cL_points 254 = .ok (.ireturn, 1) := by decide +kernel
set_option maxRecDepth 100000 in
theorem ggL_plate_X6_count : GoodIn wsL_plate wsX6_count := goodIn_r _ [5, 6, 7, 8, 9, 10, 11, 12, 13, 14, 15, 16, 17, 18, 19, 20, 21, 22, 23, 24, 25, 26, 27, 28, 29, 30, 31, 32, 33, 109, 110, 111, 112, 113, 114, 115, 116, 117, 118, 119, 120, 121, 122, 123, 124, 125, 126, 127, 128, 129, 130, 131, 132, 133, 134, 135] rfl (by decide +kernel)
set_option maxRecDepth 20000 in
theorem gL_plate_X6_count : GoodIn wsL_plate (wsV RL 13 RX6 yX6_count wsX6_count) := goodIn_app (goodIn_of _ (by decide +kernel)) ggL_plate_X6_count
set_option maxRecDepth 100000 in
theorem ggL_plate_L_low : GoodIn wsL_plate wsL_low := goodIn_r _ [37, 38] rfl (by decide +kernel)
set_option maxRecDepth 20000 in
theorem gL_plate_L_low : GoodIn wsL_plate (va_wsS RL 59 yL_low wsL_low) := goodIn_app (goodIn_of _ (by decide +kernel)) ggL_plate_L_low
set_option maxRecDepth 100000 in
theorem ggL_plate_X6_recut : GoodIn wsL_plate wsX6_recut := goodIn_r _ [42, 7, 6, 43, 44, 4, 45, 46, 47, 48, 49, 50, 51, 52, 53, 54, 55, 56, 57, 58, 59, 60, 12, 61, 62, 63, 64, 65, 66, 26, 14, 67, 68, 69, 70, 71, 72, 73, 74, 75, 76, 77, 78, 79, 80, 81, 82, 83, 84, 85, 86, 87, 88, 89, 90, 91, 92, 93, 94, 95, 96, 10, 11, 13, 15, 16, 17, 18, 19, 20, 21, 109, 110, 111, 112, 113, 131, 132, 133, 114, 115, 116, 117, 118, 119, 120, 121, 122, 123, 124, 125, 126, 127, 128, 129, 130] rfl (by decide +kernel)
set_option maxRecDepth 20000 in
theorem gL_plate_X6_recut : GoodIn wsL_plate (wsV RL 65 RX6 yX6_recut wsX6_recut) := goodIn_app (goodIn_of _ (by decide +kernel)) ggL_plate_X6_recut
set_option maxRecDepth 100000 in
theorem ggL_plate_X6_setMargin : GoodIn wsL_plate wsX6_setMargin := goodIn_r _ [100, 6, 7, 101, 102, 103, 12, 104, 14, 46, 47, 48, 49, 50, 51, 52, 53, 54, 55, 56, 57, 58, 59, 60, 61, 62, 63, 64, 65, 66, 26, 67, 68, 69, 70, 71, 72, 73, 74, 75, 76, 77, 78, 79, 80, 81, 82, 83, 84, 85, 86, 87, 88, 89, 90, 91, 109, 110, 111, 112, 113, 114, 115, 116, 117, 118, 119, 120, 121, 122, 123, 131, 132, 133, 124, 125, 126, 127, 128, 129, 130] rfl (by decide +kernel)
set_option maxRecDepth 20000 in
theorem gL_plate_X6_setMargin : GoodIn wsL_plate (wsV RL 68 RX6 yX6_setMargin wsX6_setMargin) := goodIn_app (goodIn_of _ (by decide +kernel)) ggL_plate_X6_setMargin
set_option maxRecDepth 100000 in
theorem ggL_plate_X6_setColumns : GoodIn wsL_plate wsX6_setColumns := goodIn_r _ [108, 6, 7, 101, 102, 103, 12, 104, 14, 46, 47, 48, 49, 50, 51, 52, 53, 54, 55, 56, 57, 58, 59, 60, 61, 62, 63, 64, 65, 66, 26, 67, 68, 69, 70, 71, 72, 73, 74, 75, 76, 77, 78, 79, 80, 81, 82, 83, 84, 85, 86, 87, 88, 89, 90, 91, 109, 110, 111, 112, 113, 114, 115, 116, 117, 118, 119, 120, 121, 122, 123, 131, 132, 133, 124, 125, 126, 127, 128, 129, 130] rfl (by decide +kernel)
set_option maxRecDepth 20000 in
theorem gL_plate_X6_setColumns : GoodIn wsL_plate (wsV RL 71 RX6 yX6_setColumns wsX6_setColumns) := goodIn_app (goodIn_of _ (by decide +kernel)) ggL_plate_X6_setColumns
theorem dL_plate_0 : decode cL_plate 0 = .ok (.aload_n 0, 1) := by decide +kernel
theorem dL_plate_1 : decode cL_plate 1 = .ok (.iconst 5, 1) := by decide +kernel
theorem dL_plate_2 : decode cL_plate 2 = .ok (.invokevirtual 13, 3) := by decide +kernel
theorem dL_plate_5 : decode cL_plate 5 = .ok (.istore_n 3, 1) := by decide +kernel
theorem dL_plate_6 : decode cL_plate 6 = .ok (.iload_n 1, 1) := by decide +kernel
theorem dL_plate_7 : decode cL_plate 7 = .ok (.ifCond .ne 102, 3) := by decide +kernel
theorem dL_plate_10 : decode cL_plate 10 = .ok (.sipush 300, 3) := by decide +kernel
theorem dL_plate_13 : decode cL_plate 13 = .ok (.iload_n 2, 1) := by decide +kernel
theorem dL_plate_14 : decode cL_plate 14 = .ok (.sipush 5701, 3) := by decide +kernel
theorem dL_plate_17 : decode cL_plate 17 = .ok (.invokestatic 59, 3) := by decide +kernel
theorem dL_plate_20 : decode cL_plate 20 = .ok (.iadd, 1) := by decide +kernel
theorem dL_plate_21 : decode cL_plate 21 = .ok (.istore 4, 2) := by decide +kernel
theorem dL_plate_23 : decode cL_plate 23 = .ok (.bipush 100, 2) := by decide +kernel
theorem dL_plate_25 : decode cL_plate 25 = .ok (.iload_n 2, 1) := by decide +kernel
theorem dL_plate_26 : decode cL_plate 26 = .ok (.iconst 4, 1) := by decide +kernel
theorem dL_plate_27 : decode cL_plate 27 = .ok (.ishr, 1) := by decide +kernel
theorem dL_plate_28 : decode cL_plate 28 = .ok (.sipush 2901, 3) := by decide +kernel
theorem dL_plate_31 : decode cL_plate 31 = .ok (.invokestatic 59, 3) := by decide +kernel
theorem dL_plate_34 : decode cL_plate 34 = .ok (.iadd, 1) := by decide +kernel
theorem dL_plate_35 : decode cL_plate 35 = .ok (.istore 5, 2) := by decide +kernel
theorem dL_plate_37 : decode cL_plate 37 = .ok (.aload_n 0, 1) := by decide +kernel
theorem dL_plate_38 : decode cL_plate 38 = .ok (.bipush 8, 2) := by decide +kernel
theorem dL_plate_40 : decode cL_plate 40 = .ok (.invokevirtual 13, 3) := by decide +kernel
