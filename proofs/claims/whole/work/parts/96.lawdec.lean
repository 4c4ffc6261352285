/-! Decode rows of the law. -/
theorem d_L_law_0 : decode code 0 = .ok (.new 8, 3) := by decide +kernel
theorem d_L_law_3 : decode code 3 = .ok (.dup, 1) := by decide +kernel
theorem d_L_law_4 : decode code 4 = .ok (.invokespecial 81, 3) := by decide +kernel
theorem d_L_law_7 : decode code 7 = .ok (.astore_n 1, 1) := by decide +kernel
theorem d_L_law_8 : decode code 8 = .ok (.new 82, 3) := by decide +kernel
theorem d_L_law_11 : decode code 11 = .ok (.dup, 1) := by decide +kernel
theorem d_L_law_12 : decode code 12 = .ok (.invokespecial 84, 3) := by decide +kernel
theorem d_L_law_15 : decode code 15 = .ok (.astore_n 2, 1) := by decide +kernel
theorem d_L_law_16 : decode code 16 = .ok (.iconst 1, 1) := by decide +kernel
theorem d_L_law_17 : decode code 17 = .ok (.newarray .long, 2) := by decide +kernel
theorem d_L_law_19 : decode code 19 = .ok (.astore_n 3, 1) := by decide +kernel
theorem d_L_law_20 : decode code 20 = .ok (.iconst 0, 1) := by decide +kernel
theorem d_L_law_21 : decode code 21 = .ok (.istore 4, 2) := by decide +kernel
theorem d_L_law_23 : decode code 23 = .ok (.iload 4, 2) := by decide +kernel
theorem d_L_law_25 : decode code 25 = .ok (.aload_n 0, 1) := by decide +kernel
theorem d_L_law_26 : decode code 26 = .ok (.arraylength, 1) := by decide +kernel
theorem d_L_law_27 : decode code 27 = .ok (.iconst 4, 1) := by decide +kernel
theorem d_L_law_28 : decode code 28 = .ok (.isub, 1) := by decide +kernel
theorem d_L_law_29 : decode code 29 = .ok (.if_icmp .gt 1114, 3) := by decide +kernel
theorem d_L_law_32 : decode code 32 = .ok (.aload_n 0, 1) := by decide +kernel
theorem d_L_law_33 : decode code 33 = .ok (.iload 4, 2) := by decide +kernel
theorem d_L_law_35 : decode code 35 = .ok (.iaload, 1) := by decide +kernel
theorem d_L_law_36 : decode code 36 = .ok (.bipush 31, 2) := by decide +kernel
theorem d_L_law_38 : decode code 38 = .ok (.iand, 1) := by decide +kernel
theorem d_L_law_39 : decode code 39 = .ok (.tableswitch 1098 0 19 #[93, 173, 233, 301, 349, 397, 433, 469, 517, 553, 601, 649, 662, 730, 786, 842, 898, 942, 998, 1042], 93) := by decide +kernel
theorem d_L_law_132 : decode code 132 = .ok (.aload_n 1, 1) := by decide +kernel
theorem d_L_law_133 : decode code 133 = .ok (.aload_n 0, 1) := by decide +kernel
theorem d_L_law_134 : decode code 134 = .ok (.iload 4, 2) := by decide +kernel
theorem d_L_law_136 : decode code 136 = .ok (.iconst 1, 1) := by decide +kernel
theorem d_L_law_137 : decode code 137 = .ok (.iadd, 1) := by decide +kernel
theorem d_L_law_138 : decode code 138 = .ok (.iaload, 1) := by decide +kernel
theorem d_L_law_139 : decode code 139 = .ok (.aload_n 0, 1) := by decide +kernel
theorem d_L_law_140 : decode code 140 = .ok (.iload 4, 2) := by decide +kernel
theorem d_L_law_142 : decode code 142 = .ok (.iconst 2, 1) := by decide +kernel
theorem d_L_law_143 : decode code 143 = .ok (.iadd, 1) := by decide +kernel
theorem d_L_law_144 : decode code 144 = .ok (.iaload, 1) := by decide +kernel
theorem d_L_law_145 : decode code 145 = .ok (.aload_n 0, 1) := by decide +kernel
theorem d_L_law_146 : decode code 146 = .ok (.iload 4, 2) := by decide +kernel
theorem d_L_law_148 : decode code 148 = .ok (.iconst 3, 1) := by decide +kernel
theorem d_L_law_149 : decode code 149 = .ok (.iadd, 1) := by decide +kernel
theorem d_L_law_150 : decode code 150 = .ok (.iaload, 1) := by decide +kernel
theorem d_L_law_151 : decode code 151 = .ok (.aload_n 3, 1) := by decide +kernel
theorem d_L_law_152 : decode code 152 = .ok (.invokestatic 85, 3) := by decide +kernel
theorem d_L_law_155 : decode code 155 = .ok (.istore 5, 2) := by decide +kernel
theorem d_L_law_157 : decode code 157 = .ok (.aload_n 2, 1) := by decide +kernel
theorem d_L_law_158 : decode code 158 = .ok (.aload_n 0, 1) := by decide +kernel
theorem d_L_law_159 : decode code 159 = .ok (.iload 4, 2) := by decide +kernel
theorem d_L_law_161 : decode code 161 = .ok (.iconst 1, 1) := by decide +kernel
theorem d_L_law_162 : decode code 162 = .ok (.iadd, 1) := by decide +kernel
theorem d_L_law_163 : decode code 163 = .ok (.iaload, 1) := by decide +kernel
theorem d_L_law_164 : decode code 164 = .ok (.aload_n 0, 1) := by decide +kernel
theorem d_L_law_165 : decode code 165 = .ok (.iload 4, 2) := by decide +kernel
theorem d_L_law_167 : decode code 167 = .ok (.iconst 2, 1) := by decide +kernel
theorem d_L_law_168 : decode code 168 = .ok (.iadd, 1) := by decide +kernel
theorem d_L_law_169 : decode code 169 = .ok (.iaload, 1) := by decide +kernel
theorem d_L_law_170 : decode code 170 = .ok (.aload_n 0, 1) := by decide +kernel
theorem d_L_law_171 : decode code 171 = .ok (.iload 4, 2) := by decide +kernel
theorem d_L_law_173 : decode code 173 = .ok (.iconst 3, 1) := by decide +kernel
theorem d_L_law_174 : decode code 174 = .ok (.iadd, 1) := by decide +kernel
theorem d_L_law_175 : decode code 175 = .ok (.iaload, 1) := by decide +kernel
theorem d_L_law_176 : decode code 176 = .ok (.invokevirtual 90, 3) := by decide +kernel
theorem d_L_law_179 : decode code 179 = .ok (.istore 6, 2) := by decide +kernel
theorem d_L_law_181 : decode code 181 = .ok (.aload_n 2, 1) := by decide +kernel
theorem d_L_law_182 : decode code 182 = .ok (.invokevirtual 91, 3) := by decide +kernel
theorem d_L_law_185 : decode code 185 = .ok (.iload 5, 2) := by decide +kernel
theorem d_L_law_187 : decode code 187 = .ok (.if_icmp .eq 5, 3) := by decide +kernel
theorem d_L_law_190 : decode code 190 = .ok (.iconst 0, 1) := by decide +kernel
theorem d_L_law_191 : decode code 191 = .ok (.ireturn, 1) := by decide +kernel
theorem d_L_law_192 : decode code 192 = .ok (.iload 5, 2) := by decide +kernel
theorem d_L_law_194 : decode code 194 = .ok (.ifCond .ne 15, 3) := by decide +kernel
theorem d_L_law_197 : decode code 197 = .ok (.aload_n 3, 1) := by decide +kernel
theorem d_L_law_198 : decode code 198 = .ok (.iconst 0, 1) := by decide +kernel
theorem d_L_law_199 : decode code 199 = .ok (.laload, 1) := by decide +kernel
theorem d_L_law_200 : decode code 200 = .ok (.iload 6, 2) := by decide +kernel
theorem d_L_law_202 : decode code 202 = .ok (.i2l, 1) := by decide +kernel
theorem d_L_law_203 : decode code 203 = .ok (.lcmp, 1) := by decide +kernel
theorem d_L_law_204 : decode code 204 = .ok (.ifCond .eq 5, 3) := by decide +kernel
theorem d_L_law_207 : decode code 207 = .ok (.iconst 0, 1) := by decide +kernel
theorem d_L_law_208 : decode code 208 = .ok (.ireturn, 1) := by decide +kernel
theorem d_L_law_209 : decode code 209 = .ok (.goto 928, 3) := by decide +kernel
theorem d_L_law_212 : decode code 212 = .ok (.aload_n 1, 1) := by decide +kernel
theorem d_L_law_213 : decode code 213 = .ok (.aload_n 0, 1) := by decide +kernel
theorem d_L_law_214 : decode code 214 = .ok (.iload 4, 2) := by decide +kernel
theorem d_L_law_216 : decode code 216 = .ok (.iconst 1, 1) := by decide +kernel
theorem d_L_law_217 : decode code 217 = .ok (.iadd, 1) := by decide +kernel
theorem d_L_law_218 : decode code 218 = .ok (.iaload, 1) := by decide +kernel
theorem d_L_law_219 : decode code 219 = .ok (.aload_n 0, 1) := by decide +kernel
theorem d_L_law_220 : decode code 220 = .ok (.iload 4, 2) := by decide +kernel
theorem d_L_law_222 : decode code 222 = .ok (.iconst 2, 1) := by decide +kernel
theorem d_L_law_223 : decode code 223 = .ok (.iadd, 1) := by decide +kernel
theorem d_L_law_224 : decode code 224 = .ok (.iaload, 1) := by decide +kernel
theorem d_L_law_225 : decode code 225 = .ok (.aload_n 0, 1) := by decide +kernel
theorem d_L_law_226 : decode code 226 = .ok (.iload 4, 2) := by decide +kernel
theorem d_L_law_228 : decode code 228 = .ok (.iconst 3, 1) := by decide +kernel
theorem d_L_law_229 : decode code 229 = .ok (.iadd, 1) := by decide +kernel
theorem d_L_law_230 : decode code 230 = .ok (.iaload, 1) := by decide +kernel
theorem d_L_law_231 : decode code 231 = .ok (.invokestatic 94, 3) := by decide +kernel
theorem d_L_law_234 : decode code 234 = .ok (.istore 5, 2) := by decide +kernel
theorem d_L_law_236 : decode code 236 = .ok (.aload_n 2, 1) := by decide +kernel
theorem d_L_law_237 : decode code 237 = .ok (.aload_n 0, 1) := by decide +kernel
theorem d_L_law_238 : decode code 238 = .ok (.iload 4, 2) := by decide +kernel
theorem d_L_law_240 : decode code 240 = .ok (.iconst 1, 1) := by decide +kernel
theorem d_L_law_241 : decode code 241 = .ok (.iadd, 1) := by decide +kernel
theorem d_L_law_242 : decode code 242 = .ok (.iaload, 1) := by decide +kernel
theorem d_L_law_243 : decode code 243 = .ok (.aload_n 0, 1) := by decide +kernel
theorem d_L_law_244 : decode code 244 = .ok (.iload 4, 2) := by decide +kernel
theorem d_L_law_246 : decode code 246 = .ok (.iconst 2, 1) := by decide +kernel
theorem d_L_law_247 : decode code 247 = .ok (.iadd, 1) := by decide +kernel
theorem d_L_law_248 : decode code 248 = .ok (.iaload, 1) := by decide +kernel
theorem d_L_law_249 : decode code 249 = .ok (.aload_n 0, 1) := by decide +kernel
theorem d_L_law_250 : decode code 250 = .ok (.iload 4, 2) := by decide +kernel
theorem d_L_law_252 : decode code 252 = .ok (.iconst 3, 1) := by decide +kernel
theorem d_L_law_253 : decode code 253 = .ok (.iadd, 1) := by decide +kernel
theorem d_L_law_254 : decode code 254 = .ok (.iaload, 1) := by decide +kernel
theorem d_L_law_255 : decode code 255 = .ok (.invokevirtual 97, 3) := by decide +kernel
theorem d_L_law_258 : decode code 258 = .ok (.aload_n 2, 1) := by decide +kernel
theorem d_L_law_259 : decode code 259 = .ok (.invokevirtual 91, 3) := by decide +kernel
theorem d_L_law_262 : decode code 262 = .ok (.iload 5, 2) := by decide +kernel
theorem d_L_law_264 : decode code 264 = .ok (.if_icmp .eq 5, 3) := by decide +kernel
theorem d_L_law_267 : decode code 267 = .ok (.iconst 0, 1) := by decide +kernel
theorem d_L_law_268 : decode code 268 = .ok (.ireturn, 1) := by decide +kernel
theorem d_L_law_269 : decode code 269 = .ok (.goto 868, 3) := by decide +kernel
theorem d_L_law_272 : decode code 272 = .ok (.aload_n 1, 1) := by decide +kernel
theorem d_L_law_273 : decode code 273 = .ok (.aload_n 0, 1) := by decide +kernel
theorem d_L_law_274 : decode code 274 = .ok (.iload 4, 2) := by decide +kernel
theorem d_L_law_276 : decode code 276 = .ok (.iconst 1, 1) := by decide +kernel
theorem d_L_law_277 : decode code 277 = .ok (.iadd, 1) := by decide +kernel
theorem d_L_law_278 : decode code 278 = .ok (.iaload, 1) := by decide +kernel
theorem d_L_law_279 : decode code 279 = .ok (.aload_n 0, 1) := by decide +kernel
theorem d_L_law_280 : decode code 280 = .ok (.iload 4, 2) := by decide +kernel
theorem d_L_law_282 : decode code 282 = .ok (.iconst 2, 1) := by decide +kernel
theorem d_L_law_283 : decode code 283 = .ok (.iadd, 1) := by decide +kernel
theorem d_L_law_284 : decode code 284 = .ok (.iaload, 1) := by decide +kernel
theorem d_L_law_285 : decode code 285 = .ok (.aload_n 3, 1) := by decide +kernel
theorem d_L_law_286 : decode code 286 = .ok (.invokestatic 98, 3) := by decide +kernel
theorem d_L_law_289 : decode code 289 = .ok (.istore 5, 2) := by decide +kernel
theorem d_L_law_291 : decode code 291 = .ok (.aload_n 2, 1) := by decide +kernel
theorem d_L_law_292 : decode code 292 = .ok (.aload_n 0, 1) := by decide +kernel
theorem d_L_law_293 : decode code 293 = .ok (.iload 4, 2) := by decide +kernel
theorem d_L_law_295 : decode code 295 = .ok (.iconst 1, 1) := by decide +kernel
theorem d_L_law_296 : decode code 296 = .ok (.iadd, 1) := by decide +kernel
theorem d_L_law_297 : decode code 297 = .ok (.iaload, 1) := by decide +kernel
theorem d_L_law_298 : decode code 298 = .ok (.aload_n 0, 1) := by decide +kernel
theorem d_L_law_299 : decode code 299 = .ok (.iload 4, 2) := by decide +kernel
theorem d_L_law_301 : decode code 301 = .ok (.iconst 2, 1) := by decide +kernel
theorem d_L_law_302 : decode code 302 = .ok (.iadd, 1) := by decide +kernel
theorem d_L_law_303 : decode code 303 = .ok (.iaload, 1) := by decide +kernel
theorem d_L_law_304 : decode code 304 = .ok (.invokevirtual 101, 3) := by decide +kernel
theorem d_L_law_307 : decode code 307 = .ok (.istore 6, 2) := by decide +kernel
theorem d_L_law_309 : decode code 309 = .ok (.aload_n 2, 1) := by decide +kernel
theorem d_L_law_310 : decode code 310 = .ok (.invokevirtual 91, 3) := by decide +kernel
theorem d_L_law_313 : decode code 313 = .ok (.iload 5, 2) := by decide +kernel
theorem d_L_law_315 : decode code 315 = .ok (.if_icmp .eq 5, 3) := by decide +kernel
theorem d_L_law_318 : decode code 318 = .ok (.iconst 0, 1) := by decide +kernel
theorem d_L_law_319 : decode code 319 = .ok (.ireturn, 1) := by decide +kernel
theorem d_L_law_320 : decode code 320 = .ok (.iload 5, 2) := by decide +kernel
theorem d_L_law_322 : decode code 322 = .ok (.ifCond .ne 15, 3) := by decide +kernel
theorem d_L_law_325 : decode code 325 = .ok (.aload_n 3, 1) := by decide +kernel
theorem d_L_law_326 : decode code 326 = .ok (.iconst 0, 1) := by decide +kernel
theorem d_L_law_327 : decode code 327 = .ok (.laload, 1) := by decide +kernel
theorem d_L_law_328 : decode code 328 = .ok (.iload 6, 2) := by decide +kernel
theorem d_L_law_330 : decode code 330 = .ok (.i2l, 1) := by decide +kernel
theorem d_L_law_331 : decode code 331 = .ok (.lcmp, 1) := by decide +kernel
theorem d_L_law_332 : decode code 332 = .ok (.ifCond .eq 5, 3) := by decide +kernel
theorem d_L_law_335 : decode code 335 = .ok (.iconst 0, 1) := by decide +kernel
theorem d_L_law_336 : decode code 336 = .ok (.ireturn, 1) := by decide +kernel
theorem d_L_law_337 : decode code 337 = .ok (.goto 800, 3) := by decide +kernel
theorem d_L_law_340 : decode code 340 = .ok (.aload_n 1, 1) := by decide +kernel
theorem d_L_law_341 : decode code 341 = .ok (.aload_n 0, 1) := by decide +kernel
theorem d_L_law_342 : decode code 342 = .ok (.iload 4, 2) := by decide +kernel
theorem d_L_law_344 : decode code 344 = .ok (.iconst 1, 1) := by decide +kernel
theorem d_L_law_345 : decode code 345 = .ok (.iadd, 1) := by decide +kernel
theorem d_L_law_346 : decode code 346 = .ok (.iaload, 1) := by decide +kernel
theorem d_L_law_347 : decode code 347 = .ok (.aload_n 0, 1) := by decide +kernel
theorem d_L_law_348 : decode code 348 = .ok (.iload 4, 2) := by decide +kernel
theorem d_L_law_350 : decode code 350 = .ok (.iconst 2, 1) := by decide +kernel
theorem d_L_law_351 : decode code 351 = .ok (.iadd, 1) := by decide +kernel
theorem d_L_law_352 : decode code 352 = .ok (.iaload, 1) := by decide +kernel
theorem d_L_law_353 : decode code 353 = .ok (.invokestatic 102, 3) := by decide +kernel
theorem d_L_law_356 : decode code 356 = .ok (.istore 5, 2) := by decide +kernel
theorem d_L_law_358 : decode code 358 = .ok (.aload_n 2, 1) := by decide +kernel
theorem d_L_law_359 : decode code 359 = .ok (.aload_n 0, 1) := by decide +kernel
theorem d_L_law_360 : decode code 360 = .ok (.iload 4, 2) := by decide +kernel
theorem d_L_law_362 : decode code 362 = .ok (.iconst 1, 1) := by decide +kernel
theorem d_L_law_363 : decode code 363 = .ok (.iadd, 1) := by decide +kernel
theorem d_L_law_364 : decode code 364 = .ok (.iaload, 1) := by decide +kernel
theorem d_L_law_365 : decode code 365 = .ok (.aload_n 0, 1) := by decide +kernel
theorem d_L_law_366 : decode code 366 = .ok (.iload 4, 2) := by decide +kernel
theorem d_L_law_368 : decode code 368 = .ok (.iconst 2, 1) := by decide +kernel
theorem d_L_law_369 : decode code 369 = .ok (.iadd, 1) := by decide +kernel
theorem d_L_law_370 : decode code 370 = .ok (.iaload, 1) := by decide +kernel
theorem d_L_law_371 : decode code 371 = .ok (.invokevirtual 105, 3) := by decide +kernel
theorem d_L_law_374 : decode code 374 = .ok (.aload_n 2, 1) := by decide +kernel
theorem d_L_law_375 : decode code 375 = .ok (.invokevirtual 91, 3) := by decide +kernel
theorem d_L_law_378 : decode code 378 = .ok (.iload 5, 2) := by decide +kernel
theorem d_L_law_380 : decode code 380 = .ok (.if_icmp .eq 5, 3) := by decide +kernel
theorem d_L_law_383 : decode code 383 = .ok (.iconst 0, 1) := by decide +kernel
theorem d_L_law_384 : decode code 384 = .ok (.ireturn, 1) := by decide +kernel
theorem d_L_law_385 : decode code 385 = .ok (.goto 752, 3) := by decide +kernel
theorem d_L_law_388 : decode code 388 = .ok (.aload_n 1, 1) := by decide +kernel
theorem d_L_law_389 : decode code 389 = .ok (.aload_n 0, 1) := by decide +kernel
theorem d_L_law_390 : decode code 390 = .ok (.iload 4, 2) := by decide +kernel
theorem d_L_law_392 : decode code 392 = .ok (.iconst 1, 1) := by decide +kernel
theorem d_L_law_393 : decode code 393 = .ok (.iadd, 1) := by decide +kernel
theorem d_L_law_394 : decode code 394 = .ok (.iaload, 1) := by decide +kernel
theorem d_L_law_395 : decode code 395 = .ok (.aload_n 0, 1) := by decide +kernel
theorem d_L_law_396 : decode code 396 = .ok (.iload 4, 2) := by decide +kernel
theorem d_L_law_398 : decode code 398 = .ok (.iconst 2, 1) := by decide +kernel
theorem d_L_law_399 : decode code 399 = .ok (.iadd, 1) := by decide +kernel
theorem d_L_law_400 : decode code 400 = .ok (.iaload, 1) := by decide +kernel
theorem d_L_law_401 : decode code 401 = .ok (.invokestatic 106, 3) := by decide +kernel
theorem d_L_law_404 : decode code 404 = .ok (.istore 5, 2) := by decide +kernel
theorem d_L_law_406 : decode code 406 = .ok (.aload_n 2, 1) := by decide +kernel
theorem d_L_law_407 : decode code 407 = .ok (.aload_n 0, 1) := by decide +kernel
theorem d_L_law_408 : decode code 408 = .ok (.iload 4, 2) := by decide +kernel
theorem d_L_law_410 : decode code 410 = .ok (.iconst 1, 1) := by decide +kernel
theorem d_L_law_411 : decode code 411 = .ok (.iadd, 1) := by decide +kernel
theorem d_L_law_412 : decode code 412 = .ok (.iaload, 1) := by decide +kernel
theorem d_L_law_413 : decode code 413 = .ok (.aload_n 0, 1) := by decide +kernel
theorem d_L_law_414 : decode code 414 = .ok (.iload 4, 2) := by decide +kernel
theorem d_L_law_416 : decode code 416 = .ok (.iconst 2, 1) := by decide +kernel
theorem d_L_law_417 : decode code 417 = .ok (.iadd, 1) := by decide +kernel
theorem d_L_law_418 : decode code 418 = .ok (.iaload, 1) := by decide +kernel
theorem d_L_law_419 : decode code 419 = .ok (.invokevirtual 108, 3) := by decide +kernel
theorem d_L_law_422 : decode code 422 = .ok (.aload_n 2, 1) := by decide +kernel
theorem d_L_law_423 : decode code 423 = .ok (.invokevirtual 91, 3) := by decide +kernel
theorem d_L_law_426 : decode code 426 = .ok (.iload 5, 2) := by decide +kernel
theorem d_L_law_428 : decode code 428 = .ok (.if_icmp .eq 5, 3) := by decide +kernel
theorem d_L_law_431 : decode code 431 = .ok (.iconst 0, 1) := by decide +kernel
theorem d_L_law_432 : decode code 432 = .ok (.ireturn, 1) := by decide +kernel
theorem d_L_law_433 : decode code 433 = .ok (.goto 704, 3) := by decide +kernel
theorem d_L_law_436 : decode code 436 = .ok (.aload_n 1, 1) := by decide +kernel
theorem d_L_law_437 : decode code 437 = .ok (.aload_n 0, 1) := by decide +kernel
theorem d_L_law_438 : decode code 438 = .ok (.iload 4, 2) := by decide +kernel
theorem d_L_law_440 : decode code 440 = .ok (.iconst 1, 1) := by decide +kernel
theorem d_L_law_441 : decode code 441 = .ok (.iadd, 1) := by decide +kernel
theorem d_L_law_442 : decode code 442 = .ok (.iaload, 1) := by decide +kernel
theorem d_L_law_443 : decode code 443 = .ok (.invokestatic 109, 3) := by decide +kernel
theorem d_L_law_446 : decode code 446 = .ok (.istore 5, 2) := by decide +kernel
theorem d_L_law_448 : decode code 448 = .ok (.aload_n 2, 1) := by decide +kernel
theorem d_L_law_449 : decode code 449 = .ok (.aload_n 0, 1) := by decide +kernel
theorem d_L_law_450 : decode code 450 = .ok (.iload 4, 2) := by decide +kernel
theorem d_L_law_452 : decode code 452 = .ok (.iconst 1, 1) := by decide +kernel
theorem d_L_law_453 : decode code 453 = .ok (.iadd, 1) := by decide +kernel
theorem d_L_law_454 : decode code 454 = .ok (.iaload, 1) := by decide +kernel
theorem d_L_law_455 : decode code 455 = .ok (.invokevirtual 112, 3) := by decide +kernel
theorem d_L_law_458 : decode code 458 = .ok (.aload_n 2, 1) := by decide +kernel
theorem d_L_law_459 : decode code 459 = .ok (.invokevirtual 91, 3) := by decide +kernel
theorem d_L_law_462 : decode code 462 = .ok (.iload 5, 2) := by decide +kernel
theorem d_L_law_464 : decode code 464 = .ok (.if_icmp .eq 5, 3) := by decide +kernel
theorem d_L_law_467 : decode code 467 = .ok (.iconst 0, 1) := by decide +kernel
theorem d_L_law_468 : decode code 468 = .ok (.ireturn, 1) := by decide +kernel
theorem d_L_law_469 : decode code 469 = .ok (.goto 668, 3) := by decide +kernel
theorem d_L_law_472 : decode code 472 = .ok (.aload_n 1, 1) := by decide +kernel
theorem d_L_law_473 : decode code 473 = .ok (.aload_n 0, 1) := by decide +kernel
theorem d_L_law_474 : decode code 474 = .ok (.iload 4, 2) := by decide +kernel
theorem d_L_law_476 : decode code 476 = .ok (.iconst 1, 1) := by decide +kernel
theorem d_L_law_477 : decode code 477 = .ok (.iadd, 1) := by decide +kernel
theorem d_L_law_478 : decode code 478 = .ok (.iaload, 1) := by decide +kernel
theorem d_L_law_479 : decode code 479 = .ok (.invokestatic 113, 3) := by decide +kernel
theorem d_L_law_482 : decode code 482 = .ok (.istore 5, 2) := by decide +kernel
theorem d_L_law_484 : decode code 484 = .ok (.aload_n 2, 1) := by decide +kernel
theorem d_L_law_485 : decode code 485 = .ok (.aload_n 0, 1) := by decide +kernel
theorem d_L_law_486 : decode code 486 = .ok (.iload 4, 2) := by decide +kernel
theorem d_L_law_488 : decode code 488 = .ok (.iconst 1, 1) := by decide +kernel
theorem d_L_law_489 : decode code 489 = .ok (.iadd, 1) := by decide +kernel
theorem d_L_law_490 : decode code 490 = .ok (.iaload, 1) := by decide +kernel
theorem d_L_law_491 : decode code 491 = .ok (.invokevirtual 115, 3) := by decide +kernel
theorem d_L_law_494 : decode code 494 = .ok (.aload_n 2, 1) := by decide +kernel
theorem d_L_law_495 : decode code 495 = .ok (.invokevirtual 91, 3) := by decide +kernel
theorem d_L_law_498 : decode code 498 = .ok (.iload 5, 2) := by decide +kernel
theorem d_L_law_500 : decode code 500 = .ok (.if_icmp .eq 5, 3) := by decide +kernel
theorem d_L_law_503 : decode code 503 = .ok (.iconst 0, 1) := by decide +kernel
theorem d_L_law_504 : decode code 504 = .ok (.ireturn, 1) := by decide +kernel
theorem d_L_law_505 : decode code 505 = .ok (.goto 632, 3) := by decide +kernel
theorem d_L_law_508 : decode code 508 = .ok (.aload_n 1, 1) := by decide +kernel
theorem d_L_law_509 : decode code 509 = .ok (.aload_n 0, 1) := by decide +kernel
theorem d_L_law_510 : decode code 510 = .ok (.iload 4, 2) := by decide +kernel
theorem d_L_law_512 : decode code 512 = .ok (.iconst 1, 1) := by decide +kernel
theorem d_L_law_513 : decode code 513 = .ok (.iadd, 1) := by decide +kernel
theorem d_L_law_514 : decode code 514 = .ok (.iaload, 1) := by decide +kernel
theorem d_L_law_515 : decode code 515 = .ok (.aload_n 0, 1) := by decide +kernel
theorem d_L_law_516 : decode code 516 = .ok (.iload 4, 2) := by decide +kernel
theorem d_L_law_518 : decode code 518 = .ok (.iconst 2, 1) := by decide +kernel
theorem d_L_law_519 : decode code 519 = .ok (.iadd, 1) := by decide +kernel
theorem d_L_law_520 : decode code 520 = .ok (.iaload, 1) := by decide +kernel
theorem d_L_law_521 : decode code 521 = .ok (.invokestatic 116, 3) := by decide +kernel
theorem d_L_law_524 : decode code 524 = .ok (.istore 5, 2) := by decide +kernel
theorem d_L_law_526 : decode code 526 = .ok (.aload_n 2, 1) := by decide +kernel
theorem d_L_law_527 : decode code 527 = .ok (.aload_n 0, 1) := by decide +kernel
theorem d_L_law_528 : decode code 528 = .ok (.iload 4, 2) := by decide +kernel
theorem d_L_law_530 : decode code 530 = .ok (.iconst 1, 1) := by decide +kernel
theorem d_L_law_531 : decode code 531 = .ok (.iadd, 1) := by decide +kernel
theorem d_L_law_532 : decode code 532 = .ok (.iaload, 1) := by decide +kernel
theorem d_L_law_533 : decode code 533 = .ok (.aload_n 0, 1) := by decide +kernel
theorem d_L_law_534 : decode code 534 = .ok (.iload 4, 2) := by decide +kernel
theorem d_L_law_536 : decode code 536 = .ok (.iconst 2, 1) := by decide +kernel
theorem d_L_law_537 : decode code 537 = .ok (.iadd, 1) := by decide +kernel
theorem d_L_law_538 : decode code 538 = .ok (.iaload, 1) := by decide +kernel
theorem d_L_law_539 : decode code 539 = .ok (.invokevirtual 118, 3) := by decide +kernel
theorem d_L_law_542 : decode code 542 = .ok (.aload_n 2, 1) := by decide +kernel
theorem d_L_law_543 : decode code 543 = .ok (.invokevirtual 91, 3) := by decide +kernel
theorem d_L_law_546 : decode code 546 = .ok (.iload 5, 2) := by decide +kernel
theorem d_L_law_548 : decode code 548 = .ok (.if_icmp .eq 5, 3) := by decide +kernel
theorem d_L_law_551 : decode code 551 = .ok (.iconst 0, 1) := by decide +kernel
theorem d_L_law_552 : decode code 552 = .ok (.ireturn, 1) := by decide +kernel
theorem d_L_law_553 : decode code 553 = .ok (.goto 584, 3) := by decide +kernel
theorem d_L_law_556 : decode code 556 = .ok (.aload_n 1, 1) := by decide +kernel
theorem d_L_law_557 : decode code 557 = .ok (.aload_n 0, 1) := by decide +kernel
theorem d_L_law_558 : decode code 558 = .ok (.iload 4, 2) := by decide +kernel
theorem d_L_law_560 : decode code 560 = .ok (.iconst 1, 1) := by decide +kernel
theorem d_L_law_561 : decode code 561 = .ok (.iadd, 1) := by decide +kernel
theorem d_L_law_562 : decode code 562 = .ok (.iaload, 1) := by decide +kernel
theorem d_L_law_563 : decode code 563 = .ok (.invokestatic 119, 3) := by decide +kernel
theorem d_L_law_566 : decode code 566 = .ok (.istore 5, 2) := by decide +kernel
theorem d_L_law_568 : decode code 568 = .ok (.aload_n 2, 1) := by decide +kernel
theorem d_L_law_569 : decode code 569 = .ok (.aload_n 0, 1) := by decide +kernel
theorem d_L_law_570 : decode code 570 = .ok (.iload 4, 2) := by decide +kernel
theorem d_L_law_572 : decode code 572 = .ok (.iconst 1, 1) := by decide +kernel
theorem d_L_law_573 : decode code 573 = .ok (.iadd, 1) := by decide +kernel
theorem d_L_law_574 : decode code 574 = .ok (.iaload, 1) := by decide +kernel
theorem d_L_law_575 : decode code 575 = .ok (.invokevirtual 121, 3) := by decide +kernel
theorem d_L_law_578 : decode code 578 = .ok (.aload_n 2, 1) := by decide +kernel
theorem d_L_law_579 : decode code 579 = .ok (.invokevirtual 91, 3) := by decide +kernel
theorem d_L_law_582 : decode code 582 = .ok (.iload 5, 2) := by decide +kernel
theorem d_L_law_584 : decode code 584 = .ok (.if_icmp .eq 5, 3) := by decide +kernel
theorem d_L_law_587 : decode code 587 = .ok (.iconst 0, 1) := by decide +kernel
theorem d_L_law_588 : decode code 588 = .ok (.ireturn, 1) := by decide +kernel
theorem d_L_law_589 : decode code 589 = .ok (.goto 548, 3) := by decide +kernel
theorem d_L_law_592 : decode code 592 = .ok (.aload_n 1, 1) := by decide +kernel
theorem d_L_law_593 : decode code 593 = .ok (.aload_n 0, 1) := by decide +kernel
theorem d_L_law_594 : decode code 594 = .ok (.iload 4, 2) := by decide +kernel
theorem d_L_law_596 : decode code 596 = .ok (.iconst 1, 1) := by decide +kernel
theorem d_L_law_597 : decode code 597 = .ok (.iadd, 1) := by decide +kernel
theorem d_L_law_598 : decode code 598 = .ok (.iaload, 1) := by decide +kernel
theorem d_L_law_599 : decode code 599 = .ok (.aload_n 0, 1) := by decide +kernel
theorem d_L_law_600 : decode code 600 = .ok (.iload 4, 2) := by decide +kernel
theorem d_L_law_602 : decode code 602 = .ok (.iconst 2, 1) := by decide +kernel
theorem d_L_law_603 : decode code 603 = .ok (.iadd, 1) := by decide +kernel
theorem d_L_law_604 : decode code 604 = .ok (.iaload, 1) := by decide +kernel
theorem d_L_law_605 : decode code 605 = .ok (.invokestatic 122, 3) := by decide +kernel
theorem d_L_law_608 : decode code 608 = .ok (.istore 5, 2) := by decide +kernel
theorem d_L_law_610 : decode code 610 = .ok (.aload_n 2, 1) := by decide +kernel
theorem d_L_law_611 : decode code 611 = .ok (.aload_n 0, 1) := by decide +kernel
theorem d_L_law_612 : decode code 612 = .ok (.iload 4, 2) := by decide +kernel
theorem d_L_law_614 : decode code 614 = .ok (.iconst 1, 1) := by decide +kernel
theorem d_L_law_615 : decode code 615 = .ok (.iadd, 1) := by decide +kernel
theorem d_L_law_616 : decode code 616 = .ok (.iaload, 1) := by decide +kernel
theorem d_L_law_617 : decode code 617 = .ok (.aload_n 0, 1) := by decide +kernel
theorem d_L_law_618 : decode code 618 = .ok (.iload 4, 2) := by decide +kernel
theorem d_L_law_620 : decode code 620 = .ok (.iconst 2, 1) := by decide +kernel
theorem d_L_law_621 : decode code 621 = .ok (.iadd, 1) := by decide +kernel
theorem d_L_law_622 : decode code 622 = .ok (.iaload, 1) := by decide +kernel
theorem d_L_law_623 : decode code 623 = .ok (.invokevirtual 124, 3) := by decide +kernel
theorem d_L_law_626 : decode code 626 = .ok (.aload_n 2, 1) := by decide +kernel
theorem d_L_law_627 : decode code 627 = .ok (.invokevirtual 91, 3) := by decide +kernel
theorem d_L_law_630 : decode code 630 = .ok (.iload 5, 2) := by decide +kernel
theorem d_L_law_632 : decode code 632 = .ok (.if_icmp .eq 5, 3) := by decide +kernel
theorem d_L_law_635 : decode code 635 = .ok (.iconst 0, 1) := by decide +kernel
theorem d_L_law_636 : decode code 636 = .ok (.ireturn, 1) := by decide +kernel
theorem d_L_law_637 : decode code 637 = .ok (.goto 500, 3) := by decide +kernel
theorem d_L_law_640 : decode code 640 = .ok (.aload_n 1, 1) := by decide +kernel
theorem d_L_law_641 : decode code 641 = .ok (.aload_n 0, 1) := by decide +kernel
theorem d_L_law_642 : decode code 642 = .ok (.iload 4, 2) := by decide +kernel
theorem d_L_law_644 : decode code 644 = .ok (.iconst 1, 1) := by decide +kernel
theorem d_L_law_645 : decode code 645 = .ok (.iadd, 1) := by decide +kernel
theorem d_L_law_646 : decode code 646 = .ok (.iaload, 1) := by decide +kernel
theorem d_L_law_647 : decode code 647 = .ok (.aload_n 0, 1) := by decide +kernel
theorem d_L_law_648 : decode code 648 = .ok (.iload 4, 2) := by decide +kernel
theorem d_L_law_650 : decode code 650 = .ok (.iconst 2, 1) := by decide +kernel
theorem d_L_law_651 : decode code 651 = .ok (.iadd, 1) := by decide +kernel
theorem d_L_law_652 : decode code 652 = .ok (.iaload, 1) := by decide +kernel
theorem d_L_law_653 : decode code 653 = .ok (.invokestatic 125, 3) := by decide +kernel
theorem d_L_law_656 : decode code 656 = .ok (.istore 5, 2) := by decide +kernel
theorem d_L_law_658 : decode code 658 = .ok (.aload_n 2, 1) := by decide +kernel
theorem d_L_law_659 : decode code 659 = .ok (.aload_n 0, 1) := by decide +kernel
theorem d_L_law_660 : decode code 660 = .ok (.iload 4, 2) := by decide +kernel
theorem d_L_law_662 : decode code 662 = .ok (.iconst 1, 1) := by decide +kernel
theorem d_L_law_663 : decode code 663 = .ok (.iadd, 1) := by decide +kernel
theorem d_L_law_664 : decode code 664 = .ok (.iaload, 1) := by decide +kernel
theorem d_L_law_665 : decode code 665 = .ok (.aload_n 0, 1) := by decide +kernel
theorem d_L_law_666 : decode code 666 = .ok (.iload 4, 2) := by decide +kernel
theorem d_L_law_668 : decode code 668 = .ok (.iconst 2, 1) := by decide +kernel
theorem d_L_law_669 : decode code 669 = .ok (.iadd, 1) := by decide +kernel
theorem d_L_law_670 : decode code 670 = .ok (.iaload, 1) := by decide +kernel
theorem d_L_law_671 : decode code 671 = .ok (.invokevirtual 127, 3) := by decide +kernel
theorem d_L_law_674 : decode code 674 = .ok (.aload_n 2, 1) := by decide +kernel
theorem d_L_law_675 : decode code 675 = .ok (.invokevirtual 91, 3) := by decide +kernel
theorem d_L_law_678 : decode code 678 = .ok (.iload 5, 2) := by decide +kernel
theorem d_L_law_680 : decode code 680 = .ok (.if_icmp .eq 5, 3) := by decide +kernel
theorem d_L_law_683 : decode code 683 = .ok (.iconst 0, 1) := by decide +kernel
theorem d_L_law_684 : decode code 684 = .ok (.ireturn, 1) := by decide +kernel
theorem d_L_law_685 : decode code 685 = .ok (.goto 452, 3) := by decide +kernel
theorem d_L_law_688 : decode code 688 = .ok (.aload_n 1, 1) := by decide +kernel
theorem d_L_law_689 : decode code 689 = .ok (.invokevirtual 128, 3) := by decide +kernel
theorem d_L_law_692 : decode code 692 = .ok (.aload_n 2, 1) := by decide +kernel
theorem d_L_law_693 : decode code 693 = .ok (.invokevirtual 131, 3) := by decide +kernel
theorem d_L_law_696 : decode code 696 = .ok (.if_icmp .eq 441, 3) := by decide +kernel
theorem d_L_law_699 : decode code 699 = .ok (.iconst 0, 1) := by decide +kernel
theorem d_L_law_700 : decode code 700 = .ok (.ireturn, 1) := by decide +kernel
theorem d_L_law_701 : decode code 701 = .ok (.aload_n 1, 1) := by decide +kernel
theorem d_L_law_702 : decode code 702 = .ok (.aload_n 0, 1) := by decide +kernel
theorem d_L_law_703 : decode code 703 = .ok (.iload 4, 2) := by decide +kernel
theorem d_L_law_705 : decode code 705 = .ok (.iconst 1, 1) := by decide +kernel
theorem d_L_law_706 : decode code 706 = .ok (.iadd, 1) := by decide +kernel
theorem d_L_law_707 : decode code 707 = .ok (.iaload, 1) := by decide +kernel
theorem d_L_law_708 : decode code 708 = .ok (.aload_n 0, 1) := by decide +kernel
theorem d_L_law_709 : decode code 709 = .ok (.iload 4, 2) := by decide +kernel
theorem d_L_law_711 : decode code 711 = .ok (.iconst 2, 1) := by decide +kernel
theorem d_L_law_712 : decode code 712 = .ok (.iadd, 1) := by decide +kernel
theorem d_L_law_713 : decode code 713 = .ok (.iaload, 1) := by decide +kernel
theorem d_L_law_714 : decode code 714 = .ok (.aload_n 3, 1) := by decide +kernel
theorem d_L_law_715 : decode code 715 = .ok (.invokestatic 132, 3) := by decide +kernel
theorem d_L_law_718 : decode code 718 = .ok (.istore 5, 2) := by decide +kernel
theorem d_L_law_720 : decode code 720 = .ok (.aload_n 2, 1) := by decide +kernel
theorem d_L_law_721 : decode code 721 = .ok (.aload_n 0, 1) := by decide +kernel
theorem d_L_law_722 : decode code 722 = .ok (.iload 4, 2) := by decide +kernel
theorem d_L_law_724 : decode code 724 = .ok (.iconst 1, 1) := by decide +kernel
theorem d_L_law_725 : decode code 725 = .ok (.iadd, 1) := by decide +kernel
theorem d_L_law_726 : decode code 726 = .ok (.iaload, 1) := by decide +kernel
theorem d_L_law_727 : decode code 727 = .ok (.aload_n 0, 1) := by decide +kernel
theorem d_L_law_728 : decode code 728 = .ok (.iload 4, 2) := by decide +kernel
theorem d_L_law_730 : decode code 730 = .ok (.iconst 2, 1) := by decide +kernel
theorem d_L_law_731 : decode code 731 = .ok (.iadd, 1) := by decide +kernel
theorem d_L_law_732 : decode code 732 = .ok (.iaload, 1) := by decide +kernel
theorem d_L_law_733 : decode code 733 = .ok (.invokevirtual 134, 3) := by decide +kernel
theorem d_L_law_736 : decode code 736 = .ok (.istore 6, 2) := by decide +kernel
theorem d_L_law_738 : decode code 738 = .ok (.aload_n 2, 1) := by decide +kernel
theorem d_L_law_739 : decode code 739 = .ok (.invokevirtual 91, 3) := by decide +kernel
theorem d_L_law_742 : decode code 742 = .ok (.iload 5, 2) := by decide +kernel
theorem d_L_law_744 : decode code 744 = .ok (.if_icmp .eq 5, 3) := by decide +kernel
theorem d_L_law_747 : decode code 747 = .ok (.iconst 0, 1) := by decide +kernel
theorem d_L_law_748 : decode code 748 = .ok (.ireturn, 1) := by decide +kernel
theorem d_L_law_749 : decode code 749 = .ok (.iload 5, 2) := by decide +kernel
theorem d_L_law_751 : decode code 751 = .ok (.ifCond .ne 15, 3) := by decide +kernel
theorem d_L_law_754 : decode code 754 = .ok (.aload_n 3, 1) := by decide +kernel
theorem d_L_law_755 : decode code 755 = .ok (.iconst 0, 1) := by decide +kernel
theorem d_L_law_756 : decode code 756 = .ok (.laload, 1) := by decide +kernel
theorem d_L_law_757 : decode code 757 = .ok (.iload 6, 2) := by decide +kernel
theorem d_L_law_759 : decode code 759 = .ok (.i2l, 1) := by decide +kernel
theorem d_L_law_760 : decode code 760 = .ok (.lcmp, 1) := by decide +kernel
theorem d_L_law_761 : decode code 761 = .ok (.ifCond .eq 5, 3) := by decide +kernel
theorem d_L_law_764 : decode code 764 = .ok (.iconst 0, 1) := by decide +kernel
theorem d_L_law_765 : decode code 765 = .ok (.ireturn, 1) := by decide +kernel
theorem d_L_law_766 : decode code 766 = .ok (.goto 371, 3) := by decide +kernel
theorem d_L_law_769 : decode code 769 = .ok (.aload_n 1, 1) := by decide +kernel
theorem d_L_law_770 : decode code 770 = .ok (.aload_n 0, 1) := by decide +kernel
theorem d_L_law_771 : decode code 771 = .ok (.iload 4, 2) := by decide +kernel
theorem d_L_law_773 : decode code 773 = .ok (.iconst 1, 1) := by decide +kernel
theorem d_L_law_774 : decode code 774 = .ok (.iadd, 1) := by decide +kernel
theorem d_L_law_775 : decode code 775 = .ok (.iaload, 1) := by decide +kernel
theorem d_L_law_776 : decode code 776 = .ok (.aload_n 3, 1) := by decide +kernel
theorem d_L_law_777 : decode code 777 = .ok (.invokestatic 135, 3) := by decide +kernel
theorem d_L_law_780 : decode code 780 = .ok (.istore 5, 2) := by decide +kernel
theorem d_L_law_782 : decode code 782 = .ok (.aload_n 2, 1) := by decide +kernel
theorem d_L_law_783 : decode code 783 = .ok (.aload_n 0, 1) := by decide +kernel
theorem d_L_law_784 : decode code 784 = .ok (.iload 4, 2) := by decide +kernel
theorem d_L_law_786 : decode code 786 = .ok (.iconst 1, 1) := by decide +kernel
theorem d_L_law_787 : decode code 787 = .ok (.iadd, 1) := by decide +kernel
theorem d_L_law_788 : decode code 788 = .ok (.iaload, 1) := by decide +kernel
theorem d_L_law_789 : decode code 789 = .ok (.invokevirtual 138, 3) := by decide +kernel
theorem d_L_law_792 : decode code 792 = .ok (.istore 6, 2) := by decide +kernel
theorem d_L_law_794 : decode code 794 = .ok (.aload_n 2, 1) := by decide +kernel
theorem d_L_law_795 : decode code 795 = .ok (.invokevirtual 91, 3) := by decide +kernel
theorem d_L_law_798 : decode code 798 = .ok (.iload 5, 2) := by decide +kernel
theorem d_L_law_800 : decode code 800 = .ok (.if_icmp .eq 5, 3) := by decide +kernel
theorem d_L_law_803 : decode code 803 = .ok (.iconst 0, 1) := by decide +kernel
theorem d_L_law_804 : decode code 804 = .ok (.ireturn, 1) := by decide +kernel
theorem d_L_law_805 : decode code 805 = .ok (.iload 5, 2) := by decide +kernel
theorem d_L_law_807 : decode code 807 = .ok (.ifCond .ne 15, 3) := by decide +kernel
theorem d_L_law_810 : decode code 810 = .ok (.aload_n 3, 1) := by decide +kernel
theorem d_L_law_811 : decode code 811 = .ok (.iconst 0, 1) := by decide +kernel
theorem d_L_law_812 : decode code 812 = .ok (.laload, 1) := by decide +kernel
theorem d_L_law_813 : decode code 813 = .ok (.iload 6, 2) := by decide +kernel
theorem d_L_law_815 : decode code 815 = .ok (.i2l, 1) := by decide +kernel
theorem d_L_law_816 : decode code 816 = .ok (.lcmp, 1) := by decide +kernel
theorem d_L_law_817 : decode code 817 = .ok (.ifCond .eq 5, 3) := by decide +kernel
theorem d_L_law_820 : decode code 820 = .ok (.iconst 0, 1) := by decide +kernel
theorem d_L_law_821 : decode code 821 = .ok (.ireturn, 1) := by decide +kernel
theorem d_L_law_822 : decode code 822 = .ok (.goto 315, 3) := by decide +kernel
theorem d_L_law_825 : decode code 825 = .ok (.aload_n 1, 1) := by decide +kernel
theorem d_L_law_826 : decode code 826 = .ok (.aload_n 0, 1) := by decide +kernel
theorem d_L_law_827 : decode code 827 = .ok (.iload 4, 2) := by decide +kernel
theorem d_L_law_829 : decode code 829 = .ok (.iconst 1, 1) := by decide +kernel
theorem d_L_law_830 : decode code 830 = .ok (.iadd, 1) := by decide +kernel
theorem d_L_law_831 : decode code 831 = .ok (.iaload, 1) := by decide +kernel
theorem d_L_law_832 : decode code 832 = .ok (.aload_n 3, 1) := by decide +kernel
theorem d_L_law_833 : decode code 833 = .ok (.invokestatic 139, 3) := by decide +kernel
theorem d_L_law_836 : decode code 836 = .ok (.istore 5, 2) := by decide +kernel
theorem d_L_law_838 : decode code 838 = .ok (.aload_n 2, 1) := by decide +kernel
theorem d_L_law_839 : decode code 839 = .ok (.aload_n 0, 1) := by decide +kernel
theorem d_L_law_840 : decode code 840 = .ok (.iload 4, 2) := by decide +kernel
theorem d_L_law_842 : decode code 842 = .ok (.iconst 1, 1) := by decide +kernel
theorem d_L_law_843 : decode code 843 = .ok (.iadd, 1) := by decide +kernel
theorem d_L_law_844 : decode code 844 = .ok (.iaload, 1) := by decide +kernel
theorem d_L_law_845 : decode code 845 = .ok (.invokevirtual 141, 3) := by decide +kernel
theorem d_L_law_848 : decode code 848 = .ok (.istore 6, 2) := by decide +kernel
theorem d_L_law_850 : decode code 850 = .ok (.aload_n 2, 1) := by decide +kernel
theorem d_L_law_851 : decode code 851 = .ok (.invokevirtual 91, 3) := by decide +kernel
theorem d_L_law_854 : decode code 854 = .ok (.iload 5, 2) := by decide +kernel
theorem d_L_law_856 : decode code 856 = .ok (.if_icmp .eq 5, 3) := by decide +kernel
theorem d_L_law_859 : decode code 859 = .ok (.iconst 0, 1) := by decide +kernel
theorem d_L_law_860 : decode code 860 = .ok (.ireturn, 1) := by decide +kernel
theorem d_L_law_861 : decode code 861 = .ok (.iload 5, 2) := by decide +kernel
theorem d_L_law_863 : decode code 863 = .ok (.ifCond .ne 15, 3) := by decide +kernel
theorem d_L_law_866 : decode code 866 = .ok (.aload_n 3, 1) := by decide +kernel
theorem d_L_law_867 : decode code 867 = .ok (.iconst 0, 1) := by decide +kernel
theorem d_L_law_868 : decode code 868 = .ok (.laload, 1) := by decide +kernel
theorem d_L_law_869 : decode code 869 = .ok (.iload 6, 2) := by decide +kernel
theorem d_L_law_871 : decode code 871 = .ok (.i2l, 1) := by decide +kernel
theorem d_L_law_872 : decode code 872 = .ok (.lcmp, 1) := by decide +kernel
theorem d_L_law_873 : decode code 873 = .ok (.ifCond .eq 5, 3) := by decide +kernel
theorem d_L_law_876 : decode code 876 = .ok (.iconst 0, 1) := by decide +kernel
theorem d_L_law_877 : decode code 877 = .ok (.ireturn, 1) := by decide +kernel
theorem d_L_law_878 : decode code 878 = .ok (.goto 259, 3) := by decide +kernel
theorem d_L_law_881 : decode code 881 = .ok (.aload_n 1, 1) := by decide +kernel
theorem d_L_law_882 : decode code 882 = .ok (.aload_n 0, 1) := by decide +kernel
theorem d_L_law_883 : decode code 883 = .ok (.iload 4, 2) := by decide +kernel
theorem d_L_law_885 : decode code 885 = .ok (.iconst 1, 1) := by decide +kernel
theorem d_L_law_886 : decode code 886 = .ok (.iadd, 1) := by decide +kernel
theorem d_L_law_887 : decode code 887 = .ok (.iaload, 1) := by decide +kernel
theorem d_L_law_888 : decode code 888 = .ok (.aload_n 3, 1) := by decide +kernel
theorem d_L_law_889 : decode code 889 = .ok (.invokestatic 142, 3) := by decide +kernel
theorem d_L_law_892 : decode code 892 = .ok (.istore 5, 2) := by decide +kernel
theorem d_L_law_894 : decode code 894 = .ok (.aload_n 2, 1) := by decide +kernel
theorem d_L_law_895 : decode code 895 = .ok (.aload_n 0, 1) := by decide +kernel
theorem d_L_law_896 : decode code 896 = .ok (.iload 4, 2) := by decide +kernel
theorem d_L_law_898 : decode code 898 = .ok (.iconst 1, 1) := by decide +kernel
theorem d_L_law_899 : decode code 899 = .ok (.iadd, 1) := by decide +kernel
theorem d_L_law_900 : decode code 900 = .ok (.iaload, 1) := by decide +kernel
theorem d_L_law_901 : decode code 901 = .ok (.invokevirtual 144, 3) := by decide +kernel
theorem d_L_law_904 : decode code 904 = .ok (.istore 6, 2) := by decide +kernel
theorem d_L_law_906 : decode code 906 = .ok (.aload_n 2, 1) := by decide +kernel
theorem d_L_law_907 : decode code 907 = .ok (.invokevirtual 91, 3) := by decide +kernel
theorem d_L_law_910 : decode code 910 = .ok (.iload 5, 2) := by decide +kernel
theorem d_L_law_912 : decode code 912 = .ok (.if_icmp .eq 5, 3) := by decide +kernel
theorem d_L_law_915 : decode code 915 = .ok (.iconst 0, 1) := by decide +kernel
theorem d_L_law_916 : decode code 916 = .ok (.ireturn, 1) := by decide +kernel
theorem d_L_law_917 : decode code 917 = .ok (.iload 5, 2) := by decide +kernel
theorem d_L_law_919 : decode code 919 = .ok (.ifCond .ne 15, 3) := by decide +kernel
theorem d_L_law_922 : decode code 922 = .ok (.aload_n 3, 1) := by decide +kernel
theorem d_L_law_923 : decode code 923 = .ok (.iconst 0, 1) := by decide +kernel
theorem d_L_law_924 : decode code 924 = .ok (.laload, 1) := by decide +kernel
theorem d_L_law_925 : decode code 925 = .ok (.iload 6, 2) := by decide +kernel
theorem d_L_law_927 : decode code 927 = .ok (.i2l, 1) := by decide +kernel
theorem d_L_law_928 : decode code 928 = .ok (.lcmp, 1) := by decide +kernel
theorem d_L_law_929 : decode code 929 = .ok (.ifCond .eq 5, 3) := by decide +kernel
theorem d_L_law_932 : decode code 932 = .ok (.iconst 0, 1) := by decide +kernel
theorem d_L_law_933 : decode code 933 = .ok (.ireturn, 1) := by decide +kernel
theorem d_L_law_934 : decode code 934 = .ok (.goto 203, 3) := by decide +kernel
theorem d_L_law_937 : decode code 937 = .ok (.aload_n 1, 1) := by decide +kernel
theorem d_L_law_938 : decode code 938 = .ok (.aload_n 3, 1) := by decide +kernel
theorem d_L_law_939 : decode code 939 = .ok (.invokestatic 145, 3) := by decide +kernel
theorem d_L_law_942 : decode code 942 = .ok (.istore 5, 2) := by decide +kernel
theorem d_L_law_944 : decode code 944 = .ok (.aload_n 2, 1) := by decide +kernel
theorem d_L_law_945 : decode code 945 = .ok (.invokevirtual 148, 3) := by decide +kernel
theorem d_L_law_948 : decode code 948 = .ok (.istore 6, 2) := by decide +kernel
theorem d_L_law_950 : decode code 950 = .ok (.aload_n 2, 1) := by decide +kernel
theorem d_L_law_951 : decode code 951 = .ok (.invokevirtual 91, 3) := by decide +kernel
theorem d_L_law_954 : decode code 954 = .ok (.iload 5, 2) := by decide +kernel
theorem d_L_law_956 : decode code 956 = .ok (.if_icmp .eq 5, 3) := by decide +kernel
theorem d_L_law_959 : decode code 959 = .ok (.iconst 0, 1) := by decide +kernel
theorem d_L_law_960 : decode code 960 = .ok (.ireturn, 1) := by decide +kernel
theorem d_L_law_961 : decode code 961 = .ok (.iload 5, 2) := by decide +kernel
theorem d_L_law_963 : decode code 963 = .ok (.ifCond .ne 15, 3) := by decide +kernel
theorem d_L_law_966 : decode code 966 = .ok (.aload_n 3, 1) := by decide +kernel
theorem d_L_law_967 : decode code 967 = .ok (.iconst 0, 1) := by decide +kernel
theorem d_L_law_968 : decode code 968 = .ok (.laload, 1) := by decide +kernel
theorem d_L_law_969 : decode code 969 = .ok (.iload 6, 2) := by decide +kernel
theorem d_L_law_971 : decode code 971 = .ok (.i2l, 1) := by decide +kernel
theorem d_L_law_972 : decode code 972 = .ok (.lcmp, 1) := by decide +kernel
theorem d_L_law_973 : decode code 973 = .ok (.ifCond .eq 5, 3) := by decide +kernel
theorem d_L_law_976 : decode code 976 = .ok (.iconst 0, 1) := by decide +kernel
theorem d_L_law_977 : decode code 977 = .ok (.ireturn, 1) := by decide +kernel
theorem d_L_law_978 : decode code 978 = .ok (.goto 159, 3) := by decide +kernel
theorem d_L_law_981 : decode code 981 = .ok (.aload_n 1, 1) := by decide +kernel
theorem d_L_law_982 : decode code 982 = .ok (.aload_n 0, 1) := by decide +kernel
theorem d_L_law_983 : decode code 983 = .ok (.iload 4, 2) := by decide +kernel
theorem d_L_law_985 : decode code 985 = .ok (.iconst 1, 1) := by decide +kernel
theorem d_L_law_986 : decode code 986 = .ok (.iadd, 1) := by decide +kernel
theorem d_L_law_987 : decode code 987 = .ok (.iaload, 1) := by decide +kernel
theorem d_L_law_988 : decode code 988 = .ok (.aload_n 3, 1) := by decide +kernel
theorem d_L_law_989 : decode code 989 = .ok (.invokestatic 149, 3) := by decide +kernel
theorem d_L_law_992 : decode code 992 = .ok (.istore 5, 2) := by decide +kernel
theorem d_L_law_994 : decode code 994 = .ok (.aload_n 2, 1) := by decide +kernel
theorem d_L_law_995 : decode code 995 = .ok (.aload_n 0, 1) := by decide +kernel
theorem d_L_law_996 : decode code 996 = .ok (.iload 4, 2) := by decide +kernel
theorem d_L_law_998 : decode code 998 = .ok (.iconst 1, 1) := by decide +kernel
theorem d_L_law_999 : decode code 999 = .ok (.iadd, 1) := by decide +kernel
theorem d_L_law_1000 : decode code 1000 = .ok (.iaload, 1) := by decide +kernel
theorem d_L_law_1001 : decode code 1001 = .ok (.invokevirtual 151, 3) := by decide +kernel
theorem d_L_law_1004 : decode code 1004 = .ok (.istore 6, 2) := by decide +kernel
theorem d_L_law_1006 : decode code 1006 = .ok (.aload_n 2, 1) := by decide +kernel
theorem d_L_law_1007 : decode code 1007 = .ok (.invokevirtual 91, 3) := by decide +kernel
theorem d_L_law_1010 : decode code 1010 = .ok (.iload 5, 2) := by decide +kernel
theorem d_L_law_1012 : decode code 1012 = .ok (.if_icmp .eq 5, 3) := by decide +kernel
theorem d_L_law_1015 : decode code 1015 = .ok (.iconst 0, 1) := by decide +kernel
theorem d_L_law_1016 : decode code 1016 = .ok (.ireturn, 1) := by decide +kernel
theorem d_L_law_1017 : decode code 1017 = .ok (.iload 5, 2) := by decide +kernel
theorem d_L_law_1019 : decode code 1019 = .ok (.ifCond .ne 15, 3) := by decide +kernel
theorem d_L_law_1022 : decode code 1022 = .ok (.aload_n 3, 1) := by decide +kernel
theorem d_L_law_1023 : decode code 1023 = .ok (.iconst 0, 1) := by decide +kernel
theorem d_L_law_1024 : decode code 1024 = .ok (.laload, 1) := by decide +kernel
theorem d_L_law_1025 : decode code 1025 = .ok (.iload 6, 2) := by decide +kernel
theorem d_L_law_1027 : decode code 1027 = .ok (.i2l, 1) := by decide +kernel
theorem d_L_law_1028 : decode code 1028 = .ok (.lcmp, 1) := by decide +kernel
theorem d_L_law_1029 : decode code 1029 = .ok (.ifCond .eq 5, 3) := by decide +kernel
theorem d_L_law_1032 : decode code 1032 = .ok (.iconst 0, 1) := by decide +kernel
theorem d_L_law_1033 : decode code 1033 = .ok (.ireturn, 1) := by decide +kernel
theorem d_L_law_1034 : decode code 1034 = .ok (.goto 103, 3) := by decide +kernel
theorem d_L_law_1037 : decode code 1037 = .ok (.aload_n 1, 1) := by decide +kernel
theorem d_L_law_1038 : decode code 1038 = .ok (.aload_n 3, 1) := by decide +kernel
theorem d_L_law_1039 : decode code 1039 = .ok (.invokestatic 152, 3) := by decide +kernel
theorem d_L_law_1042 : decode code 1042 = .ok (.istore 5, 2) := by decide +kernel
theorem d_L_law_1044 : decode code 1044 = .ok (.aload_n 2, 1) := by decide +kernel
theorem d_L_law_1045 : decode code 1045 = .ok (.invokevirtual 154, 3) := by decide +kernel
theorem d_L_law_1048 : decode code 1048 = .ok (.istore 6, 2) := by decide +kernel
theorem d_L_law_1050 : decode code 1050 = .ok (.aload_n 2, 1) := by decide +kernel
theorem d_L_law_1051 : decode code 1051 = .ok (.invokevirtual 91, 3) := by decide +kernel
theorem d_L_law_1054 : decode code 1054 = .ok (.iload 5, 2) := by decide +kernel
theorem d_L_law_1056 : decode code 1056 = .ok (.if_icmp .eq 5, 3) := by decide +kernel
theorem d_L_law_1059 : decode code 1059 = .ok (.iconst 0, 1) := by decide +kernel
theorem d_L_law_1060 : decode code 1060 = .ok (.ireturn, 1) := by decide +kernel
theorem d_L_law_1061 : decode code 1061 = .ok (.iload 5, 2) := by decide +kernel
theorem d_L_law_1063 : decode code 1063 = .ok (.ifCond .ne 15, 3) := by decide +kernel
theorem d_L_law_1066 : decode code 1066 = .ok (.aload_n 3, 1) := by decide +kernel
theorem d_L_law_1067 : decode code 1067 = .ok (.iconst 0, 1) := by decide +kernel
theorem d_L_law_1068 : decode code 1068 = .ok (.laload, 1) := by decide +kernel
theorem d_L_law_1069 : decode code 1069 = .ok (.iload 6, 2) := by decide +kernel
theorem d_L_law_1071 : decode code 1071 = .ok (.i2l, 1) := by decide +kernel
theorem d_L_law_1072 : decode code 1072 = .ok (.lcmp, 1) := by decide +kernel
theorem d_L_law_1073 : decode code 1073 = .ok (.ifCond .eq 5, 3) := by decide +kernel
theorem d_L_law_1076 : decode code 1076 = .ok (.iconst 0, 1) := by decide +kernel
theorem d_L_law_1077 : decode code 1077 = .ok (.ireturn, 1) := by decide +kernel
theorem d_L_law_1078 : decode code 1078 = .ok (.goto 59, 3) := by decide +kernel
theorem d_L_law_1081 : decode code 1081 = .ok (.aload_n 1, 1) := by decide +kernel
theorem d_L_law_1082 : decode code 1082 = .ok (.aload_n 0, 1) := by decide +kernel
theorem d_L_law_1083 : decode code 1083 = .ok (.iload 4, 2) := by decide +kernel
theorem d_L_law_1085 : decode code 1085 = .ok (.iconst 1, 1) := by decide +kernel
theorem d_L_law_1086 : decode code 1086 = .ok (.iadd, 1) := by decide +kernel
theorem d_L_law_1087 : decode code 1087 = .ok (.iaload, 1) := by decide +kernel
theorem d_L_law_1088 : decode code 1088 = .ok (.aload_n 3, 1) := by decide +kernel
theorem d_L_law_1089 : decode code 1089 = .ok (.invokestatic 155, 3) := by decide +kernel
theorem d_L_law_1092 : decode code 1092 = .ok (.istore 5, 2) := by decide +kernel
theorem d_L_law_1094 : decode code 1094 = .ok (.aload_n 2, 1) := by decide +kernel
theorem d_L_law_1095 : decode code 1095 = .ok (.aload_n 0, 1) := by decide +kernel
theorem d_L_law_1096 : decode code 1096 = .ok (.iload 4, 2) := by decide +kernel
theorem d_L_law_1098 : decode code 1098 = .ok (.iconst 1, 1) := by decide +kernel
theorem d_L_law_1099 : decode code 1099 = .ok (.iadd, 1) := by decide +kernel
theorem d_L_law_1100 : decode code 1100 = .ok (.iaload, 1) := by decide +kernel
theorem d_L_law_1101 : decode code 1101 = .ok (.invokevirtual 157, 3) := by decide +kernel
theorem d_L_law_1104 : decode code 1104 = .ok (.istore 6, 2) := by decide +kernel
theorem d_L_law_1106 : decode code 1106 = .ok (.aload_n 2, 1) := by decide +kernel
theorem d_L_law_1107 : decode code 1107 = .ok (.invokevirtual 91, 3) := by decide +kernel
theorem d_L_law_1110 : decode code 1110 = .ok (.iload 5, 2) := by decide +kernel
theorem d_L_law_1112 : decode code 1112 = .ok (.if_icmp .eq 5, 3) := by decide +kernel
theorem d_L_law_1115 : decode code 1115 = .ok (.iconst 0, 1) := by decide +kernel
theorem d_L_law_1116 : decode code 1116 = .ok (.ireturn, 1) := by decide +kernel
theorem d_L_law_1117 : decode code 1117 = .ok (.iload 5, 2) := by decide +kernel
theorem d_L_law_1119 : decode code 1119 = .ok (.ifCond .ne 15, 3) := by decide +kernel
theorem d_L_law_1122 : decode code 1122 = .ok (.aload_n 3, 1) := by decide +kernel
theorem d_L_law_1123 : decode code 1123 = .ok (.iconst 0, 1) := by decide +kernel
theorem d_L_law_1124 : decode code 1124 = .ok (.laload, 1) := by decide +kernel
theorem d_L_law_1125 : decode code 1125 = .ok (.iload 6, 2) := by decide +kernel
theorem d_L_law_1127 : decode code 1127 = .ok (.i2l, 1) := by decide +kernel
theorem d_L_law_1128 : decode code 1128 = .ok (.lcmp, 1) := by decide +kernel
theorem d_L_law_1129 : decode code 1129 = .ok (.ifCond .eq 5, 3) := by decide +kernel
theorem d_L_law_1132 : decode code 1132 = .ok (.iconst 0, 1) := by decide +kernel
theorem d_L_law_1133 : decode code 1133 = .ok (.ireturn, 1) := by decide +kernel
theorem d_L_law_1134 : decode code 1134 = .ok (.goto 3, 3) := by decide +kernel
theorem d_L_law_1137 : decode code 1137 = .ok (.iinc 4 4, 3) := by decide +kernel
theorem d_L_law_1140 : decode code 1140 = .ok (.goto (-1117), 3) := by decide +kernel
theorem d_L_law_1143 : decode code 1143 = .ok (.iconst 1, 1) := by decide +kernel
theorem d_L_law_1144 : decode code 1144 = .ok (.ireturn, 1) := by decide +kernel
