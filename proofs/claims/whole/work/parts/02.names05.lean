theorem dX7_init_142 : decode cX7_init 142 = .ok (.castore, 1) := by decide +kernel
theorem dX7_init_143 : decode cX7_init 143 = .ok (.dup, 1) := by decide +kernel
theorem dX7_init_144 : decode cX7_init 144 = .ok (.bipush 13, 2) := by decide +kernel
theorem dX7_init_146 : decode cX7_init 146 = .ok (.bipush 109, 2) := by decide +kernel
theorem dX7_init_148 : decode cX7_init 148 = .ok (.castore, 1) := by decide +kernel
theorem dX7_init_149 : decode cX7_init 149 = .ok (.dup, 1) := by decide +kernel
theorem dX7_init_150 : decode cX7_init 150 = .ok (.bipush 14, 2) := by decide +kernel
theorem dX7_init_152 : decode cX7_init 152 = .ok (.bipush 111, 2) := by decide +kernel
theorem dX7_init_154 : decode cX7_init 154 = .ok (.castore, 1) := by decide +kernel
theorem dX7_init_155 : decode cX7_init 155 = .ok (.dup, 1) := by decide +kernel
theorem dX7_init_156 : decode cX7_init 156 = .ok (.bipush 15, 2) := by decide +kernel
theorem dX7_init_158 : decode cX7_init 158 = .ok (.bipush 107, 2) := by decide +kernel
theorem dX7_init_160 : decode cX7_init 160 = .ok (.castore, 1) := by decide +kernel
theorem dX7_init_161 : decode cX7_init 161 = .ok (.dup, 1) := by decide +kernel
theorem dX7_init_162 : decode cX7_init 162 = .ok (.bipush 16, 2) := by decide +kernel
theorem dX7_init_164 : decode cX7_init 164 = .ok (.bipush 101, 2) := by decide +kernel
theorem dX7_init_166 : decode cX7_init 166 = .ok (.castore, 1) := by decide +kernel
theorem dX7_init_167 : decode cX7_init 167 = .ok (.dup, 1) := by decide +kernel
theorem dX7_init_168 : decode cX7_init 168 = .ok (.bipush 17, 2) := by decide +kernel
theorem dX7_init_170 : decode cX7_init 170 = .ok (.bipush 100, 2) := by decide +kernel
theorem dX7_init_172 : decode cX7_init 172 = .ok (.castore, 1) := by decide +kernel
theorem dX7_init_173 : decode cX7_init 173 = .ok (.dup, 1) := by decide +kernel
theorem dX7_init_174 : decode cX7_init 174 = .ok (.bipush 18, 2) := by decide +kernel
theorem dX7_init_176 : decode cX7_init 176 = .ok (.bipush 109, 2) := by decide +kernel
theorem dX7_init_178 : decode cX7_init 178 = .ok (.castore, 1) := by decide +kernel
theorem dX7_init_179 : decode cX7_init 179 = .ok (.dup, 1) := by decide +kernel
theorem dX7_init_180 : decode cX7_init 180 = .ok (.bipush 19, 2) := by decide +kernel
theorem dX7_init_182 : decode cX7_init 182 = .ok (.bipush 105, 2) := by decide +kernel
theorem dX7_init_184 : decode cX7_init 184 = .ok (.castore, 1) := by decide +kernel
theorem dX7_init_185 : decode cX7_init 185 = .ok (.dup, 1) := by decide +kernel
theorem dX7_init_186 : decode cX7_init 186 = .ok (.bipush 20, 2) := by decide +kernel
theorem dX7_init_188 : decode cX7_init 188 = .ok (.bipush 114, 2) := by decide +kernel
theorem dX7_init_190 : decode cX7_init 190 = .ok (.castore, 1) := by decide +kernel
theorem dX7_init_191 : decode cX7_init 191 = .ok (.dup, 1) := by decide +kernel
theorem dX7_init_192 : decode cX7_init 192 = .ok (.bipush 21, 2) := by decide +kernel
theorem dX7_init_194 : decode cX7_init 194 = .ok (.bipush 114, 2) := by decide +kernel
theorem dX7_init_196 : decode cX7_init 196 = .ok (.castore, 1) := by decide +kernel
theorem dX7_init_197 : decode cX7_init 197 = .ok (.dup, 1) := by decide +kernel
theorem dX7_init_198 : decode cX7_init 198 = .ok (.bipush 22, 2) := by decide +kernel
theorem dX7_init_200 : decode cX7_init 200 = .ok (.bipush 111, 2) := by decide +kernel
theorem dX7_init_202 : decode cX7_init 202 = .ok (.castore, 1) := by decide +kernel
theorem dX7_init_203 : decode cX7_init 203 = .ok (.dup, 1) := by decide +kernel
theorem dX7_init_204 : decode cX7_init 204 = .ok (.bipush 23, 2) := by decide +kernel
theorem dX7_init_206 : decode cX7_init 206 = .ok (.bipush 114, 2) := by decide +kernel
theorem dX7_init_208 : decode cX7_init 208 = .ok (.castore, 1) := by decide +kernel
theorem dX7_init_209 : decode cX7_init 209 = .ok (.dup, 1) := by decide +kernel
theorem dX7_init_210 : decode cX7_init 210 = .ok (.bipush 24, 2) := by decide +kernel
theorem dX7_init_212 : decode cX7_init 212 = .ok (.bipush 100, 2) := by decide +kernel
theorem dX7_init_214 : decode cX7_init 214 = .ok (.castore, 1) := by decide +kernel
theorem dX7_init_215 : decode cX7_init 215 = .ok (.dup, 1) := by decide +kernel
theorem dX7_init_216 : decode cX7_init 216 = .ok (.bipush 25, 2) := by decide +kernel
theorem dX7_init_218 : decode cX7_init 218 = .ok (.bipush 121, 2) := by decide +kernel
theorem dX7_init_220 : decode cX7_init 220 = .ok (.castore, 1) := by decide +kernel
theorem dX7_init_221 : decode cX7_init 221 = .ok (.dup, 1) := by decide +kernel
theorem dX7_init_222 : decode cX7_init 222 = .ok (.bipush 26, 2) := by decide +kernel
theorem dX7_init_224 : decode cX7_init 224 = .ok (.bipush 101, 2) := by decide +kernel
theorem dX7_init_226 : decode cX7_init 226 = .ok (.castore, 1) := by decide +kernel
theorem dX7_init_227 : decode cX7_init 227 = .ok (.dup, 1) := by decide +kernel
theorem dX7_init_228 : decode cX7_init 228 = .ok (.bipush 27, 2) := by decide +kernel
theorem dX7_init_230 : decode cX7_init 230 = .ok (.bipush 100, 2) := by decide +kernel
theorem dX7_init_232 : decode cX7_init 232 = .ok (.castore, 1) := by decide +kernel
theorem dX7_init_233 : decode cX7_init 233 = .ok (.dup, 1) := by decide +kernel
theorem dX7_init_234 : decode cX7_init 234 = .ok (.bipush 28, 2) := by decide +kernel
theorem dX7_init_236 : decode cX7_init 236 = .ok (.bipush 32, 2) := by decide +kernel
theorem dX7_init_238 : decode cX7_init 238 = .ok (.castore, 1) := by decide +kernel
theorem dX7_init_239 : decode cX7_init 239 = .ok (.dup, 1) := by decide +kernel
theorem dX7_init_240 : decode cX7_init 240 = .ok (.bipush 29, 2) := by decide +kernel
theorem dX7_init_242 : decode cX7_init 242 = .ok (.bipush 32, 2) := by decide +kernel
theorem dX7_init_244 : decode cX7_init 244 = .ok (.castore, 1) := by decide +kernel
theorem dX7_init_245 : decode cX7_init 245 = .ok (.dup, 1) := by decide +kernel
theorem dX7_init_246 : decode cX7_init 246 = .ok (.bipush 30, 2) := by decide +kernel
theorem dX7_init_248 : decode cX7_init 248 = .ok (.bipush 99, 2) := by decide +kernel
theorem dX7_init_250 : decode cX7_init 250 = .ok (.castore, 1) := by decide +kernel
theorem dX7_init_251 : decode cX7_init 251 = .ok (.dup, 1) := by decide +kernel
theorem dX7_init_252 : decode cX7_init 252 = .ok (.bipush 31, 2) := by decide +kernel
theorem dX7_init_254 : decode cX7_init 254 = .ok (.bipush 108, 2) := by decide +kernel
theorem dX7_init_256 : decode cX7_init 256 = .ok (.castore, 1) := by decide +kernel
theorem dX7_init_257 : decode cX7_init 257 = .ok (.dup, 1) := by decide +kernel
theorem dX7_init_258 : decode cX7_init 258 = .ok (.bipush 32, 2) := by decide +kernel
theorem dX7_init_260 : decode cX7_init 260 = .ok (.bipush 101, 2) := by decide +kernel
theorem dX7_init_262 : decode cX7_init 262 = .ok (.castore, 1) := by decide +kernel
theorem dX7_init_263 : decode cX7_init 263 = .ok (.dup, 1) := by decide +kernel
theorem dX7_init_264 : decode cX7_init 264 = .ok (.bipush 33, 2) := by decide +kernel
theorem dX7_init_266 : decode cX7_init 266 = .ok (.bipush 97, 2) := by decide +kernel
theorem dX7_init_268 : decode cX7_init 268 = .ok (.castore, 1) := by decide +kernel
theorem dX7_init_269 : decode cX7_init 269 = .ok (.dup, 1) := by decide +kernel
theorem dX7_init_270 : decode cX7_init 270 = .ok (.bipush 34, 2) := by decide +kernel
theorem dX7_init_272 : decode cX7_init 272 = .ok (.bipush 114, 2) := by decide +kernel
theorem dX7_init_274 : decode cX7_init 274 = .ok (.castore, 1) := by decide +kernel
theorem dX7_init_275 : decode cX7_init 275 = .ok (.dup, 1) := by decide +kernel
theorem dX7_init_276 : decode cX7_init 276 = .ok (.bipush 35, 2) := by decide +kernel
theorem dX7_init_278 : decode cX7_init 278 = .ok (.bipush 32, 2) := by decide +kernel
theorem dX7_init_280 : decode cX7_init 280 = .ok (.castore, 1) := by decide +kernel
theorem dX7_init_281 : decode cX7_init 281 = .ok (.putfield 37, 3) := by decide +kernel
theorem dX7_init_284 : decode cX7_init 284 = .ok (.aload_n 0, 1) := by decide +kernel
theorem dX7_init_285 : decode cX7_init 285 = .ok (.bipush 6, 2) := by decide +kernel
theorem dX7_init_287 : decode cX7_init 287 = .ok (.newarray .int, 2) := by decide +kernel
theorem dX7_init_289 : decode cX7_init 289 = .ok (.dup, 1) := by decide +kernel
theorem dX7_init_290 : decode cX7_init 290 = .ok (.iconst 0, 1) := by decide +kernel
theorem dX7_init_291 : decode cX7_init 291 = .ok (.iconst 5, 1) := by decide +kernel
theorem dX7_init_292 : decode cX7_init 292 = .ok (.iastore, 1) := by decide +kernel
theorem dX7_init_293 : decode cX7_init 293 = .ok (.dup, 1) := by decide +kernel
theorem dX7_init_294 : decode cX7_init 294 = .ok (.iconst 1, 1) := by decide +kernel
theorem dX7_init_295 : decode cX7_init 295 = .ok (.iconst 5, 1) := by decide +kernel
theorem dX7_init_296 : decode cX7_init 296 = .ok (.iastore, 1) := by decide +kernel
theorem dX7_init_297 : decode cX7_init 297 = .ok (.dup, 1) := by decide +kernel
theorem dX7_init_298 : decode cX7_init 298 = .ok (.iconst 2, 1) := by decide +kernel
theorem dX7_init_299 : decode cX7_init 299 = .ok (.bipush 6, 2) := by decide +kernel
theorem dX7_init_301 : decode cX7_init 301 = .ok (.iastore, 1) := by decide +kernel
theorem dX7_init_302 : decode cX7_init 302 = .ok (.dup, 1) := by decide +kernel
theorem dX7_init_303 : decode cX7_init 303 = .ok (.iconst 3, 1) := by decide +kernel
theorem dX7_init_304 : decode cX7_init 304 = .ok (.bipush 6, 2) := by decide +kernel
theorem dX7_init_306 : decode cX7_init 306 = .ok (.iastore, 1) := by decide +kernel
theorem dX7_init_307 : decode cX7_init 307 = .ok (.dup, 1) := by decide +kernel
theorem dX7_init_308 : decode cX7_init 308 = .ok (.iconst 4, 1) := by decide +kernel
theorem dX7_init_309 : decode cX7_init 309 = .ok (.iconst 4, 1) := by decide +kernel
theorem dX7_init_310 : decode cX7_init 310 = .ok (.iastore, 1) := by decide +kernel
theorem dX7_init_311 : decode cX7_init 311 = .ok (.dup, 1) := by decide +kernel
theorem dX7_init_312 : decode cX7_init 312 = .ok (.iconst 5, 1) := by decide +kernel
theorem dX7_init_313 : decode cX7_init 313 = .ok (.iconst 5, 1) := by decide +kernel
theorem dX7_init_314 : decode cX7_init 314 = .ok (.iastore, 1) := by decide +kernel
theorem dX7_init_315 : decode cX7_init 315 = .ok (.putfield 41, 3) := by decide +kernel
theorem dX7_init_318 : decode cX7_init 318 = .ok (.aload_n 0, 1) := by decide +kernel
theorem dX7_init_319 : decode cX7_init 319 = .ok (.iconst 3, 1) := by decide +kernel
theorem dX7_init_320 : decode cX7_init 320 = .ok (.newarray .long, 2) := by decide +kernel
theorem dX7_init_322 : decode cX7_init 322 = .ok (.putfield 44, 3) := by decide +kernel
theorem dX7_init_325 : decode cX7_init 325 = .ok (.aload_n 0, 1) := by decide +kernel
theorem dX7_init_326 : decode cX7_init 326 = .ok (.iconst 4, 1) := by decide +kernel
theorem dX7_init_327 : decode cX7_init 327 = .ok (.newarray .int, 2) := by decide +kernel
theorem dX7_init_329 : decode cX7_init 329 = .ok (.putfield 47, 3) := by decide +kernel
theorem dX7_init_332 : decode cX7_init 332 = .ok (.aload_n 0, 1) := by decide +kernel
theorem dX7_init_333 : decode cX7_init 333 = .ok (.iconst 4, 1) := by decide +kernel
theorem dX7_init_334 : decode cX7_init 334 = .ok (.newarray .int, 2) := by decide +kernel
theorem dX7_init_336 : decode cX7_init 336 = .ok (.putfield 50, 3) := by decide +kernel
theorem dX7_init_339 : decode cX7_init 339 = .ok (.aload_n 0, 1) := by decide +kernel
theorem dX7_init_340 : decode cX7_init 340 = .ok (.bipush 60, 2) := by decide +kernel
theorem dX7_init_342 : decode cX7_init 342 = .ok (.newarray .int, 2) := by decide +kernel
theorem dX7_init_344 : decode cX7_init 344 = .ok (.putfield 53, 3) := by decide +kernel
theorem dX7_init_347 : decode cX7_init 347 = .ok (.aload_n 0, 1) := by decide +kernel
theorem dX7_init_348 : decode cX7_init 348 = .ok (.bipush 72, 2) := by decide +kernel
theorem dX7_init_350 : decode cX7_init 350 = .ok (.newarray .int, 2) := by decide +kernel
theorem dX7_init_352 : decode cX7_init 352 = .ok (.putfield 56, 3) := by decide +kernel
theorem dX7_init_355 : decode cX7_init 355 = .ok (.aload_n 0, 1) := by decide +kernel
theorem dX7_init_356 : decode cX7_init 356 = .ok (.iconst 4, 1) := by decide +kernel
theorem dX7_init_357 : decode cX7_init 357 = .ok (.newarray .int, 2) := by decide +kernel
theorem dX7_init_359 : decode cX7_init 359 = .ok (.putfield 59, 3) := by decide +kernel
theorem dX7_init_362 : decode cX7_init 362 = .ok (.iconst 0, 1) := by decide +kernel
theorem dX7_init_363 : decode cX7_init 363 = .ok (.istore_n 1, 1) := by decide +kernel
theorem dX7_init_364 : decode cX7_init 364 = .ok (.iload_n 1, 1) := by decide +kernel
theorem dX7_init_365 : decode cX7_init 365 = .ok (.bipush 15, 2) := by decide +kernel
theorem dX7_init_367 : decode cX7_init 367 = .ok (.if_icmp .ge 20, 3) := by decide +kernel
theorem dX7_init_370 : decode cX7_init 370 = .ok (.aload_n 0, 1) := by decide +kernel
theorem dX7_init_371 : decode cX7_init 371 = .ok (.getfield 9, 3) := by decide +kernel
theorem dX7_init_374 : decode cX7_init 374 = .ok (.bipush 100, 2) := by decide +kernel
theorem dX7_init_376 : decode cX7_init 376 = .ok (.iload_n 1, 1) := by decide +kernel
theorem dX7_init_377 : decode cX7_init 377 = .ok (.iadd, 1) := by decide +kernel
theorem dX7_init_378 : decode cX7_init 378 = .ok (.bipush 9, 2) := by decide +kernel
theorem dX7_init_380 : decode cX7_init 380 = .ok (.iastore, 1) := by decide +kernel
theorem dX7_init_381 : decode cX7_init 381 = .ok (.iinc 1 1, 3) := by decide +kernel
theorem dX7_init_384 : decode cX7_init 384 = .ok (.goto (-20), 3) := by decide +kernel
theorem dX7_init_387 : decode cX7_init 387 = .ok (.aload_n 0, 1) := by decide +kernel
theorem dX7_init_388 : decode cX7_init 388 = .ok (.getfield 9, 3) := by decide +kernel
theorem dX7_init_391 : decode cX7_init 391 = .ok (.bipush 117, 2) := by decide +kernel
theorem dX7_init_393 : decode cX7_init 393 = .ok (.iconst 1, 1) := by decide +kernel
theorem dX7_init_394 : decode cX7_init 394 = .ok (.iastore, 1) := by decide +kernel
theorem dX7_init_395 : decode cX7_init 395 = .ok (.aload_n 0, 1) := by decide +kernel
theorem dX7_init_396 : decode cX7_init 396 = .ok (.getfield 9, 3) := by decide +kernel
theorem dX7_init_399 : decode cX7_init 399 = .ok (.bipush 118, 2) := by decide +kernel
theorem dX7_init_401 : decode cX7_init 401 = .ok (.iconst 2, 1) := by decide +kernel
theorem dX7_init_402 : decode cX7_init 402 = .ok (.iastore, 1) := by decide +kernel
theorem dX7_init_403 : decode cX7_init 403 = .ok (.aload_n 0, 1) := by decide +kernel
theorem dX7_init_404 : decode cX7_init 404 = .ok (.getfield 9, 3) := by decide +kernel
theorem dX7_init_407 : decode cX7_init 407 = .ok (.bipush 119, 2) := by decide +kernel
theorem dX7_init_409 : decode cX7_init 409 = .ok (.iconst 3, 1) := by decide +kernel
theorem dX7_init_410 : decode cX7_init 410 = .ok (.iastore, 1) := by decide +kernel
theorem dX7_init_411 : decode cX7_init 411 = .ok (.aload_n 0, 1) := by decide +kernel
theorem dX7_init_412 : decode cX7_init 412 = .ok (.getfield 9, 3) := by decide +kernel
theorem dX7_init_415 : decode cX7_init 415 = .ok (.bipush 121, 2) := by decide +kernel
theorem dX7_init_417 : decode cX7_init 417 = .ok (.iconst 1, 1) := by decide +kernel
theorem dX7_init_418 : decode cX7_init 418 = .ok (.iastore, 1) := by decide +kernel
theorem dX7_init_419 : decode cX7_init 419 = .ok (.aload_n 0, 1) := by decide +kernel
theorem dX7_init_420 : decode cX7_init 420 = .ok (.getfield 9, 3) := by decide +kernel
theorem dX7_init_423 : decode cX7_init 423 = .ok (.bipush 122, 2) := by decide +kernel
theorem dX7_init_425 : decode cX7_init 425 = .ok (.iconst 3, 1) := by decide +kernel
theorem dX7_init_426 : decode cX7_init 426 = .ok (.iastore, 1) := by decide +kernel
theorem dX7_init_427 : decode cX7_init 427 = .ok (.aload_n 0, 1) := by decide +kernel
theorem dX7_init_428 : decode cX7_init 428 = .ok (.getfield 9, 3) := by decide +kernel
theorem dX7_init_431 : decode cX7_init 431 = .ok (.bipush 123, 2) := by decide +kernel
theorem dX7_init_433 : decode cX7_init 433 = .ok (.iconst 1, 1) := by decide +kernel
theorem dX7_init_434 : decode cX7_init 434 = .ok (.iastore, 1) := by decide +kernel
theorem dX7_init_435 : decode cX7_init 435 = .ok (.aload_n 0, 1) := by decide +kernel
theorem dX7_init_436 : decode cX7_init 436 = .ok (.getfield 9, 3) := by decide +kernel
theorem dX7_init_439 : decode cX7_init 439 = .ok (.bipush 125, 2) := by decide +kernel
theorem dX7_init_441 : decode cX7_init 441 = .ok (.iconst 4, 1) := by decide +kernel
theorem dX7_init_442 : decode cX7_init 442 = .ok (.iastore, 1) := by decide +kernel
theorem dX7_init_443 : decode cX7_init 443 = .ok (.aload_n 0, 1) := by decide +kernel
theorem dX7_init_444 : decode cX7_init 444 = .ok (.getfield 9, 3) := by decide +kernel
theorem dX7_init_447 : decode cX7_init 447 = .ok (.bipush 126, 2) := by decide +kernel
theorem dX7_init_449 : decode cX7_init 449 = .ok (.iconst 2, 1) := by decide +kernel
theorem dX7_init_450 : decode cX7_init 450 = .ok (.iastore, 1) := by decide +kernel
theorem dX7_init_451 : decode cX7_init 451 = .ok (.iconst 0, 1) := by decide +kernel
theorem dX7_init_452 : decode cX7_init 452 = .ok (.istore_n 1, 1) := by decide +kernel
theorem dX7_init_453 : decode cX7_init 453 = .ok (.iload_n 1, 1) := by decide +kernel
theorem dX7_init_454 : decode cX7_init 454 = .ok (.iconst 4, 1) := by decide +kernel
theorem dX7_init_455 : decode cX7_init 455 = .ok (.if_icmp .ge 16, 3) := by decide +kernel
theorem dX7_init_458 : decode cX7_init 458 = .ok (.aload_n 0, 1) := by decide +kernel
theorem dX7_init_459 : decode cX7_init 459 = .ok (.getfield 59, 3) := by decide +kernel
theorem dX7_init_462 : decode cX7_init 462 = .ok (.iload_n 1, 1) := by decide +kernel
theorem dX7_init_463 : decode cX7_init 463 = .ok (.iconst (-1), 1) := by decide +kernel
theorem dX7_init_464 : decode cX7_init 464 = .ok (.iastore, 1) := by decide +kernel
theorem dX7_init_465 : decode cX7_init 465 = .ok (.iinc 1 1, 3) := by decide +kernel
theorem dX7_init_468 : decode cX7_init 468 = .ok (.goto (-15), 3) := by decide +kernel
theorem dX7_init_471 : decode cX7_init 471 = .ok (.return_, 1) := by decide +kernel
theorem dX7_isIn_0 : decode cX7_isIn 0 = .ok (.lload_n 0, 1) := by decide +kernel
theorem dX7_isIn_1 : decode cX7_isIn 1 = .ok (.lload_n 2, 1) := by decide +kernel
theorem dX7_isIn_2 : decode cX7_isIn 2 = .ok (.lcmp, 1) := by decide +kernel
theorem dX7_isIn_3 : decode cX7_isIn 3 = .ok (.ifCond .lt 14, 3) := by decide +kernel
theorem dX7_isIn_6 : decode cX7_isIn 6 = .ok (.lload_n 0, 1) := by decide +kernel
theorem dX7_isIn_7 : decode cX7_isIn 7 = .ok (.lload 4, 2) := by decide +kernel
theorem dX7_isIn_9 : decode cX7_isIn 9 = .ok (.lcmp, 1) := by decide +kernel
theorem dX7_isIn_10 : decode cX7_isIn 10 = .ok (.ifCond .gt 7, 3) := by decide +kernel
theorem dX7_isIn_13 : decode cX7_isIn 13 = .ok (.iconst 1, 1) := by decide +kernel
theorem dX7_isIn_14 : decode cX7_isIn 14 = .ok (.goto 4, 3) := by decide +kernel
theorem dX7_isIn_17 : decode cX7_isIn 17 = .ok (.iconst 0, 1) := by decide +kernel
theorem dX7_isIn_18 : decode cX7_isIn 18 = .ok (.ireturn, 1) := by decide +kernel
set_option maxRecDepth 20000 in
theorem ggX7_isSheet_X7_isIn : GoodIn wsX7_isSheet wsX7_isIn := goodIn_r _ [5] (by decide +kernel) (by decide +kernel)
set_option maxRecDepth 20000 in
theorem gX7_isSheet_X7_isIn : GoodIn wsX7_isSheet (va_wsS RX7 62 yX7_isIn wsX7_isIn) := goodIn_app (goodIn_of _ (by decide +kernel)) ggX7_isSheet_X7_isIn
theorem dX7_isSheet_0 : decode cX7_isSheet 0 = .ok (.iload_n 1, 1) := by decide +kernel
theorem dX7_isSheet_1 : decode cX7_isSheet 1 = .ok (.i2l, 1) := by decide +kernel
theorem dX7_isSheet_2 : decode cX7_isSheet 2 = .ok (.lconst 0, 1) := by decide +kernel
theorem dX7_isSheet_3 : decode cX7_isSheet 3 = .ok (.aload_n 0, 1) := by decide +kernel
theorem dX7_isSheet_4 : decode cX7_isSheet 4 = .ok (.getfield 9, 3) := by decide +kernel
theorem dX7_isSheet_7 : decode cX7_isSheet 7 = .ok (.iconst 0, 1) := by decide +kernel
theorem dX7_isSheet_8 : decode cX7_isSheet 8 = .ok (.iaload, 1) := by decide +kernel
theorem dX7_isSheet_9 : decode cX7_isSheet 9 = .ok (.iconst 1, 1) := by decide +kernel
theorem dX7_isSheet_10 : decode cX7_isSheet 10 = .ok (.isub, 1) := by decide +kernel
theorem dX7_isSheet_11 : decode cX7_isSheet 11 = .ok (.i2l, 1) := by decide +kernel
theorem dX7_isSheet_12 : decode cX7_isSheet 12 = .ok (.invokestatic 62, 3) := by decide +kernel
theorem dX7_isSheet_15 : decode cX7_isSheet 15 = .ok (.ireturn, 1) := by decide +kernel
set_option maxRecDepth 20000 in
theorem ggX7_isStack_X7_isIn : GoodIn wsX7_isStack wsX7_isIn := goodIn_r _ [5] (by decide +kernel) (by decide +kernel)
set_option maxRecDepth 20000 in
theorem gX7_isStack_X7_isIn : GoodIn wsX7_isStack (va_wsS RX7 62 yX7_isIn wsX7_isIn) := goodIn_app (goodIn_of _ (by decide +kernel)) ggX7_isStack_X7_isIn
theorem dX7_isStack_0 : decode cX7_isStack 0 = .ok (.iload_n 1, 1) := by decide +kernel
theorem dX7_isStack_1 : decode cX7_isStack 1 = .ok (.i2l, 1) := by decide +kernel
theorem dX7_isStack_2 : decode cX7_isStack 2 = .ok (.lconst 0, 1) := by decide +kernel
theorem dX7_isStack_3 : decode cX7_isStack 3 = .ok (.aload_n 0, 1) := by decide +kernel
theorem dX7_isStack_4 : decode cX7_isStack 4 = .ok (.getfield 9, 3) := by decide +kernel
theorem dX7_isStack_7 : decode cX7_isStack 7 = .ok (.iconst 1, 1) := by decide +kernel
theorem dX7_isStack_8 : decode cX7_isStack 8 = .ok (.iaload, 1) := by decide +kernel
theorem dX7_isStack_9 : decode cX7_isStack 9 = .ok (.iconst 1, 1) := by decide +kernel
theorem dX7_isStack_10 : decode cX7_isStack 10 = .ok (.isub, 1) := by decide +kernel
theorem dX7_isStack_11 : decode cX7_isStack 11 = .ok (.i2l, 1) := by decide +kernel
theorem dX7_isStack_12 : decode cX7_isStack 12 = .ok (.invokestatic 62, 3) := by decide +kernel
theorem dX7_isStack_15 : decode cX7_isStack 15 = .ok (.ireturn, 1) := by decide +kernel
set_option maxRecDepth 20000 in
theorem ggX7_isLamp_X7_isIn : GoodIn wsX7_isLamp wsX7_isIn := goodIn_r _ [5] (by decide +kernel) (by decide +kernel)
set_option maxRecDepth 20000 in
theorem gX7_isLamp_X7_isIn : GoodIn wsX7_isLamp (va_wsS RX7 62 yX7_isIn wsX7_isIn) := goodIn_app (goodIn_of _ (by decide +kernel)) ggX7_isLamp_X7_isIn
theorem dX7_isLamp_0 : decode cX7_isLamp 0 = .ok (.iload_n 0, 1) := by decide +kernel
theorem dX7_isLamp_1 : decode cX7_isLamp 1 = .ok (.i2l, 1) := by decide +kernel
theorem dX7_isLamp_2 : decode cX7_isLamp 2 = .ok (.lconst 0, 1) := by decide +kernel
theorem dX7_isLamp_3 : decode cX7_isLamp 3 = .ok (.ldc2_w 66, 3) := by decide +kernel
theorem dX7_isLamp_6 : decode cX7_isLamp 6 = .ok (.invokestatic 62, 3) := by decide +kernel
theorem dX7_isLamp_9 : decode cX7_isLamp 9 = .ok (.ireturn, 1) := by decide +kernel
set_option maxRecDepth 20000 in
theorem ggX7_isBand_X7_isIn : GoodIn wsX7_isBand wsX7_isIn := goodIn_r _ [5] (by decide +kernel) (by decide +kernel)
set_option maxRecDepth 20000 in
theorem gX7_isBand_X7_isIn : GoodIn wsX7_isBand (va_wsS RX7 62 yX7_isIn wsX7_isIn) := goodIn_app (goodIn_of _ (by decide +kernel)) ggX7_isBand_X7_isIn
theorem dX7_isBand_0 : decode cX7_isBand 0 = .ok (.iload_n 0, 1) := by decide +kernel
theorem dX7_isBand_1 : decode cX7_isBand 1 = .ok (.i2l, 1) := by decide +kernel
theorem dX7_isBand_2 : decode cX7_isBand 2 = .ok (.lconst 0, 1) := by decide +kernel
theorem dX7_isBand_3 : decode cX7_isBand 3 = .ok (.ldc2_w 68, 3) := by decide +kernel
theorem dX7_isBand_6 : decode cX7_isBand 6 = .ok (.invokestatic 62, 3) := by decide +kernel
theorem dX7_isBand_9 : decode cX7_isBand 9 = .ok (.ireturn, 1) := by decide +kernel
theorem dX7_kindOf_0 : decode cX7_kindOf 0 = .ok (.aload_n 0, 1) := by decide +kernel
theorem dX7_kindOf_1 : decode cX7_kindOf 1 = .ok (.getfield 9, 3) := by decide +kernel
theorem dX7_kindOf_4 : decode cX7_kindOf 4 = .ok (.iconst 2, 1) := by decide +kernel
theorem dX7_kindOf_5 : decode cX7_kindOf 5 = .ok (.bipush 7, 2) := by decide +kernel
theorem dX7_kindOf_7 : decode cX7_kindOf 7 = .ok (.iload_n 1, 1) := by decide +kernel
theorem dX7_kindOf_8 : decode cX7_kindOf 8 = .ok (.imul, 1) := by decide +kernel
theorem dX7_kindOf_9 : decode cX7_kindOf 9 = .ok (.iadd, 1) := by decide +kernel
theorem dX7_kindOf_10 : decode cX7_kindOf 10 = .ok (.iaload, 1) := by decide +kernel
theorem dX7_kindOf_11 : decode cX7_kindOf 11 = .ok (.ireturn, 1) := by decide +kernel
theorem dX7_figureOf_0 : decode cX7_figureOf 0 = .ok (.aload_n 0, 1) := by decide +kernel
theorem dX7_figureOf_1 : decode cX7_figureOf 1 = .ok (.getfield 9, 3) := by decide +kernel
theorem dX7_figureOf_4 : decode cX7_figureOf 4 = .ok (.iconst 2, 1) := by decide +kernel
theorem dX7_figureOf_5 : decode cX7_figureOf 5 = .ok (.bipush 7, 2) := by decide +kernel
theorem dX7_figureOf_7 : decode cX7_figureOf 7 = .ok (.iload_n 1, 1) := by decide +kernel
theorem dX7_figureOf_8 : decode cX7_figureOf 8 = .ok (.imul, 1) := by decide +kernel
theorem dX7_figureOf_9 : decode cX7_figureOf 9 = .ok (.iadd, 1) := by decide +kernel
theorem dX7_figureOf_10 : decode cX7_figureOf 10 = .ok (.iconst 1, 1) := by decide +kernel
theorem dX7_figureOf_11 : decode cX7_figureOf 11 = .ok (.iadd, 1) := by decide +kernel
theorem dX7_figureOf_12 : decode cX7_figureOf 12 = .ok (.iaload, 1) := by decide +kernel
theorem dX7_figureOf_13 : decode cX7_figureOf 13 = .ok (.ireturn, 1) := by decide +kernel
theorem dX7_numberOf_0 : decode cX7_numberOf 0 = .ok (.aload_n 0, 1) := by decide +kernel
theorem dX7_numberOf_1 : decode cX7_numberOf 1 = .ok (.getfield 9, 3) := by decide +kernel
theorem dX7_numberOf_4 : decode cX7_numberOf 4 = .ok (.iconst 2, 1) := by decide +kernel
theorem dX7_numberOf_5 : decode cX7_numberOf 5 = .ok (.bipush 7, 2) := by decide +kernel
theorem dX7_numberOf_7 : decode cX7_numberOf 7 = .ok (.iload_n 1, 1) := by decide +kernel
theorem dX7_numberOf_8 : decode cX7_numberOf 8 = .ok (.imul, 1) := by decide +kernel
theorem dX7_numberOf_9 : decode cX7_numberOf 9 = .ok (.iadd, 1) := by decide +kernel
theorem dX7_numberOf_10 : decode cX7_numberOf 10 = .ok (.iconst 2, 1) := by decide +kernel
theorem dX7_numberOf_11 : decode cX7_numberOf 11 = .ok (.iadd, 1) := by decide +kernel
theorem dX7_numberOf_12 : decode cX7_numberOf 12 = .ok (.iload_n 2, 1) := by decide +kernel
theorem dX7_numberOf_13 : decode cX7_numberOf 13 = .ok (.iadd, 1) := by decide +kernel
theorem dX7_numberOf_14 : decode cX7_numberOf 14 = .ok (.iaload, 1) := by decide +kernel
theorem dX7_numberOf_15 : decode cX7_numberOf 15 = .ok (.ireturn, 1) := by decide +kernel
theorem dX7_size_0 : decode cX7_size 0 = .ok (.aload_n 0, 1) := by decide +kernel
theorem dX7_size_1 : decode cX7_size 1 = .ok (.getfield 9, 3) := by decide +kernel
theorem dX7_size_4 : decode cX7_size 4 = .ok (.bipush 58, 2) := by decide +kernel
theorem dX7_size_6 : decode cX7_size 6 = .ok (.bipush 7, 2) := by decide +kernel
theorem dX7_size_8 : decode cX7_size 8 = .ok (.iload_n 1, 1) := by decide +kernel
theorem dX7_size_9 : decode cX7_size 9 = .ok (.imul, 1) := by decide +kernel
theorem dX7_size_10 : decode cX7_size 10 = .ok (.iadd, 1) := by decide +kernel
theorem dX7_size_11 : decode cX7_size 11 = .ok (.iaload, 1) := by decide +kernel
theorem dX7_size_12 : decode cX7_size 12 = .ok (.ireturn, 1) := by decide +kernel
theorem dX7_laid_0 : decode cX7_laid 0 = .ok (.aload_n 0, 1) := by decide +kernel
theorem dX7_laid_1 : decode cX7_laid 1 = .ok (.getfield 9, 3) := by decide +kernel
theorem dX7_laid_4 : decode cX7_laid 4 = .ok (.bipush 58, 2) := by decide +kernel
theorem dX7_laid_6 : decode cX7_laid 6 = .ok (.bipush 7, 2) := by decide +kernel
theorem dX7_laid_8 : decode cX7_laid 8 = .ok (.iload_n 1, 1) := by decide +kernel
theorem dX7_laid_9 : decode cX7_laid 9 = .ok (.imul, 1) := by decide +kernel
theorem dX7_laid_10 : decode cX7_laid 10 = .ok (.iadd, 1) := by decide +kernel
theorem dX7_laid_11 : decode cX7_laid 11 = .ok (.iconst 1, 1) := by decide +kernel
theorem dX7_laid_12 : decode cX7_laid 12 = .ok (.iadd, 1) := by decide +kernel
theorem dX7_laid_13 : decode cX7_laid 13 = .ok (.iload_n 2, 1) := by decide +kernel
theorem dX7_laid_14 : decode cX7_laid 14 = .ok (.iadd, 1) := by decide +kernel
theorem dX7_laid_15 : decode cX7_laid 15 = .ok (.iaload, 1) := by decide +kernel
theorem dX7_laid_16 : decode cX7_laid 16 = .ok (.ireturn, 1) := by decide +kernel
set_option maxRecDepth 20000 in
theorem ggX7_greatest_X7_numberOf : GoodIn wsX7_greatest wsX7_numberOf := goodIn_r _ [5, 6, 7, 8, 9, 10, 11, 12, 13, 14, 15, 16, 17, 18, 19, 20, 21, 22, 23, 24, 25, 26, 27, 28, 29, 30, 31, 32] (by decide +kernel) (by decide +kernel)
set_option maxRecDepth 20000 in
theorem gX7_greatest_X7_numberOf : GoodIn wsX7_greatest (wsV RX7 70 RX7 yX7_numberOf wsX7_numberOf) := goodIn_app (goodIn_of _ (by decide +kernel)) ggX7_greatest_X7_numberOf
theorem dX7_greatest_0 : decode cX7_greatest 0 = .ok (.iconst 0, 1) := by decide +kernel
theorem dX7_greatest_1 : decode cX7_greatest 1 = .ok (.istore_n 2, 1) := by decide +kernel
theorem dX7_greatest_2 : decode cX7_greatest 2 = .ok (.iconst 0, 1) := by decide +kernel
theorem dX7_greatest_3 : decode cX7_greatest 3 = .ok (.istore_n 3, 1) := by decide +kernel
theorem dX7_greatest_4 : decode cX7_greatest 4 = .ok (.iload_n 3, 1) := by decide +kernel
theorem dX7_greatest_5 : decode cX7_greatest 5 = .ok (.iconst 5, 1) := by decide +kernel
theorem dX7_greatest_6 : decode cX7_greatest 6 = .ok (.if_icmp .ge 30, 3) := by decide +kernel
theorem dX7_greatest_9 : decode cX7_greatest 9 = .ok (.aload_n 0, 1) := by decide +kernel
theorem dX7_greatest_10 : decode cX7_greatest 10 = .ok (.iload_n 1, 1) := by decide +kernel
theorem dX7_greatest_11 : decode cX7_greatest 11 = .ok (.iload_n 3, 1) := by decide +kernel
theorem dX7_greatest_12 : decode cX7_greatest 12 = .ok (.invokevirtual 70, 3) := by decide +kernel
theorem dX7_greatest_15 : decode cX7_greatest 15 = .ok (.iload_n 2, 1) := by decide +kernel
theorem dX7_greatest_16 : decode cX7_greatest 16 = .ok (.if_icmp .le 12, 3) := by decide +kernel
theorem dX7_greatest_19 : decode cX7_greatest 19 = .ok (.aload_n 0, 1) := by decide +kernel
theorem dX7_greatest_20 : decode cX7_greatest 20 = .ok (.iload_n 1, 1) := by decide +kernel
theorem dX7_greatest_21 : decode cX7_greatest 21 = .ok (.iload_n 3, 1) := by decide +kernel
theorem dX7_greatest_22 : decode cX7_greatest 22 = .ok (.invokevirtual 70, 3) := by decide +kernel
theorem dX7_greatest_25 : decode cX7_greatest 25 = .ok (.goto 4, 3) := by decide +kernel
theorem dX7_greatest_28 : decode cX7_greatest 28 = .ok (.iload_n 2, 1) := by decide +kernel
theorem dX7_greatest_29 : decode cX7_greatest 29 = .ok (.istore_n 2, 1) := by decide +kernel
theorem dX7_greatest_30 : decode cX7_greatest 30 = .ok (.iinc 3 1, 3) := by decide +kernel
theorem dX7_greatest_33 : decode cX7_greatest 33 = .ok (.goto (-29), 3) := by decide +kernel
theorem dX7_greatest_36 : decode cX7_greatest 36 = .ok (.iload_n 2, 1) := by decide +kernel
theorem dX7_greatest_37 : decode cX7_greatest 37 = .ok (.ireturn, 1) := by decide +kernel
set_option maxRecDepth 20000 in
theorem ggX7_lets_X7_numberOf : GoodIn wsX7_lets wsX7_numberOf := goodIn_r _ [5, 6, 19, 20, 21, 22, 23, 24, 25, 26, 27, 28, 29, 30, 31, 32, 33, 34, 35, 36, 37, 38, 39, 40, 41, 42, 43, 44] (by decide +kernel) (by decide +kernel)
set_option maxRecDepth 20000 in
theorem gX7_lets_X7_numberOf : GoodIn wsX7_lets (wsV RX7 70 RX7 yX7_numberOf wsX7_numberOf) := goodIn_app (goodIn_of _ (by decide +kernel)) ggX7_lets_X7_numberOf
set_option maxRecDepth 20000 in
theorem ggX7_lets_X7_kindOf : GoodIn wsX7_lets wsX7_kindOf := goodIn_r _ [10, 6, 19, 20, 21, 22, 23, 24, 25, 26, 27, 28, 29, 30, 31, 32, 33, 34, 35, 36, 37, 38, 39, 40, 41, 42, 43, 44] (by decide +kernel) (by decide +kernel)
set_option maxRecDepth 20000 in
theorem gX7_lets_X7_kindOf : GoodIn wsX7_lets (wsV RX7 74 RX7 yX7_kindOf wsX7_kindOf) := goodIn_app (goodIn_of _ (by decide +kernel)) ggX7_lets_X7_kindOf
set_option maxRecDepth 20000 in
theorem ggX7_lets_X7_figureOf : GoodIn wsX7_lets wsX7_figureOf := goodIn_r _ [14, 6, 19, 20, 21, 22, 23, 24, 25, 26, 27, 28, 29, 30, 31, 32, 33, 34, 35, 36, 37, 38, 39, 40, 41, 42, 43, 44] (by decide +kernel) (by decide +kernel)
set_option maxRecDepth 20000 in
theorem gX7_lets_X7_figureOf : GoodIn wsX7_lets (wsV RX7 78 RX7 yX7_figureOf wsX7_figureOf) := goodIn_app (goodIn_of _ (by decide +kernel)) ggX7_lets_X7_figureOf
set_option maxRecDepth 20000 in
theorem ggX7_lets_X7_greatest : GoodIn wsX7_lets wsX7_greatest := goodIn_r _ [18, 1, 2, 3, 4, 5, 6, 19, 20, 21, 22, 23, 24, 25, 26, 27, 28, 29, 30, 31, 32, 33, 34, 35, 36, 37, 38, 39, 40, 41, 42, 43, 44] (by decide +kernel) (by decide +kernel)
set_option maxRecDepth 20000 in
theorem gX7_lets_X7_greatest : GoodIn wsX7_lets (wsV RX7 81 RX7 yX7_greatest wsX7_greatest) := goodIn_app (goodIn_of _ (by decide +kernel)) ggX7_lets_X7_greatest
theorem dX7_lets_0 : decode cX7_lets 0 = .ok (.aload_n 0, 1) := by decide +kernel
theorem dX7_lets_1 : decode cX7_lets 1 = .ok (.iload_n 1, 1) := by decide +kernel
theorem dX7_lets_2 : decode cX7_lets 2 = .ok (.iload_n 2, 1) := by decide +kernel
theorem dX7_lets_3 : decode cX7_lets 3 = .ok (.invokevirtual 70, 3) := by decide +kernel
theorem dX7_lets_6 : decode cX7_lets 6 = .ok (.istore_n 3, 1) := by decide +kernel
theorem dX7_lets_7 : decode cX7_lets 7 = .ok (.aload_n 0, 1) := by decide +kernel
theorem dX7_lets_8 : decode cX7_lets 8 = .ok (.iload_n 1, 1) := by decide +kernel
theorem dX7_lets_9 : decode cX7_lets 9 = .ok (.invokevirtual 74, 3) := by decide +kernel
theorem dX7_lets_12 : decode cX7_lets 12 = .ok (.tableswitch 87 1 5 #[36, 40, 48, 59, 78], 36) := by decide +kernel
theorem dX7_lets_48 : decode cX7_lets 48 = .ok (.iload_n 3, 1) := by decide +kernel
theorem dX7_lets_49 : decode cX7_lets 49 = .ok (.iload_n 3, 1) := by decide +kernel
theorem dX7_lets_50 : decode cX7_lets 50 = .ok (.imul, 1) := by decide +kernel
theorem dX7_lets_51 : decode cX7_lets 51 = .ok (.ireturn, 1) := by decide +kernel
theorem dX7_lets_52 : decode cX7_lets 52 = .ok (.iload_n 3, 1) := by decide +kernel
theorem dX7_lets_53 : decode cX7_lets 53 = .ok (.aload_n 0, 1) := by decide +kernel
theorem dX7_lets_54 : decode cX7_lets 54 = .ok (.iload_n 1, 1) := by decide +kernel
theorem dX7_lets_55 : decode cX7_lets 55 = .ok (.invokevirtual 78, 3) := by decide +kernel
theorem dX7_lets_58 : decode cX7_lets 58 = .ok (.imul, 1) := by decide +kernel
theorem dX7_lets_59 : decode cX7_lets 59 = .ok (.ireturn, 1) := by decide +kernel
theorem dX7_lets_60 : decode cX7_lets 60 = .ok (.bipush 100, 2) := by decide +kernel
theorem dX7_lets_62 : decode cX7_lets 62 = .ok (.iload_n 3, 1) := by decide +kernel
theorem dX7_lets_63 : decode cX7_lets 63 = .ok (.aload_n 0, 1) := by decide +kernel
theorem dX7_lets_64 : decode cX7_lets 64 = .ok (.iload_n 1, 1) := by decide +kernel
theorem dX7_lets_65 : decode cX7_lets 65 = .ok (.invokevirtual 78, 3) := by decide +kernel
theorem dX7_lets_68 : decode cX7_lets 68 = .ok (.imul, 1) := by decide +kernel
theorem dX7_lets_69 : decode cX7_lets 69 = .ok (.isub, 1) := by decide +kernel
theorem dX7_lets_70 : decode cX7_lets 70 = .ok (.ireturn, 1) := by decide +kernel
theorem dX7_lets_71 : decode cX7_lets 71 = .ok (.aload_n 0, 1) := by decide +kernel
theorem dX7_lets_72 : decode cX7_lets 72 = .ok (.iload_n 1, 1) := by decide +kernel
theorem dX7_lets_73 : decode cX7_lets 73 = .ok (.invokevirtual 78, 3) := by decide +kernel
theorem dX7_lets_76 : decode cX7_lets 76 = .ok (.iconst 5, 1) := by decide +kernel
theorem dX7_lets_77 : decode cX7_lets 77 = .ok (.irem, 1) := by decide +kernel
theorem dX7_lets_78 : decode cX7_lets 78 = .ok (.iload_n 2, 1) := by decide +kernel
theorem dX7_lets_79 : decode cX7_lets 79 = .ok (.if_icmp .ne 7, 3) := by decide +kernel
theorem dX7_lets_82 : decode cX7_lets 82 = .ok (.iconst 0, 1) := by decide +kernel
theorem dX7_lets_83 : decode cX7_lets 83 = .ok (.goto 6, 3) := by decide +kernel
theorem dX7_lets_86 : decode cX7_lets 86 = .ok (.iload_n 3, 1) := by decide +kernel
theorem dX7_lets_87 : decode cX7_lets 87 = .ok (.iload_n 3, 1) := by decide +kernel
theorem dX7_lets_88 : decode cX7_lets 88 = .ok (.imul, 1) := by decide +kernel
theorem dX7_lets_89 : decode cX7_lets 89 = .ok (.ireturn, 1) := by decide +kernel
theorem dX7_lets_90 : decode cX7_lets 90 = .ok (.bipush 10, 2) := by decide +kernel
theorem dX7_lets_92 : decode cX7_lets 92 = .ok (.aload_n 0, 1) := by decide +kernel
theorem dX7_lets_93 : decode cX7_lets 93 = .ok (.iload_n 1, 1) := by decide +kernel
theorem dX7_lets_94 : decode cX7_lets 94 = .ok (.invokevirtual 81, 3) := by decide +kernel
theorem dX7_lets_97 : decode cX7_lets 97 = .ok (.imul, 1) := by decide +kernel
theorem dX7_lets_98 : decode cX7_lets 98 = .ok (.ireturn, 1) := by decide +kernel
theorem dX7_lets_99 : decode cX7_lets 99 = .ok (.bipush 10, 2) := by decide +kernel
theorem dX7_lets_101 : decode cX7_lets 101 = .ok (.iload_n 3, 1) := by decide +kernel
theorem dX7_lets_102 : decode cX7_lets 102 = .ok (.imul, 1) := by decide +kernel
theorem dX7_lets_103 : decode cX7_lets 103 = .ok (.ireturn, 1) := by decide +kernel
theorem dX7_begins_0 : decode cX7_begins 0 = .ok (.aload_n 0, 1) := by decide +kernel
theorem dX7_begins_1 : decode cX7_begins 1 = .ok (.lconst 1, 1) := by decide +kernel
theorem dX7_begins_2 : decode cX7_begins 2 = .ok (.putfield 84, 3) := by decide +kernel
theorem dX7_begins_5 : decode cX7_begins 5 = .ok (.iconst 0, 1) := by decide +kernel
theorem dX7_begins_6 : decode cX7_begins 6 = .ok (.istore_n 1, 1) := by decide +kernel
theorem dX7_begins_7 : decode cX7_begins 7 = .ok (.iload_n 1, 1) := by decide +kernel
theorem dX7_begins_8 : decode cX7_begins 8 = .ok (.iconst 5, 1) := by decide +kernel
theorem dX7_begins_9 : decode cX7_begins 9 = .ok (.if_icmp .ge 16, 3) := by decide +kernel
theorem dX7_begins_12 : decode cX7_begins 12 = .ok (.aload_n 0, 1) := by decide +kernel
theorem dX7_begins_13 : decode cX7_begins 13 = .ok (.getfield 18, 3) := by decide +kernel
theorem dX7_begins_16 : decode cX7_begins 16 = .ok (.iload_n 1, 1) := by decide +kernel
theorem dX7_begins_17 : decode cX7_begins 17 = .ok (.lconst 1, 1) := by decide +kernel
theorem dX7_begins_18 : decode cX7_begins 18 = .ok (.lastore, 1) := by decide +kernel
theorem dX7_begins_19 : decode cX7_begins 19 = .ok (.iinc 1 1, 3) := by decide +kernel
theorem dX7_begins_22 : decode cX7_begins 22 = .ok (.goto (-15), 3) := by decide +kernel
theorem dX7_begins_25 : decode cX7_begins 25 = .ok (.return_, 1) := by decide +kernel
set_option maxRecDepth 20000 in
theorem ggX7_lays_X7_lets : GoodIn wsX7_lays wsX7_lets := goodIn_r _ [8, 9, 10, 11, 7, 12, 13, 14, 15, 16, 17, 18, 19, 20, 21, 22, 23, 24, 25, 26, 27, 28, 29, 30, 31, 32, 33, 34, 35, 36, 37, 38, 39, 40, 41, 42, 43, 44, 45, 46, 47, 48, 49, 50, 51] (by decide +kernel) (by decide +kernel)
set_option maxRecDepth 20000 in
theorem gX7_lays_X7_lets : GoodIn wsX7_lays (wsV RX7 90 RX7 yX7_lets wsX7_lets) := goodIn_app (goodIn_of _ (by decide +kernel)) ggX7_lays_X7_lets
theorem dX7_lays_0 : decode cX7_lays 0 = .ok (.aload_n 0, 1) := by decide +kernel
theorem dX7_lays_1 : decode cX7_lays 1 = .ok (.dup, 1) := by decide +kernel
theorem dX7_lays_2 : decode cX7_lays 2 = .ok (.getfield 84, 3) := by decide +kernel
theorem dX7_lays_5 : decode cX7_lays 5 = .ok (.ldc2_w 88, 3) := by decide +kernel
theorem dX7_lays_8 : decode cX7_lays 8 = .ok (.lmul, 1) := by decide +kernel
theorem dX7_lays_9 : decode cX7_lays 9 = .ok (.putfield 84, 3) := by decide +kernel
theorem dX7_lays_12 : decode cX7_lays 12 = .ok (.iconst 0, 1) := by decide +kernel
theorem dX7_lays_13 : decode cX7_lays 13 = .ok (.istore_n 2, 1) := by decide +kernel
theorem dX7_lays_14 : decode cX7_lays 14 = .ok (.iload_n 2, 1) := by decide +kernel
theorem dX7_lays_15 : decode cX7_lays 15 = .ok (.iconst 5, 1) := by decide +kernel
theorem dX7_lays_16 : decode cX7_lays 16 = .ok (.if_icmp .ge 25, 3) := by decide +kernel
theorem dX7_lays_19 : decode cX7_lays 19 = .ok (.aload_n 0, 1) := by decide +kernel
theorem dX7_lays_20 : decode cX7_lays 20 = .ok (.getfield 18, 3) := by decide +kernel
theorem dX7_lays_23 : decode cX7_lays 23 = .ok (.iload_n 2, 1) := by decide +kernel
theorem dX7_lays_24 : decode cX7_lays 24 = .ok (.dup2, 1) := by decide +kernel
theorem dX7_lays_25 : decode cX7_lays 25 = .ok (.laload, 1) := by decide +kernel
theorem dX7_lays_26 : decode cX7_lays 26 = .ok (.aload_n 0, 1) := by decide +kernel
theorem dX7_lays_27 : decode cX7_lays 27 = .ok (.iload_n 1, 1) := by decide +kernel
theorem dX7_lays_28 : decode cX7_lays 28 = .ok (.iload_n 2, 1) := by decide +kernel
theorem dX7_lays_29 : decode cX7_lays 29 = .ok (.invokevirtual 90, 3) := by decide +kernel
theorem dX7_lays_32 : decode cX7_lays 32 = .ok (.i2l, 1) := by decide +kernel
theorem dX7_lays_33 : decode cX7_lays 33 = .ok (.lmul, 1) := by decide +kernel
theorem dX7_lays_34 : decode cX7_lays 34 = .ok (.lastore, 1) := by decide +kernel
theorem dX7_lays_35 : decode cX7_lays 35 = .ok (.iinc 2 1, 3) := by decide +kernel
theorem dX7_lays_38 : decode cX7_lays 38 = .ok (.goto (-24), 3) := by decide +kernel
theorem dX7_lays_41 : decode cX7_lays 41 = .ok (.return_, 1) := by decide +kernel
set_option maxRecDepth 20000 in
theorem ggX7_shines_X7_begins : GoodIn wsX7_shines wsX7_begins := goodIn_r _ [5, 6, 7, 42, 43, 44, 45, 46, 47, 48, 49, 50, 51, 52, 53, 54, 55, 56, 57, 58, 59, 60, 61, 62, 63, 64, 65, 66, 67] (by decide +kernel) (by decide +kernel)
set_option maxRecDepth 20000 in
theorem gX7_shines_X7_begins : GoodIn wsX7_shines (wsV RX7 93 RX7 yX7_begins wsX7_begins) := goodIn_app (goodIn_of _ (by decide +kernel)) ggX7_shines_X7_begins
set_option maxRecDepth 20000 in
theorem ggX7_shines_X7_size : GoodIn wsX7_shines wsX7_size := goodIn_r _ [11, 12, 42, 43, 44, 45, 46, 47, 48, 49, 50, 51, 52, 53, 54, 55, 56, 57, 58, 59, 60, 61, 62, 63, 64, 65, 66, 67] (by decide +kernel) (by decide +kernel)
set_option maxRecDepth 20000 in
theorem gX7_shines_X7_size : GoodIn wsX7_shines (wsV RX7 96 RX7 yX7_size wsX7_size) := goodIn_app (goodIn_of _ (by decide +kernel)) ggX7_shines_X7_size
set_option maxRecDepth 20000 in
theorem ggX7_shines_X7_laid : GoodIn wsX7_shines wsX7_laid := goodIn_r _ [16, 12, 42, 43, 44, 45, 46, 47, 48, 49, 50, 51, 52, 53, 54, 55, 56, 57, 58, 59, 60, 61, 62, 63, 64, 65, 66, 67] (by decide +kernel) (by decide +kernel)
set_option maxRecDepth 20000 in
theorem gX7_shines_X7_laid : GoodIn wsX7_shines (wsV RX7 99 RX7 yX7_laid wsX7_laid) := goodIn_app (goodIn_of _ (by decide +kernel)) ggX7_shines_X7_laid
set_option maxRecDepth 20000 in
theorem ggX7_shines_X7_lays : GoodIn wsX7_shines wsX7_lays := goodIn_r _ [20, 6, 21, 7, 22, 23, 24, 4, 25, 26, 27, 28, 29, 12, 30, 31, 32, 33, 34, 35, 36, 37, 38, 39, 40, 41, 42, 43, 44, 45, 46, 47, 48, 49, 50, 51, 52, 53, 54, 55, 56, 57, 58, 59, 60, 61, 62, 63, 64, 65, 66, 67] (by decide +kernel) (by decide +kernel)
set_option maxRecDepth 20000 in
theorem gX7_shines_X7_lays : GoodIn wsX7_shines (wsV RX7 102 RX7 yX7_lays wsX7_lays) := goodIn_app (goodIn_of _ (by decide +kernel)) ggX7_shines_X7_lays
theorem dX7_shines_0 : decode cX7_shines 0 = .ok (.aload_n 0, 1) := by decide +kernel
theorem dX7_shines_1 : decode cX7_shines 1 = .ok (.invokevirtual 93, 3) := by decide +kernel
theorem dX7_shines_4 : decode cX7_shines 4 = .ok (.iconst 0, 1) := by decide +kernel
theorem dX7_shines_5 : decode cX7_shines 5 = .ok (.istore_n 2, 1) := by decide +kernel
theorem dX7_shines_6 : decode cX7_shines 6 = .ok (.iload_n 2, 1) := by decide +kernel
theorem dX7_shines_7 : decode cX7_shines 7 = .ok (.aload_n 0, 1) := by decide +kernel
theorem dX7_shines_8 : decode cX7_shines 8 = .ok (.iload_n 1, 1) := by decide +kernel
theorem dX7_shines_9 : decode cX7_shines 9 = .ok (.invokevirtual 96, 3) := by decide +kernel
theorem dX7_shines_12 : decode cX7_shines 12 = .ok (.if_icmp .ge 19, 3) := by decide +kernel
theorem dX7_shines_15 : decode cX7_shines 15 = .ok (.aload_n 0, 1) := by decide +kernel
theorem dX7_shines_16 : decode cX7_shines 16 = .ok (.aload_n 0, 1) := by decide +kernel
theorem dX7_shines_17 : decode cX7_shines 17 = .ok (.iload_n 1, 1) := by decide +kernel
theorem dX7_shines_18 : decode cX7_shines 18 = .ok (.iload_n 2, 1) := by decide +kernel
theorem dX7_shines_19 : decode cX7_shines 19 = .ok (.invokevirtual 99, 3) := by decide +kernel
theorem dX7_shines_22 : decode cX7_shines 22 = .ok (.invokevirtual 102, 3) := by decide +kernel
theorem dX7_shines_25 : decode cX7_shines 25 = .ok (.iinc 2 1, 3) := by decide +kernel
theorem dX7_shines_28 : decode cX7_shines 28 = .ok (.goto (-22), 3) := by decide +kernel
theorem dX7_shines_31 : decode cX7_shines 31 = .ok (.return_, 1) := by decide +kernel
theorem dX7_seen_0 : decode cX7_seen 0 = .ok (.lconst 0, 1) := by decide +kernel
theorem dX7_seen_1 : decode cX7_seen 1 = .ok (.lstore 4, 2) := by decide +kernel
theorem dX7_seen_3 : decode cX7_seen 3 = .ok (.iconst 0, 1) := by decide +kernel
theorem dX7_seen_4 : decode cX7_seen 4 = .ok (.istore 6, 2) := by decide +kernel
theorem dX7_seen_6 : decode cX7_seen 6 = .ok (.iload 6, 2) := by decide +kernel
theorem dX7_seen_8 : decode cX7_seen 8 = .ok (.iconst 5, 1) := by decide +kernel
theorem dX7_seen_9 : decode cX7_seen 9 = .ok (.if_icmp .ge 83, 3) := by decide +kernel
theorem dX7_seen_12 : decode cX7_seen 12 = .ok (.iload_n 2, 1) := by decide +kernel
theorem dX7_seen_13 : decode cX7_seen 13 = .ok (.ifCond .ne 7, 3) := by decide +kernel
theorem dX7_seen_16 : decode cX7_seen 16 = .ok (.lconst 1, 1) := by decide +kernel
theorem dX7_seen_17 : decode cX7_seen 17 = .ok (.goto 21, 3) := by decide +kernel
theorem dX7_seen_20 : decode cX7_seen 20 = .ok (.iload 6, 2) := by decide +kernel
theorem dX7_seen_22 : decode cX7_seen 22 = .ok (.iconst 2, 1) := by decide +kernel
theorem dX7_seen_23 : decode cX7_seen 23 = .ok (.if_icmp .ge 12, 3) := by decide +kernel
theorem dX7_seen_26 : decode cX7_seen 26 = .ok (.ldc2_w 106, 3) := by decide +kernel
theorem dX7_seen_29 : decode cX7_seen 29 = .ok (.iload_n 2, 1) := by decide +kernel
theorem dX7_seen_30 : decode cX7_seen 30 = .ok (.i2l, 1) := by decide +kernel
theorem dX7_seen_31 : decode cX7_seen 31 = .ok (.lsub, 1) := by decide +kernel
theorem dX7_seen_32 : decode cX7_seen 32 = .ok (.goto 6, 3) := by decide +kernel
theorem dX7_seen_35 : decode cX7_seen 35 = .ok (.ldc2_w 106, 3) := by decide +kernel
theorem dX7_seen_38 : decode cX7_seen 38 = .ok (.lstore 7, 2) := by decide +kernel
theorem dX7_seen_40 : decode cX7_seen 40 = .ok (.lload 4, 2) := by decide +kernel
theorem dX7_seen_42 : decode cX7_seen 42 = .ok (.aload_n 0, 1) := by decide +kernel
theorem dX7_seen_43 : decode cX7_seen 43 = .ok (.getfield 9, 3) := by decide +kernel
theorem dX7_seen_46 : decode cX7_seen 46 = .ok (.bipush 100, 2) := by decide +kernel
theorem dX7_seen_48 : decode cX7_seen 48 = .ok (.iconst 5, 1) := by decide +kernel
theorem dX7_seen_49 : decode cX7_seen 49 = .ok (.iload_n 1, 1) := by decide +kernel
theorem dX7_seen_50 : decode cX7_seen 50 = .ok (.imul, 1) := by decide +kernel
theorem dX7_seen_51 : decode cX7_seen 51 = .ok (.iadd, 1) := by decide +kernel
theorem dX7_seen_52 : decode cX7_seen 52 = .ok (.iload 6, 2) := by decide +kernel
theorem dX7_seen_54 : decode cX7_seen 54 = .ok (.iadd, 1) := by decide +kernel
theorem dX7_seen_55 : decode cX7_seen 55 = .ok (.iaload, 1) := by decide +kernel
theorem dX7_seen_56 : decode cX7_seen 56 = .ok (.aload_n 0, 1) := by decide +kernel
theorem dX7_seen_57 : decode cX7_seen 57 = .ok (.getfield 9, 3) := by decide +kernel
theorem dX7_seen_60 : decode cX7_seen 60 = .ok (.bipush 115, 2) := by decide +kernel
theorem dX7_seen_62 : decode cX7_seen 62 = .ok (.iconst 5, 1) := by decide +kernel
theorem dX7_seen_63 : decode cX7_seen 63 = .ok (.iload_n 3, 1) := by decide +kernel
theorem dX7_seen_64 : decode cX7_seen 64 = .ok (.imul, 1) := by decide +kernel
theorem dX7_seen_65 : decode cX7_seen 65 = .ok (.iadd, 1) := by decide +kernel
theorem dX7_seen_66 : decode cX7_seen 66 = .ok (.iload 6, 2) := by decide +kernel
theorem dX7_seen_68 : decode cX7_seen 68 = .ok (.iadd, 1) := by decide +kernel
theorem dX7_seen_69 : decode cX7_seen 69 = .ok (.iaload, 1) := by decide +kernel
theorem dX7_seen_70 : decode cX7_seen 70 = .ok (.imul, 1) := by decide +kernel
theorem dX7_seen_71 : decode cX7_seen 71 = .ok (.i2l, 1) := by decide +kernel
theorem dX7_seen_72 : decode cX7_seen 72 = .ok (.lload 7, 2) := by decide +kernel
theorem dX7_seen_74 : decode cX7_seen 74 = .ok (.lmul, 1) := by decide +kernel
theorem dX7_seen_75 : decode cX7_seen 75 = .ok (.aload_n 0, 1) := by decide +kernel
theorem dX7_seen_76 : decode cX7_seen 76 = .ok (.getfield 18, 3) := by decide +kernel
theorem dX7_seen_79 : decode cX7_seen 79 = .ok (.iload 6, 2) := by decide +kernel
theorem dX7_seen_81 : decode cX7_seen 81 = .ok (.laload, 1) := by decide +kernel
theorem dX7_seen_82 : decode cX7_seen 82 = .ok (.lmul, 1) := by decide +kernel
theorem dX7_seen_83 : decode cX7_seen 83 = .ok (.ladd, 1) := by decide +kernel
theorem dX7_seen_84 : decode cX7_seen 84 = .ok (.lstore 4, 2) := by decide +kernel
theorem dX7_seen_86 : decode cX7_seen 86 = .ok (.iinc 6 1, 3) := by decide +kernel
theorem dX7_seen_89 : decode cX7_seen 89 = .ok (.goto (-83), 3) := by decide +kernel
theorem dX7_seen_92 : decode cX7_seen 92 = .ok (.lload 4, 2) := by decide +kernel
theorem dX7_seen_94 : decode cX7_seen 94 = .ok (.lreturn, 1) := by decide +kernel
set_option maxRecDepth 20000 in
theorem ggX7_shadeOf_X7_seen : GoodIn wsX7_shadeOf wsX7_seen := goodIn_r _ [7, 2, 8, 9, 10, 11, 12, 13, 14, 15, 16, 17, 18, 19, 20, 21, 22, 23, 24, 25, 26, 27, 28, 29, 30, 31, 32, 33, 34, 35] (by decide +kernel) (by decide +kernel)
set_option maxRecDepth 20000 in
theorem gX7_shadeOf_X7_seen : GoodIn wsX7_shadeOf (wsV RX7 108 RX7 yX7_seen wsX7_seen) := goodIn_app (goodIn_of _ (by decide +kernel)) ggX7_shadeOf_X7_seen
theorem dX7_shadeOf_0 : decode cX7_shadeOf 0 = .ok (.aload_n 0, 1) := by decide +kernel
theorem dX7_shadeOf_1 : decode cX7_shadeOf 1 = .ok (.iload_n 1, 1) := by decide +kernel
theorem dX7_shadeOf_2 : decode cX7_shadeOf 2 = .ok (.iload_n 2, 1) := by decide +kernel
theorem dX7_shadeOf_3 : decode cX7_shadeOf 3 = .ok (.iload_n 3, 1) := by decide +kernel
theorem dX7_shadeOf_4 : decode cX7_shadeOf 4 = .ok (.invokevirtual 108, 3) := by decide +kernel
theorem dX7_shadeOf_7 : decode cX7_shadeOf 7 = .ok (.iload_n 2, 1) := by decide +kernel
theorem dX7_shadeOf_8 : decode cX7_shadeOf 8 = .ok (.ifCond .ne 10, 3) := by decide +kernel
theorem dX7_shadeOf_11 : decode cX7_shadeOf 11 = .ok (.aload_n 0, 1) := by decide +kernel
theorem dX7_shadeOf_12 : decode cX7_shadeOf 12 = .ok (.getfield 84, 3) := by decide +kernel
theorem dX7_shadeOf_15 : decode cX7_shadeOf 15 = .ok (.goto 11, 3) := by decide +kernel
theorem dX7_shadeOf_18 : decode cX7_shadeOf 18 = .ok (.ldc2_w 106, 3) := by decide +kernel
theorem dX7_shadeOf_21 : decode cX7_shadeOf 21 = .ok (.aload_n 0, 1) := by decide +kernel
theorem dX7_shadeOf_22 : decode cX7_shadeOf 22 = .ok (.getfield 84, 3) := by decide +kernel
theorem dX7_shadeOf_25 : decode cX7_shadeOf 25 = .ok (.lmul, 1) := by decide +kernel
theorem dX7_shadeOf_26 : decode cX7_shadeOf 26 = .ok (.ldiv, 1) := by decide +kernel
theorem dX7_shadeOf_27 : decode cX7_shadeOf 27 = .ok (.l2i, 1) := by decide +kernel
theorem dX7_shadeOf_28 : decode cX7_shadeOf 28 = .ok (.ireturn, 1) := by decide +kernel
set_option maxRecDepth 20000 in
theorem ggX7_findShades_X7_shadeOf : GoodIn wsX7_findShades wsX7_shadeOf := goodIn_r _ [6, 7, 8, 9, 10, 11, 5, 12, 13, 14, 15, 16, 17, 18, 19, 20, 21, 22, 23, 24, 25, 26, 27, 28, 29, 30, 31, 32, 33, 34, 35, 36, 37, 38, 39, 40] (by decide +kernel) (by decide +kernel)
set_option maxRecDepth 20000 in
theorem gX7_findShades_X7_shadeOf : GoodIn wsX7_findShades (wsV RX7 112 RX7 yX7_shadeOf wsX7_shadeOf) := goodIn_app (goodIn_of _ (by decide +kernel)) ggX7_findShades_X7_shadeOf
theorem dX7_findShades_0 : decode cX7_findShades 0 = .ok (.iconst 0, 1) := by decide +kernel
theorem dX7_findShades_1 : decode cX7_findShades 1 = .ok (.istore_n 2, 1) := by decide +kernel
theorem dX7_findShades_2 : decode cX7_findShades 2 = .ok (.iload_n 2, 1) := by decide +kernel
theorem dX7_findShades_3 : decode cX7_findShades 3 = .ok (.iconst 3, 1) := by decide +kernel
theorem dX7_findShades_4 : decode cX7_findShades 4 = .ok (.if_icmp .ge 22, 3) := by decide +kernel
theorem dX7_findShades_7 : decode cX7_findShades 7 = .ok (.aload_n 0, 1) := by decide +kernel
theorem dX7_findShades_8 : decode cX7_findShades 8 = .ok (.getfield 22, 3) := by decide +kernel
theorem dX7_findShades_11 : decode cX7_findShades 11 = .ok (.iload_n 2, 1) := by decide +kernel
theorem dX7_findShades_12 : decode cX7_findShades 12 = .ok (.aload_n 0, 1) := by decide +kernel
theorem dX7_findShades_13 : decode cX7_findShades 13 = .ok (.iload_n 1, 1) := by decide +kernel
theorem dX7_findShades_14 : decode cX7_findShades 14 = .ok (.iconst 0, 1) := by decide +kernel
theorem dX7_findShades_15 : decode cX7_findShades 15 = .ok (.iload_n 2, 1) := by decide +kernel
theorem dX7_findShades_16 : decode cX7_findShades 16 = .ok (.invokevirtual 112, 3) := by decide +kernel
theorem dX7_findShades_19 : decode cX7_findShades 19 = .ok (.iastore, 1) := by decide +kernel
theorem dX7_findShades_20 : decode cX7_findShades 20 = .ok (.iinc 2 1, 3) := by decide +kernel
theorem dX7_findShades_23 : decode cX7_findShades 23 = .ok (.goto (-21), 3) := by decide +kernel
theorem dX7_findShades_26 : decode cX7_findShades 26 = .ok (.return_, 1) := by decide +kernel
theorem dX7_keepShades_0 : decode cX7_keepShades 0 = .ok (.iconst 0, 1) := by decide +kernel
theorem dX7_keepShades_1 : decode cX7_keepShades 1 = .ok (.istore_n 1, 1) := by decide +kernel
theorem dX7_keepShades_2 : decode cX7_keepShades 2 = .ok (.iload_n 1, 1) := by decide +kernel
theorem dX7_keepShades_3 : decode cX7_keepShades 3 = .ok (.iconst 3, 1) := by decide +kernel
theorem dX7_keepShades_4 : decode cX7_keepShades 4 = .ok (.if_icmp .ge 21, 3) := by decide +kernel
theorem dX7_keepShades_7 : decode cX7_keepShades 7 = .ok (.aload_n 0, 1) := by decide +kernel
theorem dX7_keepShades_8 : decode cX7_keepShades 8 = .ok (.getfield 25, 3) := by decide +kernel
theorem dX7_keepShades_11 : decode cX7_keepShades 11 = .ok (.iload_n 1, 1) := by decide +kernel
theorem dX7_keepShades_12 : decode cX7_keepShades 12 = .ok (.aload_n 0, 1) := by decide +kernel
theorem dX7_keepShades_13 : decode cX7_keepShades 13 = .ok (.getfield 22, 3) := by decide +kernel
theorem dX7_keepShades_16 : decode cX7_keepShades 16 = .ok (.iload_n 1, 1) := by decide +kernel
theorem dX7_keepShades_17 : decode cX7_keepShades 17 = .ok (.iaload, 1) := by decide +kernel
theorem dX7_keepShades_18 : decode cX7_keepShades 18 = .ok (.iastore, 1) := by decide +kernel
theorem dX7_keepShades_19 : decode cX7_keepShades 19 = .ok (.iinc 1 1, 3) := by decide +kernel
theorem dX7_keepShades_22 : decode cX7_keepShades 22 = .ok (.goto (-20), 3) := by decide +kernel
theorem dX7_keepShades_25 : decode cX7_keepShades 25 = .ok (.return_, 1) := by decide +kernel
theorem dX7_apartFrom_0 : decode cX7_apartFrom 0 = .ok (.iload_n 1, 1) := by decide +kernel
theorem dX7_apartFrom_1 : decode cX7_apartFrom 1 = .ok (.iload_n 2, 1) := by decide +kernel
theorem dX7_apartFrom_2 : decode cX7_apartFrom 2 = .ok (.if_icmp .le 9, 3) := by decide +kernel
theorem dX7_apartFrom_5 : decode cX7_apartFrom 5 = .ok (.iload_n 1, 1) := by decide +kernel
theorem dX7_apartFrom_6 : decode cX7_apartFrom 6 = .ok (.iload_n 2, 1) := by decide +kernel
theorem dX7_apartFrom_7 : decode cX7_apartFrom 7 = .ok (.isub, 1) := by decide +kernel
theorem dX7_apartFrom_8 : decode cX7_apartFrom 8 = .ok (.goto 6, 3) := by decide +kernel
theorem dX7_apartFrom_11 : decode cX7_apartFrom 11 = .ok (.iload_n 2, 1) := by decide +kernel
theorem dX7_apartFrom_12 : decode cX7_apartFrom 12 = .ok (.iload_n 1, 1) := by decide +kernel
theorem dX7_apartFrom_13 : decode cX7_apartFrom 13 = .ok (.isub, 1) := by decide +kernel
theorem dX7_apartFrom_14 : decode cX7_apartFrom 14 = .ok (.ireturn, 1) := by decide +kernel
set_option maxRecDepth 20000 in
theorem ggX7_feed_X7_isIn : GoodIn wsX7_feed wsX7_isIn := goodIn_r _ [7] (by decide +kernel) (by decide +kernel)
set_option maxRecDepth 20000 in
theorem gX7_feed_X7_isIn : GoodIn wsX7_feed (va_wsS RX7 62 yX7_isIn wsX7_isIn) := goodIn_app (goodIn_of _ (by decide +kernel)) ggX7_feed_X7_isIn
theorem dX7_feed_0 : decode cX7_feed 0 = .ok (.iload_n 1, 1) := by decide +kernel
theorem dX7_feed_1 : decode cX7_feed 1 = .ok (.i2l, 1) := by decide +kernel
theorem dX7_feed_2 : decode cX7_feed 2 = .ok (.lconst 1, 1) := by decide +kernel
theorem dX7_feed_3 : decode cX7_feed 3 = .ok (.ldc2_w 116, 3) := by decide +kernel
theorem dX7_feed_6 : decode cX7_feed 6 = .ok (.invokestatic 62, 3) := by decide +kernel
theorem dX7_feed_9 : decode cX7_feed 9 = .ok (.ifCond .ne 6, 3) := by decide +kernel
theorem dX7_feed_12 : decode cX7_feed 12 = .ok (.bipush (-2), 2) := by decide +kernel
theorem dX7_feed_14 : decode cX7_feed 14 = .ok (.ireturn, 1) := by decide +kernel
theorem dX7_feed_15 : decode cX7_feed 15 = .ok (.aload_n 0, 1) := by decide +kernel
theorem dX7_feed_16 : decode cX7_feed 16 = .ok (.getfield 118, 3) := by decide +kernel
theorem dX7_feed_19 : decode cX7_feed 19 = .ok (.bipush 80, 2) := by decide +kernel
theorem dX7_feed_21 : decode cX7_feed 21 = .ok (.if_icmp .ne 6, 3) := by decide +kernel
theorem dX7_feed_24 : decode cX7_feed 24 = .ok (.bipush (-4), 2) := by decide +kernel
theorem dX7_feed_26 : decode cX7_feed 26 = .ok (.ireturn, 1) := by decide +kernel
theorem dX7_feed_27 : decode cX7_feed 27 = .ok (.aload_n 0, 1) := by decide +kernel
theorem dX7_feed_28 : decode cX7_feed 28 = .ok (.getfield 28, 3) := by decide +kernel
theorem dX7_feed_31 : decode cX7_feed 31 = .ok (.aload_n 0, 1) := by decide +kernel
theorem dX7_feed_32 : decode cX7_feed 32 = .ok (.getfield 118, 3) := by decide +kernel
theorem dX7_feed_35 : decode cX7_feed 35 = .ok (.iload_n 1, 1) := by decide +kernel
theorem dX7_feed_36 : decode cX7_feed 36 = .ok (.iastore, 1) := by decide +kernel
theorem dX7_feed_37 : decode cX7_feed 37 = .ok (.aload_n 0, 1) := by decide +kernel
theorem dX7_feed_38 : decode cX7_feed 38 = .ok (.dup, 1) := by decide +kernel
theorem dX7_feed_39 : decode cX7_feed 39 = .ok (.getfield 118, 3) := by decide +kernel
theorem dX7_feed_42 : decode cX7_feed 42 = .ok (.iconst 1, 1) := by decide +kernel
theorem dX7_feed_43 : decode cX7_feed 43 = .ok (.iadd, 1) := by decide +kernel
theorem dX7_feed_44 : decode cX7_feed 44 = .ok (.putfield 118, 3) := by decide +kernel
theorem dX7_feed_47 : decode cX7_feed 47 = .ok (.aload_n 0, 1) := by decide +kernel
theorem dX7_feed_48 : decode cX7_feed 48 = .ok (.getfield 118, 3) := by decide +kernel
theorem dX7_feed_51 : decode cX7_feed 51 = .ok (.ireturn, 1) := by decide +kernel
set_option maxRecDepth 20000 in
theorem ggX7_isAt_X7_isIn : GoodIn wsX7_isAt wsX7_isIn := goodIn_r _ [7] (by decide +kernel) (by decide +kernel)
set_option maxRecDepth 20000 in
theorem gX7_isAt_X7_isIn : GoodIn wsX7_isAt (va_wsS RX7 62 yX7_isIn wsX7_isIn) := goodIn_app (goodIn_of _ (by decide +kernel)) ggX7_isAt_X7_isIn
theorem dX7_isAt_0 : decode cX7_isAt 0 = .ok (.aload_n 0, 1) := by decide +kernel
theorem dX7_isAt_1 : decode cX7_isAt 1 = .ok (.getfield 122, 3) := by decide +kernel
theorem dX7_isAt_4 : decode cX7_isAt 4 = .ok (.aload_n 0, 1) := by decide +kernel
theorem dX7_isAt_5 : decode cX7_isAt 5 = .ok (.getfield 118, 3) := by decide +kernel
theorem dX7_isAt_8 : decode cX7_isAt 8 = .ok (.if_icmp .ge 27, 3) := by decide +kernel
theorem dX7_isAt_11 : decode cX7_isAt 11 = .ok (.aload_n 0, 1) := by decide +kernel
theorem dX7_isAt_12 : decode cX7_isAt 12 = .ok (.getfield 28, 3) := by decide +kernel
theorem dX7_isAt_15 : decode cX7_isAt 15 = .ok (.aload_n 0, 1) := by decide +kernel
theorem dX7_isAt_16 : decode cX7_isAt 16 = .ok (.getfield 122, 3) := by decide +kernel
theorem dX7_isAt_19 : decode cX7_isAt 19 = .ok (.iaload, 1) := by decide +kernel
theorem dX7_isAt_20 : decode cX7_isAt 20 = .ok (.i2l, 1) := by decide +kernel
theorem dX7_isAt_21 : decode cX7_isAt 21 = .ok (.iload_n 1, 1) := by decide +kernel
theorem dX7_isAt_22 : decode cX7_isAt 22 = .ok (.i2l, 1) := by decide +kernel
theorem dX7_isAt_23 : decode cX7_isAt 23 = .ok (.iload_n 2, 1) := by decide +kernel
theorem dX7_isAt_24 : decode cX7_isAt 24 = .ok (.i2l, 1) := by decide +kernel
theorem dX7_isAt_25 : decode cX7_isAt 25 = .ok (.invokestatic 62, 3) := by decide +kernel
theorem dX7_isAt_28 : decode cX7_isAt 28 = .ok (.ifCond .eq 7, 3) := by decide +kernel
theorem dX7_isAt_31 : decode cX7_isAt 31 = .ok (.iconst 1, 1) := by decide +kernel
theorem dX7_isAt_32 : decode cX7_isAt 32 = .ok (.goto 4, 3) := by decide +kernel
theorem dX7_isAt_35 : decode cX7_isAt 35 = .ok (.iconst 0, 1) := by decide +kernel
theorem dX7_isAt_36 : decode cX7_isAt 36 = .ok (.ireturn, 1) := by decide +kernel
set_option maxRecDepth 20000 in
theorem ggX7_takes_X7_isAt : GoodIn wsX7_takes wsX7_isAt := goodIn_r _ [6, 1, 7, 8, 9, 10, 5, 11, 12, 13, 14, 15, 16, 17, 18, 19, 20, 21, 22, 23, 24, 25, 26, 27, 28, 29, 30, 31, 32, 33, 34, 35, 36, 37] (by decide +kernel) (by decide +kernel)
set_option maxRecDepth 20000 in
theorem gX7_takes_X7_isAt : GoodIn wsX7_takes (wsV RX7 125 RX7 yX7_isAt wsX7_isAt) := goodIn_app (goodIn_of _ (by decide +kernel)) ggX7_takes_X7_isAt
theorem dX7_takes_0 : decode cX7_takes 0 = .ok (.aload_n 0, 1) := by decide +kernel
theorem dX7_takes_1 : decode cX7_takes 1 = .ok (.iload_n 1, 1) := by decide +kernel
theorem dX7_takes_2 : decode cX7_takes 2 = .ok (.iload_n 1, 1) := by decide +kernel
theorem dX7_takes_3 : decode cX7_takes 3 = .ok (.invokevirtual 125, 3) := by decide +kernel
theorem dX7_takes_6 : decode cX7_takes 6 = .ok (.ifCond .ne 5, 3) := by decide +kernel
theorem dX7_takes_9 : decode cX7_takes 9 = .ok (.iconst 0, 1) := by decide +kernel
theorem dX7_takes_10 : decode cX7_takes 10 = .ok (.ireturn, 1) := by decide +kernel
theorem dX7_takes_11 : decode cX7_takes 11 = .ok (.aload_n 0, 1) := by decide +kernel
theorem dX7_takes_12 : decode cX7_takes 12 = .ok (.dup, 1) := by decide +kernel
theorem dX7_takes_13 : decode cX7_takes 13 = .ok (.getfield 122, 3) := by decide +kernel
theorem dX7_takes_16 : decode cX7_takes 16 = .ok (.iconst 1, 1) := by decide +kernel
theorem dX7_takes_17 : decode cX7_takes 17 = .ok (.iadd, 1) := by decide +kernel
theorem dX7_takes_18 : decode cX7_takes 18 = .ok (.putfield 122, 3) := by decide +kernel
theorem dX7_takes_21 : decode cX7_takes 21 = .ok (.iconst 1, 1) := by decide +kernel
theorem dX7_takes_22 : decode cX7_takes 22 = .ok (.ireturn, 1) := by decide +kernel
set_option maxRecDepth 20000 in
theorem ggX7_word_X7_isAt : GoodIn wsX7_word wsX7_isAt := goodIn_r _ [10, 1, 11, 3, 12, 13, 9, 14, 15, 16, 17, 18, 19, 20, 21, 22, 23, 24, 25, 26, 27, 28, 29, 30, 31, 32, 33, 34, 35, 36, 37, 38, 39, 40] (by decide +kernel) (by decide +kernel)
set_option maxRecDepth 20000 in
theorem gX7_word_X7_isAt : GoodIn wsX7_word (wsV RX7 125 RX7 yX7_isAt wsX7_isAt) := goodIn_app (goodIn_of _ (by decide +kernel)) ggX7_word_X7_isAt
theorem dX7_word_0 : decode cX7_word 0 = .ok (.aload_n 0, 1) := by decide +kernel
theorem dX7_word_1 : decode cX7_word 1 = .ok (.getfield 122, 3) := by decide +kernel
theorem dX7_word_4 : decode cX7_word 4 = .ok (.istore_n 1, 1) := by decide +kernel
theorem dX7_word_5 : decode cX7_word 5 = .ok (.aload_n 0, 1) := by decide +kernel
theorem dX7_word_6 : decode cX7_word 6 = .ok (.bipush 97, 2) := by decide +kernel
theorem dX7_word_8 : decode cX7_word 8 = .ok (.bipush 122, 2) := by decide +kernel
theorem dX7_word_10 : decode cX7_word 10 = .ok (.invokevirtual 125, 3) := by decide +kernel
theorem dX7_word_13 : decode cX7_word 13 = .ok (.ifCond .eq 16, 3) := by decide +kernel
theorem dX7_word_16 : decode cX7_word 16 = .ok (.aload_n 0, 1) := by decide +kernel
theorem dX7_word_17 : decode cX7_word 17 = .ok (.dup, 1) := by decide +kernel
theorem dX7_word_18 : decode cX7_word 18 = .ok (.getfield 122, 3) := by decide +kernel
theorem dX7_word_21 : decode cX7_word 21 = .ok (.iconst 1, 1) := by decide +kernel
theorem dX7_word_22 : decode cX7_word 22 = .ok (.iadd, 1) := by decide +kernel
theorem dX7_word_23 : decode cX7_word 23 = .ok (.putfield 122, 3) := by decide +kernel
theorem dX7_word_26 : decode cX7_word 26 = .ok (.goto (-21), 3) := by decide +kernel
theorem dX7_word_29 : decode cX7_word 29 = .ok (.iconst 0, 1) := by decide +kernel
theorem dX7_word_30 : decode cX7_word 30 = .ok (.istore_n 2, 1) := by decide +kernel
theorem dX7_word_31 : decode cX7_word 31 = .ok (.iload_n 2, 1) := by decide +kernel
theorem dX7_word_32 : decode cX7_word 32 = .ok (.bipush 6, 2) := by decide +kernel
theorem dX7_word_34 : decode cX7_word 34 = .ok (.if_icmp .ge 81, 3) := by decide +kernel
theorem dX7_word_37 : decode cX7_word 37 = .ok (.iconst 0, 1) := by decide +kernel
theorem dX7_word_38 : decode cX7_word 38 = .ok (.istore_n 3, 1) := by decide +kernel
theorem dX7_word_39 : decode cX7_word 39 = .ok (.iload_n 3, 1) := by decide +kernel
theorem dX7_word_40 : decode cX7_word 40 = .ok (.aload_n 0, 1) := by decide +kernel
theorem dX7_word_41 : decode cX7_word 41 = .ok (.getfield 41, 3) := by decide +kernel
theorem dX7_word_44 : decode cX7_word 44 = .ok (.iload_n 2, 1) := by decide +kernel
theorem dX7_word_45 : decode cX7_word 45 = .ok (.iaload, 1) := by decide +kernel
theorem dX7_word_46 : decode cX7_word 46 = .ok (.if_icmp .ge 46, 3) := by decide +kernel
theorem dX7_word_49 : decode cX7_word 49 = .ok (.aload_n 0, 1) := by decide +kernel
theorem dX7_word_50 : decode cX7_word 50 = .ok (.getfield 122, 3) := by decide +kernel
theorem dX7_word_53 : decode cX7_word 53 = .ok (.iload_n 1, 1) := by decide +kernel
theorem dX7_word_54 : decode cX7_word 54 = .ok (.isub, 1) := by decide +kernel
theorem dX7_word_55 : decode cX7_word 55 = .ok (.aload_n 0, 1) := by decide +kernel
theorem dX7_word_56 : decode cX7_word 56 = .ok (.getfield 41, 3) := by decide +kernel
theorem dX7_word_59 : decode cX7_word 59 = .ok (.iload_n 2, 1) := by decide +kernel
theorem dX7_word_60 : decode cX7_word 60 = .ok (.iaload, 1) := by decide +kernel
theorem dX7_word_61 : decode cX7_word 61 = .ok (.if_icmp .ne 31, 3) := by decide +kernel
theorem dX7_word_64 : decode cX7_word 64 = .ok (.aload_n 0, 1) := by decide +kernel
theorem dX7_word_65 : decode cX7_word 65 = .ok (.getfield 28, 3) := by decide +kernel
theorem dX7_word_68 : decode cX7_word 68 = .ok (.iload_n 1, 1) := by decide +kernel
theorem dX7_word_69 : decode cX7_word 69 = .ok (.iload_n 3, 1) := by decide +kernel
theorem dX7_word_70 : decode cX7_word 70 = .ok (.iadd, 1) := by decide +kernel
theorem dX7_word_71 : decode cX7_word 71 = .ok (.iaload, 1) := by decide +kernel
theorem dX7_word_72 : decode cX7_word 72 = .ok (.aload_n 0, 1) := by decide +kernel
theorem dX7_word_73 : decode cX7_word 73 = .ok (.getfield 37, 3) := by decide +kernel
theorem dX7_word_76 : decode cX7_word 76 = .ok (.bipush 6, 2) := by decide +kernel
theorem dX7_word_78 : decode cX7_word 78 = .ok (.iload_n 2, 1) := by decide +kernel
theorem dX7_word_79 : decode cX7_word 79 = .ok (.imul, 1) := by decide +kernel
theorem dX7_word_80 : decode cX7_word 80 = .ok (.iload_n 3, 1) := by decide +kernel
theorem dX7_word_81 : decode cX7_word 81 = .ok (.iadd, 1) := by decide +kernel
theorem dX7_word_82 : decode cX7_word 82 = .ok (.caload, 1) := by decide +kernel
theorem dX7_word_83 : decode cX7_word 83 = .ok (.if_icmp .ne 9, 3) := by decide +kernel
theorem dX7_word_86 : decode cX7_word 86 = .ok (.iinc 3 1, 3) := by decide +kernel
theorem dX7_word_89 : decode cX7_word 89 = .ok (.goto (-50), 3) := by decide +kernel
theorem dX7_word_92 : decode cX7_word 92 = .ok (.iload_n 3, 1) := by decide +kernel
theorem dX7_word_93 : decode cX7_word 93 = .ok (.aload_n 0, 1) := by decide +kernel
theorem dX7_word_94 : decode cX7_word 94 = .ok (.getfield 41, 3) := by decide +kernel
theorem dX7_word_97 : decode cX7_word 97 = .ok (.iload_n 2, 1) := by decide +kernel
theorem dX7_word_98 : decode cX7_word 98 = .ok (.iaload, 1) := by decide +kernel
theorem dX7_word_99 : decode cX7_word 99 = .ok (.if_icmp .ne 10, 3) := by decide +kernel
theorem dX7_word_102 : decode cX7_word 102 = .ok (.aload_n 0, 1) := by decide +kernel
theorem dX7_word_103 : decode cX7_word 103 = .ok (.iload_n 2, 1) := by decide +kernel
theorem dX7_word_104 : decode cX7_word 104 = .ok (.putfield 129, 3) := by decide +kernel
theorem dX7_word_107 : decode cX7_word 107 = .ok (.iconst 1, 1) := by decide +kernel
theorem dX7_word_108 : decode cX7_word 108 = .ok (.ireturn, 1) := by decide +kernel
theorem dX7_word_109 : decode cX7_word 109 = .ok (.iinc 2 1, 3) := by decide +kernel
theorem dX7_word_112 : decode cX7_word 112 = .ok (.goto (-81), 3) := by decide +kernel
theorem dX7_word_115 : decode cX7_word 115 = .ok (.aload_n 0, 1) := by decide +kernel
theorem dX7_word_116 : decode cX7_word 116 = .ok (.iload_n 1, 1) := by decide +kernel
theorem dX7_word_117 : decode cX7_word 117 = .ok (.putfield 122, 3) := by decide +kernel
theorem dX7_word_120 : decode cX7_word 120 = .ok (.iconst 0, 1) := by decide +kernel
theorem dX7_word_121 : decode cX7_word 121 = .ok (.ireturn, 1) := by decide +kernel
set_option maxRecDepth 20000 in
theorem ggX7_aFigure_X7_isAt : GoodIn wsX7_aFigure wsX7_isAt := goodIn_r _ [8, 2, 9, 1, 10, 11, 7, 12, 13, 14, 15, 16, 17, 18, 19, 20, 21, 22, 23, 24, 25, 26, 27, 28, 29, 30, 31, 32, 33, 34, 35, 36, 37, 38] (by decide +kernel) (by decide +kernel)
set_option maxRecDepth 20000 in
theorem gX7_aFigure_X7_isAt : GoodIn wsX7_aFigure (wsV RX7 125 RX7 yX7_isAt wsX7_isAt) := goodIn_app (goodIn_of _ (by decide +kernel)) ggX7_aFigure_X7_isAt
theorem dX7_aFigure_0 : decode cX7_aFigure 0 = .ok (.aload_n 0, 1) := by decide +kernel
theorem dX7_aFigure_1 : decode cX7_aFigure 1 = .ok (.bipush 48, 2) := by decide +kernel
theorem dX7_aFigure_3 : decode cX7_aFigure 3 = .ok (.bipush 57, 2) := by decide +kernel
theorem dX7_aFigure_5 : decode cX7_aFigure 5 = .ok (.invokevirtual 125, 3) := by decide +kernel
theorem dX7_aFigure_8 : decode cX7_aFigure 8 = .ok (.ifCond .ne 5, 3) := by decide +kernel
theorem dX7_aFigure_11 : decode cX7_aFigure 11 = .ok (.iconst 0, 1) := by decide +kernel
theorem dX7_aFigure_12 : decode cX7_aFigure 12 = .ok (.ireturn, 1) := by decide +kernel
theorem dX7_aFigure_13 : decode cX7_aFigure 13 = .ok (.aload_n 0, 1) := by decide +kernel
theorem dX7_aFigure_14 : decode cX7_aFigure 14 = .ok (.aload_n 0, 1) := by decide +kernel
theorem dX7_aFigure_15 : decode cX7_aFigure 15 = .ok (.getfield 28, 3) := by decide +kernel
theorem dX7_aFigure_18 : decode cX7_aFigure 18 = .ok (.aload_n 0, 1) := by decide +kernel
theorem dX7_aFigure_19 : decode cX7_aFigure 19 = .ok (.getfield 122, 3) := by decide +kernel
theorem dX7_aFigure_22 : decode cX7_aFigure 22 = .ok (.iaload, 1) := by decide +kernel
theorem dX7_aFigure_23 : decode cX7_aFigure 23 = .ok (.bipush 48, 2) := by decide +kernel
theorem dX7_aFigure_25 : decode cX7_aFigure 25 = .ok (.isub, 1) := by decide +kernel
theorem dX7_aFigure_26 : decode cX7_aFigure 26 = .ok (.putfield 132, 3) := by decide +kernel
theorem dX7_aFigure_29 : decode cX7_aFigure 29 = .ok (.aload_n 0, 1) := by decide +kernel
theorem dX7_aFigure_30 : decode cX7_aFigure 30 = .ok (.dup, 1) := by decide +kernel
theorem dX7_aFigure_31 : decode cX7_aFigure 31 = .ok (.getfield 122, 3) := by decide +kernel
theorem dX7_aFigure_34 : decode cX7_aFigure 34 = .ok (.iconst 1, 1) := by decide +kernel
theorem dX7_aFigure_35 : decode cX7_aFigure 35 = .ok (.iadd, 1) := by decide +kernel
theorem dX7_aFigure_36 : decode cX7_aFigure 36 = .ok (.putfield 122, 3) := by decide +kernel
theorem dX7_aFigure_39 : decode cX7_aFigure 39 = .ok (.iconst 1, 1) := by decide +kernel
theorem dX7_aFigure_40 : decode cX7_aFigure 40 = .ok (.ireturn, 1) := by decide +kernel
set_option maxRecDepth 20000 in
theorem ggX7_clause_X7_word : GoodIn wsX7_clause wsX7_word := goodIn_r _ [7, 8, 9, 10, 11, 12, 13, 14, 15, 6, 16, 17, 18, 19, 20, 29, 30, 31, 32, 33, 34, 35, 36, 37, 38, 39, 40, 41, 42, 43, 44, 45, 46, 47, 48, 49, 50, 51, 52, 53, 54] (by decide +kernel) (by decide +kernel)
set_option maxRecDepth 20000 in
theorem gX7_clause_X7_word : GoodIn wsX7_clause (wsV RX7 135 RX7 yX7_word wsX7_word) := goodIn_app (goodIn_of _ (by decide +kernel)) ggX7_clause_X7_word
set_option maxRecDepth 20000 in
theorem ggX7_clause_X7_takes : GoodIn wsX7_clause wsX7_takes := goodIn_r _ [24, 8, 13, 14, 15, 6, 16, 17, 10, 18, 19, 20, 29, 30, 31, 32, 33, 34, 35, 36, 37, 38, 39, 40, 41, 42, 43, 44, 45, 46, 47, 48, 49, 50, 51, 52, 53, 54] (by decide +kernel) (by decide +kernel)
set_option maxRecDepth 20000 in
theorem gX7_clause_X7_takes : GoodIn wsX7_clause (wsV RX7 139 RX7 yX7_takes wsX7_takes) := goodIn_app (goodIn_of _ (by decide +kernel)) ggX7_clause_X7_takes
set_option maxRecDepth 20000 in
theorem ggX7_clause_X7_aFigure : GoodIn wsX7_clause wsX7_aFigure := goodIn_r _ [28, 10, 8, 1, 13, 14, 15, 6, 16, 17, 18, 19, 20, 29, 30, 31, 32, 33, 34, 35, 36, 37, 38, 39, 40, 41, 42, 43, 44, 45, 46, 47, 48, 49, 50, 51, 52, 53, 54] (by decide +kernel) (by decide +kernel)
set_option maxRecDepth 20000 in
theorem gX7_clause_X7_aFigure : GoodIn wsX7_clause (wsV RX7 143 RX7 yX7_aFigure wsX7_aFigure) := goodIn_app (goodIn_of _ (by decide +kernel)) ggX7_clause_X7_aFigure
theorem dX7_clause_0 : decode cX7_clause 0 = .ok (.aload_n 0, 1) := by decide +kernel
theorem dX7_clause_1 : decode cX7_clause 1 = .ok (.invokevirtual 135, 3) := by decide +kernel
theorem dX7_clause_4 : decode cX7_clause 4 = .ok (.ifCond .eq 28, 3) := by decide +kernel
theorem dX7_clause_7 : decode cX7_clause 7 = .ok (.aload_n 0, 1) := by decide +kernel
theorem dX7_clause_8 : decode cX7_clause 8 = .ok (.bipush 32, 2) := by decide +kernel
theorem dX7_clause_10 : decode cX7_clause 10 = .ok (.invokevirtual 139, 3) := by decide +kernel
theorem dX7_clause_13 : decode cX7_clause 13 = .ok (.ifCond .eq 19, 3) := by decide +kernel
theorem dX7_clause_16 : decode cX7_clause 16 = .ok (.aload_n 0, 1) := by decide +kernel
theorem dX7_clause_17 : decode cX7_clause 17 = .ok (.invokevirtual 143, 3) := by decide +kernel
theorem dX7_clause_20 : decode cX7_clause 20 = .ok (.ifCond .eq 12, 3) := by decide +kernel
theorem dX7_clause_23 : decode cX7_clause 23 = .ok (.aload_n 0, 1) := by decide +kernel
theorem dX7_clause_24 : decode cX7_clause 24 = .ok (.bipush 32, 2) := by decide +kernel
theorem dX7_clause_26 : decode cX7_clause 26 = .ok (.invokevirtual 139, 3) := by decide +kernel
theorem dX7_clause_29 : decode cX7_clause 29 = .ok (.ifCond .ne 5, 3) := by decide +kernel
theorem dX7_clause_32 : decode cX7_clause 32 = .ok (.iconst 0, 1) := by decide +kernel
theorem dX7_clause_33 : decode cX7_clause 33 = .ok (.ireturn, 1) := by decide +kernel
theorem dX7_clause_34 : decode cX7_clause 34 = .ok (.aload_n 0, 1) := by decide +kernel
theorem dX7_clause_35 : decode cX7_clause 35 = .ok (.getfield 132, 3) := by decide +kernel
theorem dX7_clause_38 : decode cX7_clause 38 = .ok (.istore_n 1, 1) := by decide +kernel
theorem dX7_clause_39 : decode cX7_clause 39 = .ok (.iconst 0, 1) := by decide +kernel
theorem dX7_clause_40 : decode cX7_clause 40 = .ok (.istore_n 2, 1) := by decide +kernel
theorem dX7_clause_41 : decode cX7_clause 41 = .ok (.iload_n 2, 1) := by decide +kernel
theorem dX7_clause_42 : decode cX7_clause 42 = .ok (.iconst 5, 1) := by decide +kernel
theorem dX7_clause_43 : decode cX7_clause 43 = .ok (.if_icmp .ge 63, 3) := by decide +kernel
theorem dX7_clause_46 : decode cX7_clause 46 = .ok (.iload_n 2, 1) := by decide +kernel
theorem dX7_clause_47 : decode cX7_clause 47 = .ok (.ifCond .le 12, 3) := by decide +kernel
theorem dX7_clause_50 : decode cX7_clause 50 = .ok (.aload_n 0, 1) := by decide +kernel
theorem dX7_clause_51 : decode cX7_clause 51 = .ok (.bipush 44, 2) := by decide +kernel
theorem dX7_clause_53 : decode cX7_clause 53 = .ok (.invokevirtual 139, 3) := by decide +kernel
theorem dX7_clause_56 : decode cX7_clause 56 = .ok (.ifCond .eq 10, 3) := by decide +kernel
theorem dX7_clause_59 : decode cX7_clause 59 = .ok (.aload_n 0, 1) := by decide +kernel
theorem dX7_clause_60 : decode cX7_clause 60 = .ok (.invokevirtual 143, 3) := by decide +kernel
theorem dX7_clause_63 : decode cX7_clause 63 = .ok (.ifCond .ne 5, 3) := by decide +kernel
theorem dX7_clause_66 : decode cX7_clause 66 = .ok (.iconst 0, 1) := by decide +kernel
theorem dX7_clause_67 : decode cX7_clause 67 = .ok (.ireturn, 1) := by decide +kernel
theorem dX7_clause_68 : decode cX7_clause 68 = .ok (.aload_n 0, 1) := by decide +kernel
theorem dX7_clause_69 : decode cX7_clause 69 = .ok (.getfield 31, 3) := by decide +kernel
theorem dX7_clause_72 : decode cX7_clause 72 = .ok (.iload_n 2, 1) := by decide +kernel
theorem dX7_clause_73 : decode cX7_clause 73 = .ok (.aload_n 0, 1) := by decide +kernel
theorem dX7_clause_74 : decode cX7_clause 74 = .ok (.getfield 132, 3) := by decide +kernel
theorem dX7_clause_77 : decode cX7_clause 77 = .ok (.iconst 1, 1) := by decide +kernel
theorem dX7_clause_78 : decode cX7_clause 78 = .ok (.if_icmp .ne 17, 3) := by decide +kernel
theorem dX7_clause_81 : decode cX7_clause 81 = .ok (.aload_n 0, 1) := by decide +kernel
theorem dX7_clause_82 : decode cX7_clause 82 = .ok (.bipush 48, 2) := by decide +kernel
theorem dX7_clause_84 : decode cX7_clause 84 = .ok (.invokevirtual 139, 3) := by decide +kernel
theorem dX7_clause_87 : decode cX7_clause 87 = .ok (.ifCond .eq 8, 3) := by decide +kernel
theorem dX7_clause_90 : decode cX7_clause 90 = .ok (.bipush 10, 2) := by decide +kernel
theorem dX7_clause_92 : decode cX7_clause 92 = .ok (.goto 7, 3) := by decide +kernel
theorem dX7_clause_95 : decode cX7_clause 95 = .ok (.aload_n 0, 1) := by decide +kernel
theorem dX7_clause_96 : decode cX7_clause 96 = .ok (.getfield 132, 3) := by decide +kernel
theorem dX7_clause_99 : decode cX7_clause 99 = .ok (.iastore, 1) := by decide +kernel
theorem dX7_clause_100 : decode cX7_clause 100 = .ok (.iinc 2 1, 3) := by decide +kernel
theorem dX7_clause_103 : decode cX7_clause 103 = .ok (.goto (-62), 3) := by decide +kernel
theorem dX7_clause_106 : decode cX7_clause 106 = .ok (.aload_n 0, 1) := by decide +kernel
theorem dX7_clause_107 : decode cX7_clause 107 = .ok (.iload_n 1, 1) := by decide +kernel
theorem dX7_clause_108 : decode cX7_clause 108 = .ok (.putfield 132, 3) := by decide +kernel
theorem dX7_clause_111 : decode cX7_clause 111 = .ok (.iconst 1, 1) := by decide +kernel
theorem dX7_clause_112 : decode cX7_clause 112 = .ok (.ireturn, 1) := by decide +kernel
set_option maxRecDepth 20000 in
theorem ggX7_reads_X7_clause : GoodIn wsX7_reads wsX7_clause := goodIn_r _ [11, 4, 5, 12, 13, 14, 10, 15, 1, 16, 17, 18, 3, 19, 20, 21, 22, 6, 23, 24, 25, 26, 27, 28, 29, 30, 31, 32, 33, 34, 35, 36, 37, 38, 39, 40, 41, 42, 43, 44, 45, 46, 47, 48, 49, 50, 51, 52, 53, 54, 55, 56, 57, 58, 59] (by decide +kernel) (by decide +kernel)
set_option maxRecDepth 20000 in
theorem gX7_reads_X7_clause : GoodIn wsX7_reads (wsV RX7 146 RX7 yX7_clause wsX7_clause) := goodIn_app (goodIn_of _ (by decide +kernel)) ggX7_reads_X7_clause
set_option maxRecDepth 20000 in
theorem ggX7_reads_X7_takes : GoodIn wsX7_reads wsX7_takes := goodIn_r _ [29, 1, 19, 20, 21, 10, 22, 6, 17, 23, 24, 25, 34, 35, 36, 37, 38, 39, 40, 41, 42, 43, 44, 45, 46, 47, 48, 49, 50, 51, 52, 53, 54, 55, 56, 57, 58, 59] (by decide +kernel) (by decide +kernel)
set_option maxRecDepth 20000 in
theorem gX7_reads_X7_takes : GoodIn wsX7_reads (wsV RX7 139 RX7 yX7_takes wsX7_takes) := goodIn_app (goodIn_of _ (by decide +kernel)) ggX7_reads_X7_takes
theorem dX7_reads_0 : decode cX7_reads 0 = .ok (.aload_n 0, 1) := by decide +kernel
theorem dX7_reads_1 : decode cX7_reads 1 = .ok (.iconst 0, 1) := by decide +kernel
theorem dX7_reads_2 : decode cX7_reads 2 = .ok (.putfield 122, 3) := by decide +kernel
theorem dX7_reads_5 : decode cX7_reads 5 = .ok (.iconst 0, 1) := by decide +kernel
theorem dX7_reads_6 : decode cX7_reads 6 = .ok (.istore_n 1, 1) := by decide +kernel
theorem dX7_reads_7 : decode cX7_reads 7 = .ok (.iconst 1, 1) := by decide +kernel
theorem dX7_reads_8 : decode cX7_reads 8 = .ok (.istore_n 2, 1) := by decide +kernel
theorem dX7_reads_9 : decode cX7_reads 9 = .ok (.iload_n 2, 1) := by decide +kernel
theorem dX7_reads_10 : decode cX7_reads 10 = .ok (.ifCond .eq 97, 3) := by decide +kernel
theorem dX7_reads_13 : decode cX7_reads 13 = .ok (.aload_n 0, 1) := by decide +kernel
theorem dX7_reads_14 : decode cX7_reads 14 = .ok (.invokevirtual 146, 3) := by decide +kernel
theorem dX7_reads_17 : decode cX7_reads 17 = .ok (.ifCond .ne 11, 3) := by decide +kernel
theorem dX7_reads_20 : decode cX7_reads 20 = .ok (.bipush (-100), 2) := by decide +kernel
theorem dX7_reads_22 : decode cX7_reads 22 = .ok (.aload_n 0, 1) := by decide +kernel
theorem dX7_reads_23 : decode cX7_reads 23 = .ok (.getfield 122, 3) := by decide +kernel
theorem dX7_reads_26 : decode cX7_reads 26 = .ok (.isub, 1) := by decide +kernel
theorem dX7_reads_27 : decode cX7_reads 27 = .ok (.ireturn, 1) := by decide +kernel
theorem dX7_reads_28 : decode cX7_reads 28 = .ok (.iload_n 1, 1) := by decide +kernel
theorem dX7_reads_29 : decode cX7_reads 29 = .ok (.bipush 8, 2) := by decide +kernel
theorem dX7_reads_31 : decode cX7_reads 31 = .ok (.if_icmp .ge 63, 3) := by decide +kernel
theorem dX7_reads_34 : decode cX7_reads 34 = .ok (.aload_n 0, 1) := by decide +kernel
theorem dX7_reads_35 : decode cX7_reads 35 = .ok (.getfield 34, 3) := by decide +kernel
theorem dX7_reads_38 : decode cX7_reads 38 = .ok (.bipush 7, 2) := by decide +kernel
theorem dX7_reads_40 : decode cX7_reads 40 = .ok (.iload_n 1, 1) := by decide +kernel
theorem dX7_reads_41 : decode cX7_reads 41 = .ok (.imul, 1) := by decide +kernel
theorem dX7_reads_42 : decode cX7_reads 42 = .ok (.aload_n 0, 1) := by decide +kernel
theorem dX7_reads_43 : decode cX7_reads 43 = .ok (.getfield 129, 3) := by decide +kernel
theorem dX7_reads_46 : decode cX7_reads 46 = .ok (.iastore, 1) := by decide +kernel
theorem dX7_reads_47 : decode cX7_reads 47 = .ok (.aload_n 0, 1) := by decide +kernel
theorem dX7_reads_48 : decode cX7_reads 48 = .ok (.getfield 34, 3) := by decide +kernel
theorem dX7_reads_51 : decode cX7_reads 51 = .ok (.bipush 7, 2) := by decide +kernel
theorem dX7_reads_53 : decode cX7_reads 53 = .ok (.iload_n 1, 1) := by decide +kernel
theorem dX7_reads_54 : decode cX7_reads 54 = .ok (.imul, 1) := by decide +kernel
theorem dX7_reads_55 : decode cX7_reads 55 = .ok (.iconst 1, 1) := by decide +kernel
theorem dX7_reads_56 : decode cX7_reads 56 = .ok (.iadd, 1) := by decide +kernel
theorem dX7_reads_57 : decode cX7_reads 57 = .ok (.aload_n 0, 1) := by decide +kernel
theorem dX7_reads_58 : decode cX7_reads 58 = .ok (.getfield 132, 3) := by decide +kernel
theorem dX7_reads_61 : decode cX7_reads 61 = .ok (.iastore, 1) := by decide +kernel
theorem dX7_reads_62 : decode cX7_reads 62 = .ok (.iconst 0, 1) := by decide +kernel
theorem dX7_reads_63 : decode cX7_reads 63 = .ok (.istore_n 3, 1) := by decide +kernel
theorem dX7_reads_64 : decode cX7_reads 64 = .ok (.iload_n 3, 1) := by decide +kernel
theorem dX7_reads_65 : decode cX7_reads 65 = .ok (.iconst 5, 1) := by decide +kernel
theorem dX7_reads_66 : decode cX7_reads 66 = .ok (.if_icmp .ge 28, 3) := by decide +kernel
theorem dX7_reads_69 : decode cX7_reads 69 = .ok (.aload_n 0, 1) := by decide +kernel
theorem dX7_reads_70 : decode cX7_reads 70 = .ok (.getfield 34, 3) := by decide +kernel
theorem dX7_reads_73 : decode cX7_reads 73 = .ok (.bipush 7, 2) := by decide +kernel
theorem dX7_reads_75 : decode cX7_reads 75 = .ok (.iload_n 1, 1) := by decide +kernel
theorem dX7_reads_76 : decode cX7_reads 76 = .ok (.imul, 1) := by decide +kernel
theorem dX7_reads_77 : decode cX7_reads 77 = .ok (.iconst 2, 1) := by decide +kernel
theorem dX7_reads_78 : decode cX7_reads 78 = .ok (.iadd, 1) := by decide +kernel
theorem dX7_reads_79 : decode cX7_reads 79 = .ok (.iload_n 3, 1) := by decide +kernel
theorem dX7_reads_80 : decode cX7_reads 80 = .ok (.iadd, 1) := by decide +kernel
theorem dX7_reads_81 : decode cX7_reads 81 = .ok (.aload_n 0, 1) := by decide +kernel
theorem dX7_reads_82 : decode cX7_reads 82 = .ok (.getfield 31, 3) := by decide +kernel
theorem dX7_reads_85 : decode cX7_reads 85 = .ok (.iload_n 3, 1) := by decide +kernel
theorem dX7_reads_86 : decode cX7_reads 86 = .ok (.iaload, 1) := by decide +kernel
theorem dX7_reads_87 : decode cX7_reads 87 = .ok (.iastore, 1) := by decide +kernel
theorem dX7_reads_88 : decode cX7_reads 88 = .ok (.iinc 3 1, 3) := by decide +kernel
theorem dX7_reads_91 : decode cX7_reads 91 = .ok (.goto (-27), 3) := by decide +kernel
theorem dX7_reads_94 : decode cX7_reads 94 = .ok (.iinc 1 1, 3) := by decide +kernel
theorem dX7_reads_97 : decode cX7_reads 97 = .ok (.aload_n 0, 1) := by decide +kernel
theorem dX7_reads_98 : decode cX7_reads 98 = .ok (.bipush 59, 2) := by decide +kernel
theorem dX7_reads_100 : decode cX7_reads 100 = .ok (.invokevirtual 139, 3) := by decide +kernel
theorem dX7_reads_103 : decode cX7_reads 103 = .ok (.istore_n 2, 1) := by decide +kernel
theorem dX7_reads_104 : decode cX7_reads 104 = .ok (.goto (-95), 3) := by decide +kernel
theorem dX7_reads_107 : decode cX7_reads 107 = .ok (.aload_n 0, 1) := by decide +kernel
theorem dX7_reads_108 : decode cX7_reads 108 = .ok (.getfield 122, 3) := by decide +kernel
theorem dX7_reads_111 : decode cX7_reads 111 = .ok (.aload_n 0, 1) := by decide +kernel
theorem dX7_reads_112 : decode cX7_reads 112 = .ok (.getfield 118, 3) := by decide +kernel
theorem dX7_reads_115 : decode cX7_reads 115 = .ok (.if_icmp .ge 13, 3) := by decide +kernel
theorem dX7_reads_118 : decode cX7_reads 118 = .ok (.bipush (-100), 2) := by decide +kernel
theorem dX7_reads_120 : decode cX7_reads 120 = .ok (.aload_n 0, 1) := by decide +kernel
theorem dX7_reads_121 : decode cX7_reads 121 = .ok (.getfield 122, 3) := by decide +kernel
theorem dX7_reads_124 : decode cX7_reads 124 = .ok (.isub, 1) := by decide +kernel
theorem dX7_reads_125 : decode cX7_reads 125 = .ok (.goto 4, 3) := by decide +kernel
theorem dX7_reads_128 : decode cX7_reads 128 = .ok (.iload_n 1, 1) := by decide +kernel
theorem dX7_reads_129 : decode cX7_reads 129 = .ok (.ireturn, 1) := by decide +kernel
set_option maxRecDepth 20000 in
theorem ggX7_sheets_X7_reads : GoodIn wsX7_sheets wsX7_reads := goodIn_r _ [8, 9, 3, 10, 11, 12, 1, 13, 14, 15, 7, 16, 17, 18, 19, 20, 21, 22, 23, 24, 25, 26, 27, 28, 29, 30, 31, 32, 33, 34, 35, 36, 37, 38, 39, 40, 41, 42, 43, 44, 45, 46, 47, 48, 49, 50, 51, 52, 53, 54, 55, 56, 57, 58, 59, 60, 61, 62, 63, 64] (by decide +kernel) (by decide +kernel)
set_option maxRecDepth 20000 in
theorem gX7_sheets_X7_reads : GoodIn wsX7_sheets (wsV RX7 149 RX7 yX7_reads wsX7_reads) := goodIn_app (goodIn_of _ (by decide +kernel)) ggX7_sheets_X7_reads
theorem dX7_sheets_0 : decode cX7_sheets 0 = .ok (.aload_n 0, 1) := by decide +kernel
theorem dX7_sheets_1 : decode cX7_sheets 1 = .ok (.invokevirtual 149, 3) := by decide +kernel
theorem dX7_sheets_4 : decode cX7_sheets 4 = .ok (.istore_n 1, 1) := by decide +kernel
theorem dX7_sheets_5 : decode cX7_sheets 5 = .ok (.aload_n 0, 1) := by decide +kernel
theorem dX7_sheets_6 : decode cX7_sheets 6 = .ok (.iconst 0, 1) := by decide +kernel
theorem dX7_sheets_7 : decode cX7_sheets 7 = .ok (.putfield 118, 3) := by decide +kernel
theorem dX7_sheets_10 : decode cX7_sheets 10 = .ok (.iload_n 1, 1) := by decide +kernel
theorem dX7_sheets_11 : decode cX7_sheets 11 = .ok (.ifCond .ge 5, 3) := by decide +kernel
theorem dX7_sheets_14 : decode cX7_sheets 14 = .ok (.iload_n 1, 1) := by decide +kernel
theorem dX7_sheets_15 : decode cX7_sheets 15 = .ok (.ireturn, 1) := by decide +kernel
theorem dX7_sheets_16 : decode cX7_sheets 16 = .ok (.aload_n 0, 1) := by decide +kernel
theorem dX7_sheets_17 : decode cX7_sheets 17 = .ok (.getfield 9, 3) := by decide +kernel
theorem dX7_sheets_20 : decode cX7_sheets 20 = .ok (.iconst 0, 1) := by decide +kernel
theorem dX7_sheets_21 : decode cX7_sheets 21 = .ok (.iaload, 1) := by decide +kernel
theorem dX7_sheets_22 : decode cX7_sheets 22 = .ok (.iload_n 1, 1) := by decide +kernel
theorem dX7_sheets_23 : decode cX7_sheets 23 = .ok (.iadd, 1) := by decide +kernel
theorem dX7_sheets_24 : decode cX7_sheets 24 = .ok (.bipush 8, 2) := by decide +kernel
theorem dX7_sheets_26 : decode cX7_sheets 26 = .ok (.if_icmp .le 6, 3) := by decide +kernel
theorem dX7_sheets_29 : decode cX7_sheets 29 = .ok (.bipush (-4), 2) := by decide +kernel
theorem dX7_sheets_31 : decode cX7_sheets 31 = .ok (.ireturn, 1) := by decide +kernel
theorem dX7_sheets_32 : decode cX7_sheets 32 = .ok (.iconst 0, 1) := by decide +kernel
theorem dX7_sheets_33 : decode cX7_sheets 33 = .ok (.istore_n 2, 1) := by decide +kernel
theorem dX7_sheets_34 : decode cX7_sheets 34 = .ok (.iload_n 2, 1) := by decide +kernel
theorem dX7_sheets_35 : decode cX7_sheets 35 = .ok (.bipush 7, 2) := by decide +kernel
theorem dX7_sheets_37 : decode cX7_sheets 37 = .ok (.iload_n 1, 1) := by decide +kernel
theorem dX7_sheets_38 : decode cX7_sheets 38 = .ok (.imul, 1) := by decide +kernel
theorem dX7_sheets_39 : decode cX7_sheets 39 = .ok (.if_icmp .ge 33, 3) := by decide +kernel
theorem dX7_sheets_42 : decode cX7_sheets 42 = .ok (.aload_n 0, 1) := by decide +kernel
theorem dX7_sheets_43 : decode cX7_sheets 43 = .ok (.getfield 9, 3) := by decide +kernel
theorem dX7_sheets_46 : decode cX7_sheets 46 = .ok (.iconst 2, 1) := by decide +kernel
theorem dX7_sheets_47 : decode cX7_sheets 47 = .ok (.bipush 7, 2) := by decide +kernel
theorem dX7_sheets_49 : decode cX7_sheets 49 = .ok (.aload_n 0, 1) := by decide +kernel
theorem dX7_sheets_50 : decode cX7_sheets 50 = .ok (.getfield 9, 3) := by decide +kernel
theorem dX7_sheets_53 : decode cX7_sheets 53 = .ok (.iconst 0, 1) := by decide +kernel
theorem dX7_sheets_54 : decode cX7_sheets 54 = .ok (.iaload, 1) := by decide +kernel
theorem dX7_sheets_55 : decode cX7_sheets 55 = .ok (.imul, 1) := by decide +kernel
theorem dX7_sheets_56 : decode cX7_sheets 56 = .ok (.iadd, 1) := by decide +kernel
theorem dX7_sheets_57 : decode cX7_sheets 57 = .ok (.iload_n 2, 1) := by decide +kernel
theorem dX7_sheets_58 : decode cX7_sheets 58 = .ok (.iadd, 1) := by decide +kernel
theorem dX7_sheets_59 : decode cX7_sheets 59 = .ok (.aload_n 0, 1) := by decide +kernel
theorem dX7_sheets_60 : decode cX7_sheets 60 = .ok (.getfield 34, 3) := by decide +kernel
theorem dX7_sheets_63 : decode cX7_sheets 63 = .ok (.iload_n 2, 1) := by decide +kernel
theorem dX7_sheets_64 : decode cX7_sheets 64 = .ok (.iaload, 1) := by decide +kernel
theorem dX7_sheets_65 : decode cX7_sheets 65 = .ok (.iastore, 1) := by decide +kernel
theorem dX7_sheets_66 : decode cX7_sheets 66 = .ok (.iinc 2 1, 3) := by decide +kernel
theorem dX7_sheets_69 : decode cX7_sheets 69 = .ok (.goto (-35), 3) := by decide +kernel
theorem dX7_sheets_72 : decode cX7_sheets 72 = .ok (.aload_n 0, 1) := by decide +kernel
theorem dX7_sheets_73 : decode cX7_sheets 73 = .ok (.getfield 9, 3) := by decide +kernel
theorem dX7_sheets_76 : decode cX7_sheets 76 = .ok (.iconst 0, 1) := by decide +kernel
theorem dX7_sheets_77 : decode cX7_sheets 77 = .ok (.dup2, 1) := by decide +kernel
theorem dX7_sheets_78 : decode cX7_sheets 78 = .ok (.iaload, 1) := by decide +kernel
theorem dX7_sheets_79 : decode cX7_sheets 79 = .ok (.iload_n 1, 1) := by decide +kernel
theorem dX7_sheets_80 : decode cX7_sheets 80 = .ok (.iadd, 1) := by decide +kernel
theorem dX7_sheets_81 : decode cX7_sheets 81 = .ok (.iastore, 1) := by decide +kernel
theorem dX7_sheets_82 : decode cX7_sheets 82 = .ok (.aload_n 0, 1) := by decide +kernel
theorem dX7_sheets_83 : decode cX7_sheets 83 = .ok (.getfield 9, 3) := by decide +kernel
theorem dX7_sheets_86 : decode cX7_sheets 86 = .ok (.iconst 0, 1) := by decide +kernel
theorem dX7_sheets_87 : decode cX7_sheets 87 = .ok (.iaload, 1) := by decide +kernel
theorem dX7_sheets_88 : decode cX7_sheets 88 = .ok (.ireturn, 1) := by decide +kernel
set_option maxRecDepth 20000 in
theorem ggX7_number_X7_isSheet : GoodIn wsX7_number wsX7_isSheet := goodIn_r _ [7, 2, 8, 9, 6, 10, 19, 20, 21, 22, 23, 24, 25, 26, 27, 28, 29, 30, 31, 32, 33, 34, 35, 36, 37, 38, 39, 40, 41, 42, 43, 44] (by decide +kernel) (by decide +kernel)
set_option maxRecDepth 20000 in
theorem gX7_number_X7_isSheet : GoodIn wsX7_number (wsV RX7 153 RX7 yX7_isSheet wsX7_isSheet) := goodIn_app (goodIn_of _ (by decide +kernel)) ggX7_number_X7_isSheet
set_option maxRecDepth 20000 in
theorem ggX7_number_X7_isBand : GoodIn wsX7_number wsX7_isBand := goodIn_r _ [13, 14, 8, 9, 6, 10] (by decide +kernel) (by decide +kernel)
set_option maxRecDepth 20000 in
theorem gX7_number_X7_isBand : GoodIn wsX7_number (va_wsS RX7 156 yX7_isBand wsX7_isBand) := goodIn_app (goodIn_of _ (by decide +kernel)) ggX7_number_X7_isBand
set_option maxRecDepth 20000 in
theorem ggX7_number_X7_isIn : GoodIn wsX7_number wsX7_isIn := goodIn_r _ [10] (by decide +kernel) (by decide +kernel)
set_option maxRecDepth 20000 in
theorem gX7_number_X7_isIn : GoodIn wsX7_number (va_wsS RX7 62 yX7_isIn wsX7_isIn) := goodIn_app (goodIn_of _ (by decide +kernel)) ggX7_number_X7_isIn
set_option maxRecDepth 20000 in
theorem ggX7_number_X7_numberOf : GoodIn wsX7_number wsX7_numberOf := goodIn_r _ [18, 2, 19, 20, 21, 22, 23, 24, 25, 26, 27, 28, 29, 30, 31, 32, 33, 34, 35, 36, 37, 38, 39, 40, 41, 42, 43, 44] (by decide +kernel) (by decide +kernel)
set_option maxRecDepth 20000 in
theorem gX7_number_X7_numberOf : GoodIn wsX7_number (wsV RX7 70 RX7 yX7_numberOf wsX7_numberOf) := goodIn_app (goodIn_of _ (by decide +kernel)) ggX7_number_X7_numberOf
theorem dX7_number_0 : decode cX7_number 0 = .ok (.aload_n 0, 1) := by decide +kernel
theorem dX7_number_1 : decode cX7_number 1 = .ok (.iload_n 1, 1) := by decide +kernel
theorem dX7_number_2 : decode cX7_number 2 = .ok (.invokevirtual 153, 3) := by decide +kernel
theorem dX7_number_5 : decode cX7_number 5 = .ok (.ifCond .eq 10, 3) := by decide +kernel
theorem dX7_number_8 : decode cX7_number 8 = .ok (.iload_n 2, 1) := by decide +kernel
theorem dX7_number_9 : decode cX7_number 9 = .ok (.invokestatic 156, 3) := by decide +kernel
theorem dX7_number_12 : decode cX7_number 12 = .ok (.ifCond .ne 5, 3) := by decide +kernel
theorem dX7_number_15 : decode cX7_number 15 = .ok (.iconst (-1), 1) := by decide +kernel
theorem dX7_number_16 : decode cX7_number 16 = .ok (.ireturn, 1) := by decide +kernel
theorem dX7_number_17 : decode cX7_number 17 = .ok (.iload_n 3, 1) := by decide +kernel
theorem dX7_number_18 : decode cX7_number 18 = .ok (.i2l, 1) := by decide +kernel
theorem dX7_number_19 : decode cX7_number 19 = .ok (.lconst 0, 1) := by decide +kernel
theorem dX7_number_20 : decode cX7_number 20 = .ok (.ldc2_w 106, 3) := by decide +kernel
theorem dX7_number_23 : decode cX7_number 23 = .ok (.invokestatic 62, 3) := by decide +kernel
theorem dX7_number_26 : decode cX7_number 26 = .ok (.ifCond .ne 6, 3) := by decide +kernel
theorem dX7_number_29 : decode cX7_number 29 = .ok (.bipush (-2), 2) := by decide +kernel
theorem dX7_number_31 : decode cX7_number 31 = .ok (.ireturn, 1) := by decide +kernel
theorem dX7_number_32 : decode cX7_number 32 = .ok (.aload_n 0, 1) := by decide +kernel
theorem dX7_number_33 : decode cX7_number 33 = .ok (.iload_n 1, 1) := by decide +kernel
theorem dX7_number_34 : decode cX7_number 34 = .ok (.iload_n 2, 1) := by decide +kernel
theorem dX7_number_35 : decode cX7_number 35 = .ok (.invokevirtual 70, 3) := by decide +kernel
theorem dX7_number_38 : decode cX7_number 38 = .ok (.istore 4, 2) := by decide +kernel
theorem dX7_number_40 : decode cX7_number 40 = .ok (.aload_n 0, 1) := by decide +kernel
theorem dX7_number_41 : decode cX7_number 41 = .ok (.getfield 9, 3) := by decide +kernel
theorem dX7_number_44 : decode cX7_number 44 = .ok (.iconst 2, 1) := by decide +kernel
theorem dX7_number_45 : decode cX7_number 45 = .ok (.bipush 7, 2) := by decide +kernel
theorem dX7_number_47 : decode cX7_number 47 = .ok (.iload_n 1, 1) := by decide +kernel
theorem dX7_number_48 : decode cX7_number 48 = .ok (.imul, 1) := by decide +kernel
theorem dX7_number_49 : decode cX7_number 49 = .ok (.iadd, 1) := by decide +kernel
theorem dX7_number_50 : decode cX7_number 50 = .ok (.iconst 2, 1) := by decide +kernel
theorem dX7_number_51 : decode cX7_number 51 = .ok (.iadd, 1) := by decide +kernel
theorem dX7_number_52 : decode cX7_number 52 = .ok (.iload_n 2, 1) := by decide +kernel
theorem dX7_number_53 : decode cX7_number 53 = .ok (.iadd, 1) := by decide +kernel
theorem dX7_number_54 : decode cX7_number 54 = .ok (.iload_n 3, 1) := by decide +kernel
theorem dX7_number_55 : decode cX7_number 55 = .ok (.iastore, 1) := by decide +kernel
theorem dX7_number_56 : decode cX7_number 56 = .ok (.iload 4, 2) := by decide +kernel
theorem dX7_number_58 : decode cX7_number 58 = .ok (.ireturn, 1) := by decide +kernel
set_option maxRecDepth 20000 in
theorem ggX7_becomes_X7_isSheet : GoodIn wsX7_becomes wsX7_isSheet := goodIn_r _ [8, 3, 9, 10, 7, 11, 20, 21, 22, 23, 24, 25, 26, 27, 28, 29, 30, 31, 32, 33, 34, 35, 36, 37, 38, 39, 40, 41, 42, 43, 44, 45] (by decide +kernel) (by decide +kernel)
set_option maxRecDepth 20000 in
theorem gX7_becomes_X7_isSheet : GoodIn wsX7_becomes (wsV RX7 153 RX7 yX7_isSheet wsX7_isSheet) := goodIn_app (goodIn_of _ (by decide +kernel)) ggX7_becomes_X7_isSheet
set_option maxRecDepth 20000 in
theorem ggX7_becomes_X7_isIn : GoodIn wsX7_becomes wsX7_isIn := goodIn_r _ [11] (by decide +kernel) (by decide +kernel)
set_option maxRecDepth 20000 in
theorem gX7_becomes_X7_isIn : GoodIn wsX7_becomes (va_wsS RX7 62 yX7_isIn wsX7_isIn) := goodIn_app (goodIn_of _ (by decide +kernel)) ggX7_becomes_X7_isIn
set_option maxRecDepth 20000 in
theorem ggX7_becomes_X7_kindOf : GoodIn wsX7_becomes wsX7_kindOf := goodIn_r _ [15, 3, 20, 21, 22, 23, 24, 25, 26, 27, 28, 29, 30, 31, 32, 33, 34, 35, 36, 37, 38, 39, 40, 41, 42, 43, 44, 45] (by decide +kernel) (by decide +kernel)
set_option maxRecDepth 20000 in
theorem gX7_becomes_X7_kindOf : GoodIn wsX7_becomes (wsV RX7 74 RX7 yX7_kindOf wsX7_kindOf) := goodIn_app (goodIn_of _ (by decide +kernel)) ggX7_becomes_X7_kindOf
set_option maxRecDepth 20000 in
theorem ggX7_becomes_X7_figureOf : GoodIn wsX7_becomes wsX7_figureOf := goodIn_r _ [19, 3, 20, 21, 22, 23, 24, 25, 26, 27, 28, 29, 30, 31, 32, 33, 34, 35, 36, 37, 38, 39, 40, 41, 42, 43, 44, 45] (by decide +kernel) (by decide +kernel)
set_option maxRecDepth 20000 in
theorem gX7_becomes_X7_figureOf : GoodIn wsX7_becomes (wsV RX7 78 RX7 yX7_figureOf wsX7_figureOf) := goodIn_app (goodIn_of _ (by decide +kernel)) ggX7_becomes_X7_figureOf
