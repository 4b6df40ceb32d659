def y_Law : ab_Y := (x, code, 7, ret, [])
theorem d_Law_0 : decode y_Law.2.1 0 = .ok (.new 8, 3) := by decide +kernel
theorem d_Law_3 : decode y_Law.2.1 3 = .ok (.dup, 1) := by decide +kernel
theorem d_Law_4 : decode y_Law.2.1 4 = .ok (.aload_n 0, 1) := by decide +kernel
theorem d_Law_5 : decode y_Law.2.1 5 = .ok (.iconst 0, 1) := by decide +kernel
theorem d_Law_6 : decode y_Law.2.1 6 = .ok (.invokestatic 19, 3) := by decide +kernel
theorem d_Law_9 : decode y_Law.2.1 9 = .ok (.invokespecial 25, 3) := by decide +kernel
theorem d_Law_12 : decode y_Law.2.1 12 = .ok (.astore_n 1, 1) := by decide +kernel
theorem d_Law_13 : decode y_Law.2.1 13 = .ok (.new 28, 3) := by decide +kernel
theorem d_Law_16 : decode y_Law.2.1 16 = .ok (.dup, 1) := by decide +kernel
theorem d_Law_17 : decode y_Law.2.1 17 = .ok (.aload_n 0, 1) := by decide +kernel
theorem d_Law_18 : decode y_Law.2.1 18 = .ok (.iconst 0, 1) := by decide +kernel
theorem d_Law_19 : decode y_Law.2.1 19 = .ok (.invokestatic 19, 3) := by decide +kernel
theorem d_Law_22 : decode y_Law.2.1 22 = .ok (.invokespecial 30, 3) := by decide +kernel
theorem d_Law_25 : decode y_Law.2.1 25 = .ok (.astore_n 2, 1) := by decide +kernel
theorem d_Law_26 : decode y_Law.2.1 26 = .ok (.iconst 1, 1) := by decide +kernel
theorem d_Law_27 : decode y_Law.2.1 27 = .ok (.newarray .long, 2) := by decide +kernel
theorem d_Law_29 : decode y_Law.2.1 29 = .ok (.astore_n 3, 1) := by decide +kernel
theorem d_Law_30 : decode y_Law.2.1 30 = .ok (.iconst 1, 1) := by decide +kernel
theorem d_Law_31 : decode y_Law.2.1 31 = .ok (.istore 4, 2) := by decide +kernel
theorem d_Law_33 : decode y_Law.2.1 33 = .ok (.iload 4, 2) := by decide +kernel
theorem d_Law_35 : decode y_Law.2.1 35 = .ok (.aload_n 0, 1) := by decide +kernel
theorem d_Law_36 : decode y_Law.2.1 36 = .ok (.arraylength, 1) := by decide +kernel
theorem d_Law_37 : decode y_Law.2.1 37 = .ok (.bipush 6, 2) := by decide +kernel
theorem d_Law_39 : decode y_Law.2.1 39 = .ok (.isub, 1) := by decide +kernel
theorem d_Law_40 : decode y_Law.2.1 40 = .ok (.if_icmp .gt 1103, 3) := by decide +kernel
theorem d_Law_43 : decode y_Law.2.1 43 = .ok (.aload_n 0, 1) := by decide +kernel
theorem d_Law_44 : decode y_Law.2.1 44 = .ok (.iload 4, 2) := by decide +kernel
theorem d_Law_46 : decode y_Law.2.1 46 = .ok (.iaload, 1) := by decide +kernel
theorem d_Law_47 : decode y_Law.2.1 47 = .ok (.bipush 31, 2) := by decide +kernel
theorem d_Law_49 : decode y_Law.2.1 49 = .ok (.iand, 1) := by decide +kernel
theorem d_Law_50 : decode y_Law.2.1 50 = .ok (.tableswitch 1087 0 28 #[130, 203, 228, 253, 278, 291, 304, 353, 406, 431, 480, 541, 621, 658, 683, 720, 745, 801, 826, 863, 888, 901, 914, 951, 976, 1001, 1014, 1039, 1064], 130) := by decide +kernel
theorem d_Law_180 : decode y_Law.2.1 180 = .ok (.aload_n 1, 1) := by decide +kernel
theorem d_Law_181 : decode y_Law.2.1 181 = .ok (.aload_n 0, 1) := by decide +kernel
theorem d_Law_182 : decode y_Law.2.1 182 = .ok (.iload 4, 2) := by decide +kernel
theorem d_Law_184 : decode y_Law.2.1 184 = .ok (.iconst 1, 1) := by decide +kernel
theorem d_Law_185 : decode y_Law.2.1 185 = .ok (.iadd, 1) := by decide +kernel
theorem d_Law_186 : decode y_Law.2.1 186 = .ok (.iaload, 1) := by decide +kernel
theorem d_Law_187 : decode y_Law.2.1 187 = .ok (.aload_n 0, 1) := by decide +kernel
theorem d_Law_188 : decode y_Law.2.1 188 = .ok (.iload 4, 2) := by decide +kernel
theorem d_Law_190 : decode y_Law.2.1 190 = .ok (.iconst 2, 1) := by decide +kernel
theorem d_Law_191 : decode y_Law.2.1 191 = .ok (.iadd, 1) := by decide +kernel
theorem d_Law_192 : decode y_Law.2.1 192 = .ok (.iaload, 1) := by decide +kernel
theorem d_Law_193 : decode y_Law.2.1 193 = .ok (.aload_n 0, 1) := by decide +kernel
theorem d_Law_194 : decode y_Law.2.1 194 = .ok (.iload 4, 2) := by decide +kernel
theorem d_Law_196 : decode y_Law.2.1 196 = .ok (.iconst 3, 1) := by decide +kernel
theorem d_Law_197 : decode y_Law.2.1 197 = .ok (.iadd, 1) := by decide +kernel
theorem d_Law_198 : decode y_Law.2.1 198 = .ok (.iaload, 1) := by decide +kernel
theorem d_Law_199 : decode y_Law.2.1 199 = .ok (.aload_n 0, 1) := by decide +kernel
theorem d_Law_200 : decode y_Law.2.1 200 = .ok (.iload 4, 2) := by decide +kernel
theorem d_Law_202 : decode y_Law.2.1 202 = .ok (.iconst 4, 1) := by decide +kernel
theorem d_Law_203 : decode y_Law.2.1 203 = .ok (.iadd, 1) := by decide +kernel
theorem d_Law_204 : decode y_Law.2.1 204 = .ok (.iaload, 1) := by decide +kernel
theorem d_Law_205 : decode y_Law.2.1 205 = .ok (.aload_n 0, 1) := by decide +kernel
theorem d_Law_206 : decode y_Law.2.1 206 = .ok (.iload 4, 2) := by decide +kernel
theorem d_Law_208 : decode y_Law.2.1 208 = .ok (.iconst 5, 1) := by decide +kernel
theorem d_Law_209 : decode y_Law.2.1 209 = .ok (.iadd, 1) := by decide +kernel
theorem d_Law_210 : decode y_Law.2.1 210 = .ok (.iaload, 1) := by decide +kernel
theorem d_Law_211 : decode y_Law.2.1 211 = .ok (.invokevirtual 31, 3) := by decide +kernel
theorem d_Law_214 : decode y_Law.2.1 214 = .ok (.aload_n 2, 1) := by decide +kernel
theorem d_Law_215 : decode y_Law.2.1 215 = .ok (.aload_n 0, 1) := by decide +kernel
theorem d_Law_216 : decode y_Law.2.1 216 = .ok (.iload 4, 2) := by decide +kernel
theorem d_Law_218 : decode y_Law.2.1 218 = .ok (.iconst 1, 1) := by decide +kernel
theorem d_Law_219 : decode y_Law.2.1 219 = .ok (.iadd, 1) := by decide +kernel
theorem d_Law_220 : decode y_Law.2.1 220 = .ok (.iaload, 1) := by decide +kernel
theorem d_Law_221 : decode y_Law.2.1 221 = .ok (.aload_n 0, 1) := by decide +kernel
theorem d_Law_222 : decode y_Law.2.1 222 = .ok (.iload 4, 2) := by decide +kernel
theorem d_Law_224 : decode y_Law.2.1 224 = .ok (.iconst 2, 1) := by decide +kernel
theorem d_Law_225 : decode y_Law.2.1 225 = .ok (.iadd, 1) := by decide +kernel
theorem d_Law_226 : decode y_Law.2.1 226 = .ok (.iaload, 1) := by decide +kernel
theorem d_Law_227 : decode y_Law.2.1 227 = .ok (.aload_n 0, 1) := by decide +kernel
theorem d_Law_228 : decode y_Law.2.1 228 = .ok (.iload 4, 2) := by decide +kernel
theorem d_Law_230 : decode y_Law.2.1 230 = .ok (.iconst 3, 1) := by decide +kernel
theorem d_Law_231 : decode y_Law.2.1 231 = .ok (.iadd, 1) := by decide +kernel
theorem d_Law_232 : decode y_Law.2.1 232 = .ok (.iaload, 1) := by decide +kernel
theorem d_Law_233 : decode y_Law.2.1 233 = .ok (.aload_n 0, 1) := by decide +kernel
theorem d_Law_234 : decode y_Law.2.1 234 = .ok (.iload 4, 2) := by decide +kernel
theorem d_Law_236 : decode y_Law.2.1 236 = .ok (.iconst 4, 1) := by decide +kernel
theorem d_Law_237 : decode y_Law.2.1 237 = .ok (.iadd, 1) := by decide +kernel
theorem d_Law_238 : decode y_Law.2.1 238 = .ok (.iaload, 1) := by decide +kernel
theorem d_Law_239 : decode y_Law.2.1 239 = .ok (.aload_n 0, 1) := by decide +kernel
theorem d_Law_240 : decode y_Law.2.1 240 = .ok (.iload 4, 2) := by decide +kernel
theorem d_Law_242 : decode y_Law.2.1 242 = .ok (.iconst 5, 1) := by decide +kernel
theorem d_Law_243 : decode y_Law.2.1 243 = .ok (.iadd, 1) := by decide +kernel
theorem d_Law_244 : decode y_Law.2.1 244 = .ok (.iaload, 1) := by decide +kernel
theorem d_Law_245 : decode y_Law.2.1 245 = .ok (.invokevirtual 35, 3) := by decide +kernel
theorem d_Law_248 : decode y_Law.2.1 248 = .ok (.if_icmp .eq 889, 3) := by decide +kernel
theorem d_Law_251 : decode y_Law.2.1 251 = .ok (.iconst 0, 1) := by decide +kernel
theorem d_Law_252 : decode y_Law.2.1 252 = .ok (.ireturn, 1) := by decide +kernel
theorem d_Law_253 : decode y_Law.2.1 253 = .ok (.aload_n 1, 1) := by decide +kernel
theorem d_Law_254 : decode y_Law.2.1 254 = .ok (.aload_n 0, 1) := by decide +kernel
theorem d_Law_255 : decode y_Law.2.1 255 = .ok (.iload 4, 2) := by decide +kernel
theorem d_Law_257 : decode y_Law.2.1 257 = .ok (.iconst 1, 1) := by decide +kernel
theorem d_Law_258 : decode y_Law.2.1 258 = .ok (.iadd, 1) := by decide +kernel
theorem d_Law_259 : decode y_Law.2.1 259 = .ok (.iaload, 1) := by decide +kernel
theorem d_Law_260 : decode y_Law.2.1 260 = .ok (.invokevirtual 36, 3) := by decide +kernel
theorem d_Law_263 : decode y_Law.2.1 263 = .ok (.aload_n 2, 1) := by decide +kernel
theorem d_Law_264 : decode y_Law.2.1 264 = .ok (.aload_n 0, 1) := by decide +kernel
theorem d_Law_265 : decode y_Law.2.1 265 = .ok (.iload 4, 2) := by decide +kernel
theorem d_Law_267 : decode y_Law.2.1 267 = .ok (.iconst 1, 1) := by decide +kernel
theorem d_Law_268 : decode y_Law.2.1 268 = .ok (.iadd, 1) := by decide +kernel
theorem d_Law_269 : decode y_Law.2.1 269 = .ok (.iaload, 1) := by decide +kernel
theorem d_Law_270 : decode y_Law.2.1 270 = .ok (.invokevirtual 40, 3) := by decide +kernel
theorem d_Law_273 : decode y_Law.2.1 273 = .ok (.if_icmp .eq 864, 3) := by decide +kernel
theorem d_Law_276 : decode y_Law.2.1 276 = .ok (.iconst 0, 1) := by decide +kernel
theorem d_Law_277 : decode y_Law.2.1 277 = .ok (.ireturn, 1) := by decide +kernel
theorem d_Law_278 : decode y_Law.2.1 278 = .ok (.aload_n 1, 1) := by decide +kernel
theorem d_Law_279 : decode y_Law.2.1 279 = .ok (.aload_n 0, 1) := by decide +kernel
theorem d_Law_280 : decode y_Law.2.1 280 = .ok (.iload 4, 2) := by decide +kernel
theorem d_Law_282 : decode y_Law.2.1 282 = .ok (.iconst 1, 1) := by decide +kernel
theorem d_Law_283 : decode y_Law.2.1 283 = .ok (.iadd, 1) := by decide +kernel
theorem d_Law_284 : decode y_Law.2.1 284 = .ok (.iaload, 1) := by decide +kernel
theorem d_Law_285 : decode y_Law.2.1 285 = .ok (.invokevirtual 41, 3) := by decide +kernel
theorem d_Law_288 : decode y_Law.2.1 288 = .ok (.aload_n 2, 1) := by decide +kernel
theorem d_Law_289 : decode y_Law.2.1 289 = .ok (.aload_n 0, 1) := by decide +kernel
theorem d_Law_290 : decode y_Law.2.1 290 = .ok (.iload 4, 2) := by decide +kernel
theorem d_Law_292 : decode y_Law.2.1 292 = .ok (.iconst 1, 1) := by decide +kernel
theorem d_Law_293 : decode y_Law.2.1 293 = .ok (.iadd, 1) := by decide +kernel
theorem d_Law_294 : decode y_Law.2.1 294 = .ok (.iaload, 1) := by decide +kernel
theorem d_Law_295 : decode y_Law.2.1 295 = .ok (.invokevirtual 44, 3) := by decide +kernel
theorem d_Law_298 : decode y_Law.2.1 298 = .ok (.if_icmp .eq 839, 3) := by decide +kernel
theorem d_Law_301 : decode y_Law.2.1 301 = .ok (.iconst 0, 1) := by decide +kernel
theorem d_Law_302 : decode y_Law.2.1 302 = .ok (.ireturn, 1) := by decide +kernel
theorem d_Law_303 : decode y_Law.2.1 303 = .ok (.aload_n 1, 1) := by decide +kernel
theorem d_Law_304 : decode y_Law.2.1 304 = .ok (.aload_n 0, 1) := by decide +kernel
theorem d_Law_305 : decode y_Law.2.1 305 = .ok (.iload 4, 2) := by decide +kernel
theorem d_Law_307 : decode y_Law.2.1 307 = .ok (.iconst 1, 1) := by decide +kernel
theorem d_Law_308 : decode y_Law.2.1 308 = .ok (.iadd, 1) := by decide +kernel
theorem d_Law_309 : decode y_Law.2.1 309 = .ok (.iaload, 1) := by decide +kernel
theorem d_Law_310 : decode y_Law.2.1 310 = .ok (.invokevirtual 45, 3) := by decide +kernel
theorem d_Law_313 : decode y_Law.2.1 313 = .ok (.aload_n 2, 1) := by decide +kernel
theorem d_Law_314 : decode y_Law.2.1 314 = .ok (.aload_n 0, 1) := by decide +kernel
theorem d_Law_315 : decode y_Law.2.1 315 = .ok (.iload 4, 2) := by decide +kernel
theorem d_Law_317 : decode y_Law.2.1 317 = .ok (.iconst 1, 1) := by decide +kernel
theorem d_Law_318 : decode y_Law.2.1 318 = .ok (.iadd, 1) := by decide +kernel
theorem d_Law_319 : decode y_Law.2.1 319 = .ok (.iaload, 1) := by decide +kernel
theorem d_Law_320 : decode y_Law.2.1 320 = .ok (.invokevirtual 48, 3) := by decide +kernel
theorem d_Law_323 : decode y_Law.2.1 323 = .ok (.if_icmp .eq 814, 3) := by decide +kernel
theorem d_Law_326 : decode y_Law.2.1 326 = .ok (.iconst 0, 1) := by decide +kernel
theorem d_Law_327 : decode y_Law.2.1 327 = .ok (.ireturn, 1) := by decide +kernel
theorem d_Law_328 : decode y_Law.2.1 328 = .ok (.aload_n 1, 1) := by decide +kernel
theorem d_Law_329 : decode y_Law.2.1 329 = .ok (.invokevirtual 49, 3) := by decide +kernel
theorem d_Law_332 : decode y_Law.2.1 332 = .ok (.aload_n 2, 1) := by decide +kernel
theorem d_Law_333 : decode y_Law.2.1 333 = .ok (.invokevirtual 53, 3) := by decide +kernel
theorem d_Law_336 : decode y_Law.2.1 336 = .ok (.if_icmp .eq 801, 3) := by decide +kernel
theorem d_Law_339 : decode y_Law.2.1 339 = .ok (.iconst 0, 1) := by decide +kernel
theorem d_Law_340 : decode y_Law.2.1 340 = .ok (.ireturn, 1) := by decide +kernel
theorem d_Law_341 : decode y_Law.2.1 341 = .ok (.aload_n 1, 1) := by decide +kernel
theorem d_Law_342 : decode y_Law.2.1 342 = .ok (.invokevirtual 54, 3) := by decide +kernel
theorem d_Law_345 : decode y_Law.2.1 345 = .ok (.aload_n 2, 1) := by decide +kernel
theorem d_Law_346 : decode y_Law.2.1 346 = .ok (.invokevirtual 57, 3) := by decide +kernel
theorem d_Law_349 : decode y_Law.2.1 349 = .ok (.if_icmp .eq 788, 3) := by decide +kernel
theorem d_Law_352 : decode y_Law.2.1 352 = .ok (.iconst 0, 1) := by decide +kernel
theorem d_Law_353 : decode y_Law.2.1 353 = .ok (.ireturn, 1) := by decide +kernel
theorem d_Law_354 : decode y_Law.2.1 354 = .ok (.aload_n 1, 1) := by decide +kernel
theorem d_Law_355 : decode y_Law.2.1 355 = .ok (.aload_n 0, 1) := by decide +kernel
theorem d_Law_356 : decode y_Law.2.1 356 = .ok (.iload 4, 2) := by decide +kernel
theorem d_Law_358 : decode y_Law.2.1 358 = .ok (.iconst 1, 1) := by decide +kernel
theorem d_Law_359 : decode y_Law.2.1 359 = .ok (.iadd, 1) := by decide +kernel
theorem d_Law_360 : decode y_Law.2.1 360 = .ok (.iaload, 1) := by decide +kernel
theorem d_Law_361 : decode y_Law.2.1 361 = .ok (.aload_n 0, 1) := by decide +kernel
theorem d_Law_362 : decode y_Law.2.1 362 = .ok (.iload 4, 2) := by decide +kernel
theorem d_Law_364 : decode y_Law.2.1 364 = .ok (.iconst 2, 1) := by decide +kernel
theorem d_Law_365 : decode y_Law.2.1 365 = .ok (.iadd, 1) := by decide +kernel
theorem d_Law_366 : decode y_Law.2.1 366 = .ok (.iaload, 1) := by decide +kernel
theorem d_Law_367 : decode y_Law.2.1 367 = .ok (.aload_n 0, 1) := by decide +kernel
theorem d_Law_368 : decode y_Law.2.1 368 = .ok (.iload 4, 2) := by decide +kernel
theorem d_Law_370 : decode y_Law.2.1 370 = .ok (.iconst 3, 1) := by decide +kernel
theorem d_Law_371 : decode y_Law.2.1 371 = .ok (.iadd, 1) := by decide +kernel
theorem d_Law_372 : decode y_Law.2.1 372 = .ok (.iaload, 1) := by decide +kernel
theorem d_Law_373 : decode y_Law.2.1 373 = .ok (.invokevirtual 58, 3) := by decide +kernel
theorem d_Law_376 : decode y_Law.2.1 376 = .ok (.aload_n 2, 1) := by decide +kernel
theorem d_Law_377 : decode y_Law.2.1 377 = .ok (.aload_n 0, 1) := by decide +kernel
theorem d_Law_378 : decode y_Law.2.1 378 = .ok (.iload 4, 2) := by decide +kernel
theorem d_Law_380 : decode y_Law.2.1 380 = .ok (.iconst 1, 1) := by decide +kernel
theorem d_Law_381 : decode y_Law.2.1 381 = .ok (.iadd, 1) := by decide +kernel
theorem d_Law_382 : decode y_Law.2.1 382 = .ok (.iaload, 1) := by decide +kernel
theorem d_Law_383 : decode y_Law.2.1 383 = .ok (.aload_n 0, 1) := by decide +kernel
theorem d_Law_384 : decode y_Law.2.1 384 = .ok (.iload 4, 2) := by decide +kernel
theorem d_Law_386 : decode y_Law.2.1 386 = .ok (.iconst 2, 1) := by decide +kernel
theorem d_Law_387 : decode y_Law.2.1 387 = .ok (.iadd, 1) := by decide +kernel
theorem d_Law_388 : decode y_Law.2.1 388 = .ok (.iaload, 1) := by decide +kernel
theorem d_Law_389 : decode y_Law.2.1 389 = .ok (.aload_n 0, 1) := by decide +kernel
theorem d_Law_390 : decode y_Law.2.1 390 = .ok (.iload 4, 2) := by decide +kernel
theorem d_Law_392 : decode y_Law.2.1 392 = .ok (.iconst 3, 1) := by decide +kernel
theorem d_Law_393 : decode y_Law.2.1 393 = .ok (.iadd, 1) := by decide +kernel
theorem d_Law_394 : decode y_Law.2.1 394 = .ok (.iaload, 1) := by decide +kernel
theorem d_Law_395 : decode y_Law.2.1 395 = .ok (.invokevirtual 61, 3) := by decide +kernel
theorem d_Law_398 : decode y_Law.2.1 398 = .ok (.if_icmp .eq 739, 3) := by decide +kernel
theorem d_Law_401 : decode y_Law.2.1 401 = .ok (.iconst 0, 1) := by decide +kernel
theorem d_Law_402 : decode y_Law.2.1 402 = .ok (.ireturn, 1) := by decide +kernel
theorem d_Law_403 : decode y_Law.2.1 403 = .ok (.aload_n 1, 1) := by decide +kernel
theorem d_Law_404 : decode y_Law.2.1 404 = .ok (.aload_n 0, 1) := by decide +kernel
theorem d_Law_405 : decode y_Law.2.1 405 = .ok (.iload 4, 2) := by decide +kernel
theorem d_Law_407 : decode y_Law.2.1 407 = .ok (.iconst 1, 1) := by decide +kernel
theorem d_Law_408 : decode y_Law.2.1 408 = .ok (.iadd, 1) := by decide +kernel
theorem d_Law_409 : decode y_Law.2.1 409 = .ok (.iaload, 1) := by decide +kernel
theorem d_Law_410 : decode y_Law.2.1 410 = .ok (.aload_n 0, 1) := by decide +kernel
theorem d_Law_411 : decode y_Law.2.1 411 = .ok (.iload 4, 2) := by decide +kernel
theorem d_Law_413 : decode y_Law.2.1 413 = .ok (.iconst 2, 1) := by decide +kernel
theorem d_Law_414 : decode y_Law.2.1 414 = .ok (.iadd, 1) := by decide +kernel
theorem d_Law_415 : decode y_Law.2.1 415 = .ok (.iaload, 1) := by decide +kernel
theorem d_Law_416 : decode y_Law.2.1 416 = .ok (.ifCond .eq 7, 3) := by decide +kernel
theorem d_Law_419 : decode y_Law.2.1 419 = .ok (.iconst 1, 1) := by decide +kernel
theorem d_Law_420 : decode y_Law.2.1 420 = .ok (.goto 4, 3) := by decide +kernel
theorem d_Law_423 : decode y_Law.2.1 423 = .ok (.iconst 0, 1) := by decide +kernel
theorem d_Law_424 : decode y_Law.2.1 424 = .ok (.invokevirtual 62, 3) := by decide +kernel
theorem d_Law_427 : decode y_Law.2.1 427 = .ok (.aload_n 2, 1) := by decide +kernel
theorem d_Law_428 : decode y_Law.2.1 428 = .ok (.aload_n 0, 1) := by decide +kernel
theorem d_Law_429 : decode y_Law.2.1 429 = .ok (.iload 4, 2) := by decide +kernel
theorem d_Law_431 : decode y_Law.2.1 431 = .ok (.iconst 1, 1) := by decide +kernel
theorem d_Law_432 : decode y_Law.2.1 432 = .ok (.iadd, 1) := by decide +kernel
theorem d_Law_433 : decode y_Law.2.1 433 = .ok (.iaload, 1) := by decide +kernel
theorem d_Law_434 : decode y_Law.2.1 434 = .ok (.aload_n 0, 1) := by decide +kernel
theorem d_Law_435 : decode y_Law.2.1 435 = .ok (.iload 4, 2) := by decide +kernel
theorem d_Law_437 : decode y_Law.2.1 437 = .ok (.iconst 2, 1) := by decide +kernel
theorem d_Law_438 : decode y_Law.2.1 438 = .ok (.iadd, 1) := by decide +kernel
theorem d_Law_439 : decode y_Law.2.1 439 = .ok (.iaload, 1) := by decide +kernel
theorem d_Law_440 : decode y_Law.2.1 440 = .ok (.ifCond .eq 7, 3) := by decide +kernel
theorem d_Law_443 : decode y_Law.2.1 443 = .ok (.iconst 1, 1) := by decide +kernel
theorem d_Law_444 : decode y_Law.2.1 444 = .ok (.goto 4, 3) := by decide +kernel
theorem d_Law_447 : decode y_Law.2.1 447 = .ok (.iconst 0, 1) := by decide +kernel
theorem d_Law_448 : decode y_Law.2.1 448 = .ok (.invokevirtual 66, 3) := by decide +kernel
theorem d_Law_451 : decode y_Law.2.1 451 = .ok (.if_icmp .eq 686, 3) := by decide +kernel
theorem d_Law_454 : decode y_Law.2.1 454 = .ok (.iconst 0, 1) := by decide +kernel
theorem d_Law_455 : decode y_Law.2.1 455 = .ok (.ireturn, 1) := by decide +kernel
theorem d_Law_456 : decode y_Law.2.1 456 = .ok (.aload_n 1, 1) := by decide +kernel
theorem d_Law_457 : decode y_Law.2.1 457 = .ok (.aload_n 0, 1) := by decide +kernel
theorem d_Law_458 : decode y_Law.2.1 458 = .ok (.iload 4, 2) := by decide +kernel
theorem d_Law_460 : decode y_Law.2.1 460 = .ok (.iconst 1, 1) := by decide +kernel
theorem d_Law_461 : decode y_Law.2.1 461 = .ok (.iadd, 1) := by decide +kernel
theorem d_Law_462 : decode y_Law.2.1 462 = .ok (.iaload, 1) := by decide +kernel
theorem d_Law_463 : decode y_Law.2.1 463 = .ok (.invokevirtual 67, 3) := by decide +kernel
theorem d_Law_466 : decode y_Law.2.1 466 = .ok (.aload_n 2, 1) := by decide +kernel
theorem d_Law_467 : decode y_Law.2.1 467 = .ok (.aload_n 0, 1) := by decide +kernel
theorem d_Law_468 : decode y_Law.2.1 468 = .ok (.iload 4, 2) := by decide +kernel
theorem d_Law_470 : decode y_Law.2.1 470 = .ok (.iconst 1, 1) := by decide +kernel
theorem d_Law_471 : decode y_Law.2.1 471 = .ok (.iadd, 1) := by decide +kernel
theorem d_Law_472 : decode y_Law.2.1 472 = .ok (.iaload, 1) := by decide +kernel
theorem d_Law_473 : decode y_Law.2.1 473 = .ok (.invokevirtual 70, 3) := by decide +kernel
theorem d_Law_476 : decode y_Law.2.1 476 = .ok (.if_icmp .eq 661, 3) := by decide +kernel
theorem d_Law_479 : decode y_Law.2.1 479 = .ok (.iconst 0, 1) := by decide +kernel
theorem d_Law_480 : decode y_Law.2.1 480 = .ok (.ireturn, 1) := by decide +kernel
theorem d_Law_481 : decode y_Law.2.1 481 = .ok (.aload_n 1, 1) := by decide +kernel
theorem d_Law_482 : decode y_Law.2.1 482 = .ok (.aload_n 0, 1) := by decide +kernel
theorem d_Law_483 : decode y_Law.2.1 483 = .ok (.iload 4, 2) := by decide +kernel
theorem d_Law_485 : decode y_Law.2.1 485 = .ok (.iconst 1, 1) := by decide +kernel
theorem d_Law_486 : decode y_Law.2.1 486 = .ok (.iadd, 1) := by decide +kernel
theorem d_Law_487 : decode y_Law.2.1 487 = .ok (.iaload, 1) := by decide +kernel
theorem d_Law_488 : decode y_Law.2.1 488 = .ok (.aload_n 0, 1) := by decide +kernel
theorem d_Law_489 : decode y_Law.2.1 489 = .ok (.iload 4, 2) := by decide +kernel
theorem d_Law_491 : decode y_Law.2.1 491 = .ok (.iconst 2, 1) := by decide +kernel
theorem d_Law_492 : decode y_Law.2.1 492 = .ok (.iadd, 1) := by decide +kernel
theorem d_Law_493 : decode y_Law.2.1 493 = .ok (.iaload, 1) := by decide +kernel
theorem d_Law_494 : decode y_Law.2.1 494 = .ok (.aload_n 0, 1) := by decide +kernel
theorem d_Law_495 : decode y_Law.2.1 495 = .ok (.iload 4, 2) := by decide +kernel
theorem d_Law_497 : decode y_Law.2.1 497 = .ok (.iconst 3, 1) := by decide +kernel
theorem d_Law_498 : decode y_Law.2.1 498 = .ok (.iadd, 1) := by decide +kernel
theorem d_Law_499 : decode y_Law.2.1 499 = .ok (.iaload, 1) := by decide +kernel
theorem d_Law_500 : decode y_Law.2.1 500 = .ok (.invokevirtual 71, 3) := by decide +kernel
theorem d_Law_503 : decode y_Law.2.1 503 = .ok (.aload_n 2, 1) := by decide +kernel
theorem d_Law_504 : decode y_Law.2.1 504 = .ok (.aload_n 0, 1) := by decide +kernel
theorem d_Law_505 : decode y_Law.2.1 505 = .ok (.iload 4, 2) := by decide +kernel
theorem d_Law_507 : decode y_Law.2.1 507 = .ok (.iconst 1, 1) := by decide +kernel
theorem d_Law_508 : decode y_Law.2.1 508 = .ok (.iadd, 1) := by decide +kernel
theorem d_Law_509 : decode y_Law.2.1 509 = .ok (.iaload, 1) := by decide +kernel
theorem d_Law_510 : decode y_Law.2.1 510 = .ok (.aload_n 0, 1) := by decide +kernel
theorem d_Law_511 : decode y_Law.2.1 511 = .ok (.iload 4, 2) := by decide +kernel
theorem d_Law_513 : decode y_Law.2.1 513 = .ok (.iconst 2, 1) := by decide +kernel
theorem d_Law_514 : decode y_Law.2.1 514 = .ok (.iadd, 1) := by decide +kernel
theorem d_Law_515 : decode y_Law.2.1 515 = .ok (.iaload, 1) := by decide +kernel
theorem d_Law_516 : decode y_Law.2.1 516 = .ok (.aload_n 0, 1) := by decide +kernel
theorem d_Law_517 : decode y_Law.2.1 517 = .ok (.iload 4, 2) := by decide +kernel
theorem d_Law_519 : decode y_Law.2.1 519 = .ok (.iconst 3, 1) := by decide +kernel
theorem d_Law_520 : decode y_Law.2.1 520 = .ok (.iadd, 1) := by decide +kernel
theorem d_Law_521 : decode y_Law.2.1 521 = .ok (.iaload, 1) := by decide +kernel
theorem d_Law_522 : decode y_Law.2.1 522 = .ok (.invokevirtual 74, 3) := by decide +kernel
theorem d_Law_525 : decode y_Law.2.1 525 = .ok (.if_icmp .eq 612, 3) := by decide +kernel
theorem d_Law_528 : decode y_Law.2.1 528 = .ok (.iconst 0, 1) := by decide +kernel
theorem d_Law_529 : decode y_Law.2.1 529 = .ok (.ireturn, 1) := by decide +kernel
theorem d_Law_530 : decode y_Law.2.1 530 = .ok (.aload_n 1, 1) := by decide +kernel
theorem d_Law_531 : decode y_Law.2.1 531 = .ok (.aload_n 0, 1) := by decide +kernel
theorem d_Law_532 : decode y_Law.2.1 532 = .ok (.iload 4, 2) := by decide +kernel
theorem d_Law_534 : decode y_Law.2.1 534 = .ok (.iconst 1, 1) := by decide +kernel
theorem d_Law_535 : decode y_Law.2.1 535 = .ok (.iadd, 1) := by decide +kernel
theorem d_Law_536 : decode y_Law.2.1 536 = .ok (.iaload, 1) := by decide +kernel
theorem d_Law_537 : decode y_Law.2.1 537 = .ok (.aload_n 0, 1) := by decide +kernel
theorem d_Law_538 : decode y_Law.2.1 538 = .ok (.iload 4, 2) := by decide +kernel
theorem d_Law_540 : decode y_Law.2.1 540 = .ok (.iconst 2, 1) := by decide +kernel
theorem d_Law_541 : decode y_Law.2.1 541 = .ok (.iadd, 1) := by decide +kernel
theorem d_Law_542 : decode y_Law.2.1 542 = .ok (.iaload, 1) := by decide +kernel
theorem d_Law_543 : decode y_Law.2.1 543 = .ok (.aload_n 0, 1) := by decide +kernel
theorem d_Law_544 : decode y_Law.2.1 544 = .ok (.iload 4, 2) := by decide +kernel
theorem d_Law_546 : decode y_Law.2.1 546 = .ok (.iconst 3, 1) := by decide +kernel
theorem d_Law_547 : decode y_Law.2.1 547 = .ok (.iadd, 1) := by decide +kernel
theorem d_Law_548 : decode y_Law.2.1 548 = .ok (.iaload, 1) := by decide +kernel
theorem d_Law_549 : decode y_Law.2.1 549 = .ok (.aload_n 0, 1) := by decide +kernel
theorem d_Law_550 : decode y_Law.2.1 550 = .ok (.iload 4, 2) := by decide +kernel
theorem d_Law_552 : decode y_Law.2.1 552 = .ok (.iconst 4, 1) := by decide +kernel
theorem d_Law_553 : decode y_Law.2.1 553 = .ok (.iadd, 1) := by decide +kernel
theorem d_Law_554 : decode y_Law.2.1 554 = .ok (.iaload, 1) := by decide +kernel
theorem d_Law_555 : decode y_Law.2.1 555 = .ok (.invokevirtual 75, 3) := by decide +kernel
theorem d_Law_558 : decode y_Law.2.1 558 = .ok (.aload_n 2, 1) := by decide +kernel
theorem d_Law_559 : decode y_Law.2.1 559 = .ok (.aload_n 0, 1) := by decide +kernel
theorem d_Law_560 : decode y_Law.2.1 560 = .ok (.iload 4, 2) := by decide +kernel
theorem d_Law_562 : decode y_Law.2.1 562 = .ok (.iconst 1, 1) := by decide +kernel
theorem d_Law_563 : decode y_Law.2.1 563 = .ok (.iadd, 1) := by decide +kernel
theorem d_Law_564 : decode y_Law.2.1 564 = .ok (.iaload, 1) := by decide +kernel
theorem d_Law_565 : decode y_Law.2.1 565 = .ok (.aload_n 0, 1) := by decide +kernel
theorem d_Law_566 : decode y_Law.2.1 566 = .ok (.iload 4, 2) := by decide +kernel
theorem d_Law_568 : decode y_Law.2.1 568 = .ok (.iconst 2, 1) := by decide +kernel
theorem d_Law_569 : decode y_Law.2.1 569 = .ok (.iadd, 1) := by decide +kernel
theorem d_Law_570 : decode y_Law.2.1 570 = .ok (.iaload, 1) := by decide +kernel
theorem d_Law_571 : decode y_Law.2.1 571 = .ok (.aload_n 0, 1) := by decide +kernel
theorem d_Law_572 : decode y_Law.2.1 572 = .ok (.iload 4, 2) := by decide +kernel
theorem d_Law_574 : decode y_Law.2.1 574 = .ok (.iconst 3, 1) := by decide +kernel
theorem d_Law_575 : decode y_Law.2.1 575 = .ok (.iadd, 1) := by decide +kernel
theorem d_Law_576 : decode y_Law.2.1 576 = .ok (.iaload, 1) := by decide +kernel
theorem d_Law_577 : decode y_Law.2.1 577 = .ok (.aload_n 0, 1) := by decide +kernel
theorem d_Law_578 : decode y_Law.2.1 578 = .ok (.iload 4, 2) := by decide +kernel
theorem d_Law_580 : decode y_Law.2.1 580 = .ok (.iconst 4, 1) := by decide +kernel
theorem d_Law_581 : decode y_Law.2.1 581 = .ok (.iadd, 1) := by decide +kernel
theorem d_Law_582 : decode y_Law.2.1 582 = .ok (.iaload, 1) := by decide +kernel
theorem d_Law_583 : decode y_Law.2.1 583 = .ok (.invokevirtual 79, 3) := by decide +kernel
theorem d_Law_586 : decode y_Law.2.1 586 = .ok (.if_icmp .eq 551, 3) := by decide +kernel
theorem d_Law_589 : decode y_Law.2.1 589 = .ok (.iconst 0, 1) := by decide +kernel
theorem d_Law_590 : decode y_Law.2.1 590 = .ok (.ireturn, 1) := by decide +kernel
theorem d_Law_591 : decode y_Law.2.1 591 = .ok (.aload_n 1, 1) := by decide +kernel
theorem d_Law_592 : decode y_Law.2.1 592 = .ok (.aload_n 0, 1) := by decide +kernel
theorem d_Law_593 : decode y_Law.2.1 593 = .ok (.iload 4, 2) := by decide +kernel
theorem d_Law_595 : decode y_Law.2.1 595 = .ok (.iconst 1, 1) := by decide +kernel
theorem d_Law_596 : decode y_Law.2.1 596 = .ok (.iadd, 1) := by decide +kernel
theorem d_Law_597 : decode y_Law.2.1 597 = .ok (.iaload, 1) := by decide +kernel
theorem d_Law_598 : decode y_Law.2.1 598 = .ok (.aload_n 0, 1) := by decide +kernel
theorem d_Law_599 : decode y_Law.2.1 599 = .ok (.iload 4, 2) := by decide +kernel
theorem d_Law_601 : decode y_Law.2.1 601 = .ok (.iconst 2, 1) := by decide +kernel
theorem d_Law_602 : decode y_Law.2.1 602 = .ok (.iadd, 1) := by decide +kernel
theorem d_Law_603 : decode y_Law.2.1 603 = .ok (.iaload, 1) := by decide +kernel
theorem d_Law_604 : decode y_Law.2.1 604 = .ok (.aload_n 0, 1) := by decide +kernel
theorem d_Law_605 : decode y_Law.2.1 605 = .ok (.iload 4, 2) := by decide +kernel
theorem d_Law_607 : decode y_Law.2.1 607 = .ok (.iconst 3, 1) := by decide +kernel
theorem d_Law_608 : decode y_Law.2.1 608 = .ok (.iadd, 1) := by decide +kernel
theorem d_Law_609 : decode y_Law.2.1 609 = .ok (.iaload, 1) := by decide +kernel
theorem d_Law_610 : decode y_Law.2.1 610 = .ok (.aload_n 3, 1) := by decide +kernel
theorem d_Law_611 : decode y_Law.2.1 611 = .ok (.invokestatic 80, 3) := by decide +kernel
theorem d_Law_614 : decode y_Law.2.1 614 = .ok (.istore 5, 2) := by decide +kernel
theorem d_Law_616 : decode y_Law.2.1 616 = .ok (.aload_n 2, 1) := by decide +kernel
theorem d_Law_617 : decode y_Law.2.1 617 = .ok (.aload_n 0, 1) := by decide +kernel
theorem d_Law_618 : decode y_Law.2.1 618 = .ok (.iload 4, 2) := by decide +kernel
theorem d_Law_620 : decode y_Law.2.1 620 = .ok (.iconst 1, 1) := by decide +kernel
theorem d_Law_621 : decode y_Law.2.1 621 = .ok (.iadd, 1) := by decide +kernel
theorem d_Law_622 : decode y_Law.2.1 622 = .ok (.iaload, 1) := by decide +kernel
theorem d_Law_623 : decode y_Law.2.1 623 = .ok (.aload_n 0, 1) := by decide +kernel
theorem d_Law_624 : decode y_Law.2.1 624 = .ok (.iload 4, 2) := by decide +kernel
theorem d_Law_626 : decode y_Law.2.1 626 = .ok (.iconst 2, 1) := by decide +kernel
theorem d_Law_627 : decode y_Law.2.1 627 = .ok (.iadd, 1) := by decide +kernel
theorem d_Law_628 : decode y_Law.2.1 628 = .ok (.iaload, 1) := by decide +kernel
theorem d_Law_629 : decode y_Law.2.1 629 = .ok (.aload_n 0, 1) := by decide +kernel
theorem d_Law_630 : decode y_Law.2.1 630 = .ok (.iload 4, 2) := by decide +kernel
theorem d_Law_632 : decode y_Law.2.1 632 = .ok (.iconst 3, 1) := by decide +kernel
theorem d_Law_633 : decode y_Law.2.1 633 = .ok (.iadd, 1) := by decide +kernel
theorem d_Law_634 : decode y_Law.2.1 634 = .ok (.iaload, 1) := by decide +kernel
theorem d_Law_635 : decode y_Law.2.1 635 = .ok (.invokevirtual 83, 3) := by decide +kernel
theorem d_Law_638 : decode y_Law.2.1 638 = .ok (.istore 6, 2) := by decide +kernel
theorem d_Law_640 : decode y_Law.2.1 640 = .ok (.aload_n 2, 1) := by decide +kernel
theorem d_Law_641 : decode y_Law.2.1 641 = .ok (.invokevirtual 84, 3) := by decide +kernel
theorem d_Law_644 : decode y_Law.2.1 644 = .ok (.iload 5, 2) := by decide +kernel
theorem d_Law_646 : decode y_Law.2.1 646 = .ok (.if_icmp .eq 5, 3) := by decide +kernel
theorem d_Law_649 : decode y_Law.2.1 649 = .ok (.iconst 0, 1) := by decide +kernel
theorem d_Law_650 : decode y_Law.2.1 650 = .ok (.ireturn, 1) := by decide +kernel
theorem d_Law_651 : decode y_Law.2.1 651 = .ok (.iload 5, 2) := by decide +kernel
theorem d_Law_653 : decode y_Law.2.1 653 = .ok (.ifCond .ne 15, 3) := by decide +kernel
theorem d_Law_656 : decode y_Law.2.1 656 = .ok (.aload_n 3, 1) := by decide +kernel
theorem d_Law_657 : decode y_Law.2.1 657 = .ok (.iconst 0, 1) := by decide +kernel
theorem d_Law_658 : decode y_Law.2.1 658 = .ok (.laload, 1) := by decide +kernel
theorem d_Law_659 : decode y_Law.2.1 659 = .ok (.iload 6, 2) := by decide +kernel
theorem d_Law_661 : decode y_Law.2.1 661 = .ok (.i2l, 1) := by decide +kernel
theorem d_Law_662 : decode y_Law.2.1 662 = .ok (.lcmp, 1) := by decide +kernel
theorem d_Law_663 : decode y_Law.2.1 663 = .ok (.ifCond .eq 5, 3) := by decide +kernel
theorem d_Law_666 : decode y_Law.2.1 666 = .ok (.iconst 0, 1) := by decide +kernel
theorem d_Law_667 : decode y_Law.2.1 667 = .ok (.ireturn, 1) := by decide +kernel
theorem d_Law_668 : decode y_Law.2.1 668 = .ok (.goto 469, 3) := by decide +kernel
theorem d_Law_671 : decode y_Law.2.1 671 = .ok (.aload_n 1, 1) := by decide +kernel
theorem d_Law_672 : decode y_Law.2.1 672 = .ok (.aload_n 0, 1) := by decide +kernel
theorem d_Law_673 : decode y_Law.2.1 673 = .ok (.iload 4, 2) := by decide +kernel
theorem d_Law_675 : decode y_Law.2.1 675 = .ok (.iconst 1, 1) := by decide +kernel
theorem d_Law_676 : decode y_Law.2.1 676 = .ok (.iadd, 1) := by decide +kernel
theorem d_Law_677 : decode y_Law.2.1 677 = .ok (.iaload, 1) := by decide +kernel
theorem d_Law_678 : decode y_Law.2.1 678 = .ok (.aload_n 0, 1) := by decide +kernel
theorem d_Law_679 : decode y_Law.2.1 679 = .ok (.iload 4, 2) := by decide +kernel
theorem d_Law_681 : decode y_Law.2.1 681 = .ok (.iconst 2, 1) := by decide +kernel
theorem d_Law_682 : decode y_Law.2.1 682 = .ok (.iadd, 1) := by decide +kernel
theorem d_Law_683 : decode y_Law.2.1 683 = .ok (.iaload, 1) := by decide +kernel
theorem d_Law_684 : decode y_Law.2.1 684 = .ok (.invokevirtual 87, 3) := by decide +kernel
theorem d_Law_687 : decode y_Law.2.1 687 = .ok (.aload_n 2, 1) := by decide +kernel
theorem d_Law_688 : decode y_Law.2.1 688 = .ok (.aload_n 0, 1) := by decide +kernel
theorem d_Law_689 : decode y_Law.2.1 689 = .ok (.iload 4, 2) := by decide +kernel
theorem d_Law_691 : decode y_Law.2.1 691 = .ok (.iconst 1, 1) := by decide +kernel
theorem d_Law_692 : decode y_Law.2.1 692 = .ok (.iadd, 1) := by decide +kernel
theorem d_Law_693 : decode y_Law.2.1 693 = .ok (.iaload, 1) := by decide +kernel
theorem d_Law_694 : decode y_Law.2.1 694 = .ok (.aload_n 0, 1) := by decide +kernel
theorem d_Law_695 : decode y_Law.2.1 695 = .ok (.iload 4, 2) := by decide +kernel
theorem d_Law_697 : decode y_Law.2.1 697 = .ok (.iconst 2, 1) := by decide +kernel
theorem d_Law_698 : decode y_Law.2.1 698 = .ok (.iadd, 1) := by decide +kernel
theorem d_Law_699 : decode y_Law.2.1 699 = .ok (.iaload, 1) := by decide +kernel
theorem d_Law_700 : decode y_Law.2.1 700 = .ok (.invokevirtual 91, 3) := by decide +kernel
theorem d_Law_703 : decode y_Law.2.1 703 = .ok (.if_icmp .eq 434, 3) := by decide +kernel
theorem d_Law_706 : decode y_Law.2.1 706 = .ok (.iconst 0, 1) := by decide +kernel
theorem d_Law_707 : decode y_Law.2.1 707 = .ok (.ireturn, 1) := by decide +kernel
theorem d_Law_708 : decode y_Law.2.1 708 = .ok (.aload_n 1, 1) := by decide +kernel
theorem d_Law_709 : decode y_Law.2.1 709 = .ok (.aload_n 0, 1) := by decide +kernel
theorem d_Law_710 : decode y_Law.2.1 710 = .ok (.iload 4, 2) := by decide +kernel
theorem d_Law_712 : decode y_Law.2.1 712 = .ok (.iconst 1, 1) := by decide +kernel
theorem d_Law_713 : decode y_Law.2.1 713 = .ok (.iadd, 1) := by decide +kernel
theorem d_Law_714 : decode y_Law.2.1 714 = .ok (.iaload, 1) := by decide +kernel
theorem d_Law_715 : decode y_Law.2.1 715 = .ok (.invokevirtual 92, 3) := by decide +kernel
theorem d_Law_718 : decode y_Law.2.1 718 = .ok (.aload_n 2, 1) := by decide +kernel
theorem d_Law_719 : decode y_Law.2.1 719 = .ok (.aload_n 0, 1) := by decide +kernel
theorem d_Law_720 : decode y_Law.2.1 720 = .ok (.iload 4, 2) := by decide +kernel
theorem d_Law_722 : decode y_Law.2.1 722 = .ok (.iconst 1, 1) := by decide +kernel
theorem d_Law_723 : decode y_Law.2.1 723 = .ok (.iadd, 1) := by decide +kernel
theorem d_Law_724 : decode y_Law.2.1 724 = .ok (.iaload, 1) := by decide +kernel
theorem d_Law_725 : decode y_Law.2.1 725 = .ok (.invokevirtual 95, 3) := by decide +kernel
theorem d_Law_728 : decode y_Law.2.1 728 = .ok (.if_icmp .eq 409, 3) := by decide +kernel
theorem d_Law_731 : decode y_Law.2.1 731 = .ok (.iconst 0, 1) := by decide +kernel
theorem d_Law_732 : decode y_Law.2.1 732 = .ok (.ireturn, 1) := by decide +kernel
theorem d_Law_733 : decode y_Law.2.1 733 = .ok (.aload_n 1, 1) := by decide +kernel
theorem d_Law_734 : decode y_Law.2.1 734 = .ok (.aload_n 0, 1) := by decide +kernel
theorem d_Law_735 : decode y_Law.2.1 735 = .ok (.iload 4, 2) := by decide +kernel
theorem d_Law_737 : decode y_Law.2.1 737 = .ok (.iconst 1, 1) := by decide +kernel
theorem d_Law_738 : decode y_Law.2.1 738 = .ok (.iadd, 1) := by decide +kernel
theorem d_Law_739 : decode y_Law.2.1 739 = .ok (.iaload, 1) := by decide +kernel
theorem d_Law_740 : decode y_Law.2.1 740 = .ok (.aload_n 0, 1) := by decide +kernel
theorem d_Law_741 : decode y_Law.2.1 741 = .ok (.iload 4, 2) := by decide +kernel
theorem d_Law_743 : decode y_Law.2.1 743 = .ok (.iconst 2, 1) := by decide +kernel
theorem d_Law_744 : decode y_Law.2.1 744 = .ok (.iadd, 1) := by decide +kernel
theorem d_Law_745 : decode y_Law.2.1 745 = .ok (.iaload, 1) := by decide +kernel
theorem d_Law_746 : decode y_Law.2.1 746 = .ok (.invokevirtual 96, 3) := by decide +kernel
theorem d_Law_749 : decode y_Law.2.1 749 = .ok (.aload_n 2, 1) := by decide +kernel
theorem d_Law_750 : decode y_Law.2.1 750 = .ok (.aload_n 0, 1) := by decide +kernel
theorem d_Law_751 : decode y_Law.2.1 751 = .ok (.iload 4, 2) := by decide +kernel
theorem d_Law_753 : decode y_Law.2.1 753 = .ok (.iconst 1, 1) := by decide +kernel
theorem d_Law_754 : decode y_Law.2.1 754 = .ok (.iadd, 1) := by decide +kernel
theorem d_Law_755 : decode y_Law.2.1 755 = .ok (.iaload, 1) := by decide +kernel
theorem d_Law_756 : decode y_Law.2.1 756 = .ok (.aload_n 0, 1) := by decide +kernel
theorem d_Law_757 : decode y_Law.2.1 757 = .ok (.iload 4, 2) := by decide +kernel
theorem d_Law_759 : decode y_Law.2.1 759 = .ok (.iconst 2, 1) := by decide +kernel
theorem d_Law_760 : decode y_Law.2.1 760 = .ok (.iadd, 1) := by decide +kernel
theorem d_Law_761 : decode y_Law.2.1 761 = .ok (.iaload, 1) := by decide +kernel
theorem d_Law_762 : decode y_Law.2.1 762 = .ok (.invokevirtual 100, 3) := by decide +kernel
theorem d_Law_765 : decode y_Law.2.1 765 = .ok (.if_icmp .eq 372, 3) := by decide +kernel
theorem d_Law_768 : decode y_Law.2.1 768 = .ok (.iconst 0, 1) := by decide +kernel
theorem d_Law_769 : decode y_Law.2.1 769 = .ok (.ireturn, 1) := by decide +kernel
theorem d_Law_770 : decode y_Law.2.1 770 = .ok (.aload_n 1, 1) := by decide +kernel
theorem d_Law_771 : decode y_Law.2.1 771 = .ok (.aload_n 0, 1) := by decide +kernel
theorem d_Law_772 : decode y_Law.2.1 772 = .ok (.iload 4, 2) := by decide +kernel
theorem d_Law_774 : decode y_Law.2.1 774 = .ok (.iconst 1, 1) := by decide +kernel
theorem d_Law_775 : decode y_Law.2.1 775 = .ok (.iadd, 1) := by decide +kernel
theorem d_Law_776 : decode y_Law.2.1 776 = .ok (.iaload, 1) := by decide +kernel
theorem d_Law_777 : decode y_Law.2.1 777 = .ok (.invokevirtual 101, 3) := by decide +kernel
theorem d_Law_780 : decode y_Law.2.1 780 = .ok (.aload_n 2, 1) := by decide +kernel
theorem d_Law_781 : decode y_Law.2.1 781 = .ok (.aload_n 0, 1) := by decide +kernel
theorem d_Law_782 : decode y_Law.2.1 782 = .ok (.iload 4, 2) := by decide +kernel
theorem d_Law_784 : decode y_Law.2.1 784 = .ok (.iconst 1, 1) := by decide +kernel
theorem d_Law_785 : decode y_Law.2.1 785 = .ok (.iadd, 1) := by decide +kernel
theorem d_Law_786 : decode y_Law.2.1 786 = .ok (.iaload, 1) := by decide +kernel
theorem d_Law_787 : decode y_Law.2.1 787 = .ok (.invokevirtual 104, 3) := by decide +kernel
theorem d_Law_790 : decode y_Law.2.1 790 = .ok (.if_icmp .eq 347, 3) := by decide +kernel
theorem d_Law_793 : decode y_Law.2.1 793 = .ok (.iconst 0, 1) := by decide +kernel
theorem d_Law_794 : decode y_Law.2.1 794 = .ok (.ireturn, 1) := by decide +kernel
theorem d_Law_795 : decode y_Law.2.1 795 = .ok (.aload_n 1, 1) := by decide +kernel
theorem d_Law_796 : decode y_Law.2.1 796 = .ok (.aload_n 0, 1) := by decide +kernel
theorem d_Law_797 : decode y_Law.2.1 797 = .ok (.iload 4, 2) := by decide +kernel
theorem d_Law_799 : decode y_Law.2.1 799 = .ok (.iconst 1, 1) := by decide +kernel
theorem d_Law_800 : decode y_Law.2.1 800 = .ok (.iadd, 1) := by decide +kernel
theorem d_Law_801 : decode y_Law.2.1 801 = .ok (.iaload, 1) := by decide +kernel
theorem d_Law_802 : decode y_Law.2.1 802 = .ok (.aload_n 3, 1) := by decide +kernel
theorem d_Law_803 : decode y_Law.2.1 803 = .ok (.invokestatic 105, 3) := by decide +kernel
theorem d_Law_806 : decode y_Law.2.1 806 = .ok (.istore 5, 2) := by decide +kernel
theorem d_Law_808 : decode y_Law.2.1 808 = .ok (.aload_n 2, 1) := by decide +kernel
theorem d_Law_809 : decode y_Law.2.1 809 = .ok (.aload_n 0, 1) := by decide +kernel
theorem d_Law_810 : decode y_Law.2.1 810 = .ok (.iload 4, 2) := by decide +kernel
theorem d_Law_812 : decode y_Law.2.1 812 = .ok (.iconst 1, 1) := by decide +kernel
theorem d_Law_813 : decode y_Law.2.1 813 = .ok (.iadd, 1) := by decide +kernel
theorem d_Law_814 : decode y_Law.2.1 814 = .ok (.iaload, 1) := by decide +kernel
theorem d_Law_815 : decode y_Law.2.1 815 = .ok (.invokevirtual 108, 3) := by decide +kernel
theorem d_Law_818 : decode y_Law.2.1 818 = .ok (.istore 6, 2) := by decide +kernel
theorem d_Law_820 : decode y_Law.2.1 820 = .ok (.aload_n 2, 1) := by decide +kernel
theorem d_Law_821 : decode y_Law.2.1 821 = .ok (.invokevirtual 84, 3) := by decide +kernel
theorem d_Law_824 : decode y_Law.2.1 824 = .ok (.iload 5, 2) := by decide +kernel
theorem d_Law_826 : decode y_Law.2.1 826 = .ok (.if_icmp .eq 5, 3) := by decide +kernel
theorem d_Law_829 : decode y_Law.2.1 829 = .ok (.iconst 0, 1) := by decide +kernel
theorem d_Law_830 : decode y_Law.2.1 830 = .ok (.ireturn, 1) := by decide +kernel
theorem d_Law_831 : decode y_Law.2.1 831 = .ok (.iload 5, 2) := by decide +kernel
theorem d_Law_833 : decode y_Law.2.1 833 = .ok (.ifCond .ne 15, 3) := by decide +kernel
theorem d_Law_836 : decode y_Law.2.1 836 = .ok (.aload_n 3, 1) := by decide +kernel
theorem d_Law_837 : decode y_Law.2.1 837 = .ok (.iconst 0, 1) := by decide +kernel
theorem d_Law_838 : decode y_Law.2.1 838 = .ok (.laload, 1) := by decide +kernel
theorem d_Law_839 : decode y_Law.2.1 839 = .ok (.iload 6, 2) := by decide +kernel
theorem d_Law_841 : decode y_Law.2.1 841 = .ok (.i2l, 1) := by decide +kernel
theorem d_Law_842 : decode y_Law.2.1 842 = .ok (.lcmp, 1) := by decide +kernel
theorem d_Law_843 : decode y_Law.2.1 843 = .ok (.ifCond .eq 5, 3) := by decide +kernel
theorem d_Law_846 : decode y_Law.2.1 846 = .ok (.iconst 0, 1) := by decide +kernel
theorem d_Law_847 : decode y_Law.2.1 847 = .ok (.ireturn, 1) := by decide +kernel
theorem d_Law_848 : decode y_Law.2.1 848 = .ok (.goto 289, 3) := by decide +kernel
theorem d_Law_851 : decode y_Law.2.1 851 = .ok (.aload_n 1, 1) := by decide +kernel
theorem d_Law_852 : decode y_Law.2.1 852 = .ok (.aload_n 0, 1) := by decide +kernel
theorem d_Law_853 : decode y_Law.2.1 853 = .ok (.iload 4, 2) := by decide +kernel
theorem d_Law_855 : decode y_Law.2.1 855 = .ok (.iconst 1, 1) := by decide +kernel
theorem d_Law_856 : decode y_Law.2.1 856 = .ok (.iadd, 1) := by decide +kernel
theorem d_Law_857 : decode y_Law.2.1 857 = .ok (.iaload, 1) := by decide +kernel
theorem d_Law_858 : decode y_Law.2.1 858 = .ok (.invokevirtual 109, 3) := by decide +kernel
theorem d_Law_861 : decode y_Law.2.1 861 = .ok (.aload_n 2, 1) := by decide +kernel
theorem d_Law_862 : decode y_Law.2.1 862 = .ok (.aload_n 0, 1) := by decide +kernel
theorem d_Law_863 : decode y_Law.2.1 863 = .ok (.iload 4, 2) := by decide +kernel
theorem d_Law_865 : decode y_Law.2.1 865 = .ok (.iconst 1, 1) := by decide +kernel
theorem d_Law_866 : decode y_Law.2.1 866 = .ok (.iadd, 1) := by decide +kernel
theorem d_Law_867 : decode y_Law.2.1 867 = .ok (.iaload, 1) := by decide +kernel
theorem d_Law_868 : decode y_Law.2.1 868 = .ok (.invokevirtual 112, 3) := by decide +kernel
theorem d_Law_871 : decode y_Law.2.1 871 = .ok (.if_icmp .eq 266, 3) := by decide +kernel
theorem d_Law_874 : decode y_Law.2.1 874 = .ok (.iconst 0, 1) := by decide +kernel
theorem d_Law_875 : decode y_Law.2.1 875 = .ok (.ireturn, 1) := by decide +kernel
theorem d_Law_876 : decode y_Law.2.1 876 = .ok (.aload_n 1, 1) := by decide +kernel
theorem d_Law_877 : decode y_Law.2.1 877 = .ok (.aload_n 0, 1) := by decide +kernel
theorem d_Law_878 : decode y_Law.2.1 878 = .ok (.iload 4, 2) := by decide +kernel
theorem d_Law_880 : decode y_Law.2.1 880 = .ok (.iconst 1, 1) := by decide +kernel
theorem d_Law_881 : decode y_Law.2.1 881 = .ok (.iadd, 1) := by decide +kernel
theorem d_Law_882 : decode y_Law.2.1 882 = .ok (.iaload, 1) := by decide +kernel
theorem d_Law_883 : decode y_Law.2.1 883 = .ok (.aload_n 0, 1) := by decide +kernel
theorem d_Law_884 : decode y_Law.2.1 884 = .ok (.iload 4, 2) := by decide +kernel
theorem d_Law_886 : decode y_Law.2.1 886 = .ok (.iconst 2, 1) := by decide +kernel
theorem d_Law_887 : decode y_Law.2.1 887 = .ok (.iadd, 1) := by decide +kernel
theorem d_Law_888 : decode y_Law.2.1 888 = .ok (.iaload, 1) := by decide +kernel
theorem d_Law_889 : decode y_Law.2.1 889 = .ok (.invokevirtual 113, 3) := by decide +kernel
theorem d_Law_892 : decode y_Law.2.1 892 = .ok (.aload_n 2, 1) := by decide +kernel
theorem d_Law_893 : decode y_Law.2.1 893 = .ok (.aload_n 0, 1) := by decide +kernel
theorem d_Law_894 : decode y_Law.2.1 894 = .ok (.iload 4, 2) := by decide +kernel
theorem d_Law_896 : decode y_Law.2.1 896 = .ok (.iconst 1, 1) := by decide +kernel
theorem d_Law_897 : decode y_Law.2.1 897 = .ok (.iadd, 1) := by decide +kernel
theorem d_Law_898 : decode y_Law.2.1 898 = .ok (.iaload, 1) := by decide +kernel
theorem d_Law_899 : decode y_Law.2.1 899 = .ok (.aload_n 0, 1) := by decide +kernel
theorem d_Law_900 : decode y_Law.2.1 900 = .ok (.iload 4, 2) := by decide +kernel
theorem d_Law_902 : decode y_Law.2.1 902 = .ok (.iconst 2, 1) := by decide +kernel
theorem d_Law_903 : decode y_Law.2.1 903 = .ok (.iadd, 1) := by decide +kernel
theorem d_Law_904 : decode y_Law.2.1 904 = .ok (.iaload, 1) := by decide +kernel
theorem d_Law_905 : decode y_Law.2.1 905 = .ok (.invokevirtual 116, 3) := by decide +kernel
theorem d_Law_908 : decode y_Law.2.1 908 = .ok (.if_icmp .eq 229, 3) := by decide +kernel
theorem d_Law_911 : decode y_Law.2.1 911 = .ok (.iconst 0, 1) := by decide +kernel
theorem d_Law_912 : decode y_Law.2.1 912 = .ok (.ireturn, 1) := by decide +kernel
theorem d_Law_913 : decode y_Law.2.1 913 = .ok (.aload_n 1, 1) := by decide +kernel
theorem d_Law_914 : decode y_Law.2.1 914 = .ok (.aload_n 0, 1) := by decide +kernel
theorem d_Law_915 : decode y_Law.2.1 915 = .ok (.iload 4, 2) := by decide +kernel
theorem d_Law_917 : decode y_Law.2.1 917 = .ok (.iconst 1, 1) := by decide +kernel
theorem d_Law_918 : decode y_Law.2.1 918 = .ok (.iadd, 1) := by decide +kernel
theorem d_Law_919 : decode y_Law.2.1 919 = .ok (.iaload, 1) := by decide +kernel
theorem d_Law_920 : decode y_Law.2.1 920 = .ok (.invokevirtual 117, 3) := by decide +kernel
theorem d_Law_923 : decode y_Law.2.1 923 = .ok (.aload_n 2, 1) := by decide +kernel
theorem d_Law_924 : decode y_Law.2.1 924 = .ok (.aload_n 0, 1) := by decide +kernel
theorem d_Law_925 : decode y_Law.2.1 925 = .ok (.iload 4, 2) := by decide +kernel
theorem d_Law_927 : decode y_Law.2.1 927 = .ok (.iconst 1, 1) := by decide +kernel
theorem d_Law_928 : decode y_Law.2.1 928 = .ok (.iadd, 1) := by decide +kernel
theorem d_Law_929 : decode y_Law.2.1 929 = .ok (.iaload, 1) := by decide +kernel
theorem d_Law_930 : decode y_Law.2.1 930 = .ok (.invokevirtual 120, 3) := by decide +kernel
theorem d_Law_933 : decode y_Law.2.1 933 = .ok (.if_icmp .eq 204, 3) := by decide +kernel
theorem d_Law_936 : decode y_Law.2.1 936 = .ok (.iconst 0, 1) := by decide +kernel
theorem d_Law_937 : decode y_Law.2.1 937 = .ok (.ireturn, 1) := by decide +kernel
theorem d_Law_938 : decode y_Law.2.1 938 = .ok (.aload_n 1, 1) := by decide +kernel
theorem d_Law_939 : decode y_Law.2.1 939 = .ok (.invokevirtual 121, 3) := by decide +kernel
theorem d_Law_942 : decode y_Law.2.1 942 = .ok (.aload_n 2, 1) := by decide +kernel
theorem d_Law_943 : decode y_Law.2.1 943 = .ok (.invokevirtual 124, 3) := by decide +kernel
theorem d_Law_946 : decode y_Law.2.1 946 = .ok (.if_icmp .eq 191, 3) := by decide +kernel
theorem d_Law_949 : decode y_Law.2.1 949 = .ok (.iconst 0, 1) := by decide +kernel
theorem d_Law_950 : decode y_Law.2.1 950 = .ok (.ireturn, 1) := by decide +kernel
theorem d_Law_951 : decode y_Law.2.1 951 = .ok (.aload_n 1, 1) := by decide +kernel
theorem d_Law_952 : decode y_Law.2.1 952 = .ok (.invokevirtual 125, 3) := by decide +kernel
theorem d_Law_955 : decode y_Law.2.1 955 = .ok (.aload_n 2, 1) := by decide +kernel
theorem d_Law_956 : decode y_Law.2.1 956 = .ok (.invokevirtual 128, 3) := by decide +kernel
theorem d_Law_959 : decode y_Law.2.1 959 = .ok (.if_icmp .eq 178, 3) := by decide +kernel
theorem d_Law_962 : decode y_Law.2.1 962 = .ok (.iconst 0, 1) := by decide +kernel
theorem d_Law_963 : decode y_Law.2.1 963 = .ok (.ireturn, 1) := by decide +kernel
theorem d_Law_964 : decode y_Law.2.1 964 = .ok (.aload_n 1, 1) := by decide +kernel
theorem d_Law_965 : decode y_Law.2.1 965 = .ok (.aload_n 0, 1) := by decide +kernel
theorem d_Law_966 : decode y_Law.2.1 966 = .ok (.iload 4, 2) := by decide +kernel
theorem d_Law_968 : decode y_Law.2.1 968 = .ok (.iconst 1, 1) := by decide +kernel
theorem d_Law_969 : decode y_Law.2.1 969 = .ok (.iadd, 1) := by decide +kernel
theorem d_Law_970 : decode y_Law.2.1 970 = .ok (.iaload, 1) := by decide +kernel
theorem d_Law_971 : decode y_Law.2.1 971 = .ok (.aload_n 0, 1) := by decide +kernel
theorem d_Law_972 : decode y_Law.2.1 972 = .ok (.iload 4, 2) := by decide +kernel
theorem d_Law_974 : decode y_Law.2.1 974 = .ok (.iconst 2, 1) := by decide +kernel
theorem d_Law_975 : decode y_Law.2.1 975 = .ok (.iadd, 1) := by decide +kernel
theorem d_Law_976 : decode y_Law.2.1 976 = .ok (.iaload, 1) := by decide +kernel
theorem d_Law_977 : decode y_Law.2.1 977 = .ok (.invokevirtual 129, 3) := by decide +kernel
theorem d_Law_980 : decode y_Law.2.1 980 = .ok (.aload_n 2, 1) := by decide +kernel
theorem d_Law_981 : decode y_Law.2.1 981 = .ok (.aload_n 0, 1) := by decide +kernel
theorem d_Law_982 : decode y_Law.2.1 982 = .ok (.iload 4, 2) := by decide +kernel
theorem d_Law_984 : decode y_Law.2.1 984 = .ok (.iconst 1, 1) := by decide +kernel
theorem d_Law_985 : decode y_Law.2.1 985 = .ok (.iadd, 1) := by decide +kernel
theorem d_Law_986 : decode y_Law.2.1 986 = .ok (.iaload, 1) := by decide +kernel
theorem d_Law_987 : decode y_Law.2.1 987 = .ok (.aload_n 0, 1) := by decide +kernel
theorem d_Law_988 : decode y_Law.2.1 988 = .ok (.iload 4, 2) := by decide +kernel
theorem d_Law_990 : decode y_Law.2.1 990 = .ok (.iconst 2, 1) := by decide +kernel
theorem d_Law_991 : decode y_Law.2.1 991 = .ok (.iadd, 1) := by decide +kernel
theorem d_Law_992 : decode y_Law.2.1 992 = .ok (.iaload, 1) := by decide +kernel
theorem d_Law_993 : decode y_Law.2.1 993 = .ok (.invokevirtual 132, 3) := by decide +kernel
theorem d_Law_996 : decode y_Law.2.1 996 = .ok (.if_icmp .eq 141, 3) := by decide +kernel
theorem d_Law_999 : decode y_Law.2.1 999 = .ok (.iconst 0, 1) := by decide +kernel
theorem d_Law_1000 : decode y_Law.2.1 1000 = .ok (.ireturn, 1) := by decide +kernel
theorem d_Law_1001 : decode y_Law.2.1 1001 = .ok (.aload_n 1, 1) := by decide +kernel
theorem d_Law_1002 : decode y_Law.2.1 1002 = .ok (.aload_n 0, 1) := by decide +kernel
theorem d_Law_1003 : decode y_Law.2.1 1003 = .ok (.iload 4, 2) := by decide +kernel
theorem d_Law_1005 : decode y_Law.2.1 1005 = .ok (.iconst 1, 1) := by decide +kernel
theorem d_Law_1006 : decode y_Law.2.1 1006 = .ok (.iadd, 1) := by decide +kernel
theorem d_Law_1007 : decode y_Law.2.1 1007 = .ok (.iaload, 1) := by decide +kernel
theorem d_Law_1008 : decode y_Law.2.1 1008 = .ok (.invokevirtual 133, 3) := by decide +kernel
theorem d_Law_1011 : decode y_Law.2.1 1011 = .ok (.aload_n 2, 1) := by decide +kernel
theorem d_Law_1012 : decode y_Law.2.1 1012 = .ok (.aload_n 0, 1) := by decide +kernel
theorem d_Law_1013 : decode y_Law.2.1 1013 = .ok (.iload 4, 2) := by decide +kernel
theorem d_Law_1015 : decode y_Law.2.1 1015 = .ok (.iconst 1, 1) := by decide +kernel
theorem d_Law_1016 : decode y_Law.2.1 1016 = .ok (.iadd, 1) := by decide +kernel
theorem d_Law_1017 : decode y_Law.2.1 1017 = .ok (.iaload, 1) := by decide +kernel
theorem d_Law_1018 : decode y_Law.2.1 1018 = .ok (.invokevirtual 136, 3) := by decide +kernel
theorem d_Law_1021 : decode y_Law.2.1 1021 = .ok (.if_icmp .eq 116, 3) := by decide +kernel
theorem d_Law_1024 : decode y_Law.2.1 1024 = .ok (.iconst 0, 1) := by decide +kernel
theorem d_Law_1025 : decode y_Law.2.1 1025 = .ok (.ireturn, 1) := by decide +kernel
theorem d_Law_1026 : decode y_Law.2.1 1026 = .ok (.aload_n 1, 1) := by decide +kernel
theorem d_Law_1027 : decode y_Law.2.1 1027 = .ok (.aload_n 0, 1) := by decide +kernel
theorem d_Law_1028 : decode y_Law.2.1 1028 = .ok (.iload 4, 2) := by decide +kernel
theorem d_Law_1030 : decode y_Law.2.1 1030 = .ok (.iconst 1, 1) := by decide +kernel
theorem d_Law_1031 : decode y_Law.2.1 1031 = .ok (.iadd, 1) := by decide +kernel
theorem d_Law_1032 : decode y_Law.2.1 1032 = .ok (.iaload, 1) := by decide +kernel
theorem d_Law_1033 : decode y_Law.2.1 1033 = .ok (.invokevirtual 137, 3) := by decide +kernel
theorem d_Law_1036 : decode y_Law.2.1 1036 = .ok (.aload_n 2, 1) := by decide +kernel
theorem d_Law_1037 : decode y_Law.2.1 1037 = .ok (.aload_n 0, 1) := by decide +kernel
theorem d_Law_1038 : decode y_Law.2.1 1038 = .ok (.iload 4, 2) := by decide +kernel
theorem d_Law_1040 : decode y_Law.2.1 1040 = .ok (.iconst 1, 1) := by decide +kernel
theorem d_Law_1041 : decode y_Law.2.1 1041 = .ok (.iadd, 1) := by decide +kernel
theorem d_Law_1042 : decode y_Law.2.1 1042 = .ok (.iaload, 1) := by decide +kernel
theorem d_Law_1043 : decode y_Law.2.1 1043 = .ok (.invokevirtual 140, 3) := by decide +kernel
theorem d_Law_1046 : decode y_Law.2.1 1046 = .ok (.if_icmp .eq 91, 3) := by decide +kernel
theorem d_Law_1049 : decode y_Law.2.1 1049 = .ok (.iconst 0, 1) := by decide +kernel
theorem d_Law_1050 : decode y_Law.2.1 1050 = .ok (.ireturn, 1) := by decide +kernel
theorem d_Law_1051 : decode y_Law.2.1 1051 = .ok (.aload_n 1, 1) := by decide +kernel
theorem d_Law_1052 : decode y_Law.2.1 1052 = .ok (.invokevirtual 141, 3) := by decide +kernel
theorem d_Law_1055 : decode y_Law.2.1 1055 = .ok (.aload_n 2, 1) := by decide +kernel
theorem d_Law_1056 : decode y_Law.2.1 1056 = .ok (.invokevirtual 144, 3) := by decide +kernel
theorem d_Law_1059 : decode y_Law.2.1 1059 = .ok (.if_icmp .eq 78, 3) := by decide +kernel
theorem d_Law_1062 : decode y_Law.2.1 1062 = .ok (.iconst 0, 1) := by decide +kernel
theorem d_Law_1063 : decode y_Law.2.1 1063 = .ok (.ireturn, 1) := by decide +kernel
theorem d_Law_1064 : decode y_Law.2.1 1064 = .ok (.aload_n 1, 1) := by decide +kernel
theorem d_Law_1065 : decode y_Law.2.1 1065 = .ok (.aload_n 0, 1) := by decide +kernel
theorem d_Law_1066 : decode y_Law.2.1 1066 = .ok (.iload 4, 2) := by decide +kernel
theorem d_Law_1068 : decode y_Law.2.1 1068 = .ok (.iconst 1, 1) := by decide +kernel
theorem d_Law_1069 : decode y_Law.2.1 1069 = .ok (.iadd, 1) := by decide +kernel
theorem d_Law_1070 : decode y_Law.2.1 1070 = .ok (.iaload, 1) := by decide +kernel
theorem d_Law_1071 : decode y_Law.2.1 1071 = .ok (.invokevirtual 145, 3) := by decide +kernel
theorem d_Law_1074 : decode y_Law.2.1 1074 = .ok (.aload_n 2, 1) := by decide +kernel
theorem d_Law_1075 : decode y_Law.2.1 1075 = .ok (.aload_n 0, 1) := by decide +kernel
theorem d_Law_1076 : decode y_Law.2.1 1076 = .ok (.iload 4, 2) := by decide +kernel
theorem d_Law_1078 : decode y_Law.2.1 1078 = .ok (.iconst 1, 1) := by decide +kernel
theorem d_Law_1079 : decode y_Law.2.1 1079 = .ok (.iadd, 1) := by decide +kernel
theorem d_Law_1080 : decode y_Law.2.1 1080 = .ok (.iaload, 1) := by decide +kernel
theorem d_Law_1081 : decode y_Law.2.1 1081 = .ok (.invokevirtual 148, 3) := by decide +kernel
theorem d_Law_1084 : decode y_Law.2.1 1084 = .ok (.if_icmp .eq 53, 3) := by decide +kernel
theorem d_Law_1087 : decode y_Law.2.1 1087 = .ok (.iconst 0, 1) := by decide +kernel
theorem d_Law_1088 : decode y_Law.2.1 1088 = .ok (.ireturn, 1) := by decide +kernel
theorem d_Law_1089 : decode y_Law.2.1 1089 = .ok (.aload_n 1, 1) := by decide +kernel
theorem d_Law_1090 : decode y_Law.2.1 1090 = .ok (.aload_n 0, 1) := by decide +kernel
theorem d_Law_1091 : decode y_Law.2.1 1091 = .ok (.iload 4, 2) := by decide +kernel
theorem d_Law_1093 : decode y_Law.2.1 1093 = .ok (.iconst 1, 1) := by decide +kernel
theorem d_Law_1094 : decode y_Law.2.1 1094 = .ok (.iadd, 1) := by decide +kernel
theorem d_Law_1095 : decode y_Law.2.1 1095 = .ok (.iaload, 1) := by decide +kernel
theorem d_Law_1096 : decode y_Law.2.1 1096 = .ok (.invokevirtual 149, 3) := by decide +kernel
theorem d_Law_1099 : decode y_Law.2.1 1099 = .ok (.aload_n 2, 1) := by decide +kernel
theorem d_Law_1100 : decode y_Law.2.1 1100 = .ok (.aload_n 0, 1) := by decide +kernel
theorem d_Law_1101 : decode y_Law.2.1 1101 = .ok (.iload 4, 2) := by decide +kernel
theorem d_Law_1103 : decode y_Law.2.1 1103 = .ok (.iconst 1, 1) := by decide +kernel
theorem d_Law_1104 : decode y_Law.2.1 1104 = .ok (.iadd, 1) := by decide +kernel
theorem d_Law_1105 : decode y_Law.2.1 1105 = .ok (.iaload, 1) := by decide +kernel
theorem d_Law_1106 : decode y_Law.2.1 1106 = .ok (.invokevirtual 152, 3) := by decide +kernel
theorem d_Law_1109 : decode y_Law.2.1 1109 = .ok (.if_icmp .eq 28, 3) := by decide +kernel
theorem d_Law_1112 : decode y_Law.2.1 1112 = .ok (.iconst 0, 1) := by decide +kernel
theorem d_Law_1113 : decode y_Law.2.1 1113 = .ok (.ireturn, 1) := by decide +kernel
theorem d_Law_1114 : decode y_Law.2.1 1114 = .ok (.aload_n 1, 1) := by decide +kernel
theorem d_Law_1115 : decode y_Law.2.1 1115 = .ok (.aload_n 0, 1) := by decide +kernel
theorem d_Law_1116 : decode y_Law.2.1 1116 = .ok (.iload 4, 2) := by decide +kernel
theorem d_Law_1118 : decode y_Law.2.1 1118 = .ok (.iconst 1, 1) := by decide +kernel
theorem d_Law_1119 : decode y_Law.2.1 1119 = .ok (.iadd, 1) := by decide +kernel
theorem d_Law_1120 : decode y_Law.2.1 1120 = .ok (.iaload, 1) := by decide +kernel
theorem d_Law_1121 : decode y_Law.2.1 1121 = .ok (.invokevirtual 153, 3) := by decide +kernel
theorem d_Law_1124 : decode y_Law.2.1 1124 = .ok (.aload_n 2, 1) := by decide +kernel
theorem d_Law_1125 : decode y_Law.2.1 1125 = .ok (.aload_n 0, 1) := by decide +kernel
theorem d_Law_1126 : decode y_Law.2.1 1126 = .ok (.iload 4, 2) := by decide +kernel
theorem d_Law_1128 : decode y_Law.2.1 1128 = .ok (.iconst 1, 1) := by decide +kernel
theorem d_Law_1129 : decode y_Law.2.1 1129 = .ok (.iadd, 1) := by decide +kernel
theorem d_Law_1130 : decode y_Law.2.1 1130 = .ok (.iaload, 1) := by decide +kernel
theorem d_Law_1131 : decode y_Law.2.1 1131 = .ok (.invokevirtual 156, 3) := by decide +kernel
theorem d_Law_1134 : decode y_Law.2.1 1134 = .ok (.goto 3, 3) := by decide +kernel
theorem d_Law_1137 : decode y_Law.2.1 1137 = .ok (.iinc 4 6, 3) := by decide +kernel
theorem d_Law_1140 : decode y_Law.2.1 1140 = .ok (.goto (-1107), 3) := by decide +kernel
theorem d_Law_1143 : decode y_Law.2.1 1143 = .ok (.iconst 1, 1) := by decide +kernel
theorem d_Law_1144 : decode y_Law.2.1 1144 = .ok (.ireturn, 1) := by decide +kernel
theorem law7 {sL : Nat} (hL : sL ≤ 7) (c : ¬ nI sL - 6 < 1) : sL = 7 := by
  have : sL = 0 ∨ sL = 1 ∨ sL = 2 ∨ sL = 3 ∨ sL = 4 ∨ sL = 5 ∨ sL = 6 ∨ sL = 7 := by omega
  rcases this with rfl | rfl | rfl | rfl | rfl | rfl | rfl | rfl
  all_goals first | rfl | exact absurd (by decide) c
theorem law7b : nI 7 - 6 < 7 := by decide
set_option maxRecDepth 20000 in
set_option maxHeartbeats 20000000 in
theorem law_body {p : Program} {l : Launch} {e : Env} {s : State} {m : MethodId} {args : Array Value} {below : List Frame} {meth : Method} {c : Code} {G : ab_G} {sL : Nat} {sxs : Nat → Int32} (hX : ab_X y_Law p l s m args meth c) (hK : pw_K G sL sxs s) (hL : sL ≤ 7) : pw_V p l e s m args below meth c G y_Law room_1 (fun o _ => o = .returned (some (.int 1))) room_1.cells room_1.slots 0 0 0 [some (.float 300), none, none, none, none, none, none] [] [] := by
  have hlen : ([] : List ab_E).length = 0 := rfl
  generalize ([] : List ab_E) = h at hlen ⊢
  refine pw_newL hX (ci := 0) (fs := [.null, .null, .null, .null, .null, .null, .int 0, .int 0, .int 0]) hlen d_Law_0 rfl (k1 31 rfl rfl) (k1 32 rfl rfl) (k1 1 rfl rfl) rfl rfl (by decide) (by decide) (fun h1 e2 e3 e4 => ?_)
  have c5 : h1[0]? = some (.inr (0, [.null, .null, .null, .null, .null, .null, .int 0, .int 0, .int 0])) := e3
  have l6 : h1.length = 0 + 1 := e2
  refine pw_dup hX d_Law_3 rfl ?_
  refine pw_aload_n hX d_Law_4 rfl rfl rfl ?_
  refine pw_iconst hX (v := 0) d_Law_5 (by decide) ?_
  refine pw_callS_a hX (As := [.float 300, .int 0]) (rest := [.ref 0, .ref 0]) d_Law_6 hK (f_cell (by omega)) (ab_mkC s_Law_cell (Nat.le_of_ble_eq_true rfl) (Nat.le_of_ble_eq_true rfl) (by decide) (by decide)) (k8 111 rfl rfl) t_Law_cell rfl (Nat.le_of_ble_eq_true rfl) (fun h8 q7 => ?_)
  subst q7
  refine pw_topi hX (fun x9 ex9 => ?_)
  refine pw_callI_v hX (As := [.int x9]) (rest := [.ref 0]) d_Law_9 hK (pw_ofM (c_W_init c5 l6)) (ab_mkC s_W_init (Nat.le_of_ble_eq_true rfl) (Nat.le_of_ble_eq_true rfl) (by decide) (by decide)) (k1 33 rfl rfl) i_W_init rfl (k1 35 rfl rfl) rfl (Nat.le_of_ble_eq_true rfl) (fun h10 q11 => ?_)
  obtain ⟨kf12, l13, f14⟩ := q11
  replace l13 : h10.length = 0 + 517 := l13
  refine pw_astore_n hX (lv' := [some (.float 300), some (.ref 0), none, none, none, none, none]) d_Law_12 rfl (by decide) rfl rfl ?_
  refine pw_newL hX (ci := 12) (fs := [.int 0, .null, .int 0, .null, .null, .int 0, .int 0, .int 0, .null, .null, .null, .null, .int 0, .int 0, .null, .null, .null, .null, .null, .null, .int 0, .null, .int 0, .int 0, .int 0, .null, .null, .int 0, .int 0]) l13 d_Law_13 rfl (k8 147 rfl rfl) (k8 148 rfl rfl) (k1 19 rfl rfl) rfl rfl (by decide) (by decide) (fun h15 e16 e17 e18 => ?_)
  have c19 : h15[0 + 517]? = some (.inr (12, [.int 0, .null, .int 0, .null, .null, .int 0, .int 0, .int 0, .null, .null, .null, .null, .int 0, .int 0, .null, .null, .null, .null, .null, .null, .int 0, .null, .int 0, .int 0, .int 0, .null, .null, .int 0, .int 0])) := e17
  have f20 : ab_fr (fun i => False) h10 h15 := ab_fr_new (ab_fr_rf _ _) e18 e16 l13
  have kf21 : at_W0 h15 0 x9 := fr_W0 f20 kf12 (by intro i hi hs; simp only [in_W0] at hi hs <;> omega)
  have l22 : h15.length = 0 + 518 := e16
  refine pw_dup hX d_Law_16 rfl ?_
  refine pw_aload_n hX d_Law_17 rfl rfl rfl ?_
  refine pw_iconst hX (v := 0) d_Law_18 (by decide) ?_
  refine pw_callS_a hX (As := [.float 300, .int 0]) (rest := [.ref (0 + 517), .ref (0 + 517)]) d_Law_19 hK (f_cell (by omega)) (ab_mkC s_Law_cell (Nat.le_of_ble_eq_true rfl) (Nat.le_of_ble_eq_true rfl) (by decide) (by decide)) (k8 111 rfl rfl) t_Law_cell rfl (Nat.le_of_ble_eq_true rfl) (fun h24 q23 => ?_)
  subst q23
  refine pw_topi hX (fun x25 ex25 => ?_)
  obtain rfl : x9 = x25 := ex9.trans ex25.symm
  refine pw_callI_v hX (As := [.int x9]) (rest := [.ref (0 + 517)]) d_Law_22 hK (pw_ofM (c_M_init c19 l22)) (ab_mkC s_M_init (Nat.le_of_ble_eq_true rfl) (Nat.le_of_ble_eq_true rfl) (by decide) (by decide)) (k8 149 rfl rfl) i_M_init rfl (k8 151 rfl rfl) rfl (Nat.le_of_ble_eq_true rfl) (fun h26 q27 => ?_)
  obtain ⟨kf28, l29, f30⟩ := q27
  replace l29 : h26.length = 0 + 625 := l29
  have kf31 : at_W0 h26 0 x9 := fr_W0 f30 kf21 (by intro i hi hs; simp only [in_W0, in_up] at hi hs <;> omega)
  refine pw_astore_n hX (lv' := [some (.float 300), some (.ref 0), some (.ref (0 + 517)), none, none, none, none]) d_Law_25 rfl (by decide) rfl rfl ?_
  refine pw_iconst hX (v := 1) d_Law_26 (by decide) ?_
  refine pw_newaL hX (N := 1) l29 d_Law_27 rfl (k13 85 rfl rfl) tJ (Or.inr (Or.inr (Or.inr (Or.inr rfl)))) (by decide) (by decide) (by decide) (by decide) (by decide) (fun h32 e33 e34 e35 => ?_)
  have c36 : h32[0 + 625]? = some (.inl (.long, 1, .inr (.inl (fun _ => 0)))) := e34
  have f37 : ab_fr (fun i => False) h26 h32 := ab_fr_new (ab_fr_rf _ _) e35 e33 l29
  have kf38 : at_W0 h32 0 x9 := fr_W0 f37 kf31 (by intro i hi hs; simp only [in_W0] at hi hs <;> omega)
  have kf39 : at_M0 h32 (0 + 517) x9 := fr_M0 f37 kf28 (by intro i hi hs; simp only [in_M0] at hi hs <;> omega)
  have l40 : h32.length = 0 + 626 := e33
  refine pw_astore_n hX (lv' := [some (.float 300), some (.ref 0), some (.ref (0 + 517)), some (.ref (0 + 625)), none, none, none]) d_Law_29 rfl (by decide) rfl rfl ?_
  refine pw_iconst hX (v := 1) d_Law_30 (by decide) ?_
  refine pw_istore hX (lv' := [some (.float 300), some (.ref 0), some (.ref (0 + 517)), some (.ref (0 + 625)), some (.int 1), none, none]) d_Law_31 (by decide) rfl ?_
  refine pw_iload hX d_Law_33 rfl ?_
  refine pw_aload_n hX d_Law_35 rfl rfl rfl ?_
  refine pw_slen hX hK d_Law_36 ?_
  refine pw_bipush hX (v := 6) d_Law_37 (by decide) ?_
  refine pw_isub hX d_Law_39 ?_
  refine pw_icmp_gt hX (tgt := 1143) d_Law_40 (by decide) (fun q41 => ?_) (fun q41 => ?_)
  · refine pw_iconst hX (v := 1) d_Law_1143 (by decide) ?_
    exact pw_zret hX d_Law_1144 rfl rfl (by decide) (by decide) rfl
  · obtain rfl : sL = 7 := law7 hL q41
    refine pw_aload_n hX d_Law_43 rfl rfl rfl ?_
    refine pw_iload hX d_Law_44 rfl ?_
    refine pw_sld hX hK d_Law_46 (in_of (by decide) (by decide) (by decide)) ?_
    refine pw_topi hX (fun x42 ex42 => ?_)
    obtain rfl : x42 = sxs 1 := ex42.trans rfl
    clear ex42
    refine pw_bipush hX (v := 31) d_Law_47 (by decide) ?_
    refine pw_iand hX d_Law_49 ?_
    by_cases t43 : (sxs 1) &&& 31 = 0
    · refine pw_tableIn hX (off := 130) (tgt := 180) d_Law_50 (by rw [t43]; decide) (by rw [t43]; decide) (by rw [t43]; decide) (by decide) ?_
      refine pw_aload_n hX d_Law_180 rfl rfl rfl ?_
      refine pw_aload_n hX d_Law_181 rfl rfl rfl ?_
      refine pw_iload hX d_Law_182 rfl ?_
      refine pw_iconst hX (v := 1) d_Law_184 (by decide) ?_
      refine pw_iadd hX d_Law_185 ?_
      refine pw_topi hX (fun x44 ex44 => ?_)
      obtain rfl : x44 = 2 := ex44.trans (by decide)
      clear ex44
      refine pw_sld hX hK d_Law_186 (in_of (by decide) (by decide) (by decide)) ?_
      refine pw_topi hX (fun x45 ex45 => ?_)
      obtain rfl : x45 = sxs 2 := ex45.trans rfl
      clear ex45
      refine pw_aload_n hX d_Law_187 rfl rfl rfl ?_
      refine pw_iload hX d_Law_188 rfl ?_
      refine pw_iconst hX (v := 2) d_Law_190 (by decide) ?_
      refine pw_iadd hX d_Law_191 ?_
      refine pw_topi hX (fun x46 ex46 => ?_)
      obtain rfl : x46 = 3 := ex46.trans (by decide)
      clear ex46
      refine pw_sld hX hK d_Law_192 (in_of (by decide) (by decide) (by decide)) ?_
      refine pw_topi hX (fun x47 ex47 => ?_)
      obtain rfl : x47 = sxs 3 := ex47.trans rfl
      clear ex47
      refine pw_aload_n hX d_Law_193 rfl rfl rfl ?_
      refine pw_iload hX d_Law_194 rfl ?_
      refine pw_iconst hX (v := 3) d_Law_196 (by decide) ?_
      refine pw_iadd hX d_Law_197 ?_
      refine pw_topi hX (fun x48 ex48 => ?_)
      obtain rfl : x48 = 4 := ex48.trans (by decide)
      clear ex48
      refine pw_sld hX hK d_Law_198 (in_of (by decide) (by decide) (by decide)) ?_
      refine pw_topi hX (fun x49 ex49 => ?_)
      obtain rfl : x49 = sxs 4 := ex49.trans rfl
      clear ex49
      refine pw_aload_n hX d_Law_199 rfl rfl rfl ?_
      refine pw_iload hX d_Law_200 rfl ?_
      refine pw_iconst hX (v := 4) d_Law_202 (by decide) ?_
      refine pw_iadd hX d_Law_203 ?_
      refine pw_topi hX (fun x50 ex50 => ?_)
      obtain rfl : x50 = 5 := ex50.trans (by decide)
      clear ex50
      refine pw_sld hX hK d_Law_204 (in_of (by decide) (by decide) (by decide)) ?_
      refine pw_topi hX (fun x51 ex51 => ?_)
      obtain rfl : x51 = sxs 5 := ex51.trans rfl
      clear ex51
      refine pw_aload_n hX d_Law_205 rfl rfl rfl ?_
      refine pw_iload hX d_Law_206 rfl ?_
      refine pw_iconst hX (v := 5) d_Law_208 (by decide) ?_
      refine pw_iadd hX d_Law_209 ?_
      refine pw_topi hX (fun x52 ex52 => ?_)
      obtain rfl : x52 = 6 := ex52.trans (by decide)
      clear ex52
      refine pw_sld hX hK d_Law_210 (in_of (by decide) (by decide) (by decide)) ?_
      refine pw_topi hX (fun x53 ex53 => ?_)
      obtain rfl : x53 = sxs 6 := ex53.trans rfl
      clear ex53
      refine pw_callV_a hX (As := [.int (sxs 2), .int (sxs 3), .int (sxs 4), .int (sxs 5), .int (sxs 6)]) (rest := []) d_Law_211 hK (pw_ofM (f_W_feed kf38)) (ab_mkC s_W_feed (Nat.le_of_ble_eq_true rfl) (Nat.le_of_ble_eq_true rfl) (by decide) (by decide)) (k3 185 rfl rfl) i_W_feed v_W_feed kf38.1 rfl rfl (Nat.le_of_ble_eq_true rfl) (fun h54 f55 => ?_)
      have c56 : h54[0+625]? = some (.inl (.long, 1, .inr (.inl (fun _ => 0)))) := ab_fr_at f55 c36 (by simp only [in_lo] <;> omega)
      have kf57 : at_M0 h54 (0 + 517) x9 := fr_M0 f55 kf39 (by intro i hi hs; simp only [in_M0, in_lo] at hi hs <;> omega)
      refine pw_aload_n hX d_Law_214 rfl rfl rfl ?_
      refine pw_aload_n hX d_Law_215 rfl rfl rfl ?_
      refine pw_iload hX d_Law_216 rfl ?_
      refine pw_iconst hX (v := 1) d_Law_218 (by decide) ?_
      refine pw_iadd hX d_Law_219 ?_
      refine pw_topi hX (fun x58 ex58 => ?_)
      obtain rfl : x58 = 2 := ex58.trans (by decide)
      clear ex58
      refine pw_sld hX hK d_Law_220 (in_of (by decide) (by decide) (by decide)) ?_
      refine pw_topi hX (fun x59 ex59 => ?_)
      obtain rfl : x59 = sxs 2 := ex59.trans rfl
      clear ex59
      refine pw_aload_n hX d_Law_221 rfl rfl rfl ?_
      refine pw_iload hX d_Law_222 rfl ?_
      refine pw_iconst hX (v := 2) d_Law_224 (by decide) ?_
      refine pw_iadd hX d_Law_225 ?_
      refine pw_topi hX (fun x60 ex60 => ?_)
      obtain rfl : x60 = 3 := ex60.trans (by decide)
      clear ex60
      refine pw_sld hX hK d_Law_226 (in_of (by decide) (by decide) (by decide)) ?_
      refine pw_topi hX (fun x61 ex61 => ?_)
      obtain rfl : x61 = sxs 3 := ex61.trans rfl
      clear ex61
      refine pw_aload_n hX d_Law_227 rfl rfl rfl ?_
      refine pw_iload hX d_Law_228 rfl ?_
      refine pw_iconst hX (v := 3) d_Law_230 (by decide) ?_
      refine pw_iadd hX d_Law_231 ?_
      refine pw_topi hX (fun x62 ex62 => ?_)
      obtain rfl : x62 = 4 := ex62.trans (by decide)
      clear ex62
      refine pw_sld hX hK d_Law_232 (in_of (by decide) (by decide) (by decide)) ?_
      refine pw_topi hX (fun x63 ex63 => ?_)
      obtain rfl : x63 = sxs 4 := ex63.trans rfl
      clear ex63
      refine pw_aload_n hX d_Law_233 rfl rfl rfl ?_
      refine pw_iload hX d_Law_234 rfl ?_
      refine pw_iconst hX (v := 4) d_Law_236 (by decide) ?_
      refine pw_iadd hX d_Law_237 ?_
      refine pw_topi hX (fun x64 ex64 => ?_)
      obtain rfl : x64 = 5 := ex64.trans (by decide)
      clear ex64
      refine pw_sld hX hK d_Law_238 (in_of (by decide) (by decide) (by decide)) ?_
      refine pw_topi hX (fun x65 ex65 => ?_)
      obtain rfl : x65 = sxs 5 := ex65.trans rfl
      clear ex65
      refine pw_aload_n hX d_Law_239 rfl rfl rfl ?_
      refine pw_iload hX d_Law_240 rfl ?_
      refine pw_iconst hX (v := 5) d_Law_242 (by decide) ?_
      refine pw_iadd hX d_Law_243 ?_
      refine pw_topi hX (fun x66 ex66 => ?_)
      obtain rfl : x66 = 6 := ex66.trans (by decide)
      clear ex66
      refine pw_sld hX hK d_Law_244 (in_of (by decide) (by decide) (by decide)) ?_
      refine pw_topi hX (fun x67 ex67 => ?_)
      obtain rfl : x67 = sxs 6 := ex67.trans rfl
      clear ex67
      refine pw_callV_a hX (As := [.int (sxs 2), .int (sxs 3), .int (sxs 4), .int (sxs 5), .int (sxs 6)]) (rest := [.int sq_W_feed]) d_Law_245 hK (pw_ofM (f_M_feed kf57)) (ab_mkC s_M_feed (Nat.le_of_ble_eq_true rfl) (Nat.le_of_ble_eq_true rfl) (by decide) (by decide)) (k10 85 rfl rfl) i_M_feed v_M_feed kf57.1.1 rfl rfl (Nat.le_of_ble_eq_true rfl) (fun h68 q69 => ?_)
      refine pw_icmp_eq hX (tgt := 1137) d_Law_248 (by decide) (fun q70 => ?_) (fun q70 => ?_)
      · refine pw_iinc hX (v := 7) (lv' := [some (.float 300), some (.ref 0), some (.ref (0 + 517)), some (.ref (0 + 625)), some (.int 7), none, none]) d_Law_1137 rfl (by decide) (by decide) rfl ?_
        refine pw_goto hX (tgt := 33) d_Law_1140 (by decide) ?_
        refine pw_iload hX d_Law_33 rfl ?_
        refine pw_aload_n hX d_Law_35 rfl rfl rfl ?_
        refine pw_slen hX hK d_Law_36 ?_
        refine pw_bipush hX (v := 6) d_Law_37 (by decide) ?_
        refine pw_isub hX d_Law_39 ?_
        refine pw_icmp_gt hX (tgt := 1143) d_Law_40 (by decide) (fun q71 => ?_) (fun q71 => ?_)
        · refine pw_iconst hX (v := 1) d_Law_1143 (by decide) ?_
          exact pw_zret hX d_Law_1144 rfl rfl (by decide) (by decide) rfl
        · exact absurd law7b q71
      · exact absurd (eq_feed) q70
    by_cases t72 : (sxs 1) &&& 31 = 1
    · refine pw_tableIn hX (off := 203) (tgt := 253) d_Law_50 (by rw [t72]; decide) (by rw [t72]; decide) (by rw [t72]; decide) (by decide) ?_
      refine pw_aload_n hX d_Law_253 rfl rfl rfl ?_
      refine pw_aload_n hX d_Law_254 rfl rfl rfl ?_
      refine pw_iload hX d_Law_255 rfl ?_
      refine pw_iconst hX (v := 1) d_Law_257 (by decide) ?_
      refine pw_iadd hX d_Law_258 ?_
      refine pw_topi hX (fun x73 ex73 => ?_)
      obtain rfl : x73 = 2 := ex73.trans (by decide)
      clear ex73
      refine pw_sld hX hK d_Law_259 (in_of (by decide) (by decide) (by decide)) ?_
      refine pw_topi hX (fun x74 ex74 => ?_)
      obtain rfl : x74 = sxs 2 := ex74.trans rfl
      clear ex74
      refine pw_callV_a hX (As := [.int (sxs 2)]) (rest := []) d_Law_260 hK (pw_ofM (f_W_end kf38)) (ab_mkC s_W_end (Nat.le_of_ble_eq_true rfl) (Nat.le_of_ble_eq_true rfl) (by decide) (by decide)) (k3 197 rfl rfl) i_W_end v_W_end kf38.1 rfl rfl (Nat.le_of_ble_eq_true rfl) (fun h75 f76 => ?_)
      have c77 : h75[0+625]? = some (.inl (.long, 1, .inr (.inl (fun _ => 0)))) := ab_fr_at f76 c36 (by simp only [in_lo] <;> omega)
      have kf78 : at_M0 h75 (0 + 517) x9 := fr_M0 f76 kf39 (by intro i hi hs; simp only [in_M0, in_lo] at hi hs <;> omega)
      refine pw_aload_n hX d_Law_263 rfl rfl rfl ?_
      refine pw_aload_n hX d_Law_264 rfl rfl rfl ?_
      refine pw_iload hX d_Law_265 rfl ?_
      refine pw_iconst hX (v := 1) d_Law_267 (by decide) ?_
      refine pw_iadd hX d_Law_268 ?_
      refine pw_topi hX (fun x79 ex79 => ?_)
      obtain rfl : x79 = 2 := ex79.trans (by decide)
      clear ex79
      refine pw_sld hX hK d_Law_269 (in_of (by decide) (by decide) (by decide)) ?_
      refine pw_topi hX (fun x80 ex80 => ?_)
      obtain rfl : x80 = sxs 2 := ex80.trans rfl
      clear ex80
      refine pw_callV_a hX (As := [.int (sxs 2)]) (rest := [.int (sq_W_end (sxs 2))]) d_Law_270 hK (pw_ofM (f_M_end kf78)) (ab_mkC s_M_end (Nat.le_of_ble_eq_true rfl) (Nat.le_of_ble_eq_true rfl) (by decide) (by decide)) (k10 89 rfl rfl) i_M_end v_M_end kf78.1.1 rfl rfl (Nat.le_of_ble_eq_true rfl) (fun h81 q82 => ?_)
      refine pw_icmp_eq hX (tgt := 1137) d_Law_273 (by decide) (fun q83 => ?_) (fun q83 => ?_)
      · refine pw_iinc hX (v := 7) (lv' := [some (.float 300), some (.ref 0), some (.ref (0 + 517)), some (.ref (0 + 625)), some (.int 7), none, none]) d_Law_1137 rfl (by decide) (by decide) rfl ?_
        refine pw_goto hX (tgt := 33) d_Law_1140 (by decide) ?_
        refine pw_iload hX d_Law_33 rfl ?_
        refine pw_aload_n hX d_Law_35 rfl rfl rfl ?_
        refine pw_slen hX hK d_Law_36 ?_
        refine pw_bipush hX (v := 6) d_Law_37 (by decide) ?_
        refine pw_isub hX d_Law_39 ?_
        refine pw_icmp_gt hX (tgt := 1143) d_Law_40 (by decide) (fun q84 => ?_) (fun q84 => ?_)
        · refine pw_iconst hX (v := 1) d_Law_1143 (by decide) ?_
          exact pw_zret hX d_Law_1144 rfl rfl (by decide) (by decide) rfl
        · exact absurd law7b q84
      · exact absurd (eq_end (sxs 2)) q83
    by_cases t85 : (sxs 1) &&& 31 = 2
    · refine pw_tableIn hX (off := 228) (tgt := 278) d_Law_50 (by rw [t85]; decide) (by rw [t85]; decide) (by rw [t85]; decide) (by decide) ?_
      refine pw_aload_n hX d_Law_278 rfl rfl rfl ?_
      refine pw_aload_n hX d_Law_279 rfl rfl rfl ?_
      refine pw_iload hX d_Law_280 rfl ?_
      refine pw_iconst hX (v := 1) d_Law_282 (by decide) ?_
      refine pw_iadd hX d_Law_283 ?_
      refine pw_topi hX (fun x86 ex86 => ?_)
      obtain rfl : x86 = 2 := ex86.trans (by decide)
      clear ex86
      refine pw_sld hX hK d_Law_284 (in_of (by decide) (by decide) (by decide)) ?_
      refine pw_topi hX (fun x87 ex87 => ?_)
      obtain rfl : x87 = sxs 2 := ex87.trans rfl
      clear ex87
      refine pw_callV_a hX (As := [.int (sxs 2)]) (rest := []) d_Law_285 hK (pw_ofM (f_W_text kf38)) (ab_mkC s_W_text (Nat.le_of_ble_eq_true rfl) (Nat.le_of_ble_eq_true rfl) (by decide) (by decide)) (k3 201 rfl rfl) i_W_text v_W_text kf38.1 rfl rfl (Nat.le_of_ble_eq_true rfl) (fun h88 f89 => ?_)
      have c90 : h88[0+625]? = some (.inl (.long, 1, .inr (.inl (fun _ => 0)))) := ab_fr_at f89 c36 (by simp only [in_lo] <;> omega)
      have kf91 : at_M0 h88 (0 + 517) x9 := fr_M0 f89 kf39 (by intro i hi hs; simp only [in_M0, in_lo] at hi hs <;> omega)
      refine pw_aload_n hX d_Law_288 rfl rfl rfl ?_
      refine pw_aload_n hX d_Law_289 rfl rfl rfl ?_
      refine pw_iload hX d_Law_290 rfl ?_
      refine pw_iconst hX (v := 1) d_Law_292 (by decide) ?_
      refine pw_iadd hX d_Law_293 ?_
      refine pw_topi hX (fun x92 ex92 => ?_)
      obtain rfl : x92 = 2 := ex92.trans (by decide)
      clear ex92
      refine pw_sld hX hK d_Law_294 (in_of (by decide) (by decide) (by decide)) ?_
      refine pw_topi hX (fun x93 ex93 => ?_)
      obtain rfl : x93 = sxs 2 := ex93.trans rfl
      clear ex93
      refine pw_callV_a hX (As := [.int (sxs 2)]) (rest := [.int (sq_W_text (sxs 2))]) d_Law_295 hK (pw_ofM (f_M_text kf91)) (ab_mkC s_M_text (Nat.le_of_ble_eq_true rfl) (Nat.le_of_ble_eq_true rfl) (by decide) (by decide)) (k10 96 rfl rfl) i_M_text v_M_text kf91.1.1 rfl rfl (Nat.le_of_ble_eq_true rfl) (fun h94 q95 => ?_)
      refine pw_icmp_eq hX (tgt := 1137) d_Law_298 (by decide) (fun q96 => ?_) (fun q96 => ?_)
      · refine pw_iinc hX (v := 7) (lv' := [some (.float 300), some (.ref 0), some (.ref (0 + 517)), some (.ref (0 + 625)), some (.int 7), none, none]) d_Law_1137 rfl (by decide) (by decide) rfl ?_
        refine pw_goto hX (tgt := 33) d_Law_1140 (by decide) ?_
        refine pw_iload hX d_Law_33 rfl ?_
        refine pw_aload_n hX d_Law_35 rfl rfl rfl ?_
        refine pw_slen hX hK d_Law_36 ?_
        refine pw_bipush hX (v := 6) d_Law_37 (by decide) ?_
        refine pw_isub hX d_Law_39 ?_
        refine pw_icmp_gt hX (tgt := 1143) d_Law_40 (by decide) (fun q97 => ?_) (fun q97 => ?_)
        · refine pw_iconst hX (v := 1) d_Law_1143 (by decide) ?_
          exact pw_zret hX d_Law_1144 rfl rfl (by decide) (by decide) rfl
        · exact absurd law7b q97
      · exact absurd (eq_text (sxs 2)) q96
    by_cases t98 : (sxs 1) &&& 31 = 3
    · refine pw_tableIn hX (off := 253) (tgt := 303) d_Law_50 (by rw [t98]; decide) (by rw [t98]; decide) (by rw [t98]; decide) (by decide) ?_
      refine pw_aload_n hX d_Law_303 rfl rfl rfl ?_
      refine pw_aload_n hX d_Law_304 rfl rfl rfl ?_
      refine pw_iload hX d_Law_305 rfl ?_
      refine pw_iconst hX (v := 1) d_Law_307 (by decide) ?_
      refine pw_iadd hX d_Law_308 ?_
      refine pw_topi hX (fun x99 ex99 => ?_)
      obtain rfl : x99 = 2 := ex99.trans (by decide)
      clear ex99
      refine pw_sld hX hK d_Law_309 (in_of (by decide) (by decide) (by decide)) ?_
      refine pw_topi hX (fun x100 ex100 => ?_)
      obtain rfl : x100 = sxs 2 := ex100.trans rfl
      clear ex100
      refine pw_callV_a hX (As := [.int (sxs 2)]) (rest := []) d_Law_310 hK (pw_ofM (f_W_fault kf38)) (ab_mkC s_W_fault (Nat.le_of_ble_eq_true rfl) (Nat.le_of_ble_eq_true rfl) (by decide) (by decide)) (k6 87 rfl rfl) i_W_fault v_W_fault kf38.1 rfl rfl (Nat.le_of_ble_eq_true rfl) (fun h101 f102 => ?_)
      have c103 : h101[0+625]? = some (.inl (.long, 1, .inr (.inl (fun _ => 0)))) := ab_fr_at f102 c36 (by simp only [in_lo] <;> omega)
      have kf104 : at_M0 h101 (0 + 517) x9 := fr_M0 f102 kf39 (by intro i hi hs; simp only [in_M0, in_lo] at hi hs <;> omega)
      refine pw_aload_n hX d_Law_313 rfl rfl rfl ?_
      refine pw_aload_n hX d_Law_314 rfl rfl rfl ?_
      refine pw_iload hX d_Law_315 rfl ?_
      refine pw_iconst hX (v := 1) d_Law_317 (by decide) ?_
      refine pw_iadd hX d_Law_318 ?_
      refine pw_topi hX (fun x105 ex105 => ?_)
      obtain rfl : x105 = 2 := ex105.trans (by decide)
      clear ex105
      refine pw_sld hX hK d_Law_319 (in_of (by decide) (by decide) (by decide)) ?_
      refine pw_topi hX (fun x106 ex106 => ?_)
      obtain rfl : x106 = sxs 2 := ex106.trans rfl
      clear ex106
      refine pw_callV_a hX (As := [.int (sxs 2)]) (rest := [.int (sq_W_fault (sxs 2))]) d_Law_320 hK (pw_ofM (f_M_fault kf104)) (ab_mkC s_M_fault (Nat.le_of_ble_eq_true rfl) (Nat.le_of_ble_eq_true rfl) (by decide) (by decide)) (k11 158 rfl rfl) i_M_fault v_M_fault kf104.1.1 rfl rfl (Nat.le_of_ble_eq_true rfl) (fun h107 q108 => ?_)
      refine pw_icmp_eq hX (tgt := 1137) d_Law_323 (by decide) (fun q109 => ?_) (fun q109 => ?_)
      · refine pw_iinc hX (v := 7) (lv' := [some (.float 300), some (.ref 0), some (.ref (0 + 517)), some (.ref (0 + 625)), some (.int 7), none, none]) d_Law_1137 rfl (by decide) (by decide) rfl ?_
        refine pw_goto hX (tgt := 33) d_Law_1140 (by decide) ?_
        refine pw_iload hX d_Law_33 rfl ?_
        refine pw_aload_n hX d_Law_35 rfl rfl rfl ?_
        refine pw_slen hX hK d_Law_36 ?_
        refine pw_bipush hX (v := 6) d_Law_37 (by decide) ?_
        refine pw_isub hX d_Law_39 ?_
        refine pw_icmp_gt hX (tgt := 1143) d_Law_40 (by decide) (fun q110 => ?_) (fun q110 => ?_)
        · refine pw_iconst hX (v := 1) d_Law_1143 (by decide) ?_
          exact pw_zret hX d_Law_1144 rfl rfl (by decide) (by decide) rfl
        · exact absurd law7b q110
      · exact absurd (eq_fault (sxs 2)) q109
    by_cases t111 : (sxs 1) &&& 31 = 4
    · refine pw_tableIn hX (off := 278) (tgt := 328) d_Law_50 (by rw [t111]; decide) (by rw [t111]; decide) (by rw [t111]; decide) (by decide) ?_
      refine pw_aload_n hX d_Law_328 rfl rfl rfl ?_
      refine pw_callV_a hX (As := []) (rest := []) d_Law_329 hK (pw_ofM (f_W_swap kf38)) (ab_mkC s_W_swap (Nat.le_of_ble_eq_true rfl) (Nat.le_of_ble_eq_true rfl) (by decide) (by decide)) (k6 91 rfl rfl) i_W_swap v_W_swap kf38.1 rfl rfl (Nat.le_of_ble_eq_true rfl) (fun h112 f113 => ?_)
      have c114 : h112[0+625]? = some (.inl (.long, 1, .inr (.inl (fun _ => 0)))) := ab_fr_at f113 c36 (by simp only [in_lo] <;> omega)
      have kf115 : at_M0 h112 (0 + 517) x9 := fr_M0 f113 kf39 (by intro i hi hs; simp only [in_M0, in_lo] at hi hs <;> omega)
      refine pw_aload_n hX d_Law_332 rfl rfl rfl ?_
      refine pw_callV_a hX (As := []) (rest := [.int sq_W_swap]) d_Law_333 hK (pw_ofM (f_M_swap kf115)) (ab_mkC s_M_swap (Nat.le_of_ble_eq_true rfl) (Nat.le_of_ble_eq_true rfl) (by decide) (by decide)) (k11 162 rfl rfl) i_M_swap v_M_swap kf115.1.1 rfl rfl (Nat.le_of_ble_eq_true rfl) (fun h116 q117 => ?_)
      refine pw_icmp_eq hX (tgt := 1137) d_Law_336 (by decide) (fun q118 => ?_) (fun q118 => ?_)
      · refine pw_iinc hX (v := 7) (lv' := [some (.float 300), some (.ref 0), some (.ref (0 + 517)), some (.ref (0 + 625)), some (.int 7), none, none]) d_Law_1137 rfl (by decide) (by decide) rfl ?_
        refine pw_goto hX (tgt := 33) d_Law_1140 (by decide) ?_
        refine pw_iload hX d_Law_33 rfl ?_
        refine pw_aload_n hX d_Law_35 rfl rfl rfl ?_
        refine pw_slen hX hK d_Law_36 ?_
        refine pw_bipush hX (v := 6) d_Law_37 (by decide) ?_
        refine pw_isub hX d_Law_39 ?_
        refine pw_icmp_gt hX (tgt := 1143) d_Law_40 (by decide) (fun q119 => ?_) (fun q119 => ?_)
        · refine pw_iconst hX (v := 1) d_Law_1143 (by decide) ?_
          exact pw_zret hX d_Law_1144 rfl rfl (by decide) (by decide) rfl
        · exact absurd law7b q119
      · exact absurd (eq_swap) q118
    by_cases t120 : (sxs 1) &&& 31 = 5
    · refine pw_tableIn hX (off := 291) (tgt := 341) d_Law_50 (by rw [t120]; decide) (by rw [t120]; decide) (by rw [t120]; decide) (by decide) ?_
      refine pw_aload_n hX d_Law_341 rfl rfl rfl ?_
      refine pw_callV_a hX (As := []) (rest := []) d_Law_342 hK (pw_ofM (f_W_step kf38)) (ab_mkC s_W_step (Nat.le_of_ble_eq_true rfl) (Nat.le_of_ble_eq_true rfl) (by decide) (by decide)) (k6 160 rfl rfl) i_W_step v_W_step kf38.1 rfl rfl (Nat.le_of_ble_eq_true rfl) (fun h121 f122 => ?_)
      have c123 : h121[0+625]? = some (.inl (.long, 1, .inr (.inl (fun _ => 0)))) := ab_fr_at f122 c36 (by simp only [in_lo] <;> omega)
      have kf124 : at_M0 h121 (0 + 517) x9 := fr_M0 f122 kf39 (by intro i hi hs; simp only [in_M0, in_lo] at hi hs <;> omega)
      refine pw_aload_n hX d_Law_345 rfl rfl rfl ?_
      refine pw_callV_a hX (As := []) (rest := [.int sq_W_step]) d_Law_346 hK (pw_ofM (f_M_step kf124)) (ab_mkC s_M_step (Nat.le_of_ble_eq_true rfl) (Nat.le_of_ble_eq_true rfl) (by decide) (by decide)) (k11 193 rfl rfl) i_M_step v_M_step kf124.1.1 rfl rfl (Nat.le_of_ble_eq_true rfl) (fun h125 q126 => ?_)
      refine pw_icmp_eq hX (tgt := 1137) d_Law_349 (by decide) (fun q127 => ?_) (fun q127 => ?_)
      · refine pw_iinc hX (v := 7) (lv' := [some (.float 300), some (.ref 0), some (.ref (0 + 517)), some (.ref (0 + 625)), some (.int 7), none, none]) d_Law_1137 rfl (by decide) (by decide) rfl ?_
        refine pw_goto hX (tgt := 33) d_Law_1140 (by decide) ?_
        refine pw_iload hX d_Law_33 rfl ?_
        refine pw_aload_n hX d_Law_35 rfl rfl rfl ?_
        refine pw_slen hX hK d_Law_36 ?_
        refine pw_bipush hX (v := 6) d_Law_37 (by decide) ?_
        refine pw_isub hX d_Law_39 ?_
        refine pw_icmp_gt hX (tgt := 1143) d_Law_40 (by decide) (fun q128 => ?_) (fun q128 => ?_)
        · refine pw_iconst hX (v := 1) d_Law_1143 (by decide) ?_
          exact pw_zret hX d_Law_1144 rfl rfl (by decide) (by decide) rfl
        · exact absurd law7b q128
      · exact absurd (eq_step) q127
    by_cases t129 : (sxs 1) &&& 31 = 6
    · refine pw_tableIn hX (off := 304) (tgt := 354) d_Law_50 (by rw [t129]; decide) (by rw [t129]; decide) (by rw [t129]; decide) (by decide) ?_
      refine pw_aload_n hX d_Law_354 rfl rfl rfl ?_
      refine pw_aload_n hX d_Law_355 rfl rfl rfl ?_
      refine pw_iload hX d_Law_356 rfl ?_
      refine pw_iconst hX (v := 1) d_Law_358 (by decide) ?_
      refine pw_iadd hX d_Law_359 ?_
      refine pw_topi hX (fun x130 ex130 => ?_)
      obtain rfl : x130 = 2 := ex130.trans (by decide)
      clear ex130
      refine pw_sld hX hK d_Law_360 (in_of (by decide) (by decide) (by decide)) ?_
      refine pw_topi hX (fun x131 ex131 => ?_)
      obtain rfl : x131 = sxs 2 := ex131.trans rfl
      clear ex131
      refine pw_aload_n hX d_Law_361 rfl rfl rfl ?_
      refine pw_iload hX d_Law_362 rfl ?_
      refine pw_iconst hX (v := 2) d_Law_364 (by decide) ?_
      refine pw_iadd hX d_Law_365 ?_
      refine pw_topi hX (fun x132 ex132 => ?_)
      obtain rfl : x132 = 3 := ex132.trans (by decide)
      clear ex132
      refine pw_sld hX hK d_Law_366 (in_of (by decide) (by decide) (by decide)) ?_
      refine pw_topi hX (fun x133 ex133 => ?_)
      obtain rfl : x133 = sxs 3 := ex133.trans rfl
      clear ex133
      refine pw_aload_n hX d_Law_367 rfl rfl rfl ?_
      refine pw_iload hX d_Law_368 rfl ?_
      refine pw_iconst hX (v := 3) d_Law_370 (by decide) ?_
      refine pw_iadd hX d_Law_371 ?_
      refine pw_topi hX (fun x134 ex134 => ?_)
      obtain rfl : x134 = 4 := ex134.trans (by decide)
      clear ex134
      refine pw_sld hX hK d_Law_372 (in_of (by decide) (by decide) (by decide)) ?_
      refine pw_topi hX (fun x135 ex135 => ?_)
      obtain rfl : x135 = sxs 4 := ex135.trans rfl
      clear ex135
      refine pw_callV_a hX (As := [.int (sxs 2), .int (sxs 3), .int (sxs 4)]) (rest := []) d_Law_373 hK (pw_ofM (f_W_input kf38)) (ab_mkC s_W_input (Nat.le_of_ble_eq_true rfl) (Nat.le_of_ble_eq_true rfl) (by decide) (by decide)) (k7 142 rfl rfl) i_W_input v_W_input kf38.1 rfl rfl (Nat.le_of_ble_eq_true rfl) (fun h136 f137 => ?_)
      have c138 : h136[0+625]? = some (.inl (.long, 1, .inr (.inl (fun _ => 0)))) := ab_fr_at f137 c36 (by simp only [in_lo] <;> omega)
      have kf139 : at_M0 h136 (0 + 517) x9 := fr_M0 f137 kf39 (by intro i hi hs; simp only [in_M0, in_lo] at hi hs <;> omega)
      refine pw_aload_n hX d_Law_376 rfl rfl rfl ?_
      refine pw_aload_n hX d_Law_377 rfl rfl rfl ?_
      refine pw_iload hX d_Law_378 rfl ?_
      refine pw_iconst hX (v := 1) d_Law_380 (by decide) ?_
      refine pw_iadd hX d_Law_381 ?_
      refine pw_topi hX (fun x140 ex140 => ?_)
      obtain rfl : x140 = 2 := ex140.trans (by decide)
      clear ex140
      refine pw_sld hX hK d_Law_382 (in_of (by decide) (by decide) (by decide)) ?_
      refine pw_topi hX (fun x141 ex141 => ?_)
      obtain rfl : x141 = sxs 2 := ex141.trans rfl
      clear ex141
      refine pw_aload_n hX d_Law_383 rfl rfl rfl ?_
      refine pw_iload hX d_Law_384 rfl ?_
      refine pw_iconst hX (v := 2) d_Law_386 (by decide) ?_
      refine pw_iadd hX d_Law_387 ?_
      refine pw_topi hX (fun x142 ex142 => ?_)
      obtain rfl : x142 = 3 := ex142.trans (by decide)
      clear ex142
      refine pw_sld hX hK d_Law_388 (in_of (by decide) (by decide) (by decide)) ?_
      refine pw_topi hX (fun x143 ex143 => ?_)
      obtain rfl : x143 = sxs 3 := ex143.trans rfl
      clear ex143
      refine pw_aload_n hX d_Law_389 rfl rfl rfl ?_
      refine pw_iload hX d_Law_390 rfl ?_
      refine pw_iconst hX (v := 3) d_Law_392 (by decide) ?_
      refine pw_iadd hX d_Law_393 ?_
      refine pw_topi hX (fun x144 ex144 => ?_)
      obtain rfl : x144 = 4 := ex144.trans (by decide)
      clear ex144
      refine pw_sld hX hK d_Law_394 (in_of (by decide) (by decide) (by decide)) ?_
      refine pw_topi hX (fun x145 ex145 => ?_)
      obtain rfl : x145 = sxs 4 := ex145.trans rfl
      clear ex145
      refine pw_callV_a hX (As := [.int (sxs 2), .int (sxs 3), .int (sxs 4)]) (rest := [.int (sq_W_input (sxs 2) (sxs 3) (sxs 4))]) d_Law_395 hK (pw_ofM (f_M_input kf139)) (ab_mkC s_M_input (Nat.le_of_ble_eq_true rfl) (Nat.le_of_ble_eq_true rfl) (by decide) (by decide)) (k12 164 rfl rfl) i_M_input v_M_input kf139.1.1 rfl rfl (Nat.le_of_ble_eq_true rfl) (fun h146 q147 => ?_)
      refine pw_icmp_eq hX (tgt := 1137) d_Law_398 (by decide) (fun q148 => ?_) (fun q148 => ?_)
      · refine pw_iinc hX (v := 7) (lv' := [some (.float 300), some (.ref 0), some (.ref (0 + 517)), some (.ref (0 + 625)), some (.int 7), none, none]) d_Law_1137 rfl (by decide) (by decide) rfl ?_
        refine pw_goto hX (tgt := 33) d_Law_1140 (by decide) ?_
        refine pw_iload hX d_Law_33 rfl ?_
        refine pw_aload_n hX d_Law_35 rfl rfl rfl ?_
        refine pw_slen hX hK d_Law_36 ?_
        refine pw_bipush hX (v := 6) d_Law_37 (by decide) ?_
        refine pw_isub hX d_Law_39 ?_
        refine pw_icmp_gt hX (tgt := 1143) d_Law_40 (by decide) (fun q149 => ?_) (fun q149 => ?_)
        · refine pw_iconst hX (v := 1) d_Law_1143 (by decide) ?_
          exact pw_zret hX d_Law_1144 rfl rfl (by decide) (by decide) rfl
        · exact absurd law7b q149
      · exact absurd (eq_input (sxs 2) (sxs 3) (sxs 4)) q148
    by_cases t150 : (sxs 1) &&& 31 = 7
    · refine pw_tableIn hX (off := 353) (tgt := 403) d_Law_50 (by rw [t150]; decide) (by rw [t150]; decide) (by rw [t150]; decide) (by decide) ?_
      refine pw_aload_n hX d_Law_403 rfl rfl rfl ?_
      refine pw_aload_n hX d_Law_404 rfl rfl rfl ?_
      refine pw_iload hX d_Law_405 rfl ?_
      refine pw_iconst hX (v := 1) d_Law_407 (by decide) ?_
      refine pw_iadd hX d_Law_408 ?_
      refine pw_topi hX (fun x151 ex151 => ?_)
      obtain rfl : x151 = 2 := ex151.trans (by decide)
      clear ex151
      refine pw_sld hX hK d_Law_409 (in_of (by decide) (by decide) (by decide)) ?_
      refine pw_topi hX (fun x152 ex152 => ?_)
      obtain rfl : x152 = sxs 2 := ex152.trans rfl
      clear ex152
      refine pw_aload_n hX d_Law_410 rfl rfl rfl ?_
      refine pw_iload hX d_Law_411 rfl ?_
      refine pw_iconst hX (v := 2) d_Law_413 (by decide) ?_
      refine pw_iadd hX d_Law_414 ?_
      refine pw_topi hX (fun x153 ex153 => ?_)
      obtain rfl : x153 = 3 := ex153.trans (by decide)
      clear ex153
      refine pw_sld hX hK d_Law_415 (in_of (by decide) (by decide) (by decide)) ?_
      refine pw_topi hX (fun x154 ex154 => ?_)
      obtain rfl : x154 = sxs 3 := ex154.trans rfl
      clear ex154
      refine pw_if_eq hX (tgt := 423) d_Law_416 (by decide) (fun q155 => ?_) (fun q155 => ?_)
      · refine pw_iconst hX (v := 0) d_Law_423 (by decide) ?_
        refine pw_callV_a hX (As := [.int (sxs 2), .int 0]) (rest := []) d_Law_424 hK (pw_ofM (f_W_seat0 kf38)) (ab_mkC s_W_seat (Nat.le_of_ble_eq_true rfl) (Nat.le_of_ble_eq_true rfl) (by decide) (by decide)) (k7 159 rfl rfl) i_W_seat v_W_seat kf38.1 rfl rfl (Nat.le_of_ble_eq_true rfl) (fun h156 f157 => ?_)
        have c158 : h156[0+625]? = some (.inl (.long, 1, .inr (.inl (fun _ => 0)))) := ab_fr_at f157 c36 (by simp only [in_lo] <;> omega)
        have kf159 : at_M0 h156 (0 + 517) x9 := fr_M0 f157 kf39 (by intro i hi hs; simp only [in_M0, in_lo] at hi hs <;> omega)
        refine pw_aload_n hX d_Law_427 rfl rfl rfl ?_
        refine pw_aload_n hX d_Law_428 rfl rfl rfl ?_
        refine pw_iload hX d_Law_429 rfl ?_
        refine pw_iconst hX (v := 1) d_Law_431 (by decide) ?_
        refine pw_iadd hX d_Law_432 ?_
        refine pw_topi hX (fun x160 ex160 => ?_)
        obtain rfl : x160 = 2 := ex160.trans (by decide)
        clear ex160
        refine pw_sld hX hK d_Law_433 (in_of (by decide) (by decide) (by decide)) ?_
        refine pw_topi hX (fun x161 ex161 => ?_)
        obtain rfl : x161 = sxs 2 := ex161.trans rfl
        clear ex161
        refine pw_aload_n hX d_Law_434 rfl rfl rfl ?_
        refine pw_iload hX d_Law_435 rfl ?_
        refine pw_iconst hX (v := 2) d_Law_437 (by decide) ?_
        refine pw_iadd hX d_Law_438 ?_
        refine pw_topi hX (fun x162 ex162 => ?_)
        obtain rfl : x162 = 3 := ex162.trans (by decide)
        clear ex162
        refine pw_sld hX hK d_Law_439 (in_of (by decide) (by decide) (by decide)) ?_
        refine pw_topi hX (fun x163 ex163 => ?_)
        obtain rfl : x163 = sxs 3 := ex163.trans rfl
        clear ex163
        refine pw_if_eq hX (tgt := 447) d_Law_440 (by decide) (fun q164 => ?_) (fun q164 => by exact absurd (by first | assumption | exact Int32.not_lt.mp (by assumption) | exact Int32.not_le.mp (by assumption)) q164)
        refine pw_iconst hX (v := 0) d_Law_447 (by decide) ?_
        refine pw_callV_a hX (As := [.int (sxs 2), .int 0]) (rest := [.int (sq_W_seat0 (sxs 2))]) d_Law_448 hK (pw_ofM (f_M_seat0 kf159)) (ab_mkC s_M_seat (Nat.le_of_ble_eq_true rfl) (Nat.le_of_ble_eq_true rfl) (by decide) (by decide)) (k12 174 rfl rfl) i_M_seat v_M_seat kf159.1.1 rfl rfl (Nat.le_of_ble_eq_true rfl) (fun h165 q166 => ?_)
        refine pw_icmp_eq hX (tgt := 1137) d_Law_451 (by decide) (fun q167 => ?_) (fun q167 => ?_)
        · refine pw_iinc hX (v := 7) (lv' := [some (.float 300), some (.ref 0), some (.ref (0 + 517)), some (.ref (0 + 625)), some (.int 7), none, none]) d_Law_1137 rfl (by decide) (by decide) rfl ?_
          refine pw_goto hX (tgt := 33) d_Law_1140 (by decide) ?_
          refine pw_iload hX d_Law_33 rfl ?_
          refine pw_aload_n hX d_Law_35 rfl rfl rfl ?_
          refine pw_slen hX hK d_Law_36 ?_
          refine pw_bipush hX (v := 6) d_Law_37 (by decide) ?_
          refine pw_isub hX d_Law_39 ?_
          refine pw_icmp_gt hX (tgt := 1143) d_Law_40 (by decide) (fun q168 => ?_) (fun q168 => ?_)
          · refine pw_iconst hX (v := 1) d_Law_1143 (by decide) ?_
            exact pw_zret hX d_Law_1144 rfl rfl (by decide) (by decide) rfl
          · exact absurd law7b q168
        · exact absurd (eq_seat0 (sxs 2)) q167
      · refine pw_iconst hX (v := 1) d_Law_419 (by decide) ?_
        refine pw_goto hX (tgt := 424) d_Law_420 (by decide) ?_
        refine pw_callV_a hX (As := [.int (sxs 2), .int 1]) (rest := []) d_Law_424 hK (pw_ofM (f_W_seat1 kf38)) (ab_mkC s_W_seat (Nat.le_of_ble_eq_true rfl) (Nat.le_of_ble_eq_true rfl) (by decide) (by decide)) (k7 159 rfl rfl) i_W_seat v_W_seat kf38.1 rfl rfl (Nat.le_of_ble_eq_true rfl) (fun h169 f170 => ?_)
        have c171 : h169[0+625]? = some (.inl (.long, 1, .inr (.inl (fun _ => 0)))) := ab_fr_at f170 c36 (by simp only [in_lo] <;> omega)
        have kf172 : at_M0 h169 (0 + 517) x9 := fr_M0 f170 kf39 (by intro i hi hs; simp only [in_M0, in_lo] at hi hs <;> omega)
        refine pw_aload_n hX d_Law_427 rfl rfl rfl ?_
        refine pw_aload_n hX d_Law_428 rfl rfl rfl ?_
        refine pw_iload hX d_Law_429 rfl ?_
        refine pw_iconst hX (v := 1) d_Law_431 (by decide) ?_
        refine pw_iadd hX d_Law_432 ?_
        refine pw_topi hX (fun x173 ex173 => ?_)
        obtain rfl : x173 = 2 := ex173.trans (by decide)
        clear ex173
        refine pw_sld hX hK d_Law_433 (in_of (by decide) (by decide) (by decide)) ?_
        refine pw_topi hX (fun x174 ex174 => ?_)
        obtain rfl : x174 = sxs 2 := ex174.trans rfl
        clear ex174
        refine pw_aload_n hX d_Law_434 rfl rfl rfl ?_
        refine pw_iload hX d_Law_435 rfl ?_
        refine pw_iconst hX (v := 2) d_Law_437 (by decide) ?_
        refine pw_iadd hX d_Law_438 ?_
        refine pw_topi hX (fun x175 ex175 => ?_)
        obtain rfl : x175 = 3 := ex175.trans (by decide)
        clear ex175
        refine pw_sld hX hK d_Law_439 (in_of (by decide) (by decide) (by decide)) ?_
        refine pw_topi hX (fun x176 ex176 => ?_)
        obtain rfl : x176 = sxs 3 := ex176.trans rfl
        clear ex176
        refine pw_if_eq hX (tgt := 447) d_Law_440 (by decide) (fun q177 => by exact absurd q177 (by first | assumption | exact Int32.not_lt.mpr (by assumption) | exact Int32.not_le.mpr (by assumption))) (fun q177 => ?_)
        refine pw_iconst hX (v := 1) d_Law_443 (by decide) ?_
        refine pw_goto hX (tgt := 448) d_Law_444 (by decide) ?_
        refine pw_callV_a hX (As := [.int (sxs 2), .int 1]) (rest := [.int (sq_W_seat1 (sxs 2))]) d_Law_448 hK (pw_ofM (f_M_seat1 kf172)) (ab_mkC s_M_seat (Nat.le_of_ble_eq_true rfl) (Nat.le_of_ble_eq_true rfl) (by decide) (by decide)) (k12 174 rfl rfl) i_M_seat v_M_seat kf172.1.1 rfl rfl (Nat.le_of_ble_eq_true rfl) (fun h178 q179 => ?_)
        refine pw_icmp_eq hX (tgt := 1137) d_Law_451 (by decide) (fun q180 => ?_) (fun q180 => ?_)
        · refine pw_iinc hX (v := 7) (lv' := [some (.float 300), some (.ref 0), some (.ref (0 + 517)), some (.ref (0 + 625)), some (.int 7), none, none]) d_Law_1137 rfl (by decide) (by decide) rfl ?_
          refine pw_goto hX (tgt := 33) d_Law_1140 (by decide) ?_
          refine pw_iload hX d_Law_33 rfl ?_
          refine pw_aload_n hX d_Law_35 rfl rfl rfl ?_
          refine pw_slen hX hK d_Law_36 ?_
          refine pw_bipush hX (v := 6) d_Law_37 (by decide) ?_
          refine pw_isub hX d_Law_39 ?_
          refine pw_icmp_gt hX (tgt := 1143) d_Law_40 (by decide) (fun q181 => ?_) (fun q181 => ?_)
          · refine pw_iconst hX (v := 1) d_Law_1143 (by decide) ?_
            exact pw_zret hX d_Law_1144 rfl rfl (by decide) (by decide) rfl
          · exact absurd law7b q181
        · exact absurd (eq_seat1 (sxs 2)) q180
    by_cases t182 : (sxs 1) &&& 31 = 8
    · refine pw_tableIn hX (off := 406) (tgt := 456) d_Law_50 (by rw [t182]; decide) (by rw [t182]; decide) (by rw [t182]; decide) (by decide) ?_
      refine pw_aload_n hX d_Law_456 rfl rfl rfl ?_
      refine pw_aload_n hX d_Law_457 rfl rfl rfl ?_
      refine pw_iload hX d_Law_458 rfl ?_
      refine pw_iconst hX (v := 1) d_Law_460 (by decide) ?_
      refine pw_iadd hX d_Law_461 ?_
      refine pw_topi hX (fun x183 ex183 => ?_)
      obtain rfl : x183 = 2 := ex183.trans (by decide)
      clear ex183
      refine pw_sld hX hK d_Law_462 (in_of (by decide) (by decide) (by decide)) ?_
      refine pw_topi hX (fun x184 ex184 => ?_)
      obtain rfl : x184 = sxs 2 := ex184.trans rfl
      clear ex184
      refine pw_callV_a hX (As := [.int (sxs 2)]) (rest := []) d_Law_463 hK (pw_ofM (f_W_make kf38)) (ab_mkC s_W_make (Nat.le_of_ble_eq_true rfl) (Nat.le_of_ble_eq_true rfl) (by decide) (by decide)) (k7 167 rfl rfl) i_W_make v_W_make kf38.1 rfl rfl (Nat.le_of_ble_eq_true rfl) (fun h185 f186 => ?_)
      have c187 : h185[0+625]? = some (.inl (.long, 1, .inr (.inl (fun _ => 0)))) := ab_fr_at f186 c36 (by simp only [in_lo] <;> omega)
      have kf188 : at_M0 h185 (0 + 517) x9 := fr_M0 f186 kf39 (by intro i hi hs; simp only [in_M0, in_lo] at hi hs <;> omega)
      refine pw_aload_n hX d_Law_466 rfl rfl rfl ?_
      refine pw_aload_n hX d_Law_467 rfl rfl rfl ?_
      refine pw_iload hX d_Law_468 rfl ?_
      refine pw_iconst hX (v := 1) d_Law_470 (by decide) ?_
      refine pw_iadd hX d_Law_471 ?_
      refine pw_topi hX (fun x189 ex189 => ?_)
      obtain rfl : x189 = 2 := ex189.trans (by decide)
      clear ex189
      refine pw_sld hX hK d_Law_472 (in_of (by decide) (by decide) (by decide)) ?_
      refine pw_topi hX (fun x190 ex190 => ?_)
      obtain rfl : x190 = sxs 2 := ex190.trans rfl
      clear ex190
      refine pw_callV_a hX (As := [.int (sxs 2)]) (rest := [.int (sq_W_make (sxs 2))]) d_Law_473 hK (pw_ofM (f_M_make kf188)) (ab_mkC s_M_make (Nat.le_of_ble_eq_true rfl) (Nat.le_of_ble_eq_true rfl) (by decide) (by decide)) (k12 178 rfl rfl) i_M_make v_M_make kf188.1.1 rfl rfl (Nat.le_of_ble_eq_true rfl) (fun h191 q192 => ?_)
      refine pw_icmp_eq hX (tgt := 1137) d_Law_476 (by decide) (fun q193 => ?_) (fun q193 => ?_)
      · refine pw_iinc hX (v := 7) (lv' := [some (.float 300), some (.ref 0), some (.ref (0 + 517)), some (.ref (0 + 625)), some (.int 7), none, none]) d_Law_1137 rfl (by decide) (by decide) rfl ?_
        refine pw_goto hX (tgt := 33) d_Law_1140 (by decide) ?_
        refine pw_iload hX d_Law_33 rfl ?_
        refine pw_aload_n hX d_Law_35 rfl rfl rfl ?_
        refine pw_slen hX hK d_Law_36 ?_
        refine pw_bipush hX (v := 6) d_Law_37 (by decide) ?_
        refine pw_isub hX d_Law_39 ?_
        refine pw_icmp_gt hX (tgt := 1143) d_Law_40 (by decide) (fun q194 => ?_) (fun q194 => ?_)
        · refine pw_iconst hX (v := 1) d_Law_1143 (by decide) ?_
          exact pw_zret hX d_Law_1144 rfl rfl (by decide) (by decide) rfl
        · exact absurd law7b q194
      · exact absurd (eq_make (sxs 2)) q193
    by_cases t195 : (sxs 1) &&& 31 = 9
    · refine pw_tableIn hX (off := 431) (tgt := 481) d_Law_50 (by rw [t195]; decide) (by rw [t195]; decide) (by rw [t195]; decide) (by decide) ?_
      refine pw_aload_n hX d_Law_481 rfl rfl rfl ?_
      refine pw_aload_n hX d_Law_482 rfl rfl rfl ?_
      refine pw_iload hX d_Law_483 rfl ?_
      refine pw_iconst hX (v := 1) d_Law_485 (by decide) ?_
      refine pw_iadd hX d_Law_486 ?_
      refine pw_topi hX (fun x196 ex196 => ?_)
      obtain rfl : x196 = 2 := ex196.trans (by decide)
      clear ex196
      refine pw_sld hX hK d_Law_487 (in_of (by decide) (by decide) (by decide)) ?_
      refine pw_topi hX (fun x197 ex197 => ?_)
      obtain rfl : x197 = sxs 2 := ex197.trans rfl
      clear ex197
      refine pw_aload_n hX d_Law_488 rfl rfl rfl ?_
      refine pw_iload hX d_Law_489 rfl ?_
      refine pw_iconst hX (v := 2) d_Law_491 (by decide) ?_
      refine pw_iadd hX d_Law_492 ?_
      refine pw_topi hX (fun x198 ex198 => ?_)
      obtain rfl : x198 = 3 := ex198.trans (by decide)
      clear ex198
      refine pw_sld hX hK d_Law_493 (in_of (by decide) (by decide) (by decide)) ?_
      refine pw_topi hX (fun x199 ex199 => ?_)
      obtain rfl : x199 = sxs 3 := ex199.trans rfl
      clear ex199
      refine pw_aload_n hX d_Law_494 rfl rfl rfl ?_
      refine pw_iload hX d_Law_495 rfl ?_
      refine pw_iconst hX (v := 3) d_Law_497 (by decide) ?_
      refine pw_iadd hX d_Law_498 ?_
      refine pw_topi hX (fun x200 ex200 => ?_)
      obtain rfl : x200 = 4 := ex200.trans (by decide)
      clear ex200
      refine pw_sld hX hK d_Law_499 (in_of (by decide) (by decide) (by decide)) ?_
      refine pw_topi hX (fun x201 ex201 => ?_)
      obtain rfl : x201 = sxs 4 := ex201.trans rfl
      clear ex201
      refine pw_callV_a hX (As := [.int (sxs 2), .int (sxs 3), .int (sxs 4)]) (rest := []) d_Law_500 hK (pw_ofM (f_W_change kf38)) (ab_mkC s_W_change (Nat.le_of_ble_eq_true rfl) (Nat.le_of_ble_eq_true rfl) (by decide) (by decide)) (k7 173 rfl rfl) i_W_change v_W_change kf38.1 rfl rfl (Nat.le_of_ble_eq_true rfl) (fun h202 f203 => ?_)
      have c204 : h202[0+625]? = some (.inl (.long, 1, .inr (.inl (fun _ => 0)))) := ab_fr_at f203 c36 (by simp only [in_lo] <;> omega)
      have kf205 : at_M0 h202 (0 + 517) x9 := fr_M0 f203 kf39 (by intro i hi hs; simp only [in_M0, in_lo] at hi hs <;> omega)
      refine pw_aload_n hX d_Law_503 rfl rfl rfl ?_
      refine pw_aload_n hX d_Law_504 rfl rfl rfl ?_
      refine pw_iload hX d_Law_505 rfl ?_
      refine pw_iconst hX (v := 1) d_Law_507 (by decide) ?_
      refine pw_iadd hX d_Law_508 ?_
      refine pw_topi hX (fun x206 ex206 => ?_)
      obtain rfl : x206 = 2 := ex206.trans (by decide)
      clear ex206
      refine pw_sld hX hK d_Law_509 (in_of (by decide) (by decide) (by decide)) ?_
      refine pw_topi hX (fun x207 ex207 => ?_)
      obtain rfl : x207 = sxs 2 := ex207.trans rfl
      clear ex207
      refine pw_aload_n hX d_Law_510 rfl rfl rfl ?_
      refine pw_iload hX d_Law_511 rfl ?_
      refine pw_iconst hX (v := 2) d_Law_513 (by decide) ?_
      refine pw_iadd hX d_Law_514 ?_
      refine pw_topi hX (fun x208 ex208 => ?_)
      obtain rfl : x208 = 3 := ex208.trans (by decide)
      clear ex208
      refine pw_sld hX hK d_Law_515 (in_of (by decide) (by decide) (by decide)) ?_
      refine pw_topi hX (fun x209 ex209 => ?_)
      obtain rfl : x209 = sxs 3 := ex209.trans rfl
      clear ex209
      refine pw_aload_n hX d_Law_516 rfl rfl rfl ?_
      refine pw_iload hX d_Law_517 rfl ?_
      refine pw_iconst hX (v := 3) d_Law_519 (by decide) ?_
      refine pw_iadd hX d_Law_520 ?_
      refine pw_topi hX (fun x210 ex210 => ?_)
      obtain rfl : x210 = 4 := ex210.trans (by decide)
      clear ex210
      refine pw_sld hX hK d_Law_521 (in_of (by decide) (by decide) (by decide)) ?_
      refine pw_topi hX (fun x211 ex211 => ?_)
      obtain rfl : x211 = sxs 4 := ex211.trans rfl
      clear ex211
      refine pw_callV_a hX (As := [.int (sxs 2), .int (sxs 3), .int (sxs 4)]) (rest := [.int (sq_W_change (sxs 2) (sxs 3) (sxs 4))]) d_Law_522 hK (pw_ofM (f_M_change kf205)) (ab_mkC s_M_change (Nat.le_of_ble_eq_true rfl) (Nat.le_of_ble_eq_true rfl) (by decide) (by decide)) (k12 184 rfl rfl) i_M_change v_M_change kf205.1.1 rfl rfl (Nat.le_of_ble_eq_true rfl) (fun h212 q213 => ?_)
      refine pw_icmp_eq hX (tgt := 1137) d_Law_525 (by decide) (fun q214 => ?_) (fun q214 => ?_)
      · refine pw_iinc hX (v := 7) (lv' := [some (.float 300), some (.ref 0), some (.ref (0 + 517)), some (.ref (0 + 625)), some (.int 7), none, none]) d_Law_1137 rfl (by decide) (by decide) rfl ?_
        refine pw_goto hX (tgt := 33) d_Law_1140 (by decide) ?_
        refine pw_iload hX d_Law_33 rfl ?_
        refine pw_aload_n hX d_Law_35 rfl rfl rfl ?_
        refine pw_slen hX hK d_Law_36 ?_
        refine pw_bipush hX (v := 6) d_Law_37 (by decide) ?_
        refine pw_isub hX d_Law_39 ?_
        refine pw_icmp_gt hX (tgt := 1143) d_Law_40 (by decide) (fun q215 => ?_) (fun q215 => ?_)
        · refine pw_iconst hX (v := 1) d_Law_1143 (by decide) ?_
          exact pw_zret hX d_Law_1144 rfl rfl (by decide) (by decide) rfl
        · exact absurd law7b q215
      · exact absurd (eq_change (sxs 2) (sxs 3) (sxs 4)) q214
    by_cases t216 : (sxs 1) &&& 31 = 10
    · refine pw_tableIn hX (off := 480) (tgt := 530) d_Law_50 (by rw [t216]; decide) (by rw [t216]; decide) (by rw [t216]; decide) (by decide) ?_
      refine pw_aload_n hX d_Law_530 rfl rfl rfl ?_
      refine pw_aload_n hX d_Law_531 rfl rfl rfl ?_
      refine pw_iload hX d_Law_532 rfl ?_
      refine pw_iconst hX (v := 1) d_Law_534 (by decide) ?_
      refine pw_iadd hX d_Law_535 ?_
      refine pw_topi hX (fun x217 ex217 => ?_)
      obtain rfl : x217 = 2 := ex217.trans (by decide)
      clear ex217
      refine pw_sld hX hK d_Law_536 (in_of (by decide) (by decide) (by decide)) ?_
      refine pw_topi hX (fun x218 ex218 => ?_)
      obtain rfl : x218 = sxs 2 := ex218.trans rfl
      clear ex218
      refine pw_aload_n hX d_Law_537 rfl rfl rfl ?_
      refine pw_iload hX d_Law_538 rfl ?_
      refine pw_iconst hX (v := 2) d_Law_540 (by decide) ?_
      refine pw_iadd hX d_Law_541 ?_
      refine pw_topi hX (fun x219 ex219 => ?_)
      obtain rfl : x219 = 3 := ex219.trans (by decide)
      clear ex219
      refine pw_sld hX hK d_Law_542 (in_of (by decide) (by decide) (by decide)) ?_
      refine pw_topi hX (fun x220 ex220 => ?_)
      obtain rfl : x220 = sxs 3 := ex220.trans rfl
      clear ex220
      refine pw_aload_n hX d_Law_543 rfl rfl rfl ?_
      refine pw_iload hX d_Law_544 rfl ?_
      refine pw_iconst hX (v := 3) d_Law_546 (by decide) ?_
      refine pw_iadd hX d_Law_547 ?_
      refine pw_topi hX (fun x221 ex221 => ?_)
      obtain rfl : x221 = 4 := ex221.trans (by decide)
      clear ex221
      refine pw_sld hX hK d_Law_548 (in_of (by decide) (by decide) (by decide)) ?_
      refine pw_topi hX (fun x222 ex222 => ?_)
      obtain rfl : x222 = sxs 4 := ex222.trans rfl
      clear ex222
      refine pw_aload_n hX d_Law_549 rfl rfl rfl ?_
      refine pw_iload hX d_Law_550 rfl ?_
      refine pw_iconst hX (v := 4) d_Law_552 (by decide) ?_
      refine pw_iadd hX d_Law_553 ?_
      refine pw_topi hX (fun x223 ex223 => ?_)
      obtain rfl : x223 = 5 := ex223.trans (by decide)
      clear ex223
      refine pw_sld hX hK d_Law_554 (in_of (by decide) (by decide) (by decide)) ?_
      refine pw_topi hX (fun x224 ex224 => ?_)
      obtain rfl : x224 = sxs 5 := ex224.trans rfl
      clear ex224
      refine pw_callV_a hX (As := [.int (sxs 2), .int (sxs 3), .int (sxs 4), .int (sxs 5)]) (rest := []) d_Law_555 hK (pw_ofM (f_W_set kf38)) (ab_mkC s_W_set (Nat.le_of_ble_eq_true rfl) (Nat.le_of_ble_eq_true rfl) (by decide) (by decide)) (k7 182 rfl rfl) i_W_set v_W_set kf38.1 rfl rfl (Nat.le_of_ble_eq_true rfl) (fun h225 f226 => ?_)
      have c227 : h225[0+625]? = some (.inl (.long, 1, .inr (.inl (fun _ => 0)))) := ab_fr_at f226 c36 (by simp only [in_lo] <;> omega)
      have kf228 : at_M0 h225 (0 + 517) x9 := fr_M0 f226 kf39 (by intro i hi hs; simp only [in_M0, in_lo] at hi hs <;> omega)
      refine pw_aload_n hX d_Law_558 rfl rfl rfl ?_
      refine pw_aload_n hX d_Law_559 rfl rfl rfl ?_
      refine pw_iload hX d_Law_560 rfl ?_
      refine pw_iconst hX (v := 1) d_Law_562 (by decide) ?_
      refine pw_iadd hX d_Law_563 ?_
      refine pw_topi hX (fun x229 ex229 => ?_)
      obtain rfl : x229 = 2 := ex229.trans (by decide)
      clear ex229
      refine pw_sld hX hK d_Law_564 (in_of (by decide) (by decide) (by decide)) ?_
      refine pw_topi hX (fun x230 ex230 => ?_)
      obtain rfl : x230 = sxs 2 := ex230.trans rfl
      clear ex230
      refine pw_aload_n hX d_Law_565 rfl rfl rfl ?_
      refine pw_iload hX d_Law_566 rfl ?_
      refine pw_iconst hX (v := 2) d_Law_568 (by decide) ?_
      refine pw_iadd hX d_Law_569 ?_
      refine pw_topi hX (fun x231 ex231 => ?_)
      obtain rfl : x231 = 3 := ex231.trans (by decide)
      clear ex231
      refine pw_sld hX hK d_Law_570 (in_of (by decide) (by decide) (by decide)) ?_
      refine pw_topi hX (fun x232 ex232 => ?_)
      obtain rfl : x232 = sxs 3 := ex232.trans rfl
      clear ex232
      refine pw_aload_n hX d_Law_571 rfl rfl rfl ?_
      refine pw_iload hX d_Law_572 rfl ?_
      refine pw_iconst hX (v := 3) d_Law_574 (by decide) ?_
      refine pw_iadd hX d_Law_575 ?_
      refine pw_topi hX (fun x233 ex233 => ?_)
      obtain rfl : x233 = 4 := ex233.trans (by decide)
      clear ex233
      refine pw_sld hX hK d_Law_576 (in_of (by decide) (by decide) (by decide)) ?_
      refine pw_topi hX (fun x234 ex234 => ?_)
      obtain rfl : x234 = sxs 4 := ex234.trans rfl
      clear ex234
      refine pw_aload_n hX d_Law_577 rfl rfl rfl ?_
      refine pw_iload hX d_Law_578 rfl ?_
      refine pw_iconst hX (v := 4) d_Law_580 (by decide) ?_
      refine pw_iadd hX d_Law_581 ?_
      refine pw_topi hX (fun x235 ex235 => ?_)
      obtain rfl : x235 = 5 := ex235.trans (by decide)
      clear ex235
      refine pw_sld hX hK d_Law_582 (in_of (by decide) (by decide) (by decide)) ?_
      refine pw_topi hX (fun x236 ex236 => ?_)
      obtain rfl : x236 = sxs 5 := ex236.trans rfl
      clear ex236
      refine pw_callV_a hX (As := [.int (sxs 2), .int (sxs 3), .int (sxs 4), .int (sxs 5)]) (rest := [.int (sq_W_set (sxs 2) (sxs 3) (sxs 4) (sxs 5))]) d_Law_583 hK (pw_ofM (f_M_set kf228)) (ab_mkC s_M_set (Nat.le_of_ble_eq_true rfl) (Nat.le_of_ble_eq_true rfl) (by decide) (by decide)) (k12 197 rfl rfl) i_M_set v_M_set kf228.1.1 rfl rfl (Nat.le_of_ble_eq_true rfl) (fun h237 q238 => ?_)
      refine pw_icmp_eq hX (tgt := 1137) d_Law_586 (by decide) (fun q239 => ?_) (fun q239 => ?_)
      · refine pw_iinc hX (v := 7) (lv' := [some (.float 300), some (.ref 0), some (.ref (0 + 517)), some (.ref (0 + 625)), some (.int 7), none, none]) d_Law_1137 rfl (by decide) (by decide) rfl ?_
        refine pw_goto hX (tgt := 33) d_Law_1140 (by decide) ?_
        refine pw_iload hX d_Law_33 rfl ?_
        refine pw_aload_n hX d_Law_35 rfl rfl rfl ?_
        refine pw_slen hX hK d_Law_36 ?_
        refine pw_bipush hX (v := 6) d_Law_37 (by decide) ?_
        refine pw_isub hX d_Law_39 ?_
        refine pw_icmp_gt hX (tgt := 1143) d_Law_40 (by decide) (fun q240 => ?_) (fun q240 => ?_)
        · refine pw_iconst hX (v := 1) d_Law_1143 (by decide) ?_
          exact pw_zret hX d_Law_1144 rfl rfl (by decide) (by decide) rfl
        · exact absurd law7b q240
      · exact absurd (eq_set (sxs 2) (sxs 3) (sxs 4) (sxs 5)) q239
    by_cases t241 : (sxs 1) &&& 31 = 11
    · refine pw_tableIn hX (off := 541) (tgt := 591) d_Law_50 (by rw [t241]; decide) (by rw [t241]; decide) (by rw [t241]; decide) (by decide) ?_
      refine pw_aload_n hX d_Law_591 rfl rfl rfl ?_
      refine pw_aload_n hX d_Law_592 rfl rfl rfl ?_
      refine pw_iload hX d_Law_593 rfl ?_
      refine pw_iconst hX (v := 1) d_Law_595 (by decide) ?_
      refine pw_iadd hX d_Law_596 ?_
      refine pw_topi hX (fun x242 ex242 => ?_)
      obtain rfl : x242 = 2 := ex242.trans (by decide)
      clear ex242
      refine pw_sld hX hK d_Law_597 (in_of (by decide) (by decide) (by decide)) ?_
      refine pw_topi hX (fun x243 ex243 => ?_)
      obtain rfl : x243 = sxs 2 := ex243.trans rfl
      clear ex243
      refine pw_aload_n hX d_Law_598 rfl rfl rfl ?_
      refine pw_iload hX d_Law_599 rfl ?_
      refine pw_iconst hX (v := 2) d_Law_601 (by decide) ?_
      refine pw_iadd hX d_Law_602 ?_
      refine pw_topi hX (fun x244 ex244 => ?_)
      obtain rfl : x244 = 3 := ex244.trans (by decide)
      clear ex244
      refine pw_sld hX hK d_Law_603 (in_of (by decide) (by decide) (by decide)) ?_
      refine pw_topi hX (fun x245 ex245 => ?_)
      obtain rfl : x245 = sxs 3 := ex245.trans rfl
      clear ex245
      refine pw_aload_n hX d_Law_604 rfl rfl rfl ?_
      refine pw_iload hX d_Law_605 rfl ?_
      refine pw_iconst hX (v := 3) d_Law_607 (by decide) ?_
      refine pw_iadd hX d_Law_608 ?_
      refine pw_topi hX (fun x246 ex246 => ?_)
      obtain rfl : x246 = 4 := ex246.trans (by decide)
      clear ex246
      refine pw_sld hX hK d_Law_609 (in_of (by decide) (by decide) (by decide)) ?_
      refine pw_topi hX (fun x247 ex247 => ?_)
      obtain rfl : x247 = sxs 4 := ex247.trans rfl
      clear ex247
      refine pw_aload_n hX d_Law_610 rfl rfl rfl ?_
      refine pw_callS_a hX (As := [.ref 0, .int (sxs 2), .int (sxs 3), .int (sxs 4), .ref (0 + 625)]) (rest := []) d_Law_611 hK (pw_ofM (f_Law_get kf38)) (ab_mkC s_Law_get (Nat.le_of_ble_eq_true rfl) (Nat.le_of_ble_eq_true rfl) (by decide) (by decide)) (k8 114 rfl rfl) t_Law_get rfl (Nat.le_of_ble_eq_true rfl) (fun h248 e249 => ?_)
      have f250 : ab_fr (fun _ => False) h32 h248 := ⟨by rw [e249]; simp, fun i hi _ => by rw [e249]; exact List.getElem?_append_left hi⟩
      have kf251 : at_M0 h248 (0 + 517) x9 := fr_M0 f250 kf39 (by intro i hi hs; simp only [in_M0] at hi hs <;> omega)
      refine pw_istore hX (lv' := [some (.float 300), some (.ref 0), some (.ref (0 + 517)), some (.ref (0 + 625)), some (.int 1), some (.int 1), none]) d_Law_614 (by decide) rfl ?_
      refine pw_aload_n hX d_Law_616 rfl rfl rfl ?_
      refine pw_aload_n hX d_Law_617 rfl rfl rfl ?_
      refine pw_iload hX d_Law_618 rfl ?_
      refine pw_iconst hX (v := 1) d_Law_620 (by decide) ?_
      refine pw_iadd hX d_Law_621 ?_
      refine pw_topi hX (fun x252 ex252 => ?_)
      obtain rfl : x252 = 2 := ex252.trans (by decide)
      clear ex252
      refine pw_sld hX hK d_Law_622 (in_of (by decide) (by decide) (by decide)) ?_
      refine pw_topi hX (fun x253 ex253 => ?_)
      obtain rfl : x253 = sxs 2 := ex253.trans rfl
      clear ex253
      refine pw_aload_n hX d_Law_623 rfl rfl rfl ?_
      refine pw_iload hX d_Law_624 rfl ?_
      refine pw_iconst hX (v := 2) d_Law_626 (by decide) ?_
      refine pw_iadd hX d_Law_627 ?_
      refine pw_topi hX (fun x254 ex254 => ?_)
      obtain rfl : x254 = 3 := ex254.trans (by decide)
      clear ex254
      refine pw_sld hX hK d_Law_628 (in_of (by decide) (by decide) (by decide)) ?_
      refine pw_topi hX (fun x255 ex255 => ?_)
      obtain rfl : x255 = sxs 3 := ex255.trans rfl
      clear ex255
      refine pw_aload_n hX d_Law_629 rfl rfl rfl ?_
      refine pw_iload hX d_Law_630 rfl ?_
      refine pw_iconst hX (v := 3) d_Law_632 (by decide) ?_
      refine pw_iadd hX d_Law_633 ?_
      refine pw_topi hX (fun x256 ex256 => ?_)
      obtain rfl : x256 = 4 := ex256.trans (by decide)
      clear ex256
      refine pw_sld hX hK d_Law_634 (in_of (by decide) (by decide) (by decide)) ?_
      refine pw_topi hX (fun x257 ex257 => ?_)
      obtain rfl : x257 = sxs 4 := ex257.trans rfl
      clear ex257
      refine pw_callV_a hX (As := [.int (sxs 2), .int (sxs 3), .int (sxs 4)]) (rest := []) d_Law_635 hK (pw_ofM (f_M_get kf251)) (ab_mkC s_M_get (Nat.le_of_ble_eq_true rfl) (Nat.le_of_ble_eq_true rfl) (by decide) (by decide)) (k12 206 rfl rfl) i_M_get v_M_get kf251.1.1 rfl rfl (Nat.le_of_ble_eq_true rfl) (fun h258 q259 => ?_)
      obtain ⟨y260, c261⟩ := q259
      refine pw_topi hX (fun x262 ex262 => ?_)
      refine pw_istore hX (lv' := [some (.float 300), some (.ref 0), some (.ref (0 + 517)), some (.ref (0 + 625)), some (.int 1), some (.int 1), some (.int x262)]) d_Law_638 (by decide) rfl ?_
      refine pw_aload_n hX d_Law_640 rfl rfl rfl ?_
      refine pw_callV_a hX (As := []) (rest := []) d_Law_641 hK (pw_ofM (r_M_thrown c261)) (ab_mkC s_M_thrown (Nat.le_of_ble_eq_true rfl) (Nat.le_of_ble_eq_true rfl) (by decide) (by decide)) (k10 81 rfl rfl) i_M_thrown v_M_thrown c261 rfl rfl (Nat.le_of_ble_eq_true rfl) (fun h263 q264 => ?_)
      subst q264
      refine pw_iload hX d_Law_644 rfl ?_
      refine pw_icmp_eq hX (tgt := 651) d_Law_646 (by decide) (fun q265 => ?_) (fun q265 => by exact absurd (by decide) q265)
      refine pw_iload hX d_Law_651 rfl ?_
      refine pw_if_ne hX (tgt := 668) d_Law_653 (by decide) (fun q266 => ?_) (fun q266 => by exact absurd q266 (by decide))
      refine pw_goto hX (tgt := 1137) d_Law_668 (by decide) ?_
      refine pw_iinc hX (v := 7) (lv' := [some (.float 300), some (.ref 0), some (.ref (0 + 517)), some (.ref (0 + 625)), some (.int 7), some (.int 1), some (.int x262)]) d_Law_1137 rfl (by decide) (by decide) rfl ?_
      refine pw_goto hX (tgt := 33) d_Law_1140 (by decide) ?_
      refine pw_iload hX d_Law_33 rfl ?_
      refine pw_aload_n hX d_Law_35 rfl rfl rfl ?_
      refine pw_slen hX hK d_Law_36 ?_
      refine pw_bipush hX (v := 6) d_Law_37 (by decide) ?_
      refine pw_isub hX d_Law_39 ?_
      refine pw_icmp_gt hX (tgt := 1143) d_Law_40 (by decide) (fun q267 => ?_) (fun q267 => ?_)
      · refine pw_iconst hX (v := 1) d_Law_1143 (by decide) ?_
        exact pw_zret hX d_Law_1144 rfl rfl (by decide) (by decide) rfl
      · exact absurd law7b q267
    by_cases t268 : (sxs 1) &&& 31 = 12
    · refine pw_tableIn hX (off := 621) (tgt := 671) d_Law_50 (by rw [t268]; decide) (by rw [t268]; decide) (by rw [t268]; decide) (by decide) ?_
      refine pw_aload_n hX d_Law_671 rfl rfl rfl ?_
      refine pw_aload_n hX d_Law_672 rfl rfl rfl ?_
      refine pw_iload hX d_Law_673 rfl ?_
      refine pw_iconst hX (v := 1) d_Law_675 (by decide) ?_
      refine pw_iadd hX d_Law_676 ?_
      refine pw_topi hX (fun x269 ex269 => ?_)
      obtain rfl : x269 = 2 := ex269.trans (by decide)
      clear ex269
      refine pw_sld hX hK d_Law_677 (in_of (by decide) (by decide) (by decide)) ?_
      refine pw_topi hX (fun x270 ex270 => ?_)
      obtain rfl : x270 = sxs 2 := ex270.trans rfl
      clear ex270
      refine pw_aload_n hX d_Law_678 rfl rfl rfl ?_
      refine pw_iload hX d_Law_679 rfl ?_
      refine pw_iconst hX (v := 2) d_Law_681 (by decide) ?_
      refine pw_iadd hX d_Law_682 ?_
      refine pw_topi hX (fun x271 ex271 => ?_)
      obtain rfl : x271 = 3 := ex271.trans (by decide)
      clear ex271
      refine pw_sld hX hK d_Law_683 (in_of (by decide) (by decide) (by decide)) ?_
      refine pw_topi hX (fun x272 ex272 => ?_)
      obtain rfl : x272 = sxs 3 := ex272.trans rfl
      clear ex272
      refine pw_callV_a hX (As := [.int (sxs 2), .int (sxs 3)]) (rest := []) d_Law_684 hK (pw_ofM (f_W_has kf38)) (ab_mkC s_W_has (Nat.le_of_ble_eq_true rfl) (Nat.le_of_ble_eq_true rfl) (by decide) (by decide)) (k7 196 rfl rfl) i_W_has v_W_has kf38.1 rfl rfl (Nat.le_of_ble_eq_true rfl) (fun h273 f274 => ?_)
      have c275 : h273[0+625]? = some (.inl (.long, 1, .inr (.inl (fun _ => 0)))) := ab_fr_at f274 c36 (by simp only [in_lo] <;> omega)
      have kf276 : at_M0 h273 (0 + 517) x9 := fr_M0 f274 kf39 (by intro i hi hs; simp only [in_M0, in_lo] at hi hs <;> omega)
      refine pw_aload_n hX d_Law_687 rfl rfl rfl ?_
      refine pw_aload_n hX d_Law_688 rfl rfl rfl ?_
      refine pw_iload hX d_Law_689 rfl ?_
      refine pw_iconst hX (v := 1) d_Law_691 (by decide) ?_
      refine pw_iadd hX d_Law_692 ?_
      refine pw_topi hX (fun x277 ex277 => ?_)
      obtain rfl : x277 = 2 := ex277.trans (by decide)
      clear ex277
      refine pw_sld hX hK d_Law_693 (in_of (by decide) (by decide) (by decide)) ?_
      refine pw_topi hX (fun x278 ex278 => ?_)
      obtain rfl : x278 = sxs 2 := ex278.trans rfl
      clear ex278
      refine pw_aload_n hX d_Law_694 rfl rfl rfl ?_
      refine pw_iload hX d_Law_695 rfl ?_
      refine pw_iconst hX (v := 2) d_Law_697 (by decide) ?_
      refine pw_iadd hX d_Law_698 ?_
      refine pw_topi hX (fun x279 ex279 => ?_)
      obtain rfl : x279 = 3 := ex279.trans (by decide)
      clear ex279
      refine pw_sld hX hK d_Law_699 (in_of (by decide) (by decide) (by decide)) ?_
      refine pw_topi hX (fun x280 ex280 => ?_)
      obtain rfl : x280 = sxs 3 := ex280.trans rfl
      clear ex280
      refine pw_callV_a hX (As := [.int (sxs 2), .int (sxs 3)]) (rest := [.int (sq_W_has (sxs 2) (sxs 3))]) d_Law_700 hK (pw_ofM (f_M_has kf276)) (ab_mkC s_M_has (Nat.le_of_ble_eq_true rfl) (Nat.le_of_ble_eq_true rfl) (by decide) (by decide)) (k12 210 rfl rfl) i_M_has v_M_has kf276.1.1 rfl rfl (Nat.le_of_ble_eq_true rfl) (fun h281 q282 => ?_)
      refine pw_icmp_eq hX (tgt := 1137) d_Law_703 (by decide) (fun q283 => ?_) (fun q283 => ?_)
      · refine pw_iinc hX (v := 7) (lv' := [some (.float 300), some (.ref 0), some (.ref (0 + 517)), some (.ref (0 + 625)), some (.int 7), none, none]) d_Law_1137 rfl (by decide) (by decide) rfl ?_
        refine pw_goto hX (tgt := 33) d_Law_1140 (by decide) ?_
        refine pw_iload hX d_Law_33 rfl ?_
        refine pw_aload_n hX d_Law_35 rfl rfl rfl ?_
        refine pw_slen hX hK d_Law_36 ?_
        refine pw_bipush hX (v := 6) d_Law_37 (by decide) ?_
        refine pw_isub hX d_Law_39 ?_
        refine pw_icmp_gt hX (tgt := 1143) d_Law_40 (by decide) (fun q284 => ?_) (fun q284 => ?_)
        · refine pw_iconst hX (v := 1) d_Law_1143 (by decide) ?_
          exact pw_zret hX d_Law_1144 rfl rfl (by decide) (by decide) rfl
        · exact absurd law7b q284
      · exact absurd (eq_has (sxs 2) (sxs 3)) q283
    by_cases t285 : (sxs 1) &&& 31 = 13
    · refine pw_tableIn hX (off := 658) (tgt := 708) d_Law_50 (by rw [t285]; decide) (by rw [t285]; decide) (by rw [t285]; decide) (by decide) ?_
      refine pw_aload_n hX d_Law_708 rfl rfl rfl ?_
      refine pw_aload_n hX d_Law_709 rfl rfl rfl ?_
      refine pw_iload hX d_Law_710 rfl ?_
      refine pw_iconst hX (v := 1) d_Law_712 (by decide) ?_
      refine pw_iadd hX d_Law_713 ?_
      refine pw_topi hX (fun x286 ex286 => ?_)
      obtain rfl : x286 = 2 := ex286.trans (by decide)
      clear ex286
      refine pw_sld hX hK d_Law_714 (in_of (by decide) (by decide) (by decide)) ?_
      refine pw_topi hX (fun x287 ex287 => ?_)
      obtain rfl : x287 = sxs 2 := ex287.trans rfl
      clear ex287
      refine pw_callV_a hX (As := [.int (sxs 2)]) (rest := []) d_Law_715 hK (pw_ofM (f_W_entity kf38)) (ab_mkC s_W_entity (Nat.le_of_ble_eq_true rfl) (Nat.le_of_ble_eq_true rfl) (by decide) (by decide)) (k7 197 rfl rfl) i_W_entity v_W_entity kf38.1 rfl rfl (Nat.le_of_ble_eq_true rfl) (fun h288 f289 => ?_)
      have c290 : h288[0+625]? = some (.inl (.long, 1, .inr (.inl (fun _ => 0)))) := ab_fr_at f289 c36 (by simp only [in_lo] <;> omega)
      have kf291 : at_M0 h288 (0 + 517) x9 := fr_M0 f289 kf39 (by intro i hi hs; simp only [in_M0, in_lo] at hi hs <;> omega)
      refine pw_aload_n hX d_Law_718 rfl rfl rfl ?_
      refine pw_aload_n hX d_Law_719 rfl rfl rfl ?_
      refine pw_iload hX d_Law_720 rfl ?_
      refine pw_iconst hX (v := 1) d_Law_722 (by decide) ?_
      refine pw_iadd hX d_Law_723 ?_
      refine pw_topi hX (fun x292 ex292 => ?_)
      obtain rfl : x292 = 2 := ex292.trans (by decide)
      clear ex292
      refine pw_sld hX hK d_Law_724 (in_of (by decide) (by decide) (by decide)) ?_
      refine pw_topi hX (fun x293 ex293 => ?_)
      obtain rfl : x293 = sxs 2 := ex293.trans rfl
      clear ex293
      refine pw_callV_a hX (As := [.int (sxs 2)]) (rest := [.int (sq_W_entity (sxs 2))]) d_Law_725 hK (pw_ofM (f_M_entity kf291)) (ab_mkC s_M_entity (Nat.le_of_ble_eq_true rfl) (Nat.le_of_ble_eq_true rfl) (by decide) (by decide)) (k12 214 rfl rfl) i_M_entity v_M_entity kf291.1.1 rfl rfl (Nat.le_of_ble_eq_true rfl) (fun h294 q295 => ?_)
      refine pw_icmp_eq hX (tgt := 1137) d_Law_728 (by decide) (fun q296 => ?_) (fun q296 => ?_)
      · refine pw_iinc hX (v := 7) (lv' := [some (.float 300), some (.ref 0), some (.ref (0 + 517)), some (.ref (0 + 625)), some (.int 7), none, none]) d_Law_1137 rfl (by decide) (by decide) rfl ?_
        refine pw_goto hX (tgt := 33) d_Law_1140 (by decide) ?_
        refine pw_iload hX d_Law_33 rfl ?_
        refine pw_aload_n hX d_Law_35 rfl rfl rfl ?_
        refine pw_slen hX hK d_Law_36 ?_
        refine pw_bipush hX (v := 6) d_Law_37 (by decide) ?_
        refine pw_isub hX d_Law_39 ?_
        refine pw_icmp_gt hX (tgt := 1143) d_Law_40 (by decide) (fun q297 => ?_) (fun q297 => ?_)
        · refine pw_iconst hX (v := 1) d_Law_1143 (by decide) ?_
          exact pw_zret hX d_Law_1144 rfl rfl (by decide) (by decide) rfl
        · exact absurd law7b q297
      · exact absurd (eq_entity (sxs 2)) q296
    by_cases t298 : (sxs 1) &&& 31 = 14
    · refine pw_tableIn hX (off := 683) (tgt := 733) d_Law_50 (by rw [t298]; decide) (by rw [t298]; decide) (by rw [t298]; decide) (by decide) ?_
      refine pw_aload_n hX d_Law_733 rfl rfl rfl ?_
      refine pw_aload_n hX d_Law_734 rfl rfl rfl ?_
      refine pw_iload hX d_Law_735 rfl ?_
      refine pw_iconst hX (v := 1) d_Law_737 (by decide) ?_
      refine pw_iadd hX d_Law_738 ?_
      refine pw_topi hX (fun x299 ex299 => ?_)
      obtain rfl : x299 = 2 := ex299.trans (by decide)
      clear ex299
      refine pw_sld hX hK d_Law_739 (in_of (by decide) (by decide) (by decide)) ?_
      refine pw_topi hX (fun x300 ex300 => ?_)
      obtain rfl : x300 = sxs 2 := ex300.trans rfl
      clear ex300
      refine pw_aload_n hX d_Law_740 rfl rfl rfl ?_
      refine pw_iload hX d_Law_741 rfl ?_
      refine pw_iconst hX (v := 2) d_Law_743 (by decide) ?_
      refine pw_iadd hX d_Law_744 ?_
      refine pw_topi hX (fun x301 ex301 => ?_)
      obtain rfl : x301 = 3 := ex301.trans (by decide)
      clear ex301
      refine pw_sld hX hK d_Law_745 (in_of (by decide) (by decide) (by decide)) ?_
      refine pw_topi hX (fun x302 ex302 => ?_)
      obtain rfl : x302 = sxs 3 := ex302.trans rfl
      clear ex302
      refine pw_callV_a hX (As := [.int (sxs 2), .int (sxs 3)]) (rest := []) d_Law_746 hK (pw_ofM (f_W_row kf38)) (ab_mkC s_W_row (Nat.le_of_ble_eq_true rfl) (Nat.le_of_ble_eq_true rfl) (by decide) (by decide)) (k7 207 rfl rfl) i_W_row v_W_row kf38.1 rfl rfl (Nat.le_of_ble_eq_true rfl) (fun h303 f304 => ?_)
      have c305 : h303[0+625]? = some (.inl (.long, 1, .inr (.inl (fun _ => 0)))) := ab_fr_at f304 c36 (by simp only [in_lo] <;> omega)
      have kf306 : at_M0 h303 (0 + 517) x9 := fr_M0 f304 kf39 (by intro i hi hs; simp only [in_M0, in_lo] at hi hs <;> omega)
      refine pw_aload_n hX d_Law_749 rfl rfl rfl ?_
      refine pw_aload_n hX d_Law_750 rfl rfl rfl ?_
      refine pw_iload hX d_Law_751 rfl ?_
      refine pw_iconst hX (v := 1) d_Law_753 (by decide) ?_
      refine pw_iadd hX d_Law_754 ?_
      refine pw_topi hX (fun x307 ex307 => ?_)
      obtain rfl : x307 = 2 := ex307.trans (by decide)
      clear ex307
      refine pw_sld hX hK d_Law_755 (in_of (by decide) (by decide) (by decide)) ?_
      refine pw_topi hX (fun x308 ex308 => ?_)
      obtain rfl : x308 = sxs 2 := ex308.trans rfl
      clear ex308
      refine pw_aload_n hX d_Law_756 rfl rfl rfl ?_
      refine pw_iload hX d_Law_757 rfl ?_
      refine pw_iconst hX (v := 2) d_Law_759 (by decide) ?_
      refine pw_iadd hX d_Law_760 ?_
      refine pw_topi hX (fun x309 ex309 => ?_)
      obtain rfl : x309 = 3 := ex309.trans (by decide)
      clear ex309
      refine pw_sld hX hK d_Law_761 (in_of (by decide) (by decide) (by decide)) ?_
      refine pw_topi hX (fun x310 ex310 => ?_)
      obtain rfl : x310 = sxs 3 := ex310.trans rfl
      clear ex310
      refine pw_callV_a hX (As := [.int (sxs 2), .int (sxs 3)]) (rest := [.int (sq_W_row (sxs 2) (sxs 3))]) d_Law_762 hK (pw_ofM (f_M_row kf306)) (ab_mkC s_M_row (Nat.le_of_ble_eq_true rfl) (Nat.le_of_ble_eq_true rfl) (by decide) (by decide)) (k12 218 rfl rfl) i_M_row v_M_row kf306.1.1 rfl rfl (Nat.le_of_ble_eq_true rfl) (fun h311 q312 => ?_)
      refine pw_icmp_eq hX (tgt := 1137) d_Law_765 (by decide) (fun q313 => ?_) (fun q313 => ?_)
      · refine pw_iinc hX (v := 7) (lv' := [some (.float 300), some (.ref 0), some (.ref (0 + 517)), some (.ref (0 + 625)), some (.int 7), none, none]) d_Law_1137 rfl (by decide) (by decide) rfl ?_
        refine pw_goto hX (tgt := 33) d_Law_1140 (by decide) ?_
        refine pw_iload hX d_Law_33 rfl ?_
        refine pw_aload_n hX d_Law_35 rfl rfl rfl ?_
        refine pw_slen hX hK d_Law_36 ?_
        refine pw_bipush hX (v := 6) d_Law_37 (by decide) ?_
        refine pw_isub hX d_Law_39 ?_
        refine pw_icmp_gt hX (tgt := 1143) d_Law_40 (by decide) (fun q314 => ?_) (fun q314 => ?_)
        · refine pw_iconst hX (v := 1) d_Law_1143 (by decide) ?_
          exact pw_zret hX d_Law_1144 rfl rfl (by decide) (by decide) rfl
        · exact absurd law7b q314
      · exact absurd (eq_row (sxs 2) (sxs 3)) q313
    by_cases t315 : (sxs 1) &&& 31 = 15
    · refine pw_tableIn hX (off := 720) (tgt := 770) d_Law_50 (by rw [t315]; decide) (by rw [t315]; decide) (by rw [t315]; decide) (by decide) ?_
      refine pw_aload_n hX d_Law_770 rfl rfl rfl ?_
      refine pw_aload_n hX d_Law_771 rfl rfl rfl ?_
      refine pw_iload hX d_Law_772 rfl ?_
      refine pw_iconst hX (v := 1) d_Law_774 (by decide) ?_
      refine pw_iadd hX d_Law_775 ?_
      refine pw_topi hX (fun x316 ex316 => ?_)
      obtain rfl : x316 = 2 := ex316.trans (by decide)
      clear ex316
      refine pw_sld hX hK d_Law_776 (in_of (by decide) (by decide) (by decide)) ?_
      refine pw_topi hX (fun x317 ex317 => ?_)
      obtain rfl : x317 = sxs 2 := ex317.trans rfl
      clear ex317
      refine pw_callV_a hX (As := [.int (sxs 2)]) (rest := []) d_Law_777 hK (pw_ofM (f_W_group kf38)) (ab_mkC s_W_group (Nat.le_of_ble_eq_true rfl) (Nat.le_of_ble_eq_true rfl) (by decide) (by decide)) (k7 211 rfl rfl) i_W_group v_W_group kf38.1 rfl rfl (Nat.le_of_ble_eq_true rfl) (fun h318 f319 => ?_)
      have c320 : h318[0+625]? = some (.inl (.long, 1, .inr (.inl (fun _ => 0)))) := ab_fr_at f319 c36 (by simp only [in_lo] <;> omega)
      have kf321 : at_M0 h318 (0 + 517) x9 := fr_M0 f319 kf39 (by intro i hi hs; simp only [in_M0, in_lo] at hi hs <;> omega)
      refine pw_aload_n hX d_Law_780 rfl rfl rfl ?_
      refine pw_aload_n hX d_Law_781 rfl rfl rfl ?_
      refine pw_iload hX d_Law_782 rfl ?_
      refine pw_iconst hX (v := 1) d_Law_784 (by decide) ?_
      refine pw_iadd hX d_Law_785 ?_
      refine pw_topi hX (fun x322 ex322 => ?_)
      obtain rfl : x322 = 2 := ex322.trans (by decide)
      clear ex322
      refine pw_sld hX hK d_Law_786 (in_of (by decide) (by decide) (by decide)) ?_
      refine pw_topi hX (fun x323 ex323 => ?_)
      obtain rfl : x323 = sxs 2 := ex323.trans rfl
      clear ex323
      refine pw_callV_a hX (As := [.int (sxs 2)]) (rest := [.int (sq_W_group (sxs 2))]) d_Law_787 hK (pw_ofM (f_M_group kf321)) (ab_mkC s_M_group (Nat.le_of_ble_eq_true rfl) (Nat.le_of_ble_eq_true rfl) (by decide) (by decide)) (k12 223 rfl rfl) i_M_group v_M_group kf321.1.1 rfl rfl (Nat.le_of_ble_eq_true rfl) (fun h324 q325 => ?_)
      refine pw_icmp_eq hX (tgt := 1137) d_Law_790 (by decide) (fun q326 => ?_) (fun q326 => ?_)
      · refine pw_iinc hX (v := 7) (lv' := [some (.float 300), some (.ref 0), some (.ref (0 + 517)), some (.ref (0 + 625)), some (.int 7), none, none]) d_Law_1137 rfl (by decide) (by decide) rfl ?_
        refine pw_goto hX (tgt := 33) d_Law_1140 (by decide) ?_
        refine pw_iload hX d_Law_33 rfl ?_
        refine pw_aload_n hX d_Law_35 rfl rfl rfl ?_
        refine pw_slen hX hK d_Law_36 ?_
        refine pw_bipush hX (v := 6) d_Law_37 (by decide) ?_
        refine pw_isub hX d_Law_39 ?_
        refine pw_icmp_gt hX (tgt := 1143) d_Law_40 (by decide) (fun q327 => ?_) (fun q327 => ?_)
        · refine pw_iconst hX (v := 1) d_Law_1143 (by decide) ?_
          exact pw_zret hX d_Law_1144 rfl rfl (by decide) (by decide) rfl
        · exact absurd law7b q327
      · exact absurd (eq_group (sxs 2)) q326
    by_cases t328 : (sxs 1) &&& 31 = 16
    · refine pw_tableIn hX (off := 745) (tgt := 795) d_Law_50 (by rw [t328]; decide) (by rw [t328]; decide) (by rw [t328]; decide) (by decide) ?_
      refine pw_aload_n hX d_Law_795 rfl rfl rfl ?_
      refine pw_aload_n hX d_Law_796 rfl rfl rfl ?_
      refine pw_iload hX d_Law_797 rfl ?_
      refine pw_iconst hX (v := 1) d_Law_799 (by decide) ?_
      refine pw_iadd hX d_Law_800 ?_
      refine pw_topi hX (fun x329 ex329 => ?_)
      obtain rfl : x329 = 2 := ex329.trans (by decide)
      clear ex329
      refine pw_sld hX hK d_Law_801 (in_of (by decide) (by decide) (by decide)) ?_
      refine pw_topi hX (fun x330 ex330 => ?_)
      obtain rfl : x330 = sxs 2 := ex330.trans rfl
      clear ex330
      refine pw_aload_n hX d_Law_802 rfl rfl rfl ?_
      refine pw_callS_a hX (As := [.ref 0, .int (sxs 2), .ref (0 + 625)]) (rest := []) d_Law_803 hK (pw_ofM (f_Law_shown kf38)) (ab_mkC s_Law_shown (Nat.le_of_ble_eq_true rfl) (Nat.le_of_ble_eq_true rfl) (by decide) (by decide)) (k8 139 rfl rfl) t_Law_shown rfl (Nat.le_of_ble_eq_true rfl) (fun h331 e332 => ?_)
      have f333 : ab_fr (fun _ => False) h32 h331 := ⟨by rw [e332]; simp, fun i hi _ => by rw [e332]; exact List.getElem?_append_left hi⟩
      have kf334 : at_M0 h331 (0 + 517) x9 := fr_M0 f333 kf39 (by intro i hi hs; simp only [in_M0] at hi hs <;> omega)
      refine pw_istore hX (lv' := [some (.float 300), some (.ref 0), some (.ref (0 + 517)), some (.ref (0 + 625)), some (.int 1), some (.int 1), none]) d_Law_806 (by decide) rfl ?_
      refine pw_aload_n hX d_Law_808 rfl rfl rfl ?_
      refine pw_aload_n hX d_Law_809 rfl rfl rfl ?_
      refine pw_iload hX d_Law_810 rfl ?_
      refine pw_iconst hX (v := 1) d_Law_812 (by decide) ?_
      refine pw_iadd hX d_Law_813 ?_
      refine pw_topi hX (fun x335 ex335 => ?_)
      obtain rfl : x335 = 2 := ex335.trans (by decide)
      clear ex335
      refine pw_sld hX hK d_Law_814 (in_of (by decide) (by decide) (by decide)) ?_
      refine pw_topi hX (fun x336 ex336 => ?_)
      obtain rfl : x336 = sxs 2 := ex336.trans rfl
      clear ex336
      refine pw_callV_a hX (As := [.int (sxs 2)]) (rest := []) d_Law_815 hK (pw_ofM (f_M_shown kf334)) (ab_mkC s_M_shown (Nat.le_of_ble_eq_true rfl) (Nat.le_of_ble_eq_true rfl) (by decide) (by decide)) (k12 227 rfl rfl) i_M_shown v_M_shown kf334.1.1 rfl rfl (Nat.le_of_ble_eq_true rfl) (fun h337 q338 => ?_)
      obtain ⟨y339, c340⟩ := q338
      refine pw_topi hX (fun x341 ex341 => ?_)
      refine pw_istore hX (lv' := [some (.float 300), some (.ref 0), some (.ref (0 + 517)), some (.ref (0 + 625)), some (.int 1), some (.int 1), some (.int x341)]) d_Law_818 (by decide) rfl ?_
      refine pw_aload_n hX d_Law_820 rfl rfl rfl ?_
      refine pw_callV_a hX (As := []) (rest := []) d_Law_821 hK (pw_ofM (r_M_thrown c340)) (ab_mkC s_M_thrown (Nat.le_of_ble_eq_true rfl) (Nat.le_of_ble_eq_true rfl) (by decide) (by decide)) (k10 81 rfl rfl) i_M_thrown v_M_thrown c340 rfl rfl (Nat.le_of_ble_eq_true rfl) (fun h342 q343 => ?_)
      subst q343
      refine pw_iload hX d_Law_824 rfl ?_
      refine pw_icmp_eq hX (tgt := 831) d_Law_826 (by decide) (fun q344 => ?_) (fun q344 => by exact absurd (by decide) q344)
      refine pw_iload hX d_Law_831 rfl ?_
      refine pw_if_ne hX (tgt := 848) d_Law_833 (by decide) (fun q345 => ?_) (fun q345 => by exact absurd q345 (by decide))
      refine pw_goto hX (tgt := 1137) d_Law_848 (by decide) ?_
      refine pw_iinc hX (v := 7) (lv' := [some (.float 300), some (.ref 0), some (.ref (0 + 517)), some (.ref (0 + 625)), some (.int 7), some (.int 1), some (.int x341)]) d_Law_1137 rfl (by decide) (by decide) rfl ?_
      refine pw_goto hX (tgt := 33) d_Law_1140 (by decide) ?_
      refine pw_iload hX d_Law_33 rfl ?_
      refine pw_aload_n hX d_Law_35 rfl rfl rfl ?_
      refine pw_slen hX hK d_Law_36 ?_
      refine pw_bipush hX (v := 6) d_Law_37 (by decide) ?_
      refine pw_isub hX d_Law_39 ?_
      refine pw_icmp_gt hX (tgt := 1143) d_Law_40 (by decide) (fun q346 => ?_) (fun q346 => ?_)
      · refine pw_iconst hX (v := 1) d_Law_1143 (by decide) ?_
        exact pw_zret hX d_Law_1144 rfl rfl (by decide) (by decide) rfl
      · exact absurd law7b q346
    by_cases t347 : (sxs 1) &&& 31 = 17
    · refine pw_tableIn hX (off := 801) (tgt := 851) d_Law_50 (by rw [t347]; decide) (by rw [t347]; decide) (by rw [t347]; decide) (by decide) ?_
      refine pw_aload_n hX d_Law_851 rfl rfl rfl ?_
      refine pw_aload_n hX d_Law_852 rfl rfl rfl ?_
      refine pw_iload hX d_Law_853 rfl ?_
      refine pw_iconst hX (v := 1) d_Law_855 (by decide) ?_
      refine pw_iadd hX d_Law_856 ?_
      refine pw_topi hX (fun x348 ex348 => ?_)
      obtain rfl : x348 = 2 := ex348.trans (by decide)
      clear ex348
      refine pw_sld hX hK d_Law_857 (in_of (by decide) (by decide) (by decide)) ?_
      refine pw_topi hX (fun x349 ex349 => ?_)
      obtain rfl : x349 = sxs 2 := ex349.trans rfl
      clear ex349
      refine pw_callV_a hX (As := [.int (sxs 2)]) (rest := []) d_Law_858 hK (pw_ofM (f_W_failure kf38)) (ab_mkC s_W_failure (Nat.le_of_ble_eq_true rfl) (Nat.le_of_ble_eq_true rfl) (by decide) (by decide)) (k7 215 rfl rfl) i_W_failure v_W_failure kf38.1 rfl rfl (Nat.le_of_ble_eq_true rfl) (fun h350 f351 => ?_)
      have c352 : h350[0+625]? = some (.inl (.long, 1, .inr (.inl (fun _ => 0)))) := ab_fr_at f351 c36 (by simp only [in_lo] <;> omega)
      have kf353 : at_M0 h350 (0 + 517) x9 := fr_M0 f351 kf39 (by intro i hi hs; simp only [in_M0, in_lo] at hi hs <;> omega)
      refine pw_aload_n hX d_Law_861 rfl rfl rfl ?_
      refine pw_aload_n hX d_Law_862 rfl rfl rfl ?_
      refine pw_iload hX d_Law_863 rfl ?_
      refine pw_iconst hX (v := 1) d_Law_865 (by decide) ?_
      refine pw_iadd hX d_Law_866 ?_
      refine pw_topi hX (fun x354 ex354 => ?_)
      obtain rfl : x354 = 2 := ex354.trans (by decide)
      clear ex354
      refine pw_sld hX hK d_Law_867 (in_of (by decide) (by decide) (by decide)) ?_
      refine pw_topi hX (fun x355 ex355 => ?_)
      obtain rfl : x355 = sxs 2 := ex355.trans rfl
      clear ex355
      refine pw_callV_a hX (As := [.int (sxs 2)]) (rest := [.int (sq_W_failure (sxs 2))]) d_Law_868 hK (pw_ofM (f_M_failure kf353)) (ab_mkC s_M_failure (Nat.le_of_ble_eq_true rfl) (Nat.le_of_ble_eq_true rfl) (by decide) (by decide)) (k12 231 rfl rfl) i_M_failure v_M_failure kf353.1.1 rfl rfl (Nat.le_of_ble_eq_true rfl) (fun h356 q357 => ?_)
      refine pw_icmp_eq hX (tgt := 1137) d_Law_871 (by decide) (fun q358 => ?_) (fun q358 => ?_)
      · refine pw_iinc hX (v := 7) (lv' := [some (.float 300), some (.ref 0), some (.ref (0 + 517)), some (.ref (0 + 625)), some (.int 7), none, none]) d_Law_1137 rfl (by decide) (by decide) rfl ?_
        refine pw_goto hX (tgt := 33) d_Law_1140 (by decide) ?_
        refine pw_iload hX d_Law_33 rfl ?_
        refine pw_aload_n hX d_Law_35 rfl rfl rfl ?_
        refine pw_slen hX hK d_Law_36 ?_
        refine pw_bipush hX (v := 6) d_Law_37 (by decide) ?_
        refine pw_isub hX d_Law_39 ?_
        refine pw_icmp_gt hX (tgt := 1143) d_Law_40 (by decide) (fun q359 => ?_) (fun q359 => ?_)
        · refine pw_iconst hX (v := 1) d_Law_1143 (by decide) ?_
          exact pw_zret hX d_Law_1144 rfl rfl (by decide) (by decide) rfl
        · exact absurd law7b q359
      · exact absurd (eq_failure (sxs 2)) q358
    by_cases t360 : (sxs 1) &&& 31 = 18
    · refine pw_tableIn hX (off := 826) (tgt := 876) d_Law_50 (by rw [t360]; decide) (by rw [t360]; decide) (by rw [t360]; decide) (by decide) ?_
      refine pw_aload_n hX d_Law_876 rfl rfl rfl ?_
      refine pw_aload_n hX d_Law_877 rfl rfl rfl ?_
      refine pw_iload hX d_Law_878 rfl ?_
      refine pw_iconst hX (v := 1) d_Law_880 (by decide) ?_
      refine pw_iadd hX d_Law_881 ?_
      refine pw_topi hX (fun x361 ex361 => ?_)
      obtain rfl : x361 = 2 := ex361.trans (by decide)
      clear ex361
      refine pw_sld hX hK d_Law_882 (in_of (by decide) (by decide) (by decide)) ?_
      refine pw_topi hX (fun x362 ex362 => ?_)
      obtain rfl : x362 = sxs 2 := ex362.trans rfl
      clear ex362
      refine pw_aload_n hX d_Law_883 rfl rfl rfl ?_
      refine pw_iload hX d_Law_884 rfl ?_
      refine pw_iconst hX (v := 2) d_Law_886 (by decide) ?_
      refine pw_iadd hX d_Law_887 ?_
      refine pw_topi hX (fun x363 ex363 => ?_)
      obtain rfl : x363 = 3 := ex363.trans (by decide)
      clear ex363
      refine pw_sld hX hK d_Law_888 (in_of (by decide) (by decide) (by decide)) ?_
      refine pw_topi hX (fun x364 ex364 => ?_)
      obtain rfl : x364 = sxs 3 := ex364.trans rfl
      clear ex364
      refine pw_callV_a hX (As := [.int (sxs 2), .int (sxs 3)]) (rest := []) d_Law_889 hK (pw_ofM (f_W_pending kf38)) (ab_mkC s_W_pending (Nat.le_of_ble_eq_true rfl) (Nat.le_of_ble_eq_true rfl) (by decide) (by decide)) (k7 219 rfl rfl) i_W_pending v_W_pending kf38.1 rfl rfl (Nat.le_of_ble_eq_true rfl) (fun h365 f366 => ?_)
      have c367 : h365[0+625]? = some (.inl (.long, 1, .inr (.inl (fun _ => 0)))) := ab_fr_at f366 c36 (by simp only [in_lo] <;> omega)
      have kf368 : at_M0 h365 (0 + 517) x9 := fr_M0 f366 kf39 (by intro i hi hs; simp only [in_M0, in_lo] at hi hs <;> omega)
      refine pw_aload_n hX d_Law_892 rfl rfl rfl ?_
      refine pw_aload_n hX d_Law_893 rfl rfl rfl ?_
      refine pw_iload hX d_Law_894 rfl ?_
      refine pw_iconst hX (v := 1) d_Law_896 (by decide) ?_
      refine pw_iadd hX d_Law_897 ?_
      refine pw_topi hX (fun x369 ex369 => ?_)
      obtain rfl : x369 = 2 := ex369.trans (by decide)
      clear ex369
      refine pw_sld hX hK d_Law_898 (in_of (by decide) (by decide) (by decide)) ?_
      refine pw_topi hX (fun x370 ex370 => ?_)
      obtain rfl : x370 = sxs 2 := ex370.trans rfl
      clear ex370
      refine pw_aload_n hX d_Law_899 rfl rfl rfl ?_
      refine pw_iload hX d_Law_900 rfl ?_
      refine pw_iconst hX (v := 2) d_Law_902 (by decide) ?_
      refine pw_iadd hX d_Law_903 ?_
      refine pw_topi hX (fun x371 ex371 => ?_)
      obtain rfl : x371 = 3 := ex371.trans (by decide)
      clear ex371
      refine pw_sld hX hK d_Law_904 (in_of (by decide) (by decide) (by decide)) ?_
      refine pw_topi hX (fun x372 ex372 => ?_)
      obtain rfl : x372 = sxs 3 := ex372.trans rfl
      clear ex372
      refine pw_callV_a hX (As := [.int (sxs 2), .int (sxs 3)]) (rest := [.int (sq_W_pending (sxs 2) (sxs 3))]) d_Law_905 hK (pw_ofM (f_M_pending kf368)) (ab_mkC s_M_pending (Nat.le_of_ble_eq_true rfl) (Nat.le_of_ble_eq_true rfl) (by decide) (by decide)) (k12 235 rfl rfl) i_M_pending v_M_pending kf368.1.1 rfl rfl (Nat.le_of_ble_eq_true rfl) (fun h373 q374 => ?_)
      refine pw_icmp_eq hX (tgt := 1137) d_Law_908 (by decide) (fun q375 => ?_) (fun q375 => ?_)
      · refine pw_iinc hX (v := 7) (lv' := [some (.float 300), some (.ref 0), some (.ref (0 + 517)), some (.ref (0 + 625)), some (.int 7), none, none]) d_Law_1137 rfl (by decide) (by decide) rfl ?_
        refine pw_goto hX (tgt := 33) d_Law_1140 (by decide) ?_
        refine pw_iload hX d_Law_33 rfl ?_
        refine pw_aload_n hX d_Law_35 rfl rfl rfl ?_
        refine pw_slen hX hK d_Law_36 ?_
        refine pw_bipush hX (v := 6) d_Law_37 (by decide) ?_
        refine pw_isub hX d_Law_39 ?_
        refine pw_icmp_gt hX (tgt := 1143) d_Law_40 (by decide) (fun q376 => ?_) (fun q376 => ?_)
        · refine pw_iconst hX (v := 1) d_Law_1143 (by decide) ?_
          exact pw_zret hX d_Law_1144 rfl rfl (by decide) (by decide) rfl
        · exact absurd law7b q376
      · exact absurd (eq_pending (sxs 2) (sxs 3)) q375
    by_cases t377 : (sxs 1) &&& 31 = 19
    · refine pw_tableIn hX (off := 863) (tgt := 913) d_Law_50 (by rw [t377]; decide) (by rw [t377]; decide) (by rw [t377]; decide) (by decide) ?_
      refine pw_aload_n hX d_Law_913 rfl rfl rfl ?_
      refine pw_aload_n hX d_Law_914 rfl rfl rfl ?_
      refine pw_iload hX d_Law_915 rfl ?_
      refine pw_iconst hX (v := 1) d_Law_917 (by decide) ?_
      refine pw_iadd hX d_Law_918 ?_
      refine pw_topi hX (fun x378 ex378 => ?_)
      obtain rfl : x378 = 2 := ex378.trans (by decide)
      clear ex378
      refine pw_sld hX hK d_Law_919 (in_of (by decide) (by decide) (by decide)) ?_
      refine pw_topi hX (fun x379 ex379 => ?_)
      obtain rfl : x379 = sxs 2 := ex379.trans rfl
      clear ex379
      refine pw_callV_a hX (As := [.int (sxs 2)]) (rest := []) d_Law_920 hK (pw_ofM (f_W_look kf38)) (ab_mkC s_W_look (Nat.le_of_ble_eq_true rfl) (Nat.le_of_ble_eq_true rfl) (by decide) (by decide)) (k7 223 rfl rfl) i_W_look v_W_look kf38.1 rfl rfl (Nat.le_of_ble_eq_true rfl) (fun h380 f381 => ?_)
      have c382 : h380[0+625]? = some (.inl (.long, 1, .inr (.inl (fun _ => 0)))) := ab_fr_at f381 c36 (by simp only [in_lo] <;> omega)
      have kf383 : at_M0 h380 (0 + 517) x9 := fr_M0 f381 kf39 (by intro i hi hs; simp only [in_M0, in_lo] at hi hs <;> omega)
      refine pw_aload_n hX d_Law_923 rfl rfl rfl ?_
      refine pw_aload_n hX d_Law_924 rfl rfl rfl ?_
      refine pw_iload hX d_Law_925 rfl ?_
      refine pw_iconst hX (v := 1) d_Law_927 (by decide) ?_
      refine pw_iadd hX d_Law_928 ?_
      refine pw_topi hX (fun x384 ex384 => ?_)
      obtain rfl : x384 = 2 := ex384.trans (by decide)
      clear ex384
      refine pw_sld hX hK d_Law_929 (in_of (by decide) (by decide) (by decide)) ?_
      refine pw_topi hX (fun x385 ex385 => ?_)
      obtain rfl : x385 = sxs 2 := ex385.trans rfl
      clear ex385
      refine pw_callV_a hX (As := [.int (sxs 2)]) (rest := [.int (sq_W_look (sxs 2) x9)]) d_Law_930 hK (pw_ofM (f_M_look kf383)) (ab_mkC s_M_look (Nat.le_of_ble_eq_true rfl) (Nat.le_of_ble_eq_true rfl) (by decide) (by decide)) (k12 239 rfl rfl) i_M_look v_M_look kf383.1.1 rfl rfl (Nat.le_of_ble_eq_true rfl) (fun h386 q387 => ?_)
      refine pw_icmp_eq hX (tgt := 1137) d_Law_933 (by decide) (fun q388 => ?_) (fun q388 => ?_)
      · refine pw_iinc hX (v := 7) (lv' := [some (.float 300), some (.ref 0), some (.ref (0 + 517)), some (.ref (0 + 625)), some (.int 7), none, none]) d_Law_1137 rfl (by decide) (by decide) rfl ?_
        refine pw_goto hX (tgt := 33) d_Law_1140 (by decide) ?_
        refine pw_iload hX d_Law_33 rfl ?_
        refine pw_aload_n hX d_Law_35 rfl rfl rfl ?_
        refine pw_slen hX hK d_Law_36 ?_
        refine pw_bipush hX (v := 6) d_Law_37 (by decide) ?_
        refine pw_isub hX d_Law_39 ?_
        refine pw_icmp_gt hX (tgt := 1143) d_Law_40 (by decide) (fun q389 => ?_) (fun q389 => ?_)
        · refine pw_iconst hX (v := 1) d_Law_1143 (by decide) ?_
          exact pw_zret hX d_Law_1144 rfl rfl (by decide) (by decide) rfl
        · exact absurd law7b q389
      · exact absurd (eq_look (sxs 2) x9) q388
    by_cases t390 : (sxs 1) &&& 31 = 20
    · refine pw_tableIn hX (off := 888) (tgt := 938) d_Law_50 (by rw [t390]; decide) (by rw [t390]; decide) (by rw [t390]; decide) (by decide) ?_
      refine pw_aload_n hX d_Law_938 rfl rfl rfl ?_
      refine pw_callV_a hX (As := []) (rest := []) d_Law_939 hK (pw_ofM (f_W_sum kf38)) (ab_mkC s_W_sum (Nat.le_of_ble_eq_true rfl) (Nat.le_of_ble_eq_true rfl) (by decide) (by decide)) (k7 232 rfl rfl) i_W_sum v_W_sum kf38.1 rfl rfl (Nat.le_of_ble_eq_true rfl) (fun h391 f392 => ?_)
      have c393 : h391[0+625]? = some (.inl (.long, 1, .inr (.inl (fun _ => 0)))) := ab_fr_at f392 c36 (by simp only [in_lo] <;> omega)
      have kf394 : at_M0 h391 (0 + 517) x9 := fr_M0 f392 kf39 (by intro i hi hs; simp only [in_M0, in_lo] at hi hs <;> omega)
      refine pw_aload_n hX d_Law_942 rfl rfl rfl ?_
      refine pw_callV_a hX (As := []) (rest := [.int sq_W_sum]) d_Law_943 hK (pw_ofM (f_M_sum kf394)) (ab_mkC s_M_sum (Nat.le_of_ble_eq_true rfl) (Nat.le_of_ble_eq_true rfl) (by decide) (by decide)) (k13 24 rfl rfl) i_M_sum v_M_sum kf394.1.1 rfl rfl (Nat.le_of_ble_eq_true rfl) (fun h395 q396 => ?_)
      refine pw_icmp_eq hX (tgt := 1137) d_Law_946 (by decide) (fun q397 => ?_) (fun q397 => ?_)
      · refine pw_iinc hX (v := 7) (lv' := [some (.float 300), some (.ref 0), some (.ref (0 + 517)), some (.ref (0 + 625)), some (.int 7), none, none]) d_Law_1137 rfl (by decide) (by decide) rfl ?_
        refine pw_goto hX (tgt := 33) d_Law_1140 (by decide) ?_
        refine pw_iload hX d_Law_33 rfl ?_
        refine pw_aload_n hX d_Law_35 rfl rfl rfl ?_
        refine pw_slen hX hK d_Law_36 ?_
        refine pw_bipush hX (v := 6) d_Law_37 (by decide) ?_
        refine pw_isub hX d_Law_39 ?_
        refine pw_icmp_gt hX (tgt := 1143) d_Law_40 (by decide) (fun q398 => ?_) (fun q398 => ?_)
        · refine pw_iconst hX (v := 1) d_Law_1143 (by decide) ?_
          exact pw_zret hX d_Law_1144 rfl rfl (by decide) (by decide) rfl
        · exact absurd law7b q398
      · exact absurd (eq_sum) q397
    by_cases t399 : (sxs 1) &&& 31 = 21
    · refine pw_tableIn hX (off := 901) (tgt := 951) d_Law_50 (by rw [t399]; decide) (by rw [t399]; decide) (by rw [t399]; decide) (by decide) ?_
      refine pw_aload_n hX d_Law_951 rfl rfl rfl ?_
      refine pw_callV_a hX (As := []) (rest := []) d_Law_952 hK (pw_ofM (f_W_save kf38)) (ab_mkC s_W_save (Nat.le_of_ble_eq_true rfl) (Nat.le_of_ble_eq_true rfl) (by decide) (by decide)) (k8 23 rfl rfl) i_W_save v_W_save kf38.1 rfl rfl (Nat.le_of_ble_eq_true rfl) (fun h400 f401 => ?_)
      have c402 : h400[0+625]? = some (.inl (.long, 1, .inr (.inl (fun _ => 0)))) := ab_fr_at f401 c36 (by simp only [in_lo] <;> omega)
      have kf403 : at_M0 h400 (0 + 517) x9 := fr_M0 f401 kf39 (by intro i hi hs; simp only [in_M0, in_lo] at hi hs <;> omega)
      refine pw_aload_n hX d_Law_955 rfl rfl rfl ?_
      refine pw_callV_a hX (As := []) (rest := [.int sq_W_save]) d_Law_956 hK (pw_ofM (f_M_save kf403)) (ab_mkC s_M_save (Nat.le_of_ble_eq_true rfl) (Nat.le_of_ble_eq_true rfl) (by decide) (by decide)) (k13 36 rfl rfl) i_M_save v_M_save kf403.1.1 rfl rfl (Nat.le_of_ble_eq_true rfl) (fun h404 q405 => ?_)
      refine pw_icmp_eq hX (tgt := 1137) d_Law_959 (by decide) (fun q406 => ?_) (fun q406 => ?_)
      · refine pw_iinc hX (v := 7) (lv' := [some (.float 300), some (.ref 0), some (.ref (0 + 517)), some (.ref (0 + 625)), some (.int 7), none, none]) d_Law_1137 rfl (by decide) (by decide) rfl ?_
        refine pw_goto hX (tgt := 33) d_Law_1140 (by decide) ?_
        refine pw_iload hX d_Law_33 rfl ?_
        refine pw_aload_n hX d_Law_35 rfl rfl rfl ?_
        refine pw_slen hX hK d_Law_36 ?_
        refine pw_bipush hX (v := 6) d_Law_37 (by decide) ?_
        refine pw_isub hX d_Law_39 ?_
        refine pw_icmp_gt hX (tgt := 1143) d_Law_40 (by decide) (fun q407 => ?_) (fun q407 => ?_)
        · refine pw_iconst hX (v := 1) d_Law_1143 (by decide) ?_
          exact pw_zret hX d_Law_1144 rfl rfl (by decide) (by decide) rfl
        · exact absurd law7b q407
      · exact absurd (eq_save) q406
    by_cases t408 : (sxs 1) &&& 31 = 22
    · refine pw_tableIn hX (off := 914) (tgt := 964) d_Law_50 (by rw [t408]; decide) (by rw [t408]; decide) (by rw [t408]; decide) (by decide) ?_
      refine pw_aload_n hX d_Law_964 rfl rfl rfl ?_
      refine pw_aload_n hX d_Law_965 rfl rfl rfl ?_
      refine pw_iload hX d_Law_966 rfl ?_
      refine pw_iconst hX (v := 1) d_Law_968 (by decide) ?_
      refine pw_iadd hX d_Law_969 ?_
      refine pw_topi hX (fun x409 ex409 => ?_)
      obtain rfl : x409 = 2 := ex409.trans (by decide)
      clear ex409
      refine pw_sld hX hK d_Law_970 (in_of (by decide) (by decide) (by decide)) ?_
      refine pw_topi hX (fun x410 ex410 => ?_)
      obtain rfl : x410 = sxs 2 := ex410.trans rfl
      clear ex410
      refine pw_aload_n hX d_Law_971 rfl rfl rfl ?_
      refine pw_iload hX d_Law_972 rfl ?_
      refine pw_iconst hX (v := 2) d_Law_974 (by decide) ?_
      refine pw_iadd hX d_Law_975 ?_
      refine pw_topi hX (fun x411 ex411 => ?_)
      obtain rfl : x411 = 3 := ex411.trans (by decide)
      clear ex411
      refine pw_sld hX hK d_Law_976 (in_of (by decide) (by decide) (by decide)) ?_
      refine pw_topi hX (fun x412 ex412 => ?_)
      obtain rfl : x412 = sxs 3 := ex412.trans rfl
      clear ex412
      refine pw_callV_a hX (As := [.int (sxs 2), .int (sxs 3)]) (rest := []) d_Law_977 hK (pw_ofM (f_W_bend kf38)) (ab_mkC s_W_bend (Nat.le_of_ble_eq_true rfl) (Nat.le_of_ble_eq_true rfl) (by decide) (by decide)) (k8 27 rfl rfl) i_W_bend v_W_bend kf38.1 rfl rfl (Nat.le_of_ble_eq_true rfl) (fun h413 f414 => ?_)
      have c415 : h413[0+625]? = some (.inl (.long, 1, .inr (.inl (fun _ => 0)))) := ab_fr_at f414 c36 (by simp only [in_lo] <;> omega)
      have kf416 : at_M0 h413 (0 + 517) x9 := fr_M0 f414 kf39 (by intro i hi hs; simp only [in_M0, in_lo] at hi hs <;> omega)
      refine pw_aload_n hX d_Law_980 rfl rfl rfl ?_
      refine pw_aload_n hX d_Law_981 rfl rfl rfl ?_
      refine pw_iload hX d_Law_982 rfl ?_
      refine pw_iconst hX (v := 1) d_Law_984 (by decide) ?_
      refine pw_iadd hX d_Law_985 ?_
      refine pw_topi hX (fun x417 ex417 => ?_)
      obtain rfl : x417 = 2 := ex417.trans (by decide)
      clear ex417
      refine pw_sld hX hK d_Law_986 (in_of (by decide) (by decide) (by decide)) ?_
      refine pw_topi hX (fun x418 ex418 => ?_)
      obtain rfl : x418 = sxs 2 := ex418.trans rfl
      clear ex418
      refine pw_aload_n hX d_Law_987 rfl rfl rfl ?_
      refine pw_iload hX d_Law_988 rfl ?_
      refine pw_iconst hX (v := 2) d_Law_990 (by decide) ?_
      refine pw_iadd hX d_Law_991 ?_
      refine pw_topi hX (fun x419 ex419 => ?_)
      obtain rfl : x419 = 3 := ex419.trans (by decide)
      clear ex419
      refine pw_sld hX hK d_Law_992 (in_of (by decide) (by decide) (by decide)) ?_
      refine pw_topi hX (fun x420 ex420 => ?_)
      obtain rfl : x420 = sxs 3 := ex420.trans rfl
      clear ex420
      refine pw_callV_a hX (As := [.int (sxs 2), .int (sxs 3)]) (rest := [.int (sq_W_bend (sxs 2) (sxs 3))]) d_Law_993 hK (pw_ofM (f_M_bend kf416)) (ab_mkC s_M_bend (Nat.le_of_ble_eq_true rfl) (Nat.le_of_ble_eq_true rfl) (by decide) (by decide)) (k13 40 rfl rfl) i_M_bend v_M_bend kf416.1.1 rfl rfl (Nat.le_of_ble_eq_true rfl) (fun h421 q422 => ?_)
      refine pw_icmp_eq hX (tgt := 1137) d_Law_996 (by decide) (fun q423 => ?_) (fun q423 => ?_)
      · refine pw_iinc hX (v := 7) (lv' := [some (.float 300), some (.ref 0), some (.ref (0 + 517)), some (.ref (0 + 625)), some (.int 7), none, none]) d_Law_1137 rfl (by decide) (by decide) rfl ?_
        refine pw_goto hX (tgt := 33) d_Law_1140 (by decide) ?_
        refine pw_iload hX d_Law_33 rfl ?_
        refine pw_aload_n hX d_Law_35 rfl rfl rfl ?_
        refine pw_slen hX hK d_Law_36 ?_
        refine pw_bipush hX (v := 6) d_Law_37 (by decide) ?_
        refine pw_isub hX d_Law_39 ?_
        refine pw_icmp_gt hX (tgt := 1143) d_Law_40 (by decide) (fun q424 => ?_) (fun q424 => ?_)
        · refine pw_iconst hX (v := 1) d_Law_1143 (by decide) ?_
          exact pw_zret hX d_Law_1144 rfl rfl (by decide) (by decide) rfl
        · exact absurd law7b q424
      · exact absurd (eq_bend (sxs 2) (sxs 3)) q423
    by_cases t425 : (sxs 1) &&& 31 = 23
    · refine pw_tableIn hX (off := 951) (tgt := 1001) d_Law_50 (by rw [t425]; decide) (by rw [t425]; decide) (by rw [t425]; decide) (by decide) ?_
      refine pw_aload_n hX d_Law_1001 rfl rfl rfl ?_
      refine pw_aload_n hX d_Law_1002 rfl rfl rfl ?_
      refine pw_iload hX d_Law_1003 rfl ?_
      refine pw_iconst hX (v := 1) d_Law_1005 (by decide) ?_
      refine pw_iadd hX d_Law_1006 ?_
      refine pw_topi hX (fun x426 ex426 => ?_)
      obtain rfl : x426 = 2 := ex426.trans (by decide)
      clear ex426
      refine pw_sld hX hK d_Law_1007 (in_of (by decide) (by decide) (by decide)) ?_
      refine pw_topi hX (fun x427 ex427 => ?_)
      obtain rfl : x427 = sxs 2 := ex427.trans rfl
      clear ex427
      refine pw_callV_a hX (As := [.int (sxs 2)]) (rest := []) d_Law_1008 hK (pw_ofM (f_W_cut kf38)) (ab_mkC s_W_cut (Nat.le_of_ble_eq_true rfl) (Nat.le_of_ble_eq_true rfl) (by decide) (by decide)) (k8 31 rfl rfl) i_W_cut v_W_cut kf38.1 rfl rfl (Nat.le_of_ble_eq_true rfl) (fun h428 f429 => ?_)
      have c430 : h428[0+625]? = some (.inl (.long, 1, .inr (.inl (fun _ => 0)))) := ab_fr_at f429 c36 (by simp only [in_lo] <;> omega)
      have kf431 : at_M0 h428 (0 + 517) x9 := fr_M0 f429 kf39 (by intro i hi hs; simp only [in_M0, in_lo] at hi hs <;> omega)
      refine pw_aload_n hX d_Law_1011 rfl rfl rfl ?_
      refine pw_aload_n hX d_Law_1012 rfl rfl rfl ?_
      refine pw_iload hX d_Law_1013 rfl ?_
      refine pw_iconst hX (v := 1) d_Law_1015 (by decide) ?_
      refine pw_iadd hX d_Law_1016 ?_
      refine pw_topi hX (fun x432 ex432 => ?_)
      obtain rfl : x432 = 2 := ex432.trans (by decide)
      clear ex432
      refine pw_sld hX hK d_Law_1017 (in_of (by decide) (by decide) (by decide)) ?_
      refine pw_topi hX (fun x433 ex433 => ?_)
      obtain rfl : x433 = sxs 2 := ex433.trans rfl
      clear ex433
      refine pw_callV_a hX (As := [.int (sxs 2)]) (rest := [.int (sq_W_cut (sxs 2))]) d_Law_1018 hK (pw_ofM (f_M_cut kf431)) (ab_mkC s_M_cut (Nat.le_of_ble_eq_true rfl) (Nat.le_of_ble_eq_true rfl) (by decide) (by decide)) (k13 44 rfl rfl) i_M_cut v_M_cut kf431.1.1 rfl rfl (Nat.le_of_ble_eq_true rfl) (fun h434 q435 => ?_)
      refine pw_icmp_eq hX (tgt := 1137) d_Law_1021 (by decide) (fun q436 => ?_) (fun q436 => ?_)
      · refine pw_iinc hX (v := 7) (lv' := [some (.float 300), some (.ref 0), some (.ref (0 + 517)), some (.ref (0 + 625)), some (.int 7), none, none]) d_Law_1137 rfl (by decide) (by decide) rfl ?_
        refine pw_goto hX (tgt := 33) d_Law_1140 (by decide) ?_
        refine pw_iload hX d_Law_33 rfl ?_
        refine pw_aload_n hX d_Law_35 rfl rfl rfl ?_
        refine pw_slen hX hK d_Law_36 ?_
        refine pw_bipush hX (v := 6) d_Law_37 (by decide) ?_
        refine pw_isub hX d_Law_39 ?_
        refine pw_icmp_gt hX (tgt := 1143) d_Law_40 (by decide) (fun q437 => ?_) (fun q437 => ?_)
        · refine pw_iconst hX (v := 1) d_Law_1143 (by decide) ?_
          exact pw_zret hX d_Law_1144 rfl rfl (by decide) (by decide) rfl
        · exact absurd law7b q437
      · exact absurd (eq_cut (sxs 2)) q436
    by_cases t438 : (sxs 1) &&& 31 = 24
    · refine pw_tableIn hX (off := 976) (tgt := 1026) d_Law_50 (by rw [t438]; decide) (by rw [t438]; decide) (by rw [t438]; decide) (by decide) ?_
      refine pw_aload_n hX d_Law_1026 rfl rfl rfl ?_
      refine pw_aload_n hX d_Law_1027 rfl rfl rfl ?_
      refine pw_iload hX d_Law_1028 rfl ?_
      refine pw_iconst hX (v := 1) d_Law_1030 (by decide) ?_
      refine pw_iadd hX d_Law_1031 ?_
      refine pw_topi hX (fun x439 ex439 => ?_)
      obtain rfl : x439 = 2 := ex439.trans (by decide)
      clear ex439
      refine pw_sld hX hK d_Law_1032 (in_of (by decide) (by decide) (by decide)) ?_
      refine pw_topi hX (fun x440 ex440 => ?_)
      obtain rfl : x440 = sxs 2 := ex440.trans rfl
      clear ex440
      refine pw_callV_a hX (As := [.int (sxs 2)]) (rest := []) d_Law_1033 hK (pw_ofM (f_W_byteOut kf38)) (ab_mkC s_W_byteOut (Nat.le_of_ble_eq_true rfl) (Nat.le_of_ble_eq_true rfl) (by decide) (by decide)) (k8 35 rfl rfl) i_W_byteOut v_W_byteOut kf38.1 rfl rfl (Nat.le_of_ble_eq_true rfl) (fun h441 f442 => ?_)
      have c443 : h441[0+625]? = some (.inl (.long, 1, .inr (.inl (fun _ => 0)))) := ab_fr_at f442 c36 (by simp only [in_lo] <;> omega)
      have kf444 : at_M0 h441 (0 + 517) x9 := fr_M0 f442 kf39 (by intro i hi hs; simp only [in_M0, in_lo] at hi hs <;> omega)
      refine pw_aload_n hX d_Law_1036 rfl rfl rfl ?_
      refine pw_aload_n hX d_Law_1037 rfl rfl rfl ?_
      refine pw_iload hX d_Law_1038 rfl ?_
      refine pw_iconst hX (v := 1) d_Law_1040 (by decide) ?_
      refine pw_iadd hX d_Law_1041 ?_
      refine pw_topi hX (fun x445 ex445 => ?_)
      obtain rfl : x445 = 2 := ex445.trans (by decide)
      clear ex445
      refine pw_sld hX hK d_Law_1042 (in_of (by decide) (by decide) (by decide)) ?_
      refine pw_topi hX (fun x446 ex446 => ?_)
      obtain rfl : x446 = sxs 2 := ex446.trans rfl
      clear ex446
      refine pw_callV_a hX (As := [.int (sxs 2)]) (rest := [.int (sq_W_byteOut (sxs 2))]) d_Law_1043 hK (pw_ofM (f_M_byteOut kf444)) (ab_mkC s_M_byteOut (Nat.le_of_ble_eq_true rfl) (Nat.le_of_ble_eq_true rfl) (by decide) (by decide)) (k13 48 rfl rfl) i_M_byteOut v_M_byteOut kf444.1.1 rfl rfl (Nat.le_of_ble_eq_true rfl) (fun h447 q448 => ?_)
      refine pw_icmp_eq hX (tgt := 1137) d_Law_1046 (by decide) (fun q449 => ?_) (fun q449 => ?_)
      · refine pw_iinc hX (v := 7) (lv' := [some (.float 300), some (.ref 0), some (.ref (0 + 517)), some (.ref (0 + 625)), some (.int 7), none, none]) d_Law_1137 rfl (by decide) (by decide) rfl ?_
        refine pw_goto hX (tgt := 33) d_Law_1140 (by decide) ?_
        refine pw_iload hX d_Law_33 rfl ?_
        refine pw_aload_n hX d_Law_35 rfl rfl rfl ?_
        refine pw_slen hX hK d_Law_36 ?_
        refine pw_bipush hX (v := 6) d_Law_37 (by decide) ?_
        refine pw_isub hX d_Law_39 ?_
        refine pw_icmp_gt hX (tgt := 1143) d_Law_40 (by decide) (fun q450 => ?_) (fun q450 => ?_)
        · refine pw_iconst hX (v := 1) d_Law_1143 (by decide) ?_
          exact pw_zret hX d_Law_1144 rfl rfl (by decide) (by decide) rfl
        · exact absurd law7b q450
      · exact absurd (eq_byteOut (sxs 2)) q449
    by_cases t451 : (sxs 1) &&& 31 = 25
    · refine pw_tableIn hX (off := 1001) (tgt := 1051) d_Law_50 (by rw [t451]; decide) (by rw [t451]; decide) (by rw [t451]; decide) (by decide) ?_
      refine pw_aload_n hX d_Law_1051 rfl rfl rfl ?_
      refine pw_callV_a hX (As := []) (rest := []) d_Law_1052 hK (pw_ofM (f_W_load kf38)) (ab_mkC s_W_load (Nat.le_of_ble_eq_true rfl) (Nat.le_of_ble_eq_true rfl) (by decide) (by decide)) (k8 39 rfl rfl) i_W_load v_W_load kf38.1 rfl rfl (Nat.le_of_ble_eq_true rfl) (fun h452 f453 => ?_)
      have c454 : h452[0+625]? = some (.inl (.long, 1, .inr (.inl (fun _ => 0)))) := ab_fr_at f453 c36 (by simp only [in_lo] <;> omega)
      have kf455 : at_M0 h452 (0 + 517) x9 := fr_M0 f453 kf39 (by intro i hi hs; simp only [in_M0, in_lo] at hi hs <;> omega)
      refine pw_aload_n hX d_Law_1055 rfl rfl rfl ?_
      refine pw_callV_a hX (As := []) (rest := [.int sq_W_load]) d_Law_1056 hK (pw_ofM (f_M_load kf455)) (ab_mkC s_M_load (Nat.le_of_ble_eq_true rfl) (Nat.le_of_ble_eq_true rfl) (by decide) (by decide)) (k13 52 rfl rfl) i_M_load v_M_load kf455.1.1 rfl rfl (Nat.le_of_ble_eq_true rfl) (fun h456 q457 => ?_)
      refine pw_icmp_eq hX (tgt := 1137) d_Law_1059 (by decide) (fun q458 => ?_) (fun q458 => ?_)
      · refine pw_iinc hX (v := 7) (lv' := [some (.float 300), some (.ref 0), some (.ref (0 + 517)), some (.ref (0 + 625)), some (.int 7), none, none]) d_Law_1137 rfl (by decide) (by decide) rfl ?_
        refine pw_goto hX (tgt := 33) d_Law_1140 (by decide) ?_
        refine pw_iload hX d_Law_33 rfl ?_
        refine pw_aload_n hX d_Law_35 rfl rfl rfl ?_
        refine pw_slen hX hK d_Law_36 ?_
        refine pw_bipush hX (v := 6) d_Law_37 (by decide) ?_
        refine pw_isub hX d_Law_39 ?_
        refine pw_icmp_gt hX (tgt := 1143) d_Law_40 (by decide) (fun q459 => ?_) (fun q459 => ?_)
        · refine pw_iconst hX (v := 1) d_Law_1143 (by decide) ?_
          exact pw_zret hX d_Law_1144 rfl rfl (by decide) (by decide) rfl
        · exact absurd law7b q459
      · exact absurd (eq_load) q458
    by_cases t460 : (sxs 1) &&& 31 = 26
    · refine pw_tableIn hX (off := 1014) (tgt := 1064) d_Law_50 (by rw [t460]; decide) (by rw [t460]; decide) (by rw [t460]; decide) (by decide) ?_
      refine pw_aload_n hX d_Law_1064 rfl rfl rfl ?_
      refine pw_aload_n hX d_Law_1065 rfl rfl rfl ?_
      refine pw_iload hX d_Law_1066 rfl ?_
      refine pw_iconst hX (v := 1) d_Law_1068 (by decide) ?_
      refine pw_iadd hX d_Law_1069 ?_
      refine pw_topi hX (fun x461 ex461 => ?_)
      obtain rfl : x461 = 2 := ex461.trans (by decide)
      clear ex461
      refine pw_sld hX hK d_Law_1070 (in_of (by decide) (by decide) (by decide)) ?_
      refine pw_topi hX (fun x462 ex462 => ?_)
      obtain rfl : x462 = sxs 2 := ex462.trans rfl
      clear ex462
      refine pw_callV_a hX (As := [.int (sxs 2)]) (rest := []) d_Law_1071 hK (pw_ofM (f_W_fall kf38)) (ab_mkC s_W_fall (Nat.le_of_ble_eq_true rfl) (Nat.le_of_ble_eq_true rfl) (by decide) (by decide)) (k8 95 rfl rfl) i_W_fall v_W_fall kf38.1 rfl rfl (Nat.le_of_ble_eq_true rfl) (fun h463 f464 => ?_)
      have c465 : h463[0+625]? = some (.inl (.long, 1, .inr (.inl (fun _ => 0)))) := ab_fr_at f464 c36 (by simp only [in_lo] <;> omega)
      have kf466 : at_M0 h463 (0 + 517) x9 := fr_M0 f464 kf39 (by intro i hi hs; simp only [in_M0, in_lo] at hi hs <;> omega)
      refine pw_aload_n hX d_Law_1074 rfl rfl rfl ?_
      refine pw_aload_n hX d_Law_1075 rfl rfl rfl ?_
      refine pw_iload hX d_Law_1076 rfl ?_
      refine pw_iconst hX (v := 1) d_Law_1078 (by decide) ?_
      refine pw_iadd hX d_Law_1079 ?_
      refine pw_topi hX (fun x467 ex467 => ?_)
      obtain rfl : x467 = 2 := ex467.trans (by decide)
      clear ex467
      refine pw_sld hX hK d_Law_1080 (in_of (by decide) (by decide) (by decide)) ?_
      refine pw_topi hX (fun x468 ex468 => ?_)
      obtain rfl : x468 = sxs 2 := ex468.trans rfl
      clear ex468
      refine pw_callV_a hX (As := [.int (sxs 2)]) (rest := [.int (sq_W_fall (sxs 2) x9)]) d_Law_1081 hK (pw_ofM (f_M_fall kf466)) (ab_mkC s_M_fall (Nat.le_of_ble_eq_true rfl) (Nat.le_of_ble_eq_true rfl) (by decide) (by decide)) (k13 11 rfl rfl) i_M_fall v_M_fall kf466.1.1 rfl rfl (Nat.le_of_ble_eq_true rfl) (fun h469 q470 => ?_)
      refine pw_icmp_eq hX (tgt := 1137) d_Law_1084 (by decide) (fun q471 => ?_) (fun q471 => ?_)
      · refine pw_iinc hX (v := 7) (lv' := [some (.float 300), some (.ref 0), some (.ref (0 + 517)), some (.ref (0 + 625)), some (.int 7), none, none]) d_Law_1137 rfl (by decide) (by decide) rfl ?_
        refine pw_goto hX (tgt := 33) d_Law_1140 (by decide) ?_
        refine pw_iload hX d_Law_33 rfl ?_
        refine pw_aload_n hX d_Law_35 rfl rfl rfl ?_
        refine pw_slen hX hK d_Law_36 ?_
        refine pw_bipush hX (v := 6) d_Law_37 (by decide) ?_
        refine pw_isub hX d_Law_39 ?_
        refine pw_icmp_gt hX (tgt := 1143) d_Law_40 (by decide) (fun q472 => ?_) (fun q472 => ?_)
        · refine pw_iconst hX (v := 1) d_Law_1143 (by decide) ?_
          exact pw_zret hX d_Law_1144 rfl rfl (by decide) (by decide) rfl
        · exact absurd law7b q472
      · exact absurd (eq_fall (sxs 2) x9) q471
    by_cases t473 : (sxs 1) &&& 31 = 27
    · refine pw_tableIn hX (off := 1039) (tgt := 1089) d_Law_50 (by rw [t473]; decide) (by rw [t473]; decide) (by rw [t473]; decide) (by decide) ?_
      refine pw_aload_n hX d_Law_1089 rfl rfl rfl ?_
      refine pw_aload_n hX d_Law_1090 rfl rfl rfl ?_
      refine pw_iload hX d_Law_1091 rfl ?_
      refine pw_iconst hX (v := 1) d_Law_1093 (by decide) ?_
      refine pw_iadd hX d_Law_1094 ?_
      refine pw_topi hX (fun x474 ex474 => ?_)
      obtain rfl : x474 = 2 := ex474.trans (by decide)
      clear ex474
      refine pw_sld hX hK d_Law_1095 (in_of (by decide) (by decide) (by decide)) ?_
      refine pw_topi hX (fun x475 ex475 => ?_)
      obtain rfl : x475 = sxs 2 := ex475.trans rfl
      clear ex475
      refine pw_callV_a hX (As := [.int (sxs 2)]) (rest := []) d_Law_1096 hK (pw_ofM (f_W_stand kf38)) (ab_mkC s_W_stand (Nat.le_of_ble_eq_true rfl) (Nat.le_of_ble_eq_true rfl) (by decide) (by decide)) (k8 103 rfl rfl) i_W_stand v_W_stand kf38.1 rfl rfl (Nat.le_of_ble_eq_true rfl) (fun h476 f477 => ?_)
      have c478 : h476[0+625]? = some (.inl (.long, 1, .inr (.inl (fun _ => 0)))) := ab_fr_at f477 c36 (by simp only [in_lo] <;> omega)
      have kf479 : at_M0 h476 (0 + 517) x9 := fr_M0 f477 kf39 (by intro i hi hs; simp only [in_M0, in_lo] at hi hs <;> omega)
      refine pw_aload_n hX d_Law_1099 rfl rfl rfl ?_
      refine pw_aload_n hX d_Law_1100 rfl rfl rfl ?_
      refine pw_iload hX d_Law_1101 rfl ?_
      refine pw_iconst hX (v := 1) d_Law_1103 (by decide) ?_
      refine pw_iadd hX d_Law_1104 ?_
      refine pw_topi hX (fun x480 ex480 => ?_)
      obtain rfl : x480 = 2 := ex480.trans (by decide)
      clear ex480
      refine pw_sld hX hK d_Law_1105 (in_of (by decide) (by decide) (by decide)) ?_
      refine pw_topi hX (fun x481 ex481 => ?_)
      obtain rfl : x481 = sxs 2 := ex481.trans rfl
      clear ex481
      refine pw_callV_a hX (As := [.int (sxs 2)]) (rest := [.int (sq_W_stand (sxs 2) x9)]) d_Law_1106 hK (pw_ofM (f_M_stand kf479)) (ab_mkC s_M_stand (Nat.le_of_ble_eq_true rfl) (Nat.le_of_ble_eq_true rfl) (by decide) (by decide)) (k13 16 rfl rfl) i_M_stand v_M_stand kf479.1.1 rfl rfl (Nat.le_of_ble_eq_true rfl) (fun h482 q483 => ?_)
      refine pw_icmp_eq hX (tgt := 1137) d_Law_1109 (by decide) (fun q484 => ?_) (fun q484 => ?_)
      · refine pw_iinc hX (v := 7) (lv' := [some (.float 300), some (.ref 0), some (.ref (0 + 517)), some (.ref (0 + 625)), some (.int 7), none, none]) d_Law_1137 rfl (by decide) (by decide) rfl ?_
        refine pw_goto hX (tgt := 33) d_Law_1140 (by decide) ?_
        refine pw_iload hX d_Law_33 rfl ?_
        refine pw_aload_n hX d_Law_35 rfl rfl rfl ?_
        refine pw_slen hX hK d_Law_36 ?_
        refine pw_bipush hX (v := 6) d_Law_37 (by decide) ?_
        refine pw_isub hX d_Law_39 ?_
        refine pw_icmp_gt hX (tgt := 1143) d_Law_40 (by decide) (fun q485 => ?_) (fun q485 => ?_)
        · refine pw_iconst hX (v := 1) d_Law_1143 (by decide) ?_
          exact pw_zret hX d_Law_1144 rfl rfl (by decide) (by decide) rfl
        · exact absurd law7b q485
      · exact absurd (eq_stand (sxs 2) x9) q484
    by_cases t486 : (sxs 1) &&& 31 = 28
    · refine pw_tableIn hX (off := 1064) (tgt := 1114) d_Law_50 (by rw [t486]; decide) (by rw [t486]; decide) (by rw [t486]; decide) (by decide) ?_
      refine pw_aload_n hX d_Law_1114 rfl rfl rfl ?_
      refine pw_aload_n hX d_Law_1115 rfl rfl rfl ?_
      refine pw_iload hX d_Law_1116 rfl ?_
      refine pw_iconst hX (v := 1) d_Law_1118 (by decide) ?_
      refine pw_iadd hX d_Law_1119 ?_
      refine pw_topi hX (fun x487 ex487 => ?_)
      obtain rfl : x487 = 2 := ex487.trans (by decide)
      clear ex487
      refine pw_sld hX hK d_Law_1120 (in_of (by decide) (by decide) (by decide)) ?_
      refine pw_topi hX (fun x488 ex488 => ?_)
      obtain rfl : x488 = sxs 2 := ex488.trans rfl
      clear ex488
      refine pw_callV_v hX (As := [.int (sxs 2)]) (rest := []) d_Law_1121 hK (pw_ofM (f_W_pace kf38)) (ab_mkC s_W_pace (Nat.le_of_ble_eq_true rfl) (Nat.le_of_ble_eq_true rfl) (by decide) (by decide)) (k8 107 rfl rfl) i_W_pace v_W_pace kf38.1 rfl rfl (Nat.le_of_ble_eq_true rfl) (fun h489 f490 => ?_)
      have c491 : h489[0+625]? = some (.inl (.long, 1, .inr (.inl (fun _ => 0)))) := ab_fr_at f490 c36 (by simp only [in_lo] <;> omega)
      have kf492 : at_M0 h489 (0 + 517) x9 := fr_M0 f490 kf39 (by intro i hi hs; simp only [in_M0, in_lo] at hi hs <;> omega)
      refine pw_aload_n hX d_Law_1124 rfl rfl rfl ?_
      refine pw_aload_n hX d_Law_1125 rfl rfl rfl ?_
      refine pw_iload hX d_Law_1126 rfl ?_
      refine pw_iconst hX (v := 1) d_Law_1128 (by decide) ?_
      refine pw_iadd hX d_Law_1129 ?_
      refine pw_topi hX (fun x493 ex493 => ?_)
      obtain rfl : x493 = 2 := ex493.trans (by decide)
      clear ex493
      refine pw_sld hX hK d_Law_1130 (in_of (by decide) (by decide) (by decide)) ?_
      refine pw_topi hX (fun x494 ex494 => ?_)
      obtain rfl : x494 = sxs 2 := ex494.trans rfl
      clear ex494
      refine pw_callV_v hX (As := [.int (sxs 2)]) (rest := []) d_Law_1131 hK (pw_ofM (f_M_pace kf492)) (ab_mkC s_M_pace (Nat.le_of_ble_eq_true rfl) (Nat.le_of_ble_eq_true rfl) (by decide) (by decide)) (k13 20 rfl rfl) i_M_pace v_M_pace kf492.1.1 rfl rfl (Nat.le_of_ble_eq_true rfl) (fun h495 q496 => ?_)
      refine pw_goto hX (tgt := 1137) d_Law_1134 (by decide) ?_
      refine pw_iinc hX (v := 7) (lv' := [some (.float 300), some (.ref 0), some (.ref (0 + 517)), some (.ref (0 + 625)), some (.int 7), none, none]) d_Law_1137 rfl (by decide) (by decide) rfl ?_
      refine pw_goto hX (tgt := 33) d_Law_1140 (by decide) ?_
      refine pw_iload hX d_Law_33 rfl ?_
      refine pw_aload_n hX d_Law_35 rfl rfl rfl ?_
      refine pw_slen hX hK d_Law_36 ?_
      refine pw_bipush hX (v := 6) d_Law_37 (by decide) ?_
      refine pw_isub hX d_Law_39 ?_
      refine pw_icmp_gt hX (tgt := 1143) d_Law_40 (by decide) (fun q497 => ?_) (fun q497 => ?_)
      · refine pw_iconst hX (v := 1) d_Law_1143 (by decide) ?_
        exact pw_zret hX d_Law_1144 rfl rfl (by decide) (by decide) rfl
      · exact absurd law7b q497
    have ut43 : ((sxs 1) &&& 31).toInt ≠ 0 := fun z => t43 (Int32.toInt_inj.mp (z.trans (by decide)))
    have ut72 : ((sxs 1) &&& 31).toInt ≠ 1 := fun z => t72 (Int32.toInt_inj.mp (z.trans (by decide)))
    have ut85 : ((sxs 1) &&& 31).toInt ≠ 2 := fun z => t85 (Int32.toInt_inj.mp (z.trans (by decide)))
    have ut98 : ((sxs 1) &&& 31).toInt ≠ 3 := fun z => t98 (Int32.toInt_inj.mp (z.trans (by decide)))
    have ut111 : ((sxs 1) &&& 31).toInt ≠ 4 := fun z => t111 (Int32.toInt_inj.mp (z.trans (by decide)))
    have ut120 : ((sxs 1) &&& 31).toInt ≠ 5 := fun z => t120 (Int32.toInt_inj.mp (z.trans (by decide)))
    have ut129 : ((sxs 1) &&& 31).toInt ≠ 6 := fun z => t129 (Int32.toInt_inj.mp (z.trans (by decide)))
    have ut150 : ((sxs 1) &&& 31).toInt ≠ 7 := fun z => t150 (Int32.toInt_inj.mp (z.trans (by decide)))
    have ut182 : ((sxs 1) &&& 31).toInt ≠ 8 := fun z => t182 (Int32.toInt_inj.mp (z.trans (by decide)))
    have ut195 : ((sxs 1) &&& 31).toInt ≠ 9 := fun z => t195 (Int32.toInt_inj.mp (z.trans (by decide)))
    have ut216 : ((sxs 1) &&& 31).toInt ≠ 10 := fun z => t216 (Int32.toInt_inj.mp (z.trans (by decide)))
    have ut241 : ((sxs 1) &&& 31).toInt ≠ 11 := fun z => t241 (Int32.toInt_inj.mp (z.trans (by decide)))
    have ut268 : ((sxs 1) &&& 31).toInt ≠ 12 := fun z => t268 (Int32.toInt_inj.mp (z.trans (by decide)))
    have ut285 : ((sxs 1) &&& 31).toInt ≠ 13 := fun z => t285 (Int32.toInt_inj.mp (z.trans (by decide)))
    have ut298 : ((sxs 1) &&& 31).toInt ≠ 14 := fun z => t298 (Int32.toInt_inj.mp (z.trans (by decide)))
    have ut315 : ((sxs 1) &&& 31).toInt ≠ 15 := fun z => t315 (Int32.toInt_inj.mp (z.trans (by decide)))
    have ut328 : ((sxs 1) &&& 31).toInt ≠ 16 := fun z => t328 (Int32.toInt_inj.mp (z.trans (by decide)))
    have ut347 : ((sxs 1) &&& 31).toInt ≠ 17 := fun z => t347 (Int32.toInt_inj.mp (z.trans (by decide)))
    have ut360 : ((sxs 1) &&& 31).toInt ≠ 18 := fun z => t360 (Int32.toInt_inj.mp (z.trans (by decide)))
    have ut377 : ((sxs 1) &&& 31).toInt ≠ 19 := fun z => t377 (Int32.toInt_inj.mp (z.trans (by decide)))
    have ut390 : ((sxs 1) &&& 31).toInt ≠ 20 := fun z => t390 (Int32.toInt_inj.mp (z.trans (by decide)))
    have ut399 : ((sxs 1) &&& 31).toInt ≠ 21 := fun z => t399 (Int32.toInt_inj.mp (z.trans (by decide)))
    have ut408 : ((sxs 1) &&& 31).toInt ≠ 22 := fun z => t408 (Int32.toInt_inj.mp (z.trans (by decide)))
    have ut425 : ((sxs 1) &&& 31).toInt ≠ 23 := fun z => t425 (Int32.toInt_inj.mp (z.trans (by decide)))
    have ut438 : ((sxs 1) &&& 31).toInt ≠ 24 := fun z => t438 (Int32.toInt_inj.mp (z.trans (by decide)))
    have ut451 : ((sxs 1) &&& 31).toInt ≠ 25 := fun z => t451 (Int32.toInt_inj.mp (z.trans (by decide)))
    have ut460 : ((sxs 1) &&& 31).toInt ≠ 26 := fun z => t460 (Int32.toInt_inj.mp (z.trans (by decide)))
    have ut473 : ((sxs 1) &&& 31).toInt ≠ 27 := fun z => t473 (Int32.toInt_inj.mp (z.trans (by decide)))
    have ut486 : ((sxs 1) &&& 31).toInt ≠ 28 := fun z => t486 (Int32.toInt_inj.mp (z.trans (by decide)))
    refine pw_tableOut hX (tgt := 1137) d_Law_50 (by omega) (by decide) ?_
    refine pw_iinc hX (v := 7) (lv' := [some (.float 300), some (.ref 0), some (.ref (0 + 517)), some (.ref (0 + 625)), some (.int 7), none, none]) d_Law_1137 rfl (by decide) (by decide) rfl ?_
    refine pw_goto hX (tgt := 33) d_Law_1140 (by decide) ?_
    refine pw_iload hX d_Law_33 rfl ?_
    refine pw_aload_n hX d_Law_35 rfl rfl rfl ?_
    refine pw_slen hX hK d_Law_36 ?_
    refine pw_bipush hX (v := 6) d_Law_37 (by decide) ?_
    refine pw_isub hX d_Law_39 ?_
    refine pw_icmp_gt hX (tgt := 1143) d_Law_40 (by decide) (fun q498 => ?_) (fun q498 => ?_)
    · refine pw_iconst hX (v := 1) d_Law_1143 (by decide) ?_
      exact pw_zret hX d_Law_1144 rfl rfl (by decide) (by decide) rfl
    · exact absurd law7b q498
