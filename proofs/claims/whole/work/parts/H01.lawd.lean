def y_Law : ab_Y := (x, code, 7, ret, [])
theorem d_Law_0 : decode y_Law.2.1 0 = .ok (.new 8, 3) := by decide +kernel
theorem d_Law_3 : decode y_Law.2.1 3 = .ok (.dup, 1) := by decide +kernel
theorem d_Law_4 : decode y_Law.2.1 4 = .ok (.aload_n 0, 1) := by decide +kernel
theorem d_Law_5 : decode y_Law.2.1 5 = .ok (.iconst 0, 1) := by decide +kernel
theorem d_Law_6 : decode y_Law.2.1 6 = .ok (.invokestatic 19, 3) := by decide +kernel
theorem d_Law_9 : decode y_Law.2.1 9 = .ok (.invokespecial 25, 3) := by decide +kernel
theorem d_Law_12 : decode y_Law.2.1 12 = .ok (.astore_n 1, 1) := by decide +kernel
theorem d_Law_13 : decode y_Law.2.1 13 = .ok (.new 28, 3) := by decide +kernel
theorem d_Law_16 : decode y_Law.2.1 16 = .ok (.dup, 1) := by decide +kernel
theorem d_Law_17 : decode y_Law.2.1 17 = .ok (.aload_n 0, 1) := by decide +kernel
theorem d_Law_18 : decode y_Law.2.1 18 = .ok (.iconst 0, 1) := by decide +kernel
theorem d_Law_19 : decode y_Law.2.1 19 = .ok (.invokestatic 19, 3) := by decide +kernel
theorem d_Law_22 : decode y_Law.2.1 22 = .ok (.invokespecial 30, 3) := by decide +kernel
theorem d_Law_25 : decode y_Law.2.1 25 = .ok (.astore_n 2, 1) := by decide +kernel
theorem d_Law_26 : decode y_Law.2.1 26 = .ok (.iconst 1, 1) := by decide +kernel
theorem d_Law_27 : decode y_Law.2.1 27 = .ok (.newarray .long, 2) := by decide +kernel
theorem d_Law_29 : decode y_Law.2.1 29 = .ok (.astore_n 3, 1) := by decide +kernel
theorem d_Law_30 : decode y_Law.2.1 30 = .ok (.iconst 1, 1) := by decide +kernel
theorem d_Law_31 : decode y_Law.2.1 31 = .ok (.istore 4, 2) := by decide +kernel
theorem d_Law_33 : decode y_Law.2.1 33 = .ok (.iload 4, 2) := by decide +kernel
theorem d_Law_35 : decode y_Law.2.1 35 = .ok (.aload_n 0, 1) := by decide +kernel
theorem d_Law_36 : decode y_Law.2.1 36 = .ok (.arraylength, 1) := by decide +kernel
theorem d_Law_37 : decode y_Law.2.1 37 = .ok (.bipush 6, 2) := by decide +kernel
theorem d_Law_39 : decode y_Law.2.1 39 = .ok (.isub, 1) := by decide +kernel
theorem d_Law_40 : decode y_Law.2.1 40 = .ok (.if_icmp .gt 1103, 3) := by decide +kernel
theorem d_Law_43 : decode y_Law.2.1 43 = .ok (.aload_n 0, 1) := by decide +kernel
theorem d_Law_44 : decode y_Law.2.1 44 = .ok (.iload 4, 2) := by decide +kernel
theorem d_Law_46 : decode y_Law.2.1 46 = .ok (.iaload, 1) := by decide +kernel
theorem d_Law_47 : decode y_Law.2.1 47 = .ok (.bipush 31, 2) := by decide +kernel
theorem d_Law_49 : decode y_Law.2.1 49 = .ok (.iand, 1) := by decide +kernel
theorem d_Law_50 : decode y_Law.2.1 50 = .ok (.tableswitch 1087 0 28 #[130, 203, 228, 253, 278, 291, 304, 353, 406, 431, 480, 541, 621, 658, 683, 720, 745, 801, 826, 863, 888, 901, 914, 951, 976, 1001, 1014, 1039, 1064], 130) := by decide +kernel
theorem d_Law_180 : decode y_Law.2.1 180 = .ok (.aload_n 1, 1) := by decide +kernel
theorem d_Law_181 : decode y_Law.2.1 181 = .ok (.aload_n 0, 1) := by decide +kernel
theorem d_Law_182 : decode y_Law.2.1 182 = .ok (.iload 4, 2) := by decide +kernel
theorem d_Law_184 : decode y_Law.2.1 184 = .ok (.iconst 1, 1) := by decide +kernel
theorem d_Law_185 : decode y_Law.2.1 185 = .ok (.iadd, 1) := by decide +kernel
theorem d_Law_186 : decode y_Law.2.1 186 = .ok (.iaload, 1) := by decide +kernel
theorem d_Law_187 : decode y_Law.2.1 187 = .ok (.aload_n 0, 1) := by decide +kernel
theorem d_Law_188 : decode y_Law.2.1 188 = .ok (.iload 4, 2) := by decide +kernel
theorem d_Law_190 : decode y_Law.2.1 190 = .ok (.iconst 2, 1) := by decide +kernel
theorem d_Law_191 : decode y_Law.2.1 191 = .ok (.iadd, 1) := by decide +kernel
theorem d_Law_192 : decode y_Law.2.1 192 = .ok (.iaload, 1) := by decide +kernel
theorem d_Law_193 : decode y_Law.2.1 193 = .ok (.aload_n 0, 1) := by decide +kernel
theorem d_Law_194 : decode y_Law.2.1 194 = .ok (.iload 4, 2) := by decide +kernel
theorem d_Law_196 : decode y_Law.2.1 196 = .ok (.iconst 3, 1) := by decide +kernel
theorem d_Law_197 : decode y_Law.2.1 197 = .ok (.iadd, 1) := by decide +kernel
theorem d_Law_198 : decode y_Law.2.1 198 = .ok (.iaload, 1) := by decide +kernel
theorem d_Law_199 : decode y_Law.2.1 199 = .ok (.aload_n 0, 1) := by decide +kernel
theorem d_Law_200 : decode y_Law.2.1 200 = .ok (.iload 4, 2) := by decide +kernel
theorem d_Law_202 : decode y_Law.2.1 202 = .ok (.iconst 4, 1) := by decide +kernel
theorem d_Law_203 : decode y_Law.2.1 203 = .ok (.iadd, 1) := by decide +kernel
theorem d_Law_204 : decode y_Law.2.1 204 = .ok (.iaload, 1) := by decide +kernel
theorem d_Law_205 : decode y_Law.2.1 205 = .ok (.aload_n 0, 1) := by decide +kernel
theorem d_Law_206 : decode y_Law.2.1 206 = .ok (.iload 4, 2) := by decide +kernel
theorem d_Law_208 : decode y_Law.2.1 208 = .ok (.iconst 5, 1) := by decide +kernel
theorem d_Law_209 : decode y_Law.2.1 209 = .ok (.iadd, 1) := by decide +kernel
theorem d_Law_210 : decode y_Law.2.1 210 = .ok (.iaload, 1) := by decide +kernel
theorem d_Law_211 : decode y_Law.2.1 211 = .ok (.invokevirtual 31, 3) := by decide +kernel
theorem d_Law_214 : decode y_Law.2.1 214 = .ok (.aload_n 2, 1) := by decide +kernel
theorem d_Law_215 : decode y_Law.2.1 215 = .ok (.aload_n 0, 1) := by decide +kernel
theorem d_Law_216 : decode y_Law.2.1 216 = .ok (.iload 4, 2) := by decide +kernel
theorem d_Law_218 : decode y_Law.2.1 218 = .ok (.iconst 1, 1) := by decide +kernel
theorem d_Law_219 : decode y_Law.2.1 219 = .ok (.iadd, 1) := by decide +kernel
theorem d_Law_220 : decode y_Law.2.1 220 = .ok (.iaload, 1) := by decide +kernel
theorem d_Law_221 : decode y_Law.2.1 221 = .ok (.aload_n 0, 1) := by decide +kernel
theorem d_Law_222 : decode y_Law.2.1 222 = .ok (.iload 4, 2) := by decide +kernel
theorem d_Law_224 : decode y_Law.2.1 224 = .ok (.iconst 2, 1) := by decide +kernel
theorem d_Law_225 : decode y_Law.2.1 225 = .ok (.iadd, 1) := by decide +kernel
theorem d_Law_226 : decode y_Law.2.1 226 = .ok (.iaload, 1) := by decide +kernel
theorem d_Law_227 : decode y_Law.2.1 227 = .ok (.aload_n 0, 1) := by decide +kernel
theorem d_Law_228 : decode y_Law.2.1 228 = .ok (.iload 4, 2) := by decide +kernel
theorem d_Law_230 : decode y_Law.2.1 230 = .ok (.iconst 3, 1) := by decide +kernel
theorem d_Law_231 : decode y_Law.2.1 231 = .ok (.iadd, 1) := by decide +kernel
theorem d_Law_232 : decode y_Law.2.1 232 = .ok (.iaload, 1) := by decide +kernel
theorem d_Law_233 : decode y_Law.2.1 233 = .ok (.aload_n 0, 1) := by decide +kernel
theorem d_Law_234 : decode y_Law.2.1 234 = .ok (.iload 4, 2) := by decide +kernel
theorem d_Law_236 : decode y_Law.2.1 236 = .ok (.iconst 4, 1) := by decide +kernel
theorem d_Law_237 : decode y_Law.2.1 237 = .ok (.iadd, 1) := by decide +kernel
theorem d_Law_238 : decode y_Law.2.1 238 = .ok (.iaload, 1) := by decide +kernel
theorem d_Law_239 : decode y_Law.2.1 239 = .ok (.aload_n 0, 1) := by decide +kernel
theorem d_Law_240 : decode y_Law.2.1 240 = .ok (.iload 4, 2) := by decide +kernel
theorem d_Law_242 : decode y_Law.2.1 242 = .ok (.iconst 5, 1) := by decide +kernel
theorem d_Law_243 : decode y_Law.2.1 243 = .ok (.iadd, 1) := by decide +kernel
theorem d_Law_244 : decode y_Law.2.1 244 = .ok (.iaload, 1) := by decide +kernel
theorem d_Law_245 : decode y_Law.2.1 245 = .ok (.invokevirtual 35, 3) := by decide +kernel
theorem d_Law_248 : decode y_Law.2.1 248 = .ok (.if_icmp .eq 889, 3) := by decide +kernel
theorem d_Law_251 : decode y_Law.2.1 251 = .ok (.iconst 0, 1) := by decide +kernel
theorem d_Law_252 : decode y_Law.2.1 252 = .ok (.ireturn, 1) := by decide +kernel
theorem d_Law_253 : decode y_Law.2.1 253 = .ok (.aload_n 1, 1) := by decide +kernel
theorem d_Law_254 : decode y_Law.2.1 254 = .ok (.aload_n 0, 1) := by decide +kernel
theorem d_Law_255 : decode y_Law.2.1 255 = .ok (.iload 4, 2) := by decide +kernel
theorem d_Law_257 : decode y_Law.2.1 257 = .ok (.iconst 1, 1) := by decide +kernel
theorem d_Law_258 : decode y_Law.2.1 258 = .ok (.iadd, 1) := by decide +kernel
theorem d_Law_259 : decode y_Law.2.1 259 = .ok (.iaload, 1) := by decide +kernel
theorem d_Law_260 : decode y_Law.2.1 260 = .ok (.invokevirtual 36, 3) := by decide +kernel
theorem d_Law_263 : decode y_Law.2.1 263 = .ok (.aload_n 2, 1) := by decide +kernel
theorem d_Law_264 : decode y_Law.2.1 264 = .ok (.aload_n 0, 1) := by decide +kernel
theorem d_Law_265 : decode y_Law.2.1 265 = .ok (.iload 4, 2) := by decide +kernel
theorem d_Law_267 : decode y_Law.2.1 267 = .ok (.iconst 1, 1) := by decide +kernel
theorem d_Law_268 : decode y_Law.2.1 268 = .ok (.iadd, 1) := by decide +kernel
theorem d_Law_269 : decode y_Law.2.1 269 = .ok (.iaload, 1) := by decide +kernel
theorem d_Law_270 : decode y_Law.2.1 270 = .ok (.invokevirtual 40, 3) := by decide +kernel
theorem d_Law_273 : decode y_Law.2.1 273 = .ok (.if_icmp .eq 864, 3) := by decide +kernel
theorem d_Law_276 : decode y_Law.2.1 276 = .ok (.iconst 0, 1) := by decide +kernel
theorem d_Law_277 : decode y_Law.2.1 277 = .ok (.ireturn, 1) := by decide +kernel
theorem d_Law_278 : decode y_Law.2.1 278 = .ok (.aload_n 1, 1) := by decide +kernel
theorem d_Law_279 : decode y_Law.2.1 279 = .ok (.aload_n 0, 1) := by decide +kernel
theorem d_Law_280 : decode y_Law.2.1 280 = .ok (.iload 4, 2) := by decide +kernel
theorem d_Law_282 : decode y_Law.2.1 282 = .ok (.iconst 1, 1) := by decide +kernel
theorem d_Law_283 : decode y_Law.2.1 283 = .ok (.iadd, 1) := by decide +kernel
theorem d_Law_284 : decode y_Law.2.1 284 = .ok (.iaload, 1) := by decide +kernel
theorem d_Law_285 : decode y_Law.2.1 285 = .ok (.invokevirtual 41, 3) := by decide +kernel
theorem d_Law_288 : decode y_Law.2.1 288 = .ok (.aload_n 2, 1) := by decide +kernel
theorem d_Law_289 : decode y_Law.2.1 289 = .ok (.aload_n 0, 1) := by decide +kernel
theorem d_Law_290 : decode y_Law.2.1 290 = .ok (.iload 4, 2) := by decide +kernel
theorem d_Law_292 : decode y_Law.2.1 292 = .ok (.iconst 1, 1) := by decide +kernel
theorem d_Law_293 : decode y_Law.2.1 293 = .ok (.iadd, 1) := by decide +kernel
theorem d_Law_294 : decode y_Law.2.1 294 = .ok (.iaload, 1) := by decide +kernel
theorem d_Law_295 : decode y_Law.2.1 295 = .ok (.invokevirtual 44, 3) := by decide +kernel
theorem d_Law_298 : decode y_Law.2.1 298 = .ok (.if_icmp .eq 839, 3) := by decide +kernel
theorem d_Law_301 : decode y_Law.2.1 301 = .ok (.iconst 0, 1) := by decide +kernel
theorem d_Law_302 : decode y_Law.2.1 302 = .ok (.ireturn, 1) := by decide +kernel
theorem d_Law_303 : decode y_Law.2.1 303 = .ok (.aload_n 1, 1) := by decide +kernel
theorem d_Law_304 : decode y_Law.2.1 304 = .ok (.aload_n 0, 1) := by decide +kernel
theorem d_Law_305 : decode y_Law.2.1 305 = .ok (.iload 4, 2) := by decide +kernel
theorem d_Law_307 : decode y_Law.2.1 307 = .ok (.iconst 1, 1) := by decide +kernel
theorem d_Law_308 : decode y_Law.2.1 308 = .ok (.iadd, 1) := by decide +kernel
theorem d_Law_309 : decode y_Law.2.1 309 = .ok (.iaload, 1) := by decide +kernel
theorem d_Law_310 : decode y_Law.2.1 310 = .ok (.invokevirtual 45, 3) := by decide +kernel
theorem d_Law_313 : decode y_Law.2.1 313 = .ok (.aload_n 2, 1) := by decide +kernel
theorem d_Law_314 : decode y_Law.2.1 314 = .ok (.aload_n 0, 1) := by decide +kernel
theorem d_Law_315 : decode y_Law.2.1 315 = .ok (.iload 4, 2) := by decide +kernel
theorem d_Law_317 : decode y_Law.2.1 317 = .ok (.iconst 1, 1) := by decide +kernel
theorem d_Law_318 : decode y_Law.2.1 318 = .ok (.iadd, 1) := by decide +kernel
theorem d_Law_319 : decode y_Law.2.1 319 = .ok (.iaload, 1) := by decide +kernel
theorem d_Law_320 : decode y_Law.2.1 320 = .ok (.invokevirtual 48, 3) := by decide +kernel
theorem d_Law_323 : decode y_Law.2.1 323 = .ok (.if_icmp .eq 814, 3) := by decide +kernel
theorem d_Law_326 : decode y_Law.2.1 326 = .ok (.iconst 0, 1) := by decide +kernel
theorem d_Law_327 : decode y_Law.2.1 327 = .ok (.ireturn, 1) := by decide +kernel
theorem d_Law_328 : decode y_Law.2.1 328 = .ok (.aload_n 1, 1) := by decide +kernel
theorem d_Law_329 : decode y_Law.2.1 329 = .ok (.invokevirtual 49, 3) := by decide +kernel
theorem d_Law_332 : decode y_Law.2.1 332 = .ok (.aload_n 2, 1) := by decide +kernel
theorem d_Law_333 : decode y_Law.2.1 333 = .ok (.invokevirtual 53, 3) := by decide +kernel
theorem d_Law_336 : decode y_Law.2.1 336 = .ok (.if_icmp .eq 801, 3) := by decide +kernel
theorem d_Law_339 : decode y_Law.2.1 339 = .ok (.iconst 0, 1) := by decide +kernel
theorem d_Law_340 : decode y_Law.2.1 340 = .ok (.ireturn, 1) := by decide +kernel
theorem d_Law_341 : decode y_Law.2.1 341 = .ok (.aload_n 1, 1) := by decide +kernel
theorem d_Law_342 : decode y_Law.2.1 342 = .ok (.invokevirtual 54, 3) := by decide +kernel
theorem d_Law_345 : decode y_Law.2.1 345 = .ok (.aload_n 2, 1) := by decide +kernel
theorem d_Law_346 : decode y_Law.2.1 346 = .ok (.invokevirtual 57, 3) := by decide +kernel
theorem d_Law_349 : decode y_Law.2.1 349 = .ok (.if_icmp .eq 788, 3) := by decide +kernel
theorem d_Law_352 : decode y_Law.2.1 352 = .ok (.iconst 0, 1) := by decide +kernel
theorem d_Law_353 : decode y_Law.2.1 353 = .ok (.ireturn, 1) := by decide +kernel
theorem d_Law_354 : decode y_Law.2.1 354 = .ok (.aload_n 1, 1) := by decide +kernel
theorem d_Law_355 : decode y_Law.2.1 355 = .ok (.aload_n 0, 1) := by decide +kernel
theorem d_Law_356 : decode y_Law.2.1 356 = .ok (.iload 4, 2) := by decide +kernel
theorem d_Law_358 : decode y_Law.2.1 358 = .ok (.iconst 1, 1) := by decide +kernel
theorem d_Law_359 : decode y_Law.2.1 359 = .ok (.iadd, 1) := by decide +kernel
theorem d_Law_360 : decode y_Law.2.1 360 = .ok (.iaload, 1) := by decide +kernel
theorem d_Law_361 : decode y_Law.2.1 361 = .ok (.aload_n 0, 1) := by decide +kernel
theorem d_Law_362 : decode y_Law.2.1 362 = .ok (.iload 4, 2) := by decide +kernel
theorem d_Law_364 : decode y_Law.2.1 364 = .ok (.iconst 2, 1) := by decide +kernel
theorem d_Law_365 : decode y_Law.2.1 365 = .ok (.iadd, 1) := by decide +kernel
theorem d_Law_366 : decode y_Law.2.1 366 = .ok (.iaload, 1) := by decide +kernel
theorem d_Law_367 : decode y_Law.2.1 367 = .ok (.aload_n 0, 1) := by decide +kernel
theorem d_Law_368 : decode y_Law.2.1 368 = .ok (.iload 4, 2) := by decide +kernel
theorem d_Law_370 : decode y_Law.2.1 370 = .ok (.iconst 3, 1) := by decide +kernel
theorem d_Law_371 : decode y_Law.2.1 371 = .ok (.iadd, 1) := by decide +kernel
theorem d_Law_372 : decode y_Law.2.1 372 = .ok (.iaload, 1) := by decide +kernel
theorem d_Law_373 : decode y_Law.2.1 373 = .ok (.invokevirtual 58, 3) := by decide +kernel
theorem d_Law_376 : decode y_Law.2.1 376 = .ok (.aload_n 2, 1) := by decide +kernel
theorem d_Law_377 : decode y_Law.2.1 377 = .ok (.aload_n 0, 1) := by decide +kernel
theorem d_Law_378 : decode y_Law.2.1 378 = .ok (.iload 4, 2) := by decide +kernel
theorem d_Law_380 : decode y_Law.2.1 380 = .ok (.iconst 1, 1) := by decide +kernel
theorem d_Law_381 : decode y_Law.2.1 381 = .ok (.iadd, 1) := by decide +kernel
theorem d_Law_382 : decode y_Law.2.1 382 = .ok (.iaload, 1) := by decide +kernel
theorem d_Law_383 : decode y_Law.2.1 383 = .ok (.aload_n 0, 1) := by decide +kernel
theorem d_Law_384 : decode y_Law.2.1 384 = .ok (.iload 4, 2) := by decide +kernel
theorem d_Law_386 : decode y_Law.2.1 386 = .ok (.iconst 2, 1) := by decide +kernel
theorem d_Law_387 : decode y_Law.2.1 387 = .ok (.iadd, 1) := by decide +kernel
theorem d_Law_388 : decode y_Law.2.1 388 = .ok (.iaload, 1) := by decide +kernel
theorem d_Law_389 : decode y_Law.2.1 389 = .ok (.aload_n 0, 1) := by decide +kernel
theorem d_Law_390 : decode y_Law.2.1 390 = .ok (.iload 4, 2) := by decide +kernel
theorem d_Law_392 : decode y_Law.2.1 392 = .ok (.iconst 3, 1) := by decide +kernel
theorem d_Law_393 : decode y_Law.2.1 393 = .ok (.iadd, 1) := by decide +kernel
theorem d_Law_394 : decode y_Law.2.1 394 = .ok (.iaload, 1) := by decide +kernel
theorem d_Law_395 : decode y_Law.2.1 395 = .ok (.invokevirtual 61, 3) := by decide +kernel
theorem d_Law_398 : decode y_Law.2.1 398 = .ok (.if_icmp .eq 739, 3) := by decide +kernel
theorem d_Law_401 : decode y_Law.2.1 401 = .ok (.iconst 0, 1) := by decide +kernel
theorem d_Law_402 : decode y_Law.2.1 402 = .ok (.ireturn, 1) := by decide +kernel
theorem d_Law_403 : decode y_Law.2.1 403 = .ok (.aload_n 1, 1) := by decide +kernel
theorem d_Law_404 : decode y_Law.2.1 404 = .ok (.aload_n 0, 1) := by decide +kernel
theorem d_Law_405 : decode y_Law.2.1 405 = .ok (.iload 4, 2) := by decide +kernel
theorem d_Law_407 : decode y_Law.2.1 407 = .ok (.iconst 1, 1) := by decide +kernel
theorem d_Law_408 : decode y_Law.2.1 408 = .ok (.iadd, 1) := by decide +kernel
theorem d_Law_409 : decode y_Law.2.1 409 = .ok (.iaload, 1) := by decide +kernel
theorem d_Law_410 : decode y_Law.2.1 410 = .ok (.aload_n 0, 1) := by decide +kernel
theorem d_Law_411 : decode y_Law.2.1 411 = .ok (.iload 4, 2) := by decide +kernel
theorem d_Law_413 : decode y_Law.2.1 413 = .ok (.iconst 2, 1) := by decide +kernel
theorem d_Law_414 : decode y_Law.2.1 414 = .ok (.iadd, 1) := by decide +kernel
theorem d_Law_415 : decode y_Law.2.1 415 = .ok (.iaload, 1) := by decide +kernel
theorem d_Law_416 : decode y_Law.2.1 416 = .ok (.ifCond .eq 7, 3) := by decide +kernel
theorem d_Law_419 : decode y_Law.2.1 419 = .ok (.iconst 1, 1) := by decide +kernel
theorem d_Law_420 : decode y_Law.2.1 420 = .ok (.goto 4, 3) := by decide +kernel
theorem d_Law_423 : decode y_Law.2.1 423 = .ok (.iconst 0, 1) := by decide +kernel
theorem d_Law_424 : decode y_Law.2.1 424 = .ok (.invokevirtual 62, 3) := by decide +kernel
theorem d_Law_427 : decode y_Law.2.1 427 = .ok (.aload_n 2, 1) := by decide +kernel
theorem d_Law_428 : decode y_Law.2.1 428 = .ok (.aload_n 0, 1) := by decide +kernel
theorem d_Law_429 : decode y_Law.2.1 429 = .ok (.iload 4, 2) := by decide +kernel
theorem d_Law_431 : decode y_Law.2.1 431 = .ok (.iconst 1, 1) := by decide +kernel
theorem d_Law_432 : decode y_Law.2.1 432 = .ok (.iadd, 1) := by decide +kernel
theorem d_Law_433 : decode y_Law.2.1 433 = .ok (.iaload, 1) := by decide +kernel
theorem d_Law_434 : decode y_Law.2.1 434 = .ok (.aload_n 0, 1) := by decide +kernel
theorem d_Law_435 : decode y_Law.2.1 435 = .ok (.iload 4, 2) := by decide +kernel
theorem d_Law_437 : decode y_Law.2.1 437 = .ok (.iconst 2, 1) := by decide +kernel
theorem d_Law_438 : decode y_Law.2.1 438 = .ok (.iadd, 1) := by decide +kernel
theorem d_Law_439 : decode y_Law.2.1 439 = .ok (.iaload, 1) := by decide +kernel
theorem d_Law_440 : decode y_Law.2.1 440 = .ok (.ifCond .eq 7, 3) := by decide +kernel
theorem d_Law_443 : decode y_Law.2.1 443 = .ok (.iconst 1, 1) := by decide +kernel
theorem d_Law_444 : decode y_Law.2.1 444 = .ok (.goto 4, 3) := by decide +kernel
theorem d_Law_447 : decode y_Law.2.1 447 = .ok (.iconst 0, 1) := by decide +kernel
theorem d_Law_448 : decode y_Law.2.1 448 = .ok (.invokevirtual 66, 3) := by decide +kernel
theorem d_Law_451 : decode y_Law.2.1 451 = .ok (.if_icmp .eq 686, 3) := by decide +kernel
theorem d_Law_454 : decode y_Law.2.1 454 = .ok (.iconst 0, 1) := by decide +kernel
theorem d_Law_455 : decode y_Law.2.1 455 = .ok (.ireturn, 1) := by decide +kernel
theorem d_Law_456 : decode y_Law.2.1 456 = .ok (.aload_n 1, 1) := by decide +kernel
theorem d_Law_457 : decode y_Law.2.1 457 = .ok (.aload_n 0, 1) := by decide +kernel
theorem d_Law_458 : decode y_Law.2.1 458 = .ok (.iload 4, 2) := by decide +kernel
theorem d_Law_460 : decode y_Law.2.1 460 = .ok (.iconst 1, 1) := by decide +kernel
theorem d_Law_461 : decode y_Law.2.1 461 = .ok (.iadd, 1) := by decide +kernel
theorem d_Law_462 : decode y_Law.2.1 462 = .ok (.iaload, 1) := by decide +kernel
theorem d_Law_463 : decode y_Law.2.1 463 = .ok (.invokevirtual 67, 3) := by decide +kernel
theorem d_Law_466 : decode y_Law.2.1 466 = .ok (.aload_n 2, 1) := by decide +kernel
theorem d_Law_467 : decode y_Law.2.1 467 = .ok (.aload_n 0, 1) := by decide +kernel
theorem d_Law_468 : decode y_Law.2.1 468 = .ok (.iload 4, 2) := by decide +kernel
theorem d_Law_470 : decode y_Law.2.1 470 = .ok (.iconst 1, 1) := by decide +kernel
theorem d_Law_471 : decode y_Law.2.1 471 = .ok (.iadd, 1) := by decide +kernel
theorem d_Law_472 : decode y_Law.2.1 472 = .ok (.iaload, 1) := by decide +kernel
theorem d_Law_473 : decode y_Law.2.1 473 = .ok (.invokevirtual 70, 3) := by decide +kernel
theorem d_Law_476 : decode y_Law.2.1 476 = .ok (.if_icmp .eq 661, 3) := by decide +kernel
theorem d_Law_479 : decode y_Law.2.1 479 = .ok (.iconst 0, 1) := by decide +kernel
theorem d_Law_480 : decode y_Law.2.1 480 = .ok (.ireturn, 1) := by decide +kernel
theorem d_Law_481 : decode y_Law.2.1 481 = .ok (.aload_n 1, 1) := by decide +kernel
theorem d_Law_482 : decode y_Law.2.1 482 = .ok (.aload_n 0, 1) := by decide +kernel
theorem d_Law_483 : decode y_Law.2.1 483 = .ok (.iload 4, 2) := by decide +kernel
theorem d_Law_485 : decode y_Law.2.1 485 = .ok (.iconst 1, 1) := by decide +kernel
theorem d_Law_486 : decode y_Law.2.1 486 = .ok (.iadd, 1) := by decide +kernel
theorem d_Law_487 : decode y_Law.2.1 487 = .ok (.iaload, 1) := by decide +kernel
theorem d_Law_488 : decode y_Law.2.1 488 = .ok (.aload_n 0, 1) := by decide +kernel
theorem d_Law_489 : decode y_Law.2.1 489 = .ok (.iload 4, 2) := by decide +kernel
theorem d_Law_491 : decode y_Law.2.1 491 = .ok (.iconst 2, 1) := by decide +kernel
theorem d_Law_492 : decode y_Law.2.1 492 = .ok (.iadd, 1) := by decide +kernel
theorem d_Law_493 : decode y_Law.2.1 493 = .ok (.iaload, 1) := by decide +kernel
theorem d_Law_494 : decode y_Law.2.1 494 = .ok (.aload_n 0, 1) := by decide +kernel
theorem d_Law_495 : decode y_Law.2.1 495 = .ok (.iload 4, 2) := by decide +kernel
theorem d_Law_497 : decode y_Law.2.1 497 = .ok (.iconst 3, 1) := by decide +kernel
theorem d_Law_498 : decode y_Law.2.1 498 = .ok (.iadd, 1) := by decide +kernel
theorem d_Law_499 : decode y_Law.2.1 499 = .ok (.iaload, 1) := by decide +kernel
theorem d_Law_500 : decode y_Law.2.1 500 = .ok (.invokevirtual 71, 3) := by decide +kernel
theorem d_Law_503 : decode y_Law.2.1 503 = .ok (.aload_n 2, 1) := by decide +kernel
theorem d_Law_504 : decode y_Law.2.1 504 = .ok (.aload_n 0, 1) := by decide +kernel
theorem d_Law_505 : decode y_Law.2.1 505 = .ok (.iload 4, 2) := by decide +kernel
theorem d_Law_507 : decode y_Law.2.1 507 = .ok (.iconst 1, 1) := by decide +kernel
theorem d_Law_508 : decode y_Law.2.1 508 = .ok (.iadd, 1) := by decide +kernel
theorem d_Law_509 : decode y_Law.2.1 509 = .ok (.iaload, 1) := by decide +kernel
theorem d_Law_510 : decode y_Law.2.1 510 = .ok (.aload_n 0, 1) := by decide +kernel
theorem d_Law_511 : decode y_Law.2.1 511 = .ok (.iload 4, 2) := by decide +kernel
theorem d_Law_513 : decode y_Law.2.1 513 = .ok (.iconst 2, 1) := by decide +kernel
theorem d_Law_514 : decode y_Law.2.1 514 = .ok (.iadd, 1) := by decide +kernel
theorem d_Law_515 : decode y_Law.2.1 515 = .ok (.iaload, 1) := by decide +kernel
theorem d_Law_516 : decode y_Law.2.1 516 = .ok (.aload_n 0, 1) := by decide +kernel
theorem d_Law_517 : decode y_Law.2.1 517 = .ok (.iload 4, 2) := by decide +kernel
theorem d_Law_519 : decode y_Law.2.1 519 = .ok (.iconst 3, 1) := by decide +kernel
theorem d_Law_520 : decode y_Law.2.1 520 = .ok (.iadd, 1) := by decide +kernel
theorem d_Law_521 : decode y_Law.2.1 521 = .ok (.iaload, 1) := by decide +kernel
theorem d_Law_522 : decode y_Law.2.1 522 = .ok (.invokevirtual 74, 3) := by decide +kernel
theorem d_Law_525 : decode y_Law.2.1 525 = .ok (.if_icmp .eq 612, 3) := by decide +kernel
theorem d_Law_528 : decode y_Law.2.1 528 = .ok (.iconst 0, 1) := by decide +kernel
theorem d_Law_529 : decode y_Law.2.1 529 = .ok (.ireturn, 1) := by decide +kernel
theorem d_Law_530 : decode y_Law.2.1 530 = .ok (.aload_n 1, 1) := by decide +kernel
theorem d_Law_531 : decode y_Law.2.1 531 = .ok (.aload_n 0, 1) := by decide +kernel
theorem d_Law_532 : decode y_Law.2.1 532 = .ok (.iload 4, 2) := by decide +kernel
theorem d_Law_534 : decode y_Law.2.1 534 = .ok (.iconst 1, 1) := by decide +kernel
theorem d_Law_535 : decode y_Law.2.1 535 = .ok (.iadd, 1) := by decide +kernel
theorem d_Law_536 : decode y_Law.2.1 536 = .ok (.iaload, 1) := by decide +kernel
theorem d_Law_537 : decode y_Law.2.1 537 = .ok (.aload_n 0, 1) := by decide +kernel
theorem d_Law_538 : decode y_Law.2.1 538 = .ok (.iload 4, 2) := by decide +kernel
theorem d_Law_540 : decode y_Law.2.1 540 = .ok (.iconst 2, 1) := by decide +kernel
theorem d_Law_541 : decode y_Law.2.1 541 = .ok (.iadd, 1) := by decide +kernel
theorem d_Law_542 : decode y_Law.2.1 542 = .ok (.iaload, 1) := by decide +kernel
theorem d_Law_543 : decode y_Law.2.1 543 = .ok (.aload_n 0, 1) := by decide +kernel
theorem d_Law_544 : decode y_Law.2.1 544 = .ok (.iload 4, 2) := by decide +kernel
theorem d_Law_546 : decode y_Law.2.1 546 = .ok (.iconst 3, 1) := by decide +kernel
theorem d_Law_547 : decode y_Law.2.1 547 = .ok (.iadd, 1) := by decide +kernel
theorem d_Law_548 : decode y_Law.2.1 548 = .ok (.iaload, 1) := by decide +kernel
theorem d_Law_549 : decode y_Law.2.1 549 = .ok (.aload_n 0, 1) := by decide +kernel
theorem d_Law_550 : decode y_Law.2.1 550 = .ok (.iload 4, 2) := by decide +kernel
theorem d_Law_552 : decode y_Law.2.1 552 = .ok (.iconst 4, 1) := by decide +kernel
theorem d_Law_553 : decode y_Law.2.1 553 = .ok (.iadd, 1) := by decide +kernel
theorem d_Law_554 : decode y_Law.2.1 554 = .ok (.iaload, 1) := by decide +kernel
theorem d_Law_555 : decode y_Law.2.1 555 = .ok (.invokevirtual 75, 3) := by decide +kernel
theorem d_Law_558 : decode y_Law.2.1 558 = .ok (.aload_n 2, 1) := by decide +kernel
theorem d_Law_559 : decode y_Law.2.1 559 = .ok (.aload_n 0, 1) := by decide +kernel
theorem d_Law_560 : decode y_Law.2.1 560 = .ok (.iload 4, 2) := by decide +kernel
theorem d_Law_562 : decode y_Law.2.1 562 = .ok (.iconst 1, 1) := by decide +kernel
theorem d_Law_563 : decode y_Law.2.1 563 = .ok (.iadd, 1) := by decide +kernel
theorem d_Law_564 : decode y_Law.2.1 564 = .ok (.iaload, 1) := by decide +kernel
theorem d_Law_565 : decode y_Law.2.1 565 = .ok (.aload_n 0, 1) := by decide +kernel
theorem d_Law_566 : decode y_Law.2.1 566 = .ok (.iload 4, 2) := by decide +kernel
theorem d_Law_568 : decode y_Law.2.1 568 = .ok (.iconst 2, 1) := by decide +kernel
theorem d_Law_569 : decode y_Law.2.1 569 = .ok (.iadd, 1) := by decide +kernel
theorem d_Law_570 : decode y_Law.2.1 570 = .ok (.iaload, 1) := by decide +kernel
theorem d_Law_571 : decode y_Law.2.1 571 = .ok (.aload_n 0, 1) := by decide +kernel
theorem d_Law_572 : decode y_Law.2.1 572 = .ok (.iload 4, 2) := by decide +kernel
theorem d_Law_574 : decode y_Law.2.1 574 = .ok (.iconst 3, 1) := by decide +kernel
theorem d_Law_575 : decode y_Law.2.1 575 = .ok (.iadd, 1) := by decide +kernel
theorem d_Law_576 : decode y_Law.2.1 576 = .ok (.iaload, 1) := by decide +kernel
theorem d_Law_577 : decode y_Law.2.1 577 = .ok (.aload_n 0, 1) := by decide +kernel
theorem d_Law_578 : decode y_Law.2.1 578 = .ok (.iload 4, 2) := by decide +kernel
theorem d_Law_580 : decode y_Law.2.1 580 = .ok (.iconst 4, 1) := by decide +kernel
theorem d_Law_581 : decode y_Law.2.1 581 = .ok (.iadd, 1) := by decide +kernel
theorem d_Law_582 : decode y_Law.2.1 582 = .ok (.iaload, 1) := by decide +kernel
theorem d_Law_583 : decode y_Law.2.1 583 = .ok (.invokevirtual 79, 3) := by decide +kernel
theorem d_Law_586 : decode y_Law.2.1 586 = .ok (.if_icmp .eq 551, 3) := by decide +kernel
theorem d_Law_589 : decode y_Law.2.1 589 = .ok (.iconst 0, 1) := by decide +kernel
theorem d_Law_590 : decode y_Law.2.1 590 = .ok (.ireturn, 1) := by decide +kernel
theorem d_Law_591 : decode y_Law.2.1 591 = .ok (.aload_n 1, 1) := by decide +kernel
theorem d_Law_592 : decode y_Law.2.1 592 = .ok (.aload_n 0, 1) := by decide +kernel
theorem d_Law_593 : decode y_Law.2.1 593 = .ok (.iload 4, 2) := by decide +kernel
theorem d_Law_595 : decode y_Law.2.1 595 = .ok (.iconst 1, 1) := by decide +kernel
theorem d_Law_596 : decode y_Law.2.1 596 = .ok (.iadd, 1) := by decide +kernel
theorem d_Law_597 : decode y_Law.2.1 597 = .ok (.iaload, 1) := by decide +kernel
theorem d_Law_598 : decode y_Law.2.1 598 = .ok (.aload_n 0, 1) := by decide +kernel
theorem d_Law_599 : decode y_Law.2.1 599 = .ok (.iload 4, 2) := by decide +kernel
theorem d_Law_601 : decode y_Law.2.1 601 = .ok (.iconst 2, 1) := by decide +kernel
theorem d_Law_602 : decode y_Law.2.1 602 = .ok (.iadd, 1) := by decide +kernel
theorem d_Law_603 : decode y_Law.2.1 603 = .ok (.iaload, 1) := by decide +kernel
theorem d_Law_604 : decode y_Law.2.1 604 = .ok (.aload_n 0, 1) := by decide +kernel
theorem d_Law_605 : decode y_Law.2.1 605 = .ok (.iload 4, 2) := by decide +kernel
theorem d_Law_607 : decode y_Law.2.1 607 = .ok (.iconst 3, 1) := by decide +kernel
theorem d_Law_608 : decode y_Law.2.1 608 = .ok (.iadd, 1) := by decide +kernel
theorem d_Law_609 : decode y_Law.2.1 609 = .ok (.iaload, 1) := by decide +kernel
theorem d_Law_610 : decode y_Law.2.1 610 = .ok (.aload_n 3, 1) := by decide +kernel
theorem d_Law_611 : decode y_Law.2.1 611 = .ok (.invokestatic 80, 3) := by decide +kernel
theorem d_Law_614 : decode y_Law.2.1 614 = .ok (.istore 5, 2) := by decide +kernel
theorem d_Law_616 : decode y_Law.2.1 616 = .ok (.aload_n 2, 1) := by decide +kernel
theorem d_Law_617 : decode y_Law.2.1 617 = .ok (.aload_n 0, 1) := by decide +kernel
theorem d_Law_618 : decode y_Law.2.1 618 = .ok (.iload 4, 2) := by decide +kernel
theorem d_Law_620 : decode y_Law.2.1 620 = .ok (.iconst 1, 1) := by decide +kernel
theorem d_Law_621 : decode y_Law.2.1 621 = .ok (.iadd, 1) := by decide +kernel
theorem d_Law_622 : decode y_Law.2.1 622 = .ok (.iaload, 1) := by decide +kernel
theorem d_Law_623 : decode y_Law.2.1 623 = .ok (.aload_n 0, 1) := by decide +kernel
theorem d_Law_624 : decode y_Law.2.1 624 = .ok (.iload 4, 2) := by decide +kernel
theorem d_Law_626 : decode y_Law.2.1 626 = .ok (.iconst 2, 1) := by decide +kernel
theorem d_Law_627 : decode y_Law.2.1 627 = .ok (.iadd, 1) := by decide +kernel
theorem d_Law_628 : decode y_Law.2.1 628 = .ok (.iaload, 1) := by decide +kernel
theorem d_Law_629 : decode y_Law.2.1 629 = .ok (.aload_n 0, 1) := by decide +kernel
theorem d_Law_630 : decode y_Law.2.1 630 = .ok (.iload 4, 2) := by decide +kernel
theorem d_Law_632 : decode y_Law.2.1 632 = .ok (.iconst 3, 1) := by decide +kernel
theorem d_Law_633 : decode y_Law.2.1 633 = .ok (.iadd, 1) := by decide +kernel
theorem d_Law_634 : decode y_Law.2.1 634 = .ok (.iaload, 1) := by decide +kernel
theorem d_Law_635 : decode y_Law.2.1 635 = .ok (.invokevirtual 83, 3) := by decide +kernel
theorem d_Law_638 : decode y_Law.2.1 638 = .ok (.istore 6, 2) := by decide +kernel
theorem d_Law_640 : decode y_Law.2.1 640 = .ok (.aload_n 2, 1) := by decide +kernel
theorem d_Law_641 : decode y_Law.2.1 641 = .ok (.invokevirtual 84, 3) := by decide +kernel
theorem d_Law_644 : decode y_Law.2.1 644 = .ok (.iload 5, 2) := by decide +kernel
theorem d_Law_646 : decode y_Law.2.1 646 = .ok (.if_icmp .eq 5, 3) := by decide +kernel
theorem d_Law_649 : decode y_Law.2.1 649 = .ok (.iconst 0, 1) := by decide +kernel
theorem d_Law_650 : decode y_Law.2.1 650 = .ok (.ireturn, 1) := by decide +kernel
theorem d_Law_651 : decode y_Law.2.1 651 = .ok (.iload 5, 2) := by decide +kernel
theorem d_Law_653 : decode y_Law.2.1 653 = .ok (.ifCond .ne 15, 3) := by decide +kernel
theorem d_Law_656 : decode y_Law.2.1 656 = .ok (.aload_n 3, 1) := by decide +kernel
theorem d_Law_657 : decode y_Law.2.1 657 = .ok (.iconst 0, 1) := by decide +kernel
theorem d_Law_658 : decode y_Law.2.1 658 = .ok (.laload, 1) := by decide +kernel
theorem d_Law_659 : decode y_Law.2.1 659 = .ok (.iload 6, 2) := by decide +kernel
theorem d_Law_661 : decode y_Law.2.1 661 = .ok (.i2l, 1) := by decide +kernel
theorem d_Law_662 : decode y_Law.2.1 662 = .ok (.lcmp, 1) := by decide +kernel
theorem d_Law_663 : decode y_Law.2.1 663 = .ok (.ifCond .eq 5, 3) := by decide +kernel
theorem d_Law_666 : decode y_Law.2.1 666 = .ok (.iconst 0, 1) := by decide +kernel
theorem d_Law_667 : decode y_Law.2.1 667 = .ok (.ireturn, 1) := by decide +kernel
theorem d_Law_668 : decode y_Law.2.1 668 = .ok (.goto 469, 3) := by decide +kernel
theorem d_Law_671 : decode y_Law.2.1 671 = .ok (.aload_n 1, 1) := by decide +kernel
theorem d_Law_672 : decode y_Law.2.1 672 = .ok (.aload_n 0, 1) := by decide +kernel
theorem d_Law_673 : decode y_Law.2.1 673 = .ok (.iload 4, 2) := by decide +kernel
theorem d_Law_675 : decode y_Law.2.1 675 = .ok (.iconst 1, 1) := by decide +kernel
theorem d_Law_676 : decode y_Law.2.1 676 = .ok (.iadd, 1) := by decide +kernel
theorem d_Law_677 : decode y_Law.2.1 677 = .ok (.iaload, 1) := by decide +kernel
theorem d_Law_678 : decode y_Law.2.1 678 = .ok (.aload_n 0, 1) := by decide +kernel
theorem d_Law_679 : decode y_Law.2.1 679 = .ok (.iload 4, 2) := by decide +kernel
theorem d_Law_681 : decode y_Law.2.1 681 = .ok (.iconst 2, 1) := by decide +kernel
theorem d_Law_682 : decode y_Law.2.1 682 = .ok (.iadd, 1) := by decide +kernel
theorem d_Law_683 : decode y_Law.2.1 683 = .ok (.iaload, 1) := by decide +kernel
theorem d_Law_684 : decode y_Law.2.1 684 = .ok (.invokevirtual 87, 3) := by decide +kernel
theorem d_Law_687 : decode y_Law.2.1 687 = .ok (.aload_n 2, 1) := by decide +kernel
theorem d_Law_688 : decode y_Law.2.1 688 = .ok (.aload_n 0, 1) := by decide +kernel
theorem d_Law_689 : decode y_Law.2.1 689 = .ok (.iload 4, 2) := by decide +kernel
theorem d_Law_691 : decode y_Law.2.1 691 = .ok (.iconst 1, 1) := by decide +kernel
theorem d_Law_692 : decode y_Law.2.1 692 = .ok (.iadd, 1) := by decide +kernel
theorem d_Law_693 : decode y_Law.2.1 693 = .ok (.iaload, 1) := by decide +kernel
theorem d_Law_694 : decode y_Law.2.1 694 = .ok (.aload_n 0, 1) := by decide +kernel
theorem d_Law_695 : decode y_Law.2.1 695 = .ok (.iload 4, 2) := by decide +kernel
theorem d_Law_697 : decode y_Law.2.1 697 = .ok (.iconst 2, 1) := by decide +kernel
theorem d_Law_698 : decode y_Law.2.1 698 = .ok (.iadd, 1) := by decide +kernel
theorem d_Law_699 : decode y_Law.2.1 699 = .ok (.iaload, 1) := by decide +kernel
theorem d_Law_700 : decode y_Law.2.1 700 = .ok (.invokevirtual 91, 3) := by decide +kernel
theorem d_Law_703 : decode y_Law.2.1 703 = .ok (.if_icmp .eq 434, 3) := by decide +kernel
theorem d_Law_706 : decode y_Law.2.1 706 = .ok (.iconst 0, 1) := by decide +kernel
theorem d_Law_707 : decode y_Law.2.1 707 = .ok (.ireturn, 1) := by decide +kernel
theorem d_Law_708 : decode y_Law.2.1 708 = .ok (.aload_n 1, 1) := by decide +kernel
theorem d_Law_709 : decode y_Law.2.1 709 = .ok (.aload_n 0, 1) := by decide +kernel
theorem d_Law_710 : decode y_Law.2.1 710 = .ok (.iload 4, 2) := by decide +kernel
theorem d_Law_712 : decode y_Law.2.1 712 = .ok (.iconst 1, 1) := by decide +kernel
theorem d_Law_713 : decode y_Law.2.1 713 = .ok (.iadd, 1) := by decide +kernel
theorem d_Law_714 : decode y_Law.2.1 714 = .ok (.iaload, 1) := by decide +kernel
theorem d_Law_715 : decode y_Law.2.1 715 = .ok (.invokevirtual 92, 3) := by decide +kernel
theorem d_Law_718 : decode y_Law.2.1 718 = .ok (.aload_n 2, 1) := by decide +kernel
theorem d_Law_719 : decode y_Law.2.1 719 = .ok (.aload_n 0, 1) := by decide +kernel
theorem d_Law_720 : decode y_Law.2.1 720 = .ok (.iload 4, 2) := by decide +kernel
theorem d_Law_722 : decode y_Law.2.1 722 = .ok (.iconst 1, 1) := by decide +kernel
theorem d_Law_723 : decode y_Law.2.1 723 = .ok (.iadd, 1) := by decide +kernel
theorem d_Law_724 : decode y_Law.2.1 724 = .ok (.iaload, 1) := by decide +kernel
theorem d_Law_725 : decode y_Law.2.1 725 = .ok (.invokevirtual 95, 3) := by decide +kernel
theorem d_Law_728 : decode y_Law.2.1 728 = .ok (.if_icmp .eq 409, 3) := by decide +kernel
theorem d_Law_731 : decode y_Law.2.1 731 = .ok (.iconst 0, 1) := by decide +kernel
theorem d_Law_732 : decode y_Law.2.1 732 = .ok (.ireturn, 1) := by decide +kernel
theorem d_Law_733 : decode y_Law.2.1 733 = .ok (.aload_n 1, 1) := by decide +kernel
theorem d_Law_734 : decode y_Law.2.1 734 = .ok (.aload_n 0, 1) := by decide +kernel
theorem d_Law_735 : decode y_Law.2.1 735 = .ok (.iload 4, 2) := by decide +kernel
theorem d_Law_737 : decode y_Law.2.1 737 = .ok (.iconst 1, 1) := by decide +kernel
theorem d_Law_738 : decode y_Law.2.1 738 = .ok (.iadd, 1) := by decide +kernel
theorem d_Law_739 : decode y_Law.2.1 739 = .ok (.iaload, 1) := by decide +kernel
theorem d_Law_740 : decode y_Law.2.1 740 = .ok (.aload_n 0, 1) := by decide +kernel
theorem d_Law_741 : decode y_Law.2.1 741 = .ok (.iload 4, 2) := by decide +kernel
theorem d_Law_743 : decode y_Law.2.1 743 = .ok (.iconst 2, 1) := by decide +kernel
theorem d_Law_744 : decode y_Law.2.1 744 = .ok (.iadd, 1) := by decide +kernel
theorem d_Law_745 : decode y_Law.2.1 745 = .ok (.iaload, 1) := by decide +kernel
theorem d_Law_746 : decode y_Law.2.1 746 = .ok (.invokevirtual 96, 3) := by decide +kernel
theorem d_Law_749 : decode y_Law.2.1 749 = .ok (.aload_n 2, 1) := by decide +kernel
theorem d_Law_750 : decode y_Law.2.1 750 = .ok (.aload_n 0, 1) := by decide +kernel
theorem d_Law_751 : decode y_Law.2.1 751 = .ok (.iload 4, 2) := by decide +kernel
theorem d_Law_753 : decode y_Law.2.1 753 = .ok (.iconst 1, 1) := by decide +kernel
theorem d_Law_754 : decode y_Law.2.1 754 = .ok (.iadd, 1) := by decide +kernel
theorem d_Law_755 : decode y_Law.2.1 755 = .ok (.iaload, 1) := by decide +kernel
theorem d_Law_756 : decode y_Law.2.1 756 = .ok (.aload_n 0, 1) := by decide +kernel
theorem d_Law_757 : decode y_Law.2.1 757 = .ok (.iload 4, 2) := by decide +kernel
theorem d_Law_759 : decode y_Law.2.1 759 = .ok (.iconst 2, 1) := by decide +kernel
theorem d_Law_760 : decode y_Law.2.1 760 = .ok (.iadd, 1) := by decide +kernel
theorem d_Law_761 : decode y_Law.2.1 761 = .ok (.iaload, 1) := by decide +kernel
theorem d_Law_762 : decode y_Law.2.1 762 = .ok (.invokevirtual 100, 3) := by decide +kernel
theorem d_Law_765 : decode y_Law.2.1 765 = .ok (.if_icmp .eq 372, 3) := by decide +kernel
theorem d_Law_768 : decode y_Law.2.1 768 = .ok (.iconst 0, 1) := by decide +kernel
theorem d_Law_769 : decode y_Law.2.1 769 = .ok (.ireturn, 1) := by decide +kernel
theorem d_Law_770 : decode y_Law.2.1 770 = .ok (.aload_n 1, 1) := by decide +kernel
theorem d_Law_771 : decode y_Law.2.1 771 = .ok (.aload_n 0, 1) := by decide +kernel
theorem d_Law_772 : decode y_Law.2.1 772 = .ok (.iload 4, 2) := by decide +kernel
theorem d_Law_774 : decode y_Law.2.1 774 = .ok (.iconst 1, 1) := by decide +kernel
theorem d_Law_775 : decode y_Law.2.1 775 = .ok (.iadd, 1) := by decide +kernel
theorem d_Law_776 : decode y_Law.2.1 776 = .ok (.iaload, 1) := by decide +kernel
theorem d_Law_777 : decode y_Law.2.1 777 = .ok (.invokevirtual 101, 3) := by decide +kernel
theorem d_Law_780 : decode y_Law.2.1 780 = .ok (.aload_n 2, 1) := by decide +kernel
theorem d_Law_781 : decode y_Law.2.1 781 = .ok (.aload_n 0, 1) := by decide +kernel
theorem d_Law_782 : decode y_Law.2.1 782 = .ok (.iload 4, 2) := by decide +kernel
theorem d_Law_784 : decode y_Law.2.1 784 = .ok (.iconst 1, 1) := by decide +kernel
theorem d_Law_785 : decode y_Law.2.1 785 = .ok (.iadd, 1) := by decide +kernel
theorem d_Law_786 : decode y_Law.2.1 786 = .ok (.iaload, 1) := by decide +kernel
theorem d_Law_787 : decode y_Law.2.1 787 = .ok (.invokevirtual 104, 3) := by decide +kernel
theorem d_Law_790 : decode y_Law.2.1 790 = .ok (.if_icmp .eq 347, 3) := by decide +kernel
theorem d_Law_793 : decode y_Law.2.1 793 = .ok (.iconst 0, 1) := by decide +kernel
theorem d_Law_794 : decode y_Law.2.1 794 = .ok (.ireturn, 1) := by decide +kernel
theorem d_Law_795 : decode y_Law.2.1 795 = .ok (.aload_n 1, 1) := by decide +kernel
theorem d_Law_796 : decode y_Law.2.1 796 = .ok (.aload_n 0, 1) := by decide +kernel
theorem d_Law_797 : decode y_Law.2.1 797 = .ok (.iload 4, 2) := by decide +kernel
theorem d_Law_799 : decode y_Law.2.1 799 = .ok (.iconst 1, 1) := by decide +kernel
theorem d_Law_800 : decode y_Law.2.1 800 = .ok (.iadd, 1) := by decide +kernel
theorem d_Law_801 : decode y_Law.2.1 801 = .ok (.iaload, 1) := by decide +kernel
theorem d_Law_802 : decode y_Law.2.1 802 = .ok (.aload_n 3, 1) := by decide +kernel
theorem d_Law_803 : decode y_Law.2.1 803 = .ok (.invokestatic 105, 3) := by decide +kernel
theorem d_Law_806 : decode y_Law.2.1 806 = .ok (.istore 5, 2) := by decide +kernel
theorem d_Law_808 : decode y_Law.2.1 808 = .ok (.aload_n 2, 1) := by decide +kernel
theorem d_Law_809 : decode y_Law.2.1 809 = .ok (.aload_n 0, 1) := by decide +kernel
theorem d_Law_810 : decode y_Law.2.1 810 = .ok (.iload 4, 2) := by decide +kernel
theorem d_Law_812 : decode y_Law.2.1 812 = .ok (.iconst 1, 1) := by decide +kernel
theorem d_Law_813 : decode y_Law.2.1 813 = .ok (.iadd, 1) := by decide +kernel
theorem d_Law_814 : decode y_Law.2.1 814 = .ok (.iaload, 1) := by decide +kernel
theorem d_Law_815 : decode y_Law.2.1 815 = .ok (.invokevirtual 108, 3) := by decide +kernel
theorem d_Law_818 : decode y_Law.2.1 818 = .ok (.istore 6, 2) := by decide +kernel
theorem d_Law_820 : decode y_Law.2.1 820 = .ok (.aload_n 2, 1) := by decide +kernel
theorem d_Law_821 : decode y_Law.2.1 821 = .ok (.invokevirtual 84, 3) := by decide +kernel
theorem d_Law_824 : decode y_Law.2.1 824 = .ok (.iload 5, 2) := by decide +kernel
theorem d_Law_826 : decode y_Law.2.1 826 = .ok (.if_icmp .eq 5, 3) := by decide +kernel
theorem d_Law_829 : decode y_Law.2.1 829 = .ok (.iconst 0, 1) := by decide +kernel
theorem d_Law_830 : decode y_Law.2.1 830 = .ok (.ireturn, 1) := by decide +kernel
theorem d_Law_831 : decode y_Law.2.1 831 = .ok (.iload 5, 2) := by decide +kernel
theorem d_Law_833 : decode y_Law.2.1 833 = .ok (.ifCond .ne 15, 3) := by decide +kernel
theorem d_Law_836 : decode y_Law.2.1 836 = .ok (.aload_n 3, 1) := by decide +kernel
theorem d_Law_837 : decode y_Law.2.1 837 = .ok (.iconst 0, 1) := by decide +kernel
theorem d_Law_838 : decode y_Law.2.1 838 = .ok (.laload, 1) := by decide +kernel
theorem d_Law_839 : decode y_Law.2.1 839 = .ok (.iload 6, 2) := by decide +kernel
theorem d_Law_841 : decode y_Law.2.1 841 = .ok (.i2l, 1) := by decide +kernel
theorem d_Law_842 : decode y_Law.2.1 842 = .ok (.lcmp, 1) := by decide +kernel
theorem d_Law_843 : decode y_Law.2.1 843 = .ok (.ifCond .eq 5, 3) := by decide +kernel
theorem d_Law_846 : decode y_Law.2.1 846 = .ok (.iconst 0, 1) := by decide +kernel
theorem d_Law_847 : decode y_Law.2.1 847 = .ok (.ireturn, 1) := by decide +kernel
theorem d_Law_848 : decode y_Law.2.1 848 = .ok (.goto 289, 3) := by decide +kernel
theorem d_Law_851 : decode y_Law.2.1 851 = .ok (.aload_n 1, 1) := by decide +kernel
theorem d_Law_852 : decode y_Law.2.1 852 = .ok (.aload_n 0, 1) := by decide +kernel
theorem d_Law_853 : decode y_Law.2.1 853 = .ok (.iload 4, 2) := by decide +kernel
theorem d_Law_855 : decode y_Law.2.1 855 = .ok (.iconst 1, 1) := by decide +kernel
theorem d_Law_856 : decode y_Law.2.1 856 = .ok (.iadd, 1) := by decide +kernel
theorem d_Law_857 : decode y_Law.2.1 857 = .ok (.iaload, 1) := by decide +kernel
theorem d_Law_858 : decode y_Law.2.1 858 = .ok (.invokevirtual 109, 3) := by decide +kernel
theorem d_Law_861 : decode y_Law.2.1 861 = .ok (.aload_n 2, 1) := by decide +kernel
theorem d_Law_862 : decode y_Law.2.1 862 = .ok (.aload_n 0, 1) := by decide +kernel
theorem d_Law_863 : decode y_Law.2.1 863 = .ok (.iload 4, 2) := by decide +kernel
theorem d_Law_865 : decode y_Law.2.1 865 = .ok (.iconst 1, 1) := by decide +kernel
theorem d_Law_866 : decode y_Law.2.1 866 = .ok (.iadd, 1) := by decide +kernel
theorem d_Law_867 : decode y_Law.2.1 867 = .ok (.iaload, 1) := by decide +kernel
theorem d_Law_868 : decode y_Law.2.1 868 = .ok (.invokevirtual 112, 3) := by decide +kernel
theorem d_Law_871 : decode y_Law.2.1 871 = .ok (.if_icmp .eq 266, 3) := by decide +kernel
theorem d_Law_874 : decode y_Law.2.1 874 = .ok (.iconst 0, 1) := by decide +kernel
theorem d_Law_875 : decode y_Law.2.1 875 = .ok (.ireturn, 1) := by decide +kernel
theorem d_Law_876 : decode y_Law.2.1 876 = .ok (.aload_n 1, 1) := by decide +kernel
theorem d_Law_877 : decode y_Law.2.1 877 = .ok (.aload_n 0, 1) := by decide +kernel
theorem d_Law_878 : decode y_Law.2.1 878 = .ok (.iload 4, 2) := by decide +kernel
theorem d_Law_880 : decode y_Law.2.1 880 = .ok (.iconst 1, 1) := by decide +kernel
theorem d_Law_881 : decode y_Law.2.1 881 = .ok (.iadd, 1) := by decide +kernel
theorem d_Law_882 : decode y_Law.2.1 882 = .ok (.iaload, 1) := by decide +kernel
theorem d_Law_883 : decode y_Law.2.1 883 = .ok (.aload_n 0, 1) := by decide +kernel
theorem d_Law_884 : decode y_Law.2.1 884 = .ok (.iload 4, 2) := by decide +kernel
theorem d_Law_886 : decode y_Law.2.1 886 = .ok (.iconst 2, 1) := by decide +kernel
theorem d_Law_887 : decode y_Law.2.1 887 = .ok (.iadd, 1) := by decide +kernel
theorem d_Law_888 : decode y_Law.2.1 888 = .ok (.iaload, 1) := by decide +kernel
theorem d_Law_889 : decode y_Law.2.1 889 = .ok (.invokevirtual 113, 3) := by decide +kernel
theorem d_Law_892 : decode y_Law.2.1 892 = .ok (.aload_n 2, 1) := by decide +kernel
theorem d_Law_893 : decode y_Law.2.1 893 = .ok (.aload_n 0, 1) := by decide +kernel
theorem d_Law_894 : decode y_Law.2.1 894 = .ok (.iload 4, 2) := by decide +kernel
theorem d_Law_896 : decode y_Law.2.1 896 = .ok (.iconst 1, 1) := by decide +kernel
theorem d_Law_897 : decode y_Law.2.1 897 = .ok (.iadd, 1) := by decide +kernel
theorem d_Law_898 : decode y_Law.2.1 898 = .ok (.iaload, 1) := by decide +kernel
theorem d_Law_899 : decode y_Law.2.1 899 = .ok (.aload_n 0, 1) := by decide +kernel
theorem d_Law_900 : decode y_Law.2.1 900 = .ok (.iload 4, 2) := by decide +kernel
theorem d_Law_902 : decode y_Law.2.1 902 = .ok (.iconst 2, 1) := by decide +kernel
theorem d_Law_903 : decode y_Law.2.1 903 = .ok (.iadd, 1) := by decide +kernel
theorem d_Law_904 : decode y_Law.2.1 904 = .ok (.iaload, 1) := by decide +kernel
theorem d_Law_905 : decode y_Law.2.1 905 = .ok (.invokevirtual 116, 3) := by decide +kernel
theorem d_Law_908 : decode y_Law.2.1 908 = .ok (.if_icmp .eq 229, 3) := by decide +kernel
theorem d_Law_911 : decode y_Law.2.1 911 = .ok (.iconst 0, 1) := by decide +kernel
theorem d_Law_912 : decode y_Law.2.1 912 = .ok (.ireturn, 1) := by decide +kernel
theorem d_Law_913 : decode y_Law.2.1 913 = .ok (.aload_n 1, 1) := by decide +kernel
theorem d_Law_914 : decode y_Law.2.1 914 = .ok (.aload_n 0, 1) := by decide +kernel
theorem d_Law_915 : decode y_Law.2.1 915 = .ok (.iload 4, 2) := by decide +kernel
theorem d_Law_917 : decode y_Law.2.1 917 = .ok (.iconst 1, 1) := by decide +kernel
theorem d_Law_918 : decode y_Law.2.1 918 = .ok (.iadd, 1) := by decide +kernel
theorem d_Law_919 : decode y_Law.2.1 919 = .ok (.iaload, 1) := by decide +kernel
theorem d_Law_920 : decode y_Law.2.1 920 = .ok (.invokevirtual 117, 3) := by decide +kernel
theorem d_Law_923 : decode y_Law.2.1 923 = .ok (.aload_n 2, 1) := by decide +kernel
theorem d_Law_924 : decode y_Law.2.1 924 = .ok (.aload_n 0, 1) := by decide +kernel
theorem d_Law_925 : decode y_Law.2.1 925 = .ok (.iload 4, 2) := by decide +kernel
theorem d_Law_927 : decode y_Law.2.1 927 = .ok (.iconst 1, 1) := by decide +kernel
theorem d_Law_928 : decode y_Law.2.1 928 = .ok (.iadd, 1) := by decide +kernel
theorem d_Law_929 : decode y_Law.2.1 929 = .ok (.iaload, 1) := by decide +kernel
theorem d_Law_930 : decode y_Law.2.1 930 = .ok (.invokevirtual 120, 3) := by decide +kernel
theorem d_Law_933 : decode y_Law.2.1 933 = .ok (.if_icmp .eq 204, 3) := by decide +kernel
theorem d_Law_936 : decode y_Law.2.1 936 = .ok (.iconst 0, 1) := by decide +kernel
theorem d_Law_937 : decode y_Law.2.1 937 = .ok (.ireturn, 1) := by decide +kernel
theorem d_Law_938 : decode y_Law.2.1 938 = .ok (.aload_n 1, 1) := by decide +kernel
theorem d_Law_939 : decode y_Law.2.1 939 = .ok (.invokevirtual 121, 3) := by decide +kernel
theorem d_Law_942 : decode y_Law.2.1 942 = .ok (.aload_n 2, 1) := by decide +kernel
theorem d_Law_943 : decode y_Law.2.1 943 = .ok (.invokevirtual 124, 3) := by decide +kernel
theorem d_Law_946 : decode y_Law.2.1 946 = .ok (.if_icmp .eq 191, 3) := by decide +kernel
theorem d_Law_949 : decode y_Law.2.1 949 = .ok (.iconst 0, 1) := by decide +kernel
theorem d_Law_950 : decode y_Law.2.1 950 = .ok (.ireturn, 1) := by decide +kernel
theorem d_Law_951 : decode y_Law.2.1 951 = .ok (.aload_n 1, 1) := by decide +kernel
theorem d_Law_952 : decode y_Law.2.1 952 = .ok (.invokevirtual 125, 3) := by decide +kernel
theorem d_Law_955 : decode y_Law.2.1 955 = .ok (.aload_n 2, 1) := by decide +kernel
theorem d_Law_956 : decode y_Law.2.1 956 = .ok (.invokevirtual 128, 3) := by decide +kernel
theorem d_Law_959 : decode y_Law.2.1 959 = .ok (.if_icmp .eq 178, 3) := by decide +kernel
theorem d_Law_962 : decode y_Law.2.1 962 = .ok (.iconst 0, 1) := by decide +kernel
theorem d_Law_963 : decode y_Law.2.1 963 = .ok (.ireturn, 1) := by decide +kernel
theorem d_Law_964 : decode y_Law.2.1 964 = .ok (.aload_n 1, 1) := by decide +kernel
theorem d_Law_965 : decode y_Law.2.1 965 = .ok (.aload_n 0, 1) := by decide +kernel
theorem d_Law_966 : decode y_Law.2.1 966 = .ok (.iload 4, 2) := by decide +kernel
theorem d_Law_968 : decode y_Law.2.1 968 = .ok (.iconst 1, 1) := by decide +kernel
theorem d_Law_969 : decode y_Law.2.1 969 = .ok (.iadd, 1) := by decide +kernel
theorem d_Law_970 : decode y_Law.2.1 970 = .ok (.iaload, 1) := by decide +kernel
theorem d_Law_971 : decode y_Law.2.1 971 = .ok (.aload_n 0, 1) := by decide +kernel
theorem d_Law_972 : decode y_Law.2.1 972 = .ok (.iload 4, 2) := by decide +kernel
theorem d_Law_974 : decode y_Law.2.1 974 = .ok (.iconst 2, 1) := by decide +kernel
theorem d_Law_975 : decode y_Law.2.1 975 = .ok (.iadd, 1) := by decide +kernel
theorem d_Law_976 : decode y_Law.2.1 976 = .ok (.iaload, 1) := by decide +kernel
theorem d_Law_977 : decode y_Law.2.1 977 = .ok (.invokevirtual 129, 3) := by decide +kernel
theorem d_Law_980 : decode y_Law.2.1 980 = .ok (.aload_n 2, 1) := by decide +kernel
theorem d_Law_981 : decode y_Law.2.1 981 = .ok (.aload_n 0, 1) := by decide +kernel
theorem d_Law_982 : decode y_Law.2.1 982 = .ok (.iload 4, 2) := by decide +kernel
theorem d_Law_984 : decode y_Law.2.1 984 = .ok (.iconst 1, 1) := by decide +kernel
theorem d_Law_985 : decode y_Law.2.1 985 = .ok (.iadd, 1) := by decide +kernel
theorem d_Law_986 : decode y_Law.2.1 986 = .ok (.iaload, 1) := by decide +kernel
theorem d_Law_987 : decode y_Law.2.1 987 = .ok (.aload_n 0, 1) := by decide +kernel
theorem d_Law_988 : decode y_Law.2.1 988 = .ok (.iload 4, 2) := by decide +kernel
theorem d_Law_990 : decode y_Law.2.1 990 = .ok (.iconst 2, 1) := by decide +kernel
theorem d_Law_991 : decode y_Law.2.1 991 = .ok (.iadd, 1) := by decide +kernel
theorem d_Law_992 : decode y_Law.2.1 992 = .ok (.iaload, 1) := by decide +kernel
theorem d_Law_993 : decode y_Law.2.1 993 = .ok (.invokevirtual 132, 3) := by decide +kernel
theorem d_Law_996 : decode y_Law.2.1 996 = .ok (.if_icmp .eq 141, 3) := by decide +kernel
theorem d_Law_999 : decode y_Law.2.1 999 = .ok (.iconst 0, 1) := by decide +kernel
theorem d_Law_1000 : decode y_Law.2.1 1000 = .ok (.ireturn, 1) := by decide +kernel
theorem d_Law_1001 : decode y_Law.2.1 1001 = .ok (.aload_n 1, 1) := by decide +kernel
theorem d_Law_1002 : decode y_Law.2.1 1002 = .ok (.aload_n 0, 1) := by decide +kernel
theorem d_Law_1003 : decode y_Law.2.1 1003 = .ok (.iload 4, 2) := by decide +kernel
theorem d_Law_1005 : decode y_Law.2.1 1005 = .ok (.iconst 1, 1) := by decide +kernel
theorem d_Law_1006 : decode y_Law.2.1 1006 = .ok (.iadd, 1) := by decide +kernel
theorem d_Law_1007 : decode y_Law.2.1 1007 = .ok (.iaload, 1) := by decide +kernel
theorem d_Law_1008 : decode y_Law.2.1 1008 = .ok (.invokevirtual 133, 3) := by decide +kernel
theorem d_Law_1011 : decode y_Law.2.1 1011 = .ok (.aload_n 2, 1) := by decide +kernel
theorem d_Law_1012 : decode y_Law.2.1 1012 = .ok (.aload_n 0, 1) := by decide +kernel
theorem d_Law_1013 : decode y_Law.2.1 1013 = .ok (.iload 4, 2) := by decide +kernel
theorem d_Law_1015 : decode y_Law.2.1 1015 = .ok (.iconst 1, 1) := by decide +kernel
theorem d_Law_1016 : decode y_Law.2.1 1016 = .ok (.iadd, 1) := by decide +kernel
theorem d_Law_1017 : decode y_Law.2.1 1017 = .ok (.iaload, 1) := by decide +kernel
theorem d_Law_1018 : decode y_Law.2.1 1018 = .ok (.invokevirtual 136, 3) := by decide +kernel
theorem d_Law_1021 : decode y_Law.2.1 1021 = .ok (.if_icmp .eq 116, 3) := by decide +kernel
theorem d_Law_1024 : decode y_Law.2.1 1024 = .ok (.iconst 0, 1) := by decide +kernel
theorem d_Law_1025 : decode y_Law.2.1 1025 = .ok (.ireturn, 1) := by decide +kernel
theorem d_Law_1026 : decode y_Law.2.1 1026 = .ok (.aload_n 1, 1) := by decide +kernel
theorem d_Law_1027 : decode y_Law.2.1 1027 = .ok (.aload_n 0, 1) := by decide +kernel
theorem d_Law_1028 : decode y_Law.2.1 1028 = .ok (.iload 4, 2) := by decide +kernel
theorem d_Law_1030 : decode y_Law.2.1 1030 = .ok (.iconst 1, 1) := by decide +kernel
theorem d_Law_1031 : decode y_Law.2.1 1031 = .ok (.iadd, 1) := by decide +kernel
theorem d_Law_1032 : decode y_Law.2.1 1032 = .ok (.iaload, 1) := by decide +kernel
theorem d_Law_1033 : decode y_Law.2.1 1033 = .ok (.invokevirtual 137, 3) := by decide +kernel
theorem d_Law_1036 : decode y_Law.2.1 1036 = .ok (.aload_n 2, 1) := by decide +kernel
theorem d_Law_1037 : decode y_Law.2.1 1037 = .ok (.aload_n 0, 1) := by decide +kernel
theorem d_Law_1038 : decode y_Law.2.1 1038 = .ok (.iload 4, 2) := by decide +kernel
theorem d_Law_1040 : decode y_Law.2.1 1040 = .ok (.iconst 1, 1) := by decide +kernel
theorem d_Law_1041 : decode y_Law.2.1 1041 = .ok (.iadd, 1) := by decide +kernel
theorem d_Law_1042 : decode y_Law.2.1 1042 = .ok (.iaload, 1) := by decide +kernel
theorem d_Law_1043 : decode y_Law.2.1 1043 = .ok (.invokevirtual 140, 3) := by decide +kernel
theorem d_Law_1046 : decode y_Law.2.1 1046 = .ok (.if_icmp .eq 91, 3) := by decide +kernel
theorem d_Law_1049 : decode y_Law.2.1 1049 = .ok (.iconst 0, 1) := by decide +kernel
theorem d_Law_1050 : decode y_Law.2.1 1050 = .ok (.ireturn, 1) := by decide +kernel
theorem d_Law_1051 : decode y_Law.2.1 1051 = .ok (.aload_n 1, 1) := by decide +kernel
theorem d_Law_1052 : decode y_Law.2.1 1052 = .ok (.invokevirtual 141, 3) := by decide +kernel
theorem d_Law_1055 : decode y_Law.2.1 1055 = .ok (.aload_n 2, 1) := by decide +kernel
theorem d_Law_1056 : decode y_Law.2.1 1056 = .ok (.invokevirtual 144, 3) := by decide +kernel
theorem d_Law_1059 : decode y_Law.2.1 1059 = .ok (.if_icmp .eq 78, 3) := by decide +kernel
theorem d_Law_1062 : decode y_Law.2.1 1062 = .ok (.iconst 0, 1) := by decide +kernel
theorem d_Law_1063 : decode y_Law.2.1 1063 = .ok (.ireturn, 1) := by decide +kernel
theorem d_Law_1064 : decode y_Law.2.1 1064 = .ok (.aload_n 1, 1) := by decide +kernel
theorem d_Law_1065 : decode y_Law.2.1 1065 = .ok (.aload_n 0, 1) := by decide +kernel
theorem d_Law_1066 : decode y_Law.2.1 1066 = .ok (.iload 4, 2) := by decide +kernel
theorem d_Law_1068 : decode y_Law.2.1 1068 = .ok (.iconst 1, 1) := by decide +kernel
theorem d_Law_1069 : decode y_Law.2.1 1069 = .ok (.iadd, 1) := by decide +kernel
theorem d_Law_1070 : decode y_Law.2.1 1070 = .ok (.iaload, 1) := by decide +kernel
theorem d_Law_1071 : decode y_Law.2.1 1071 = .ok (.invokevirtual 145, 3) := by decide +kernel
theorem d_Law_1074 : decode y_Law.2.1 1074 = .ok (.aload_n 2, 1) := by decide +kernel
theorem d_Law_1075 : decode y_Law.2.1 1075 = .ok (.aload_n 0, 1) := by decide +kernel
theorem d_Law_1076 : decode y_Law.2.1 1076 = .ok (.iload 4, 2) := by decide +kernel
theorem d_Law_1078 : decode y_Law.2.1 1078 = .ok (.iconst 1, 1) := by decide +kernel
theorem d_Law_1079 : decode y_Law.2.1 1079 = .ok (.iadd, 1) := by decide +kernel
theorem d_Law_1080 : decode y_Law.2.1 1080 = .ok (.iaload, 1) := by decide +kernel
theorem d_Law_1081 : decode y_Law.2.1 1081 = .ok (.invokevirtual 148, 3) := by decide +kernel
theorem d_Law_1084 : decode y_Law.2.1 1084 = .ok (.if_icmp .eq 53, 3) := by decide +kernel
theorem d_Law_1087 : decode y_Law.2.1 1087 = .ok (.iconst 0, 1) := by decide +kernel
theorem d_Law_1088 : decode y_Law.2.1 1088 = .ok (.ireturn, 1) := by decide +kernel
theorem d_Law_1089 : decode y_Law.2.1 1089 = .ok (.aload_n 1, 1) := by decide +kernel
theorem d_Law_1090 : decode y_Law.2.1 1090 = .ok (.aload_n 0, 1) := by decide +kernel
theorem d_Law_1091 : decode y_Law.2.1 1091 = .ok (.iload 4, 2) := by decide +kernel
theorem d_Law_1093 : decode y_Law.2.1 1093 = .ok (.iconst 1, 1) := by decide +kernel
theorem d_Law_1094 : decode y_Law.2.1 1094 = .ok (.iadd, 1) := by decide +kernel
theorem d_Law_1095 : decode y_Law.2.1 1095 = .ok (.iaload, 1) := by decide +kernel
theorem d_Law_1096 : decode y_Law.2.1 1096 = .ok (.invokevirtual 149, 3) := by decide +kernel
theorem d_Law_1099 : decode y_Law.2.1 1099 = .ok (.aload_n 2, 1) := by decide +kernel
theorem d_Law_1100 : decode y_Law.2.1 1100 = .ok (.aload_n 0, 1) := by decide +kernel
theorem d_Law_1101 : decode y_Law.2.1 1101 = .ok (.iload 4, 2) := by decide +kernel
theorem d_Law_1103 : decode y_Law.2.1 1103 = .ok (.iconst 1, 1) := by decide +kernel
theorem d_Law_1104 : decode y_Law.2.1 1104 = .ok (.iadd, 1) := by decide +kernel
theorem d_Law_1105 : decode y_Law.2.1 1105 = .ok (.iaload, 1) := by decide +kernel
theorem d_Law_1106 : decode y_Law.2.1 1106 = .ok (.invokevirtual 152, 3) := by decide +kernel
theorem d_Law_1109 : decode y_Law.2.1 1109 = .ok (.if_icmp .eq 28, 3) := by decide +kernel
theorem d_Law_1112 : decode y_Law.2.1 1112 = .ok (.iconst 0, 1) := by decide +kernel
theorem d_Law_1113 : decode y_Law.2.1 1113 = .ok (.ireturn, 1) := by decide +kernel
theorem d_Law_1114 : decode y_Law.2.1 1114 = .ok (.aload_n 1, 1) := by decide +kernel
theorem d_Law_1115 : decode y_Law.2.1 1115 = .ok (.aload_n 0, 1) := by decide +kernel
theorem d_Law_1116 : decode y_Law.2.1 1116 = .ok (.iload 4, 2) := by decide +kernel
theorem d_Law_1118 : decode y_Law.2.1 1118 = .ok (.iconst 1, 1) := by decide +kernel
theorem d_Law_1119 : decode y_Law.2.1 1119 = .ok (.iadd, 1) := by decide +kernel
theorem d_Law_1120 : decode y_Law.2.1 1120 = .ok (.iaload, 1) := by decide +kernel
theorem d_Law_1121 : decode y_Law.2.1 1121 = .ok (.invokevirtual 153, 3) := by decide +kernel
theorem d_Law_1124 : decode y_Law.2.1 1124 = .ok (.aload_n 2, 1) := by decide +kernel
theorem d_Law_1125 : decode y_Law.2.1 1125 = .ok (.aload_n 0, 1) := by decide +kernel
theorem d_Law_1126 : decode y_Law.2.1 1126 = .ok (.iload 4, 2) := by decide +kernel
theorem d_Law_1128 : decode y_Law.2.1 1128 = .ok (.iconst 1, 1) := by decide +kernel
theorem d_Law_1129 : decode y_Law.2.1 1129 = .ok (.iadd, 1) := by decide +kernel
theorem d_Law_1130 : decode y_Law.2.1 1130 = .ok (.iaload, 1) := by decide +kernel
theorem d_Law_1131 : decode y_Law.2.1 1131 = .ok (.invokevirtual 156, 3) := by decide +kernel
theorem d_Law_1134 : decode y_Law.2.1 1134 = .ok (.goto 3, 3) := by decide +kernel
theorem d_Law_1137 : decode y_Law.2.1 1137 = .ok (.iinc 4 6, 3) := by decide +kernel
theorem d_Law_1140 : decode y_Law.2.1 1140 = .ok (.goto (-1107), 3) := by decide +kernel
theorem d_Law_1143 : decode y_Law.2.1 1143 = .ok (.iconst 1, 1) := by decide +kernel
theorem d_Law_1144 : decode y_Law.2.1 1144 = .ok (.ireturn, 1) := by decide +kernel
theorem in_of {x : Int32} {n : Nat} (hn : n < 2 ^ 31) (h0 : ¬ x < 0) (h1 : ¬ nI n ≤ x) : vp_in x n := by
  rcases pk_ix x hn with q | q | ⟨j, hj, rfl⟩
  · exact absurd q h0
  · exact absurd q h1
  · exact vp_in_nI hj hn
def cell0 (sL : Nat) (sxs : Nat → Int32) : Int32 := if nI sL ≤ 0 then 0 else sxs 0
set_option maxRecDepth 20000 in
theorem f_cell {G : ab_G} {sL : Nat} {sxs : Nat → Int32} {h : List ab_E} (hL : sL < 2 ^ 31) : pw_M G sL sxs y_Law_cell { frames := 0, cells := 0, slots := 0, locals := 0 } [.float 300, .int 0] h (ab_A (some (.int (cell0 sL sxs))) (fun h1 => h = h1)) := by
  refine pw_of (by decide) (Nat.le_of_ble_eq_true rfl) ?_
  intro p l e s m args below meth c hX hK
  show pw_V _ _ _ _ _ _ _ _ _ _ _ _ _ _ _ _ _ _ [some (.float 300), some (.int 0)] [] h
  refine pw_iload_n hX d_Law_cell_0 rfl rfl ?_
  refine pw_aload_n hX d_Law_cell_1 rfl rfl rfl ?_
  refine pw_slen hX hK d_Law_cell_2 ?_
  refine pw_icmp_ge hX (tgt := 12) d_Law_cell_3 (by decide) (fun q1 => ?_) (fun q1 => ?_)
  · refine pw_iconst hX (v := 0) d_Law_cell_12 (by decide) ?_
    exact pw_iret hX d_Law_cell_13 rfl (Nat.le_refl _) (Nat.le_refl _) ⟨by unfold cell0; rw [if_pos q1], rfl⟩
  · refine pw_aload_n hX d_Law_cell_6 rfl rfl rfl ?_
    refine pw_iload_n hX d_Law_cell_7 rfl rfl ?_
    refine pw_sld hX hK d_Law_cell_8 (in_of hL (by decide) q1) ?_
    refine pw_goto hX (tgt := 13) d_Law_cell_9 (by decide) ?_
    exact pw_iret hX d_Law_cell_13 rfl (Nat.le_refl _) (Nat.le_refl _) ⟨by unfold cell0; rw [if_neg q1]; rfl, rfl⟩
