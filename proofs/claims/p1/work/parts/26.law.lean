/-! the law, on a script of at most four ints (written by a program) -/
theorem dL_law_0 : decode cL_law 0 = .ok (.new 7, 3) := by decide +kernel
theorem dL_law_3 : decode cL_law 3 = .ok (.dup, 1) := by decide +kernel
theorem dL_law_4 : decode cL_law 4 = .ok (.invokespecial 9, 3) := by decide +kernel
theorem dL_law_7 : decode cL_law 7 = .ok (.astore_n 1, 1) := by decide +kernel
theorem dL_law_8 : decode cL_law 8 = .ok (.new 10, 3) := by decide +kernel
theorem dL_law_11 : decode cL_law 11 = .ok (.dup, 1) := by decide +kernel
theorem dL_law_12 : decode cL_law 12 = .ok (.invokespecial 12, 3) := by decide +kernel
theorem dL_law_15 : decode cL_law 15 = .ok (.astore_n 2, 1) := by decide +kernel
theorem dL_law_16 : decode cL_law 16 = .ok (.iconst 0, 1) := by decide +kernel
theorem dL_law_17 : decode cL_law 17 = .ok (.istore_n 3, 1) := by decide +kernel
theorem dL_law_18 : decode cL_law 18 = .ok (.iload_n 3, 1) := by decide +kernel
theorem dL_law_19 : decode cL_law 19 = .ok (.aload_n 0, 1) := by decide +kernel
theorem dL_law_20 : decode cL_law 20 = .ok (.arraylength, 1) := by decide +kernel
theorem dL_law_21 : decode cL_law 21 = .ok (.iconst 4, 1) := by decide +kernel
theorem dL_law_22 : decode cL_law 22 = .ok (.isub, 1) := by decide +kernel
theorem dL_law_23 : decode cL_law 23 = .ok (.if_icmp .gt 975, 3) := by decide +kernel
theorem dL_law_26 : decode cL_law 26 = .ok (.aload_n 0, 1) := by decide +kernel
theorem dL_law_27 : decode cL_law 27 = .ok (.iload_n 3, 1) := by decide +kernel
theorem dL_law_28 : decode cL_law 28 = .ok (.iaload, 1) := by decide +kernel
theorem dL_law_29 : decode cL_law 29 = .ok (.bipush 31, 2) := by decide +kernel
theorem dL_law_31 : decode cL_law 31 = .ok (.iand, 1) := by decide +kernel
theorem dL_law_32 : decode cL_law 32 = .ok (.tableswitch 960 0 31 #[144, 167, 210, 253, 276, 309, 352, 385, 408, 431, 454, 487, 520, 553, 576, 599, 622, 645, 668, 691, 724, 757, 780, 803, 826, 849, 862, 885, 908, 921, 934, 947], 144) := by decide +kernel
theorem dL_law_176 : decode cL_law 176 = .ok (.aload_n 1, 1) := by decide +kernel
theorem dL_law_177 : decode cL_law 177 = .ok (.aload_n 0, 1) := by decide +kernel
theorem dL_law_178 : decode cL_law 178 = .ok (.iload_n 3, 1) := by decide +kernel
theorem dL_law_179 : decode cL_law 179 = .ok (.iconst 1, 1) := by decide +kernel
theorem dL_law_180 : decode cL_law 180 = .ok (.iadd, 1) := by decide +kernel
theorem dL_law_181 : decode cL_law 181 = .ok (.iaload, 1) := by decide +kernel
theorem dL_law_182 : decode cL_law 182 = .ok (.invokevirtual 13, 3) := by decide +kernel
theorem dL_law_185 : decode cL_law 185 = .ok (.aload_n 2, 1) := by decide +kernel
theorem dL_law_186 : decode cL_law 186 = .ok (.aload_n 0, 1) := by decide +kernel
theorem dL_law_187 : decode cL_law 187 = .ok (.iload_n 3, 1) := by decide +kernel
theorem dL_law_188 : decode cL_law 188 = .ok (.iconst 1, 1) := by decide +kernel
theorem dL_law_189 : decode cL_law 189 = .ok (.iadd, 1) := by decide +kernel
theorem dL_law_190 : decode cL_law 190 = .ok (.iaload, 1) := by decide +kernel
theorem dL_law_191 : decode cL_law 191 = .ok (.invokevirtual 17, 3) := by decide +kernel
theorem dL_law_194 : decode cL_law 194 = .ok (.if_icmp .eq 798, 3) := by decide +kernel
theorem dL_law_199 : decode cL_law 199 = .ok (.aload_n 1, 1) := by decide +kernel
theorem dL_law_200 : decode cL_law 200 = .ok (.aload_n 0, 1) := by decide +kernel
theorem dL_law_201 : decode cL_law 201 = .ok (.iload_n 3, 1) := by decide +kernel
theorem dL_law_202 : decode cL_law 202 = .ok (.iconst 1, 1) := by decide +kernel
theorem dL_law_203 : decode cL_law 203 = .ok (.iadd, 1) := by decide +kernel
theorem dL_law_204 : decode cL_law 204 = .ok (.iaload, 1) := by decide +kernel
theorem dL_law_205 : decode cL_law 205 = .ok (.aload_n 0, 1) := by decide +kernel
theorem dL_law_206 : decode cL_law 206 = .ok (.iload_n 3, 1) := by decide +kernel
theorem dL_law_207 : decode cL_law 207 = .ok (.iconst 2, 1) := by decide +kernel
theorem dL_law_208 : decode cL_law 208 = .ok (.iadd, 1) := by decide +kernel
theorem dL_law_209 : decode cL_law 209 = .ok (.iaload, 1) := by decide +kernel
theorem dL_law_210 : decode cL_law 210 = .ok (.aload_n 0, 1) := by decide +kernel
theorem dL_law_211 : decode cL_law 211 = .ok (.iload_n 3, 1) := by decide +kernel
theorem dL_law_212 : decode cL_law 212 = .ok (.iconst 3, 1) := by decide +kernel
theorem dL_law_213 : decode cL_law 213 = .ok (.iadd, 1) := by decide +kernel
theorem dL_law_214 : decode cL_law 214 = .ok (.iaload, 1) := by decide +kernel
theorem dL_law_215 : decode cL_law 215 = .ok (.invokevirtual 18, 3) := by decide +kernel
theorem dL_law_218 : decode cL_law 218 = .ok (.aload_n 2, 1) := by decide +kernel
theorem dL_law_219 : decode cL_law 219 = .ok (.aload_n 0, 1) := by decide +kernel
theorem dL_law_220 : decode cL_law 220 = .ok (.iload_n 3, 1) := by decide +kernel
theorem dL_law_221 : decode cL_law 221 = .ok (.iconst 1, 1) := by decide +kernel
theorem dL_law_222 : decode cL_law 222 = .ok (.iadd, 1) := by decide +kernel
theorem dL_law_223 : decode cL_law 223 = .ok (.iaload, 1) := by decide +kernel
theorem dL_law_224 : decode cL_law 224 = .ok (.aload_n 0, 1) := by decide +kernel
theorem dL_law_225 : decode cL_law 225 = .ok (.iload_n 3, 1) := by decide +kernel
theorem dL_law_226 : decode cL_law 226 = .ok (.iconst 2, 1) := by decide +kernel
theorem dL_law_227 : decode cL_law 227 = .ok (.iadd, 1) := by decide +kernel
theorem dL_law_228 : decode cL_law 228 = .ok (.iaload, 1) := by decide +kernel
theorem dL_law_229 : decode cL_law 229 = .ok (.aload_n 0, 1) := by decide +kernel
theorem dL_law_230 : decode cL_law 230 = .ok (.iload_n 3, 1) := by decide +kernel
theorem dL_law_231 : decode cL_law 231 = .ok (.iconst 3, 1) := by decide +kernel
theorem dL_law_232 : decode cL_law 232 = .ok (.iadd, 1) := by decide +kernel
theorem dL_law_233 : decode cL_law 233 = .ok (.iaload, 1) := by decide +kernel
theorem dL_law_234 : decode cL_law 234 = .ok (.invokevirtual 22, 3) := by decide +kernel
theorem dL_law_237 : decode cL_law 237 = .ok (.if_icmp .eq 755, 3) := by decide +kernel
theorem dL_law_242 : decode cL_law 242 = .ok (.aload_n 1, 1) := by decide +kernel
theorem dL_law_243 : decode cL_law 243 = .ok (.aload_n 0, 1) := by decide +kernel
theorem dL_law_244 : decode cL_law 244 = .ok (.iload_n 3, 1) := by decide +kernel
theorem dL_law_245 : decode cL_law 245 = .ok (.iconst 1, 1) := by decide +kernel
theorem dL_law_246 : decode cL_law 246 = .ok (.iadd, 1) := by decide +kernel
theorem dL_law_247 : decode cL_law 247 = .ok (.iaload, 1) := by decide +kernel
theorem dL_law_248 : decode cL_law 248 = .ok (.aload_n 0, 1) := by decide +kernel
theorem dL_law_249 : decode cL_law 249 = .ok (.iload_n 3, 1) := by decide +kernel
theorem dL_law_250 : decode cL_law 250 = .ok (.iconst 2, 1) := by decide +kernel
theorem dL_law_251 : decode cL_law 251 = .ok (.iadd, 1) := by decide +kernel
theorem dL_law_252 : decode cL_law 252 = .ok (.iaload, 1) := by decide +kernel
theorem dL_law_253 : decode cL_law 253 = .ok (.aload_n 0, 1) := by decide +kernel
theorem dL_law_254 : decode cL_law 254 = .ok (.iload_n 3, 1) := by decide +kernel
theorem dL_law_255 : decode cL_law 255 = .ok (.iconst 3, 1) := by decide +kernel
theorem dL_law_256 : decode cL_law 256 = .ok (.iadd, 1) := by decide +kernel
theorem dL_law_257 : decode cL_law 257 = .ok (.iaload, 1) := by decide +kernel
theorem dL_law_258 : decode cL_law 258 = .ok (.invokevirtual 23, 3) := by decide +kernel
theorem dL_law_261 : decode cL_law 261 = .ok (.aload_n 2, 1) := by decide +kernel
theorem dL_law_262 : decode cL_law 262 = .ok (.aload_n 0, 1) := by decide +kernel
theorem dL_law_263 : decode cL_law 263 = .ok (.iload_n 3, 1) := by decide +kernel
theorem dL_law_264 : decode cL_law 264 = .ok (.iconst 1, 1) := by decide +kernel
theorem dL_law_265 : decode cL_law 265 = .ok (.iadd, 1) := by decide +kernel
theorem dL_law_266 : decode cL_law 266 = .ok (.iaload, 1) := by decide +kernel
theorem dL_law_267 : decode cL_law 267 = .ok (.aload_n 0, 1) := by decide +kernel
theorem dL_law_268 : decode cL_law 268 = .ok (.iload_n 3, 1) := by decide +kernel
theorem dL_law_269 : decode cL_law 269 = .ok (.iconst 2, 1) := by decide +kernel
theorem dL_law_270 : decode cL_law 270 = .ok (.iadd, 1) := by decide +kernel
theorem dL_law_271 : decode cL_law 271 = .ok (.iaload, 1) := by decide +kernel
theorem dL_law_272 : decode cL_law 272 = .ok (.aload_n 0, 1) := by decide +kernel
theorem dL_law_273 : decode cL_law 273 = .ok (.iload_n 3, 1) := by decide +kernel
theorem dL_law_274 : decode cL_law 274 = .ok (.iconst 3, 1) := by decide +kernel
theorem dL_law_275 : decode cL_law 275 = .ok (.iadd, 1) := by decide +kernel
theorem dL_law_276 : decode cL_law 276 = .ok (.iaload, 1) := by decide +kernel
theorem dL_law_277 : decode cL_law 277 = .ok (.invokevirtual 26, 3) := by decide +kernel
theorem dL_law_280 : decode cL_law 280 = .ok (.if_icmp .eq 712, 3) := by decide +kernel
theorem dL_law_285 : decode cL_law 285 = .ok (.aload_n 1, 1) := by decide +kernel
theorem dL_law_286 : decode cL_law 286 = .ok (.aload_n 0, 1) := by decide +kernel
theorem dL_law_287 : decode cL_law 287 = .ok (.iload_n 3, 1) := by decide +kernel
theorem dL_law_288 : decode cL_law 288 = .ok (.iconst 1, 1) := by decide +kernel
theorem dL_law_289 : decode cL_law 289 = .ok (.iadd, 1) := by decide +kernel
theorem dL_law_290 : decode cL_law 290 = .ok (.iaload, 1) := by decide +kernel
theorem dL_law_291 : decode cL_law 291 = .ok (.invokevirtual 27, 3) := by decide +kernel
theorem dL_law_294 : decode cL_law 294 = .ok (.aload_n 2, 1) := by decide +kernel
theorem dL_law_295 : decode cL_law 295 = .ok (.aload_n 0, 1) := by decide +kernel
theorem dL_law_296 : decode cL_law 296 = .ok (.iload_n 3, 1) := by decide +kernel
theorem dL_law_297 : decode cL_law 297 = .ok (.iconst 1, 1) := by decide +kernel
theorem dL_law_298 : decode cL_law 298 = .ok (.iadd, 1) := by decide +kernel
theorem dL_law_299 : decode cL_law 299 = .ok (.iaload, 1) := by decide +kernel
theorem dL_law_300 : decode cL_law 300 = .ok (.invokevirtual 30, 3) := by decide +kernel
theorem dL_law_303 : decode cL_law 303 = .ok (.if_icmp .eq 689, 3) := by decide +kernel
theorem dL_law_308 : decode cL_law 308 = .ok (.aload_n 1, 1) := by decide +kernel
theorem dL_law_309 : decode cL_law 309 = .ok (.aload_n 0, 1) := by decide +kernel
theorem dL_law_310 : decode cL_law 310 = .ok (.iload_n 3, 1) := by decide +kernel
theorem dL_law_311 : decode cL_law 311 = .ok (.iconst 1, 1) := by decide +kernel
theorem dL_law_312 : decode cL_law 312 = .ok (.iadd, 1) := by decide +kernel
theorem dL_law_313 : decode cL_law 313 = .ok (.iaload, 1) := by decide +kernel
theorem dL_law_314 : decode cL_law 314 = .ok (.aload_n 0, 1) := by decide +kernel
theorem dL_law_315 : decode cL_law 315 = .ok (.iload_n 3, 1) := by decide +kernel
theorem dL_law_316 : decode cL_law 316 = .ok (.iconst 2, 1) := by decide +kernel
theorem dL_law_317 : decode cL_law 317 = .ok (.iadd, 1) := by decide +kernel
theorem dL_law_318 : decode cL_law 318 = .ok (.iaload, 1) := by decide +kernel
theorem dL_law_319 : decode cL_law 319 = .ok (.invokevirtual 31, 3) := by decide +kernel
theorem dL_law_322 : decode cL_law 322 = .ok (.aload_n 2, 1) := by decide +kernel
theorem dL_law_323 : decode cL_law 323 = .ok (.aload_n 0, 1) := by decide +kernel
theorem dL_law_324 : decode cL_law 324 = .ok (.iload_n 3, 1) := by decide +kernel
theorem dL_law_325 : decode cL_law 325 = .ok (.iconst 1, 1) := by decide +kernel
theorem dL_law_326 : decode cL_law 326 = .ok (.iadd, 1) := by decide +kernel
theorem dL_law_327 : decode cL_law 327 = .ok (.iaload, 1) := by decide +kernel
theorem dL_law_328 : decode cL_law 328 = .ok (.aload_n 0, 1) := by decide +kernel
theorem dL_law_329 : decode cL_law 329 = .ok (.iload_n 3, 1) := by decide +kernel
theorem dL_law_330 : decode cL_law 330 = .ok (.iconst 2, 1) := by decide +kernel
theorem dL_law_331 : decode cL_law 331 = .ok (.iadd, 1) := by decide +kernel
theorem dL_law_332 : decode cL_law 332 = .ok (.iaload, 1) := by decide +kernel
theorem dL_law_333 : decode cL_law 333 = .ok (.invokevirtual 35, 3) := by decide +kernel
theorem dL_law_336 : decode cL_law 336 = .ok (.if_icmp .eq 656, 3) := by decide +kernel
theorem dL_law_341 : decode cL_law 341 = .ok (.aload_n 1, 1) := by decide +kernel
theorem dL_law_342 : decode cL_law 342 = .ok (.aload_n 0, 1) := by decide +kernel
theorem dL_law_343 : decode cL_law 343 = .ok (.iload_n 3, 1) := by decide +kernel
theorem dL_law_344 : decode cL_law 344 = .ok (.iconst 1, 1) := by decide +kernel
theorem dL_law_345 : decode cL_law 345 = .ok (.iadd, 1) := by decide +kernel
theorem dL_law_346 : decode cL_law 346 = .ok (.iaload, 1) := by decide +kernel
theorem dL_law_347 : decode cL_law 347 = .ok (.aload_n 0, 1) := by decide +kernel
theorem dL_law_348 : decode cL_law 348 = .ok (.iload_n 3, 1) := by decide +kernel
theorem dL_law_349 : decode cL_law 349 = .ok (.iconst 2, 1) := by decide +kernel
theorem dL_law_350 : decode cL_law 350 = .ok (.iadd, 1) := by decide +kernel
theorem dL_law_351 : decode cL_law 351 = .ok (.iaload, 1) := by decide +kernel
theorem dL_law_352 : decode cL_law 352 = .ok (.aload_n 0, 1) := by decide +kernel
theorem dL_law_353 : decode cL_law 353 = .ok (.iload_n 3, 1) := by decide +kernel
theorem dL_law_354 : decode cL_law 354 = .ok (.iconst 3, 1) := by decide +kernel
theorem dL_law_355 : decode cL_law 355 = .ok (.iadd, 1) := by decide +kernel
theorem dL_law_356 : decode cL_law 356 = .ok (.iaload, 1) := by decide +kernel
theorem dL_law_357 : decode cL_law 357 = .ok (.invokevirtual 36, 3) := by decide +kernel
theorem dL_law_360 : decode cL_law 360 = .ok (.aload_n 2, 1) := by decide +kernel
theorem dL_law_361 : decode cL_law 361 = .ok (.aload_n 0, 1) := by decide +kernel
theorem dL_law_362 : decode cL_law 362 = .ok (.iload_n 3, 1) := by decide +kernel
theorem dL_law_363 : decode cL_law 363 = .ok (.iconst 1, 1) := by decide +kernel
theorem dL_law_364 : decode cL_law 364 = .ok (.iadd, 1) := by decide +kernel
theorem dL_law_365 : decode cL_law 365 = .ok (.iaload, 1) := by decide +kernel
theorem dL_law_366 : decode cL_law 366 = .ok (.aload_n 0, 1) := by decide +kernel
theorem dL_law_367 : decode cL_law 367 = .ok (.iload_n 3, 1) := by decide +kernel
theorem dL_law_368 : decode cL_law 368 = .ok (.iconst 2, 1) := by decide +kernel
theorem dL_law_369 : decode cL_law 369 = .ok (.iadd, 1) := by decide +kernel
theorem dL_law_370 : decode cL_law 370 = .ok (.iaload, 1) := by decide +kernel
theorem dL_law_371 : decode cL_law 371 = .ok (.aload_n 0, 1) := by decide +kernel
theorem dL_law_372 : decode cL_law 372 = .ok (.iload_n 3, 1) := by decide +kernel
theorem dL_law_373 : decode cL_law 373 = .ok (.iconst 3, 1) := by decide +kernel
theorem dL_law_374 : decode cL_law 374 = .ok (.iadd, 1) := by decide +kernel
theorem dL_law_375 : decode cL_law 375 = .ok (.iaload, 1) := by decide +kernel
theorem dL_law_376 : decode cL_law 376 = .ok (.invokevirtual 39, 3) := by decide +kernel
theorem dL_law_379 : decode cL_law 379 = .ok (.if_icmp .eq 613, 3) := by decide +kernel
theorem dL_law_384 : decode cL_law 384 = .ok (.aload_n 1, 1) := by decide +kernel
theorem dL_law_385 : decode cL_law 385 = .ok (.aload_n 0, 1) := by decide +kernel
theorem dL_law_386 : decode cL_law 386 = .ok (.iload_n 3, 1) := by decide +kernel
theorem dL_law_387 : decode cL_law 387 = .ok (.iconst 1, 1) := by decide +kernel
theorem dL_law_388 : decode cL_law 388 = .ok (.iadd, 1) := by decide +kernel
theorem dL_law_389 : decode cL_law 389 = .ok (.iaload, 1) := by decide +kernel
theorem dL_law_390 : decode cL_law 390 = .ok (.aload_n 0, 1) := by decide +kernel
theorem dL_law_391 : decode cL_law 391 = .ok (.iload_n 3, 1) := by decide +kernel
theorem dL_law_392 : decode cL_law 392 = .ok (.iconst 2, 1) := by decide +kernel
theorem dL_law_393 : decode cL_law 393 = .ok (.iadd, 1) := by decide +kernel
theorem dL_law_394 : decode cL_law 394 = .ok (.iaload, 1) := by decide +kernel
theorem dL_law_395 : decode cL_law 395 = .ok (.invokevirtual 40, 3) := by decide +kernel
theorem dL_law_398 : decode cL_law 398 = .ok (.aload_n 2, 1) := by decide +kernel
theorem dL_law_399 : decode cL_law 399 = .ok (.aload_n 0, 1) := by decide +kernel
theorem dL_law_400 : decode cL_law 400 = .ok (.iload_n 3, 1) := by decide +kernel
theorem dL_law_401 : decode cL_law 401 = .ok (.iconst 1, 1) := by decide +kernel
theorem dL_law_402 : decode cL_law 402 = .ok (.iadd, 1) := by decide +kernel
theorem dL_law_403 : decode cL_law 403 = .ok (.iaload, 1) := by decide +kernel
theorem dL_law_404 : decode cL_law 404 = .ok (.aload_n 0, 1) := by decide +kernel
theorem dL_law_405 : decode cL_law 405 = .ok (.iload_n 3, 1) := by decide +kernel
theorem dL_law_406 : decode cL_law 406 = .ok (.iconst 2, 1) := by decide +kernel
theorem dL_law_407 : decode cL_law 407 = .ok (.iadd, 1) := by decide +kernel
theorem dL_law_408 : decode cL_law 408 = .ok (.iaload, 1) := by decide +kernel
theorem dL_law_409 : decode cL_law 409 = .ok (.invokevirtual 43, 3) := by decide +kernel
theorem dL_law_412 : decode cL_law 412 = .ok (.if_icmp .eq 580, 3) := by decide +kernel
theorem dL_law_417 : decode cL_law 417 = .ok (.aload_n 1, 1) := by decide +kernel
theorem dL_law_418 : decode cL_law 418 = .ok (.aload_n 0, 1) := by decide +kernel
theorem dL_law_419 : decode cL_law 419 = .ok (.iload_n 3, 1) := by decide +kernel
theorem dL_law_420 : decode cL_law 420 = .ok (.iconst 1, 1) := by decide +kernel
theorem dL_law_421 : decode cL_law 421 = .ok (.iadd, 1) := by decide +kernel
theorem dL_law_422 : decode cL_law 422 = .ok (.iaload, 1) := by decide +kernel
theorem dL_law_423 : decode cL_law 423 = .ok (.invokevirtual 44, 3) := by decide +kernel
theorem dL_law_426 : decode cL_law 426 = .ok (.aload_n 2, 1) := by decide +kernel
theorem dL_law_427 : decode cL_law 427 = .ok (.aload_n 0, 1) := by decide +kernel
theorem dL_law_428 : decode cL_law 428 = .ok (.iload_n 3, 1) := by decide +kernel
theorem dL_law_429 : decode cL_law 429 = .ok (.iconst 1, 1) := by decide +kernel
theorem dL_law_430 : decode cL_law 430 = .ok (.iadd, 1) := by decide +kernel
theorem dL_law_431 : decode cL_law 431 = .ok (.iaload, 1) := by decide +kernel
theorem dL_law_432 : decode cL_law 432 = .ok (.invokevirtual 47, 3) := by decide +kernel
theorem dL_law_435 : decode cL_law 435 = .ok (.if_icmp .eq 557, 3) := by decide +kernel
theorem dL_law_440 : decode cL_law 440 = .ok (.aload_n 1, 1) := by decide +kernel
theorem dL_law_441 : decode cL_law 441 = .ok (.aload_n 0, 1) := by decide +kernel
theorem dL_law_442 : decode cL_law 442 = .ok (.iload_n 3, 1) := by decide +kernel
theorem dL_law_443 : decode cL_law 443 = .ok (.iconst 1, 1) := by decide +kernel
theorem dL_law_444 : decode cL_law 444 = .ok (.iadd, 1) := by decide +kernel
theorem dL_law_445 : decode cL_law 445 = .ok (.iaload, 1) := by decide +kernel
theorem dL_law_446 : decode cL_law 446 = .ok (.invokevirtual 48, 3) := by decide +kernel
theorem dL_law_449 : decode cL_law 449 = .ok (.aload_n 2, 1) := by decide +kernel
theorem dL_law_450 : decode cL_law 450 = .ok (.aload_n 0, 1) := by decide +kernel
theorem dL_law_451 : decode cL_law 451 = .ok (.iload_n 3, 1) := by decide +kernel
theorem dL_law_452 : decode cL_law 452 = .ok (.iconst 1, 1) := by decide +kernel
theorem dL_law_453 : decode cL_law 453 = .ok (.iadd, 1) := by decide +kernel
theorem dL_law_454 : decode cL_law 454 = .ok (.iaload, 1) := by decide +kernel
theorem dL_law_455 : decode cL_law 455 = .ok (.invokevirtual 51, 3) := by decide +kernel
theorem dL_law_458 : decode cL_law 458 = .ok (.if_icmp .eq 534, 3) := by decide +kernel
theorem dL_law_463 : decode cL_law 463 = .ok (.aload_n 1, 1) := by decide +kernel
theorem dL_law_464 : decode cL_law 464 = .ok (.aload_n 0, 1) := by decide +kernel
theorem dL_law_465 : decode cL_law 465 = .ok (.iload_n 3, 1) := by decide +kernel
theorem dL_law_466 : decode cL_law 466 = .ok (.iconst 1, 1) := by decide +kernel
theorem dL_law_467 : decode cL_law 467 = .ok (.iadd, 1) := by decide +kernel
theorem dL_law_468 : decode cL_law 468 = .ok (.iaload, 1) := by decide +kernel
theorem dL_law_469 : decode cL_law 469 = .ok (.invokevirtual 52, 3) := by decide +kernel
theorem dL_law_472 : decode cL_law 472 = .ok (.aload_n 2, 1) := by decide +kernel
theorem dL_law_473 : decode cL_law 473 = .ok (.aload_n 0, 1) := by decide +kernel
theorem dL_law_474 : decode cL_law 474 = .ok (.iload_n 3, 1) := by decide +kernel
theorem dL_law_475 : decode cL_law 475 = .ok (.iconst 1, 1) := by decide +kernel
theorem dL_law_476 : decode cL_law 476 = .ok (.iadd, 1) := by decide +kernel
theorem dL_law_477 : decode cL_law 477 = .ok (.iaload, 1) := by decide +kernel
theorem dL_law_478 : decode cL_law 478 = .ok (.invokevirtual 55, 3) := by decide +kernel
theorem dL_law_481 : decode cL_law 481 = .ok (.if_icmp .eq 511, 3) := by decide +kernel
theorem dL_law_486 : decode cL_law 486 = .ok (.aload_n 1, 1) := by decide +kernel
theorem dL_law_487 : decode cL_law 487 = .ok (.aload_n 0, 1) := by decide +kernel
theorem dL_law_488 : decode cL_law 488 = .ok (.iload_n 3, 1) := by decide +kernel
theorem dL_law_489 : decode cL_law 489 = .ok (.iconst 1, 1) := by decide +kernel
theorem dL_law_490 : decode cL_law 490 = .ok (.iadd, 1) := by decide +kernel
theorem dL_law_491 : decode cL_law 491 = .ok (.iaload, 1) := by decide +kernel
theorem dL_law_492 : decode cL_law 492 = .ok (.aload_n 0, 1) := by decide +kernel
theorem dL_law_493 : decode cL_law 493 = .ok (.iload_n 3, 1) := by decide +kernel
theorem dL_law_494 : decode cL_law 494 = .ok (.iconst 2, 1) := by decide +kernel
theorem dL_law_495 : decode cL_law 495 = .ok (.iadd, 1) := by decide +kernel
theorem dL_law_496 : decode cL_law 496 = .ok (.iaload, 1) := by decide +kernel
theorem dL_law_497 : decode cL_law 497 = .ok (.invokevirtual 56, 3) := by decide +kernel
theorem dL_law_500 : decode cL_law 500 = .ok (.aload_n 2, 1) := by decide +kernel
theorem dL_law_501 : decode cL_law 501 = .ok (.aload_n 0, 1) := by decide +kernel
theorem dL_law_502 : decode cL_law 502 = .ok (.iload_n 3, 1) := by decide +kernel
theorem dL_law_503 : decode cL_law 503 = .ok (.iconst 1, 1) := by decide +kernel
theorem dL_law_504 : decode cL_law 504 = .ok (.iadd, 1) := by decide +kernel
theorem dL_law_505 : decode cL_law 505 = .ok (.iaload, 1) := by decide +kernel
theorem dL_law_506 : decode cL_law 506 = .ok (.aload_n 0, 1) := by decide +kernel
theorem dL_law_507 : decode cL_law 507 = .ok (.iload_n 3, 1) := by decide +kernel
theorem dL_law_508 : decode cL_law 508 = .ok (.iconst 2, 1) := by decide +kernel
theorem dL_law_509 : decode cL_law 509 = .ok (.iadd, 1) := by decide +kernel
theorem dL_law_510 : decode cL_law 510 = .ok (.iaload, 1) := by decide +kernel
theorem dL_law_511 : decode cL_law 511 = .ok (.invokevirtual 59, 3) := by decide +kernel
theorem dL_law_514 : decode cL_law 514 = .ok (.if_icmp .eq 478, 3) := by decide +kernel
theorem dL_law_519 : decode cL_law 519 = .ok (.aload_n 1, 1) := by decide +kernel
theorem dL_law_520 : decode cL_law 520 = .ok (.aload_n 0, 1) := by decide +kernel
theorem dL_law_521 : decode cL_law 521 = .ok (.iload_n 3, 1) := by decide +kernel
theorem dL_law_522 : decode cL_law 522 = .ok (.iconst 1, 1) := by decide +kernel
theorem dL_law_523 : decode cL_law 523 = .ok (.iadd, 1) := by decide +kernel
theorem dL_law_524 : decode cL_law 524 = .ok (.iaload, 1) := by decide +kernel
theorem dL_law_525 : decode cL_law 525 = .ok (.aload_n 0, 1) := by decide +kernel
theorem dL_law_526 : decode cL_law 526 = .ok (.iload_n 3, 1) := by decide +kernel
theorem dL_law_527 : decode cL_law 527 = .ok (.iconst 2, 1) := by decide +kernel
theorem dL_law_528 : decode cL_law 528 = .ok (.iadd, 1) := by decide +kernel
theorem dL_law_529 : decode cL_law 529 = .ok (.iaload, 1) := by decide +kernel
theorem dL_law_530 : decode cL_law 530 = .ok (.invokevirtual 60, 3) := by decide +kernel
theorem dL_law_533 : decode cL_law 533 = .ok (.aload_n 2, 1) := by decide +kernel
theorem dL_law_534 : decode cL_law 534 = .ok (.aload_n 0, 1) := by decide +kernel
theorem dL_law_535 : decode cL_law 535 = .ok (.iload_n 3, 1) := by decide +kernel
theorem dL_law_536 : decode cL_law 536 = .ok (.iconst 1, 1) := by decide +kernel
theorem dL_law_537 : decode cL_law 537 = .ok (.iadd, 1) := by decide +kernel
theorem dL_law_538 : decode cL_law 538 = .ok (.iaload, 1) := by decide +kernel
theorem dL_law_539 : decode cL_law 539 = .ok (.aload_n 0, 1) := by decide +kernel
theorem dL_law_540 : decode cL_law 540 = .ok (.iload_n 3, 1) := by decide +kernel
theorem dL_law_541 : decode cL_law 541 = .ok (.iconst 2, 1) := by decide +kernel
theorem dL_law_542 : decode cL_law 542 = .ok (.iadd, 1) := by decide +kernel
theorem dL_law_543 : decode cL_law 543 = .ok (.iaload, 1) := by decide +kernel
theorem dL_law_544 : decode cL_law 544 = .ok (.invokevirtual 63, 3) := by decide +kernel
theorem dL_law_547 : decode cL_law 547 = .ok (.if_icmp .eq 445, 3) := by decide +kernel
theorem dL_law_552 : decode cL_law 552 = .ok (.aload_n 1, 1) := by decide +kernel
theorem dL_law_553 : decode cL_law 553 = .ok (.aload_n 0, 1) := by decide +kernel
theorem dL_law_554 : decode cL_law 554 = .ok (.iload_n 3, 1) := by decide +kernel
theorem dL_law_555 : decode cL_law 555 = .ok (.iconst 1, 1) := by decide +kernel
theorem dL_law_556 : decode cL_law 556 = .ok (.iadd, 1) := by decide +kernel
theorem dL_law_557 : decode cL_law 557 = .ok (.iaload, 1) := by decide +kernel
theorem dL_law_558 : decode cL_law 558 = .ok (.aload_n 0, 1) := by decide +kernel
theorem dL_law_559 : decode cL_law 559 = .ok (.iload_n 3, 1) := by decide +kernel
theorem dL_law_560 : decode cL_law 560 = .ok (.iconst 2, 1) := by decide +kernel
theorem dL_law_561 : decode cL_law 561 = .ok (.iadd, 1) := by decide +kernel
theorem dL_law_562 : decode cL_law 562 = .ok (.iaload, 1) := by decide +kernel
theorem dL_law_563 : decode cL_law 563 = .ok (.invokevirtual 64, 3) := by decide +kernel
theorem dL_law_566 : decode cL_law 566 = .ok (.aload_n 2, 1) := by decide +kernel
theorem dL_law_567 : decode cL_law 567 = .ok (.aload_n 0, 1) := by decide +kernel
theorem dL_law_568 : decode cL_law 568 = .ok (.iload_n 3, 1) := by decide +kernel
theorem dL_law_569 : decode cL_law 569 = .ok (.iconst 1, 1) := by decide +kernel
theorem dL_law_570 : decode cL_law 570 = .ok (.iadd, 1) := by decide +kernel
theorem dL_law_571 : decode cL_law 571 = .ok (.iaload, 1) := by decide +kernel
theorem dL_law_572 : decode cL_law 572 = .ok (.aload_n 0, 1) := by decide +kernel
theorem dL_law_573 : decode cL_law 573 = .ok (.iload_n 3, 1) := by decide +kernel
theorem dL_law_574 : decode cL_law 574 = .ok (.iconst 2, 1) := by decide +kernel
theorem dL_law_575 : decode cL_law 575 = .ok (.iadd, 1) := by decide +kernel
theorem dL_law_576 : decode cL_law 576 = .ok (.iaload, 1) := by decide +kernel
theorem dL_law_577 : decode cL_law 577 = .ok (.invokevirtual 67, 3) := by decide +kernel
theorem dL_law_580 : decode cL_law 580 = .ok (.if_icmp .eq 412, 3) := by decide +kernel
theorem dL_law_585 : decode cL_law 585 = .ok (.aload_n 1, 1) := by decide +kernel
theorem dL_law_586 : decode cL_law 586 = .ok (.aload_n 0, 1) := by decide +kernel
theorem dL_law_587 : decode cL_law 587 = .ok (.iload_n 3, 1) := by decide +kernel
theorem dL_law_588 : decode cL_law 588 = .ok (.iconst 1, 1) := by decide +kernel
theorem dL_law_589 : decode cL_law 589 = .ok (.iadd, 1) := by decide +kernel
theorem dL_law_590 : decode cL_law 590 = .ok (.iaload, 1) := by decide +kernel
theorem dL_law_591 : decode cL_law 591 = .ok (.invokevirtual 68, 3) := by decide +kernel
theorem dL_law_594 : decode cL_law 594 = .ok (.aload_n 2, 1) := by decide +kernel
theorem dL_law_595 : decode cL_law 595 = .ok (.aload_n 0, 1) := by decide +kernel
theorem dL_law_596 : decode cL_law 596 = .ok (.iload_n 3, 1) := by decide +kernel
theorem dL_law_597 : decode cL_law 597 = .ok (.iconst 1, 1) := by decide +kernel
theorem dL_law_598 : decode cL_law 598 = .ok (.iadd, 1) := by decide +kernel
theorem dL_law_599 : decode cL_law 599 = .ok (.iaload, 1) := by decide +kernel
theorem dL_law_600 : decode cL_law 600 = .ok (.invokevirtual 71, 3) := by decide +kernel
theorem dL_law_603 : decode cL_law 603 = .ok (.if_icmp .eq 389, 3) := by decide +kernel
theorem dL_law_608 : decode cL_law 608 = .ok (.aload_n 1, 1) := by decide +kernel
theorem dL_law_609 : decode cL_law 609 = .ok (.aload_n 0, 1) := by decide +kernel
theorem dL_law_610 : decode cL_law 610 = .ok (.iload_n 3, 1) := by decide +kernel
theorem dL_law_611 : decode cL_law 611 = .ok (.iconst 1, 1) := by decide +kernel
theorem dL_law_612 : decode cL_law 612 = .ok (.iadd, 1) := by decide +kernel
theorem dL_law_613 : decode cL_law 613 = .ok (.iaload, 1) := by decide +kernel
theorem dL_law_614 : decode cL_law 614 = .ok (.invokevirtual 72, 3) := by decide +kernel
theorem dL_law_617 : decode cL_law 617 = .ok (.aload_n 2, 1) := by decide +kernel
theorem dL_law_618 : decode cL_law 618 = .ok (.aload_n 0, 1) := by decide +kernel
theorem dL_law_619 : decode cL_law 619 = .ok (.iload_n 3, 1) := by decide +kernel
theorem dL_law_620 : decode cL_law 620 = .ok (.iconst 1, 1) := by decide +kernel
theorem dL_law_621 : decode cL_law 621 = .ok (.iadd, 1) := by decide +kernel
theorem dL_law_622 : decode cL_law 622 = .ok (.iaload, 1) := by decide +kernel
theorem dL_law_623 : decode cL_law 623 = .ok (.invokevirtual 75, 3) := by decide +kernel
theorem dL_law_626 : decode cL_law 626 = .ok (.if_icmp .eq 366, 3) := by decide +kernel
theorem dL_law_631 : decode cL_law 631 = .ok (.aload_n 1, 1) := by decide +kernel
theorem dL_law_632 : decode cL_law 632 = .ok (.aload_n 0, 1) := by decide +kernel
theorem dL_law_633 : decode cL_law 633 = .ok (.iload_n 3, 1) := by decide +kernel
theorem dL_law_634 : decode cL_law 634 = .ok (.iconst 1, 1) := by decide +kernel
theorem dL_law_635 : decode cL_law 635 = .ok (.iadd, 1) := by decide +kernel
theorem dL_law_636 : decode cL_law 636 = .ok (.iaload, 1) := by decide +kernel
theorem dL_law_637 : decode cL_law 637 = .ok (.invokevirtual 76, 3) := by decide +kernel
theorem dL_law_640 : decode cL_law 640 = .ok (.aload_n 2, 1) := by decide +kernel
theorem dL_law_641 : decode cL_law 641 = .ok (.aload_n 0, 1) := by decide +kernel
theorem dL_law_642 : decode cL_law 642 = .ok (.iload_n 3, 1) := by decide +kernel
theorem dL_law_643 : decode cL_law 643 = .ok (.iconst 1, 1) := by decide +kernel
theorem dL_law_644 : decode cL_law 644 = .ok (.iadd, 1) := by decide +kernel
theorem dL_law_645 : decode cL_law 645 = .ok (.iaload, 1) := by decide +kernel
theorem dL_law_646 : decode cL_law 646 = .ok (.invokevirtual 79, 3) := by decide +kernel
theorem dL_law_649 : decode cL_law 649 = .ok (.if_icmp .eq 343, 3) := by decide +kernel
theorem dL_law_654 : decode cL_law 654 = .ok (.aload_n 1, 1) := by decide +kernel
theorem dL_law_655 : decode cL_law 655 = .ok (.aload_n 0, 1) := by decide +kernel
theorem dL_law_656 : decode cL_law 656 = .ok (.iload_n 3, 1) := by decide +kernel
theorem dL_law_657 : decode cL_law 657 = .ok (.iconst 1, 1) := by decide +kernel
theorem dL_law_658 : decode cL_law 658 = .ok (.iadd, 1) := by decide +kernel
theorem dL_law_659 : decode cL_law 659 = .ok (.iaload, 1) := by decide +kernel
theorem dL_law_660 : decode cL_law 660 = .ok (.invokevirtual 80, 3) := by decide +kernel
theorem dL_law_663 : decode cL_law 663 = .ok (.aload_n 2, 1) := by decide +kernel
theorem dL_law_664 : decode cL_law 664 = .ok (.aload_n 0, 1) := by decide +kernel
theorem dL_law_665 : decode cL_law 665 = .ok (.iload_n 3, 1) := by decide +kernel
theorem dL_law_666 : decode cL_law 666 = .ok (.iconst 1, 1) := by decide +kernel
theorem dL_law_667 : decode cL_law 667 = .ok (.iadd, 1) := by decide +kernel
theorem dL_law_668 : decode cL_law 668 = .ok (.iaload, 1) := by decide +kernel
theorem dL_law_669 : decode cL_law 669 = .ok (.invokevirtual 83, 3) := by decide +kernel
theorem dL_law_672 : decode cL_law 672 = .ok (.if_icmp .eq 320, 3) := by decide +kernel
theorem dL_law_677 : decode cL_law 677 = .ok (.aload_n 1, 1) := by decide +kernel
theorem dL_law_678 : decode cL_law 678 = .ok (.aload_n 0, 1) := by decide +kernel
theorem dL_law_679 : decode cL_law 679 = .ok (.iload_n 3, 1) := by decide +kernel
theorem dL_law_680 : decode cL_law 680 = .ok (.iconst 1, 1) := by decide +kernel
theorem dL_law_681 : decode cL_law 681 = .ok (.iadd, 1) := by decide +kernel
theorem dL_law_682 : decode cL_law 682 = .ok (.iaload, 1) := by decide +kernel
theorem dL_law_683 : decode cL_law 683 = .ok (.invokevirtual 84, 3) := by decide +kernel
theorem dL_law_686 : decode cL_law 686 = .ok (.aload_n 2, 1) := by decide +kernel
theorem dL_law_687 : decode cL_law 687 = .ok (.aload_n 0, 1) := by decide +kernel
theorem dL_law_688 : decode cL_law 688 = .ok (.iload_n 3, 1) := by decide +kernel
theorem dL_law_689 : decode cL_law 689 = .ok (.iconst 1, 1) := by decide +kernel
theorem dL_law_690 : decode cL_law 690 = .ok (.iadd, 1) := by decide +kernel
theorem dL_law_691 : decode cL_law 691 = .ok (.iaload, 1) := by decide +kernel
theorem dL_law_692 : decode cL_law 692 = .ok (.invokevirtual 87, 3) := by decide +kernel
theorem dL_law_695 : decode cL_law 695 = .ok (.if_icmp .eq 297, 3) := by decide +kernel
theorem dL_law_700 : decode cL_law 700 = .ok (.aload_n 1, 1) := by decide +kernel
theorem dL_law_701 : decode cL_law 701 = .ok (.aload_n 0, 1) := by decide +kernel
theorem dL_law_702 : decode cL_law 702 = .ok (.iload_n 3, 1) := by decide +kernel
theorem dL_law_703 : decode cL_law 703 = .ok (.iconst 1, 1) := by decide +kernel
theorem dL_law_704 : decode cL_law 704 = .ok (.iadd, 1) := by decide +kernel
theorem dL_law_705 : decode cL_law 705 = .ok (.iaload, 1) := by decide +kernel
theorem dL_law_706 : decode cL_law 706 = .ok (.invokevirtual 88, 3) := by decide +kernel
theorem dL_law_709 : decode cL_law 709 = .ok (.aload_n 2, 1) := by decide +kernel
theorem dL_law_710 : decode cL_law 710 = .ok (.aload_n 0, 1) := by decide +kernel
theorem dL_law_711 : decode cL_law 711 = .ok (.iload_n 3, 1) := by decide +kernel
theorem dL_law_712 : decode cL_law 712 = .ok (.iconst 1, 1) := by decide +kernel
theorem dL_law_713 : decode cL_law 713 = .ok (.iadd, 1) := by decide +kernel
theorem dL_law_714 : decode cL_law 714 = .ok (.iaload, 1) := by decide +kernel
theorem dL_law_715 : decode cL_law 715 = .ok (.invokevirtual 91, 3) := by decide +kernel
theorem dL_law_718 : decode cL_law 718 = .ok (.if_icmp .eq 274, 3) := by decide +kernel
theorem dL_law_723 : decode cL_law 723 = .ok (.aload_n 1, 1) := by decide +kernel
theorem dL_law_724 : decode cL_law 724 = .ok (.aload_n 0, 1) := by decide +kernel
theorem dL_law_725 : decode cL_law 725 = .ok (.iload_n 3, 1) := by decide +kernel
theorem dL_law_726 : decode cL_law 726 = .ok (.iconst 1, 1) := by decide +kernel
theorem dL_law_727 : decode cL_law 727 = .ok (.iadd, 1) := by decide +kernel
theorem dL_law_728 : decode cL_law 728 = .ok (.iaload, 1) := by decide +kernel
theorem dL_law_729 : decode cL_law 729 = .ok (.aload_n 0, 1) := by decide +kernel
theorem dL_law_730 : decode cL_law 730 = .ok (.iload_n 3, 1) := by decide +kernel
theorem dL_law_731 : decode cL_law 731 = .ok (.iconst 2, 1) := by decide +kernel
theorem dL_law_732 : decode cL_law 732 = .ok (.iadd, 1) := by decide +kernel
theorem dL_law_733 : decode cL_law 733 = .ok (.iaload, 1) := by decide +kernel
theorem dL_law_734 : decode cL_law 734 = .ok (.invokevirtual 92, 3) := by decide +kernel
theorem dL_law_737 : decode cL_law 737 = .ok (.aload_n 2, 1) := by decide +kernel
theorem dL_law_738 : decode cL_law 738 = .ok (.aload_n 0, 1) := by decide +kernel
theorem dL_law_739 : decode cL_law 739 = .ok (.iload_n 3, 1) := by decide +kernel
theorem dL_law_740 : decode cL_law 740 = .ok (.iconst 1, 1) := by decide +kernel
theorem dL_law_741 : decode cL_law 741 = .ok (.iadd, 1) := by decide +kernel
theorem dL_law_742 : decode cL_law 742 = .ok (.iaload, 1) := by decide +kernel
theorem dL_law_743 : decode cL_law 743 = .ok (.aload_n 0, 1) := by decide +kernel
theorem dL_law_744 : decode cL_law 744 = .ok (.iload_n 3, 1) := by decide +kernel
theorem dL_law_745 : decode cL_law 745 = .ok (.iconst 2, 1) := by decide +kernel
theorem dL_law_746 : decode cL_law 746 = .ok (.iadd, 1) := by decide +kernel
theorem dL_law_747 : decode cL_law 747 = .ok (.iaload, 1) := by decide +kernel
theorem dL_law_748 : decode cL_law 748 = .ok (.invokevirtual 95, 3) := by decide +kernel
theorem dL_law_751 : decode cL_law 751 = .ok (.if_icmp .eq 241, 3) := by decide +kernel
theorem dL_law_756 : decode cL_law 756 = .ok (.aload_n 1, 1) := by decide +kernel
theorem dL_law_757 : decode cL_law 757 = .ok (.aload_n 0, 1) := by decide +kernel
theorem dL_law_758 : decode cL_law 758 = .ok (.iload_n 3, 1) := by decide +kernel
theorem dL_law_759 : decode cL_law 759 = .ok (.iconst 1, 1) := by decide +kernel
theorem dL_law_760 : decode cL_law 760 = .ok (.iadd, 1) := by decide +kernel
theorem dL_law_761 : decode cL_law 761 = .ok (.iaload, 1) := by decide +kernel
theorem dL_law_762 : decode cL_law 762 = .ok (.aload_n 0, 1) := by decide +kernel
theorem dL_law_763 : decode cL_law 763 = .ok (.iload_n 3, 1) := by decide +kernel
theorem dL_law_764 : decode cL_law 764 = .ok (.iconst 2, 1) := by decide +kernel
theorem dL_law_765 : decode cL_law 765 = .ok (.iadd, 1) := by decide +kernel
theorem dL_law_766 : decode cL_law 766 = .ok (.iaload, 1) := by decide +kernel
theorem dL_law_767 : decode cL_law 767 = .ok (.invokevirtual 96, 3) := by decide +kernel
theorem dL_law_770 : decode cL_law 770 = .ok (.aload_n 2, 1) := by decide +kernel
theorem dL_law_771 : decode cL_law 771 = .ok (.aload_n 0, 1) := by decide +kernel
theorem dL_law_772 : decode cL_law 772 = .ok (.iload_n 3, 1) := by decide +kernel
theorem dL_law_773 : decode cL_law 773 = .ok (.iconst 1, 1) := by decide +kernel
theorem dL_law_774 : decode cL_law 774 = .ok (.iadd, 1) := by decide +kernel
theorem dL_law_775 : decode cL_law 775 = .ok (.iaload, 1) := by decide +kernel
theorem dL_law_776 : decode cL_law 776 = .ok (.aload_n 0, 1) := by decide +kernel
theorem dL_law_777 : decode cL_law 777 = .ok (.iload_n 3, 1) := by decide +kernel
theorem dL_law_778 : decode cL_law 778 = .ok (.iconst 2, 1) := by decide +kernel
theorem dL_law_779 : decode cL_law 779 = .ok (.iadd, 1) := by decide +kernel
theorem dL_law_780 : decode cL_law 780 = .ok (.iaload, 1) := by decide +kernel
theorem dL_law_781 : decode cL_law 781 = .ok (.invokevirtual 99, 3) := by decide +kernel
theorem dL_law_784 : decode cL_law 784 = .ok (.if_icmp .eq 208, 3) := by decide +kernel
theorem dL_law_789 : decode cL_law 789 = .ok (.aload_n 1, 1) := by decide +kernel
theorem dL_law_790 : decode cL_law 790 = .ok (.aload_n 0, 1) := by decide +kernel
theorem dL_law_791 : decode cL_law 791 = .ok (.iload_n 3, 1) := by decide +kernel
theorem dL_law_792 : decode cL_law 792 = .ok (.iconst 1, 1) := by decide +kernel
theorem dL_law_793 : decode cL_law 793 = .ok (.iadd, 1) := by decide +kernel
theorem dL_law_794 : decode cL_law 794 = .ok (.iaload, 1) := by decide +kernel
theorem dL_law_795 : decode cL_law 795 = .ok (.invokevirtual 100, 3) := by decide +kernel
theorem dL_law_798 : decode cL_law 798 = .ok (.aload_n 2, 1) := by decide +kernel
theorem dL_law_799 : decode cL_law 799 = .ok (.aload_n 0, 1) := by decide +kernel
theorem dL_law_800 : decode cL_law 800 = .ok (.iload_n 3, 1) := by decide +kernel
theorem dL_law_801 : decode cL_law 801 = .ok (.iconst 1, 1) := by decide +kernel
theorem dL_law_802 : decode cL_law 802 = .ok (.iadd, 1) := by decide +kernel
theorem dL_law_803 : decode cL_law 803 = .ok (.iaload, 1) := by decide +kernel
theorem dL_law_804 : decode cL_law 804 = .ok (.invokevirtual 103, 3) := by decide +kernel
theorem dL_law_807 : decode cL_law 807 = .ok (.if_icmp .eq 185, 3) := by decide +kernel
theorem dL_law_812 : decode cL_law 812 = .ok (.aload_n 1, 1) := by decide +kernel
theorem dL_law_813 : decode cL_law 813 = .ok (.aload_n 0, 1) := by decide +kernel
theorem dL_law_814 : decode cL_law 814 = .ok (.iload_n 3, 1) := by decide +kernel
theorem dL_law_815 : decode cL_law 815 = .ok (.iconst 1, 1) := by decide +kernel
theorem dL_law_816 : decode cL_law 816 = .ok (.iadd, 1) := by decide +kernel
theorem dL_law_817 : decode cL_law 817 = .ok (.iaload, 1) := by decide +kernel
theorem dL_law_818 : decode cL_law 818 = .ok (.invokevirtual 104, 3) := by decide +kernel
theorem dL_law_821 : decode cL_law 821 = .ok (.aload_n 2, 1) := by decide +kernel
theorem dL_law_822 : decode cL_law 822 = .ok (.aload_n 0, 1) := by decide +kernel
theorem dL_law_823 : decode cL_law 823 = .ok (.iload_n 3, 1) := by decide +kernel
theorem dL_law_824 : decode cL_law 824 = .ok (.iconst 1, 1) := by decide +kernel
theorem dL_law_825 : decode cL_law 825 = .ok (.iadd, 1) := by decide +kernel
theorem dL_law_826 : decode cL_law 826 = .ok (.iaload, 1) := by decide +kernel
theorem dL_law_827 : decode cL_law 827 = .ok (.invokevirtual 107, 3) := by decide +kernel
theorem dL_law_830 : decode cL_law 830 = .ok (.if_icmp .eq 162, 3) := by decide +kernel
theorem dL_law_835 : decode cL_law 835 = .ok (.aload_n 1, 1) := by decide +kernel
theorem dL_law_836 : decode cL_law 836 = .ok (.aload_n 0, 1) := by decide +kernel
theorem dL_law_837 : decode cL_law 837 = .ok (.iload_n 3, 1) := by decide +kernel
theorem dL_law_838 : decode cL_law 838 = .ok (.iconst 1, 1) := by decide +kernel
theorem dL_law_839 : decode cL_law 839 = .ok (.iadd, 1) := by decide +kernel
theorem dL_law_840 : decode cL_law 840 = .ok (.iaload, 1) := by decide +kernel
theorem dL_law_841 : decode cL_law 841 = .ok (.invokevirtual 108, 3) := by decide +kernel
theorem dL_law_844 : decode cL_law 844 = .ok (.aload_n 2, 1) := by decide +kernel
theorem dL_law_845 : decode cL_law 845 = .ok (.aload_n 0, 1) := by decide +kernel
theorem dL_law_846 : decode cL_law 846 = .ok (.iload_n 3, 1) := by decide +kernel
theorem dL_law_847 : decode cL_law 847 = .ok (.iconst 1, 1) := by decide +kernel
theorem dL_law_848 : decode cL_law 848 = .ok (.iadd, 1) := by decide +kernel
theorem dL_law_849 : decode cL_law 849 = .ok (.iaload, 1) := by decide +kernel
theorem dL_law_850 : decode cL_law 850 = .ok (.invokevirtual 111, 3) := by decide +kernel
theorem dL_law_853 : decode cL_law 853 = .ok (.if_icmp .eq 139, 3) := by decide +kernel
theorem dL_law_858 : decode cL_law 858 = .ok (.aload_n 1, 1) := by decide +kernel
theorem dL_law_859 : decode cL_law 859 = .ok (.aload_n 0, 1) := by decide +kernel
theorem dL_law_860 : decode cL_law 860 = .ok (.iload_n 3, 1) := by decide +kernel
theorem dL_law_861 : decode cL_law 861 = .ok (.iconst 1, 1) := by decide +kernel
theorem dL_law_862 : decode cL_law 862 = .ok (.iadd, 1) := by decide +kernel
theorem dL_law_863 : decode cL_law 863 = .ok (.iaload, 1) := by decide +kernel
theorem dL_law_864 : decode cL_law 864 = .ok (.invokevirtual 112, 3) := by decide +kernel
theorem dL_law_867 : decode cL_law 867 = .ok (.aload_n 2, 1) := by decide +kernel
theorem dL_law_868 : decode cL_law 868 = .ok (.aload_n 0, 1) := by decide +kernel
theorem dL_law_869 : decode cL_law 869 = .ok (.iload_n 3, 1) := by decide +kernel
theorem dL_law_870 : decode cL_law 870 = .ok (.iconst 1, 1) := by decide +kernel
theorem dL_law_871 : decode cL_law 871 = .ok (.iadd, 1) := by decide +kernel
theorem dL_law_872 : decode cL_law 872 = .ok (.iaload, 1) := by decide +kernel
theorem dL_law_873 : decode cL_law 873 = .ok (.invokevirtual 115, 3) := by decide +kernel
theorem dL_law_876 : decode cL_law 876 = .ok (.if_icmp .eq 116, 3) := by decide +kernel
theorem dL_law_881 : decode cL_law 881 = .ok (.aload_n 1, 1) := by decide +kernel
theorem dL_law_882 : decode cL_law 882 = .ok (.invokevirtual 116, 3) := by decide +kernel
theorem dL_law_885 : decode cL_law 885 = .ok (.aload_n 2, 1) := by decide +kernel
theorem dL_law_886 : decode cL_law 886 = .ok (.invokevirtual 120, 3) := by decide +kernel
theorem dL_law_889 : decode cL_law 889 = .ok (.if_icmp .eq 103, 3) := by decide +kernel
theorem dL_law_894 : decode cL_law 894 = .ok (.aload_n 1, 1) := by decide +kernel
theorem dL_law_895 : decode cL_law 895 = .ok (.aload_n 0, 1) := by decide +kernel
theorem dL_law_896 : decode cL_law 896 = .ok (.iload_n 3, 1) := by decide +kernel
theorem dL_law_897 : decode cL_law 897 = .ok (.iconst 1, 1) := by decide +kernel
theorem dL_law_898 : decode cL_law 898 = .ok (.iadd, 1) := by decide +kernel
theorem dL_law_899 : decode cL_law 899 = .ok (.iaload, 1) := by decide +kernel
theorem dL_law_900 : decode cL_law 900 = .ok (.invokevirtual 121, 3) := by decide +kernel
theorem dL_law_903 : decode cL_law 903 = .ok (.aload_n 2, 1) := by decide +kernel
theorem dL_law_904 : decode cL_law 904 = .ok (.aload_n 0, 1) := by decide +kernel
theorem dL_law_905 : decode cL_law 905 = .ok (.iload_n 3, 1) := by decide +kernel
theorem dL_law_906 : decode cL_law 906 = .ok (.iconst 1, 1) := by decide +kernel
theorem dL_law_907 : decode cL_law 907 = .ok (.iadd, 1) := by decide +kernel
theorem dL_law_908 : decode cL_law 908 = .ok (.iaload, 1) := by decide +kernel
theorem dL_law_909 : decode cL_law 909 = .ok (.invokevirtual 124, 3) := by decide +kernel
theorem dL_law_912 : decode cL_law 912 = .ok (.if_icmp .eq 80, 3) := by decide +kernel
theorem dL_law_917 : decode cL_law 917 = .ok (.aload_n 1, 1) := by decide +kernel
theorem dL_law_918 : decode cL_law 918 = .ok (.aload_n 0, 1) := by decide +kernel
theorem dL_law_919 : decode cL_law 919 = .ok (.iload_n 3, 1) := by decide +kernel
theorem dL_law_920 : decode cL_law 920 = .ok (.iconst 1, 1) := by decide +kernel
theorem dL_law_921 : decode cL_law 921 = .ok (.iadd, 1) := by decide +kernel
theorem dL_law_922 : decode cL_law 922 = .ok (.iaload, 1) := by decide +kernel
theorem dL_law_923 : decode cL_law 923 = .ok (.invokevirtual 125, 3) := by decide +kernel
theorem dL_law_926 : decode cL_law 926 = .ok (.aload_n 2, 1) := by decide +kernel
theorem dL_law_927 : decode cL_law 927 = .ok (.aload_n 0, 1) := by decide +kernel
theorem dL_law_928 : decode cL_law 928 = .ok (.iload_n 3, 1) := by decide +kernel
theorem dL_law_929 : decode cL_law 929 = .ok (.iconst 1, 1) := by decide +kernel
theorem dL_law_930 : decode cL_law 930 = .ok (.iadd, 1) := by decide +kernel
theorem dL_law_931 : decode cL_law 931 = .ok (.iaload, 1) := by decide +kernel
theorem dL_law_932 : decode cL_law 932 = .ok (.invokevirtual 128, 3) := by decide +kernel
theorem dL_law_935 : decode cL_law 935 = .ok (.if_icmp .eq 57, 3) := by decide +kernel
theorem dL_law_940 : decode cL_law 940 = .ok (.aload_n 1, 1) := by decide +kernel
theorem dL_law_941 : decode cL_law 941 = .ok (.invokevirtual 129, 3) := by decide +kernel
theorem dL_law_944 : decode cL_law 944 = .ok (.aload_n 2, 1) := by decide +kernel
theorem dL_law_945 : decode cL_law 945 = .ok (.invokevirtual 132, 3) := by decide +kernel
theorem dL_law_948 : decode cL_law 948 = .ok (.if_icmp .eq 44, 3) := by decide +kernel
theorem dL_law_953 : decode cL_law 953 = .ok (.aload_n 1, 1) := by decide +kernel
theorem dL_law_954 : decode cL_law 954 = .ok (.invokevirtual 133, 3) := by decide +kernel
theorem dL_law_957 : decode cL_law 957 = .ok (.aload_n 2, 1) := by decide +kernel
theorem dL_law_958 : decode cL_law 958 = .ok (.invokevirtual 136, 3) := by decide +kernel
theorem dL_law_961 : decode cL_law 961 = .ok (.if_icmp .eq 31, 3) := by decide +kernel
theorem dL_law_966 : decode cL_law 966 = .ok (.aload_n 1, 1) := by decide +kernel
theorem dL_law_967 : decode cL_law 967 = .ok (.invokevirtual 137, 3) := by decide +kernel
theorem dL_law_970 : decode cL_law 970 = .ok (.aload_n 2, 1) := by decide +kernel
theorem dL_law_971 : decode cL_law 971 = .ok (.invokevirtual 140, 3) := by decide +kernel
theorem dL_law_974 : decode cL_law 974 = .ok (.if_icmp .eq 18, 3) := by decide +kernel
theorem dL_law_979 : decode cL_law 979 = .ok (.aload_n 1, 1) := by decide +kernel
theorem dL_law_980 : decode cL_law 980 = .ok (.invokevirtual 141, 3) := by decide +kernel
theorem dL_law_983 : decode cL_law 983 = .ok (.aload_n 2, 1) := by decide +kernel
theorem dL_law_984 : decode cL_law 984 = .ok (.invokevirtual 144, 3) := by decide +kernel
theorem dL_law_987 : decode cL_law 987 = .ok (.if_icmp .eq 5, 3) := by decide +kernel
theorem dL_law_992 : decode cL_law 992 = .ok (.iinc 3 4, 3) := by decide +kernel
theorem dL_law_995 : decode cL_law 995 = .ok (.goto (-977), 3) := by decide +kernel
theorem dL_law_998 : decode cL_law 998 = .ok (.iconst 1, 1) := by decide +kernel
theorem dL_law_999 : decode cL_law 999 = .ok (.ireturn, 1) := by decide +kernel
theorem i_sub0 {x : Int32} (h1 : ¬ x < 1) (h2 : ¬ 99 < x) : 0 - x ≤ 0 := by
  have k0 : (0 : Int32).toInt = 0 := rfl
  have k1 : (1 : Int32).toInt = 1 := rfl
  have k99 : (99 : Int32).toInt = 99 := rfl
  simp only [Int32.lt_iff_toInt_lt, Int32.le_iff_toInt_le] at h1 h2 ⊢
  obtain ⟨j, hj, rfl⟩ := nI_of (x := x) (fun q => by rw [Int32.lt_iff_toInt_lt] at q; omega)
  rw [nI_toInt hj] at h1 h2
  have h3 := pk_sub_toInt (a := 0) (b := j) (by decide) (by omega)
  rw [nI_0] at h3
  rw [h3]
  omega
theorem i_13 {x : Int32} (h : ¬ (x.toInt < 0 ∨ 12 < x.toInt)) : ∃ j : Nat, j < 13 ∧ x = nI j := by
  obtain ⟨j, hj, rfl⟩ := nI_of (x := x) (fun q => by rw [Int32.lt_iff_toInt_lt] at q; exact h (Or.inl q))
  rw [nI_toInt hj] at h
  exact ⟨j, by omega, rfl⟩
theorem law_short0 {P : mP} {cz sz : Nat} : MEvP 20 (some []) lawq 18 [(3, .int 0), (2, .ref 301), (1, .ref 0), (0, .long 0)] [] P cz sz (fun r _ => r = some (.int 1)) := by
  refine mp_a (a_iload_n dL_law_18 rfl) (mpp 19 rfl ?_)
  refine mp_a (a_aload_nT dL_law_19 rfl) (mpp 20 rfl ?_)
  refine mp_slen (n := 0) dL_law_20 rfl (mpp 21 rfl ?_)
  refine mp_a (a_iconst (v := 4) dL_law_21 rfl) (mpp 22 rfl ?_)
  refine mp_t (s_isub (v := (-4)) dL_law_22 (by decide)) (mpp 23 rfl ?_)
  refine mp_Tt (t := 998) (j_icmp_gt dL_law_23) (by decide) (by decide) ?_
  refine mp_a (a_iconst (v := 1) dL_law_998 rfl) (mpp 999 rfl ?_)
  exact mp_iretS rfl dL_law_999 (Or.inr ⟨rfl, Or.inr rfl⟩)

theorem law_short1 {x0 : Int32} {P : mP} {cz sz : Nat} : MEvP 20 (some [x0]) lawq 18 [(3, .int 0), (2, .ref 301), (1, .ref 0), (0, .long 0)] [] P cz sz (fun r _ => r = some (.int 1)) := by
  refine mp_a (a_iload_n dL_law_18 rfl) (mpp 19 rfl ?_)
  refine mp_a (a_aload_nT dL_law_19 rfl) (mpp 20 rfl ?_)
  refine mp_slen (n := 1) dL_law_20 rfl (mpp 21 rfl ?_)
  refine mp_a (a_iconst (v := 4) dL_law_21 rfl) (mpp 22 rfl ?_)
  refine mp_t (s_isub (v := (-3)) dL_law_22 (by decide)) (mpp 23 rfl ?_)
  refine mp_Tt (t := 998) (j_icmp_gt dL_law_23) (by decide) (by decide) ?_
  refine mp_a (a_iconst (v := 1) dL_law_998 rfl) (mpp 999 rfl ?_)
  exact mp_iretS rfl dL_law_999 (Or.inr ⟨rfl, Or.inr rfl⟩)

theorem law_short2 {x0 x1 : Int32} {P : mP} {cz sz : Nat} : MEvP 20 (some [x0, x1]) lawq 18 [(3, .int 0), (2, .ref 301), (1, .ref 0), (0, .long 0)] [] P cz sz (fun r _ => r = some (.int 1)) := by
  refine mp_a (a_iload_n dL_law_18 rfl) (mpp 19 rfl ?_)
  refine mp_a (a_aload_nT dL_law_19 rfl) (mpp 20 rfl ?_)
  refine mp_slen (n := 2) dL_law_20 rfl (mpp 21 rfl ?_)
  refine mp_a (a_iconst (v := 4) dL_law_21 rfl) (mpp 22 rfl ?_)
  refine mp_t (s_isub (v := (-2)) dL_law_22 (by decide)) (mpp 23 rfl ?_)
  refine mp_Tt (t := 998) (j_icmp_gt dL_law_23) (by decide) (by decide) ?_
  refine mp_a (a_iconst (v := 1) dL_law_998 rfl) (mpp 999 rfl ?_)
  exact mp_iretS rfl dL_law_999 (Or.inr ⟨rfl, Or.inr rfl⟩)

theorem law_short3 {x0 x1 x2 : Int32} {P : mP} {cz sz : Nat} : MEvP 20 (some [x0, x1, x2]) lawq 18 [(3, .int 0), (2, .ref 301), (1, .ref 0), (0, .long 0)] [] P cz sz (fun r _ => r = some (.int 1)) := by
  refine mp_a (a_iload_n dL_law_18 rfl) (mpp 19 rfl ?_)
  refine mp_a (a_aload_nT dL_law_19 rfl) (mpp 20 rfl ?_)
  refine mp_slen (n := 3) dL_law_20 rfl (mpp 21 rfl ?_)
  refine mp_a (a_iconst (v := 4) dL_law_21 rfl) (mpp 22 rfl ?_)
  refine mp_t (s_isub (v := (-1)) dL_law_22 (by decide)) (mpp 23 rfl ?_)
  refine mp_Tt (t := 998) (j_icmp_gt dL_law_23) (by decide) (by decide) ?_
  refine mp_a (a_iconst (v := 1) dL_law_998 rfl) (mpp 999 rfl ?_)
  exact mp_iretS rfl dL_law_999 (Or.inr ⟨rfl, Or.inr rfl⟩)

theorem law_done {x0 x1 x2 x3 : Int32} {P : mP} {cz sz : Nat} : MEvP 20 (some [x0, x1, x2, x3]) lawq 18 [(3, .int 4), (2, .ref 301), (1, .ref 0), (0, .long 0)] [] P cz sz (fun r _ => r = some (.int 1)) := by
  refine mp_a (a_iload_n dL_law_18 rfl) (mpp 19 rfl ?_)
  refine mp_a (a_aload_nT dL_law_19 rfl) (mpp 20 rfl ?_)
  refine mp_slen (n := 4) dL_law_20 rfl (mpp 21 rfl ?_)
  refine mp_a (a_iconst (v := 4) dL_law_21 rfl) (mpp 22 rfl ?_)
  refine mp_t (s_isub (v := 0) dL_law_22 (by decide)) (mpp 23 rfl ?_)
  refine mp_Tt (t := 998) (j_icmp_gt dL_law_23) (by decide) (by decide) ?_
  refine mp_a (a_iconst (v := 1) dL_law_998 rfl) (mpp 999 rfl ?_)
  exact mp_iretS rfl dL_law_999 (Or.inr ⟨rfl, Or.inr rfl⟩)

set_option maxRecDepth 100000 in
set_option maxHeartbeats 4000000 in
theorem law_case0 {x0 x1 x2 x3 : Int32} : MEvP 20 (some [x0, x1, x2, x3]) lawq 176 [(3, .int 0), (2, .ref 301), (1, .ref 0), (0, .long 0)] [] P0 315 4038 (fun r _ => r = some (.int 1)) := by
  by_cases h1 : x1 < 1
  · refine mp_a (a_aload_n dL_law_176 rfl) (mpp 177 rfl ?_)
    refine mp_a (a_aload_nT dL_law_177 rfl) (mpp 178 rfl ?_)
    refine mp_a (a_iload_n dL_law_178 rfl) (mpp 179 rfl ?_)
    refine mp_a (a_iconst (v := 1) dL_law_179 rfl) (mpp 180 rfl ?_)
    refine mp_t (s_iadd (v := 1) dL_law_180 (by decide)) (mpp 181 rfl ?_)
    refine mp_sld (v := x1) (N := 4) dL_law_181 rfl (by decide) rfl (mpp 182 rfl ?_)
    refine mp_callv (i := 13) (q' := q_7) (As := [.int x1]) (rest := []) dL_law_182 rfl qm_7 (by decide) rfl p0_0 (by decide) (Nat.le_of_ble_eq_true rfl) rfl ⟨rfl, rfl⟩ ⟨Nat.le_of_ble_eq_true rfl, Nat.le_of_ble_eq_true rfl⟩ (EvP.mono (by decide) (xo_stage_1 x1 h1)) (fun r1 P1 g1 => mpp 185 rfl ?_)
    obtain ⟨rfl, hM⟩ := g1
    show MEvP _ _ lawq 185 [(3, .int 0), (2, .ref 301), (1, .ref 0), (0, .long 0)] [.int (-1002)] _ _ _ _
    refine mp_a (a_aload_n dL_law_185 rfl) (mpp 186 rfl ?_)
    refine mp_a (a_aload_nT dL_law_186 rfl) (mpp 187 rfl ?_)
    refine mp_a (a_iload_n dL_law_187 rfl) (mpp 188 rfl ?_)
    refine mp_a (a_iconst (v := 1) dL_law_188 rfl) (mpp 189 rfl ?_)
    refine mp_t (s_iadd (v := 1) dL_law_189 (by decide)) (mpp 190 rfl ?_)
    refine mp_sld (v := x1) (N := 4) dL_law_190 rfl (by decide) rfl (mpp 191 rfl ?_)
    refine mp_callv (i := 17) (q' := q_182) (As := [.int x1]) (rest := [.int (-1002)]) dL_law_191 rfl qm_182 (by decide) rfl (hM.f (by decide) p0_301) (by decide) (Nat.le_of_ble_eq_true rfl) rfl ⟨rfl, rfl⟩ ⟨Nat.le_of_ble_eq_true rfl, Nat.le_of_ble_eq_true rfl⟩ (EvP.mono (by decide) (mo_stage_1 x1 hM h1)) (fun r1 P1 g1 => mpp 194 rfl ?_)
    obtain rfl := g1
    show MEvP _ _ lawq 194 [(3, .int 0), (2, .ref 301), (1, .ref 0), (0, .long 0)] [.int (-1002), .int (-1002)] _ _ _ _
    refine mp_Tt (t := 992) (j_icmp_eq dL_law_194) rfl (by decide) ?_
    refine mp_a (a_iinc (v := 4) (L' := [(3, .int 4), (2, .ref 301), (1, .ref 0), (0, .long 0)]) dL_law_992 (by decide) rfl rfl rfl) (mpp 995 rfl ?_)
    refine mp_a (a_goto (t := 18) dL_law_995 (by decide)) ?_
    exact law_done
  · by_cases h2 : 99 < x1
    · refine mp_a (a_aload_n dL_law_176 rfl) (mpp 177 rfl ?_)
      refine mp_a (a_aload_nT dL_law_177 rfl) (mpp 178 rfl ?_)
      refine mp_a (a_iload_n dL_law_178 rfl) (mpp 179 rfl ?_)
      refine mp_a (a_iconst (v := 1) dL_law_179 rfl) (mpp 180 rfl ?_)
      refine mp_t (s_iadd (v := 1) dL_law_180 (by decide)) (mpp 181 rfl ?_)
      refine mp_sld (v := x1) (N := 4) dL_law_181 rfl (by decide) rfl (mpp 182 rfl ?_)
      refine mp_callv (i := 13) (q' := q_7) (As := [.int x1]) (rest := []) dL_law_182 rfl qm_7 (by decide) rfl p0_0 (by decide) (Nat.le_of_ble_eq_true rfl) rfl ⟨rfl, rfl⟩ ⟨Nat.le_of_ble_eq_true rfl, Nat.le_of_ble_eq_true rfl⟩ (EvP.mono (by decide) (xo_stage_2 x1 h1 h2)) (fun r1 P1 g1 => mpp 185 rfl ?_)
      obtain ⟨rfl, hM⟩ := g1
      show MEvP _ _ lawq 185 [(3, .int 0), (2, .ref 301), (1, .ref 0), (0, .long 0)] [.int (-1002)] _ _ _ _
      refine mp_a (a_aload_n dL_law_185 rfl) (mpp 186 rfl ?_)
      refine mp_a (a_aload_nT dL_law_186 rfl) (mpp 187 rfl ?_)
      refine mp_a (a_iload_n dL_law_187 rfl) (mpp 188 rfl ?_)
      refine mp_a (a_iconst (v := 1) dL_law_188 rfl) (mpp 189 rfl ?_)
      refine mp_t (s_iadd (v := 1) dL_law_189 (by decide)) (mpp 190 rfl ?_)
      refine mp_sld (v := x1) (N := 4) dL_law_190 rfl (by decide) rfl (mpp 191 rfl ?_)
      refine mp_callv (i := 17) (q' := q_182) (As := [.int x1]) (rest := [.int (-1002)]) dL_law_191 rfl qm_182 (by decide) rfl (hM.f (by decide) p0_301) (by decide) (Nat.le_of_ble_eq_true rfl) rfl ⟨rfl, rfl⟩ ⟨Nat.le_of_ble_eq_true rfl, Nat.le_of_ble_eq_true rfl⟩ (EvP.mono (by decide) (mo_stage_2 x1 hM h1 h2)) (fun r1 P1 g1 => mpp 194 rfl ?_)
      obtain rfl := g1
      show MEvP _ _ lawq 194 [(3, .int 0), (2, .ref 301), (1, .ref 0), (0, .long 0)] [.int (-1002), .int (-1002)] _ _ _ _
      refine mp_Tt (t := 992) (j_icmp_eq dL_law_194) rfl (by decide) ?_
      refine mp_a (a_iinc (v := 4) (L' := [(3, .int 4), (2, .ref 301), (1, .ref 0), (0, .long 0)]) dL_law_992 (by decide) rfl rfl rfl) (mpp 995 rfl ?_)
      refine mp_a (a_goto (t := 18) dL_law_995 (by decide)) ?_
      exact law_done
    · have k0 : (0 : Int32).toInt = 0 := rfl
      have k1 : (1 : Int32).toInt = 1 := rfl
      have k99 : (99 : Int32).toInt = 99 := rfl
      have h4 : (0 : Int32) ≤ x1 := by
        simp only [Int32.lt_iff_toInt_lt, Int32.le_iff_toInt_le] at h1 h2 ⊢; omega
      have h3 : 0 - x1 ≤ 0 := i_sub0 h1 h2
      refine mp_a (a_aload_n dL_law_176 rfl) (mpp 177 rfl ?_)
      refine mp_a (a_aload_nT dL_law_177 rfl) (mpp 178 rfl ?_)
      refine mp_a (a_iload_n dL_law_178 rfl) (mpp 179 rfl ?_)
      refine mp_a (a_iconst (v := 1) dL_law_179 rfl) (mpp 180 rfl ?_)
      refine mp_t (s_iadd (v := 1) dL_law_180 (by decide)) (mpp 181 rfl ?_)
      refine mp_sld (v := x1) (N := 4) dL_law_181 rfl (by decide) rfl (mpp 182 rfl ?_)
      refine mp_callv (i := 13) (q' := q_7) (As := [.int x1]) (rest := []) dL_law_182 rfl qm_7 (by decide) rfl p0_0 (by decide) (Nat.le_of_ble_eq_true rfl) rfl ⟨rfl, rfl⟩ ⟨Nat.le_of_ble_eq_true rfl, Nat.le_of_ble_eq_true rfl⟩ (EvP.mono (by decide) (xo_stage_3 x1 h1 h2 h3)) (fun r1 P1 g1 => mpp 185 rfl ?_)
      obtain ⟨rfl, hM⟩ := g1
      show MEvP _ _ lawq 185 [(3, .int 0), (2, .ref 301), (1, .ref 0), (0, .long 0)] [.int 30] _ _ _ _
      refine mp_a (a_aload_n dL_law_185 rfl) (mpp 186 rfl ?_)
      refine mp_a (a_aload_nT dL_law_186 rfl) (mpp 187 rfl ?_)
      refine mp_a (a_iload_n dL_law_187 rfl) (mpp 188 rfl ?_)
      refine mp_a (a_iconst (v := 1) dL_law_188 rfl) (mpp 189 rfl ?_)
      refine mp_t (s_iadd (v := 1) dL_law_189 (by decide)) (mpp 190 rfl ?_)
      refine mp_sld (v := x1) (N := 4) dL_law_190 rfl (by decide) rfl (mpp 191 rfl ?_)
      refine mp_callv (i := 17) (q' := q_182) (As := [.int x1]) (rest := [.int 30]) dL_law_191 rfl qm_182 (by decide) rfl (hM.f (by decide) p0_301) (by decide) (Nat.le_of_ble_eq_true rfl) rfl ⟨rfl, rfl⟩ ⟨Nat.le_of_ble_eq_true rfl, Nat.le_of_ble_eq_true rfl⟩ (EvP.mono (by decide) (mo_stage_3 x1 hM h1 h2 h4)) (fun r1 P1 g1 => mpp 194 rfl ?_)
      obtain rfl := g1
      show MEvP _ _ lawq 194 [(3, .int 0), (2, .ref 301), (1, .ref 0), (0, .long 0)] [.int 30, .int 30] _ _ _ _
      refine mp_Tt (t := 992) (j_icmp_eq dL_law_194) rfl (by decide) ?_
      refine mp_a (a_iinc (v := 4) (L' := [(3, .int 4), (2, .ref 301), (1, .ref 0), (0, .long 0)]) dL_law_992 (by decide) rfl rfl rfl) (mpp 995 rfl ?_)
      refine mp_a (a_goto (t := 18) dL_law_995 (by decide)) ?_
      exact law_done



set_option maxRecDepth 100000 in
set_option maxHeartbeats 4000000 in
theorem law_case1 {x0 x1 x2 x3 : Int32} : MEvP 20 (some [x0, x1, x2, x3]) lawq 199 [(3, .int 0), (2, .ref 301), (1, .ref 0), (0, .long 0)] [] P0 315 4038 (fun r _ => r = some (.int 1)) := by
  obtain ⟨v, hx, hm⟩ := pair_add x1 x2 x3
  refine mp_a (a_aload_n dL_law_199 rfl) (mpp 200 rfl ?_)
  refine mp_a (a_aload_nT dL_law_200 rfl) (mpp 201 rfl ?_)
  refine mp_a (a_iload_n dL_law_201 rfl) (mpp 202 rfl ?_)
  refine mp_a (a_iconst (v := 1) dL_law_202 rfl) (mpp 203 rfl ?_)
  refine mp_t (s_iadd (v := 1) dL_law_203 (by decide)) (mpp 204 rfl ?_)
  refine mp_sld (v := x1) (N := 4) dL_law_204 rfl (by decide) rfl (mpp 205 rfl ?_)
  refine mp_a (a_aload_nT dL_law_205 rfl) (mpp 206 rfl ?_)
  refine mp_a (a_iload_n dL_law_206 rfl) (mpp 207 rfl ?_)
  refine mp_a (a_iconst (v := 2) dL_law_207 rfl) (mpp 208 rfl ?_)
  refine mp_t (s_iadd (v := 2) dL_law_208 (by decide)) (mpp 209 rfl ?_)
  refine mp_sld (v := x2) (N := 4) dL_law_209 rfl (by decide) rfl (mpp 210 rfl ?_)
  refine mp_a (a_aload_nT dL_law_210 rfl) (mpp 211 rfl ?_)
  refine mp_a (a_iload_n dL_law_211 rfl) (mpp 212 rfl ?_)
  refine mp_a (a_iconst (v := 3) dL_law_212 rfl) (mpp 213 rfl ?_)
  refine mp_t (s_iadd (v := 3) dL_law_213 (by decide)) (mpp 214 rfl ?_)
  refine mp_sld (v := x3) (N := 4) dL_law_214 rfl (by decide) rfl (mpp 215 rfl ?_)
  refine mp_callv (i := 18) (q' := q_20) (As := [.int x1, .int x2, .int x3]) (rest := []) dL_law_215 rfl qm_20 (by decide) rfl p0_0 (by decide) (Nat.le_of_ble_eq_true rfl) rfl ⟨rfl, rfl⟩ ⟨Nat.le_of_ble_eq_true rfl, Nat.le_of_ble_eq_true rfl⟩ (EvP.mono (by decide) hx) (fun r1 P1 g1 => mpp 218 rfl ?_)
  obtain ⟨rfl, hM⟩ := g1
  show MEvP _ _ lawq 218 [(3, .int 0), (2, .ref 301), (1, .ref 0), (0, .long 0)] [.int v] _ _ _ _
  refine mp_a (a_aload_n dL_law_218 rfl) (mpp 219 rfl ?_)
  refine mp_a (a_aload_nT dL_law_219 rfl) (mpp 220 rfl ?_)
  refine mp_a (a_iload_n dL_law_220 rfl) (mpp 221 rfl ?_)
  refine mp_a (a_iconst (v := 1) dL_law_221 rfl) (mpp 222 rfl ?_)
  refine mp_t (s_iadd (v := 1) dL_law_222 (by decide)) (mpp 223 rfl ?_)
  refine mp_sld (v := x1) (N := 4) dL_law_223 rfl (by decide) rfl (mpp 224 rfl ?_)
  refine mp_a (a_aload_nT dL_law_224 rfl) (mpp 225 rfl ?_)
  refine mp_a (a_iload_n dL_law_225 rfl) (mpp 226 rfl ?_)
  refine mp_a (a_iconst (v := 2) dL_law_226 rfl) (mpp 227 rfl ?_)
  refine mp_t (s_iadd (v := 2) dL_law_227 (by decide)) (mpp 228 rfl ?_)
  refine mp_sld (v := x2) (N := 4) dL_law_228 rfl (by decide) rfl (mpp 229 rfl ?_)
  refine mp_a (a_aload_nT dL_law_229 rfl) (mpp 230 rfl ?_)
  refine mp_a (a_iload_n dL_law_230 rfl) (mpp 231 rfl ?_)
  refine mp_a (a_iconst (v := 3) dL_law_231 rfl) (mpp 232 rfl ?_)
  refine mp_t (s_iadd (v := 3) dL_law_232 (by decide)) (mpp 233 rfl ?_)
  refine mp_sld (v := x3) (N := 4) dL_law_233 rfl (by decide) rfl (mpp 234 rfl ?_)
  refine mp_callv (i := 22) (q' := q_123) (As := [.int x1, .int x2, .int x3]) (rest := [.int v]) dL_law_234 rfl qm_123 (by decide) rfl (hM.f (by decide) p0_301) (by decide) (Nat.le_of_ble_eq_true rfl) rfl ⟨rfl, rfl⟩ ⟨Nat.le_of_ble_eq_true rfl, Nat.le_of_ble_eq_true rfl⟩ (EvP.mono (by decide) (hm _ hM)) (fun r1 P1 g1 => mpp 237 rfl ?_)
  obtain rfl := g1
  show MEvP _ _ lawq 237 [(3, .int 0), (2, .ref 301), (1, .ref 0), (0, .long 0)] [.int v, .int v] _ _ _ _
  refine mp_Tt (t := 992) (j_icmp_eq dL_law_237) rfl (by decide) ?_
  refine mp_a (a_iinc (v := 4) (L' := [(3, .int 4), (2, .ref 301), (1, .ref 0), (0, .long 0)]) dL_law_992 (by decide) rfl rfl rfl) (mpp 995 rfl ?_)
  refine mp_a (a_goto (t := 18) dL_law_995 (by decide)) ?_
  exact law_done

set_option maxRecDepth 100000 in
set_option maxHeartbeats 4000000 in
theorem law_case2 {x0 x1 x2 x3 : Int32} : MEvP 20 (some [x0, x1, x2, x3]) lawq 242 [(3, .int 0), (2, .ref 301), (1, .ref 0), (0, .long 0)] [] P0 315 4038 (fun r _ => r = some (.int 1)) := by
  refine mp_a (a_aload_n dL_law_242 rfl) (mpp 243 rfl ?_)
  refine mp_a (a_aload_nT dL_law_243 rfl) (mpp 244 rfl ?_)
  refine mp_a (a_iload_n dL_law_244 rfl) (mpp 245 rfl ?_)
  refine mp_a (a_iconst (v := 1) dL_law_245 rfl) (mpp 246 rfl ?_)
  refine mp_t (s_iadd (v := 1) dL_law_246 (by decide)) (mpp 247 rfl ?_)
  refine mp_sld (v := x1) (N := 4) dL_law_247 rfl (by decide) rfl (mpp 248 rfl ?_)
  refine mp_a (a_aload_nT dL_law_248 rfl) (mpp 249 rfl ?_)
  refine mp_a (a_iload_n dL_law_249 rfl) (mpp 250 rfl ?_)
  refine mp_a (a_iconst (v := 2) dL_law_250 rfl) (mpp 251 rfl ?_)
  refine mp_t (s_iadd (v := 2) dL_law_251 (by decide)) (mpp 252 rfl ?_)
  refine mp_sld (v := x2) (N := 4) dL_law_252 rfl (by decide) rfl (mpp 253 rfl ?_)
  refine mp_a (a_aload_nT dL_law_253 rfl) (mpp 254 rfl ?_)
  refine mp_a (a_iload_n dL_law_254 rfl) (mpp 255 rfl ?_)
  refine mp_a (a_iconst (v := 3) dL_law_255 rfl) (mpp 256 rfl ?_)
  refine mp_t (s_iadd (v := 3) dL_law_256 (by decide)) (mpp 257 rfl ?_)
  refine mp_sld (v := x3) (N := 4) dL_law_257 rfl (by decide) rfl (mpp 258 rfl ?_)
  refine mp_callv (i := 23) (q' := q_28) (As := [.int x1, .int x2, .int x3]) (rest := []) dL_law_258 rfl qm_28 (by decide) rfl p0_0 (by decide) (Nat.le_of_ble_eq_true rfl) rfl ⟨rfl, rfl⟩ ⟨Nat.le_of_ble_eq_true rfl, Nat.le_of_ble_eq_true rfl⟩ (EvP.mono (by decide) (xo_mark x1 x2 x3)) (fun r1 P1 g1 => mpp 261 rfl ?_)
  obtain ⟨rfl, hM⟩ := g1
  show MEvP _ _ lawq 261 [(3, .int 0), (2, .ref 301), (1, .ref 0), (0, .long 0)] [.int (-1001)] _ _ _ _
  refine mp_a (a_aload_n dL_law_261 rfl) (mpp 262 rfl ?_)
  refine mp_a (a_aload_nT dL_law_262 rfl) (mpp 263 rfl ?_)
  refine mp_a (a_iload_n dL_law_263 rfl) (mpp 264 rfl ?_)
  refine mp_a (a_iconst (v := 1) dL_law_264 rfl) (mpp 265 rfl ?_)
  refine mp_t (s_iadd (v := 1) dL_law_265 (by decide)) (mpp 266 rfl ?_)
  refine mp_sld (v := x1) (N := 4) dL_law_266 rfl (by decide) rfl (mpp 267 rfl ?_)
  refine mp_a (a_aload_nT dL_law_267 rfl) (mpp 268 rfl ?_)
  refine mp_a (a_iload_n dL_law_268 rfl) (mpp 269 rfl ?_)
  refine mp_a (a_iconst (v := 2) dL_law_269 rfl) (mpp 270 rfl ?_)
  refine mp_t (s_iadd (v := 2) dL_law_270 (by decide)) (mpp 271 rfl ?_)
  refine mp_sld (v := x2) (N := 4) dL_law_271 rfl (by decide) rfl (mpp 272 rfl ?_)
  refine mp_a (a_aload_nT dL_law_272 rfl) (mpp 273 rfl ?_)
  refine mp_a (a_iload_n dL_law_273 rfl) (mpp 274 rfl ?_)
  refine mp_a (a_iconst (v := 3) dL_law_274 rfl) (mpp 275 rfl ?_)
  refine mp_t (s_iadd (v := 3) dL_law_275 (by decide)) (mpp 276 rfl ?_)
  refine mp_sld (v := x3) (N := 4) dL_law_276 rfl (by decide) rfl (mpp 277 rfl ?_)
  refine mp_callv (i := 26) (q' := q_141) (As := [.int x1, .int x2, .int x3]) (rest := [.int (-1001)]) dL_law_277 rfl qm_141 (by decide) rfl (hM.f (by decide) p0_301) (by decide) (Nat.le_of_ble_eq_true rfl) rfl ⟨rfl, rfl⟩ ⟨Nat.le_of_ble_eq_true rfl, Nat.le_of_ble_eq_true rfl⟩ (EvP.mono (by decide) (mo_mark x1 x2 x3 hM)) (fun r1 P1 g1 => mpp 280 rfl ?_)
  obtain rfl := g1
  show MEvP _ _ lawq 280 [(3, .int 0), (2, .ref 301), (1, .ref 0), (0, .long 0)] [.int (-1001), .int (-1001)] _ _ _ _
  refine mp_Tt (t := 992) (j_icmp_eq dL_law_280) rfl (by decide) ?_
  refine mp_a (a_iinc (v := 4) (L' := [(3, .int 4), (2, .ref 301), (1, .ref 0), (0, .long 0)]) dL_law_992 (by decide) rfl rfl rfl) (mpp 995 rfl ?_)
  refine mp_a (a_goto (t := 18) dL_law_995 (by decide)) ?_
  exact law_done

set_option maxRecDepth 100000 in
set_option maxHeartbeats 4000000 in
theorem law_case3 {x0 x1 x2 x3 : Int32} : MEvP 20 (some [x0, x1, x2, x3]) lawq 285 [(3, .int 0), (2, .ref 301), (1, .ref 0), (0, .long 0)] [] P0 315 4038 (fun r _ => r = some (.int 1)) := by
  refine mp_a (a_aload_n dL_law_285 rfl) (mpp 286 rfl ?_)
  refine mp_a (a_aload_nT dL_law_286 rfl) (mpp 287 rfl ?_)
  refine mp_a (a_iload_n dL_law_287 rfl) (mpp 288 rfl ?_)
  refine mp_a (a_iconst (v := 1) dL_law_288 rfl) (mpp 289 rfl ?_)
  refine mp_t (s_iadd (v := 1) dL_law_289 (by decide)) (mpp 290 rfl ?_)
  refine mp_sld (v := x1) (N := 4) dL_law_290 rfl (by decide) rfl (mpp 291 rfl ?_)
  refine mp_callv (i := 27) (q' := q_30) (As := [.int x1]) (rest := []) dL_law_291 rfl qm_30 (by decide) rfl p0_0 (by decide) (Nat.le_of_ble_eq_true rfl) rfl ⟨rfl, rfl⟩ ⟨Nat.le_of_ble_eq_true rfl, Nat.le_of_ble_eq_true rfl⟩ (EvP.mono (by decide) (xo_turn x1)) (fun r1 P1 g1 => mpp 294 rfl ?_)
  obtain ⟨rfl, hM⟩ := g1
  show MEvP _ _ lawq 294 [(3, .int 0), (2, .ref 301), (1, .ref 0), (0, .long 0)] [.int (-1001)] _ _ _ _
  refine mp_a (a_aload_n dL_law_294 rfl) (mpp 295 rfl ?_)
  refine mp_a (a_aload_nT dL_law_295 rfl) (mpp 296 rfl ?_)
  refine mp_a (a_iload_n dL_law_296 rfl) (mpp 297 rfl ?_)
  refine mp_a (a_iconst (v := 1) dL_law_297 rfl) (mpp 298 rfl ?_)
  refine mp_t (s_iadd (v := 1) dL_law_298 (by decide)) (mpp 299 rfl ?_)
  refine mp_sld (v := x1) (N := 4) dL_law_299 rfl (by decide) rfl (mpp 300 rfl ?_)
  refine mp_callv (i := 30) (q' := q_147) (As := [.int x1]) (rest := [.int (-1001)]) dL_law_300 rfl qm_147 (by decide) rfl (hM.f (by decide) p0_301) (by decide) (Nat.le_of_ble_eq_true rfl) rfl ⟨rfl, rfl⟩ ⟨Nat.le_of_ble_eq_true rfl, Nat.le_of_ble_eq_true rfl⟩ (EvP.mono (by decide) (mo_turn x1 hM)) (fun r1 P1 g1 => mpp 303 rfl ?_)
  obtain rfl := g1
  show MEvP _ _ lawq 303 [(3, .int 0), (2, .ref 301), (1, .ref 0), (0, .long 0)] [.int (-1001), .int (-1001)] _ _ _ _
  refine mp_Tt (t := 992) (j_icmp_eq dL_law_303) rfl (by decide) ?_
  refine mp_a (a_iinc (v := 4) (L' := [(3, .int 4), (2, .ref 301), (1, .ref 0), (0, .long 0)]) dL_law_992 (by decide) rfl rfl rfl) (mpp 995 rfl ?_)
  refine mp_a (a_goto (t := 18) dL_law_995 (by decide)) ?_
  exact law_done

set_option maxRecDepth 100000 in
set_option maxHeartbeats 4000000 in
theorem law_case4 {x0 x1 x2 x3 : Int32} : MEvP 20 (some [x0, x1, x2, x3]) lawq 308 [(3, .int 0), (2, .ref 301), (1, .ref 0), (0, .long 0)] [] P0 315 4038 (fun r _ => r = some (.int 1)) := by
  refine mp_a (a_aload_n dL_law_308 rfl) (mpp 309 rfl ?_)
  refine mp_a (a_aload_nT dL_law_309 rfl) (mpp 310 rfl ?_)
  refine mp_a (a_iload_n dL_law_310 rfl) (mpp 311 rfl ?_)
  refine mp_a (a_iconst (v := 1) dL_law_311 rfl) (mpp 312 rfl ?_)
  refine mp_t (s_iadd (v := 1) dL_law_312 (by decide)) (mpp 313 rfl ?_)
  refine mp_sld (v := x1) (N := 4) dL_law_313 rfl (by decide) rfl (mpp 314 rfl ?_)
  refine mp_a (a_aload_nT dL_law_314 rfl) (mpp 315 rfl ?_)
  refine mp_a (a_iload_n dL_law_315 rfl) (mpp 316 rfl ?_)
  refine mp_a (a_iconst (v := 2) dL_law_316 rfl) (mpp 317 rfl ?_)
  refine mp_t (s_iadd (v := 2) dL_law_317 (by decide)) (mpp 318 rfl ?_)
  refine mp_sld (v := x2) (N := 4) dL_law_318 rfl (by decide) rfl (mpp 319 rfl ?_)
  refine mp_callv (i := 31) (q' := q_33) (As := [.int x1, .int x2]) (rest := []) dL_law_319 rfl qm_33 (by decide) rfl p0_0 (by decide) (Nat.le_of_ble_eq_true rfl) rfl ⟨rfl, rfl⟩ ⟨Nat.le_of_ble_eq_true rfl, Nat.le_of_ble_eq_true rfl⟩ (EvP.mono (by decide) (xo_rotate x1 x2)) (fun r1 P1 g1 => mpp 322 rfl ?_)
  obtain ⟨rfl, hM⟩ := g1
  show MEvP _ _ lawq 322 [(3, .int 0), (2, .ref 301), (1, .ref 0), (0, .long 0)] [.int (-1001)] _ _ _ _
  refine mp_a (a_aload_n dL_law_322 rfl) (mpp 323 rfl ?_)
  refine mp_a (a_aload_nT dL_law_323 rfl) (mpp 324 rfl ?_)
  refine mp_a (a_iload_n dL_law_324 rfl) (mpp 325 rfl ?_)
  refine mp_a (a_iconst (v := 1) dL_law_325 rfl) (mpp 326 rfl ?_)
  refine mp_t (s_iadd (v := 1) dL_law_326 (by decide)) (mpp 327 rfl ?_)
  refine mp_sld (v := x1) (N := 4) dL_law_327 rfl (by decide) rfl (mpp 328 rfl ?_)
  refine mp_a (a_aload_nT dL_law_328 rfl) (mpp 329 rfl ?_)
  refine mp_a (a_iload_n dL_law_329 rfl) (mpp 330 rfl ?_)
  refine mp_a (a_iconst (v := 2) dL_law_330 rfl) (mpp 331 rfl ?_)
  refine mp_t (s_iadd (v := 2) dL_law_331 (by decide)) (mpp 332 rfl ?_)
  refine mp_sld (v := x2) (N := 4) dL_law_332 rfl (by decide) rfl (mpp 333 rfl ?_)
  refine mp_callv (i := 35) (q' := q_150) (As := [.int x1, .int x2]) (rest := [.int (-1001)]) dL_law_333 rfl qm_150 (by decide) rfl (hM.f (by decide) p0_301) (by decide) (Nat.le_of_ble_eq_true rfl) rfl ⟨rfl, rfl⟩ ⟨Nat.le_of_ble_eq_true rfl, Nat.le_of_ble_eq_true rfl⟩ (EvP.mono (by decide) (mo_rotate x1 x2 hM)) (fun r1 P1 g1 => mpp 336 rfl ?_)
  obtain rfl := g1
  show MEvP _ _ lawq 336 [(3, .int 0), (2, .ref 301), (1, .ref 0), (0, .long 0)] [.int (-1001), .int (-1001)] _ _ _ _
  refine mp_Tt (t := 992) (j_icmp_eq dL_law_336) rfl (by decide) ?_
  refine mp_a (a_iinc (v := 4) (L' := [(3, .int 4), (2, .ref 301), (1, .ref 0), (0, .long 0)]) dL_law_992 (by decide) rfl rfl rfl) (mpp 995 rfl ?_)
  refine mp_a (a_goto (t := 18) dL_law_995 (by decide)) ?_
  exact law_done

set_option maxRecDepth 100000 in
set_option maxHeartbeats 4000000 in
theorem law_case5 {x0 x1 x2 x3 : Int32} : MEvP 20 (some [x0, x1, x2, x3]) lawq 341 [(3, .int 0), (2, .ref 301), (1, .ref 0), (0, .long 0)] [] P0 315 4038 (fun r _ => r = some (.int 1)) := by
  refine mp_a (a_aload_n dL_law_341 rfl) (mpp 342 rfl ?_)
  refine mp_a (a_aload_nT dL_law_342 rfl) (mpp 343 rfl ?_)
  refine mp_a (a_iload_n dL_law_343 rfl) (mpp 344 rfl ?_)
  refine mp_a (a_iconst (v := 1) dL_law_344 rfl) (mpp 345 rfl ?_)
  refine mp_t (s_iadd (v := 1) dL_law_345 (by decide)) (mpp 346 rfl ?_)
  refine mp_sld (v := x1) (N := 4) dL_law_346 rfl (by decide) rfl (mpp 347 rfl ?_)
  refine mp_a (a_aload_nT dL_law_347 rfl) (mpp 348 rfl ?_)
  refine mp_a (a_iload_n dL_law_348 rfl) (mpp 349 rfl ?_)
  refine mp_a (a_iconst (v := 2) dL_law_349 rfl) (mpp 350 rfl ?_)
  refine mp_t (s_iadd (v := 2) dL_law_350 (by decide)) (mpp 351 rfl ?_)
  refine mp_sld (v := x2) (N := 4) dL_law_351 rfl (by decide) rfl (mpp 352 rfl ?_)
  refine mp_a (a_aload_nT dL_law_352 rfl) (mpp 353 rfl ?_)
  refine mp_a (a_iload_n dL_law_353 rfl) (mpp 354 rfl ?_)
  refine mp_a (a_iconst (v := 3) dL_law_354 rfl) (mpp 355 rfl ?_)
  refine mp_t (s_iadd (v := 3) dL_law_355 (by decide)) (mpp 356 rfl ?_)
  refine mp_sld (v := x3) (N := 4) dL_law_356 rfl (by decide) rfl (mpp 357 rfl ?_)
  refine mp_callv (i := 36) (q' := q_36) (As := [.int x1, .int x2, .int x3]) (rest := []) dL_law_357 rfl qm_36 (by decide) rfl p0_0 (by decide) (Nat.le_of_ble_eq_true rfl) rfl ⟨rfl, rfl⟩ ⟨Nat.le_of_ble_eq_true rfl, Nat.le_of_ble_eq_true rfl⟩ (EvP.mono (by decide) (xo_join x1 x2 x3)) (fun r1 P1 g1 => mpp 360 rfl ?_)
  obtain ⟨rfl, hM⟩ := g1
  show MEvP _ _ lawq 360 [(3, .int 0), (2, .ref 301), (1, .ref 0), (0, .long 0)] [.int (-1001)] _ _ _ _
  refine mp_a (a_aload_n dL_law_360 rfl) (mpp 361 rfl ?_)
  refine mp_a (a_aload_nT dL_law_361 rfl) (mpp 362 rfl ?_)
  refine mp_a (a_iload_n dL_law_362 rfl) (mpp 363 rfl ?_)
  refine mp_a (a_iconst (v := 1) dL_law_363 rfl) (mpp 364 rfl ?_)
  refine mp_t (s_iadd (v := 1) dL_law_364 (by decide)) (mpp 365 rfl ?_)
  refine mp_sld (v := x1) (N := 4) dL_law_365 rfl (by decide) rfl (mpp 366 rfl ?_)
  refine mp_a (a_aload_nT dL_law_366 rfl) (mpp 367 rfl ?_)
  refine mp_a (a_iload_n dL_law_367 rfl) (mpp 368 rfl ?_)
  refine mp_a (a_iconst (v := 2) dL_law_368 rfl) (mpp 369 rfl ?_)
  refine mp_t (s_iadd (v := 2) dL_law_369 (by decide)) (mpp 370 rfl ?_)
  refine mp_sld (v := x2) (N := 4) dL_law_370 rfl (by decide) rfl (mpp 371 rfl ?_)
  refine mp_a (a_aload_nT dL_law_371 rfl) (mpp 372 rfl ?_)
  refine mp_a (a_iload_n dL_law_372 rfl) (mpp 373 rfl ?_)
  refine mp_a (a_iconst (v := 3) dL_law_373 rfl) (mpp 374 rfl ?_)
  refine mp_t (s_iadd (v := 3) dL_law_374 (by decide)) (mpp 375 rfl ?_)
  refine mp_sld (v := x3) (N := 4) dL_law_375 rfl (by decide) rfl (mpp 376 rfl ?_)
  refine mp_callv (i := 39) (q' := q_153) (As := [.int x1, .int x2, .int x3]) (rest := [.int (-1001)]) dL_law_376 rfl qm_153 (by decide) rfl (hM.f (by decide) p0_301) (by decide) (Nat.le_of_ble_eq_true rfl) rfl ⟨rfl, rfl⟩ ⟨Nat.le_of_ble_eq_true rfl, Nat.le_of_ble_eq_true rfl⟩ (EvP.mono (by decide) (mo_join x1 x2 x3 hM)) (fun r1 P1 g1 => mpp 379 rfl ?_)
  obtain rfl := g1
  show MEvP _ _ lawq 379 [(3, .int 0), (2, .ref 301), (1, .ref 0), (0, .long 0)] [.int (-1001), .int (-1001)] _ _ _ _
  refine mp_Tt (t := 992) (j_icmp_eq dL_law_379) rfl (by decide) ?_
  refine mp_a (a_iinc (v := 4) (L' := [(3, .int 4), (2, .ref 301), (1, .ref 0), (0, .long 0)]) dL_law_992 (by decide) rfl rfl rfl) (mpp 995 rfl ?_)
  refine mp_a (a_goto (t := 18) dL_law_995 (by decide)) ?_
  exact law_done

set_option maxRecDepth 100000 in
set_option maxHeartbeats 4000000 in
theorem law_case6 {x0 x1 x2 x3 : Int32} : MEvP 20 (some [x0, x1, x2, x3]) lawq 384 [(3, .int 0), (2, .ref 301), (1, .ref 0), (0, .long 0)] [] P0 315 4038 (fun r _ => r = some (.int 1)) := by
  refine mp_a (a_aload_n dL_law_384 rfl) (mpp 385 rfl ?_)
  refine mp_a (a_aload_nT dL_law_385 rfl) (mpp 386 rfl ?_)
  refine mp_a (a_iload_n dL_law_386 rfl) (mpp 387 rfl ?_)
  refine mp_a (a_iconst (v := 1) dL_law_387 rfl) (mpp 388 rfl ?_)
  refine mp_t (s_iadd (v := 1) dL_law_388 (by decide)) (mpp 389 rfl ?_)
  refine mp_sld (v := x1) (N := 4) dL_law_389 rfl (by decide) rfl (mpp 390 rfl ?_)
  refine mp_a (a_aload_nT dL_law_390 rfl) (mpp 391 rfl ?_)
  refine mp_a (a_iload_n dL_law_391 rfl) (mpp 392 rfl ?_)
  refine mp_a (a_iconst (v := 2) dL_law_392 rfl) (mpp 393 rfl ?_)
  refine mp_t (s_iadd (v := 2) dL_law_393 (by decide)) (mpp 394 rfl ?_)
  refine mp_sld (v := x2) (N := 4) dL_law_394 rfl (by decide) rfl (mpp 395 rfl ?_)
  refine mp_callv (i := 40) (q' := q_39) (As := [.int x1, .int x2]) (rest := []) dL_law_395 rfl qm_39 (by decide) rfl p0_0 (by decide) (Nat.le_of_ble_eq_true rfl) rfl ⟨rfl, rfl⟩ ⟨Nat.le_of_ble_eq_true rfl, Nat.le_of_ble_eq_true rfl⟩ (EvP.mono (by decide) (xo_cut x1 x2)) (fun r1 P1 g1 => mpp 398 rfl ?_)
  obtain ⟨rfl, hM⟩ := g1
  show MEvP _ _ lawq 398 [(3, .int 0), (2, .ref 301), (1, .ref 0), (0, .long 0)] [.int (-1001)] _ _ _ _
  refine mp_a (a_aload_n dL_law_398 rfl) (mpp 399 rfl ?_)
  refine mp_a (a_aload_nT dL_law_399 rfl) (mpp 400 rfl ?_)
  refine mp_a (a_iload_n dL_law_400 rfl) (mpp 401 rfl ?_)
  refine mp_a (a_iconst (v := 1) dL_law_401 rfl) (mpp 402 rfl ?_)
  refine mp_t (s_iadd (v := 1) dL_law_402 (by decide)) (mpp 403 rfl ?_)
  refine mp_sld (v := x1) (N := 4) dL_law_403 rfl (by decide) rfl (mpp 404 rfl ?_)
  refine mp_a (a_aload_nT dL_law_404 rfl) (mpp 405 rfl ?_)
  refine mp_a (a_iload_n dL_law_405 rfl) (mpp 406 rfl ?_)
  refine mp_a (a_iconst (v := 2) dL_law_406 rfl) (mpp 407 rfl ?_)
  refine mp_t (s_iadd (v := 2) dL_law_407 (by decide)) (mpp 408 rfl ?_)
  refine mp_sld (v := x2) (N := 4) dL_law_408 rfl (by decide) rfl (mpp 409 rfl ?_)
  refine mp_callv (i := 43) (q' := q_156) (As := [.int x1, .int x2]) (rest := [.int (-1001)]) dL_law_409 rfl qm_156 (by decide) rfl (hM.f (by decide) p0_301) (by decide) (Nat.le_of_ble_eq_true rfl) rfl ⟨rfl, rfl⟩ ⟨Nat.le_of_ble_eq_true rfl, Nat.le_of_ble_eq_true rfl⟩ (EvP.mono (by decide) (mo_cut x1 x2 hM)) (fun r1 P1 g1 => mpp 412 rfl ?_)
  obtain rfl := g1
  show MEvP _ _ lawq 412 [(3, .int 0), (2, .ref 301), (1, .ref 0), (0, .long 0)] [.int (-1001), .int (-1001)] _ _ _ _
  refine mp_Tt (t := 992) (j_icmp_eq dL_law_412) rfl (by decide) ?_
  refine mp_a (a_iinc (v := 4) (L' := [(3, .int 4), (2, .ref 301), (1, .ref 0), (0, .long 0)]) dL_law_992 (by decide) rfl rfl rfl) (mpp 995 rfl ?_)
  refine mp_a (a_goto (t := 18) dL_law_995 (by decide)) ?_
  exact law_done

set_option maxRecDepth 100000 in
set_option maxHeartbeats 4000000 in
theorem law_case7 {x0 x1 x2 x3 : Int32} : MEvP 20 (some [x0, x1, x2, x3]) lawq 417 [(3, .int 0), (2, .ref 301), (1, .ref 0), (0, .long 0)] [] P0 315 4038 (fun r _ => r = some (.int 1)) := by
  refine mp_a (a_aload_n dL_law_417 rfl) (mpp 418 rfl ?_)
  refine mp_a (a_aload_nT dL_law_418 rfl) (mpp 419 rfl ?_)
  refine mp_a (a_iload_n dL_law_419 rfl) (mpp 420 rfl ?_)
  refine mp_a (a_iconst (v := 1) dL_law_420 rfl) (mpp 421 rfl ?_)
  refine mp_t (s_iadd (v := 1) dL_law_421 (by decide)) (mpp 422 rfl ?_)
  refine mp_sld (v := x1) (N := 4) dL_law_422 rfl (by decide) rfl (mpp 423 rfl ?_)
  refine mp_callv (i := 44) (q' := q_41) (As := [.int x1]) (rest := []) dL_law_423 rfl qm_41 (by decide) rfl p0_0 (by decide) (Nat.le_of_ble_eq_true rfl) rfl ⟨rfl, rfl⟩ ⟨Nat.le_of_ble_eq_true rfl, Nat.le_of_ble_eq_true rfl⟩ (EvP.mono (by decide) (xo_fold x1)) (fun r1 P1 g1 => mpp 426 rfl ?_)
  obtain ⟨rfl, hM⟩ := g1
  show MEvP _ _ lawq 426 [(3, .int 0), (2, .ref 301), (1, .ref 0), (0, .long 0)] [.int (-1001)] _ _ _ _
  refine mp_a (a_aload_n dL_law_426 rfl) (mpp 427 rfl ?_)
  refine mp_a (a_aload_nT dL_law_427 rfl) (mpp 428 rfl ?_)
  refine mp_a (a_iload_n dL_law_428 rfl) (mpp 429 rfl ?_)
  refine mp_a (a_iconst (v := 1) dL_law_429 rfl) (mpp 430 rfl ?_)
  refine mp_t (s_iadd (v := 1) dL_law_430 (by decide)) (mpp 431 rfl ?_)
  refine mp_sld (v := x1) (N := 4) dL_law_431 rfl (by decide) rfl (mpp 432 rfl ?_)
  refine mp_callv (i := 47) (q' := q_187) (As := [.int x1]) (rest := [.int (-1001)]) dL_law_432 rfl qm_187 (by decide) rfl (hM.f (by decide) p0_301) (by decide) (Nat.le_of_ble_eq_true rfl) rfl ⟨rfl, rfl⟩ ⟨Nat.le_of_ble_eq_true rfl, Nat.le_of_ble_eq_true rfl⟩ (EvP.mono (by decide) (mo_fold x1 hM)) (fun r1 P1 g1 => mpp 435 rfl ?_)
  obtain rfl := g1
  show MEvP _ _ lawq 435 [(3, .int 0), (2, .ref 301), (1, .ref 0), (0, .long 0)] [.int (-1001), .int (-1001)] _ _ _ _
  refine mp_Tt (t := 992) (j_icmp_eq dL_law_435) rfl (by decide) ?_
  refine mp_a (a_iinc (v := 4) (L' := [(3, .int 4), (2, .ref 301), (1, .ref 0), (0, .long 0)]) dL_law_992 (by decide) rfl rfl rfl) (mpp 995 rfl ?_)
  refine mp_a (a_goto (t := 18) dL_law_995 (by decide)) ?_
  exact law_done

set_option maxRecDepth 100000 in
set_option maxHeartbeats 4000000 in
theorem law_case8 {x0 x1 x2 x3 : Int32} : MEvP 20 (some [x0, x1, x2, x3]) lawq 440 [(3, .int 0), (2, .ref 301), (1, .ref 0), (0, .long 0)] [] P0 315 4038 (fun r _ => r = some (.int 1)) := by
  refine mp_a (a_aload_n dL_law_440 rfl) (mpp 441 rfl ?_)
  refine mp_a (a_aload_nT dL_law_441 rfl) (mpp 442 rfl ?_)
  refine mp_a (a_iload_n dL_law_442 rfl) (mpp 443 rfl ?_)
  refine mp_a (a_iconst (v := 1) dL_law_443 rfl) (mpp 444 rfl ?_)
  refine mp_t (s_iadd (v := 1) dL_law_444 (by decide)) (mpp 445 rfl ?_)
  refine mp_sld (v := x1) (N := 4) dL_law_445 rfl (by decide) rfl (mpp 446 rfl ?_)
  refine mp_callv (i := 48) (q' := q_56) (As := [.int x1]) (rest := []) dL_law_446 rfl qm_56 (by decide) rfl p0_0 (by decide) (Nat.le_of_ble_eq_true rfl) rfl ⟨rfl, rfl⟩ ⟨Nat.le_of_ble_eq_true rfl, Nat.le_of_ble_eq_true rfl⟩ (EvP.mono (by decide) (xo_unfold x1)) (fun r1 P1 g1 => mpp 449 rfl ?_)
  obtain ⟨rfl, hM⟩ := g1
  show MEvP _ _ lawq 449 [(3, .int 0), (2, .ref 301), (1, .ref 0), (0, .long 0)] [.int (-1001)] _ _ _ _
  refine mp_a (a_aload_n dL_law_449 rfl) (mpp 450 rfl ?_)
  refine mp_a (a_aload_nT dL_law_450 rfl) (mpp 451 rfl ?_)
  refine mp_a (a_iload_n dL_law_451 rfl) (mpp 452 rfl ?_)
  refine mp_a (a_iconst (v := 1) dL_law_452 rfl) (mpp 453 rfl ?_)
  refine mp_t (s_iadd (v := 1) dL_law_453 (by decide)) (mpp 454 rfl ?_)
  refine mp_sld (v := x1) (N := 4) dL_law_454 rfl (by decide) rfl (mpp 455 rfl ?_)
  refine mp_callv (i := 51) (q' := q_190) (As := [.int x1]) (rest := [.int (-1001)]) dL_law_455 rfl qm_190 (by decide) rfl (hM.f (by decide) p0_301) (by decide) (Nat.le_of_ble_eq_true rfl) rfl ⟨rfl, rfl⟩ ⟨Nat.le_of_ble_eq_true rfl, Nat.le_of_ble_eq_true rfl⟩ (EvP.mono (by decide) (mo_unfold x1 hM)) (fun r1 P1 g1 => mpp 458 rfl ?_)
  obtain rfl := g1
  show MEvP _ _ lawq 458 [(3, .int 0), (2, .ref 301), (1, .ref 0), (0, .long 0)] [.int (-1001), .int (-1001)] _ _ _ _
  refine mp_Tt (t := 992) (j_icmp_eq dL_law_458) rfl (by decide) ?_
  refine mp_a (a_iinc (v := 4) (L' := [(3, .int 4), (2, .ref 301), (1, .ref 0), (0, .long 0)]) dL_law_992 (by decide) rfl rfl rfl) (mpp 995 rfl ?_)
  refine mp_a (a_goto (t := 18) dL_law_995 (by decide)) ?_
  exact law_done

set_option maxRecDepth 100000 in
set_option maxHeartbeats 4000000 in
theorem law_case9 {x0 x1 x2 x3 : Int32} : MEvP 20 (some [x0, x1, x2, x3]) lawq 463 [(3, .int 0), (2, .ref 301), (1, .ref 0), (0, .long 0)] [] P0 315 4038 (fun r _ => r = some (.int 1)) := by
  refine mp_a (a_aload_n dL_law_463 rfl) (mpp 464 rfl ?_)
  refine mp_a (a_aload_nT dL_law_464 rfl) (mpp 465 rfl ?_)
  refine mp_a (a_iload_n dL_law_465 rfl) (mpp 466 rfl ?_)
  refine mp_a (a_iconst (v := 1) dL_law_466 rfl) (mpp 467 rfl ?_)
  refine mp_t (s_iadd (v := 1) dL_law_467 (by decide)) (mpp 468 rfl ?_)
  refine mp_sld (v := x1) (N := 4) dL_law_468 rfl (by decide) rfl (mpp 469 rfl ?_)
  refine mp_callv (i := 52) (q' := q_57) (As := [.int x1]) (rest := []) dL_law_469 rfl qm_57 (by decide) rfl p0_0 (by decide) (Nat.le_of_ble_eq_true rfl) rfl ⟨rfl, rfl⟩ ⟨Nat.le_of_ble_eq_true rfl, Nat.le_of_ble_eq_true rfl⟩ (EvP.mono (by decide) (xo_drop x1)) (fun r1 P1 g1 => mpp 472 rfl ?_)
  obtain ⟨rfl, hM⟩ := g1
  show MEvP _ _ lawq 472 [(3, .int 0), (2, .ref 301), (1, .ref 0), (0, .long 0)] [.int (-1001)] _ _ _ _
  refine mp_a (a_aload_n dL_law_472 rfl) (mpp 473 rfl ?_)
  refine mp_a (a_aload_nT dL_law_473 rfl) (mpp 474 rfl ?_)
  refine mp_a (a_iload_n dL_law_474 rfl) (mpp 475 rfl ?_)
  refine mp_a (a_iconst (v := 1) dL_law_475 rfl) (mpp 476 rfl ?_)
  refine mp_t (s_iadd (v := 1) dL_law_476 (by decide)) (mpp 477 rfl ?_)
  refine mp_sld (v := x1) (N := 4) dL_law_477 rfl (by decide) rfl (mpp 478 rfl ?_)
  refine mp_callv (i := 55) (q' := q_192) (As := [.int x1]) (rest := [.int (-1001)]) dL_law_478 rfl qm_192 (by decide) rfl (hM.f (by decide) p0_301) (by decide) (Nat.le_of_ble_eq_true rfl) rfl ⟨rfl, rfl⟩ ⟨Nat.le_of_ble_eq_true rfl, Nat.le_of_ble_eq_true rfl⟩ (EvP.mono (by decide) (mo_drop x1 hM)) (fun r1 P1 g1 => mpp 481 rfl ?_)
  obtain rfl := g1
  show MEvP _ _ lawq 481 [(3, .int 0), (2, .ref 301), (1, .ref 0), (0, .long 0)] [.int (-1001), .int (-1001)] _ _ _ _
  refine mp_Tt (t := 992) (j_icmp_eq dL_law_481) rfl (by decide) ?_
  refine mp_a (a_iinc (v := 4) (L' := [(3, .int 4), (2, .ref 301), (1, .ref 0), (0, .long 0)]) dL_law_992 (by decide) rfl rfl rfl) (mpp 995 rfl ?_)
  refine mp_a (a_goto (t := 18) dL_law_995 (by decide)) ?_
  exact law_done

set_option maxRecDepth 100000 in
set_option maxHeartbeats 4000000 in
theorem law_case10 {x0 x1 x2 x3 : Int32} : MEvP 20 (some [x0, x1, x2, x3]) lawq 486 [(3, .int 0), (2, .ref 301), (1, .ref 0), (0, .long 0)] [] P0 315 4038 (fun r _ => r = some (.int 1)) := by
  refine mp_a (a_aload_n dL_law_486 rfl) (mpp 487 rfl ?_)
  refine mp_a (a_aload_nT dL_law_487 rfl) (mpp 488 rfl ?_)
  refine mp_a (a_iload_n dL_law_488 rfl) (mpp 489 rfl ?_)
  refine mp_a (a_iconst (v := 1) dL_law_489 rfl) (mpp 490 rfl ?_)
  refine mp_t (s_iadd (v := 1) dL_law_490 (by decide)) (mpp 491 rfl ?_)
  refine mp_sld (v := x1) (N := 4) dL_law_491 rfl (by decide) rfl (mpp 492 rfl ?_)
  refine mp_a (a_aload_nT dL_law_492 rfl) (mpp 493 rfl ?_)
  refine mp_a (a_iload_n dL_law_493 rfl) (mpp 494 rfl ?_)
  refine mp_a (a_iconst (v := 2) dL_law_494 rfl) (mpp 495 rfl ?_)
  refine mp_t (s_iadd (v := 2) dL_law_495 (by decide)) (mpp 496 rfl ?_)
  refine mp_sld (v := x2) (N := 4) dL_law_496 rfl (by decide) rfl (mpp 497 rfl ?_)
  refine mp_callv (i := 56) (q' := q_58) (As := [.int x1, .int x2]) (rest := []) dL_law_497 rfl qm_58 (by decide) rfl p0_0 (by decide) (Nat.le_of_ble_eq_true rfl) rfl ⟨rfl, rfl⟩ ⟨Nat.le_of_ble_eq_true rfl, Nat.le_of_ble_eq_true rfl⟩ (EvP.mono (by decide) (xo_piece x1 x2)) (fun r1 P1 g1 => mpp 500 rfl ?_)
  obtain ⟨rfl, hM⟩ := g1
  show MEvP _ _ lawq 500 [(3, .int 0), (2, .ref 301), (1, .ref 0), (0, .long 0)] [.int (-1001)] _ _ _ _
  refine mp_a (a_aload_n dL_law_500 rfl) (mpp 501 rfl ?_)
  refine mp_a (a_aload_nT dL_law_501 rfl) (mpp 502 rfl ?_)
  refine mp_a (a_iload_n dL_law_502 rfl) (mpp 503 rfl ?_)
  refine mp_a (a_iconst (v := 1) dL_law_503 rfl) (mpp 504 rfl ?_)
  refine mp_t (s_iadd (v := 1) dL_law_504 (by decide)) (mpp 505 rfl ?_)
  refine mp_sld (v := x1) (N := 4) dL_law_505 rfl (by decide) rfl (mpp 506 rfl ?_)
  refine mp_a (a_aload_nT dL_law_506 rfl) (mpp 507 rfl ?_)
  refine mp_a (a_iload_n dL_law_507 rfl) (mpp 508 rfl ?_)
  refine mp_a (a_iconst (v := 2) dL_law_508 rfl) (mpp 509 rfl ?_)
  refine mp_t (s_iadd (v := 2) dL_law_509 (by decide)) (mpp 510 rfl ?_)
  refine mp_sld (v := x2) (N := 4) dL_law_510 rfl (by decide) rfl (mpp 511 rfl ?_)
  refine mp_callv (i := 59) (q' := q_194) (As := [.int x1, .int x2]) (rest := [.int (-1001)]) dL_law_511 rfl qm_194 (by decide) rfl (hM.f (by decide) p0_301) (by decide) (Nat.le_of_ble_eq_true rfl) rfl ⟨rfl, rfl⟩ ⟨Nat.le_of_ble_eq_true rfl, Nat.le_of_ble_eq_true rfl⟩ (EvP.mono (by decide) (mo_piece x1 x2 hM)) (fun r1 P1 g1 => mpp 514 rfl ?_)
  obtain rfl := g1
  show MEvP _ _ lawq 514 [(3, .int 0), (2, .ref 301), (1, .ref 0), (0, .long 0)] [.int (-1001), .int (-1001)] _ _ _ _
  refine mp_Tt (t := 992) (j_icmp_eq dL_law_514) rfl (by decide) ?_
  refine mp_a (a_iinc (v := 4) (L' := [(3, .int 4), (2, .ref 301), (1, .ref 0), (0, .long 0)]) dL_law_992 (by decide) rfl rfl rfl) (mpp 995 rfl ?_)
  refine mp_a (a_goto (t := 18) dL_law_995 (by decide)) ?_
  exact law_done

set_option maxRecDepth 100000 in
set_option maxHeartbeats 4000000 in
theorem law_case11 {x0 x1 x2 x3 : Int32} : MEvP 20 (some [x0, x1, x2, x3]) lawq 519 [(3, .int 0), (2, .ref 301), (1, .ref 0), (0, .long 0)] [] P0 315 4038 (fun r _ => r = some (.int 1)) := by
  refine mp_a (a_aload_n dL_law_519 rfl) (mpp 520 rfl ?_)
  refine mp_a (a_aload_nT dL_law_520 rfl) (mpp 521 rfl ?_)
  refine mp_a (a_iload_n dL_law_521 rfl) (mpp 522 rfl ?_)
  refine mp_a (a_iconst (v := 1) dL_law_522 rfl) (mpp 523 rfl ?_)
  refine mp_t (s_iadd (v := 1) dL_law_523 (by decide)) (mpp 524 rfl ?_)
  refine mp_sld (v := x1) (N := 4) dL_law_524 rfl (by decide) rfl (mpp 525 rfl ?_)
  refine mp_a (a_aload_nT dL_law_525 rfl) (mpp 526 rfl ?_)
  refine mp_a (a_iload_n dL_law_526 rfl) (mpp 527 rfl ?_)
  refine mp_a (a_iconst (v := 2) dL_law_527 rfl) (mpp 528 rfl ?_)
  refine mp_t (s_iadd (v := 2) dL_law_528 (by decide)) (mpp 529 rfl ?_)
  refine mp_sld (v := x2) (N := 4) dL_law_529 rfl (by decide) rfl (mpp 530 rfl ?_)
  refine mp_callv (i := 60) (q' := q_59) (As := [.int x1, .int x2]) (rest := []) dL_law_530 rfl qm_59 (by decide) rfl p0_0 (by decide) (Nat.le_of_ble_eq_true rfl) rfl ⟨rfl, rfl⟩ ⟨Nat.le_of_ble_eq_true rfl, Nat.le_of_ble_eq_true rfl⟩ (EvP.mono (by decide) (xo_size x1 x2)) (fun r1 P1 g1 => mpp 533 rfl ?_)
  obtain ⟨rfl, hM⟩ := g1
  show MEvP _ _ lawq 533 [(3, .int 0), (2, .ref 301), (1, .ref 0), (0, .long 0)] [.int (-1001)] _ _ _ _
  refine mp_a (a_aload_n dL_law_533 rfl) (mpp 534 rfl ?_)
  refine mp_a (a_aload_nT dL_law_534 rfl) (mpp 535 rfl ?_)
  refine mp_a (a_iload_n dL_law_535 rfl) (mpp 536 rfl ?_)
  refine mp_a (a_iconst (v := 1) dL_law_536 rfl) (mpp 537 rfl ?_)
  refine mp_t (s_iadd (v := 1) dL_law_537 (by decide)) (mpp 538 rfl ?_)
  refine mp_sld (v := x1) (N := 4) dL_law_538 rfl (by decide) rfl (mpp 539 rfl ?_)
  refine mp_a (a_aload_nT dL_law_539 rfl) (mpp 540 rfl ?_)
  refine mp_a (a_iload_n dL_law_540 rfl) (mpp 541 rfl ?_)
  refine mp_a (a_iconst (v := 2) dL_law_541 rfl) (mpp 542 rfl ?_)
  refine mp_t (s_iadd (v := 2) dL_law_542 (by decide)) (mpp 543 rfl ?_)
  refine mp_sld (v := x2) (N := 4) dL_law_543 rfl (by decide) rfl (mpp 544 rfl ?_)
  refine mp_callv (i := 63) (q' := q_196) (As := [.int x1, .int x2]) (rest := [.int (-1001)]) dL_law_544 rfl qm_196 (by decide) rfl (hM.f (by decide) p0_301) (by decide) (Nat.le_of_ble_eq_true rfl) rfl ⟨rfl, rfl⟩ ⟨Nat.le_of_ble_eq_true rfl, Nat.le_of_ble_eq_true rfl⟩ (EvP.mono (by decide) (mo_size x1 x2 hM)) (fun r1 P1 g1 => mpp 547 rfl ?_)
  obtain rfl := g1
  show MEvP _ _ lawq 547 [(3, .int 0), (2, .ref 301), (1, .ref 0), (0, .long 0)] [.int (-1001), .int (-1001)] _ _ _ _
  refine mp_Tt (t := 992) (j_icmp_eq dL_law_547) rfl (by decide) ?_
  refine mp_a (a_iinc (v := 4) (L' := [(3, .int 4), (2, .ref 301), (1, .ref 0), (0, .long 0)]) dL_law_992 (by decide) rfl rfl rfl) (mpp 995 rfl ?_)
  refine mp_a (a_goto (t := 18) dL_law_995 (by decide)) ?_
  exact law_done

set_option maxRecDepth 100000 in
set_option maxHeartbeats 4000000 in
theorem law_case12 {x0 x1 x2 x3 : Int32} : MEvP 20 (some [x0, x1, x2, x3]) lawq 552 [(3, .int 0), (2, .ref 301), (1, .ref 0), (0, .long 0)] [] P0 315 4038 (fun r _ => r = some (.int 1)) := by
  refine mp_a (a_aload_n dL_law_552 rfl) (mpp 553 rfl ?_)
  refine mp_a (a_aload_nT dL_law_553 rfl) (mpp 554 rfl ?_)
  refine mp_a (a_iload_n dL_law_554 rfl) (mpp 555 rfl ?_)
  refine mp_a (a_iconst (v := 1) dL_law_555 rfl) (mpp 556 rfl ?_)
  refine mp_t (s_iadd (v := 1) dL_law_556 (by decide)) (mpp 557 rfl ?_)
  refine mp_sld (v := x1) (N := 4) dL_law_557 rfl (by decide) rfl (mpp 558 rfl ?_)
  refine mp_a (a_aload_nT dL_law_558 rfl) (mpp 559 rfl ?_)
  refine mp_a (a_iload_n dL_law_559 rfl) (mpp 560 rfl ?_)
  refine mp_a (a_iconst (v := 2) dL_law_560 rfl) (mpp 561 rfl ?_)
  refine mp_t (s_iadd (v := 2) dL_law_561 (by decide)) (mpp 562 rfl ?_)
  refine mp_sld (v := x2) (N := 4) dL_law_562 rfl (by decide) rfl (mpp 563 rfl ?_)
  refine mp_callv (i := 64) (q' := q_60) (As := [.int x1, .int x2]) (rest := []) dL_law_563 rfl qm_60 (by decide) rfl p0_0 (by decide) (Nat.le_of_ble_eq_true rfl) rfl ⟨rfl, rfl⟩ ⟨Nat.le_of_ble_eq_true rfl, Nat.le_of_ble_eq_true rfl⟩ (EvP.mono (by decide) (xo_crease x1 x2)) (fun r1 P1 g1 => mpp 566 rfl ?_)
  obtain ⟨rfl, hM⟩ := g1
  show MEvP _ _ lawq 566 [(3, .int 0), (2, .ref 301), (1, .ref 0), (0, .long 0)] [.int (-1001)] _ _ _ _
  refine mp_a (a_aload_n dL_law_566 rfl) (mpp 567 rfl ?_)
  refine mp_a (a_aload_nT dL_law_567 rfl) (mpp 568 rfl ?_)
  refine mp_a (a_iload_n dL_law_568 rfl) (mpp 569 rfl ?_)
  refine mp_a (a_iconst (v := 1) dL_law_569 rfl) (mpp 570 rfl ?_)
  refine mp_t (s_iadd (v := 1) dL_law_570 (by decide)) (mpp 571 rfl ?_)
  refine mp_sld (v := x1) (N := 4) dL_law_571 rfl (by decide) rfl (mpp 572 rfl ?_)
  refine mp_a (a_aload_nT dL_law_572 rfl) (mpp 573 rfl ?_)
  refine mp_a (a_iload_n dL_law_573 rfl) (mpp 574 rfl ?_)
  refine mp_a (a_iconst (v := 2) dL_law_574 rfl) (mpp 575 rfl ?_)
  refine mp_t (s_iadd (v := 2) dL_law_575 (by decide)) (mpp 576 rfl ?_)
  refine mp_sld (v := x2) (N := 4) dL_law_576 rfl (by decide) rfl (mpp 577 rfl ?_)
  refine mp_callv (i := 67) (q' := q_197) (As := [.int x1, .int x2]) (rest := [.int (-1001)]) dL_law_577 rfl qm_197 (by decide) rfl (hM.f (by decide) p0_301) (by decide) (Nat.le_of_ble_eq_true rfl) rfl ⟨rfl, rfl⟩ ⟨Nat.le_of_ble_eq_true rfl, Nat.le_of_ble_eq_true rfl⟩ (EvP.mono (by decide) (mo_crease x1 x2 hM)) (fun r1 P1 g1 => mpp 580 rfl ?_)
  obtain rfl := g1
  show MEvP _ _ lawq 580 [(3, .int 0), (2, .ref 301), (1, .ref 0), (0, .long 0)] [.int (-1001), .int (-1001)] _ _ _ _
  refine mp_Tt (t := 992) (j_icmp_eq dL_law_580) rfl (by decide) ?_
  refine mp_a (a_iinc (v := 4) (L' := [(3, .int 4), (2, .ref 301), (1, .ref 0), (0, .long 0)]) dL_law_992 (by decide) rfl rfl rfl) (mpp 995 rfl ?_)
  refine mp_a (a_goto (t := 18) dL_law_995 (by decide)) ?_
  exact law_done

set_option maxRecDepth 100000 in
set_option maxHeartbeats 4000000 in
theorem law_case13 {x0 x1 x2 x3 : Int32} : MEvP 20 (some [x0, x1, x2, x3]) lawq 585 [(3, .int 0), (2, .ref 301), (1, .ref 0), (0, .long 0)] [] P0 315 4038 (fun r _ => r = some (.int 1)) := by
  refine mp_a (a_aload_n dL_law_585 rfl) (mpp 586 rfl ?_)
  refine mp_a (a_aload_nT dL_law_586 rfl) (mpp 587 rfl ?_)
  refine mp_a (a_iload_n dL_law_587 rfl) (mpp 588 rfl ?_)
  refine mp_a (a_iconst (v := 1) dL_law_588 rfl) (mpp 589 rfl ?_)
  refine mp_t (s_iadd (v := 1) dL_law_589 (by decide)) (mpp 590 rfl ?_)
  refine mp_sld (v := x1) (N := 4) dL_law_590 rfl (by decide) rfl (mpp 591 rfl ?_)
  refine mp_callv (i := 68) (q' := q_61) (As := [.int x1]) (rest := []) dL_law_591 rfl qm_61 (by decide) rfl p0_0 (by decide) (Nat.le_of_ble_eq_true rfl) rfl ⟨rfl, rfl⟩ ⟨Nat.le_of_ble_eq_true rfl, Nat.le_of_ble_eq_true rfl⟩ (EvP.mono (by decide) (xo_why x1)) (fun r1 P1 g1 => mpp 594 rfl ?_)
  obtain ⟨rfl, hM⟩ := g1
  show MEvP _ _ lawq 594 [(3, .int 0), (2, .ref 301), (1, .ref 0), (0, .long 0)] [.int (-1001)] _ _ _ _
  refine mp_a (a_aload_n dL_law_594 rfl) (mpp 595 rfl ?_)
  refine mp_a (a_aload_nT dL_law_595 rfl) (mpp 596 rfl ?_)
  refine mp_a (a_iload_n dL_law_596 rfl) (mpp 597 rfl ?_)
  refine mp_a (a_iconst (v := 1) dL_law_597 rfl) (mpp 598 rfl ?_)
  refine mp_t (s_iadd (v := 1) dL_law_598 (by decide)) (mpp 599 rfl ?_)
  refine mp_sld (v := x1) (N := 4) dL_law_599 rfl (by decide) rfl (mpp 600 rfl ?_)
  refine mp_callv (i := 71) (q' := q_159) (As := [.int x1]) (rest := [.int (-1001)]) dL_law_600 rfl qm_159 (by decide) rfl (hM.f (by decide) p0_301) (by decide) (Nat.le_of_ble_eq_true rfl) rfl ⟨rfl, rfl⟩ ⟨Nat.le_of_ble_eq_true rfl, Nat.le_of_ble_eq_true rfl⟩ (EvP.mono (by decide) (mo_why x1 hM)) (fun r1 P1 g1 => mpp 603 rfl ?_)
  obtain rfl := g1
  show MEvP _ _ lawq 603 [(3, .int 0), (2, .ref 301), (1, .ref 0), (0, .long 0)] [.int (-1001), .int (-1001)] _ _ _ _
  refine mp_Tt (t := 992) (j_icmp_eq dL_law_603) rfl (by decide) ?_
  refine mp_a (a_iinc (v := 4) (L' := [(3, .int 4), (2, .ref 301), (1, .ref 0), (0, .long 0)]) dL_law_992 (by decide) rfl rfl rfl) (mpp 995 rfl ?_)
  refine mp_a (a_goto (t := 18) dL_law_995 (by decide)) ?_
  exact law_done

set_option maxRecDepth 100000 in
set_option maxHeartbeats 4000000 in
theorem law_case14 {x0 x1 x2 x3 : Int32} : MEvP 20 (some [x0, x1, x2, x3]) lawq 608 [(3, .int 0), (2, .ref 301), (1, .ref 0), (0, .long 0)] [] P0 315 4038 (fun r _ => r = some (.int 1)) := by
  refine mp_a (a_aload_n dL_law_608 rfl) (mpp 609 rfl ?_)
  refine mp_a (a_aload_nT dL_law_609 rfl) (mpp 610 rfl ?_)
  refine mp_a (a_iload_n dL_law_610 rfl) (mpp 611 rfl ?_)
  refine mp_a (a_iconst (v := 1) dL_law_611 rfl) (mpp 612 rfl ?_)
  refine mp_t (s_iadd (v := 1) dL_law_612 (by decide)) (mpp 613 rfl ?_)
  refine mp_sld (v := x1) (N := 4) dL_law_613 rfl (by decide) rfl (mpp 614 rfl ?_)
  refine mp_callv (i := 72) (q' := q_62) (As := [.int x1]) (rest := []) dL_law_614 rfl qm_62 (by decide) rfl p0_0 (by decide) (Nat.le_of_ble_eq_true rfl) rfl ⟨rfl, rfl⟩ ⟨Nat.le_of_ble_eq_true rfl, Nat.le_of_ble_eq_true rfl⟩ (EvP.mono (by decide) (xo_foldsAgain x1)) (fun r1 P1 g1 => mpp 617 rfl ?_)
  obtain ⟨rfl, hM⟩ := g1
  show MEvP _ _ lawq 617 [(3, .int 0), (2, .ref 301), (1, .ref 0), (0, .long 0)] [.int (-1001)] _ _ _ _
  refine mp_a (a_aload_n dL_law_617 rfl) (mpp 618 rfl ?_)
  refine mp_a (a_aload_nT dL_law_618 rfl) (mpp 619 rfl ?_)
  refine mp_a (a_iload_n dL_law_619 rfl) (mpp 620 rfl ?_)
  refine mp_a (a_iconst (v := 1) dL_law_620 rfl) (mpp 621 rfl ?_)
  refine mp_t (s_iadd (v := 1) dL_law_621 (by decide)) (mpp 622 rfl ?_)
  refine mp_sld (v := x1) (N := 4) dL_law_622 rfl (by decide) rfl (mpp 623 rfl ?_)
  refine mp_callv (i := 75) (q' := q_198) (As := [.int x1]) (rest := [.int (-1001)]) dL_law_623 rfl qm_198 (by decide) rfl (hM.f (by decide) p0_301) (by decide) (Nat.le_of_ble_eq_true rfl) rfl ⟨rfl, rfl⟩ ⟨Nat.le_of_ble_eq_true rfl, Nat.le_of_ble_eq_true rfl⟩ (EvP.mono (by decide) (mo_foldsAgain x1 hM)) (fun r1 P1 g1 => mpp 626 rfl ?_)
  obtain rfl := g1
  show MEvP _ _ lawq 626 [(3, .int 0), (2, .ref 301), (1, .ref 0), (0, .long 0)] [.int (-1001), .int (-1001)] _ _ _ _
  refine mp_Tt (t := 992) (j_icmp_eq dL_law_626) rfl (by decide) ?_
  refine mp_a (a_iinc (v := 4) (L' := [(3, .int 4), (2, .ref 301), (1, .ref 0), (0, .long 0)]) dL_law_992 (by decide) rfl rfl rfl) (mpp 995 rfl ?_)
  refine mp_a (a_goto (t := 18) dL_law_995 (by decide)) ?_
  exact law_done

set_option maxRecDepth 100000 in
set_option maxHeartbeats 4000000 in
theorem law_case15 {x0 x1 x2 x3 : Int32} : MEvP 20 (some [x0, x1, x2, x3]) lawq 631 [(3, .int 0), (2, .ref 301), (1, .ref 0), (0, .long 0)] [] P0 315 4038 (fun r _ => r = some (.int 1)) := by
  refine mp_a (a_aload_n dL_law_631 rfl) (mpp 632 rfl ?_)
  refine mp_a (a_aload_nT dL_law_632 rfl) (mpp 633 rfl ?_)
  refine mp_a (a_iload_n dL_law_633 rfl) (mpp 634 rfl ?_)
  refine mp_a (a_iconst (v := 1) dL_law_634 rfl) (mpp 635 rfl ?_)
  refine mp_t (s_iadd (v := 1) dL_law_635 (by decide)) (mpp 636 rfl ?_)
  refine mp_sld (v := x1) (N := 4) dL_law_636 rfl (by decide) rfl (mpp 637 rfl ?_)
  refine mp_callv (i := 76) (q' := q_73) (As := [.int x1]) (rest := []) dL_law_637 rfl qm_73 (by decide) rfl p0_0 (by decide) (Nat.le_of_ble_eq_true rfl) rfl ⟨rfl, rfl⟩ ⟨Nat.le_of_ble_eq_true rfl, Nat.le_of_ble_eq_true rfl⟩ (EvP.mono (by decide) (xo_step x1)) (fun r1 P1 g1 => mpp 640 rfl ?_)
  obtain ⟨rfl, hM⟩ := g1
  show MEvP _ _ lawq 640 [(3, .int 0), (2, .ref 301), (1, .ref 0), (0, .long 0)] [.int (-1001)] _ _ _ _
  refine mp_a (a_aload_n dL_law_640 rfl) (mpp 641 rfl ?_)
  refine mp_a (a_aload_nT dL_law_641 rfl) (mpp 642 rfl ?_)
  refine mp_a (a_iload_n dL_law_642 rfl) (mpp 643 rfl ?_)
  refine mp_a (a_iconst (v := 1) dL_law_643 rfl) (mpp 644 rfl ?_)
  refine mp_t (s_iadd (v := 1) dL_law_644 (by decide)) (mpp 645 rfl ?_)
  refine mp_sld (v := x1) (N := 4) dL_law_645 rfl (by decide) rfl (mpp 646 rfl ?_)
  refine mp_callv (i := 79) (q' := q_175) (As := [.int x1]) (rest := [.int (-1001)]) dL_law_646 rfl qm_175 (by decide) rfl (hM.f (by decide) p0_301) (by decide) (Nat.le_of_ble_eq_true rfl) rfl ⟨rfl, rfl⟩ ⟨Nat.le_of_ble_eq_true rfl, Nat.le_of_ble_eq_true rfl⟩ (EvP.mono (by decide) (mo_step x1 hM)) (fun r1 P1 g1 => mpp 649 rfl ?_)
  obtain rfl := g1
  show MEvP _ _ lawq 649 [(3, .int 0), (2, .ref 301), (1, .ref 0), (0, .long 0)] [.int (-1001), .int (-1001)] _ _ _ _
  refine mp_Tt (t := 992) (j_icmp_eq dL_law_649) rfl (by decide) ?_
  refine mp_a (a_iinc (v := 4) (L' := [(3, .int 4), (2, .ref 301), (1, .ref 0), (0, .long 0)]) dL_law_992 (by decide) rfl rfl rfl) (mpp 995 rfl ?_)
  refine mp_a (a_goto (t := 18) dL_law_995 (by decide)) ?_
  exact law_done

set_option maxRecDepth 100000 in
set_option maxHeartbeats 4000000 in
theorem law_case16 {x0 x1 x2 x3 : Int32} : MEvP 20 (some [x0, x1, x2, x3]) lawq 654 [(3, .int 0), (2, .ref 301), (1, .ref 0), (0, .long 0)] [] P0 315 4038 (fun r _ => r = some (.int 1)) := by
  refine mp_a (a_aload_n dL_law_654 rfl) (mpp 655 rfl ?_)
  refine mp_a (a_aload_nT dL_law_655 rfl) (mpp 656 rfl ?_)
  refine mp_a (a_iload_n dL_law_656 rfl) (mpp 657 rfl ?_)
  refine mp_a (a_iconst (v := 1) dL_law_657 rfl) (mpp 658 rfl ?_)
  refine mp_t (s_iadd (v := 1) dL_law_658 (by decide)) (mpp 659 rfl ?_)
  refine mp_sld (v := x1) (N := 4) dL_law_659 rfl (by decide) rfl (mpp 660 rfl ?_)
  refine mp_callv (i := 80) (q' := q_74) (As := [.int x1]) (rest := []) dL_law_660 rfl qm_74 (by decide) rfl p0_0 (by decide) (Nat.le_of_ble_eq_true rfl) rfl ⟨rfl, rfl⟩ ⟨Nat.le_of_ble_eq_true rfl, Nat.le_of_ble_eq_true rfl⟩ (EvP.mono (by decide) (xo_steps x1)) (fun r1 P1 g1 => mpp 663 rfl ?_)
  obtain ⟨rfl, hM⟩ := g1
  show MEvP _ _ lawq 663 [(3, .int 0), (2, .ref 301), (1, .ref 0), (0, .long 0)] [.int (-1001)] _ _ _ _
  refine mp_a (a_aload_n dL_law_663 rfl) (mpp 664 rfl ?_)
  refine mp_a (a_aload_nT dL_law_664 rfl) (mpp 665 rfl ?_)
  refine mp_a (a_iload_n dL_law_665 rfl) (mpp 666 rfl ?_)
  refine mp_a (a_iconst (v := 1) dL_law_666 rfl) (mpp 667 rfl ?_)
  refine mp_t (s_iadd (v := 1) dL_law_667 (by decide)) (mpp 668 rfl ?_)
  refine mp_sld (v := x1) (N := 4) dL_law_668 rfl (by decide) rfl (mpp 669 rfl ?_)
  refine mp_callv (i := 83) (q' := q_176) (As := [.int x1]) (rest := [.int (-1001)]) dL_law_669 rfl qm_176 (by decide) rfl (hM.f (by decide) p0_301) (by decide) (Nat.le_of_ble_eq_true rfl) rfl ⟨rfl, rfl⟩ ⟨Nat.le_of_ble_eq_true rfl, Nat.le_of_ble_eq_true rfl⟩ (EvP.mono (by decide) (mo_steps x1 hM)) (fun r1 P1 g1 => mpp 672 rfl ?_)
  obtain rfl := g1
  show MEvP _ _ lawq 672 [(3, .int 0), (2, .ref 301), (1, .ref 0), (0, .long 0)] [.int (-1001), .int (-1001)] _ _ _ _
  refine mp_Tt (t := 992) (j_icmp_eq dL_law_672) rfl (by decide) ?_
  refine mp_a (a_iinc (v := 4) (L' := [(3, .int 4), (2, .ref 301), (1, .ref 0), (0, .long 0)]) dL_law_992 (by decide) rfl rfl rfl) (mpp 995 rfl ?_)
  refine mp_a (a_goto (t := 18) dL_law_995 (by decide)) ?_
  exact law_done

set_option maxRecDepth 100000 in
set_option maxHeartbeats 4000000 in
theorem law_case17 {x0 x1 x2 x3 : Int32} : MEvP 20 (some [x0, x1, x2, x3]) lawq 677 [(3, .int 0), (2, .ref 301), (1, .ref 0), (0, .long 0)] [] P0 315 4038 (fun r _ => r = some (.int 1)) := by
  refine mp_a (a_aload_n dL_law_677 rfl) (mpp 678 rfl ?_)
  refine mp_a (a_aload_nT dL_law_678 rfl) (mpp 679 rfl ?_)
  refine mp_a (a_iload_n dL_law_679 rfl) (mpp 680 rfl ?_)
  refine mp_a (a_iconst (v := 1) dL_law_680 rfl) (mpp 681 rfl ?_)
  refine mp_t (s_iadd (v := 1) dL_law_681 (by decide)) (mpp 682 rfl ?_)
  refine mp_sld (v := x1) (N := 4) dL_law_682 rfl (by decide) rfl (mpp 683 rfl ?_)
  refine mp_callv (i := 84) (q' := q_75) (As := [.int x1]) (rest := []) dL_law_683 rfl qm_75 (by decide) rfl p0_0 (by decide) (Nat.le_of_ble_eq_true rfl) rfl ⟨rfl, rfl⟩ ⟨Nat.le_of_ble_eq_true rfl, Nat.le_of_ble_eq_true rfl⟩ (EvP.mono (by decide) (xo_ways x1)) (fun r1 P1 g1 => mpp 686 rfl ?_)
  obtain ⟨rfl, hM⟩ := g1
  show MEvP _ _ lawq 686 [(3, .int 0), (2, .ref 301), (1, .ref 0), (0, .long 0)] [.int (-1001)] _ _ _ _
  refine mp_a (a_aload_n dL_law_686 rfl) (mpp 687 rfl ?_)
  refine mp_a (a_aload_nT dL_law_687 rfl) (mpp 688 rfl ?_)
  refine mp_a (a_iload_n dL_law_688 rfl) (mpp 689 rfl ?_)
  refine mp_a (a_iconst (v := 1) dL_law_689 rfl) (mpp 690 rfl ?_)
  refine mp_t (s_iadd (v := 1) dL_law_690 (by decide)) (mpp 691 rfl ?_)
  refine mp_sld (v := x1) (N := 4) dL_law_691 rfl (by decide) rfl (mpp 692 rfl ?_)
  refine mp_callv (i := 87) (q' := q_177) (As := [.int x1]) (rest := [.int (-1001)]) dL_law_692 rfl qm_177 (by decide) rfl (hM.f (by decide) p0_301) (by decide) (Nat.le_of_ble_eq_true rfl) rfl ⟨rfl, rfl⟩ ⟨Nat.le_of_ble_eq_true rfl, Nat.le_of_ble_eq_true rfl⟩ (EvP.mono (by decide) (mo_ways x1 hM)) (fun r1 P1 g1 => mpp 695 rfl ?_)
  obtain rfl := g1
  show MEvP _ _ lawq 695 [(3, .int 0), (2, .ref 301), (1, .ref 0), (0, .long 0)] [.int (-1001), .int (-1001)] _ _ _ _
  refine mp_Tt (t := 992) (j_icmp_eq dL_law_695) rfl (by decide) ?_
  refine mp_a (a_iinc (v := 4) (L' := [(3, .int 4), (2, .ref 301), (1, .ref 0), (0, .long 0)]) dL_law_992 (by decide) rfl rfl rfl) (mpp 995 rfl ?_)
  refine mp_a (a_goto (t := 18) dL_law_995 (by decide)) ?_
  exact law_done

set_option maxRecDepth 100000 in
set_option maxHeartbeats 4000000 in
theorem law_case18 {x0 x1 x2 x3 : Int32} : MEvP 20 (some [x0, x1, x2, x3]) lawq 700 [(3, .int 0), (2, .ref 301), (1, .ref 0), (0, .long 0)] [] P0 315 4038 (fun r _ => r = some (.int 1)) := by
  refine mp_a (a_aload_n dL_law_700 rfl) (mpp 701 rfl ?_)
  refine mp_a (a_aload_nT dL_law_701 rfl) (mpp 702 rfl ?_)
  refine mp_a (a_iload_n dL_law_702 rfl) (mpp 703 rfl ?_)
  refine mp_a (a_iconst (v := 1) dL_law_703 rfl) (mpp 704 rfl ?_)
  refine mp_t (s_iadd (v := 1) dL_law_704 (by decide)) (mpp 705 rfl ?_)
  refine mp_sld (v := x1) (N := 4) dL_law_705 rfl (by decide) rfl (mpp 706 rfl ?_)
  refine mp_callv (i := 88) (q' := q_80) (As := [.int x1]) (rest := []) dL_law_706 rfl qm_80 (by decide) rfl p0_0 (by decide) (Nat.le_of_ble_eq_true rfl) rfl ⟨rfl, rfl⟩ ⟨Nat.le_of_ble_eq_true rfl, Nat.le_of_ble_eq_true rfl⟩ (EvP.mono (by decide) (xo_fewest x1)) (fun r1 P1 g1 => mpp 709 rfl ?_)
  obtain ⟨rfl, hM⟩ := g1
  show MEvP _ _ lawq 709 [(3, .int 0), (2, .ref 301), (1, .ref 0), (0, .long 0)] [.int (-1001)] _ _ _ _
  refine mp_a (a_aload_n dL_law_709 rfl) (mpp 710 rfl ?_)
  refine mp_a (a_aload_nT dL_law_710 rfl) (mpp 711 rfl ?_)
  refine mp_a (a_iload_n dL_law_711 rfl) (mpp 712 rfl ?_)
  refine mp_a (a_iconst (v := 1) dL_law_712 rfl) (mpp 713 rfl ?_)
  refine mp_t (s_iadd (v := 1) dL_law_713 (by decide)) (mpp 714 rfl ?_)
  refine mp_sld (v := x1) (N := 4) dL_law_714 rfl (by decide) rfl (mpp 715 rfl ?_)
  refine mp_callv (i := 91) (q' := q_181) (As := [.int x1]) (rest := [.int (-1001)]) dL_law_715 rfl qm_181 (by decide) rfl (hM.f (by decide) p0_301) (by decide) (Nat.le_of_ble_eq_true rfl) rfl ⟨rfl, rfl⟩ ⟨Nat.le_of_ble_eq_true rfl, Nat.le_of_ble_eq_true rfl⟩ (EvP.mono (by decide) (mo_fewest x1 hM)) (fun r1 P1 g1 => mpp 718 rfl ?_)
  obtain rfl := g1
  show MEvP _ _ lawq 718 [(3, .int 0), (2, .ref 301), (1, .ref 0), (0, .long 0)] [.int (-1001), .int (-1001)] _ _ _ _
  refine mp_Tt (t := 992) (j_icmp_eq dL_law_718) rfl (by decide) ?_
  refine mp_a (a_iinc (v := 4) (L' := [(3, .int 4), (2, .ref 301), (1, .ref 0), (0, .long 0)]) dL_law_992 (by decide) rfl rfl rfl) (mpp 995 rfl ?_)
  refine mp_a (a_goto (t := 18) dL_law_995 (by decide)) ?_
  exact law_done

set_option maxRecDepth 100000 in
set_option maxHeartbeats 4000000 in
theorem law_case19 {x0 x1 x2 x3 : Int32} : MEvP 20 (some [x0, x1, x2, x3]) lawq 723 [(3, .int 0), (2, .ref 301), (1, .ref 0), (0, .long 0)] [] P0 315 4038 (fun r _ => r = some (.int 1)) := by
  refine mp_a (a_aload_n dL_law_723 rfl) (mpp 724 rfl ?_)
  refine mp_a (a_aload_nT dL_law_724 rfl) (mpp 725 rfl ?_)
  refine mp_a (a_iload_n dL_law_725 rfl) (mpp 726 rfl ?_)
  refine mp_a (a_iconst (v := 1) dL_law_726 rfl) (mpp 727 rfl ?_)
  refine mp_t (s_iadd (v := 1) dL_law_727 (by decide)) (mpp 728 rfl ?_)
  refine mp_sld (v := x1) (N := 4) dL_law_728 rfl (by decide) rfl (mpp 729 rfl ?_)
  refine mp_a (a_aload_nT dL_law_729 rfl) (mpp 730 rfl ?_)
  refine mp_a (a_iload_n dL_law_730 rfl) (mpp 731 rfl ?_)
  refine mp_a (a_iconst (v := 2) dL_law_731 rfl) (mpp 732 rfl ?_)
  refine mp_t (s_iadd (v := 2) dL_law_732 (by decide)) (mpp 733 rfl ?_)
  refine mp_sld (v := x2) (N := 4) dL_law_733 rfl (by decide) rfl (mpp 734 rfl ?_)
  refine mp_callv (i := 92) (q' := q_82) (As := [.int x1, .int x2]) (rest := []) dL_law_734 rfl qm_82 (by decide) rfl p0_0 (by decide) (Nat.le_of_ble_eq_true rfl) rfl ⟨rfl, rfl⟩ ⟨Nat.le_of_ble_eq_true rfl, Nat.le_of_ble_eq_true rfl⟩ (EvP.mono (by decide) (xo_place x1 x2)) (fun r1 P1 g1 => mpp 737 rfl ?_)
  obtain ⟨rfl, hM⟩ := g1
  show MEvP _ _ lawq 737 [(3, .int 0), (2, .ref 301), (1, .ref 0), (0, .long 0)] [.int (-1001)] _ _ _ _
  refine mp_a (a_aload_n dL_law_737 rfl) (mpp 738 rfl ?_)
  refine mp_a (a_aload_nT dL_law_738 rfl) (mpp 739 rfl ?_)
  refine mp_a (a_iload_n dL_law_739 rfl) (mpp 740 rfl ?_)
  refine mp_a (a_iconst (v := 1) dL_law_740 rfl) (mpp 741 rfl ?_)
  refine mp_t (s_iadd (v := 1) dL_law_741 (by decide)) (mpp 742 rfl ?_)
  refine mp_sld (v := x1) (N := 4) dL_law_742 rfl (by decide) rfl (mpp 743 rfl ?_)
  refine mp_a (a_aload_nT dL_law_743 rfl) (mpp 744 rfl ?_)
  refine mp_a (a_iload_n dL_law_744 rfl) (mpp 745 rfl ?_)
  refine mp_a (a_iconst (v := 2) dL_law_745 rfl) (mpp 746 rfl ?_)
  refine mp_t (s_iadd (v := 2) dL_law_746 (by decide)) (mpp 747 rfl ?_)
  refine mp_sld (v := x2) (N := 4) dL_law_747 rfl (by decide) rfl (mpp 748 rfl ?_)
  refine mp_callv (i := 95) (q' := q_210) (As := [.int x1, .int x2]) (rest := [.int (-1001)]) dL_law_748 rfl qm_210 (by decide) rfl (hM.f (by decide) p0_301) (by decide) (Nat.le_of_ble_eq_true rfl) rfl ⟨rfl, rfl⟩ ⟨Nat.le_of_ble_eq_true rfl, Nat.le_of_ble_eq_true rfl⟩ (EvP.mono (by decide) (mo_place x1 x2 hM)) (fun r1 P1 g1 => mpp 751 rfl ?_)
  obtain rfl := g1
  show MEvP _ _ lawq 751 [(3, .int 0), (2, .ref 301), (1, .ref 0), (0, .long 0)] [.int (-1001), .int (-1001)] _ _ _ _
  refine mp_Tt (t := 992) (j_icmp_eq dL_law_751) rfl (by decide) ?_
  refine mp_a (a_iinc (v := 4) (L' := [(3, .int 4), (2, .ref 301), (1, .ref 0), (0, .long 0)]) dL_law_992 (by decide) rfl rfl rfl) (mpp 995 rfl ?_)
  refine mp_a (a_goto (t := 18) dL_law_995 (by decide)) ?_
  exact law_done

set_option maxRecDepth 100000 in
set_option maxHeartbeats 4000000 in
theorem law_case20 {x0 x1 x2 x3 : Int32} : MEvP 20 (some [x0, x1, x2, x3]) lawq 756 [(3, .int 0), (2, .ref 301), (1, .ref 0), (0, .long 0)] [] P0 315 4038 (fun r _ => r = some (.int 1)) := by
  refine mp_a (a_aload_n dL_law_756 rfl) (mpp 757 rfl ?_)
  refine mp_a (a_aload_nT dL_law_757 rfl) (mpp 758 rfl ?_)
  refine mp_a (a_iload_n dL_law_758 rfl) (mpp 759 rfl ?_)
  refine mp_a (a_iconst (v := 1) dL_law_759 rfl) (mpp 760 rfl ?_)
  refine mp_t (s_iadd (v := 1) dL_law_760 (by decide)) (mpp 761 rfl ?_)
  refine mp_sld (v := x1) (N := 4) dL_law_761 rfl (by decide) rfl (mpp 762 rfl ?_)
  refine mp_a (a_aload_nT dL_law_762 rfl) (mpp 763 rfl ?_)
  refine mp_a (a_iload_n dL_law_763 rfl) (mpp 764 rfl ?_)
  refine mp_a (a_iconst (v := 2) dL_law_764 rfl) (mpp 765 rfl ?_)
  refine mp_t (s_iadd (v := 2) dL_law_765 (by decide)) (mpp 766 rfl ?_)
  refine mp_sld (v := x2) (N := 4) dL_law_766 rfl (by decide) rfl (mpp 767 rfl ?_)
  refine mp_callv (i := 96) (q' := q_83) (As := [.int x1, .int x2]) (rest := []) dL_law_767 rfl qm_83 (by decide) rfl p0_0 (by decide) (Nat.le_of_ble_eq_true rfl) rfl ⟨rfl, rfl⟩ ⟨Nat.le_of_ble_eq_true rfl, Nat.le_of_ble_eq_true rfl⟩ (EvP.mono (by decide) (xo_layer x1 x2)) (fun r1 P1 g1 => mpp 770 rfl ?_)
  obtain ⟨rfl, hM⟩ := g1
  show MEvP _ _ lawq 770 [(3, .int 0), (2, .ref 301), (1, .ref 0), (0, .long 0)] [.int (-1001)] _ _ _ _
  refine mp_a (a_aload_n dL_law_770 rfl) (mpp 771 rfl ?_)
  refine mp_a (a_aload_nT dL_law_771 rfl) (mpp 772 rfl ?_)
  refine mp_a (a_iload_n dL_law_772 rfl) (mpp 773 rfl ?_)
  refine mp_a (a_iconst (v := 1) dL_law_773 rfl) (mpp 774 rfl ?_)
  refine mp_t (s_iadd (v := 1) dL_law_774 (by decide)) (mpp 775 rfl ?_)
  refine mp_sld (v := x1) (N := 4) dL_law_775 rfl (by decide) rfl (mpp 776 rfl ?_)
  refine mp_a (a_aload_nT dL_law_776 rfl) (mpp 777 rfl ?_)
  refine mp_a (a_iload_n dL_law_777 rfl) (mpp 778 rfl ?_)
  refine mp_a (a_iconst (v := 2) dL_law_778 rfl) (mpp 779 rfl ?_)
  refine mp_t (s_iadd (v := 2) dL_law_779 (by decide)) (mpp 780 rfl ?_)
  refine mp_sld (v := x2) (N := 4) dL_law_780 rfl (by decide) rfl (mpp 781 rfl ?_)
  refine mp_callv (i := 99) (q' := q_208) (As := [.int x1, .int x2]) (rest := [.int (-1001)]) dL_law_781 rfl qm_208 (by decide) rfl (hM.f (by decide) p0_301) (by decide) (Nat.le_of_ble_eq_true rfl) rfl ⟨rfl, rfl⟩ ⟨Nat.le_of_ble_eq_true rfl, Nat.le_of_ble_eq_true rfl⟩ (EvP.mono (by decide) (mo_layer x1 x2 hM)) (fun r1 P1 g1 => mpp 784 rfl ?_)
  obtain rfl := g1
  show MEvP _ _ lawq 784 [(3, .int 0), (2, .ref 301), (1, .ref 0), (0, .long 0)] [.int (-1001), .int (-1001)] _ _ _ _
  refine mp_Tt (t := 992) (j_icmp_eq dL_law_784) rfl (by decide) ?_
  refine mp_a (a_iinc (v := 4) (L' := [(3, .int 4), (2, .ref 301), (1, .ref 0), (0, .long 0)]) dL_law_992 (by decide) rfl rfl rfl) (mpp 995 rfl ?_)
  refine mp_a (a_goto (t := 18) dL_law_995 (by decide)) ?_
  exact law_done

set_option maxRecDepth 100000 in
set_option maxHeartbeats 4000000 in
theorem law_case21 {x0 x1 x2 x3 : Int32} : MEvP 20 (some [x0, x1, x2, x3]) lawq 789 [(3, .int 0), (2, .ref 301), (1, .ref 0), (0, .long 0)] [] P0 315 4038 (fun r _ => r = some (.int 1)) := by
  refine mp_a (a_aload_n dL_law_789 rfl) (mpp 790 rfl ?_)
  refine mp_a (a_aload_nT dL_law_790 rfl) (mpp 791 rfl ?_)
  refine mp_a (a_iload_n dL_law_791 rfl) (mpp 792 rfl ?_)
  refine mp_a (a_iconst (v := 1) dL_law_792 rfl) (mpp 793 rfl ?_)
  refine mp_t (s_iadd (v := 1) dL_law_793 (by decide)) (mpp 794 rfl ?_)
  refine mp_sld (v := x1) (N := 4) dL_law_794 rfl (by decide) rfl (mpp 795 rfl ?_)
  refine mp_callv (i := 100) (q' := q_84) (As := [.int x1]) (rest := []) dL_law_795 rfl qm_84 (by decide) rfl p0_0 (by decide) (Nat.le_of_ble_eq_true rfl) rfl ⟨rfl, rfl⟩ ⟨Nat.le_of_ble_eq_true rfl, Nat.le_of_ble_eq_true rfl⟩ (EvP.mono (by decide) (xo_orders x1)) (fun r1 P1 g1 => mpp 798 rfl ?_)
  obtain ⟨rfl, hM⟩ := g1
  show MEvP _ _ lawq 798 [(3, .int 0), (2, .ref 301), (1, .ref 0), (0, .long 0)] [.int (-1001)] _ _ _ _
  refine mp_a (a_aload_n dL_law_798 rfl) (mpp 799 rfl ?_)
  refine mp_a (a_aload_nT dL_law_799 rfl) (mpp 800 rfl ?_)
  refine mp_a (a_iload_n dL_law_800 rfl) (mpp 801 rfl ?_)
  refine mp_a (a_iconst (v := 1) dL_law_801 rfl) (mpp 802 rfl ?_)
  refine mp_t (s_iadd (v := 1) dL_law_802 (by decide)) (mpp 803 rfl ?_)
  refine mp_sld (v := x1) (N := 4) dL_law_803 rfl (by decide) rfl (mpp 804 rfl ?_)
  refine mp_callv (i := 103) (q' := q_207) (As := [.int x1]) (rest := [.int (-1001)]) dL_law_804 rfl qm_207 (by decide) rfl (hM.f (by decide) p0_301) (by decide) (Nat.le_of_ble_eq_true rfl) rfl ⟨rfl, rfl⟩ ⟨Nat.le_of_ble_eq_true rfl, Nat.le_of_ble_eq_true rfl⟩ (EvP.mono (by decide) (mo_orders x1 hM)) (fun r1 P1 g1 => mpp 807 rfl ?_)
  obtain rfl := g1
  show MEvP _ _ lawq 807 [(3, .int 0), (2, .ref 301), (1, .ref 0), (0, .long 0)] [.int (-1001), .int (-1001)] _ _ _ _
  refine mp_Tt (t := 992) (j_icmp_eq dL_law_807) rfl (by decide) ?_
  refine mp_a (a_iinc (v := 4) (L' := [(3, .int 4), (2, .ref 301), (1, .ref 0), (0, .long 0)]) dL_law_992 (by decide) rfl rfl rfl) (mpp 995 rfl ?_)
  refine mp_a (a_goto (t := 18) dL_law_995 (by decide)) ?_
  exact law_done

set_option maxRecDepth 100000 in
set_option maxHeartbeats 4000000 in
theorem law_case22 {x0 x1 x2 x3 : Int32} : MEvP 20 (some [x0, x1, x2, x3]) lawq 812 [(3, .int 0), (2, .ref 301), (1, .ref 0), (0, .long 0)] [] P0 315 4038 (fun r _ => r = some (.int 1)) := by
  refine mp_a (a_aload_n dL_law_812 rfl) (mpp 813 rfl ?_)
  refine mp_a (a_aload_nT dL_law_813 rfl) (mpp 814 rfl ?_)
  refine mp_a (a_iload_n dL_law_814 rfl) (mpp 815 rfl ?_)
  refine mp_a (a_iconst (v := 1) dL_law_815 rfl) (mpp 816 rfl ?_)
  refine mp_t (s_iadd (v := 1) dL_law_816 (by decide)) (mpp 817 rfl ?_)
  refine mp_sld (v := x1) (N := 4) dL_law_817 rfl (by decide) rfl (mpp 818 rfl ?_)
  refine mp_callv (i := 104) (q' := q_85) (As := [.int x1]) (rest := []) dL_law_818 rfl qm_85 (by decide) rfl p0_0 (by decide) (Nat.le_of_ble_eq_true rfl) rfl ⟨rfl, rfl⟩ ⟨Nat.le_of_ble_eq_true rfl, Nat.le_of_ble_eq_true rfl⟩ (EvP.mono (by decide) (xo_thickest x1)) (fun r1 P1 g1 => mpp 821 rfl ?_)
  obtain ⟨rfl, hM⟩ := g1
  show MEvP _ _ lawq 821 [(3, .int 0), (2, .ref 301), (1, .ref 0), (0, .long 0)] [.int (-1001)] _ _ _ _
  refine mp_a (a_aload_n dL_law_821 rfl) (mpp 822 rfl ?_)
  refine mp_a (a_aload_nT dL_law_822 rfl) (mpp 823 rfl ?_)
  refine mp_a (a_iload_n dL_law_823 rfl) (mpp 824 rfl ?_)
  refine mp_a (a_iconst (v := 1) dL_law_824 rfl) (mpp 825 rfl ?_)
  refine mp_t (s_iadd (v := 1) dL_law_825 (by decide)) (mpp 826 rfl ?_)
  refine mp_sld (v := x1) (N := 4) dL_law_826 rfl (by decide) rfl (mpp 827 rfl ?_)
  refine mp_callv (i := 107) (q' := q_211) (As := [.int x1]) (rest := [.int (-1001)]) dL_law_827 rfl qm_211 (by decide) rfl (hM.f (by decide) p0_301) (by decide) (Nat.le_of_ble_eq_true rfl) rfl ⟨rfl, rfl⟩ ⟨Nat.le_of_ble_eq_true rfl, Nat.le_of_ble_eq_true rfl⟩ (EvP.mono (by decide) (mo_thickest x1 hM)) (fun r1 P1 g1 => mpp 830 rfl ?_)
  obtain rfl := g1
  show MEvP _ _ lawq 830 [(3, .int 0), (2, .ref 301), (1, .ref 0), (0, .long 0)] [.int (-1001), .int (-1001)] _ _ _ _
  refine mp_Tt (t := 992) (j_icmp_eq dL_law_830) rfl (by decide) ?_
  refine mp_a (a_iinc (v := 4) (L' := [(3, .int 4), (2, .ref 301), (1, .ref 0), (0, .long 0)]) dL_law_992 (by decide) rfl rfl rfl) (mpp 995 rfl ?_)
  refine mp_a (a_goto (t := 18) dL_law_995 (by decide)) ?_
  exact law_done

set_option maxRecDepth 100000 in
set_option maxHeartbeats 4000000 in
theorem law_case23 {x0 x1 x2 x3 : Int32} : MEvP 20 (some [x0, x1, x2, x3]) lawq 835 [(3, .int 0), (2, .ref 301), (1, .ref 0), (0, .long 0)] [] P0 315 4038 (fun r _ => r = some (.int 1)) := by
  refine mp_a (a_aload_n dL_law_835 rfl) (mpp 836 rfl ?_)
  refine mp_a (a_aload_nT dL_law_836 rfl) (mpp 837 rfl ?_)
  refine mp_a (a_iload_n dL_law_837 rfl) (mpp 838 rfl ?_)
  refine mp_a (a_iconst (v := 1) dL_law_838 rfl) (mpp 839 rfl ?_)
  refine mp_t (s_iadd (v := 1) dL_law_839 (by decide)) (mpp 840 rfl ?_)
  refine mp_sld (v := x1) (N := 4) dL_law_840 rfl (by decide) rfl (mpp 841 rfl ?_)
  refine mp_callv (i := 108) (q' := q_90) (As := [.int x1]) (rest := []) dL_law_841 rfl qm_90 (by decide) rfl p0_0 (by decide) (Nat.le_of_ble_eq_true rfl) rfl ⟨rfl, rfl⟩ ⟨Nat.le_of_ble_eq_true rfl, Nat.le_of_ble_eq_true rfl⟩ (EvP.mono (by decide) (xo_reflected x1)) (fun r1 P1 g1 => mpp 844 rfl ?_)
  obtain ⟨rfl, hM⟩ := g1
  show MEvP _ _ lawq 844 [(3, .int 0), (2, .ref 301), (1, .ref 0), (0, .long 0)] [.int (-1001)] _ _ _ _
  refine mp_a (a_aload_n dL_law_844 rfl) (mpp 845 rfl ?_)
  refine mp_a (a_aload_nT dL_law_845 rfl) (mpp 846 rfl ?_)
  refine mp_a (a_iload_n dL_law_846 rfl) (mpp 847 rfl ?_)
  refine mp_a (a_iconst (v := 1) dL_law_847 rfl) (mpp 848 rfl ?_)
  refine mp_t (s_iadd (v := 1) dL_law_848 (by decide)) (mpp 849 rfl ?_)
  refine mp_sld (v := x1) (N := 4) dL_law_849 rfl (by decide) rfl (mpp 850 rfl ?_)
  refine mp_callv (i := 111) (q' := q_213) (As := [.int x1]) (rest := [.int (-1001)]) dL_law_850 rfl qm_213 (by decide) rfl (hM.f (by decide) p0_301) (by decide) (Nat.le_of_ble_eq_true rfl) rfl ⟨rfl, rfl⟩ ⟨Nat.le_of_ble_eq_true rfl, Nat.le_of_ble_eq_true rfl⟩ (EvP.mono (by decide) (mo_reflected x1 hM)) (fun r1 P1 g1 => mpp 853 rfl ?_)
  obtain rfl := g1
  show MEvP _ _ lawq 853 [(3, .int 0), (2, .ref 301), (1, .ref 0), (0, .long 0)] [.int (-1001), .int (-1001)] _ _ _ _
  refine mp_Tt (t := 992) (j_icmp_eq dL_law_853) rfl (by decide) ?_
  refine mp_a (a_iinc (v := 4) (L' := [(3, .int 4), (2, .ref 301), (1, .ref 0), (0, .long 0)]) dL_law_992 (by decide) rfl rfl rfl) (mpp 995 rfl ?_)
  refine mp_a (a_goto (t := 18) dL_law_995 (by decide)) ?_
  exact law_done

set_option maxRecDepth 100000 in
set_option maxHeartbeats 4000000 in
theorem law_case24 {x0 x1 x2 x3 : Int32} : MEvP 20 (some [x0, x1, x2, x3]) lawq 858 [(3, .int 0), (2, .ref 301), (1, .ref 0), (0, .long 0)] [] P0 315 4038 (fun r _ => r = some (.int 1)) := by
  by_cases h1 : x1 < 32
  · refine mp_a (a_aload_n dL_law_858 rfl) (mpp 859 rfl ?_)
    refine mp_a (a_aload_nT dL_law_859 rfl) (mpp 860 rfl ?_)
    refine mp_a (a_iload_n dL_law_860 rfl) (mpp 861 rfl ?_)
    refine mp_a (a_iconst (v := 1) dL_law_861 rfl) (mpp 862 rfl ?_)
    refine mp_t (s_iadd (v := 1) dL_law_862 (by decide)) (mpp 863 rfl ?_)
    refine mp_sld (v := x1) (N := 4) dL_law_863 rfl (by decide) rfl (mpp 864 rfl ?_)
    refine mp_callv (i := 112) (q' := q_92) (As := [.int x1]) (rest := []) dL_law_864 rfl qm_92 (by decide) rfl p0_0 (by decide) (Nat.le_of_ble_eq_true rfl) rfl ⟨rfl, rfl⟩ ⟨Nat.le_of_ble_eq_true rfl, Nat.le_of_ble_eq_true rfl⟩ (EvP.mono (by decide) (xo_append_1 x1 h1)) (fun r1 P1 g1 => mpp 867 rfl ?_)
    obtain ⟨rfl, hM⟩ := g1
    show MEvP _ _ lawq 867 [(3, .int 0), (2, .ref 301), (1, .ref 0), (0, .long 0)] [.int (-1002)] _ _ _ _
    refine mp_a (a_aload_n dL_law_867 rfl) (mpp 868 rfl ?_)
    refine mp_a (a_aload_nT dL_law_868 rfl) (mpp 869 rfl ?_)
    refine mp_a (a_iload_n dL_law_869 rfl) (mpp 870 rfl ?_)
    refine mp_a (a_iconst (v := 1) dL_law_870 rfl) (mpp 871 rfl ?_)
    refine mp_t (s_iadd (v := 1) dL_law_871 (by decide)) (mpp 872 rfl ?_)
    refine mp_sld (v := x1) (N := 4) dL_law_872 rfl (by decide) rfl (mpp 873 rfl ?_)
    refine mp_callv (i := 115) (q' := q_214) (As := [.int x1]) (rest := [.int (-1002)]) dL_law_873 rfl qm_214 (by decide) rfl (hM.f (by decide) p0_301) (by decide) (Nat.le_of_ble_eq_true rfl) rfl ⟨rfl, rfl⟩ ⟨Nat.le_of_ble_eq_true rfl, Nat.le_of_ble_eq_true rfl⟩ (EvP.mono (by decide) (mo_append_1 x1 hM h1)) (fun r1 P1 g1 => mpp 876 rfl ?_)
    obtain rfl := g1
    show MEvP _ _ lawq 876 [(3, .int 0), (2, .ref 301), (1, .ref 0), (0, .long 0)] [.int (-1002), .int (-1002)] _ _ _ _
    refine mp_Tt (t := 992) (j_icmp_eq dL_law_876) rfl (by decide) ?_
    refine mp_a (a_iinc (v := 4) (L' := [(3, .int 4), (2, .ref 301), (1, .ref 0), (0, .long 0)]) dL_law_992 (by decide) rfl rfl rfl) (mpp 995 rfl ?_)
    refine mp_a (a_goto (t := 18) dL_law_995 (by decide)) ?_
    exact law_done
  · by_cases h2 : 126 < x1
    · refine mp_a (a_aload_n dL_law_858 rfl) (mpp 859 rfl ?_)
      refine mp_a (a_aload_nT dL_law_859 rfl) (mpp 860 rfl ?_)
      refine mp_a (a_iload_n dL_law_860 rfl) (mpp 861 rfl ?_)
      refine mp_a (a_iconst (v := 1) dL_law_861 rfl) (mpp 862 rfl ?_)
      refine mp_t (s_iadd (v := 1) dL_law_862 (by decide)) (mpp 863 rfl ?_)
      refine mp_sld (v := x1) (N := 4) dL_law_863 rfl (by decide) rfl (mpp 864 rfl ?_)
      refine mp_callv (i := 112) (q' := q_92) (As := [.int x1]) (rest := []) dL_law_864 rfl qm_92 (by decide) rfl p0_0 (by decide) (Nat.le_of_ble_eq_true rfl) rfl ⟨rfl, rfl⟩ ⟨Nat.le_of_ble_eq_true rfl, Nat.le_of_ble_eq_true rfl⟩ (EvP.mono (by decide) (xo_append_2 x1 h1 h2)) (fun r1 P1 g1 => mpp 867 rfl ?_)
      obtain ⟨rfl, hM⟩ := g1
      show MEvP _ _ lawq 867 [(3, .int 0), (2, .ref 301), (1, .ref 0), (0, .long 0)] [.int (-1002)] _ _ _ _
      refine mp_a (a_aload_n dL_law_867 rfl) (mpp 868 rfl ?_)
      refine mp_a (a_aload_nT dL_law_868 rfl) (mpp 869 rfl ?_)
      refine mp_a (a_iload_n dL_law_869 rfl) (mpp 870 rfl ?_)
      refine mp_a (a_iconst (v := 1) dL_law_870 rfl) (mpp 871 rfl ?_)
      refine mp_t (s_iadd (v := 1) dL_law_871 (by decide)) (mpp 872 rfl ?_)
      refine mp_sld (v := x1) (N := 4) dL_law_872 rfl (by decide) rfl (mpp 873 rfl ?_)
      refine mp_callv (i := 115) (q' := q_214) (As := [.int x1]) (rest := [.int (-1002)]) dL_law_873 rfl qm_214 (by decide) rfl (hM.f (by decide) p0_301) (by decide) (Nat.le_of_ble_eq_true rfl) rfl ⟨rfl, rfl⟩ ⟨Nat.le_of_ble_eq_true rfl, Nat.le_of_ble_eq_true rfl⟩ (EvP.mono (by decide) (mo_append_2 x1 hM h1 h2)) (fun r1 P1 g1 => mpp 876 rfl ?_)
      obtain rfl := g1
      show MEvP _ _ lawq 876 [(3, .int 0), (2, .ref 301), (1, .ref 0), (0, .long 0)] [.int (-1002), .int (-1002)] _ _ _ _
      refine mp_Tt (t := 992) (j_icmp_eq dL_law_876) rfl (by decide) ?_
      refine mp_a (a_iinc (v := 4) (L' := [(3, .int 4), (2, .ref 301), (1, .ref 0), (0, .long 0)]) dL_law_992 (by decide) rfl rfl rfl) (mpp 995 rfl ?_)
      refine mp_a (a_goto (t := 18) dL_law_995 (by decide)) ?_
      exact law_done
    · refine mp_a (a_aload_n dL_law_858 rfl) (mpp 859 rfl ?_)
      refine mp_a (a_aload_nT dL_law_859 rfl) (mpp 860 rfl ?_)
      refine mp_a (a_iload_n dL_law_860 rfl) (mpp 861 rfl ?_)
      refine mp_a (a_iconst (v := 1) dL_law_861 rfl) (mpp 862 rfl ?_)
      refine mp_t (s_iadd (v := 1) dL_law_862 (by decide)) (mpp 863 rfl ?_)
      refine mp_sld (v := x1) (N := 4) dL_law_863 rfl (by decide) rfl (mpp 864 rfl ?_)
      refine mp_callv (i := 112) (q' := q_92) (As := [.int x1]) (rest := []) dL_law_864 rfl qm_92 (by decide) rfl p0_0 (by decide) (Nat.le_of_ble_eq_true rfl) rfl ⟨rfl, rfl⟩ ⟨Nat.le_of_ble_eq_true rfl, Nat.le_of_ble_eq_true rfl⟩ (EvP.mono (by decide) (xo_append_3 x1 h1 h2)) (fun r1 P1 g1 => mpp 867 rfl ?_)
      obtain ⟨rfl, hM⟩ := g1
      show MEvP _ _ lawq 867 [(3, .int 0), (2, .ref 301), (1, .ref 0), (0, .long 0)] [.int 1] _ _ _ _
      refine mp_a (a_aload_n dL_law_867 rfl) (mpp 868 rfl ?_)
      refine mp_a (a_aload_nT dL_law_868 rfl) (mpp 869 rfl ?_)
      refine mp_a (a_iload_n dL_law_869 rfl) (mpp 870 rfl ?_)
      refine mp_a (a_iconst (v := 1) dL_law_870 rfl) (mpp 871 rfl ?_)
      refine mp_t (s_iadd (v := 1) dL_law_871 (by decide)) (mpp 872 rfl ?_)
      refine mp_sld (v := x1) (N := 4) dL_law_872 rfl (by decide) rfl (mpp 873 rfl ?_)
      refine mp_callv (i := 115) (q' := q_214) (As := [.int x1]) (rest := [.int 1]) dL_law_873 rfl qm_214 (by decide) rfl (hM.f (by decide) p0_301) (by decide) (Nat.le_of_ble_eq_true rfl) rfl ⟨rfl, rfl⟩ ⟨Nat.le_of_ble_eq_true rfl, Nat.le_of_ble_eq_true rfl⟩ (EvP.mono (by decide) (mo_append_3 x1 hM h1 h2)) (fun r1 P1 g1 => mpp 876 rfl ?_)
      obtain rfl := g1
      show MEvP _ _ lawq 876 [(3, .int 0), (2, .ref 301), (1, .ref 0), (0, .long 0)] [.int 1, .int 1] _ _ _ _
      refine mp_Tt (t := 992) (j_icmp_eq dL_law_876) rfl (by decide) ?_
      refine mp_a (a_iinc (v := 4) (L' := [(3, .int 4), (2, .ref 301), (1, .ref 0), (0, .long 0)]) dL_law_992 (by decide) rfl rfl rfl) (mpp 995 rfl ?_)
      refine mp_a (a_goto (t := 18) dL_law_995 (by decide)) ?_
      exact law_done

set_option maxRecDepth 100000 in
set_option maxHeartbeats 4000000 in
theorem law_case25 {x0 x1 x2 x3 : Int32} : MEvP 20 (some [x0, x1, x2, x3]) lawq 881 [(3, .int 0), (2, .ref 301), (1, .ref 0), (0, .long 0)] [] P0 315 4038 (fun r _ => r = some (.int 1)) := by
  refine mp_a (a_aload_n dL_law_881 rfl) (mpp 882 rfl ?_)
  refine mp_callv (i := 116) (q' := q_94) (As := []) (rest := []) dL_law_882 rfl qm_94 (by decide) rfl p0_0 (by decide) (Nat.le_of_ble_eq_true rfl) rfl ⟨rfl, rfl⟩ ⟨Nat.le_of_ble_eq_true rfl, Nat.le_of_ble_eq_true rfl⟩ (EvP.mono (by decide) xo_read) (fun r1 P1 g1 => mpp 885 rfl ?_)
  obtain ⟨rfl, hM⟩ := g1
  show MEvP _ _ lawq 885 [(3, .int 0), (2, .ref 301), (1, .ref 0), (0, .long 0)] [.int (-2000)] _ _ _ _
  refine mp_a (a_aload_n dL_law_885 rfl) (mpp 886 rfl ?_)
  refine mp_callv (i := 120) (q' := q_215) (As := []) (rest := [.int (-2000)]) dL_law_886 rfl qm_215 (by decide) rfl (hM.f (by decide) p0_301) (by decide) (Nat.le_of_ble_eq_true rfl) rfl ⟨rfl, rfl⟩ ⟨Nat.le_of_ble_eq_true rfl, Nat.le_of_ble_eq_true rfl⟩ (EvP.mono (by decide) (mo_read hM)) (fun r1 P1 g1 => mpp 889 rfl ?_)
  obtain rfl := g1
  show MEvP _ _ lawq 889 [(3, .int 0), (2, .ref 301), (1, .ref 0), (0, .long 0)] [.int (-2000), .int (-2000)] _ _ _ _
  refine mp_Tt (t := 992) (j_icmp_eq dL_law_889) rfl (by decide) ?_
  refine mp_a (a_iinc (v := 4) (L' := [(3, .int 4), (2, .ref 301), (1, .ref 0), (0, .long 0)]) dL_law_992 (by decide) rfl rfl rfl) (mpp 995 rfl ?_)
  refine mp_a (a_goto (t := 18) dL_law_995 (by decide)) ?_
  exact law_done

set_option maxRecDepth 100000 in
set_option maxHeartbeats 4000000 in
theorem law_case26 {x0 x1 x2 x3 : Int32} : MEvP 20 (some [x0, x1, x2, x3]) lawq 894 [(3, .int 0), (2, .ref 301), (1, .ref 0), (0, .long 0)] [] P0 315 4038 (fun r _ => r = some (.int 1)) := by
  by_cases h1 : x1 < 0
  · refine mp_a (a_aload_n dL_law_894 rfl) (mpp 895 rfl ?_)
    refine mp_a (a_aload_nT dL_law_895 rfl) (mpp 896 rfl ?_)
    refine mp_a (a_iload_n dL_law_896 rfl) (mpp 897 rfl ?_)
    refine mp_a (a_iconst (v := 1) dL_law_897 rfl) (mpp 898 rfl ?_)
    refine mp_t (s_iadd (v := 1) dL_law_898 (by decide)) (mpp 899 rfl ?_)
    refine mp_sld (v := x1) (N := 4) dL_law_899 rfl (by decide) rfl (mpp 900 rfl ?_)
    refine mp_callv (i := 121) (q' := q_109) (As := [.int x1]) (rest := []) dL_law_900 rfl qm_109 (by decide) rfl p0_0 (by decide) (Nat.le_of_ble_eq_true rfl) rfl ⟨rfl, rfl⟩ ⟨Nat.le_of_ble_eq_true rfl, Nat.le_of_ble_eq_true rfl⟩ (EvP.mono (by decide) (xo_refusal_1 x1 h1)) (fun r1 P1 g1 => mpp 903 rfl ?_)
    obtain ⟨rfl, hM⟩ := g1
    show MEvP _ _ lawq 903 [(3, .int 0), (2, .ref 301), (1, .ref 0), (0, .long 0)] [.int (-1002)] _ _ _ _
    refine mp_a (a_aload_n dL_law_903 rfl) (mpp 904 rfl ?_)
    refine mp_a (a_aload_nT dL_law_904 rfl) (mpp 905 rfl ?_)
    refine mp_a (a_iload_n dL_law_905 rfl) (mpp 906 rfl ?_)
    refine mp_a (a_iconst (v := 1) dL_law_906 rfl) (mpp 907 rfl ?_)
    refine mp_t (s_iadd (v := 1) dL_law_907 (by decide)) (mpp 908 rfl ?_)
    refine mp_sld (v := x1) (N := 4) dL_law_908 rfl (by decide) rfl (mpp 909 rfl ?_)
    refine mp_callv (i := 124) (q' := q_228) (As := [.int x1]) (rest := [.int (-1002)]) dL_law_909 rfl qm_228 (by decide) rfl (hM.f (by decide) p0_301) (by decide) (Nat.le_of_ble_eq_true rfl) rfl ⟨rfl, rfl⟩ ⟨Nat.le_of_ble_eq_true rfl, Nat.le_of_ble_eq_true rfl⟩ (EvP.mono (by decide) (mo_refusal_1 x1 hM h1)) (fun r1 P1 g1 => mpp 912 rfl ?_)
    obtain rfl := g1
    show MEvP _ _ lawq 912 [(3, .int 0), (2, .ref 301), (1, .ref 0), (0, .long 0)] [.int (-1002), .int (-1002)] _ _ _ _
    refine mp_Tt (t := 992) (j_icmp_eq dL_law_912) rfl (by decide) ?_
    refine mp_a (a_iinc (v := 4) (L' := [(3, .int 4), (2, .ref 301), (1, .ref 0), (0, .long 0)]) dL_law_992 (by decide) rfl rfl rfl) (mpp 995 rfl ?_)
    refine mp_a (a_goto (t := 18) dL_law_995 (by decide)) ?_
    exact law_done
  · by_cases h2 : 2 < x1
    · refine mp_a (a_aload_n dL_law_894 rfl) (mpp 895 rfl ?_)
      refine mp_a (a_aload_nT dL_law_895 rfl) (mpp 896 rfl ?_)
      refine mp_a (a_iload_n dL_law_896 rfl) (mpp 897 rfl ?_)
      refine mp_a (a_iconst (v := 1) dL_law_897 rfl) (mpp 898 rfl ?_)
      refine mp_t (s_iadd (v := 1) dL_law_898 (by decide)) (mpp 899 rfl ?_)
      refine mp_sld (v := x1) (N := 4) dL_law_899 rfl (by decide) rfl (mpp 900 rfl ?_)
      refine mp_callv (i := 121) (q' := q_109) (As := [.int x1]) (rest := []) dL_law_900 rfl qm_109 (by decide) rfl p0_0 (by decide) (Nat.le_of_ble_eq_true rfl) rfl ⟨rfl, rfl⟩ ⟨Nat.le_of_ble_eq_true rfl, Nat.le_of_ble_eq_true rfl⟩ (EvP.mono (by decide) (xo_refusal_2 x1 h1 h2)) (fun r1 P1 g1 => mpp 903 rfl ?_)
      obtain ⟨rfl, hM⟩ := g1
      show MEvP _ _ lawq 903 [(3, .int 0), (2, .ref 301), (1, .ref 0), (0, .long 0)] [.int (-1002)] _ _ _ _
      refine mp_a (a_aload_n dL_law_903 rfl) (mpp 904 rfl ?_)
      refine mp_a (a_aload_nT dL_law_904 rfl) (mpp 905 rfl ?_)
      refine mp_a (a_iload_n dL_law_905 rfl) (mpp 906 rfl ?_)
      refine mp_a (a_iconst (v := 1) dL_law_906 rfl) (mpp 907 rfl ?_)
      refine mp_t (s_iadd (v := 1) dL_law_907 (by decide)) (mpp 908 rfl ?_)
      refine mp_sld (v := x1) (N := 4) dL_law_908 rfl (by decide) rfl (mpp 909 rfl ?_)
      refine mp_callv (i := 124) (q' := q_228) (As := [.int x1]) (rest := [.int (-1002)]) dL_law_909 rfl qm_228 (by decide) rfl (hM.f (by decide) p0_301) (by decide) (Nat.le_of_ble_eq_true rfl) rfl ⟨rfl, rfl⟩ ⟨Nat.le_of_ble_eq_true rfl, Nat.le_of_ble_eq_true rfl⟩ (EvP.mono (by decide) (mo_refusal_2 x1 hM h1 h2)) (fun r1 P1 g1 => mpp 912 rfl ?_)
      obtain rfl := g1
      show MEvP _ _ lawq 912 [(3, .int 0), (2, .ref 301), (1, .ref 0), (0, .long 0)] [.int (-1002), .int (-1002)] _ _ _ _
      refine mp_Tt (t := 992) (j_icmp_eq dL_law_912) rfl (by decide) ?_
      refine mp_a (a_iinc (v := 4) (L' := [(3, .int 4), (2, .ref 301), (1, .ref 0), (0, .long 0)]) dL_law_992 (by decide) rfl rfl rfl) (mpp 995 rfl ?_)
      refine mp_a (a_goto (t := 18) dL_law_995 (by decide)) ?_
      exact law_done
    · refine mp_a (a_aload_n dL_law_894 rfl) (mpp 895 rfl ?_)
      refine mp_a (a_aload_nT dL_law_895 rfl) (mpp 896 rfl ?_)
      refine mp_a (a_iload_n dL_law_896 rfl) (mpp 897 rfl ?_)
      refine mp_a (a_iconst (v := 1) dL_law_897 rfl) (mpp 898 rfl ?_)
      refine mp_t (s_iadd (v := 1) dL_law_898 (by decide)) (mpp 899 rfl ?_)
      refine mp_sld (v := x1) (N := 4) dL_law_899 rfl (by decide) rfl (mpp 900 rfl ?_)
      refine mp_callv (i := 121) (q' := q_109) (As := [.int x1]) (rest := []) dL_law_900 rfl qm_109 (by decide) rfl p0_0 (by decide) (Nat.le_of_ble_eq_true rfl) rfl ⟨rfl, rfl⟩ ⟨Nat.le_of_ble_eq_true rfl, Nat.le_of_ble_eq_true rfl⟩ (EvP.mono (by decide) (xo_refusal_3 x1 h1 h2)) (fun r1 P1 g1 => mpp 903 rfl ?_)
      obtain ⟨rfl, hM⟩ := g1
      show MEvP _ _ lawq 903 [(3, .int 0), (2, .ref 301), (1, .ref 0), (0, .long 0)] [.int (-1004)] _ _ _ _
      refine mp_a (a_aload_n dL_law_903 rfl) (mpp 904 rfl ?_)
      refine mp_a (a_aload_nT dL_law_904 rfl) (mpp 905 rfl ?_)
      refine mp_a (a_iload_n dL_law_905 rfl) (mpp 906 rfl ?_)
      refine mp_a (a_iconst (v := 1) dL_law_906 rfl) (mpp 907 rfl ?_)
      refine mp_t (s_iadd (v := 1) dL_law_907 (by decide)) (mpp 908 rfl ?_)
      refine mp_sld (v := x1) (N := 4) dL_law_908 rfl (by decide) rfl (mpp 909 rfl ?_)
      refine mp_callv (i := 124) (q' := q_228) (As := [.int x1]) (rest := [.int (-1004)]) dL_law_909 rfl qm_228 (by decide) rfl (hM.f (by decide) p0_301) (by decide) (Nat.le_of_ble_eq_true rfl) rfl ⟨rfl, rfl⟩ ⟨Nat.le_of_ble_eq_true rfl, Nat.le_of_ble_eq_true rfl⟩ (EvP.mono (by decide) (mo_refusal_3 x1 hM h1 h2)) (fun r1 P1 g1 => mpp 912 rfl ?_)
      obtain rfl := g1
      show MEvP _ _ lawq 912 [(3, .int 0), (2, .ref 301), (1, .ref 0), (0, .long 0)] [.int (-1004), .int (-1004)] _ _ _ _
      refine mp_Tt (t := 992) (j_icmp_eq dL_law_912) rfl (by decide) ?_
      refine mp_a (a_iinc (v := 4) (L' := [(3, .int 4), (2, .ref 301), (1, .ref 0), (0, .long 0)]) dL_law_992 (by decide) rfl rfl rfl) (mpp 995 rfl ?_)
      refine mp_a (a_goto (t := 18) dL_law_995 (by decide)) ?_
      exact law_done

set_option maxRecDepth 100000 in
set_option maxHeartbeats 4000000 in
theorem law_case27 {x0 x1 x2 x3 : Int32} : MEvP 20 (some [x0, x1, x2, x3]) lawq 917 [(3, .int 0), (2, .ref 301), (1, .ref 0), (0, .long 0)] [] P0 315 4038 (fun r _ => r = some (.int 1)) := by
  by_cases h1 : x1.toInt < 0 ∨ 12 < x1.toInt
  · refine mp_a (a_aload_n dL_law_917 rfl) (mpp 918 rfl ?_)
    refine mp_a (a_aload_nT dL_law_918 rfl) (mpp 919 rfl ?_)
    refine mp_a (a_iload_n dL_law_919 rfl) (mpp 920 rfl ?_)
    refine mp_a (a_iconst (v := 1) dL_law_920 rfl) (mpp 921 rfl ?_)
    refine mp_t (s_iadd (v := 1) dL_law_921 (by decide)) (mpp 922 rfl ?_)
    refine mp_sld (v := x1) (N := 4) dL_law_922 rfl (by decide) rfl (mpp 923 rfl ?_)
    refine mp_callv (i := 125) (q' := q_110) (As := [.int x1]) (rest := []) dL_law_923 rfl qm_110 (by decide) rfl p0_0 (by decide) (Nat.le_of_ble_eq_true rfl) rfl ⟨rfl, rfl⟩ ⟨Nat.le_of_ble_eq_true rfl, Nat.le_of_ble_eq_true rfl⟩ (EvP.mono (by decide) (xo_account_o x1 h1)) (fun r1 P1 g1 => mpp 926 rfl ?_)
    obtain ⟨rfl, hM⟩ := g1
    show MEvP _ _ lawq 926 [(3, .int 0), (2, .ref 301), (1, .ref 0), (0, .long 0)] [.int (-1002)] _ _ _ _
    refine mp_a (a_aload_n dL_law_926 rfl) (mpp 927 rfl ?_)
    refine mp_a (a_aload_nT dL_law_927 rfl) (mpp 928 rfl ?_)
    refine mp_a (a_iload_n dL_law_928 rfl) (mpp 929 rfl ?_)
    refine mp_a (a_iconst (v := 1) dL_law_929 rfl) (mpp 930 rfl ?_)
    refine mp_t (s_iadd (v := 1) dL_law_930 (by decide)) (mpp 931 rfl ?_)
    refine mp_sld (v := x1) (N := 4) dL_law_931 rfl (by decide) rfl (mpp 932 rfl ?_)
    refine mp_callv (i := 128) (q' := q_229) (As := [.int x1]) (rest := [.int (-1002)]) dL_law_932 rfl qm_229 (by decide) rfl (hM.f (by decide) p0_301) (by decide) (Nat.le_of_ble_eq_true rfl) rfl ⟨rfl, rfl⟩ ⟨Nat.le_of_ble_eq_true rfl, Nat.le_of_ble_eq_true rfl⟩ (EvP.mono (by decide) (mo_account_o x1 hM h1)) (fun r1 P1 g1 => mpp 935 rfl ?_)
    obtain rfl := g1
    show MEvP _ _ lawq 935 [(3, .int 0), (2, .ref 301), (1, .ref 0), (0, .long 0)] [.int (-1002), .int (-1002)] _ _ _ _
    refine mp_Tt (t := 992) (j_icmp_eq dL_law_935) rfl (by decide) ?_
    refine mp_a (a_iinc (v := 4) (L' := [(3, .int 4), (2, .ref 301), (1, .ref 0), (0, .long 0)]) dL_law_992 (by decide) rfl rfl rfl) (mpp 995 rfl ?_)
    refine mp_a (a_goto (t := 18) dL_law_995 (by decide)) ?_
    exact law_done
  · obtain ⟨j, hj, rfl⟩ := i_13 h1
    match j, hj with
    | 0, _ =>
      show MEvP 20 (some [x0, 0, x2, x3]) lawq 917 [(3, .int 0), (2, .ref 301), (1, .ref 0), (0, .long 0)] [] P0 315 4038 (fun r _ => r = some (.int 1))
      refine mp_a (a_aload_n dL_law_917 rfl) (mpp 918 rfl ?_)
      refine mp_a (a_aload_nT dL_law_918 rfl) (mpp 919 rfl ?_)
      refine mp_a (a_iload_n dL_law_919 rfl) (mpp 920 rfl ?_)
      refine mp_a (a_iconst (v := 1) dL_law_920 rfl) (mpp 921 rfl ?_)
      refine mp_t (s_iadd (v := 1) dL_law_921 (by decide)) (mpp 922 rfl ?_)
      refine mp_sld (v := 0) (N := 4) dL_law_922 rfl (by decide) rfl (mpp 923 rfl ?_)
      refine mp_callv (i := 125) (q' := q_110) (As := [.int 0]) (rest := []) dL_law_923 rfl qm_110 (by decide) rfl p0_0 (by decide) (Nat.le_of_ble_eq_true rfl) rfl ⟨rfl, rfl⟩ ⟨Nat.le_of_ble_eq_true rfl, Nat.le_of_ble_eq_true rfl⟩ (EvP.mono (by decide) xo_account_0) (fun r1 P1 g1 => mpp 926 rfl ?_)
      obtain ⟨rfl, hM⟩ := g1
      show MEvP _ _ lawq 926 [(3, .int 0), (2, .ref 301), (1, .ref 0), (0, .long 0)] [.int 0] _ _ _ _
      refine mp_a (a_aload_n dL_law_926 rfl) (mpp 927 rfl ?_)
      refine mp_a (a_aload_nT dL_law_927 rfl) (mpp 928 rfl ?_)
      refine mp_a (a_iload_n dL_law_928 rfl) (mpp 929 rfl ?_)
      refine mp_a (a_iconst (v := 1) dL_law_929 rfl) (mpp 930 rfl ?_)
      refine mp_t (s_iadd (v := 1) dL_law_930 (by decide)) (mpp 931 rfl ?_)
      refine mp_sld (v := 0) (N := 4) dL_law_931 rfl (by decide) rfl (mpp 932 rfl ?_)
      refine mp_callv (i := 128) (q' := q_229) (As := [.int 0]) (rest := [.int 0]) dL_law_932 rfl qm_229 (by decide) rfl (hM.f (by decide) p0_301) (by decide) (Nat.le_of_ble_eq_true rfl) rfl ⟨rfl, rfl⟩ ⟨Nat.le_of_ble_eq_true rfl, Nat.le_of_ble_eq_true rfl⟩ (EvP.mono (by decide) (mo_account_0 hM)) (fun r1 P1 g1 => mpp 935 rfl ?_)
      obtain rfl := g1
      show MEvP _ _ lawq 935 [(3, .int 0), (2, .ref 301), (1, .ref 0), (0, .long 0)] [.int 0, .int 0] _ _ _ _
      refine mp_Tt (t := 992) (j_icmp_eq dL_law_935) rfl (by decide) ?_
      refine mp_a (a_iinc (v := 4) (L' := [(3, .int 4), (2, .ref 301), (1, .ref 0), (0, .long 0)]) dL_law_992 (by decide) rfl rfl rfl) (mpp 995 rfl ?_)
      refine mp_a (a_goto (t := 18) dL_law_995 (by decide)) ?_
      exact law_done
    | 1, _ =>
      show MEvP 20 (some [x0, 1, x2, x3]) lawq 917 [(3, .int 0), (2, .ref 301), (1, .ref 0), (0, .long 0)] [] P0 315 4038 (fun r _ => r = some (.int 1))
      refine mp_a (a_aload_n dL_law_917 rfl) (mpp 918 rfl ?_)
      refine mp_a (a_aload_nT dL_law_918 rfl) (mpp 919 rfl ?_)
      refine mp_a (a_iload_n dL_law_919 rfl) (mpp 920 rfl ?_)
      refine mp_a (a_iconst (v := 1) dL_law_920 rfl) (mpp 921 rfl ?_)
      refine mp_t (s_iadd (v := 1) dL_law_921 (by decide)) (mpp 922 rfl ?_)
      refine mp_sld (v := 1) (N := 4) dL_law_922 rfl (by decide) rfl (mpp 923 rfl ?_)
      refine mp_callv (i := 125) (q' := q_110) (As := [.int 1]) (rest := []) dL_law_923 rfl qm_110 (by decide) rfl p0_0 (by decide) (Nat.le_of_ble_eq_true rfl) rfl ⟨rfl, rfl⟩ ⟨Nat.le_of_ble_eq_true rfl, Nat.le_of_ble_eq_true rfl⟩ (EvP.mono (by decide) xo_account_1) (fun r1 P1 g1 => mpp 926 rfl ?_)
      obtain ⟨rfl, hM⟩ := g1
      show MEvP _ _ lawq 926 [(3, .int 0), (2, .ref 301), (1, .ref 0), (0, .long 0)] [.int 0] _ _ _ _
      refine mp_a (a_aload_n dL_law_926 rfl) (mpp 927 rfl ?_)
      refine mp_a (a_aload_nT dL_law_927 rfl) (mpp 928 rfl ?_)
      refine mp_a (a_iload_n dL_law_928 rfl) (mpp 929 rfl ?_)
      refine mp_a (a_iconst (v := 1) dL_law_929 rfl) (mpp 930 rfl ?_)
      refine mp_t (s_iadd (v := 1) dL_law_930 (by decide)) (mpp 931 rfl ?_)
      refine mp_sld (v := 1) (N := 4) dL_law_931 rfl (by decide) rfl (mpp 932 rfl ?_)
      refine mp_callv (i := 128) (q' := q_229) (As := [.int 1]) (rest := [.int 0]) dL_law_932 rfl qm_229 (by decide) rfl (hM.f (by decide) p0_301) (by decide) (Nat.le_of_ble_eq_true rfl) rfl ⟨rfl, rfl⟩ ⟨Nat.le_of_ble_eq_true rfl, Nat.le_of_ble_eq_true rfl⟩ (EvP.mono (by decide) (mo_account_1 hM)) (fun r1 P1 g1 => mpp 935 rfl ?_)
      obtain rfl := g1
      show MEvP _ _ lawq 935 [(3, .int 0), (2, .ref 301), (1, .ref 0), (0, .long 0)] [.int 0, .int 0] _ _ _ _
      refine mp_Tt (t := 992) (j_icmp_eq dL_law_935) rfl (by decide) ?_
      refine mp_a (a_iinc (v := 4) (L' := [(3, .int 4), (2, .ref 301), (1, .ref 0), (0, .long 0)]) dL_law_992 (by decide) rfl rfl rfl) (mpp 995 rfl ?_)
      refine mp_a (a_goto (t := 18) dL_law_995 (by decide)) ?_
      exact law_done
    | 2, _ =>
      show MEvP 20 (some [x0, 2, x2, x3]) lawq 917 [(3, .int 0), (2, .ref 301), (1, .ref 0), (0, .long 0)] [] P0 315 4038 (fun r _ => r = some (.int 1))
      refine mp_a (a_aload_n dL_law_917 rfl) (mpp 918 rfl ?_)
      refine mp_a (a_aload_nT dL_law_918 rfl) (mpp 919 rfl ?_)
      refine mp_a (a_iload_n dL_law_919 rfl) (mpp 920 rfl ?_)
      refine mp_a (a_iconst (v := 1) dL_law_920 rfl) (mpp 921 rfl ?_)
      refine mp_t (s_iadd (v := 1) dL_law_921 (by decide)) (mpp 922 rfl ?_)
      refine mp_sld (v := 2) (N := 4) dL_law_922 rfl (by decide) rfl (mpp 923 rfl ?_)
      refine mp_callv (i := 125) (q' := q_110) (As := [.int 2]) (rest := []) dL_law_923 rfl qm_110 (by decide) rfl p0_0 (by decide) (Nat.le_of_ble_eq_true rfl) rfl ⟨rfl, rfl⟩ ⟨Nat.le_of_ble_eq_true rfl, Nat.le_of_ble_eq_true rfl⟩ (EvP.mono (by decide) xo_account_2) (fun r1 P1 g1 => mpp 926 rfl ?_)
      obtain ⟨rfl, hM⟩ := g1
      show MEvP _ _ lawq 926 [(3, .int 0), (2, .ref 301), (1, .ref 0), (0, .long 0)] [.int 0] _ _ _ _
      refine mp_a (a_aload_n dL_law_926 rfl) (mpp 927 rfl ?_)
      refine mp_a (a_aload_nT dL_law_927 rfl) (mpp 928 rfl ?_)
      refine mp_a (a_iload_n dL_law_928 rfl) (mpp 929 rfl ?_)
      refine mp_a (a_iconst (v := 1) dL_law_929 rfl) (mpp 930 rfl ?_)
      refine mp_t (s_iadd (v := 1) dL_law_930 (by decide)) (mpp 931 rfl ?_)
      refine mp_sld (v := 2) (N := 4) dL_law_931 rfl (by decide) rfl (mpp 932 rfl ?_)
      refine mp_callv (i := 128) (q' := q_229) (As := [.int 2]) (rest := [.int 0]) dL_law_932 rfl qm_229 (by decide) rfl (hM.f (by decide) p0_301) (by decide) (Nat.le_of_ble_eq_true rfl) rfl ⟨rfl, rfl⟩ ⟨Nat.le_of_ble_eq_true rfl, Nat.le_of_ble_eq_true rfl⟩ (EvP.mono (by decide) (mo_account_2 hM)) (fun r1 P1 g1 => mpp 935 rfl ?_)
      obtain rfl := g1
      show MEvP _ _ lawq 935 [(3, .int 0), (2, .ref 301), (1, .ref 0), (0, .long 0)] [.int 0, .int 0] _ _ _ _
      refine mp_Tt (t := 992) (j_icmp_eq dL_law_935) rfl (by decide) ?_
      refine mp_a (a_iinc (v := 4) (L' := [(3, .int 4), (2, .ref 301), (1, .ref 0), (0, .long 0)]) dL_law_992 (by decide) rfl rfl rfl) (mpp 995 rfl ?_)
      refine mp_a (a_goto (t := 18) dL_law_995 (by decide)) ?_
      exact law_done
    | 3, _ =>
      show MEvP 20 (some [x0, 3, x2, x3]) lawq 917 [(3, .int 0), (2, .ref 301), (1, .ref 0), (0, .long 0)] [] P0 315 4038 (fun r _ => r = some (.int 1))
      refine mp_a (a_aload_n dL_law_917 rfl) (mpp 918 rfl ?_)
      refine mp_a (a_aload_nT dL_law_918 rfl) (mpp 919 rfl ?_)
      refine mp_a (a_iload_n dL_law_919 rfl) (mpp 920 rfl ?_)
      refine mp_a (a_iconst (v := 1) dL_law_920 rfl) (mpp 921 rfl ?_)
      refine mp_t (s_iadd (v := 1) dL_law_921 (by decide)) (mpp 922 rfl ?_)
      refine mp_sld (v := 3) (N := 4) dL_law_922 rfl (by decide) rfl (mpp 923 rfl ?_)
      refine mp_callv (i := 125) (q' := q_110) (As := [.int 3]) (rest := []) dL_law_923 rfl qm_110 (by decide) rfl p0_0 (by decide) (Nat.le_of_ble_eq_true rfl) rfl ⟨rfl, rfl⟩ ⟨Nat.le_of_ble_eq_true rfl, Nat.le_of_ble_eq_true rfl⟩ (EvP.mono (by decide) xo_account_3) (fun r1 P1 g1 => mpp 926 rfl ?_)
      obtain ⟨rfl, hM⟩ := g1
      show MEvP _ _ lawq 926 [(3, .int 0), (2, .ref 301), (1, .ref 0), (0, .long 0)] [.int 0] _ _ _ _
      refine mp_a (a_aload_n dL_law_926 rfl) (mpp 927 rfl ?_)
      refine mp_a (a_aload_nT dL_law_927 rfl) (mpp 928 rfl ?_)
      refine mp_a (a_iload_n dL_law_928 rfl) (mpp 929 rfl ?_)
      refine mp_a (a_iconst (v := 1) dL_law_929 rfl) (mpp 930 rfl ?_)
      refine mp_t (s_iadd (v := 1) dL_law_930 (by decide)) (mpp 931 rfl ?_)
      refine mp_sld (v := 3) (N := 4) dL_law_931 rfl (by decide) rfl (mpp 932 rfl ?_)
      refine mp_callv (i := 128) (q' := q_229) (As := [.int 3]) (rest := [.int 0]) dL_law_932 rfl qm_229 (by decide) rfl (hM.f (by decide) p0_301) (by decide) (Nat.le_of_ble_eq_true rfl) rfl ⟨rfl, rfl⟩ ⟨Nat.le_of_ble_eq_true rfl, Nat.le_of_ble_eq_true rfl⟩ (EvP.mono (by decide) (mo_account_3 hM)) (fun r1 P1 g1 => mpp 935 rfl ?_)
      obtain rfl := g1
      show MEvP _ _ lawq 935 [(3, .int 0), (2, .ref 301), (1, .ref 0), (0, .long 0)] [.int 0, .int 0] _ _ _ _
      refine mp_Tt (t := 992) (j_icmp_eq dL_law_935) rfl (by decide) ?_
      refine mp_a (a_iinc (v := 4) (L' := [(3, .int 4), (2, .ref 301), (1, .ref 0), (0, .long 0)]) dL_law_992 (by decide) rfl rfl rfl) (mpp 995 rfl ?_)
      refine mp_a (a_goto (t := 18) dL_law_995 (by decide)) ?_
      exact law_done
    | 4, _ =>
      show MEvP 20 (some [x0, 4, x2, x3]) lawq 917 [(3, .int 0), (2, .ref 301), (1, .ref 0), (0, .long 0)] [] P0 315 4038 (fun r _ => r = some (.int 1))
      refine mp_a (a_aload_n dL_law_917 rfl) (mpp 918 rfl ?_)
      refine mp_a (a_aload_nT dL_law_918 rfl) (mpp 919 rfl ?_)
      refine mp_a (a_iload_n dL_law_919 rfl) (mpp 920 rfl ?_)
      refine mp_a (a_iconst (v := 1) dL_law_920 rfl) (mpp 921 rfl ?_)
      refine mp_t (s_iadd (v := 1) dL_law_921 (by decide)) (mpp 922 rfl ?_)
      refine mp_sld (v := 4) (N := 4) dL_law_922 rfl (by decide) rfl (mpp 923 rfl ?_)
      refine mp_callv (i := 125) (q' := q_110) (As := [.int 4]) (rest := []) dL_law_923 rfl qm_110 (by decide) rfl p0_0 (by decide) (Nat.le_of_ble_eq_true rfl) rfl ⟨rfl, rfl⟩ ⟨Nat.le_of_ble_eq_true rfl, Nat.le_of_ble_eq_true rfl⟩ (EvP.mono (by decide) xo_account_4) (fun r1 P1 g1 => mpp 926 rfl ?_)
      obtain ⟨rfl, hM⟩ := g1
      show MEvP _ _ lawq 926 [(3, .int 0), (2, .ref 301), (1, .ref 0), (0, .long 0)] [.int 30] _ _ _ _
      refine mp_a (a_aload_n dL_law_926 rfl) (mpp 927 rfl ?_)
      refine mp_a (a_aload_nT dL_law_927 rfl) (mpp 928 rfl ?_)
      refine mp_a (a_iload_n dL_law_928 rfl) (mpp 929 rfl ?_)
      refine mp_a (a_iconst (v := 1) dL_law_929 rfl) (mpp 930 rfl ?_)
      refine mp_t (s_iadd (v := 1) dL_law_930 (by decide)) (mpp 931 rfl ?_)
      refine mp_sld (v := 4) (N := 4) dL_law_931 rfl (by decide) rfl (mpp 932 rfl ?_)
      refine mp_callv (i := 128) (q' := q_229) (As := [.int 4]) (rest := [.int 30]) dL_law_932 rfl qm_229 (by decide) rfl (hM.f (by decide) p0_301) (by decide) (Nat.le_of_ble_eq_true rfl) rfl ⟨rfl, rfl⟩ ⟨Nat.le_of_ble_eq_true rfl, Nat.le_of_ble_eq_true rfl⟩ (EvP.mono (by decide) (mo_account_4 hM)) (fun r1 P1 g1 => mpp 935 rfl ?_)
      obtain rfl := g1
      show MEvP _ _ lawq 935 [(3, .int 0), (2, .ref 301), (1, .ref 0), (0, .long 0)] [.int 30, .int 30] _ _ _ _
      refine mp_Tt (t := 992) (j_icmp_eq dL_law_935) rfl (by decide) ?_
      refine mp_a (a_iinc (v := 4) (L' := [(3, .int 4), (2, .ref 301), (1, .ref 0), (0, .long 0)]) dL_law_992 (by decide) rfl rfl rfl) (mpp 995 rfl ?_)
      refine mp_a (a_goto (t := 18) dL_law_995 (by decide)) ?_
      exact law_done
    | 5, _ =>
      show MEvP 20 (some [x0, 5, x2, x3]) lawq 917 [(3, .int 0), (2, .ref 301), (1, .ref 0), (0, .long 0)] [] P0 315 4038 (fun r _ => r = some (.int 1))
      refine mp_a (a_aload_n dL_law_917 rfl) (mpp 918 rfl ?_)
      refine mp_a (a_aload_nT dL_law_918 rfl) (mpp 919 rfl ?_)
      refine mp_a (a_iload_n dL_law_919 rfl) (mpp 920 rfl ?_)
      refine mp_a (a_iconst (v := 1) dL_law_920 rfl) (mpp 921 rfl ?_)
      refine mp_t (s_iadd (v := 1) dL_law_921 (by decide)) (mpp 922 rfl ?_)
      refine mp_sld (v := 5) (N := 4) dL_law_922 rfl (by decide) rfl (mpp 923 rfl ?_)
      refine mp_callv (i := 125) (q' := q_110) (As := [.int 5]) (rest := []) dL_law_923 rfl qm_110 (by decide) rfl p0_0 (by decide) (Nat.le_of_ble_eq_true rfl) rfl ⟨rfl, rfl⟩ ⟨Nat.le_of_ble_eq_true rfl, Nat.le_of_ble_eq_true rfl⟩ (EvP.mono (by decide) xo_account_5) (fun r1 P1 g1 => mpp 926 rfl ?_)
      obtain ⟨rfl, hM⟩ := g1
      show MEvP _ _ lawq 926 [(3, .int 0), (2, .ref 301), (1, .ref 0), (0, .long 0)] [.int 30] _ _ _ _
      refine mp_a (a_aload_n dL_law_926 rfl) (mpp 927 rfl ?_)
      refine mp_a (a_aload_nT dL_law_927 rfl) (mpp 928 rfl ?_)
      refine mp_a (a_iload_n dL_law_928 rfl) (mpp 929 rfl ?_)
      refine mp_a (a_iconst (v := 1) dL_law_929 rfl) (mpp 930 rfl ?_)
      refine mp_t (s_iadd (v := 1) dL_law_930 (by decide)) (mpp 931 rfl ?_)
      refine mp_sld (v := 5) (N := 4) dL_law_931 rfl (by decide) rfl (mpp 932 rfl ?_)
      refine mp_callv (i := 128) (q' := q_229) (As := [.int 5]) (rest := [.int 30]) dL_law_932 rfl qm_229 (by decide) rfl (hM.f (by decide) p0_301) (by decide) (Nat.le_of_ble_eq_true rfl) rfl ⟨rfl, rfl⟩ ⟨Nat.le_of_ble_eq_true rfl, Nat.le_of_ble_eq_true rfl⟩ (EvP.mono (by decide) (mo_account_5 hM)) (fun r1 P1 g1 => mpp 935 rfl ?_)
      obtain rfl := g1
      show MEvP _ _ lawq 935 [(3, .int 0), (2, .ref 301), (1, .ref 0), (0, .long 0)] [.int 30, .int 30] _ _ _ _
      refine mp_Tt (t := 992) (j_icmp_eq dL_law_935) rfl (by decide) ?_
      refine mp_a (a_iinc (v := 4) (L' := [(3, .int 4), (2, .ref 301), (1, .ref 0), (0, .long 0)]) dL_law_992 (by decide) rfl rfl rfl) (mpp 995 rfl ?_)
      refine mp_a (a_goto (t := 18) dL_law_995 (by decide)) ?_
      exact law_done
    | 6, _ =>
      show MEvP 20 (some [x0, 6, x2, x3]) lawq 917 [(3, .int 0), (2, .ref 301), (1, .ref 0), (0, .long 0)] [] P0 315 4038 (fun r _ => r = some (.int 1))
      refine mp_a (a_aload_n dL_law_917 rfl) (mpp 918 rfl ?_)
      refine mp_a (a_aload_nT dL_law_918 rfl) (mpp 919 rfl ?_)
      refine mp_a (a_iload_n dL_law_919 rfl) (mpp 920 rfl ?_)
      refine mp_a (a_iconst (v := 1) dL_law_920 rfl) (mpp 921 rfl ?_)
      refine mp_t (s_iadd (v := 1) dL_law_921 (by decide)) (mpp 922 rfl ?_)
      refine mp_sld (v := 6) (N := 4) dL_law_922 rfl (by decide) rfl (mpp 923 rfl ?_)
      refine mp_callv (i := 125) (q' := q_110) (As := [.int 6]) (rest := []) dL_law_923 rfl qm_110 (by decide) rfl p0_0 (by decide) (Nat.le_of_ble_eq_true rfl) rfl ⟨rfl, rfl⟩ ⟨Nat.le_of_ble_eq_true rfl, Nat.le_of_ble_eq_true rfl⟩ (EvP.mono (by decide) xo_account_6) (fun r1 P1 g1 => mpp 926 rfl ?_)
      obtain ⟨rfl, hM⟩ := g1
      show MEvP _ _ lawq 926 [(3, .int 0), (2, .ref 301), (1, .ref 0), (0, .long 0)] [.int 0] _ _ _ _
      refine mp_a (a_aload_n dL_law_926 rfl) (mpp 927 rfl ?_)
      refine mp_a (a_aload_nT dL_law_927 rfl) (mpp 928 rfl ?_)
      refine mp_a (a_iload_n dL_law_928 rfl) (mpp 929 rfl ?_)
      refine mp_a (a_iconst (v := 1) dL_law_929 rfl) (mpp 930 rfl ?_)
      refine mp_t (s_iadd (v := 1) dL_law_930 (by decide)) (mpp 931 rfl ?_)
      refine mp_sld (v := 6) (N := 4) dL_law_931 rfl (by decide) rfl (mpp 932 rfl ?_)
      refine mp_callv (i := 128) (q' := q_229) (As := [.int 6]) (rest := [.int 0]) dL_law_932 rfl qm_229 (by decide) rfl (hM.f (by decide) p0_301) (by decide) (Nat.le_of_ble_eq_true rfl) rfl ⟨rfl, rfl⟩ ⟨Nat.le_of_ble_eq_true rfl, Nat.le_of_ble_eq_true rfl⟩ (EvP.mono (by decide) (mo_account_6 hM)) (fun r1 P1 g1 => mpp 935 rfl ?_)
      obtain rfl := g1
      show MEvP _ _ lawq 935 [(3, .int 0), (2, .ref 301), (1, .ref 0), (0, .long 0)] [.int 0, .int 0] _ _ _ _
      refine mp_Tt (t := 992) (j_icmp_eq dL_law_935) rfl (by decide) ?_
      refine mp_a (a_iinc (v := 4) (L' := [(3, .int 4), (2, .ref 301), (1, .ref 0), (0, .long 0)]) dL_law_992 (by decide) rfl rfl rfl) (mpp 995 rfl ?_)
      refine mp_a (a_goto (t := 18) dL_law_995 (by decide)) ?_
      exact law_done
    | 7, _ =>
      show MEvP 20 (some [x0, 7, x2, x3]) lawq 917 [(3, .int 0), (2, .ref 301), (1, .ref 0), (0, .long 0)] [] P0 315 4038 (fun r _ => r = some (.int 1))
      refine mp_a (a_aload_n dL_law_917 rfl) (mpp 918 rfl ?_)
      refine mp_a (a_aload_nT dL_law_918 rfl) (mpp 919 rfl ?_)
      refine mp_a (a_iload_n dL_law_919 rfl) (mpp 920 rfl ?_)
      refine mp_a (a_iconst (v := 1) dL_law_920 rfl) (mpp 921 rfl ?_)
      refine mp_t (s_iadd (v := 1) dL_law_921 (by decide)) (mpp 922 rfl ?_)
      refine mp_sld (v := 7) (N := 4) dL_law_922 rfl (by decide) rfl (mpp 923 rfl ?_)
      refine mp_callv (i := 125) (q' := q_110) (As := [.int 7]) (rest := []) dL_law_923 rfl qm_110 (by decide) rfl p0_0 (by decide) (Nat.le_of_ble_eq_true rfl) rfl ⟨rfl, rfl⟩ ⟨Nat.le_of_ble_eq_true rfl, Nat.le_of_ble_eq_true rfl⟩ (EvP.mono (by decide) xo_account_7) (fun r1 P1 g1 => mpp 926 rfl ?_)
      obtain ⟨rfl, hM⟩ := g1
      show MEvP _ _ lawq 926 [(3, .int 0), (2, .ref 301), (1, .ref 0), (0, .long 0)] [.int 0] _ _ _ _
      refine mp_a (a_aload_n dL_law_926 rfl) (mpp 927 rfl ?_)
      refine mp_a (a_aload_nT dL_law_927 rfl) (mpp 928 rfl ?_)
      refine mp_a (a_iload_n dL_law_928 rfl) (mpp 929 rfl ?_)
      refine mp_a (a_iconst (v := 1) dL_law_929 rfl) (mpp 930 rfl ?_)
      refine mp_t (s_iadd (v := 1) dL_law_930 (by decide)) (mpp 931 rfl ?_)
      refine mp_sld (v := 7) (N := 4) dL_law_931 rfl (by decide) rfl (mpp 932 rfl ?_)
      refine mp_callv (i := 128) (q' := q_229) (As := [.int 7]) (rest := [.int 0]) dL_law_932 rfl qm_229 (by decide) rfl (hM.f (by decide) p0_301) (by decide) (Nat.le_of_ble_eq_true rfl) rfl ⟨rfl, rfl⟩ ⟨Nat.le_of_ble_eq_true rfl, Nat.le_of_ble_eq_true rfl⟩ (EvP.mono (by decide) (mo_account_7 hM)) (fun r1 P1 g1 => mpp 935 rfl ?_)
      obtain rfl := g1
      show MEvP _ _ lawq 935 [(3, .int 0), (2, .ref 301), (1, .ref 0), (0, .long 0)] [.int 0, .int 0] _ _ _ _
      refine mp_Tt (t := 992) (j_icmp_eq dL_law_935) rfl (by decide) ?_
      refine mp_a (a_iinc (v := 4) (L' := [(3, .int 4), (2, .ref 301), (1, .ref 0), (0, .long 0)]) dL_law_992 (by decide) rfl rfl rfl) (mpp 995 rfl ?_)
      refine mp_a (a_goto (t := 18) dL_law_995 (by decide)) ?_
      exact law_done
    | 8, _ =>
      show MEvP 20 (some [x0, 8, x2, x3]) lawq 917 [(3, .int 0), (2, .ref 301), (1, .ref 0), (0, .long 0)] [] P0 315 4038 (fun r _ => r = some (.int 1))
      refine mp_a (a_aload_n dL_law_917 rfl) (mpp 918 rfl ?_)
      refine mp_a (a_aload_nT dL_law_918 rfl) (mpp 919 rfl ?_)
      refine mp_a (a_iload_n dL_law_919 rfl) (mpp 920 rfl ?_)
      refine mp_a (a_iconst (v := 1) dL_law_920 rfl) (mpp 921 rfl ?_)
      refine mp_t (s_iadd (v := 1) dL_law_921 (by decide)) (mpp 922 rfl ?_)
      refine mp_sld (v := 8) (N := 4) dL_law_922 rfl (by decide) rfl (mpp 923 rfl ?_)
      refine mp_callv (i := 125) (q' := q_110) (As := [.int 8]) (rest := []) dL_law_923 rfl qm_110 (by decide) rfl p0_0 (by decide) (Nat.le_of_ble_eq_true rfl) rfl ⟨rfl, rfl⟩ ⟨Nat.le_of_ble_eq_true rfl, Nat.le_of_ble_eq_true rfl⟩ (EvP.mono (by decide) xo_account_8) (fun r1 P1 g1 => mpp 926 rfl ?_)
      obtain ⟨rfl, hM⟩ := g1
      show MEvP _ _ lawq 926 [(3, .int 0), (2, .ref 301), (1, .ref 0), (0, .long 0)] [.int 0] _ _ _ _
      refine mp_a (a_aload_n dL_law_926 rfl) (mpp 927 rfl ?_)
      refine mp_a (a_aload_nT dL_law_927 rfl) (mpp 928 rfl ?_)
      refine mp_a (a_iload_n dL_law_928 rfl) (mpp 929 rfl ?_)
      refine mp_a (a_iconst (v := 1) dL_law_929 rfl) (mpp 930 rfl ?_)
      refine mp_t (s_iadd (v := 1) dL_law_930 (by decide)) (mpp 931 rfl ?_)
      refine mp_sld (v := 8) (N := 4) dL_law_931 rfl (by decide) rfl (mpp 932 rfl ?_)
      refine mp_callv (i := 128) (q' := q_229) (As := [.int 8]) (rest := [.int 0]) dL_law_932 rfl qm_229 (by decide) rfl (hM.f (by decide) p0_301) (by decide) (Nat.le_of_ble_eq_true rfl) rfl ⟨rfl, rfl⟩ ⟨Nat.le_of_ble_eq_true rfl, Nat.le_of_ble_eq_true rfl⟩ (EvP.mono (by decide) (mo_account_8 hM)) (fun r1 P1 g1 => mpp 935 rfl ?_)
      obtain rfl := g1
      show MEvP _ _ lawq 935 [(3, .int 0), (2, .ref 301), (1, .ref 0), (0, .long 0)] [.int 0, .int 0] _ _ _ _
      refine mp_Tt (t := 992) (j_icmp_eq dL_law_935) rfl (by decide) ?_
      refine mp_a (a_iinc (v := 4) (L' := [(3, .int 4), (2, .ref 301), (1, .ref 0), (0, .long 0)]) dL_law_992 (by decide) rfl rfl rfl) (mpp 995 rfl ?_)
      refine mp_a (a_goto (t := 18) dL_law_995 (by decide)) ?_
      exact law_done
    | 9, _ =>
      show MEvP 20 (some [x0, 9, x2, x3]) lawq 917 [(3, .int 0), (2, .ref 301), (1, .ref 0), (0, .long 0)] [] P0 315 4038 (fun r _ => r = some (.int 1))
      refine mp_a (a_aload_n dL_law_917 rfl) (mpp 918 rfl ?_)
      refine mp_a (a_aload_nT dL_law_918 rfl) (mpp 919 rfl ?_)
      refine mp_a (a_iload_n dL_law_919 rfl) (mpp 920 rfl ?_)
      refine mp_a (a_iconst (v := 1) dL_law_920 rfl) (mpp 921 rfl ?_)
      refine mp_t (s_iadd (v := 1) dL_law_921 (by decide)) (mpp 922 rfl ?_)
      refine mp_sld (v := 9) (N := 4) dL_law_922 rfl (by decide) rfl (mpp 923 rfl ?_)
      refine mp_callv (i := 125) (q' := q_110) (As := [.int 9]) (rest := []) dL_law_923 rfl qm_110 (by decide) rfl p0_0 (by decide) (Nat.le_of_ble_eq_true rfl) rfl ⟨rfl, rfl⟩ ⟨Nat.le_of_ble_eq_true rfl, Nat.le_of_ble_eq_true rfl⟩ (EvP.mono (by decide) xo_account_9) (fun r1 P1 g1 => mpp 926 rfl ?_)
      obtain ⟨rfl, hM⟩ := g1
      show MEvP _ _ lawq 926 [(3, .int 0), (2, .ref 301), (1, .ref 0), (0, .long 0)] [.int 0] _ _ _ _
      refine mp_a (a_aload_n dL_law_926 rfl) (mpp 927 rfl ?_)
      refine mp_a (a_aload_nT dL_law_927 rfl) (mpp 928 rfl ?_)
      refine mp_a (a_iload_n dL_law_928 rfl) (mpp 929 rfl ?_)
      refine mp_a (a_iconst (v := 1) dL_law_929 rfl) (mpp 930 rfl ?_)
      refine mp_t (s_iadd (v := 1) dL_law_930 (by decide)) (mpp 931 rfl ?_)
      refine mp_sld (v := 9) (N := 4) dL_law_931 rfl (by decide) rfl (mpp 932 rfl ?_)
      refine mp_callv (i := 128) (q' := q_229) (As := [.int 9]) (rest := [.int 0]) dL_law_932 rfl qm_229 (by decide) rfl (hM.f (by decide) p0_301) (by decide) (Nat.le_of_ble_eq_true rfl) rfl ⟨rfl, rfl⟩ ⟨Nat.le_of_ble_eq_true rfl, Nat.le_of_ble_eq_true rfl⟩ (EvP.mono (by decide) (mo_account_9 hM)) (fun r1 P1 g1 => mpp 935 rfl ?_)
      obtain rfl := g1
      show MEvP _ _ lawq 935 [(3, .int 0), (2, .ref 301), (1, .ref 0), (0, .long 0)] [.int 0, .int 0] _ _ _ _
      refine mp_Tt (t := 992) (j_icmp_eq dL_law_935) rfl (by decide) ?_
      refine mp_a (a_iinc (v := 4) (L' := [(3, .int 4), (2, .ref 301), (1, .ref 0), (0, .long 0)]) dL_law_992 (by decide) rfl rfl rfl) (mpp 995 rfl ?_)
      refine mp_a (a_goto (t := 18) dL_law_995 (by decide)) ?_
      exact law_done
    | 10, _ =>
      show MEvP 20 (some [x0, 10, x2, x3]) lawq 917 [(3, .int 0), (2, .ref 301), (1, .ref 0), (0, .long 0)] [] P0 315 4038 (fun r _ => r = some (.int 1))
      refine mp_a (a_aload_n dL_law_917 rfl) (mpp 918 rfl ?_)
      refine mp_a (a_aload_nT dL_law_918 rfl) (mpp 919 rfl ?_)
      refine mp_a (a_iload_n dL_law_919 rfl) (mpp 920 rfl ?_)
      refine mp_a (a_iconst (v := 1) dL_law_920 rfl) (mpp 921 rfl ?_)
      refine mp_t (s_iadd (v := 1) dL_law_921 (by decide)) (mpp 922 rfl ?_)
      refine mp_sld (v := 10) (N := 4) dL_law_922 rfl (by decide) rfl (mpp 923 rfl ?_)
      refine mp_callv (i := 125) (q' := q_110) (As := [.int 10]) (rest := []) dL_law_923 rfl qm_110 (by decide) rfl p0_0 (by decide) (Nat.le_of_ble_eq_true rfl) rfl ⟨rfl, rfl⟩ ⟨Nat.le_of_ble_eq_true rfl, Nat.le_of_ble_eq_true rfl⟩ (EvP.mono (by decide) xo_account_10) (fun r1 P1 g1 => mpp 926 rfl ?_)
      obtain ⟨rfl, hM⟩ := g1
      show MEvP _ _ lawq 926 [(3, .int 0), (2, .ref 301), (1, .ref 0), (0, .long 0)] [.int 0] _ _ _ _
      refine mp_a (a_aload_n dL_law_926 rfl) (mpp 927 rfl ?_)
      refine mp_a (a_aload_nT dL_law_927 rfl) (mpp 928 rfl ?_)
      refine mp_a (a_iload_n dL_law_928 rfl) (mpp 929 rfl ?_)
      refine mp_a (a_iconst (v := 1) dL_law_929 rfl) (mpp 930 rfl ?_)
      refine mp_t (s_iadd (v := 1) dL_law_930 (by decide)) (mpp 931 rfl ?_)
      refine mp_sld (v := 10) (N := 4) dL_law_931 rfl (by decide) rfl (mpp 932 rfl ?_)
      refine mp_callv (i := 128) (q' := q_229) (As := [.int 10]) (rest := [.int 0]) dL_law_932 rfl qm_229 (by decide) rfl (hM.f (by decide) p0_301) (by decide) (Nat.le_of_ble_eq_true rfl) rfl ⟨rfl, rfl⟩ ⟨Nat.le_of_ble_eq_true rfl, Nat.le_of_ble_eq_true rfl⟩ (EvP.mono (by decide) (mo_account_10 hM)) (fun r1 P1 g1 => mpp 935 rfl ?_)
      obtain rfl := g1
      show MEvP _ _ lawq 935 [(3, .int 0), (2, .ref 301), (1, .ref 0), (0, .long 0)] [.int 0, .int 0] _ _ _ _
      refine mp_Tt (t := 992) (j_icmp_eq dL_law_935) rfl (by decide) ?_
      refine mp_a (a_iinc (v := 4) (L' := [(3, .int 4), (2, .ref 301), (1, .ref 0), (0, .long 0)]) dL_law_992 (by decide) rfl rfl rfl) (mpp 995 rfl ?_)
      refine mp_a (a_goto (t := 18) dL_law_995 (by decide)) ?_
      exact law_done
    | 11, _ =>
      show MEvP 20 (some [x0, 11, x2, x3]) lawq 917 [(3, .int 0), (2, .ref 301), (1, .ref 0), (0, .long 0)] [] P0 315 4038 (fun r _ => r = some (.int 1))
      refine mp_a (a_aload_n dL_law_917 rfl) (mpp 918 rfl ?_)
      refine mp_a (a_aload_nT dL_law_918 rfl) (mpp 919 rfl ?_)
      refine mp_a (a_iload_n dL_law_919 rfl) (mpp 920 rfl ?_)
      refine mp_a (a_iconst (v := 1) dL_law_920 rfl) (mpp 921 rfl ?_)
      refine mp_t (s_iadd (v := 1) dL_law_921 (by decide)) (mpp 922 rfl ?_)
      refine mp_sld (v := 11) (N := 4) dL_law_922 rfl (by decide) rfl (mpp 923 rfl ?_)
      refine mp_callv (i := 125) (q' := q_110) (As := [.int 11]) (rest := []) dL_law_923 rfl qm_110 (by decide) rfl p0_0 (by decide) (Nat.le_of_ble_eq_true rfl) rfl ⟨rfl, rfl⟩ ⟨Nat.le_of_ble_eq_true rfl, Nat.le_of_ble_eq_true rfl⟩ (EvP.mono (by decide) xo_account_11) (fun r1 P1 g1 => mpp 926 rfl ?_)
      obtain ⟨rfl, hM⟩ := g1
      show MEvP _ _ lawq 926 [(3, .int 0), (2, .ref 301), (1, .ref 0), (0, .long 0)] [.int 0] _ _ _ _
      refine mp_a (a_aload_n dL_law_926 rfl) (mpp 927 rfl ?_)
      refine mp_a (a_aload_nT dL_law_927 rfl) (mpp 928 rfl ?_)
      refine mp_a (a_iload_n dL_law_928 rfl) (mpp 929 rfl ?_)
      refine mp_a (a_iconst (v := 1) dL_law_929 rfl) (mpp 930 rfl ?_)
      refine mp_t (s_iadd (v := 1) dL_law_930 (by decide)) (mpp 931 rfl ?_)
      refine mp_sld (v := 11) (N := 4) dL_law_931 rfl (by decide) rfl (mpp 932 rfl ?_)
      refine mp_callv (i := 128) (q' := q_229) (As := [.int 11]) (rest := [.int 0]) dL_law_932 rfl qm_229 (by decide) rfl (hM.f (by decide) p0_301) (by decide) (Nat.le_of_ble_eq_true rfl) rfl ⟨rfl, rfl⟩ ⟨Nat.le_of_ble_eq_true rfl, Nat.le_of_ble_eq_true rfl⟩ (EvP.mono (by decide) (mo_account_11 hM)) (fun r1 P1 g1 => mpp 935 rfl ?_)
      obtain rfl := g1
      show MEvP _ _ lawq 935 [(3, .int 0), (2, .ref 301), (1, .ref 0), (0, .long 0)] [.int 0, .int 0] _ _ _ _
      refine mp_Tt (t := 992) (j_icmp_eq dL_law_935) rfl (by decide) ?_
      refine mp_a (a_iinc (v := 4) (L' := [(3, .int 4), (2, .ref 301), (1, .ref 0), (0, .long 0)]) dL_law_992 (by decide) rfl rfl rfl) (mpp 995 rfl ?_)
      refine mp_a (a_goto (t := 18) dL_law_995 (by decide)) ?_
      exact law_done
    | 12, _ =>
      show MEvP 20 (some [x0, 12, x2, x3]) lawq 917 [(3, .int 0), (2, .ref 301), (1, .ref 0), (0, .long 0)] [] P0 315 4038 (fun r _ => r = some (.int 1))
      refine mp_a (a_aload_n dL_law_917 rfl) (mpp 918 rfl ?_)
      refine mp_a (a_aload_nT dL_law_918 rfl) (mpp 919 rfl ?_)
      refine mp_a (a_iload_n dL_law_919 rfl) (mpp 920 rfl ?_)
      refine mp_a (a_iconst (v := 1) dL_law_920 rfl) (mpp 921 rfl ?_)
      refine mp_t (s_iadd (v := 1) dL_law_921 (by decide)) (mpp 922 rfl ?_)
      refine mp_sld (v := 12) (N := 4) dL_law_922 rfl (by decide) rfl (mpp 923 rfl ?_)
      refine mp_callv (i := 125) (q' := q_110) (As := [.int 12]) (rest := []) dL_law_923 rfl qm_110 (by decide) rfl p0_0 (by decide) (Nat.le_of_ble_eq_true rfl) rfl ⟨rfl, rfl⟩ ⟨Nat.le_of_ble_eq_true rfl, Nat.le_of_ble_eq_true rfl⟩ (EvP.mono (by decide) xo_account_12) (fun r1 P1 g1 => mpp 926 rfl ?_)
      obtain ⟨rfl, hM⟩ := g1
      show MEvP _ _ lawq 926 [(3, .int 0), (2, .ref 301), (1, .ref 0), (0, .long 0)] [.int 0] _ _ _ _
      refine mp_a (a_aload_n dL_law_926 rfl) (mpp 927 rfl ?_)
      refine mp_a (a_aload_nT dL_law_927 rfl) (mpp 928 rfl ?_)
      refine mp_a (a_iload_n dL_law_928 rfl) (mpp 929 rfl ?_)
      refine mp_a (a_iconst (v := 1) dL_law_929 rfl) (mpp 930 rfl ?_)
      refine mp_t (s_iadd (v := 1) dL_law_930 (by decide)) (mpp 931 rfl ?_)
      refine mp_sld (v := 12) (N := 4) dL_law_931 rfl (by decide) rfl (mpp 932 rfl ?_)
      refine mp_callv (i := 128) (q' := q_229) (As := [.int 12]) (rest := [.int 0]) dL_law_932 rfl qm_229 (by decide) rfl (hM.f (by decide) p0_301) (by decide) (Nat.le_of_ble_eq_true rfl) rfl ⟨rfl, rfl⟩ ⟨Nat.le_of_ble_eq_true rfl, Nat.le_of_ble_eq_true rfl⟩ (EvP.mono (by decide) (mo_account_12 hM)) (fun r1 P1 g1 => mpp 935 rfl ?_)
      obtain rfl := g1
      show MEvP _ _ lawq 935 [(3, .int 0), (2, .ref 301), (1, .ref 0), (0, .long 0)] [.int 0, .int 0] _ _ _ _
      refine mp_Tt (t := 992) (j_icmp_eq dL_law_935) rfl (by decide) ?_
      refine mp_a (a_iinc (v := 4) (L' := [(3, .int 4), (2, .ref 301), (1, .ref 0), (0, .long 0)]) dL_law_992 (by decide) rfl rfl rfl) (mpp 995 rfl ?_)
      refine mp_a (a_goto (t := 18) dL_law_995 (by decide)) ?_
      exact law_done
    | j + 13, h => exact absurd h (by omega)

set_option maxRecDepth 100000 in
set_option maxHeartbeats 4000000 in
theorem law_case28 {x0 x1 x2 x3 : Int32} : MEvP 20 (some [x0, x1, x2, x3]) lawq 940 [(3, .int 0), (2, .ref 301), (1, .ref 0), (0, .long 0)] [] P0 315 4038 (fun r _ => r = some (.int 1)) := by
  refine mp_a (a_aload_n dL_law_940 rfl) (mpp 941 rfl ?_)
  refine mp_callv (i := 129) (q' := q_115) (As := []) (rest := []) dL_law_941 rfl qm_115 (by decide) rfl p0_0 (by decide) (Nat.le_of_ble_eq_true rfl) rfl ⟨rfl, rfl⟩ ⟨Nat.le_of_ble_eq_true rfl, Nat.le_of_ble_eq_true rfl⟩ (EvP.mono (by decide) xo_share) (fun r1 P1 g1 => mpp 944 rfl ?_)
  obtain ⟨rfl, hM⟩ := g1
  show MEvP _ _ lawq 944 [(3, .int 0), (2, .ref 301), (1, .ref 0), (0, .long 0)] [.int (-1004)] _ _ _ _
  refine mp_a (a_aload_n dL_law_944 rfl) (mpp 945 rfl ?_)
  refine mp_callv (i := 132) (q' := q_232) (As := []) (rest := [.int (-1004)]) dL_law_945 rfl qm_232 (by decide) rfl (hM.f (by decide) p0_301) (by decide) (Nat.le_of_ble_eq_true rfl) rfl ⟨rfl, rfl⟩ ⟨Nat.le_of_ble_eq_true rfl, Nat.le_of_ble_eq_true rfl⟩ (EvP.mono (by decide) (mo_share hM)) (fun r1 P1 g1 => mpp 948 rfl ?_)
  obtain rfl := g1
  show MEvP _ _ lawq 948 [(3, .int 0), (2, .ref 301), (1, .ref 0), (0, .long 0)] [.int (-1004), .int (-1004)] _ _ _ _
  refine mp_Tt (t := 992) (j_icmp_eq dL_law_948) rfl (by decide) ?_
  refine mp_a (a_iinc (v := 4) (L' := [(3, .int 4), (2, .ref 301), (1, .ref 0), (0, .long 0)]) dL_law_992 (by decide) rfl rfl rfl) (mpp 995 rfl ?_)
  refine mp_a (a_goto (t := 18) dL_law_995 (by decide)) ?_
  exact law_done

set_option maxRecDepth 100000 in
set_option maxHeartbeats 4000000 in
theorem law_case29 {x0 x1 x2 x3 : Int32} : MEvP 20 (some [x0, x1, x2, x3]) lawq 953 [(3, .int 0), (2, .ref 301), (1, .ref 0), (0, .long 0)] [] P0 315 4038 (fun r _ => r = some (.int 1)) := by
  refine mp_a (a_aload_n dL_law_953 rfl) (mpp 954 rfl ?_)
  refine mp_callv (i := 133) (q' := q_117) (As := []) (rest := []) dL_law_954 rfl qm_117 (by decide) rfl p0_0 (by decide) (Nat.le_of_ble_eq_true rfl) rfl ⟨rfl, rfl⟩ ⟨Nat.le_of_ble_eq_true rfl, Nat.le_of_ble_eq_true rfl⟩ (EvP.mono (by decide) xo_undo) (fun r1 P1 g1 => mpp 957 rfl ?_)
  obtain ⟨rfl, hM⟩ := g1
  show MEvP _ _ lawq 957 [(3, .int 0), (2, .ref 301), (1, .ref 0), (0, .long 0)] [.int (-1004)] _ _ _ _
  refine mp_a (a_aload_n dL_law_957 rfl) (mpp 958 rfl ?_)
  refine mp_callv (i := 136) (q' := q_233) (As := []) (rest := [.int (-1004)]) dL_law_958 rfl qm_233 (by decide) rfl (hM.f (by decide) p0_301) (by decide) (Nat.le_of_ble_eq_true rfl) rfl ⟨rfl, rfl⟩ ⟨Nat.le_of_ble_eq_true rfl, Nat.le_of_ble_eq_true rfl⟩ (EvP.mono (by decide) (mo_undo hM)) (fun r1 P1 g1 => mpp 961 rfl ?_)
  obtain rfl := g1
  show MEvP _ _ lawq 961 [(3, .int 0), (2, .ref 301), (1, .ref 0), (0, .long 0)] [.int (-1004), .int (-1004)] _ _ _ _
  refine mp_Tt (t := 992) (j_icmp_eq dL_law_961) rfl (by decide) ?_
  refine mp_a (a_iinc (v := 4) (L' := [(3, .int 4), (2, .ref 301), (1, .ref 0), (0, .long 0)]) dL_law_992 (by decide) rfl rfl rfl) (mpp 995 rfl ?_)
  refine mp_a (a_goto (t := 18) dL_law_995 (by decide)) ?_
  exact law_done

set_option maxRecDepth 100000 in
set_option maxHeartbeats 4000000 in
theorem law_case30 {x0 x1 x2 x3 : Int32} : MEvP 20 (some [x0, x1, x2, x3]) lawq 966 [(3, .int 0), (2, .ref 301), (1, .ref 0), (0, .long 0)] [] P0 315 4038 (fun r _ => r = some (.int 1)) := by
  refine mp_a (a_aload_n dL_law_966 rfl) (mpp 967 rfl ?_)
  refine mp_callv (i := 137) (q' := q_119) (As := []) (rest := []) dL_law_967 rfl qm_119 (by decide) rfl p0_0 (by decide) (Nat.le_of_ble_eq_true rfl) rfl ⟨rfl, rfl⟩ ⟨Nat.le_of_ble_eq_true rfl, Nat.le_of_ble_eq_true rfl⟩ (EvP.mono (by decide) xo_save) (fun r1 P1 g1 => mpp 970 rfl ?_)
  obtain ⟨rfl, hM⟩ := g1
  show MEvP _ _ lawq 970 [(3, .int 0), (2, .ref 301), (1, .ref 0), (0, .long 0)] [.int 0] _ _ _ _
  refine mp_a (a_aload_n dL_law_970 rfl) (mpp 971 rfl ?_)
  refine mp_callv (i := 140) (q' := q_234) (As := []) (rest := [.int 0]) dL_law_971 rfl qm_234 (by decide) rfl (hM.f (by decide) p0_301) (by decide) (Nat.le_of_ble_eq_true rfl) rfl ⟨rfl, rfl⟩ ⟨Nat.le_of_ble_eq_true rfl, Nat.le_of_ble_eq_true rfl⟩ (EvP.mono (by decide) (mo_save hM)) (fun r1 P1 g1 => mpp 974 rfl ?_)
  obtain rfl := g1
  show MEvP _ _ lawq 974 [(3, .int 0), (2, .ref 301), (1, .ref 0), (0, .long 0)] [.int 0, .int 0] _ _ _ _
  refine mp_Tt (t := 992) (j_icmp_eq dL_law_974) rfl (by decide) ?_
  refine mp_a (a_iinc (v := 4) (L' := [(3, .int 4), (2, .ref 301), (1, .ref 0), (0, .long 0)]) dL_law_992 (by decide) rfl rfl rfl) (mpp 995 rfl ?_)
  refine mp_a (a_goto (t := 18) dL_law_995 (by decide)) ?_
  exact law_done

set_option maxRecDepth 100000 in
set_option maxHeartbeats 4000000 in
theorem law_case31 {x0 x1 x2 x3 : Int32} : MEvP 20 (some [x0, x1, x2, x3]) lawq 979 [(3, .int 0), (2, .ref 301), (1, .ref 0), (0, .long 0)] [] P0 315 4038 (fun r _ => r = some (.int 1)) := by
  refine mp_a (a_aload_n dL_law_979 rfl) (mpp 980 rfl ?_)
  refine mp_callv (i := 141) (q' := q_120) (As := []) (rest := []) dL_law_980 rfl qm_120 (by decide) rfl p0_0 (by decide) (Nat.le_of_ble_eq_true rfl) rfl ⟨rfl, rfl⟩ ⟨Nat.le_of_ble_eq_true rfl, Nat.le_of_ble_eq_true rfl⟩ (EvP.mono (by decide) xo_restore) (fun r1 P1 g1 => mpp 983 rfl ?_)
  obtain ⟨rfl, hM⟩ := g1
  show MEvP _ _ lawq 983 [(3, .int 0), (2, .ref 301), (1, .ref 0), (0, .long 0)] [.int (-1004)] _ _ _ _
  refine mp_a (a_aload_n dL_law_983 rfl) (mpp 984 rfl ?_)
  refine mp_callv (i := 144) (q' := q_235) (As := []) (rest := [.int (-1004)]) dL_law_984 rfl qm_235 (by decide) rfl (hM.f (by decide) p0_301) (by decide) (Nat.le_of_ble_eq_true rfl) rfl ⟨rfl, rfl⟩ ⟨Nat.le_of_ble_eq_true rfl, Nat.le_of_ble_eq_true rfl⟩ (EvP.mono (by decide) (mo_restore hM)) (fun r1 P1 g1 => mpp 987 rfl ?_)
  obtain rfl := g1
  show MEvP _ _ lawq 987 [(3, .int 0), (2, .ref 301), (1, .ref 0), (0, .long 0)] [.int (-1004), .int (-1004)] _ _ _ _
  refine mp_Tt (t := 992) (j_icmp_eq dL_law_987) rfl (by decide) ?_
  refine mp_a (a_iinc (v := 4) (L' := [(3, .int 4), (2, .ref 301), (1, .ref 0), (0, .long 0)]) dL_law_992 (by decide) rfl rfl rfl) (mpp 995 rfl ?_)
  refine mp_a (a_goto (t := 18) dL_law_995 (by decide)) ?_
  exact law_done

set_option maxRecDepth 100000 in
set_option maxHeartbeats 4000000 in
theorem law_four {x0 x1 x2 x3 : Int32} : MEvP 20 (some [x0, x1, x2, x3]) lawq 18 [(3, .int 0), (2, .ref 301), (1, .ref 0), (0, .long 0)] [] P0 315 4038 (fun r _ => r = some (.int 1)) := by
  refine mp_a (a_iload_n dL_law_18 rfl) (mpp 19 rfl ?_)
  refine mp_a (a_aload_nT dL_law_19 rfl) (mpp 20 rfl ?_)
  refine mp_slen (n := 4) dL_law_20 rfl (mpp 21 rfl ?_)
  refine mp_a (a_iconst (v := 4) dL_law_21 rfl) (mpp 22 rfl ?_)
  refine mp_t (s_isub (v := 0) dL_law_22 (by decide)) (mpp 23 rfl ?_)
  refine mp_Tf (t := 998) (j_icmp_gt dL_law_23) (by decide) (by decide) (mpp 26 rfl ?_)
  refine mp_a (a_aload_nT dL_law_26 rfl) (mpp 27 rfl ?_)
  refine mp_a (a_iload_n dL_law_27 rfl) (mpp 28 rfl ?_)
  refine mp_sld (v := x0) (N := 4) dL_law_28 rfl (by decide) rfl (mpp 29 rfl ?_)
  refine mp_a (a_bipush (v := 31) dL_law_29 rfl) (mpp 31 rfl ?_)
  obtain ⟨j, hj, ej⟩ := pk_andE x0 (m := 31) 5 (by decide)
  refine mp_t (s_iand (v := nI j) dL_law_31 ej) (mpp 32 rfl ?_)
  match j, hj with
  | 0, _ => exact mp_t (s_tabIn (t := 176) dL_law_32 (by decide) rfl (by decide)) law_case0
  | 1, _ => exact mp_t (s_tabIn (t := 199) dL_law_32 (by decide) rfl (by decide)) law_case1
  | 2, _ => exact mp_t (s_tabIn (t := 242) dL_law_32 (by decide) rfl (by decide)) law_case2
  | 3, _ => exact mp_t (s_tabIn (t := 285) dL_law_32 (by decide) rfl (by decide)) law_case3
  | 4, _ => exact mp_t (s_tabIn (t := 308) dL_law_32 (by decide) rfl (by decide)) law_case4
  | 5, _ => exact mp_t (s_tabIn (t := 341) dL_law_32 (by decide) rfl (by decide)) law_case5
  | 6, _ => exact mp_t (s_tabIn (t := 384) dL_law_32 (by decide) rfl (by decide)) law_case6
  | 7, _ => exact mp_t (s_tabIn (t := 417) dL_law_32 (by decide) rfl (by decide)) law_case7
  | 8, _ => exact mp_t (s_tabIn (t := 440) dL_law_32 (by decide) rfl (by decide)) law_case8
  | 9, _ => exact mp_t (s_tabIn (t := 463) dL_law_32 (by decide) rfl (by decide)) law_case9
  | 10, _ => exact mp_t (s_tabIn (t := 486) dL_law_32 (by decide) rfl (by decide)) law_case10
  | 11, _ => exact mp_t (s_tabIn (t := 519) dL_law_32 (by decide) rfl (by decide)) law_case11
  | 12, _ => exact mp_t (s_tabIn (t := 552) dL_law_32 (by decide) rfl (by decide)) law_case12
  | 13, _ => exact mp_t (s_tabIn (t := 585) dL_law_32 (by decide) rfl (by decide)) law_case13
  | 14, _ => exact mp_t (s_tabIn (t := 608) dL_law_32 (by decide) rfl (by decide)) law_case14
  | 15, _ => exact mp_t (s_tabIn (t := 631) dL_law_32 (by decide) rfl (by decide)) law_case15
  | 16, _ => exact mp_t (s_tabIn (t := 654) dL_law_32 (by decide) rfl (by decide)) law_case16
  | 17, _ => exact mp_t (s_tabIn (t := 677) dL_law_32 (by decide) rfl (by decide)) law_case17
  | 18, _ => exact mp_t (s_tabIn (t := 700) dL_law_32 (by decide) rfl (by decide)) law_case18
  | 19, _ => exact mp_t (s_tabIn (t := 723) dL_law_32 (by decide) rfl (by decide)) law_case19
  | 20, _ => exact mp_t (s_tabIn (t := 756) dL_law_32 (by decide) rfl (by decide)) law_case20
  | 21, _ => exact mp_t (s_tabIn (t := 789) dL_law_32 (by decide) rfl (by decide)) law_case21
  | 22, _ => exact mp_t (s_tabIn (t := 812) dL_law_32 (by decide) rfl (by decide)) law_case22
  | 23, _ => exact mp_t (s_tabIn (t := 835) dL_law_32 (by decide) rfl (by decide)) law_case23
  | 24, _ => exact mp_t (s_tabIn (t := 858) dL_law_32 (by decide) rfl (by decide)) law_case24
  | 25, _ => exact mp_t (s_tabIn (t := 881) dL_law_32 (by decide) rfl (by decide)) law_case25
  | 26, _ => exact mp_t (s_tabIn (t := 894) dL_law_32 (by decide) rfl (by decide)) law_case26
  | 27, _ => exact mp_t (s_tabIn (t := 917) dL_law_32 (by decide) rfl (by decide)) law_case27
  | 28, _ => exact mp_t (s_tabIn (t := 940) dL_law_32 (by decide) rfl (by decide)) law_case28
  | 29, _ => exact mp_t (s_tabIn (t := 953) dL_law_32 (by decide) rfl (by decide)) law_case29
  | 30, _ => exact mp_t (s_tabIn (t := 966) dL_law_32 (by decide) rfl (by decide)) law_case30
  | 31, _ => exact mp_t (s_tabIn (t := 979) dL_law_32 (by decide) rfl (by decide)) law_case31
  | j + 32, h => exact absurd h (by omega)

theorem law_tail (xl : List Int32) (h : xl.length ≤ 4) : MEvP 20 (some xl) lawq 18 [(3, .int 0), (2, .ref 301), (1, .ref 0), (0, .long 0)] [] P0 315 4038 (fun r _ => r = some (.int 1)) := by
  match xl, h with
  | [], _ => exact law_short0
  | [a], _ => exact law_short1
  | [a, b], _ => exact law_short2
  | [a, b, c], _ => exact law_short3
  | [a, b, c, d], _ => exact law_four
  | a :: b :: c :: d :: e :: l, h => exact absurd h (by simp only [List.length_cons]; omega)
set_option maxRecDepth 100000 in
set_option maxHeartbeats 4000000 in
theorem law_run (xl : List Int32) (h : xl.length ≤ 4) : ∃ P', MEv 20 (some xl) lawq 0 [(0, .long 0)] [] [] 0 0 (some (.int 1)) P' := by
  obtain ⟨r, P', rfl, ht⟩ := law_tail xl h
  refine ⟨P', ?_⟩
  have hx : ([] : mP).length = 0 := rfl
  show MEv 20 (some xl) lawq 0 [(0, .long 0)] [] ([] ++ []) 0 0 _ _
  refine ms_new (i := 7) (ci := 6) (k := 0) hx dL_law_0 rfl rfl ⟨Nat.le_of_ble_eq_true rfl, Nat.le_of_ble_eq_true rfl⟩ (mpe 3 rfl ?_)
  refine me_t (s_dup dL_law_3 rfl) (mpe 4 rfl ?_)
  refine ms_init (i := 9) (q' := q_0) (l' := [] ++ rTheatre (0 + 0)) dL_law_4 rfl qm_0 (by decide) rfl rfl (Nat.le_of_ble_eq_true rfl) ⟨Nat.le_of_ble_eq_true rfl, Nat.le_of_ble_eq_true rfl⟩ ((ei_0 (l := []) hx rfl).mono (by decide)) (mpe 7 rfl ?_)
  refine me_a (a_astore_n (L' := [(1, .ref (0 + 0)), (0, .long 0)]) dL_law_7 (by decide) rfl) (mpe 8 rfl ?_)
  refine ms_new (i := 10) (ci := 7) (k := 301) hx dL_law_8 rfl rfl ⟨Nat.le_of_ble_eq_true rfl, Nat.le_of_ble_eq_true rfl⟩ (mpe 11 rfl ?_)
  refine me_t (s_dup dL_law_11 rfl) (mpe 12 rfl ?_)
  refine ms_init (i := 12) (q' := q_122) (l' := ([] ++ rTheatre (0 + 0)) ++ rModel (0 + 301)) dL_law_12 rfl qm_122 (by decide) rfl rfl (Nat.le_of_ble_eq_true rfl) ⟨Nat.le_of_ble_eq_true rfl, Nat.le_of_ble_eq_true rfl⟩ ((ei_122 (l := [] ++ rTheatre (0 + 0)) hx rfl).mono (by decide)) (mpe 15 rfl ?_)
  refine me_a (a_astore_n (L' := [(2, .ref (0 + 301)), (1, .ref (0 + 0)), (0, .long 0)]) dL_law_15 (by decide) rfl) (mpe 16 rfl ?_)
  refine me_a (a_iconst (v := 0) dL_law_16 rfl) (mpe 17 rfl ?_)
  refine me_a (a_istore_n (L' := [(3, .int 0), (2, .ref (0 + 301)), (1, .ref (0 + 0)), (0, .long 0)]) dL_law_17 (by decide) rfl) (mpe 18 rfl ?_)
  exact ht
