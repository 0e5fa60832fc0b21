theorem dL_law_0 : decode cL_law 0 = .ok (.new 7, 3) := by decide +kernel
theorem dL_law_3 : decode cL_law 3 = .ok (.dup, 1) := by decide +kernel
theorem dL_law_4 : decode cL_law 4 = .ok (.invokespecial 9, 3) := by decide +kernel
theorem dL_law_7 : decode cL_law 7 = .ok (.astore_n 1, 1) := by decide +kernel
theorem dL_law_8 : decode cL_law 8 = .ok (.new 10, 3) := by decide +kernel
theorem dL_law_11 : decode cL_law 11 = .ok (.dup, 1) := by decide +kernel
theorem dL_law_12 : decode cL_law 12 = .ok (.invokespecial 12, 3) := by decide +kernel
theorem dL_law_15 : decode cL_law 15 = .ok (.astore_n 2, 1) := by decide +kernel
theorem dL_law_16 : decode cL_law 16 = .ok (.iconst 0, 1) := by decide +kernel
theorem dL_law_17 : decode cL_law 17 = .ok (.istore_n 3, 1) := by decide +kernel
theorem dL_law_18 : decode cL_law 18 = .ok (.iload_n 3, 1) := by decide +kernel
theorem dL_law_19 : decode cL_law 19 = .ok (.aload_n 0, 1) := by decide +kernel
theorem dL_law_20 : decode cL_law 20 = .ok (.arraylength, 1) := by decide +kernel
theorem dL_law_21 : decode cL_law 21 = .ok (.bipush 6, 2) := by decide +kernel
theorem dL_law_23 : decode cL_law 23 = .ok (.isub, 1) := by decide +kernel
theorem dL_law_24 : decode cL_law 24 = .ok (.if_icmp .gt 1186, 3) := by decide +kernel
theorem dL_law_27 : decode cL_law 27 = .ok (.aload_n 0, 1) := by decide +kernel
theorem dL_law_28 : decode cL_law 28 = .ok (.iload_n 3, 1) := by decide +kernel
theorem dL_law_29 : decode cL_law 29 = .ok (.iaload, 1) := by decide +kernel
theorem dL_law_30 : decode cL_law 30 = .ok (.bipush 63, 2) := by decide +kernel
theorem dL_law_32 : decode cL_law 32 = .ok (.iand, 1) := by decide +kernel
theorem dL_law_33 : decode cL_law 33 = .ok (.tableswitch 1171 0 34 #[155, 198, 241, 304, 327, 350, 363, 376, 389, 412, 445, 468, 501, 524, 557, 580, 613, 646, 659, 702, 735, 748, 771, 814, 867, 890, 934, 977, 1000, 1023, 1046, 1079, 1112, 1135, 1158], 155) := by decide +kernel
theorem dL_law_188 : decode cL_law 188 = .ok (.aload_n 1, 1) := by decide +kernel
theorem dL_law_189 : decode cL_law 189 = .ok (.aload_n 0, 1) := by decide +kernel
theorem dL_law_190 : decode cL_law 190 = .ok (.iload_n 3, 1) := by decide +kernel
theorem dL_law_191 : decode cL_law 191 = .ok (.iconst 1, 1) := by decide +kernel
theorem dL_law_192 : decode cL_law 192 = .ok (.iadd, 1) := by decide +kernel
theorem dL_law_193 : decode cL_law 193 = .ok (.iaload, 1) := by decide +kernel
theorem dL_law_194 : decode cL_law 194 = .ok (.aload_n 0, 1) := by decide +kernel
theorem dL_law_195 : decode cL_law 195 = .ok (.iload_n 3, 1) := by decide +kernel
theorem dL_law_196 : decode cL_law 196 = .ok (.iconst 2, 1) := by decide +kernel
theorem dL_law_197 : decode cL_law 197 = .ok (.iadd, 1) := by decide +kernel
theorem dL_law_198 : decode cL_law 198 = .ok (.iaload, 1) := by decide +kernel
theorem dL_law_199 : decode cL_law 199 = .ok (.aload_n 0, 1) := by decide +kernel
theorem dL_law_200 : decode cL_law 200 = .ok (.iload_n 3, 1) := by decide +kernel
theorem dL_law_201 : decode cL_law 201 = .ok (.iconst 3, 1) := by decide +kernel
theorem dL_law_202 : decode cL_law 202 = .ok (.iadd, 1) := by decide +kernel
theorem dL_law_203 : decode cL_law 203 = .ok (.iaload, 1) := by decide +kernel
theorem dL_law_204 : decode cL_law 204 = .ok (.invokevirtual 13, 3) := by decide +kernel
theorem dL_law_207 : decode cL_law 207 = .ok (.aload_n 2, 1) := by decide +kernel
theorem dL_law_208 : decode cL_law 208 = .ok (.aload_n 0, 1) := by decide +kernel
theorem dL_law_209 : decode cL_law 209 = .ok (.iload_n 3, 1) := by decide +kernel
theorem dL_law_210 : decode cL_law 210 = .ok (.iconst 1, 1) := by decide +kernel
theorem dL_law_211 : decode cL_law 211 = .ok (.iadd, 1) := by decide +kernel
theorem dL_law_212 : decode cL_law 212 = .ok (.iaload, 1) := by decide +kernel
theorem dL_law_213 : decode cL_law 213 = .ok (.aload_n 0, 1) := by decide +kernel
theorem dL_law_214 : decode cL_law 214 = .ok (.iload_n 3, 1) := by decide +kernel
theorem dL_law_215 : decode cL_law 215 = .ok (.iconst 2, 1) := by decide +kernel
theorem dL_law_216 : decode cL_law 216 = .ok (.iadd, 1) := by decide +kernel
theorem dL_law_217 : decode cL_law 217 = .ok (.iaload, 1) := by decide +kernel
theorem dL_law_218 : decode cL_law 218 = .ok (.aload_n 0, 1) := by decide +kernel
theorem dL_law_219 : decode cL_law 219 = .ok (.iload_n 3, 1) := by decide +kernel
theorem dL_law_220 : decode cL_law 220 = .ok (.iconst 3, 1) := by decide +kernel
theorem dL_law_221 : decode cL_law 221 = .ok (.iadd, 1) := by decide +kernel
theorem dL_law_222 : decode cL_law 222 = .ok (.iaload, 1) := by decide +kernel
theorem dL_law_223 : decode cL_law 223 = .ok (.invokevirtual 17, 3) := by decide +kernel
theorem dL_law_226 : decode cL_law 226 = .ok (.if_icmp .eq 978, 3) := by decide +kernel
theorem dL_law_229 : decode cL_law 229 = .ok (.iconst 0, 1) := by decide +kernel
theorem dL_law_230 : decode cL_law 230 = .ok (.ireturn, 1) := by decide +kernel
theorem dL_law_231 : decode cL_law 231 = .ok (.aload_n 1, 1) := by decide +kernel
theorem dL_law_232 : decode cL_law 232 = .ok (.aload_n 0, 1) := by decide +kernel
theorem dL_law_233 : decode cL_law 233 = .ok (.iload_n 3, 1) := by decide +kernel
theorem dL_law_234 : decode cL_law 234 = .ok (.iconst 1, 1) := by decide +kernel
theorem dL_law_235 : decode cL_law 235 = .ok (.iadd, 1) := by decide +kernel
theorem dL_law_236 : decode cL_law 236 = .ok (.iaload, 1) := by decide +kernel
theorem dL_law_237 : decode cL_law 237 = .ok (.aload_n 0, 1) := by decide +kernel
theorem dL_law_238 : decode cL_law 238 = .ok (.iload_n 3, 1) := by decide +kernel
theorem dL_law_239 : decode cL_law 239 = .ok (.iconst 2, 1) := by decide +kernel
theorem dL_law_240 : decode cL_law 240 = .ok (.iadd, 1) := by decide +kernel
theorem dL_law_241 : decode cL_law 241 = .ok (.iaload, 1) := by decide +kernel
theorem dL_law_242 : decode cL_law 242 = .ok (.aload_n 0, 1) := by decide +kernel
theorem dL_law_243 : decode cL_law 243 = .ok (.iload_n 3, 1) := by decide +kernel
theorem dL_law_244 : decode cL_law 244 = .ok (.iconst 3, 1) := by decide +kernel
theorem dL_law_245 : decode cL_law 245 = .ok (.iadd, 1) := by decide +kernel
theorem dL_law_246 : decode cL_law 246 = .ok (.iaload, 1) := by decide +kernel
theorem dL_law_247 : decode cL_law 247 = .ok (.invokevirtual 18, 3) := by decide +kernel
theorem dL_law_250 : decode cL_law 250 = .ok (.aload_n 2, 1) := by decide +kernel
theorem dL_law_251 : decode cL_law 251 = .ok (.aload_n 0, 1) := by decide +kernel
theorem dL_law_252 : decode cL_law 252 = .ok (.iload_n 3, 1) := by decide +kernel
theorem dL_law_253 : decode cL_law 253 = .ok (.iconst 1, 1) := by decide +kernel
theorem dL_law_254 : decode cL_law 254 = .ok (.iadd, 1) := by decide +kernel
theorem dL_law_255 : decode cL_law 255 = .ok (.iaload, 1) := by decide +kernel
theorem dL_law_256 : decode cL_law 256 = .ok (.aload_n 0, 1) := by decide +kernel
theorem dL_law_257 : decode cL_law 257 = .ok (.iload_n 3, 1) := by decide +kernel
theorem dL_law_258 : decode cL_law 258 = .ok (.iconst 2, 1) := by decide +kernel
theorem dL_law_259 : decode cL_law 259 = .ok (.iadd, 1) := by decide +kernel
theorem dL_law_260 : decode cL_law 260 = .ok (.iaload, 1) := by decide +kernel
theorem dL_law_261 : decode cL_law 261 = .ok (.aload_n 0, 1) := by decide +kernel
theorem dL_law_262 : decode cL_law 262 = .ok (.iload_n 3, 1) := by decide +kernel
theorem dL_law_263 : decode cL_law 263 = .ok (.iconst 3, 1) := by decide +kernel
theorem dL_law_264 : decode cL_law 264 = .ok (.iadd, 1) := by decide +kernel
theorem dL_law_265 : decode cL_law 265 = .ok (.iaload, 1) := by decide +kernel
theorem dL_law_266 : decode cL_law 266 = .ok (.invokevirtual 21, 3) := by decide +kernel
theorem dL_law_269 : decode cL_law 269 = .ok (.if_icmp .eq 935, 3) := by decide +kernel
theorem dL_law_272 : decode cL_law 272 = .ok (.iconst 0, 1) := by decide +kernel
theorem dL_law_273 : decode cL_law 273 = .ok (.ireturn, 1) := by decide +kernel
theorem dL_law_274 : decode cL_law 274 = .ok (.aload_n 1, 1) := by decide +kernel
theorem dL_law_275 : decode cL_law 275 = .ok (.aload_n 0, 1) := by decide +kernel
theorem dL_law_276 : decode cL_law 276 = .ok (.iload_n 3, 1) := by decide +kernel
theorem dL_law_277 : decode cL_law 277 = .ok (.iconst 1, 1) := by decide +kernel
theorem dL_law_278 : decode cL_law 278 = .ok (.iadd, 1) := by decide +kernel
theorem dL_law_279 : decode cL_law 279 = .ok (.iaload, 1) := by decide +kernel
theorem dL_law_280 : decode cL_law 280 = .ok (.aload_n 0, 1) := by decide +kernel
theorem dL_law_281 : decode cL_law 281 = .ok (.iload_n 3, 1) := by decide +kernel
theorem dL_law_282 : decode cL_law 282 = .ok (.iconst 2, 1) := by decide +kernel
theorem dL_law_283 : decode cL_law 283 = .ok (.iadd, 1) := by decide +kernel
theorem dL_law_284 : decode cL_law 284 = .ok (.iaload, 1) := by decide +kernel
theorem dL_law_285 : decode cL_law 285 = .ok (.aload_n 0, 1) := by decide +kernel
theorem dL_law_286 : decode cL_law 286 = .ok (.iload_n 3, 1) := by decide +kernel
theorem dL_law_287 : decode cL_law 287 = .ok (.iconst 3, 1) := by decide +kernel
theorem dL_law_288 : decode cL_law 288 = .ok (.iadd, 1) := by decide +kernel
theorem dL_law_289 : decode cL_law 289 = .ok (.iaload, 1) := by decide +kernel
theorem dL_law_290 : decode cL_law 290 = .ok (.aload_n 0, 1) := by decide +kernel
theorem dL_law_291 : decode cL_law 291 = .ok (.iload_n 3, 1) := by decide +kernel
theorem dL_law_292 : decode cL_law 292 = .ok (.iconst 4, 1) := by decide +kernel
theorem dL_law_293 : decode cL_law 293 = .ok (.iadd, 1) := by decide +kernel
theorem dL_law_294 : decode cL_law 294 = .ok (.iaload, 1) := by decide +kernel
theorem dL_law_295 : decode cL_law 295 = .ok (.aload_n 0, 1) := by decide +kernel
theorem dL_law_296 : decode cL_law 296 = .ok (.iload_n 3, 1) := by decide +kernel
theorem dL_law_297 : decode cL_law 297 = .ok (.iconst 5, 1) := by decide +kernel
theorem dL_law_298 : decode cL_law 298 = .ok (.iadd, 1) := by decide +kernel
theorem dL_law_299 : decode cL_law 299 = .ok (.iaload, 1) := by decide +kernel
theorem dL_law_300 : decode cL_law 300 = .ok (.invokevirtual 22, 3) := by decide +kernel
theorem dL_law_303 : decode cL_law 303 = .ok (.aload_n 2, 1) := by decide +kernel
theorem dL_law_304 : decode cL_law 304 = .ok (.aload_n 0, 1) := by decide +kernel
theorem dL_law_305 : decode cL_law 305 = .ok (.iload_n 3, 1) := by decide +kernel
theorem dL_law_306 : decode cL_law 306 = .ok (.iconst 1, 1) := by decide +kernel
theorem dL_law_307 : decode cL_law 307 = .ok (.iadd, 1) := by decide +kernel
theorem dL_law_308 : decode cL_law 308 = .ok (.iaload, 1) := by decide +kernel
theorem dL_law_309 : decode cL_law 309 = .ok (.aload_n 0, 1) := by decide +kernel
theorem dL_law_310 : decode cL_law 310 = .ok (.iload_n 3, 1) := by decide +kernel
theorem dL_law_311 : decode cL_law 311 = .ok (.iconst 2, 1) := by decide +kernel
theorem dL_law_312 : decode cL_law 312 = .ok (.iadd, 1) := by decide +kernel
theorem dL_law_313 : decode cL_law 313 = .ok (.iaload, 1) := by decide +kernel
theorem dL_law_314 : decode cL_law 314 = .ok (.aload_n 0, 1) := by decide +kernel
theorem dL_law_315 : decode cL_law 315 = .ok (.iload_n 3, 1) := by decide +kernel
theorem dL_law_316 : decode cL_law 316 = .ok (.iconst 3, 1) := by decide +kernel
theorem dL_law_317 : decode cL_law 317 = .ok (.iadd, 1) := by decide +kernel
theorem dL_law_318 : decode cL_law 318 = .ok (.iaload, 1) := by decide +kernel
theorem dL_law_319 : decode cL_law 319 = .ok (.aload_n 0, 1) := by decide +kernel
theorem dL_law_320 : decode cL_law 320 = .ok (.iload_n 3, 1) := by decide +kernel
theorem dL_law_321 : decode cL_law 321 = .ok (.iconst 4, 1) := by decide +kernel
theorem dL_law_322 : decode cL_law 322 = .ok (.iadd, 1) := by decide +kernel
theorem dL_law_323 : decode cL_law 323 = .ok (.iaload, 1) := by decide +kernel
theorem dL_law_324 : decode cL_law 324 = .ok (.aload_n 0, 1) := by decide +kernel
theorem dL_law_325 : decode cL_law 325 = .ok (.iload_n 3, 1) := by decide +kernel
theorem dL_law_326 : decode cL_law 326 = .ok (.iconst 5, 1) := by decide +kernel
theorem dL_law_327 : decode cL_law 327 = .ok (.iadd, 1) := by decide +kernel
theorem dL_law_328 : decode cL_law 328 = .ok (.iaload, 1) := by decide +kernel
theorem dL_law_329 : decode cL_law 329 = .ok (.invokevirtual 26, 3) := by decide +kernel
theorem dL_law_332 : decode cL_law 332 = .ok (.if_icmp .eq 872, 3) := by decide +kernel
theorem dL_law_335 : decode cL_law 335 = .ok (.iconst 0, 1) := by decide +kernel
theorem dL_law_336 : decode cL_law 336 = .ok (.ireturn, 1) := by decide +kernel
theorem dL_law_337 : decode cL_law 337 = .ok (.aload_n 1, 1) := by decide +kernel
theorem dL_law_338 : decode cL_law 338 = .ok (.aload_n 0, 1) := by decide +kernel
theorem dL_law_339 : decode cL_law 339 = .ok (.iload_n 3, 1) := by decide +kernel
theorem dL_law_340 : decode cL_law 340 = .ok (.iconst 1, 1) := by decide +kernel
theorem dL_law_341 : decode cL_law 341 = .ok (.iadd, 1) := by decide +kernel
theorem dL_law_342 : decode cL_law 342 = .ok (.iaload, 1) := by decide +kernel
theorem dL_law_343 : decode cL_law 343 = .ok (.invokevirtual 27, 3) := by decide +kernel
theorem dL_law_346 : decode cL_law 346 = .ok (.aload_n 2, 1) := by decide +kernel
theorem dL_law_347 : decode cL_law 347 = .ok (.aload_n 0, 1) := by decide +kernel
theorem dL_law_348 : decode cL_law 348 = .ok (.iload_n 3, 1) := by decide +kernel
theorem dL_law_349 : decode cL_law 349 = .ok (.iconst 1, 1) := by decide +kernel
theorem dL_law_350 : decode cL_law 350 = .ok (.iadd, 1) := by decide +kernel
theorem dL_law_351 : decode cL_law 351 = .ok (.iaload, 1) := by decide +kernel
theorem dL_law_352 : decode cL_law 352 = .ok (.invokevirtual 31, 3) := by decide +kernel
theorem dL_law_355 : decode cL_law 355 = .ok (.if_icmp .eq 849, 3) := by decide +kernel
theorem dL_law_358 : decode cL_law 358 = .ok (.iconst 0, 1) := by decide +kernel
theorem dL_law_359 : decode cL_law 359 = .ok (.ireturn, 1) := by decide +kernel
theorem dL_law_360 : decode cL_law 360 = .ok (.aload_n 1, 1) := by decide +kernel
theorem dL_law_361 : decode cL_law 361 = .ok (.aload_n 0, 1) := by decide +kernel
theorem dL_law_362 : decode cL_law 362 = .ok (.iload_n 3, 1) := by decide +kernel
theorem dL_law_363 : decode cL_law 363 = .ok (.iconst 1, 1) := by decide +kernel
theorem dL_law_364 : decode cL_law 364 = .ok (.iadd, 1) := by decide +kernel
theorem dL_law_365 : decode cL_law 365 = .ok (.iaload, 1) := by decide +kernel
theorem dL_law_366 : decode cL_law 366 = .ok (.invokevirtual 32, 3) := by decide +kernel
theorem dL_law_369 : decode cL_law 369 = .ok (.aload_n 2, 1) := by decide +kernel
theorem dL_law_370 : decode cL_law 370 = .ok (.aload_n 0, 1) := by decide +kernel
theorem dL_law_371 : decode cL_law 371 = .ok (.iload_n 3, 1) := by decide +kernel
theorem dL_law_372 : decode cL_law 372 = .ok (.iconst 1, 1) := by decide +kernel
theorem dL_law_373 : decode cL_law 373 = .ok (.iadd, 1) := by decide +kernel
theorem dL_law_374 : decode cL_law 374 = .ok (.iaload, 1) := by decide +kernel
theorem dL_law_375 : decode cL_law 375 = .ok (.invokevirtual 35, 3) := by decide +kernel
theorem dL_law_378 : decode cL_law 378 = .ok (.if_icmp .eq 826, 3) := by decide +kernel
theorem dL_law_381 : decode cL_law 381 = .ok (.iconst 0, 1) := by decide +kernel
theorem dL_law_382 : decode cL_law 382 = .ok (.ireturn, 1) := by decide +kernel
theorem dL_law_383 : decode cL_law 383 = .ok (.aload_n 1, 1) := by decide +kernel
theorem dL_law_384 : decode cL_law 384 = .ok (.invokevirtual 36, 3) := by decide +kernel
theorem dL_law_387 : decode cL_law 387 = .ok (.aload_n 2, 1) := by decide +kernel
theorem dL_law_388 : decode cL_law 388 = .ok (.invokevirtual 40, 3) := by decide +kernel
theorem dL_law_391 : decode cL_law 391 = .ok (.if_icmp .eq 813, 3) := by decide +kernel
theorem dL_law_394 : decode cL_law 394 = .ok (.iconst 0, 1) := by decide +kernel
theorem dL_law_395 : decode cL_law 395 = .ok (.ireturn, 1) := by decide +kernel
theorem dL_law_396 : decode cL_law 396 = .ok (.aload_n 1, 1) := by decide +kernel
theorem dL_law_397 : decode cL_law 397 = .ok (.invokevirtual 41, 3) := by decide +kernel
theorem dL_law_400 : decode cL_law 400 = .ok (.aload_n 2, 1) := by decide +kernel
theorem dL_law_401 : decode cL_law 401 = .ok (.invokevirtual 44, 3) := by decide +kernel
theorem dL_law_404 : decode cL_law 404 = .ok (.if_icmp .eq 800, 3) := by decide +kernel
theorem dL_law_407 : decode cL_law 407 = .ok (.iconst 0, 1) := by decide +kernel
theorem dL_law_408 : decode cL_law 408 = .ok (.ireturn, 1) := by decide +kernel
theorem dL_law_409 : decode cL_law 409 = .ok (.aload_n 1, 1) := by decide +kernel
theorem dL_law_410 : decode cL_law 410 = .ok (.invokevirtual 45, 3) := by decide +kernel
theorem dL_law_413 : decode cL_law 413 = .ok (.aload_n 2, 1) := by decide +kernel
theorem dL_law_414 : decode cL_law 414 = .ok (.invokevirtual 48, 3) := by decide +kernel
theorem dL_law_417 : decode cL_law 417 = .ok (.if_icmp .eq 787, 3) := by decide +kernel
theorem dL_law_420 : decode cL_law 420 = .ok (.iconst 0, 1) := by decide +kernel
theorem dL_law_421 : decode cL_law 421 = .ok (.ireturn, 1) := by decide +kernel
theorem dL_law_422 : decode cL_law 422 = .ok (.aload_n 1, 1) := by decide +kernel
theorem dL_law_423 : decode cL_law 423 = .ok (.aload_n 0, 1) := by decide +kernel
theorem dL_law_424 : decode cL_law 424 = .ok (.iload_n 3, 1) := by decide +kernel
theorem dL_law_425 : decode cL_law 425 = .ok (.iconst 1, 1) := by decide +kernel
theorem dL_law_426 : decode cL_law 426 = .ok (.iadd, 1) := by decide +kernel
theorem dL_law_427 : decode cL_law 427 = .ok (.iaload, 1) := by decide +kernel
theorem dL_law_428 : decode cL_law 428 = .ok (.invokevirtual 49, 3) := by decide +kernel
theorem dL_law_431 : decode cL_law 431 = .ok (.aload_n 2, 1) := by decide +kernel
theorem dL_law_432 : decode cL_law 432 = .ok (.aload_n 0, 1) := by decide +kernel
theorem dL_law_433 : decode cL_law 433 = .ok (.iload_n 3, 1) := by decide +kernel
theorem dL_law_434 : decode cL_law 434 = .ok (.iconst 1, 1) := by decide +kernel
theorem dL_law_435 : decode cL_law 435 = .ok (.iadd, 1) := by decide +kernel
theorem dL_law_436 : decode cL_law 436 = .ok (.iaload, 1) := by decide +kernel
theorem dL_law_437 : decode cL_law 437 = .ok (.invokevirtual 52, 3) := by decide +kernel
theorem dL_law_440 : decode cL_law 440 = .ok (.if_icmp .eq 764, 3) := by decide +kernel
theorem dL_law_443 : decode cL_law 443 = .ok (.iconst 0, 1) := by decide +kernel
theorem dL_law_444 : decode cL_law 444 = .ok (.ireturn, 1) := by decide +kernel
theorem dL_law_445 : decode cL_law 445 = .ok (.aload_n 1, 1) := by decide +kernel
theorem dL_law_446 : decode cL_law 446 = .ok (.aload_n 0, 1) := by decide +kernel
theorem dL_law_447 : decode cL_law 447 = .ok (.iload_n 3, 1) := by decide +kernel
theorem dL_law_448 : decode cL_law 448 = .ok (.iconst 1, 1) := by decide +kernel
theorem dL_law_449 : decode cL_law 449 = .ok (.iadd, 1) := by decide +kernel
theorem dL_law_450 : decode cL_law 450 = .ok (.iaload, 1) := by decide +kernel
theorem dL_law_451 : decode cL_law 451 = .ok (.aload_n 0, 1) := by decide +kernel
theorem dL_law_452 : decode cL_law 452 = .ok (.iload_n 3, 1) := by decide +kernel
theorem dL_law_453 : decode cL_law 453 = .ok (.iconst 2, 1) := by decide +kernel
theorem dL_law_454 : decode cL_law 454 = .ok (.iadd, 1) := by decide +kernel
theorem dL_law_455 : decode cL_law 455 = .ok (.iaload, 1) := by decide +kernel
theorem dL_law_456 : decode cL_law 456 = .ok (.invokevirtual 53, 3) := by decide +kernel
theorem dL_law_459 : decode cL_law 459 = .ok (.aload_n 2, 1) := by decide +kernel
theorem dL_law_460 : decode cL_law 460 = .ok (.aload_n 0, 1) := by decide +kernel
theorem dL_law_461 : decode cL_law 461 = .ok (.iload_n 3, 1) := by decide +kernel
theorem dL_law_462 : decode cL_law 462 = .ok (.iconst 1, 1) := by decide +kernel
theorem dL_law_463 : decode cL_law 463 = .ok (.iadd, 1) := by decide +kernel
theorem dL_law_464 : decode cL_law 464 = .ok (.iaload, 1) := by decide +kernel
theorem dL_law_465 : decode cL_law 465 = .ok (.aload_n 0, 1) := by decide +kernel
theorem dL_law_466 : decode cL_law 466 = .ok (.iload_n 3, 1) := by decide +kernel
theorem dL_law_467 : decode cL_law 467 = .ok (.iconst 2, 1) := by decide +kernel
theorem dL_law_468 : decode cL_law 468 = .ok (.iadd, 1) := by decide +kernel
theorem dL_law_469 : decode cL_law 469 = .ok (.iaload, 1) := by decide +kernel
theorem dL_law_470 : decode cL_law 470 = .ok (.invokevirtual 57, 3) := by decide +kernel
theorem dL_law_473 : decode cL_law 473 = .ok (.if_icmp .eq 731, 3) := by decide +kernel
theorem dL_law_476 : decode cL_law 476 = .ok (.iconst 0, 1) := by decide +kernel
theorem dL_law_477 : decode cL_law 477 = .ok (.ireturn, 1) := by decide +kernel
theorem dL_law_478 : decode cL_law 478 = .ok (.aload_n 1, 1) := by decide +kernel
theorem dL_law_479 : decode cL_law 479 = .ok (.aload_n 0, 1) := by decide +kernel
theorem dL_law_480 : decode cL_law 480 = .ok (.iload_n 3, 1) := by decide +kernel
theorem dL_law_481 : decode cL_law 481 = .ok (.iconst 1, 1) := by decide +kernel
theorem dL_law_482 : decode cL_law 482 = .ok (.iadd, 1) := by decide +kernel
theorem dL_law_483 : decode cL_law 483 = .ok (.iaload, 1) := by decide +kernel
theorem dL_law_484 : decode cL_law 484 = .ok (.invokevirtual 58, 3) := by decide +kernel
theorem dL_law_487 : decode cL_law 487 = .ok (.aload_n 2, 1) := by decide +kernel
theorem dL_law_488 : decode cL_law 488 = .ok (.aload_n 0, 1) := by decide +kernel
theorem dL_law_489 : decode cL_law 489 = .ok (.iload_n 3, 1) := by decide +kernel
theorem dL_law_490 : decode cL_law 490 = .ok (.iconst 1, 1) := by decide +kernel
theorem dL_law_491 : decode cL_law 491 = .ok (.iadd, 1) := by decide +kernel
theorem dL_law_492 : decode cL_law 492 = .ok (.iaload, 1) := by decide +kernel
theorem dL_law_493 : decode cL_law 493 = .ok (.invokevirtual 61, 3) := by decide +kernel
theorem dL_law_496 : decode cL_law 496 = .ok (.if_icmp .eq 708, 3) := by decide +kernel
theorem dL_law_499 : decode cL_law 499 = .ok (.iconst 0, 1) := by decide +kernel
theorem dL_law_500 : decode cL_law 500 = .ok (.ireturn, 1) := by decide +kernel
theorem dL_law_501 : decode cL_law 501 = .ok (.aload_n 1, 1) := by decide +kernel
theorem dL_law_502 : decode cL_law 502 = .ok (.aload_n 0, 1) := by decide +kernel
theorem dL_law_503 : decode cL_law 503 = .ok (.iload_n 3, 1) := by decide +kernel
theorem dL_law_504 : decode cL_law 504 = .ok (.iconst 1, 1) := by decide +kernel
theorem dL_law_505 : decode cL_law 505 = .ok (.iadd, 1) := by decide +kernel
theorem dL_law_506 : decode cL_law 506 = .ok (.iaload, 1) := by decide +kernel
theorem dL_law_507 : decode cL_law 507 = .ok (.aload_n 0, 1) := by decide +kernel
theorem dL_law_508 : decode cL_law 508 = .ok (.iload_n 3, 1) := by decide +kernel
theorem dL_law_509 : decode cL_law 509 = .ok (.iconst 2, 1) := by decide +kernel
theorem dL_law_510 : decode cL_law 510 = .ok (.iadd, 1) := by decide +kernel
theorem dL_law_511 : decode cL_law 511 = .ok (.iaload, 1) := by decide +kernel
theorem dL_law_512 : decode cL_law 512 = .ok (.invokevirtual 62, 3) := by decide +kernel
theorem dL_law_515 : decode cL_law 515 = .ok (.aload_n 2, 1) := by decide +kernel
theorem dL_law_516 : decode cL_law 516 = .ok (.aload_n 0, 1) := by decide +kernel
theorem dL_law_517 : decode cL_law 517 = .ok (.iload_n 3, 1) := by decide +kernel
theorem dL_law_518 : decode cL_law 518 = .ok (.iconst 1, 1) := by decide +kernel
theorem dL_law_519 : decode cL_law 519 = .ok (.iadd, 1) := by decide +kernel
theorem dL_law_520 : decode cL_law 520 = .ok (.iaload, 1) := by decide +kernel
theorem dL_law_521 : decode cL_law 521 = .ok (.aload_n 0, 1) := by decide +kernel
theorem dL_law_522 : decode cL_law 522 = .ok (.iload_n 3, 1) := by decide +kernel
theorem dL_law_523 : decode cL_law 523 = .ok (.iconst 2, 1) := by decide +kernel
theorem dL_law_524 : decode cL_law 524 = .ok (.iadd, 1) := by decide +kernel
theorem dL_law_525 : decode cL_law 525 = .ok (.iaload, 1) := by decide +kernel
theorem dL_law_526 : decode cL_law 526 = .ok (.invokevirtual 65, 3) := by decide +kernel
theorem dL_law_529 : decode cL_law 529 = .ok (.if_icmp .eq 675, 3) := by decide +kernel
theorem dL_law_532 : decode cL_law 532 = .ok (.iconst 0, 1) := by decide +kernel
theorem dL_law_533 : decode cL_law 533 = .ok (.ireturn, 1) := by decide +kernel
theorem dL_law_534 : decode cL_law 534 = .ok (.aload_n 1, 1) := by decide +kernel
theorem dL_law_535 : decode cL_law 535 = .ok (.aload_n 0, 1) := by decide +kernel
theorem dL_law_536 : decode cL_law 536 = .ok (.iload_n 3, 1) := by decide +kernel
theorem dL_law_537 : decode cL_law 537 = .ok (.iconst 1, 1) := by decide +kernel
theorem dL_law_538 : decode cL_law 538 = .ok (.iadd, 1) := by decide +kernel
theorem dL_law_539 : decode cL_law 539 = .ok (.iaload, 1) := by decide +kernel
theorem dL_law_540 : decode cL_law 540 = .ok (.invokevirtual 66, 3) := by decide +kernel
theorem dL_law_543 : decode cL_law 543 = .ok (.aload_n 2, 1) := by decide +kernel
theorem dL_law_544 : decode cL_law 544 = .ok (.aload_n 0, 1) := by decide +kernel
theorem dL_law_545 : decode cL_law 545 = .ok (.iload_n 3, 1) := by decide +kernel
theorem dL_law_546 : decode cL_law 546 = .ok (.iconst 1, 1) := by decide +kernel
theorem dL_law_547 : decode cL_law 547 = .ok (.iadd, 1) := by decide +kernel
theorem dL_law_548 : decode cL_law 548 = .ok (.iaload, 1) := by decide +kernel
theorem dL_law_549 : decode cL_law 549 = .ok (.invokevirtual 69, 3) := by decide +kernel
theorem dL_law_552 : decode cL_law 552 = .ok (.if_icmp .eq 652, 3) := by decide +kernel
theorem dL_law_555 : decode cL_law 555 = .ok (.iconst 0, 1) := by decide +kernel
theorem dL_law_556 : decode cL_law 556 = .ok (.ireturn, 1) := by decide +kernel
theorem dL_law_557 : decode cL_law 557 = .ok (.aload_n 1, 1) := by decide +kernel
theorem dL_law_558 : decode cL_law 558 = .ok (.aload_n 0, 1) := by decide +kernel
theorem dL_law_559 : decode cL_law 559 = .ok (.iload_n 3, 1) := by decide +kernel
theorem dL_law_560 : decode cL_law 560 = .ok (.iconst 1, 1) := by decide +kernel
theorem dL_law_561 : decode cL_law 561 = .ok (.iadd, 1) := by decide +kernel
theorem dL_law_562 : decode cL_law 562 = .ok (.iaload, 1) := by decide +kernel
theorem dL_law_563 : decode cL_law 563 = .ok (.aload_n 0, 1) := by decide +kernel
theorem dL_law_564 : decode cL_law 564 = .ok (.iload_n 3, 1) := by decide +kernel
theorem dL_law_565 : decode cL_law 565 = .ok (.iconst 2, 1) := by decide +kernel
theorem dL_law_566 : decode cL_law 566 = .ok (.iadd, 1) := by decide +kernel
theorem dL_law_567 : decode cL_law 567 = .ok (.iaload, 1) := by decide +kernel
theorem dL_law_568 : decode cL_law 568 = .ok (.invokevirtual 70, 3) := by decide +kernel
theorem dL_law_571 : decode cL_law 571 = .ok (.aload_n 2, 1) := by decide +kernel
theorem dL_law_572 : decode cL_law 572 = .ok (.aload_n 0, 1) := by decide +kernel
theorem dL_law_573 : decode cL_law 573 = .ok (.iload_n 3, 1) := by decide +kernel
theorem dL_law_574 : decode cL_law 574 = .ok (.iconst 1, 1) := by decide +kernel
theorem dL_law_575 : decode cL_law 575 = .ok (.iadd, 1) := by decide +kernel
theorem dL_law_576 : decode cL_law 576 = .ok (.iaload, 1) := by decide +kernel
theorem dL_law_577 : decode cL_law 577 = .ok (.aload_n 0, 1) := by decide +kernel
theorem dL_law_578 : decode cL_law 578 = .ok (.iload_n 3, 1) := by decide +kernel
theorem dL_law_579 : decode cL_law 579 = .ok (.iconst 2, 1) := by decide +kernel
theorem dL_law_580 : decode cL_law 580 = .ok (.iadd, 1) := by decide +kernel
theorem dL_law_581 : decode cL_law 581 = .ok (.iaload, 1) := by decide +kernel
theorem dL_law_582 : decode cL_law 582 = .ok (.invokevirtual 73, 3) := by decide +kernel
theorem dL_law_585 : decode cL_law 585 = .ok (.if_icmp .eq 619, 3) := by decide +kernel
theorem dL_law_588 : decode cL_law 588 = .ok (.iconst 0, 1) := by decide +kernel
theorem dL_law_589 : decode cL_law 589 = .ok (.ireturn, 1) := by decide +kernel
theorem dL_law_590 : decode cL_law 590 = .ok (.aload_n 1, 1) := by decide +kernel
theorem dL_law_591 : decode cL_law 591 = .ok (.aload_n 0, 1) := by decide +kernel
theorem dL_law_592 : decode cL_law 592 = .ok (.iload_n 3, 1) := by decide +kernel
theorem dL_law_593 : decode cL_law 593 = .ok (.iconst 1, 1) := by decide +kernel
theorem dL_law_594 : decode cL_law 594 = .ok (.iadd, 1) := by decide +kernel
theorem dL_law_595 : decode cL_law 595 = .ok (.iaload, 1) := by decide +kernel
theorem dL_law_596 : decode cL_law 596 = .ok (.invokevirtual 74, 3) := by decide +kernel
theorem dL_law_599 : decode cL_law 599 = .ok (.aload_n 2, 1) := by decide +kernel
theorem dL_law_600 : decode cL_law 600 = .ok (.aload_n 0, 1) := by decide +kernel
theorem dL_law_601 : decode cL_law 601 = .ok (.iload_n 3, 1) := by decide +kernel
theorem dL_law_602 : decode cL_law 602 = .ok (.iconst 1, 1) := by decide +kernel
theorem dL_law_603 : decode cL_law 603 = .ok (.iadd, 1) := by decide +kernel
theorem dL_law_604 : decode cL_law 604 = .ok (.iaload, 1) := by decide +kernel
theorem dL_law_605 : decode cL_law 605 = .ok (.invokevirtual 77, 3) := by decide +kernel
theorem dL_law_608 : decode cL_law 608 = .ok (.if_icmp .eq 596, 3) := by decide +kernel
theorem dL_law_611 : decode cL_law 611 = .ok (.iconst 0, 1) := by decide +kernel
theorem dL_law_612 : decode cL_law 612 = .ok (.ireturn, 1) := by decide +kernel
theorem dL_law_613 : decode cL_law 613 = .ok (.aload_n 1, 1) := by decide +kernel
theorem dL_law_614 : decode cL_law 614 = .ok (.aload_n 0, 1) := by decide +kernel
theorem dL_law_615 : decode cL_law 615 = .ok (.iload_n 3, 1) := by decide +kernel
theorem dL_law_616 : decode cL_law 616 = .ok (.iconst 1, 1) := by decide +kernel
theorem dL_law_617 : decode cL_law 617 = .ok (.iadd, 1) := by decide +kernel
theorem dL_law_618 : decode cL_law 618 = .ok (.iaload, 1) := by decide +kernel
theorem dL_law_619 : decode cL_law 619 = .ok (.aload_n 0, 1) := by decide +kernel
theorem dL_law_620 : decode cL_law 620 = .ok (.iload_n 3, 1) := by decide +kernel
theorem dL_law_621 : decode cL_law 621 = .ok (.iconst 2, 1) := by decide +kernel
theorem dL_law_622 : decode cL_law 622 = .ok (.iadd, 1) := by decide +kernel
theorem dL_law_623 : decode cL_law 623 = .ok (.iaload, 1) := by decide +kernel
theorem dL_law_624 : decode cL_law 624 = .ok (.invokevirtual 78, 3) := by decide +kernel
theorem dL_law_627 : decode cL_law 627 = .ok (.aload_n 2, 1) := by decide +kernel
theorem dL_law_628 : decode cL_law 628 = .ok (.aload_n 0, 1) := by decide +kernel
theorem dL_law_629 : decode cL_law 629 = .ok (.iload_n 3, 1) := by decide +kernel
theorem dL_law_630 : decode cL_law 630 = .ok (.iconst 1, 1) := by decide +kernel
theorem dL_law_631 : decode cL_law 631 = .ok (.iadd, 1) := by decide +kernel
theorem dL_law_632 : decode cL_law 632 = .ok (.iaload, 1) := by decide +kernel
theorem dL_law_633 : decode cL_law 633 = .ok (.aload_n 0, 1) := by decide +kernel
theorem dL_law_634 : decode cL_law 634 = .ok (.iload_n 3, 1) := by decide +kernel
theorem dL_law_635 : decode cL_law 635 = .ok (.iconst 2, 1) := by decide +kernel
theorem dL_law_636 : decode cL_law 636 = .ok (.iadd, 1) := by decide +kernel
theorem dL_law_637 : decode cL_law 637 = .ok (.iaload, 1) := by decide +kernel
theorem dL_law_638 : decode cL_law 638 = .ok (.invokevirtual 81, 3) := by decide +kernel
theorem dL_law_641 : decode cL_law 641 = .ok (.if_icmp .eq 563, 3) := by decide +kernel
theorem dL_law_644 : decode cL_law 644 = .ok (.iconst 0, 1) := by decide +kernel
theorem dL_law_645 : decode cL_law 645 = .ok (.ireturn, 1) := by decide +kernel
theorem dL_law_646 : decode cL_law 646 = .ok (.aload_n 1, 1) := by decide +kernel
theorem dL_law_647 : decode cL_law 647 = .ok (.aload_n 0, 1) := by decide +kernel
theorem dL_law_648 : decode cL_law 648 = .ok (.iload_n 3, 1) := by decide +kernel
theorem dL_law_649 : decode cL_law 649 = .ok (.iconst 1, 1) := by decide +kernel
theorem dL_law_650 : decode cL_law 650 = .ok (.iadd, 1) := by decide +kernel
theorem dL_law_651 : decode cL_law 651 = .ok (.iaload, 1) := by decide +kernel
theorem dL_law_652 : decode cL_law 652 = .ok (.aload_n 0, 1) := by decide +kernel
theorem dL_law_653 : decode cL_law 653 = .ok (.iload_n 3, 1) := by decide +kernel
theorem dL_law_654 : decode cL_law 654 = .ok (.iconst 2, 1) := by decide +kernel
theorem dL_law_655 : decode cL_law 655 = .ok (.iadd, 1) := by decide +kernel
theorem dL_law_656 : decode cL_law 656 = .ok (.iaload, 1) := by decide +kernel
theorem dL_law_657 : decode cL_law 657 = .ok (.invokevirtual 82, 3) := by decide +kernel
theorem dL_law_660 : decode cL_law 660 = .ok (.aload_n 2, 1) := by decide +kernel
theorem dL_law_661 : decode cL_law 661 = .ok (.aload_n 0, 1) := by decide +kernel
theorem dL_law_662 : decode cL_law 662 = .ok (.iload_n 3, 1) := by decide +kernel
theorem dL_law_663 : decode cL_law 663 = .ok (.iconst 1, 1) := by decide +kernel
theorem dL_law_664 : decode cL_law 664 = .ok (.iadd, 1) := by decide +kernel
theorem dL_law_665 : decode cL_law 665 = .ok (.iaload, 1) := by decide +kernel
theorem dL_law_666 : decode cL_law 666 = .ok (.aload_n 0, 1) := by decide +kernel
theorem dL_law_667 : decode cL_law 667 = .ok (.iload_n 3, 1) := by decide +kernel
theorem dL_law_668 : decode cL_law 668 = .ok (.iconst 2, 1) := by decide +kernel
theorem dL_law_669 : decode cL_law 669 = .ok (.iadd, 1) := by decide +kernel
theorem dL_law_670 : decode cL_law 670 = .ok (.iaload, 1) := by decide +kernel
theorem dL_law_671 : decode cL_law 671 = .ok (.invokevirtual 85, 3) := by decide +kernel
theorem dL_law_674 : decode cL_law 674 = .ok (.if_icmp .eq 530, 3) := by decide +kernel
theorem dL_law_677 : decode cL_law 677 = .ok (.iconst 0, 1) := by decide +kernel
theorem dL_law_678 : decode cL_law 678 = .ok (.ireturn, 1) := by decide +kernel
theorem dL_law_679 : decode cL_law 679 = .ok (.aload_n 1, 1) := by decide +kernel
theorem dL_law_680 : decode cL_law 680 = .ok (.invokevirtual 86, 3) := by decide +kernel
theorem dL_law_683 : decode cL_law 683 = .ok (.aload_n 2, 1) := by decide +kernel
theorem dL_law_684 : decode cL_law 684 = .ok (.invokevirtual 89, 3) := by decide +kernel
theorem dL_law_687 : decode cL_law 687 = .ok (.if_icmp .eq 517, 3) := by decide +kernel
theorem dL_law_690 : decode cL_law 690 = .ok (.iconst 0, 1) := by decide +kernel
theorem dL_law_691 : decode cL_law 691 = .ok (.ireturn, 1) := by decide +kernel
theorem dL_law_692 : decode cL_law 692 = .ok (.aload_n 1, 1) := by decide +kernel
theorem dL_law_693 : decode cL_law 693 = .ok (.aload_n 0, 1) := by decide +kernel
theorem dL_law_694 : decode cL_law 694 = .ok (.iload_n 3, 1) := by decide +kernel
theorem dL_law_695 : decode cL_law 695 = .ok (.iconst 1, 1) := by decide +kernel
theorem dL_law_696 : decode cL_law 696 = .ok (.iadd, 1) := by decide +kernel
theorem dL_law_697 : decode cL_law 697 = .ok (.iaload, 1) := by decide +kernel
theorem dL_law_698 : decode cL_law 698 = .ok (.aload_n 0, 1) := by decide +kernel
theorem dL_law_699 : decode cL_law 699 = .ok (.iload_n 3, 1) := by decide +kernel
theorem dL_law_700 : decode cL_law 700 = .ok (.iconst 2, 1) := by decide +kernel
theorem dL_law_701 : decode cL_law 701 = .ok (.iadd, 1) := by decide +kernel
theorem dL_law_702 : decode cL_law 702 = .ok (.iaload, 1) := by decide +kernel
theorem dL_law_703 : decode cL_law 703 = .ok (.aload_n 0, 1) := by decide +kernel
theorem dL_law_704 : decode cL_law 704 = .ok (.iload_n 3, 1) := by decide +kernel
theorem dL_law_705 : decode cL_law 705 = .ok (.iconst 3, 1) := by decide +kernel
theorem dL_law_706 : decode cL_law 706 = .ok (.iadd, 1) := by decide +kernel
theorem dL_law_707 : decode cL_law 707 = .ok (.iaload, 1) := by decide +kernel
theorem dL_law_708 : decode cL_law 708 = .ok (.invokevirtual 90, 3) := by decide +kernel
theorem dL_law_711 : decode cL_law 711 = .ok (.aload_n 2, 1) := by decide +kernel
theorem dL_law_712 : decode cL_law 712 = .ok (.aload_n 0, 1) := by decide +kernel
theorem dL_law_713 : decode cL_law 713 = .ok (.iload_n 3, 1) := by decide +kernel
theorem dL_law_714 : decode cL_law 714 = .ok (.iconst 1, 1) := by decide +kernel
theorem dL_law_715 : decode cL_law 715 = .ok (.iadd, 1) := by decide +kernel
theorem dL_law_716 : decode cL_law 716 = .ok (.iaload, 1) := by decide +kernel
theorem dL_law_717 : decode cL_law 717 = .ok (.aload_n 0, 1) := by decide +kernel
theorem dL_law_718 : decode cL_law 718 = .ok (.iload_n 3, 1) := by decide +kernel
theorem dL_law_719 : decode cL_law 719 = .ok (.iconst 2, 1) := by decide +kernel
theorem dL_law_720 : decode cL_law 720 = .ok (.iadd, 1) := by decide +kernel
theorem dL_law_721 : decode cL_law 721 = .ok (.iaload, 1) := by decide +kernel
theorem dL_law_722 : decode cL_law 722 = .ok (.aload_n 0, 1) := by decide +kernel
theorem dL_law_723 : decode cL_law 723 = .ok (.iload_n 3, 1) := by decide +kernel
theorem dL_law_724 : decode cL_law 724 = .ok (.iconst 3, 1) := by decide +kernel
theorem dL_law_725 : decode cL_law 725 = .ok (.iadd, 1) := by decide +kernel
theorem dL_law_726 : decode cL_law 726 = .ok (.iaload, 1) := by decide +kernel
theorem dL_law_727 : decode cL_law 727 = .ok (.invokevirtual 93, 3) := by decide +kernel
theorem dL_law_730 : decode cL_law 730 = .ok (.if_icmp .eq 474, 3) := by decide +kernel
theorem dL_law_733 : decode cL_law 733 = .ok (.iconst 0, 1) := by decide +kernel
theorem dL_law_734 : decode cL_law 734 = .ok (.ireturn, 1) := by decide +kernel
theorem dL_law_735 : decode cL_law 735 = .ok (.aload_n 1, 1) := by decide +kernel
theorem dL_law_736 : decode cL_law 736 = .ok (.aload_n 0, 1) := by decide +kernel
theorem dL_law_737 : decode cL_law 737 = .ok (.iload_n 3, 1) := by decide +kernel
theorem dL_law_738 : decode cL_law 738 = .ok (.iconst 1, 1) := by decide +kernel
theorem dL_law_739 : decode cL_law 739 = .ok (.iadd, 1) := by decide +kernel
theorem dL_law_740 : decode cL_law 740 = .ok (.iaload, 1) := by decide +kernel
theorem dL_law_741 : decode cL_law 741 = .ok (.aload_n 0, 1) := by decide +kernel
theorem dL_law_742 : decode cL_law 742 = .ok (.iload_n 3, 1) := by decide +kernel
theorem dL_law_743 : decode cL_law 743 = .ok (.iconst 2, 1) := by decide +kernel
theorem dL_law_744 : decode cL_law 744 = .ok (.iadd, 1) := by decide +kernel
theorem dL_law_745 : decode cL_law 745 = .ok (.iaload, 1) := by decide +kernel
theorem dL_law_746 : decode cL_law 746 = .ok (.invokevirtual 94, 3) := by decide +kernel
theorem dL_law_749 : decode cL_law 749 = .ok (.aload_n 2, 1) := by decide +kernel
theorem dL_law_750 : decode cL_law 750 = .ok (.aload_n 0, 1) := by decide +kernel
theorem dL_law_751 : decode cL_law 751 = .ok (.iload_n 3, 1) := by decide +kernel
theorem dL_law_752 : decode cL_law 752 = .ok (.iconst 1, 1) := by decide +kernel
theorem dL_law_753 : decode cL_law 753 = .ok (.iadd, 1) := by decide +kernel
theorem dL_law_754 : decode cL_law 754 = .ok (.iaload, 1) := by decide +kernel
theorem dL_law_755 : decode cL_law 755 = .ok (.aload_n 0, 1) := by decide +kernel
theorem dL_law_756 : decode cL_law 756 = .ok (.iload_n 3, 1) := by decide +kernel
theorem dL_law_757 : decode cL_law 757 = .ok (.iconst 2, 1) := by decide +kernel
theorem dL_law_758 : decode cL_law 758 = .ok (.iadd, 1) := by decide +kernel
theorem dL_law_759 : decode cL_law 759 = .ok (.iaload, 1) := by decide +kernel
theorem dL_law_760 : decode cL_law 760 = .ok (.invokevirtual 97, 3) := by decide +kernel
theorem dL_law_763 : decode cL_law 763 = .ok (.if_icmp .eq 441, 3) := by decide +kernel
theorem dL_law_766 : decode cL_law 766 = .ok (.iconst 0, 1) := by decide +kernel
theorem dL_law_767 : decode cL_law 767 = .ok (.ireturn, 1) := by decide +kernel
theorem dL_law_768 : decode cL_law 768 = .ok (.aload_n 1, 1) := by decide +kernel
theorem dL_law_769 : decode cL_law 769 = .ok (.invokevirtual 98, 3) := by decide +kernel
theorem dL_law_772 : decode cL_law 772 = .ok (.aload_n 2, 1) := by decide +kernel
theorem dL_law_773 : decode cL_law 773 = .ok (.invokevirtual 101, 3) := by decide +kernel
theorem dL_law_776 : decode cL_law 776 = .ok (.if_icmp .eq 428, 3) := by decide +kernel
theorem dL_law_779 : decode cL_law 779 = .ok (.iconst 0, 1) := by decide +kernel
theorem dL_law_780 : decode cL_law 780 = .ok (.ireturn, 1) := by decide +kernel
theorem dL_law_781 : decode cL_law 781 = .ok (.aload_n 1, 1) := by decide +kernel
theorem dL_law_782 : decode cL_law 782 = .ok (.aload_n 0, 1) := by decide +kernel
theorem dL_law_783 : decode cL_law 783 = .ok (.iload_n 3, 1) := by decide +kernel
theorem dL_law_784 : decode cL_law 784 = .ok (.iconst 1, 1) := by decide +kernel
theorem dL_law_785 : decode cL_law 785 = .ok (.iadd, 1) := by decide +kernel
theorem dL_law_786 : decode cL_law 786 = .ok (.iaload, 1) := by decide +kernel
theorem dL_law_787 : decode cL_law 787 = .ok (.invokevirtual 102, 3) := by decide +kernel
theorem dL_law_790 : decode cL_law 790 = .ok (.aload_n 2, 1) := by decide +kernel
theorem dL_law_791 : decode cL_law 791 = .ok (.aload_n 0, 1) := by decide +kernel
theorem dL_law_792 : decode cL_law 792 = .ok (.iload_n 3, 1) := by decide +kernel
theorem dL_law_793 : decode cL_law 793 = .ok (.iconst 1, 1) := by decide +kernel
theorem dL_law_794 : decode cL_law 794 = .ok (.iadd, 1) := by decide +kernel
theorem dL_law_795 : decode cL_law 795 = .ok (.iaload, 1) := by decide +kernel
theorem dL_law_796 : decode cL_law 796 = .ok (.invokevirtual 105, 3) := by decide +kernel
theorem dL_law_799 : decode cL_law 799 = .ok (.if_icmp .eq 405, 3) := by decide +kernel
theorem dL_law_802 : decode cL_law 802 = .ok (.iconst 0, 1) := by decide +kernel
theorem dL_law_803 : decode cL_law 803 = .ok (.ireturn, 1) := by decide +kernel
theorem dL_law_804 : decode cL_law 804 = .ok (.aload_n 1, 1) := by decide +kernel
theorem dL_law_805 : decode cL_law 805 = .ok (.aload_n 0, 1) := by decide +kernel
theorem dL_law_806 : decode cL_law 806 = .ok (.iload_n 3, 1) := by decide +kernel
theorem dL_law_807 : decode cL_law 807 = .ok (.iconst 1, 1) := by decide +kernel
theorem dL_law_808 : decode cL_law 808 = .ok (.iadd, 1) := by decide +kernel
theorem dL_law_809 : decode cL_law 809 = .ok (.iaload, 1) := by decide +kernel
theorem dL_law_810 : decode cL_law 810 = .ok (.aload_n 0, 1) := by decide +kernel
theorem dL_law_811 : decode cL_law 811 = .ok (.iload_n 3, 1) := by decide +kernel
theorem dL_law_812 : decode cL_law 812 = .ok (.iconst 2, 1) := by decide +kernel
theorem dL_law_813 : decode cL_law 813 = .ok (.iadd, 1) := by decide +kernel
theorem dL_law_814 : decode cL_law 814 = .ok (.iaload, 1) := by decide +kernel
theorem dL_law_815 : decode cL_law 815 = .ok (.aload_n 0, 1) := by decide +kernel
theorem dL_law_816 : decode cL_law 816 = .ok (.iload_n 3, 1) := by decide +kernel
theorem dL_law_817 : decode cL_law 817 = .ok (.iconst 3, 1) := by decide +kernel
theorem dL_law_818 : decode cL_law 818 = .ok (.iadd, 1) := by decide +kernel
theorem dL_law_819 : decode cL_law 819 = .ok (.iaload, 1) := by decide +kernel
theorem dL_law_820 : decode cL_law 820 = .ok (.invokevirtual 106, 3) := by decide +kernel
theorem dL_law_823 : decode cL_law 823 = .ok (.aload_n 2, 1) := by decide +kernel
theorem dL_law_824 : decode cL_law 824 = .ok (.aload_n 0, 1) := by decide +kernel
theorem dL_law_825 : decode cL_law 825 = .ok (.iload_n 3, 1) := by decide +kernel
theorem dL_law_826 : decode cL_law 826 = .ok (.iconst 1, 1) := by decide +kernel
theorem dL_law_827 : decode cL_law 827 = .ok (.iadd, 1) := by decide +kernel
theorem dL_law_828 : decode cL_law 828 = .ok (.iaload, 1) := by decide +kernel
theorem dL_law_829 : decode cL_law 829 = .ok (.aload_n 0, 1) := by decide +kernel
theorem dL_law_830 : decode cL_law 830 = .ok (.iload_n 3, 1) := by decide +kernel
theorem dL_law_831 : decode cL_law 831 = .ok (.iconst 2, 1) := by decide +kernel
theorem dL_law_832 : decode cL_law 832 = .ok (.iadd, 1) := by decide +kernel
theorem dL_law_833 : decode cL_law 833 = .ok (.iaload, 1) := by decide +kernel
theorem dL_law_834 : decode cL_law 834 = .ok (.aload_n 0, 1) := by decide +kernel
theorem dL_law_835 : decode cL_law 835 = .ok (.iload_n 3, 1) := by decide +kernel
theorem dL_law_836 : decode cL_law 836 = .ok (.iconst 3, 1) := by decide +kernel
theorem dL_law_837 : decode cL_law 837 = .ok (.iadd, 1) := by decide +kernel
theorem dL_law_838 : decode cL_law 838 = .ok (.iaload, 1) := by decide +kernel
theorem dL_law_839 : decode cL_law 839 = .ok (.invokevirtual 109, 3) := by decide +kernel
theorem dL_law_842 : decode cL_law 842 = .ok (.if_icmp .eq 362, 3) := by decide +kernel
theorem dL_law_845 : decode cL_law 845 = .ok (.iconst 0, 1) := by decide +kernel
theorem dL_law_846 : decode cL_law 846 = .ok (.ireturn, 1) := by decide +kernel
theorem dL_law_847 : decode cL_law 847 = .ok (.aload_n 1, 1) := by decide +kernel
theorem dL_law_848 : decode cL_law 848 = .ok (.aload_n 0, 1) := by decide +kernel
theorem dL_law_849 : decode cL_law 849 = .ok (.iload_n 3, 1) := by decide +kernel
theorem dL_law_850 : decode cL_law 850 = .ok (.iconst 1, 1) := by decide +kernel
theorem dL_law_851 : decode cL_law 851 = .ok (.iadd, 1) := by decide +kernel
theorem dL_law_852 : decode cL_law 852 = .ok (.iaload, 1) := by decide +kernel
theorem dL_law_853 : decode cL_law 853 = .ok (.aload_n 0, 1) := by decide +kernel
theorem dL_law_854 : decode cL_law 854 = .ok (.iload_n 3, 1) := by decide +kernel
theorem dL_law_855 : decode cL_law 855 = .ok (.iconst 2, 1) := by decide +kernel
theorem dL_law_856 : decode cL_law 856 = .ok (.iadd, 1) := by decide +kernel
theorem dL_law_857 : decode cL_law 857 = .ok (.iaload, 1) := by decide +kernel
theorem dL_law_858 : decode cL_law 858 = .ok (.aload_n 0, 1) := by decide +kernel
theorem dL_law_859 : decode cL_law 859 = .ok (.iload_n 3, 1) := by decide +kernel
theorem dL_law_860 : decode cL_law 860 = .ok (.iconst 3, 1) := by decide +kernel
theorem dL_law_861 : decode cL_law 861 = .ok (.iadd, 1) := by decide +kernel
theorem dL_law_862 : decode cL_law 862 = .ok (.iaload, 1) := by decide +kernel
theorem dL_law_863 : decode cL_law 863 = .ok (.aload_n 0, 1) := by decide +kernel
theorem dL_law_864 : decode cL_law 864 = .ok (.iload_n 3, 1) := by decide +kernel
theorem dL_law_865 : decode cL_law 865 = .ok (.iconst 4, 1) := by decide +kernel
theorem dL_law_866 : decode cL_law 866 = .ok (.iadd, 1) := by decide +kernel
theorem dL_law_867 : decode cL_law 867 = .ok (.iaload, 1) := by decide +kernel
theorem dL_law_868 : decode cL_law 868 = .ok (.invokevirtual 110, 3) := by decide +kernel
theorem dL_law_871 : decode cL_law 871 = .ok (.aload_n 2, 1) := by decide +kernel
theorem dL_law_872 : decode cL_law 872 = .ok (.aload_n 0, 1) := by decide +kernel
theorem dL_law_873 : decode cL_law 873 = .ok (.iload_n 3, 1) := by decide +kernel
theorem dL_law_874 : decode cL_law 874 = .ok (.iconst 1, 1) := by decide +kernel
theorem dL_law_875 : decode cL_law 875 = .ok (.iadd, 1) := by decide +kernel
theorem dL_law_876 : decode cL_law 876 = .ok (.iaload, 1) := by decide +kernel
theorem dL_law_877 : decode cL_law 877 = .ok (.aload_n 0, 1) := by decide +kernel
theorem dL_law_878 : decode cL_law 878 = .ok (.iload_n 3, 1) := by decide +kernel
theorem dL_law_879 : decode cL_law 879 = .ok (.iconst 2, 1) := by decide +kernel
theorem dL_law_880 : decode cL_law 880 = .ok (.iadd, 1) := by decide +kernel
theorem dL_law_881 : decode cL_law 881 = .ok (.iaload, 1) := by decide +kernel
theorem dL_law_882 : decode cL_law 882 = .ok (.aload_n 0, 1) := by decide +kernel
theorem dL_law_883 : decode cL_law 883 = .ok (.iload_n 3, 1) := by decide +kernel
theorem dL_law_884 : decode cL_law 884 = .ok (.iconst 3, 1) := by decide +kernel
theorem dL_law_885 : decode cL_law 885 = .ok (.iadd, 1) := by decide +kernel
theorem dL_law_886 : decode cL_law 886 = .ok (.iaload, 1) := by decide +kernel
theorem dL_law_887 : decode cL_law 887 = .ok (.aload_n 0, 1) := by decide +kernel
theorem dL_law_888 : decode cL_law 888 = .ok (.iload_n 3, 1) := by decide +kernel
theorem dL_law_889 : decode cL_law 889 = .ok (.iconst 4, 1) := by decide +kernel
theorem dL_law_890 : decode cL_law 890 = .ok (.iadd, 1) := by decide +kernel
theorem dL_law_891 : decode cL_law 891 = .ok (.iaload, 1) := by decide +kernel
theorem dL_law_892 : decode cL_law 892 = .ok (.invokevirtual 114, 3) := by decide +kernel
theorem dL_law_895 : decode cL_law 895 = .ok (.if_icmp .eq 309, 3) := by decide +kernel
theorem dL_law_898 : decode cL_law 898 = .ok (.iconst 0, 1) := by decide +kernel
theorem dL_law_899 : decode cL_law 899 = .ok (.ireturn, 1) := by decide +kernel
theorem dL_law_900 : decode cL_law 900 = .ok (.aload_n 1, 1) := by decide +kernel
theorem dL_law_901 : decode cL_law 901 = .ok (.aload_n 0, 1) := by decide +kernel
theorem dL_law_902 : decode cL_law 902 = .ok (.iload_n 3, 1) := by decide +kernel
theorem dL_law_903 : decode cL_law 903 = .ok (.iconst 1, 1) := by decide +kernel
theorem dL_law_904 : decode cL_law 904 = .ok (.iadd, 1) := by decide +kernel
theorem dL_law_905 : decode cL_law 905 = .ok (.iaload, 1) := by decide +kernel
theorem dL_law_906 : decode cL_law 906 = .ok (.invokevirtual 115, 3) := by decide +kernel
theorem dL_law_909 : decode cL_law 909 = .ok (.aload_n 2, 1) := by decide +kernel
theorem dL_law_910 : decode cL_law 910 = .ok (.aload_n 0, 1) := by decide +kernel
theorem dL_law_911 : decode cL_law 911 = .ok (.iload_n 3, 1) := by decide +kernel
theorem dL_law_912 : decode cL_law 912 = .ok (.iconst 1, 1) := by decide +kernel
theorem dL_law_913 : decode cL_law 913 = .ok (.iadd, 1) := by decide +kernel
theorem dL_law_914 : decode cL_law 914 = .ok (.iaload, 1) := by decide +kernel
theorem dL_law_915 : decode cL_law 915 = .ok (.invokevirtual 118, 3) := by decide +kernel
theorem dL_law_918 : decode cL_law 918 = .ok (.if_icmp .eq 286, 3) := by decide +kernel
theorem dL_law_921 : decode cL_law 921 = .ok (.iconst 0, 1) := by decide +kernel
theorem dL_law_922 : decode cL_law 922 = .ok (.ireturn, 1) := by decide +kernel
theorem dL_law_923 : decode cL_law 923 = .ok (.aload_n 1, 1) := by decide +kernel
theorem dL_law_924 : decode cL_law 924 = .ok (.aload_n 0, 1) := by decide +kernel
theorem dL_law_925 : decode cL_law 925 = .ok (.iload_n 3, 1) := by decide +kernel
theorem dL_law_926 : decode cL_law 926 = .ok (.iconst 1, 1) := by decide +kernel
theorem dL_law_927 : decode cL_law 927 = .ok (.iadd, 1) := by decide +kernel
theorem dL_law_928 : decode cL_law 928 = .ok (.iaload, 1) := by decide +kernel
theorem dL_law_929 : decode cL_law 929 = .ok (.aload_n 0, 1) := by decide +kernel
theorem dL_law_930 : decode cL_law 930 = .ok (.iload_n 3, 1) := by decide +kernel
theorem dL_law_931 : decode cL_law 931 = .ok (.iconst 2, 1) := by decide +kernel
theorem dL_law_932 : decode cL_law 932 = .ok (.iadd, 1) := by decide +kernel
theorem dL_law_933 : decode cL_law 933 = .ok (.iaload, 1) := by decide +kernel
theorem dL_law_934 : decode cL_law 934 = .ok (.aload_n 0, 1) := by decide +kernel
theorem dL_law_935 : decode cL_law 935 = .ok (.iload_n 3, 1) := by decide +kernel
theorem dL_law_936 : decode cL_law 936 = .ok (.iconst 3, 1) := by decide +kernel
theorem dL_law_937 : decode cL_law 937 = .ok (.iadd, 1) := by decide +kernel
theorem dL_law_938 : decode cL_law 938 = .ok (.iaload, 1) := by decide +kernel
theorem dL_law_939 : decode cL_law 939 = .ok (.invokevirtual 119, 3) := by decide +kernel
theorem dL_law_942 : decode cL_law 942 = .ok (.aload_n 2, 1) := by decide +kernel
theorem dL_law_943 : decode cL_law 943 = .ok (.aload_n 0, 1) := by decide +kernel
theorem dL_law_944 : decode cL_law 944 = .ok (.iload_n 3, 1) := by decide +kernel
theorem dL_law_945 : decode cL_law 945 = .ok (.iconst 1, 1) := by decide +kernel
theorem dL_law_946 : decode cL_law 946 = .ok (.iadd, 1) := by decide +kernel
theorem dL_law_947 : decode cL_law 947 = .ok (.iaload, 1) := by decide +kernel
theorem dL_law_948 : decode cL_law 948 = .ok (.aload_n 0, 1) := by decide +kernel
theorem dL_law_949 : decode cL_law 949 = .ok (.iload_n 3, 1) := by decide +kernel
theorem dL_law_950 : decode cL_law 950 = .ok (.iconst 2, 1) := by decide +kernel
theorem dL_law_951 : decode cL_law 951 = .ok (.iadd, 1) := by decide +kernel
theorem dL_law_952 : decode cL_law 952 = .ok (.iaload, 1) := by decide +kernel
theorem dL_law_953 : decode cL_law 953 = .ok (.aload_n 0, 1) := by decide +kernel
theorem dL_law_954 : decode cL_law 954 = .ok (.iload_n 3, 1) := by decide +kernel
theorem dL_law_955 : decode cL_law 955 = .ok (.iconst 3, 1) := by decide +kernel
theorem dL_law_956 : decode cL_law 956 = .ok (.iadd, 1) := by decide +kernel
theorem dL_law_957 : decode cL_law 957 = .ok (.iaload, 1) := by decide +kernel
theorem dL_law_958 : decode cL_law 958 = .ok (.invokevirtual 123, 3) := by decide +kernel
theorem dL_law_961 : decode cL_law 961 = .ok (.lcmp, 1) := by decide +kernel
theorem dL_law_962 : decode cL_law 962 = .ok (.ifCond .eq 242, 3) := by decide +kernel
theorem dL_law_965 : decode cL_law 965 = .ok (.iconst 0, 1) := by decide +kernel
theorem dL_law_966 : decode cL_law 966 = .ok (.ireturn, 1) := by decide +kernel
theorem dL_law_967 : decode cL_law 967 = .ok (.aload_n 1, 1) := by decide +kernel
theorem dL_law_968 : decode cL_law 968 = .ok (.aload_n 0, 1) := by decide +kernel
theorem dL_law_969 : decode cL_law 969 = .ok (.iload_n 3, 1) := by decide +kernel
theorem dL_law_970 : decode cL_law 970 = .ok (.iconst 1, 1) := by decide +kernel
theorem dL_law_971 : decode cL_law 971 = .ok (.iadd, 1) := by decide +kernel
theorem dL_law_972 : decode cL_law 972 = .ok (.iaload, 1) := by decide +kernel
theorem dL_law_973 : decode cL_law 973 = .ok (.aload_n 0, 1) := by decide +kernel
theorem dL_law_974 : decode cL_law 974 = .ok (.iload_n 3, 1) := by decide +kernel
theorem dL_law_975 : decode cL_law 975 = .ok (.iconst 2, 1) := by decide +kernel
theorem dL_law_976 : decode cL_law 976 = .ok (.iadd, 1) := by decide +kernel
theorem dL_law_977 : decode cL_law 977 = .ok (.iaload, 1) := by decide +kernel
theorem dL_law_978 : decode cL_law 978 = .ok (.aload_n 0, 1) := by decide +kernel
theorem dL_law_979 : decode cL_law 979 = .ok (.iload_n 3, 1) := by decide +kernel
theorem dL_law_980 : decode cL_law 980 = .ok (.iconst 3, 1) := by decide +kernel
theorem dL_law_981 : decode cL_law 981 = .ok (.iadd, 1) := by decide +kernel
theorem dL_law_982 : decode cL_law 982 = .ok (.iaload, 1) := by decide +kernel
theorem dL_law_983 : decode cL_law 983 = .ok (.invokevirtual 124, 3) := by decide +kernel
theorem dL_law_986 : decode cL_law 986 = .ok (.aload_n 2, 1) := by decide +kernel
theorem dL_law_987 : decode cL_law 987 = .ok (.aload_n 0, 1) := by decide +kernel
theorem dL_law_988 : decode cL_law 988 = .ok (.iload_n 3, 1) := by decide +kernel
theorem dL_law_989 : decode cL_law 989 = .ok (.iconst 1, 1) := by decide +kernel
theorem dL_law_990 : decode cL_law 990 = .ok (.iadd, 1) := by decide +kernel
theorem dL_law_991 : decode cL_law 991 = .ok (.iaload, 1) := by decide +kernel
theorem dL_law_992 : decode cL_law 992 = .ok (.aload_n 0, 1) := by decide +kernel
theorem dL_law_993 : decode cL_law 993 = .ok (.iload_n 3, 1) := by decide +kernel
theorem dL_law_994 : decode cL_law 994 = .ok (.iconst 2, 1) := by decide +kernel
theorem dL_law_995 : decode cL_law 995 = .ok (.iadd, 1) := by decide +kernel
theorem dL_law_996 : decode cL_law 996 = .ok (.iaload, 1) := by decide +kernel
theorem dL_law_997 : decode cL_law 997 = .ok (.aload_n 0, 1) := by decide +kernel
theorem dL_law_998 : decode cL_law 998 = .ok (.iload_n 3, 1) := by decide +kernel
theorem dL_law_999 : decode cL_law 999 = .ok (.iconst 3, 1) := by decide +kernel
theorem dL_law_1000 : decode cL_law 1000 = .ok (.iadd, 1) := by decide +kernel
theorem dL_law_1001 : decode cL_law 1001 = .ok (.iaload, 1) := by decide +kernel
theorem dL_law_1002 : decode cL_law 1002 = .ok (.invokevirtual 127, 3) := by decide +kernel
theorem dL_law_1005 : decode cL_law 1005 = .ok (.if_icmp .eq 199, 3) := by decide +kernel
theorem dL_law_1008 : decode cL_law 1008 = .ok (.iconst 0, 1) := by decide +kernel
theorem dL_law_1009 : decode cL_law 1009 = .ok (.ireturn, 1) := by decide +kernel
theorem dL_law_1010 : decode cL_law 1010 = .ok (.aload_n 1, 1) := by decide +kernel
theorem dL_law_1011 : decode cL_law 1011 = .ok (.aload_n 0, 1) := by decide +kernel
theorem dL_law_1012 : decode cL_law 1012 = .ok (.iload_n 3, 1) := by decide +kernel
theorem dL_law_1013 : decode cL_law 1013 = .ok (.iconst 1, 1) := by decide +kernel
theorem dL_law_1014 : decode cL_law 1014 = .ok (.iadd, 1) := by decide +kernel
theorem dL_law_1015 : decode cL_law 1015 = .ok (.iaload, 1) := by decide +kernel
theorem dL_law_1016 : decode cL_law 1016 = .ok (.invokevirtual 128, 3) := by decide +kernel
theorem dL_law_1019 : decode cL_law 1019 = .ok (.aload_n 2, 1) := by decide +kernel
theorem dL_law_1020 : decode cL_law 1020 = .ok (.aload_n 0, 1) := by decide +kernel
theorem dL_law_1021 : decode cL_law 1021 = .ok (.iload_n 3, 1) := by decide +kernel
theorem dL_law_1022 : decode cL_law 1022 = .ok (.iconst 1, 1) := by decide +kernel
theorem dL_law_1023 : decode cL_law 1023 = .ok (.iadd, 1) := by decide +kernel
theorem dL_law_1024 : decode cL_law 1024 = .ok (.iaload, 1) := by decide +kernel
theorem dL_law_1025 : decode cL_law 1025 = .ok (.invokevirtual 131, 3) := by decide +kernel
theorem dL_law_1028 : decode cL_law 1028 = .ok (.if_icmp .eq 176, 3) := by decide +kernel
theorem dL_law_1031 : decode cL_law 1031 = .ok (.iconst 0, 1) := by decide +kernel
theorem dL_law_1032 : decode cL_law 1032 = .ok (.ireturn, 1) := by decide +kernel
theorem dL_law_1033 : decode cL_law 1033 = .ok (.aload_n 1, 1) := by decide +kernel
theorem dL_law_1034 : decode cL_law 1034 = .ok (.aload_n 0, 1) := by decide +kernel
theorem dL_law_1035 : decode cL_law 1035 = .ok (.iload_n 3, 1) := by decide +kernel
theorem dL_law_1036 : decode cL_law 1036 = .ok (.iconst 1, 1) := by decide +kernel
theorem dL_law_1037 : decode cL_law 1037 = .ok (.iadd, 1) := by decide +kernel
theorem dL_law_1038 : decode cL_law 1038 = .ok (.iaload, 1) := by decide +kernel
theorem dL_law_1039 : decode cL_law 1039 = .ok (.invokevirtual 132, 3) := by decide +kernel
theorem dL_law_1042 : decode cL_law 1042 = .ok (.aload_n 2, 1) := by decide +kernel
theorem dL_law_1043 : decode cL_law 1043 = .ok (.aload_n 0, 1) := by decide +kernel
theorem dL_law_1044 : decode cL_law 1044 = .ok (.iload_n 3, 1) := by decide +kernel
theorem dL_law_1045 : decode cL_law 1045 = .ok (.iconst 1, 1) := by decide +kernel
theorem dL_law_1046 : decode cL_law 1046 = .ok (.iadd, 1) := by decide +kernel
theorem dL_law_1047 : decode cL_law 1047 = .ok (.iaload, 1) := by decide +kernel
theorem dL_law_1048 : decode cL_law 1048 = .ok (.invokevirtual 135, 3) := by decide +kernel
theorem dL_law_1051 : decode cL_law 1051 = .ok (.if_icmp .eq 153, 3) := by decide +kernel
theorem dL_law_1054 : decode cL_law 1054 = .ok (.iconst 0, 1) := by decide +kernel
theorem dL_law_1055 : decode cL_law 1055 = .ok (.ireturn, 1) := by decide +kernel
theorem dL_law_1056 : decode cL_law 1056 = .ok (.aload_n 1, 1) := by decide +kernel
theorem dL_law_1057 : decode cL_law 1057 = .ok (.aload_n 0, 1) := by decide +kernel
theorem dL_law_1058 : decode cL_law 1058 = .ok (.iload_n 3, 1) := by decide +kernel
theorem dL_law_1059 : decode cL_law 1059 = .ok (.iconst 1, 1) := by decide +kernel
theorem dL_law_1060 : decode cL_law 1060 = .ok (.iadd, 1) := by decide +kernel
theorem dL_law_1061 : decode cL_law 1061 = .ok (.iaload, 1) := by decide +kernel
theorem dL_law_1062 : decode cL_law 1062 = .ok (.invokevirtual 136, 3) := by decide +kernel
theorem dL_law_1065 : decode cL_law 1065 = .ok (.aload_n 2, 1) := by decide +kernel
theorem dL_law_1066 : decode cL_law 1066 = .ok (.aload_n 0, 1) := by decide +kernel
theorem dL_law_1067 : decode cL_law 1067 = .ok (.iload_n 3, 1) := by decide +kernel
theorem dL_law_1068 : decode cL_law 1068 = .ok (.iconst 1, 1) := by decide +kernel
theorem dL_law_1069 : decode cL_law 1069 = .ok (.iadd, 1) := by decide +kernel
theorem dL_law_1070 : decode cL_law 1070 = .ok (.iaload, 1) := by decide +kernel
theorem dL_law_1071 : decode cL_law 1071 = .ok (.invokevirtual 139, 3) := by decide +kernel
theorem dL_law_1074 : decode cL_law 1074 = .ok (.if_icmp .eq 130, 3) := by decide +kernel
theorem dL_law_1077 : decode cL_law 1077 = .ok (.iconst 0, 1) := by decide +kernel
theorem dL_law_1078 : decode cL_law 1078 = .ok (.ireturn, 1) := by decide +kernel
theorem dL_law_1079 : decode cL_law 1079 = .ok (.aload_n 1, 1) := by decide +kernel
theorem dL_law_1080 : decode cL_law 1080 = .ok (.aload_n 0, 1) := by decide +kernel
theorem dL_law_1081 : decode cL_law 1081 = .ok (.iload_n 3, 1) := by decide +kernel
theorem dL_law_1082 : decode cL_law 1082 = .ok (.iconst 1, 1) := by decide +kernel
theorem dL_law_1083 : decode cL_law 1083 = .ok (.iadd, 1) := by decide +kernel
theorem dL_law_1084 : decode cL_law 1084 = .ok (.iaload, 1) := by decide +kernel
theorem dL_law_1085 : decode cL_law 1085 = .ok (.aload_n 0, 1) := by decide +kernel
theorem dL_law_1086 : decode cL_law 1086 = .ok (.iload_n 3, 1) := by decide +kernel
theorem dL_law_1087 : decode cL_law 1087 = .ok (.iconst 2, 1) := by decide +kernel
theorem dL_law_1088 : decode cL_law 1088 = .ok (.iadd, 1) := by decide +kernel
theorem dL_law_1089 : decode cL_law 1089 = .ok (.iaload, 1) := by decide +kernel
theorem dL_law_1090 : decode cL_law 1090 = .ok (.invokevirtual 140, 3) := by decide +kernel
theorem dL_law_1093 : decode cL_law 1093 = .ok (.aload_n 2, 1) := by decide +kernel
theorem dL_law_1094 : decode cL_law 1094 = .ok (.aload_n 0, 1) := by decide +kernel
theorem dL_law_1095 : decode cL_law 1095 = .ok (.iload_n 3, 1) := by decide +kernel
theorem dL_law_1096 : decode cL_law 1096 = .ok (.iconst 1, 1) := by decide +kernel
theorem dL_law_1097 : decode cL_law 1097 = .ok (.iadd, 1) := by decide +kernel
theorem dL_law_1098 : decode cL_law 1098 = .ok (.iaload, 1) := by decide +kernel
theorem dL_law_1099 : decode cL_law 1099 = .ok (.aload_n 0, 1) := by decide +kernel
theorem dL_law_1100 : decode cL_law 1100 = .ok (.iload_n 3, 1) := by decide +kernel
theorem dL_law_1101 : decode cL_law 1101 = .ok (.iconst 2, 1) := by decide +kernel
theorem dL_law_1102 : decode cL_law 1102 = .ok (.iadd, 1) := by decide +kernel
theorem dL_law_1103 : decode cL_law 1103 = .ok (.iaload, 1) := by decide +kernel
theorem dL_law_1104 : decode cL_law 1104 = .ok (.invokevirtual 143, 3) := by decide +kernel
theorem dL_law_1107 : decode cL_law 1107 = .ok (.if_icmp .eq 97, 3) := by decide +kernel
theorem dL_law_1110 : decode cL_law 1110 = .ok (.iconst 0, 1) := by decide +kernel
theorem dL_law_1111 : decode cL_law 1111 = .ok (.ireturn, 1) := by decide +kernel
theorem dL_law_1112 : decode cL_law 1112 = .ok (.aload_n 1, 1) := by decide +kernel
theorem dL_law_1113 : decode cL_law 1113 = .ok (.aload_n 0, 1) := by decide +kernel
theorem dL_law_1114 : decode cL_law 1114 = .ok (.iload_n 3, 1) := by decide +kernel
theorem dL_law_1115 : decode cL_law 1115 = .ok (.iconst 1, 1) := by decide +kernel
theorem dL_law_1116 : decode cL_law 1116 = .ok (.iadd, 1) := by decide +kernel
theorem dL_law_1117 : decode cL_law 1117 = .ok (.iaload, 1) := by decide +kernel
theorem dL_law_1118 : decode cL_law 1118 = .ok (.aload_n 0, 1) := by decide +kernel
theorem dL_law_1119 : decode cL_law 1119 = .ok (.iload_n 3, 1) := by decide +kernel
theorem dL_law_1120 : decode cL_law 1120 = .ok (.iconst 2, 1) := by decide +kernel
theorem dL_law_1121 : decode cL_law 1121 = .ok (.iadd, 1) := by decide +kernel
theorem dL_law_1122 : decode cL_law 1122 = .ok (.iaload, 1) := by decide +kernel
theorem dL_law_1123 : decode cL_law 1123 = .ok (.invokevirtual 144, 3) := by decide +kernel
theorem dL_law_1126 : decode cL_law 1126 = .ok (.aload_n 2, 1) := by decide +kernel
theorem dL_law_1127 : decode cL_law 1127 = .ok (.aload_n 0, 1) := by decide +kernel
theorem dL_law_1128 : decode cL_law 1128 = .ok (.iload_n 3, 1) := by decide +kernel
theorem dL_law_1129 : decode cL_law 1129 = .ok (.iconst 1, 1) := by decide +kernel
theorem dL_law_1130 : decode cL_law 1130 = .ok (.iadd, 1) := by decide +kernel
theorem dL_law_1131 : decode cL_law 1131 = .ok (.iaload, 1) := by decide +kernel
theorem dL_law_1132 : decode cL_law 1132 = .ok (.aload_n 0, 1) := by decide +kernel
theorem dL_law_1133 : decode cL_law 1133 = .ok (.iload_n 3, 1) := by decide +kernel
theorem dL_law_1134 : decode cL_law 1134 = .ok (.iconst 2, 1) := by decide +kernel
theorem dL_law_1135 : decode cL_law 1135 = .ok (.iadd, 1) := by decide +kernel
theorem dL_law_1136 : decode cL_law 1136 = .ok (.iaload, 1) := by decide +kernel
theorem dL_law_1137 : decode cL_law 1137 = .ok (.invokevirtual 147, 3) := by decide +kernel
theorem dL_law_1140 : decode cL_law 1140 = .ok (.if_icmp .eq 64, 3) := by decide +kernel
theorem dL_law_1143 : decode cL_law 1143 = .ok (.iconst 0, 1) := by decide +kernel
theorem dL_law_1144 : decode cL_law 1144 = .ok (.ireturn, 1) := by decide +kernel
theorem dL_law_1145 : decode cL_law 1145 = .ok (.aload_n 1, 1) := by decide +kernel
theorem dL_law_1146 : decode cL_law 1146 = .ok (.aload_n 0, 1) := by decide +kernel
theorem dL_law_1147 : decode cL_law 1147 = .ok (.iload_n 3, 1) := by decide +kernel
theorem dL_law_1148 : decode cL_law 1148 = .ok (.iconst 1, 1) := by decide +kernel
theorem dL_law_1149 : decode cL_law 1149 = .ok (.iadd, 1) := by decide +kernel
theorem dL_law_1150 : decode cL_law 1150 = .ok (.iaload, 1) := by decide +kernel
theorem dL_law_1151 : decode cL_law 1151 = .ok (.invokevirtual 148, 3) := by decide +kernel
theorem dL_law_1154 : decode cL_law 1154 = .ok (.aload_n 2, 1) := by decide +kernel
theorem dL_law_1155 : decode cL_law 1155 = .ok (.aload_n 0, 1) := by decide +kernel
theorem dL_law_1156 : decode cL_law 1156 = .ok (.iload_n 3, 1) := by decide +kernel
theorem dL_law_1157 : decode cL_law 1157 = .ok (.iconst 1, 1) := by decide +kernel
theorem dL_law_1158 : decode cL_law 1158 = .ok (.iadd, 1) := by decide +kernel
theorem dL_law_1159 : decode cL_law 1159 = .ok (.iaload, 1) := by decide +kernel
theorem dL_law_1160 : decode cL_law 1160 = .ok (.invokevirtual 151, 3) := by decide +kernel
theorem dL_law_1163 : decode cL_law 1163 = .ok (.if_icmp .eq 41, 3) := by decide +kernel
theorem dL_law_1166 : decode cL_law 1166 = .ok (.iconst 0, 1) := by decide +kernel
theorem dL_law_1167 : decode cL_law 1167 = .ok (.ireturn, 1) := by decide +kernel
theorem dL_law_1168 : decode cL_law 1168 = .ok (.aload_n 1, 1) := by decide +kernel
theorem dL_law_1169 : decode cL_law 1169 = .ok (.aload_n 0, 1) := by decide +kernel
theorem dL_law_1170 : decode cL_law 1170 = .ok (.iload_n 3, 1) := by decide +kernel
theorem dL_law_1171 : decode cL_law 1171 = .ok (.iconst 1, 1) := by decide +kernel
theorem dL_law_1172 : decode cL_law 1172 = .ok (.iadd, 1) := by decide +kernel
theorem dL_law_1173 : decode cL_law 1173 = .ok (.iaload, 1) := by decide +kernel
theorem dL_law_1174 : decode cL_law 1174 = .ok (.invokevirtual 152, 3) := by decide +kernel
theorem dL_law_1177 : decode cL_law 1177 = .ok (.aload_n 2, 1) := by decide +kernel
theorem dL_law_1178 : decode cL_law 1178 = .ok (.aload_n 0, 1) := by decide +kernel
theorem dL_law_1179 : decode cL_law 1179 = .ok (.iload_n 3, 1) := by decide +kernel
theorem dL_law_1180 : decode cL_law 1180 = .ok (.iconst 1, 1) := by decide +kernel
theorem dL_law_1181 : decode cL_law 1181 = .ok (.iadd, 1) := by decide +kernel
theorem dL_law_1182 : decode cL_law 1182 = .ok (.iaload, 1) := by decide +kernel
theorem dL_law_1183 : decode cL_law 1183 = .ok (.invokevirtual 155, 3) := by decide +kernel
theorem dL_law_1186 : decode cL_law 1186 = .ok (.if_icmp .eq 18, 3) := by decide +kernel
theorem dL_law_1189 : decode cL_law 1189 = .ok (.iconst 0, 1) := by decide +kernel
theorem dL_law_1190 : decode cL_law 1190 = .ok (.ireturn, 1) := by decide +kernel
theorem dL_law_1191 : decode cL_law 1191 = .ok (.aload_n 1, 1) := by decide +kernel
theorem dL_law_1192 : decode cL_law 1192 = .ok (.invokevirtual 156, 3) := by decide +kernel
theorem dL_law_1195 : decode cL_law 1195 = .ok (.aload_n 2, 1) := by decide +kernel
theorem dL_law_1196 : decode cL_law 1196 = .ok (.invokevirtual 159, 3) := by decide +kernel
theorem dL_law_1199 : decode cL_law 1199 = .ok (.if_icmp .eq 5, 3) := by decide +kernel
theorem dL_law_1202 : decode cL_law 1202 = .ok (.iconst 0, 1) := by decide +kernel
theorem dL_law_1203 : decode cL_law 1203 = .ok (.ireturn, 1) := by decide +kernel
theorem dL_law_1204 : decode cL_law 1204 = .ok (.iinc 3 6, 3) := by decide +kernel
theorem dL_law_1207 : decode cL_law 1207 = .ok (.goto (-1189), 3) := by decide +kernel
theorem dL_law_1210 : decode cL_law 1210 = .ok (.iconst 1, 1) := by decide +kernel
theorem dL_law_1211 : decode cL_law 1211 = .ok (.ireturn, 1) := by decide +kernel
def bL_law_0 (L : Nat) (xs : Nat → Int32) : List sx_S := [si_new 6 9 [sx_r none, sx_r none, sx_r none, sx_r none, sx_r none, sx_r none, sx_r none, sx_r none, sx_i 0] 600000 7302250, si_dup, si_ci 85 0 52 2263 600000 7302250, si_as 1, si_new 7 23 [sx_i 0, sx_i 0, sx_r none, sx_r none, sx_r none, sx_r none, sx_r none, sx_r none, sx_r none, sx_i 0, sx_r none, sx_i 0, sx_i 0, sx_i 0, sx_i 0, sx_i 0, sx_i 0, sx_i 0, sx_i 0, sx_r none, sx_r none, sx_r none, sx_i 0] 600000 7302250, si_dup, si_ci 123 0 11 2330 600000 7302250, si_as 2, si_const 0, si_is 3, si_go 18 [true, true, true, true]]
def bL_law_18 (L : Nat) (xs : Nat → Int32) : List sx_S := [si_il 3, si_al 0, si_slen L, si_const (nI 6), si_bin (fun x y => x - y), si_if2 (fun x y => y < x) 1210 [false, false, false, false], si_al 0, si_il 3, si_sld L xs, si_const (nI 63), si_bin (fun x y => x &&& y), si_sw [(0, 188, [true, true, true, true]), (1, 231, [true, true, true, true]), ((nI 2), 274, [true, true, true, true]), ((nI 3), 337, [true, true, true, true]), ((nI 4), 360, [true, true, true, true]), ((nI 5), 383, [true, true, true, true]), ((nI 6), 396, [true, true, true, true]), ((nI 7), 409, [true, true, true, true]), ((nI 8), 422, [true, true, true, true]), ((nI 9), 445, [true, true, true, true]), ((nI 10), 478, [true, true, true, true]), ((nI 11), 501, [true, true, true, true]), ((nI 12), 534, [true, true, true, true]), ((nI 13), 557, [true, true, true, true]), ((nI 14), 590, [true, true, true, true]), ((nI 15), 613, [true, true, true, true]), ((nI 16), 646, [true, true, true, true]), ((nI 17), 679, [true, true, true, true]), ((nI 18), 692, [true, true, true, true]), ((nI 19), 735, [true, true, true, true]), ((nI 20), 768, [true, true, true, true]), ((nI 21), 781, [true, true, true, true]), ((nI 22), 804, [true, true, true, true]), ((nI 23), 847, [true, true, true, true]), ((nI 24), 900, [true, true, true, true]), ((nI 25), 923, [true, true, true, true]), ((nI 26), 967, [true, true, true, true]), ((nI 27), 1010, [true, true, true, true]), ((nI 28), 1033, [true, true, true, true]), ((nI 29), 1056, [true, true, true, true]), ((nI 30), 1079, [true, true, true, true]), ((nI 31), 1112, [true, true, true, true]), ((nI 32), 1145, [true, true, true, true]), ((nI 33), 1168, [true, true, true, true]), ((nI 34), 1191, [true, true, true, true])] 1204 [true, true, true, true]]
def bL_law_188 (L : Nat) (xs : Nat → Int32) : List sx_S := [si_al 1, si_al 0, si_il 3, si_const 1, si_bin (fun x y => x + y), si_sld L xs, si_al 0, si_il 3, si_const (nI 2), si_bin (fun x y => x + y), si_sld L xs, si_al 0, si_il 3, si_const (nI 3), si_bin (fun x y => x + y), si_sld L xs, si_cv 6 86 3 0 0 600000 7302250, si_al 2, si_al 0, si_il 3, si_const 1, si_bin (fun x y => x + y), si_sld L xs, si_al 0, si_il 3, si_const (nI 2), si_bin (fun x y => x + y), si_sld L xs, si_al 0, si_il 3, si_const (nI 3), si_bin (fun x y => x + y), si_sld L xs, si_cv 7 127 3 0 0 600000 7302250, si_if2 (fun x y => x = y) 1204 [true, true, true, true], si_const 0, si_rz]
def bL_law_231 (L : Nat) (xs : Nat → Int32) : List sx_S := [si_al 1, si_al 0, si_il 3, si_const 1, si_bin (fun x y => x + y), si_sld L xs, si_al 0, si_il 3, si_const (nI 2), si_bin (fun x y => x + y), si_sld L xs, si_al 0, si_il 3, si_const (nI 3), si_bin (fun x y => x + y), si_sld L xs, si_cv 6 87 3 0 0 600000 7302250, si_al 2, si_al 0, si_il 3, si_const 1, si_bin (fun x y => x + y), si_sld L xs, si_al 0, si_il 3, si_const (nI 2), si_bin (fun x y => x + y), si_sld L xs, si_al 0, si_il 3, si_const (nI 3), si_bin (fun x y => x + y), si_sld L xs, si_cv 7 128 3 0 0 600000 7302250, si_if2 (fun x y => x = y) 1204 [true, true, true, true], si_const 0, si_rz]
def bL_law_274 (L : Nat) (xs : Nat → Int32) : List sx_S := [si_al 1, si_al 0, si_il 3, si_const 1, si_bin (fun x y => x + y), si_sld L xs, si_al 0, si_il 3, si_const (nI 2), si_bin (fun x y => x + y), si_sld L xs, si_al 0, si_il 3, si_const (nI 3), si_bin (fun x y => x + y), si_sld L xs, si_al 0, si_il 3, si_const (nI 4), si_bin (fun x y => x + y), si_sld L xs, si_al 0, si_il 3, si_const (nI 5), si_bin (fun x y => x + y), si_sld L xs, si_cv 6 88 5 0 0 600000 7302250, si_al 2, si_al 0, si_il 3, si_const 1, si_bin (fun x y => x + y), si_sld L xs, si_al 0, si_il 3, si_const (nI 2), si_bin (fun x y => x + y), si_sld L xs, si_al 0, si_il 3, si_const (nI 3), si_bin (fun x y => x + y), si_sld L xs, si_al 0, si_il 3, si_const (nI 4), si_bin (fun x y => x + y), si_sld L xs, si_al 0, si_il 3, si_const (nI 5), si_bin (fun x y => x + y), si_sld L xs, si_cv 7 129 5 0 0 600000 7302250, si_if2 (fun x y => x = y) 1204 [true, true, true, true], si_const 0, si_rz]
def bL_law_337 (L : Nat) (xs : Nat → Int32) : List sx_S := [si_al 1, si_al 0, si_il 3, si_const 1, si_bin (fun x y => x + y), si_sld L xs, si_cv 6 89 1 0 0 600000 7302250, si_al 2, si_al 0, si_il 3, si_const 1, si_bin (fun x y => x + y), si_sld L xs, si_cv 7 130 1 0 0 600000 7302250, si_if2 (fun x y => x = y) 1204 [true, true, true, true], si_const 0, si_rz]
def bL_law_360 (L : Nat) (xs : Nat → Int32) : List sx_S := [si_al 1, si_al 0, si_il 3, si_const 1, si_bin (fun x y => x + y), si_sld L xs, si_cv 6 90 1 0 0 600000 7302250, si_al 2, si_al 0, si_il 3, si_const 1, si_bin (fun x y => x + y), si_sld L xs, si_cv 7 131 1 0 0 600000 7302250, si_if2 (fun x y => x = y) 1204 [true, true, true, true], si_const 0, si_rz]
def bL_law_383 (L : Nat) (xs : Nat → Int32) : List sx_S := [si_al 1, si_cv 6 91 0 0 0 600000 7302250, si_al 2, si_cv 7 144 0 0 0 600000 7302250, si_if2 (fun x y => x = y) 1204 [true, true, true, true], si_const 0, si_rz]
def bL_law_396 (L : Nat) (xs : Nat → Int32) : List sx_S := [si_al 1, si_cv 6 92 0 0 0 600000 7302250, si_al 2, si_cv 7 140 0 0 0 600000 7302250, si_if2 (fun x y => x = y) 1204 [true, true, true, true], si_const 0, si_rz]
def bL_law_409 (L : Nat) (xs : Nat → Int32) : List sx_S := [si_al 1, si_cv 6 93 0 0 0 600000 7302250, si_al 2, si_cv 7 164 0 0 0 600000 7302250, si_if2 (fun x y => x = y) 1204 [true, true, true, true], si_const 0, si_rz]
def bL_law_422 (L : Nat) (xs : Nat → Int32) : List sx_S := [si_al 1, si_al 0, si_il 3, si_const 1, si_bin (fun x y => x + y), si_sld L xs, si_cv 6 94 1 0 0 600000 7302250, si_al 2, si_al 0, si_il 3, si_const 1, si_bin (fun x y => x + y), si_sld L xs, si_cv 7 159 1 0 0 600000 7302250, si_if2 (fun x y => x = y) 1204 [true, true, true, true], si_const 0, si_rz]
def bL_law_445 (L : Nat) (xs : Nat → Int32) : List sx_S := [si_al 1, si_al 0, si_il 3, si_const 1, si_bin (fun x y => x + y), si_sld L xs, si_al 0, si_il 3, si_const (nI 2), si_bin (fun x y => x + y), si_sld L xs, si_cv 6 95 2 0 0 600000 7302250, si_al 2, si_al 0, si_il 3, si_const 1, si_bin (fun x y => x + y), si_sld L xs, si_al 0, si_il 3, si_const (nI 2), si_bin (fun x y => x + y), si_sld L xs, si_cv 7 160 2 0 0 600000 7302250, si_if2 (fun x y => x = y) 1204 [true, true, true, true], si_const 0, si_rz]
def bL_law_478 (L : Nat) (xs : Nat → Int32) : List sx_S := [si_al 1, si_al 0, si_il 3, si_const 1, si_bin (fun x y => x + y), si_sld L xs, si_cv 6 96 1 0 0 600000 7302250, si_al 2, si_al 0, si_il 3, si_const 1, si_bin (fun x y => x + y), si_sld L xs, si_cv 7 161 1 0 0 600000 7302250, si_if2 (fun x y => x = y) 1204 [true, true, true, true], si_const 0, si_rz]
def bL_law_501 (L : Nat) (xs : Nat → Int32) : List sx_S := [si_al 1, si_al 0, si_il 3, si_const 1, si_bin (fun x y => x + y), si_sld L xs, si_al 0, si_il 3, si_const (nI 2), si_bin (fun x y => x + y), si_sld L xs, si_cv 6 97 2 0 0 600000 7302250, si_al 2, si_al 0, si_il 3, si_const 1, si_bin (fun x y => x + y), si_sld L xs, si_al 0, si_il 3, si_const (nI 2), si_bin (fun x y => x + y), si_sld L xs, si_cv 7 162 2 0 0 600000 7302250, si_if2 (fun x y => x = y) 1204 [true, true, true, true], si_const 0, si_rz]
def bL_law_534 (L : Nat) (xs : Nat → Int32) : List sx_S := [si_al 1, si_al 0, si_il 3, si_const 1, si_bin (fun x y => x + y), si_sld L xs, si_cv 6 98 1 0 0 600000 7302250, si_al 2, si_al 0, si_il 3, si_const 1, si_bin (fun x y => x + y), si_sld L xs, si_cv 7 163 1 0 0 600000 7302250, si_if2 (fun x y => x = y) 1204 [true, true, true, true], si_const 0, si_rz]
def bL_law_557 (L : Nat) (xs : Nat → Int32) : List sx_S := [si_al 1, si_al 0, si_il 3, si_const 1, si_bin (fun x y => x + y), si_sld L xs, si_al 0, si_il 3, si_const (nI 2), si_bin (fun x y => x + y), si_sld L xs, si_cv 6 99 2 0 0 600000 7302250, si_al 2, si_al 0, si_il 3, si_const 1, si_bin (fun x y => x + y), si_sld L xs, si_al 0, si_il 3, si_const (nI 2), si_bin (fun x y => x + y), si_sld L xs, si_cv 7 165 2 0 0 600000 7302250, si_if2 (fun x y => x = y) 1204 [true, true, true, true], si_const 0, si_rz]
def bL_law_590 (L : Nat) (xs : Nat → Int32) : List sx_S := [si_al 1, si_al 0, si_il 3, si_const 1, si_bin (fun x y => x + y), si_sld L xs, si_cv 6 100 1 0 0 600000 7302250, si_al 2, si_al 0, si_il 3, si_const 1, si_bin (fun x y => x + y), si_sld L xs, si_cv 7 166 1 0 0 600000 7302250, si_if2 (fun x y => x = y) 1204 [true, true, true, true], si_const 0, si_rz]
def bL_law_613 (L : Nat) (xs : Nat → Int32) : List sx_S := [si_al 1, si_al 0, si_il 3, si_const 1, si_bin (fun x y => x + y), si_sld L xs, si_al 0, si_il 3, si_const (nI 2), si_bin (fun x y => x + y), si_sld L xs, si_cv 6 101 2 0 0 600000 7302250, si_al 2, si_al 0, si_il 3, si_const 1, si_bin (fun x y => x + y), si_sld L xs, si_al 0, si_il 3, si_const (nI 2), si_bin (fun x y => x + y), si_sld L xs, si_cv 7 167 2 0 0 600000 7302250, si_if2 (fun x y => x = y) 1204 [true, true, true, true], si_const 0, si_rz]
def bL_law_646 (L : Nat) (xs : Nat → Int32) : List sx_S := [si_al 1, si_al 0, si_il 3, si_const 1, si_bin (fun x y => x + y), si_sld L xs, si_al 0, si_il 3, si_const (nI 2), si_bin (fun x y => x + y), si_sld L xs, si_cv 6 102 2 0 0 600000 7302250, si_al 2, si_al 0, si_il 3, si_const 1, si_bin (fun x y => x + y), si_sld L xs, si_al 0, si_il 3, si_const (nI 2), si_bin (fun x y => x + y), si_sld L xs, si_cv 7 168 2 0 0 600000 7302250, si_if2 (fun x y => x = y) 1204 [true, true, true, true], si_const 0, si_rz]
def bL_law_679 (L : Nat) (xs : Nat → Int32) : List sx_S := [si_al 1, si_cv 6 103 0 0 0 600000 7302250, si_al 2, si_cv 7 169 0 0 0 600000 7302250, si_if2 (fun x y => x = y) 1204 [true, true, true, true], si_const 0, si_rz]
def bL_law_692 (L : Nat) (xs : Nat → Int32) : List sx_S := [si_al 1, si_al 0, si_il 3, si_const 1, si_bin (fun x y => x + y), si_sld L xs, si_al 0, si_il 3, si_const (nI 2), si_bin (fun x y => x + y), si_sld L xs, si_al 0, si_il 3, si_const (nI 3), si_bin (fun x y => x + y), si_sld L xs, si_cv 6 104 3 0 0 600000 7302250, si_al 2, si_al 0, si_il 3, si_const 1, si_bin (fun x y => x + y), si_sld L xs, si_al 0, si_il 3, si_const (nI 2), si_bin (fun x y => x + y), si_sld L xs, si_al 0, si_il 3, si_const (nI 3), si_bin (fun x y => x + y), si_sld L xs, si_cv 7 170 3 0 0 600000 7302250, si_if2 (fun x y => x = y) 1204 [true, true, true, true], si_const 0, si_rz]
def bL_law_735 (L : Nat) (xs : Nat → Int32) : List sx_S := [si_al 1, si_al 0, si_il 3, si_const 1, si_bin (fun x y => x + y), si_sld L xs, si_al 0, si_il 3, si_const (nI 2), si_bin (fun x y => x + y), si_sld L xs, si_cv 6 105 2 0 0 600000 7302250, si_al 2, si_al 0, si_il 3, si_const 1, si_bin (fun x y => x + y), si_sld L xs, si_al 0, si_il 3, si_const (nI 2), si_bin (fun x y => x + y), si_sld L xs, si_cv 7 172 2 0 0 600000 7302250, si_if2 (fun x y => x = y) 1204 [true, true, true, true], si_const 0, si_rz]
def bL_law_768 (L : Nat) (xs : Nat → Int32) : List sx_S := [si_al 1, si_cv 6 106 0 0 0 600000 7302250, si_al 2, si_cv 7 173 0 0 0 600000 7302250, si_if2 (fun x y => x = y) 1204 [true, true, true, true], si_const 0, si_rz]
def bL_law_781 (L : Nat) (xs : Nat → Int32) : List sx_S := [si_al 1, si_al 0, si_il 3, si_const 1, si_bin (fun x y => x + y), si_sld L xs, si_cv 6 107 1 0 0 600000 7302250, si_al 2, si_al 0, si_il 3, si_const 1, si_bin (fun x y => x + y), si_sld L xs, si_cv 7 174 1 0 0 600000 7302250, si_if2 (fun x y => x = y) 1204 [true, true, true, true], si_const 0, si_rz]
def bL_law_804 (L : Nat) (xs : Nat → Int32) : List sx_S := [si_al 1, si_al 0, si_il 3, si_const 1, si_bin (fun x y => x + y), si_sld L xs, si_al 0, si_il 3, si_const (nI 2), si_bin (fun x y => x + y), si_sld L xs, si_al 0, si_il 3, si_const (nI 3), si_bin (fun x y => x + y), si_sld L xs, si_cv 6 108 3 0 0 600000 7302250, si_al 2, si_al 0, si_il 3, si_const 1, si_bin (fun x y => x + y), si_sld L xs, si_al 0, si_il 3, si_const (nI 2), si_bin (fun x y => x + y), si_sld L xs, si_al 0, si_il 3, si_const (nI 3), si_bin (fun x y => x + y), si_sld L xs, si_cv 7 175 3 0 0 600000 7302250, si_if2 (fun x y => x = y) 1204 [true, true, true, true], si_const 0, si_rz]
def bL_law_847 (L : Nat) (xs : Nat → Int32) : List sx_S := [si_al 1, si_al 0, si_il 3, si_const 1, si_bin (fun x y => x + y), si_sld L xs, si_al 0, si_il 3, si_const (nI 2), si_bin (fun x y => x + y), si_sld L xs, si_al 0, si_il 3, si_const (nI 3), si_bin (fun x y => x + y), si_sld L xs, si_al 0, si_il 3, si_const (nI 4), si_bin (fun x y => x + y), si_sld L xs, si_cv 6 109 4 0 0 600000 7302250, si_al 2, si_al 0, si_il 3, si_const 1, si_bin (fun x y => x + y), si_sld L xs, si_al 0, si_il 3, si_const (nI 2), si_bin (fun x y => x + y), si_sld L xs, si_al 0, si_il 3, si_const (nI 3), si_bin (fun x y => x + y), si_sld L xs, si_al 0, si_il 3, si_const (nI 4), si_bin (fun x y => x + y), si_sld L xs, si_cv 7 176 4 0 0 600000 7302250, si_if2 (fun x y => x = y) 1204 [true, true, true, true], si_const 0, si_rz]
def bL_law_900 (L : Nat) (xs : Nat → Int32) : List sx_S := [si_al 1, si_al 0, si_il 3, si_const 1, si_bin (fun x y => x + y), si_sld L xs, si_cv 6 110 1 0 0 600000 7302250, si_al 2, si_al 0, si_il 3, si_const 1, si_bin (fun x y => x + y), si_sld L xs, si_cv 7 177 1 0 0 600000 7302250, si_if2 (fun x y => x = y) 1204 [true, true, true, true], si_const 0, si_rz]
def bL_law_923 (L : Nat) (xs : Nat → Int32) : List sx_S := [si_al 1, si_al 0, si_il 3, si_const 1, si_bin (fun x y => x + y), si_sld L xs, si_al 0, si_il 3, si_const (nI 2), si_bin (fun x y => x + y), si_sld L xs, si_al 0, si_il 3, si_const (nI 3), si_bin (fun x y => x + y), si_sld L xs, si_cv 6 111 3 0 0 600000 7302250, si_al 2, si_al 0, si_il 3, si_const 1, si_bin (fun x y => x + y), si_sld L xs, si_al 0, si_il 3, si_const (nI 2), si_bin (fun x y => x + y), si_sld L xs, si_al 0, si_il 3, si_const (nI 3), si_bin (fun x y => x + y), si_sld L xs, si_cv 7 178 3 0 0 600000 7302250, si_lcmp, si_if1 (fun x => x = 0) 1204 [true, true, true, true], si_const 0, si_rz]
def bL_law_967 (L : Nat) (xs : Nat → Int32) : List sx_S := [si_al 1, si_al 0, si_il 3, si_const 1, si_bin (fun x y => x + y), si_sld L xs, si_al 0, si_il 3, si_const (nI 2), si_bin (fun x y => x + y), si_sld L xs, si_al 0, si_il 3, si_const (nI 3), si_bin (fun x y => x + y), si_sld L xs, si_cv 6 112 3 0 0 600000 7302250, si_al 2, si_al 0, si_il 3, si_const 1, si_bin (fun x y => x + y), si_sld L xs, si_al 0, si_il 3, si_const (nI 2), si_bin (fun x y => x + y), si_sld L xs, si_al 0, si_il 3, si_const (nI 3), si_bin (fun x y => x + y), si_sld L xs, si_cv 7 179 3 0 0 600000 7302250, si_if2 (fun x y => x = y) 1204 [true, true, true, true], si_const 0, si_rz]
def bL_law_1010 (L : Nat) (xs : Nat → Int32) : List sx_S := [si_al 1, si_al 0, si_il 3, si_const 1, si_bin (fun x y => x + y), si_sld L xs, si_cv 6 113 1 0 0 600000 7302250, si_al 2, si_al 0, si_il 3, si_const 1, si_bin (fun x y => x + y), si_sld L xs, si_cv 7 180 1 0 0 600000 7302250, si_if2 (fun x y => x = y) 1204 [true, true, true, true], si_const 0, si_rz]
def bL_law_1033 (L : Nat) (xs : Nat → Int32) : List sx_S := [si_al 1, si_al 0, si_il 3, si_const 1, si_bin (fun x y => x + y), si_sld L xs, si_cv 6 114 1 0 0 600000 7302250, si_al 2, si_al 0, si_il 3, si_const 1, si_bin (fun x y => x + y), si_sld L xs, si_cv 7 181 1 0 0 600000 7302250, si_if2 (fun x y => x = y) 1204 [true, true, true, true], si_const 0, si_rz]
def bL_law_1056 (L : Nat) (xs : Nat → Int32) : List sx_S := [si_al 1, si_al 0, si_il 3, si_const 1, si_bin (fun x y => x + y), si_sld L xs, si_cv 6 115 1 0 0 600000 7302250, si_al 2, si_al 0, si_il 3, si_const 1, si_bin (fun x y => x + y), si_sld L xs, si_cv 7 183 1 0 0 600000 7302250, si_if2 (fun x y => x = y) 1204 [true, true, true, true], si_const 0, si_rz]
def bL_law_1079 (L : Nat) (xs : Nat → Int32) : List sx_S := [si_al 1, si_al 0, si_il 3, si_const 1, si_bin (fun x y => x + y), si_sld L xs, si_al 0, si_il 3, si_const (nI 2), si_bin (fun x y => x + y), si_sld L xs, si_cv 6 116 2 0 0 600000 7302250, si_al 2, si_al 0, si_il 3, si_const 1, si_bin (fun x y => x + y), si_sld L xs, si_al 0, si_il 3, si_const (nI 2), si_bin (fun x y => x + y), si_sld L xs, si_cv 7 184 2 0 0 600000 7302250, si_if2 (fun x y => x = y) 1204 [true, true, true, true], si_const 0, si_rz]
def bL_law_1112 (L : Nat) (xs : Nat → Int32) : List sx_S := [si_al 1, si_al 0, si_il 3, si_const 1, si_bin (fun x y => x + y), si_sld L xs, si_al 0, si_il 3, si_const (nI 2), si_bin (fun x y => x + y), si_sld L xs, si_cv 6 117 2 0 0 600000 7302250, si_al 2, si_al 0, si_il 3, si_const 1, si_bin (fun x y => x + y), si_sld L xs, si_al 0, si_il 3, si_const (nI 2), si_bin (fun x y => x + y), si_sld L xs, si_cv 7 190 2 0 0 600000 7302250, si_if2 (fun x y => x = y) 1204 [true, true, true, true], si_const 0, si_rz]
def bL_law_1145 (L : Nat) (xs : Nat → Int32) : List sx_S := [si_al 1, si_al 0, si_il 3, si_const 1, si_bin (fun x y => x + y), si_sld L xs, si_cv 6 118 1 0 0 600000 7302250, si_al 2, si_al 0, si_il 3, si_const 1, si_bin (fun x y => x + y), si_sld L xs, si_cv 7 191 1 0 0 600000 7302250, si_if2 (fun x y => x = y) 1204 [true, true, true, true], si_const 0, si_rz]
def bL_law_1168 (L : Nat) (xs : Nat → Int32) : List sx_S := [si_al 1, si_al 0, si_il 3, si_const 1, si_bin (fun x y => x + y), si_sld L xs, si_cv 6 119 1 0 0 600000 7302250, si_al 2, si_al 0, si_il 3, si_const 1, si_bin (fun x y => x + y), si_sld L xs, si_cv 7 193 1 0 0 600000 7302250, si_if2 (fun x y => x = y) 1204 [true, true, true, true], si_const 0, si_rz]
def bL_law_1191 (L : Nat) (xs : Nat → Int32) : List sx_S := [si_al 1, si_cv 6 120 0 0 0 600000 7302250, si_al 2, si_cv 7 194 0 0 0 600000 7302250, si_if2 (fun x y => x = y) 1204 [true, true, true, true], si_const 0, si_rz]
def bL_law_1204 (L : Nat) (xs : Nat → Int32) : List sx_S := [si_inc 3 (nI 6), si_go 18 [true, true, true, true]]
def bL_law_1210 (L : Nat) (xs : Nat → Int32) : List sx_S := [si_const 1, si_rz]
def BL_law (L : Nat) (xs : Nat → Int32) : Nat → List sx_S := fun pc => if pc = 0 then bL_law_0 L xs else if pc = 18 then bL_law_18 L xs else if pc = 188 then bL_law_188 L xs else if pc = 231 then bL_law_231 L xs else if pc = 274 then bL_law_274 L xs else if pc = 337 then bL_law_337 L xs else if pc = 360 then bL_law_360 L xs else if pc = 383 then bL_law_383 L xs else if pc = 396 then bL_law_396 L xs else if pc = 409 then bL_law_409 L xs else if pc = 422 then bL_law_422 L xs else if pc = 445 then bL_law_445 L xs else if pc = 478 then bL_law_478 L xs else if pc = 501 then bL_law_501 L xs else if pc = 534 then bL_law_534 L xs else if pc = 557 then bL_law_557 L xs else if pc = 590 then bL_law_590 L xs else if pc = 613 then bL_law_613 L xs else if pc = 646 then bL_law_646 L xs else if pc = 679 then bL_law_679 L xs else if pc = 692 then bL_law_692 L xs else if pc = 735 then bL_law_735 L xs else if pc = 768 then bL_law_768 L xs else if pc = 781 then bL_law_781 L xs else if pc = 804 then bL_law_804 L xs else if pc = 847 then bL_law_847 L xs else if pc = 900 then bL_law_900 L xs else if pc = 923 then bL_law_923 L xs else if pc = 967 then bL_law_967 L xs else if pc = 1010 then bL_law_1010 L xs else if pc = 1033 then bL_law_1033 L xs else if pc = 1056 then bL_law_1056 L xs else if pc = 1079 then bL_law_1079 L xs else if pc = 1112 then bL_law_1112 L xs else if pc = 1145 then bL_law_1145 L xs else if pc = 1168 then bL_law_1168 L xs else if pc = 1191 then bL_law_1191 L xs else if pc = 1204 then bL_law_1204 L xs else if pc = 1210 then bL_law_1210 L xs else []
set_option maxRecDepth 20000 in
theorem kL_law_0 (L : Nat) (xs : Nat → Int32) : sx_BK sx_tb RL cL_law 4 (some .boolean) room_1 false true L xs 0 (bL_law_0 L xs) := ⟨_, ⟨sn_new (C := RX7) (T := TX7) (N := 9) dL_law_0 rfl zinX7 tyX7_ok zw_1_13 zw_1_14 zw_1_1 (fun _ _ => rfl) zdfX7, sm_new _ _ _ _ _⟩, ⟨_, ⟨sn_dup dL_law_3, sm_dup⟩, ⟨_, ⟨sn_ci_v ztb_X7_init dL_law_4 rfl zw_1_15 zw_1_16 zw_1_1 zw_1_17 zmh_X7 zpd_X7_init (Nat.le_of_ble_eq_true rfl) (Nat.le_of_ble_eq_true rfl) rfl rfl, sm_ci _ _ _ _ _ _⟩, ⟨_, ⟨sn_astore_n dL_law_7 rfl (Nat.le_of_ble_eq_true rfl), sm_as _⟩, ⟨_, ⟨sn_new (C := RX8) (T := TX8) (N := 23) dL_law_8 rfl zinX8 tyX8_ok zw_3_176 zw_3_177 zw_1_8 (fun _ _ => rfl) zdfX8, sm_new _ _ _ _ _⟩, ⟨_, ⟨sn_dup dL_law_11, sm_dup⟩, ⟨_, ⟨sn_ci_v ztb_X8_init dL_law_12 rfl zw_3_178 zw_3_179 zw_1_8 zw_3_180 zmh_X8 zpd_X8_init (Nat.le_of_ble_eq_true rfl) (Nat.le_of_ble_eq_true rfl) rfl rfl, sm_ci _ _ _ _ _ _⟩, ⟨_, ⟨sn_astore_n dL_law_15 rfl (Nat.le_of_ble_eq_true rfl), sm_as _⟩, ⟨_, ⟨sn_iconst dL_law_16 (by decide +kernel), sm_const _⟩, ⟨_, ⟨sn_istore_n dL_law_17 rfl (Nat.le_of_ble_eq_true rfl), sm_is _⟩, ⟨_, ⟨sn_fall (len := 0) rfl rfl, sm_go _ _⟩, trivial⟩⟩⟩⟩⟩⟩⟩⟩⟩⟩⟩
set_option maxRecDepth 20000 in
theorem kL_law_18 (L : Nat) (xs : Nat → Int32) : sx_BK sx_tb RL cL_law 4 (some .boolean) room_1 false true L xs 18 (bL_law_18 L xs) := ⟨_, ⟨sn_iload_n dL_law_18 rfl, sm_il _⟩, ⟨_, ⟨sn_aload_n dL_law_19 rfl, sm_al _⟩, ⟨_, ⟨sn_slen rfl dL_law_20, sm_slen _⟩, ⟨_, ⟨sn_bipush dL_law_21 (by decide +kernel), sm_const _⟩, ⟨_, ⟨sn_isub dL_law_23, sm_bin _⟩, ⟨_, ⟨sn_ic_gt dL_law_24 (by decide +kernel) rfl, sm_if2 _ _ _⟩, ⟨_, ⟨sn_aload_n dL_law_27 rfl, sm_al _⟩, ⟨_, ⟨sn_iload_n dL_law_28 rfl, sm_il _⟩, ⟨_, ⟨sn_sld rfl dL_law_29, sm_sld _ _⟩, ⟨_, ⟨sn_bipush dL_law_30 (by decide +kernel), sm_const _⟩, ⟨_, ⟨sn_iand dL_law_32, sm_bin _⟩, ⟨_, ⟨sn_tsw (len := 3) dL_law_33 (by decide +kernel) (by decide +kernel) (by decide +kernel) rfl, sm_sw _ _ _⟩, trivial⟩⟩⟩⟩⟩⟩⟩⟩⟩⟩⟩⟩
set_option maxRecDepth 20000 in
theorem kL_law_188 (L : Nat) (xs : Nat → Int32) : sx_BK sx_tb RL cL_law 4 (some .boolean) room_1 false true L xs 188 (bL_law_188 L xs) := ⟨_, ⟨sn_aload_n dL_law_188 rfl, sm_al _⟩, ⟨_, ⟨sn_aload_n dL_law_189 rfl, sm_al _⟩, ⟨_, ⟨sn_iload_n dL_law_190 rfl, sm_il _⟩, ⟨_, ⟨sn_iconst dL_law_191 (by decide +kernel), sm_const _⟩, ⟨_, ⟨sn_iadd dL_law_192, sm_bin _⟩, ⟨_, ⟨sn_sld rfl dL_law_193, sm_sld _ _⟩, ⟨_, ⟨sn_aload_n dL_law_194 rfl, sm_al _⟩, ⟨_, ⟨sn_iload_n dL_law_195 rfl, sm_il _⟩, ⟨_, ⟨sn_iconst dL_law_196 (by decide +kernel), sm_const _⟩, ⟨_, ⟨sn_iadd dL_law_197, sm_bin _⟩, ⟨_, ⟨sn_sld rfl dL_law_198, sm_sld _ _⟩, ⟨_, ⟨sn_aload_n dL_law_199 rfl, sm_al _⟩, ⟨_, ⟨sn_iload_n dL_law_200 rfl, sm_il _⟩, ⟨_, ⟨sn_iconst dL_law_201 (by decide +kernel), sm_const _⟩, ⟨_, ⟨sn_iadd dL_law_202, sm_bin _⟩, ⟨_, ⟨sn_sld rfl dL_law_203, sm_sld _ _⟩, ⟨_, ⟨sn_cv_i (N := 9) (T := TX7) ztb_X7_row dL_law_204 rfl rfl zw_1_162 zw_1_163 zw_1_164 zw_1_1 zw_1_165 zmh_X7 zpd_X7_row (Nat.le_of_ble_eq_true rfl) (Nat.le_of_ble_eq_true rfl) rfl rfl, sm_cv _ _ _ _ _ _ _⟩, ⟨_, ⟨sn_aload_n dL_law_207 rfl, sm_al _⟩, ⟨_, ⟨sn_aload_n dL_law_208 rfl, sm_al _⟩, ⟨_, ⟨sn_iload_n dL_law_209 rfl, sm_il _⟩, ⟨_, ⟨sn_iconst dL_law_210 (by decide +kernel), sm_const _⟩, ⟨_, ⟨sn_iadd dL_law_211, sm_bin _⟩, ⟨_, ⟨sn_sld rfl dL_law_212, sm_sld _ _⟩, ⟨_, ⟨sn_aload_n dL_law_213 rfl, sm_al _⟩, ⟨_, ⟨sn_iload_n dL_law_214 rfl, sm_il _⟩, ⟨_, ⟨sn_iconst dL_law_215 (by decide +kernel), sm_const _⟩, ⟨_, ⟨sn_iadd dL_law_216, sm_bin _⟩, ⟨_, ⟨sn_sld rfl dL_law_217, sm_sld _ _⟩, ⟨_, ⟨sn_aload_n dL_law_218 rfl, sm_al _⟩, ⟨_, ⟨sn_iload_n dL_law_219 rfl, sm_il _⟩, ⟨_, ⟨sn_iconst dL_law_220 (by decide +kernel), sm_const _⟩, ⟨_, ⟨sn_iadd dL_law_221, sm_bin _⟩, ⟨_, ⟨sn_sld rfl dL_law_222, sm_sld _ _⟩, ⟨_, ⟨sn_cv_i (N := 23) (T := TX8) ztb_X8_row dL_law_223 rfl rfl zw_4_13 zw_4_14 zw_4_15 zw_1_8 zw_4_16 zmh_X8 zpd_X8_row (Nat.le_of_ble_eq_true rfl) (Nat.le_of_ble_eq_true rfl) rfl rfl, sm_cv _ _ _ _ _ _ _⟩, ⟨_, ⟨sn_ic_eq dL_law_226 (by decide +kernel) rfl, sm_if2 _ _ _⟩, ⟨_, ⟨sn_iconst dL_law_229 (by decide +kernel), sm_const _⟩, ⟨_, ⟨sn_rz (len := 1) dL_law_230 rfl, sm_rz⟩, trivial⟩⟩⟩⟩⟩⟩⟩⟩⟩⟩⟩⟩⟩⟩⟩⟩⟩⟩⟩⟩⟩⟩⟩⟩⟩⟩⟩⟩⟩⟩⟩⟩⟩⟩⟩⟩⟩
set_option maxRecDepth 20000 in
theorem kL_law_231 (L : Nat) (xs : Nat → Int32) : sx_BK sx_tb RL cL_law 4 (some .boolean) room_1 false true L xs 231 (bL_law_231 L xs) := ⟨_, ⟨sn_aload_n dL_law_231 rfl, sm_al _⟩, ⟨_, ⟨sn_aload_n dL_law_232 rfl, sm_al _⟩, ⟨_, ⟨sn_iload_n dL_law_233 rfl, sm_il _⟩, ⟨_, ⟨sn_iconst dL_law_234 (by decide +kernel), sm_const _⟩, ⟨_, ⟨sn_iadd dL_law_235, sm_bin _⟩, ⟨_, ⟨sn_sld rfl dL_law_236, sm_sld _ _⟩, ⟨_, ⟨sn_aload_n dL_law_237 rfl, sm_al _⟩, ⟨_, ⟨sn_iload_n dL_law_238 rfl, sm_il _⟩, ⟨_, ⟨sn_iconst dL_law_239 (by decide +kernel), sm_const _⟩, ⟨_, ⟨sn_iadd dL_law_240, sm_bin _⟩, ⟨_, ⟨sn_sld rfl dL_law_241, sm_sld _ _⟩, ⟨_, ⟨sn_aload_n dL_law_242 rfl, sm_al _⟩, ⟨_, ⟨sn_iload_n dL_law_243 rfl, sm_il _⟩, ⟨_, ⟨sn_iconst dL_law_244 (by decide +kernel), sm_const _⟩, ⟨_, ⟨sn_iadd dL_law_245, sm_bin _⟩, ⟨_, ⟨sn_sld rfl dL_law_246, sm_sld _ _⟩, ⟨_, ⟨sn_cv_i (N := 9) (T := TX7) ztb_X7_set dL_law_247 rfl rfl zw_1_182 zw_1_183 zw_1_184 zw_1_1 zw_1_185 zmh_X7 zpd_X7_set (Nat.le_of_ble_eq_true rfl) (Nat.le_of_ble_eq_true rfl) rfl rfl, sm_cv _ _ _ _ _ _ _⟩, ⟨_, ⟨sn_aload_n dL_law_250 rfl, sm_al _⟩, ⟨_, ⟨sn_aload_n dL_law_251 rfl, sm_al _⟩, ⟨_, ⟨sn_iload_n dL_law_252 rfl, sm_il _⟩, ⟨_, ⟨sn_iconst dL_law_253 (by decide +kernel), sm_const _⟩, ⟨_, ⟨sn_iadd dL_law_254, sm_bin _⟩, ⟨_, ⟨sn_sld rfl dL_law_255, sm_sld _ _⟩, ⟨_, ⟨sn_aload_n dL_law_256 rfl, sm_al _⟩, ⟨_, ⟨sn_iload_n dL_law_257 rfl, sm_il _⟩, ⟨_, ⟨sn_iconst dL_law_258 (by decide +kernel), sm_const _⟩, ⟨_, ⟨sn_iadd dL_law_259, sm_bin _⟩, ⟨_, ⟨sn_sld rfl dL_law_260, sm_sld _ _⟩, ⟨_, ⟨sn_aload_n dL_law_261 rfl, sm_al _⟩, ⟨_, ⟨sn_iload_n dL_law_262 rfl, sm_il _⟩, ⟨_, ⟨sn_iconst dL_law_263 (by decide +kernel), sm_const _⟩, ⟨_, ⟨sn_iadd dL_law_264, sm_bin _⟩, ⟨_, ⟨sn_sld rfl dL_law_265, sm_sld _ _⟩, ⟨_, ⟨sn_cv_i (N := 23) (T := TX8) ztb_X8_set dL_law_266 rfl rfl zw_4_31 zw_4_32 zw_4_33 zw_1_8 zw_4_34 zmh_X8 zpd_X8_set (Nat.le_of_ble_eq_true rfl) (Nat.le_of_ble_eq_true rfl) rfl rfl, sm_cv _ _ _ _ _ _ _⟩, ⟨_, ⟨sn_ic_eq dL_law_269 (by decide +kernel) rfl, sm_if2 _ _ _⟩, ⟨_, ⟨sn_iconst dL_law_272 (by decide +kernel), sm_const _⟩, ⟨_, ⟨sn_rz (len := 1) dL_law_273 rfl, sm_rz⟩, trivial⟩⟩⟩⟩⟩⟩⟩⟩⟩⟩⟩⟩⟩⟩⟩⟩⟩⟩⟩⟩⟩⟩⟩⟩⟩⟩⟩⟩⟩⟩⟩⟩⟩⟩⟩⟩⟩
set_option maxRecDepth 20000 in
theorem kL_law_274 (L : Nat) (xs : Nat → Int32) : sx_BK sx_tb RL cL_law 4 (some .boolean) room_1 false true L xs 274 (bL_law_274 L xs) := ⟨_, ⟨sn_aload_n dL_law_274 rfl, sm_al _⟩, ⟨_, ⟨sn_aload_n dL_law_275 rfl, sm_al _⟩, ⟨_, ⟨sn_iload_n dL_law_276 rfl, sm_il _⟩, ⟨_, ⟨sn_iconst dL_law_277 (by decide +kernel), sm_const _⟩, ⟨_, ⟨sn_iadd dL_law_278, sm_bin _⟩, ⟨_, ⟨sn_sld rfl dL_law_279, sm_sld _ _⟩, ⟨_, ⟨sn_aload_n dL_law_280 rfl, sm_al _⟩, ⟨_, ⟨sn_iload_n dL_law_281 rfl, sm_il _⟩, ⟨_, ⟨sn_iconst dL_law_282 (by decide +kernel), sm_const _⟩, ⟨_, ⟨sn_iadd dL_law_283, sm_bin _⟩, ⟨_, ⟨sn_sld rfl dL_law_284, sm_sld _ _⟩, ⟨_, ⟨sn_aload_n dL_law_285 rfl, sm_al _⟩, ⟨_, ⟨sn_iload_n dL_law_286 rfl, sm_il _⟩, ⟨_, ⟨sn_iconst dL_law_287 (by decide +kernel), sm_const _⟩, ⟨_, ⟨sn_iadd dL_law_288, sm_bin _⟩, ⟨_, ⟨sn_sld rfl dL_law_289, sm_sld _ _⟩, ⟨_, ⟨sn_aload_n dL_law_290 rfl, sm_al _⟩, ⟨_, ⟨sn_iload_n dL_law_291 rfl, sm_il _⟩, ⟨_, ⟨sn_iconst dL_law_292 (by decide +kernel), sm_const _⟩, ⟨_, ⟨sn_iadd dL_law_293, sm_bin _⟩, ⟨_, ⟨sn_sld rfl dL_law_294, sm_sld _ _⟩, ⟨_, ⟨sn_aload_n dL_law_295 rfl, sm_al _⟩, ⟨_, ⟨sn_iload_n dL_law_296 rfl, sm_il _⟩, ⟨_, ⟨sn_iconst dL_law_297 (by decide +kernel), sm_const _⟩, ⟨_, ⟨sn_iadd dL_law_298, sm_bin _⟩, ⟨_, ⟨sn_sld rfl dL_law_299, sm_sld _ _⟩, ⟨_, ⟨sn_cv_i (N := 9) (T := TX7) ztb_X7_copy dL_law_300 rfl rfl zw_1_201 zw_1_202 zw_1_203 zw_1_1 zw_1_204 zmh_X7 zpd_X7_copy (Nat.le_of_ble_eq_true rfl) (Nat.le_of_ble_eq_true rfl) rfl rfl, sm_cv _ _ _ _ _ _ _⟩, ⟨_, ⟨sn_aload_n dL_law_303 rfl, sm_al _⟩, ⟨_, ⟨sn_aload_n dL_law_304 rfl, sm_al _⟩, ⟨_, ⟨sn_iload_n dL_law_305 rfl, sm_il _⟩, ⟨_, ⟨sn_iconst dL_law_306 (by decide +kernel), sm_const _⟩, ⟨_, ⟨sn_iadd dL_law_307, sm_bin _⟩, ⟨_, ⟨sn_sld rfl dL_law_308, sm_sld _ _⟩, ⟨_, ⟨sn_aload_n dL_law_309 rfl, sm_al _⟩, ⟨_, ⟨sn_iload_n dL_law_310 rfl, sm_il _⟩, ⟨_, ⟨sn_iconst dL_law_311 (by decide +kernel), sm_const _⟩, ⟨_, ⟨sn_iadd dL_law_312, sm_bin _⟩, ⟨_, ⟨sn_sld rfl dL_law_313, sm_sld _ _⟩, ⟨_, ⟨sn_aload_n dL_law_314 rfl, sm_al _⟩, ⟨_, ⟨sn_iload_n dL_law_315 rfl, sm_il _⟩, ⟨_, ⟨sn_iconst dL_law_316 (by decide +kernel), sm_const _⟩, ⟨_, ⟨sn_iadd dL_law_317, sm_bin _⟩, ⟨_, ⟨sn_sld rfl dL_law_318, sm_sld _ _⟩, ⟨_, ⟨sn_aload_n dL_law_319 rfl, sm_al _⟩, ⟨_, ⟨sn_iload_n dL_law_320 rfl, sm_il _⟩, ⟨_, ⟨sn_iconst dL_law_321 (by decide +kernel), sm_const _⟩, ⟨_, ⟨sn_iadd dL_law_322, sm_bin _⟩, ⟨_, ⟨sn_sld rfl dL_law_323, sm_sld _ _⟩, ⟨_, ⟨sn_aload_n dL_law_324 rfl, sm_al _⟩, ⟨_, ⟨sn_iload_n dL_law_325 rfl, sm_il _⟩, ⟨_, ⟨sn_iconst dL_law_326 (by decide +kernel), sm_const _⟩, ⟨_, ⟨sn_iadd dL_law_327, sm_bin _⟩, ⟨_, ⟨sn_sld rfl dL_law_328, sm_sld _ _⟩, ⟨_, ⟨sn_cv_i (N := 23) (T := TX8) ztb_X8_copy dL_law_329 rfl rfl zw_4_35 zw_4_36 zw_4_37 zw_1_8 zw_4_38 zmh_X8 zpd_X8_copy (Nat.le_of_ble_eq_true rfl) (Nat.le_of_ble_eq_true rfl) rfl rfl, sm_cv _ _ _ _ _ _ _⟩, ⟨_, ⟨sn_ic_eq dL_law_332 (by decide +kernel) rfl, sm_if2 _ _ _⟩, ⟨_, ⟨sn_iconst dL_law_335 (by decide +kernel), sm_const _⟩, ⟨_, ⟨sn_rz (len := 1) dL_law_336 rfl, sm_rz⟩, trivial⟩⟩⟩⟩⟩⟩⟩⟩⟩⟩⟩⟩⟩⟩⟩⟩⟩⟩⟩⟩⟩⟩⟩⟩⟩⟩⟩⟩⟩⟩⟩⟩⟩⟩⟩⟩⟩⟩⟩⟩⟩⟩⟩⟩⟩⟩⟩⟩⟩⟩⟩⟩⟩⟩⟩⟩⟩
set_option maxRecDepth 20000 in
theorem kL_law_337 (L : Nat) (xs : Nat → Int32) : sx_BK sx_tb RL cL_law 4 (some .boolean) room_1 false true L xs 337 (bL_law_337 L xs) := ⟨_, ⟨sn_aload_n dL_law_337 rfl, sm_al _⟩, ⟨_, ⟨sn_aload_n dL_law_338 rfl, sm_al _⟩, ⟨_, ⟨sn_iload_n dL_law_339 rfl, sm_il _⟩, ⟨_, ⟨sn_iconst dL_law_340 (by decide +kernel), sm_const _⟩, ⟨_, ⟨sn_iadd dL_law_341, sm_bin _⟩, ⟨_, ⟨sn_sld rfl dL_law_342, sm_sld _ _⟩, ⟨_, ⟨sn_cv_i (N := 9) (T := TX7) ztb_X7_drop dL_law_343 rfl rfl zw_1_212 zw_1_213 zw_1_214 zw_1_1 zw_1_215 zmh_X7 zpd_X7_drop (Nat.le_of_ble_eq_true rfl) (Nat.le_of_ble_eq_true rfl) rfl rfl, sm_cv _ _ _ _ _ _ _⟩, ⟨_, ⟨sn_aload_n dL_law_346 rfl, sm_al _⟩, ⟨_, ⟨sn_aload_n dL_law_347 rfl, sm_al _⟩, ⟨_, ⟨sn_iload_n dL_law_348 rfl, sm_il _⟩, ⟨_, ⟨sn_iconst dL_law_349 (by decide +kernel), sm_const _⟩, ⟨_, ⟨sn_iadd dL_law_350, sm_bin _⟩, ⟨_, ⟨sn_sld rfl dL_law_351, sm_sld _ _⟩, ⟨_, ⟨sn_cv_i (N := 23) (T := TX8) ztb_X8_drop dL_law_352 rfl rfl zw_4_39 zw_4_40 zw_4_41 zw_1_8 zw_4_42 zmh_X8 zpd_X8_drop (Nat.le_of_ble_eq_true rfl) (Nat.le_of_ble_eq_true rfl) rfl rfl, sm_cv _ _ _ _ _ _ _⟩, ⟨_, ⟨sn_ic_eq dL_law_355 (by decide +kernel) rfl, sm_if2 _ _ _⟩, ⟨_, ⟨sn_iconst dL_law_358 (by decide +kernel), sm_const _⟩, ⟨_, ⟨sn_rz (len := 1) dL_law_359 rfl, sm_rz⟩, trivial⟩⟩⟩⟩⟩⟩⟩⟩⟩⟩⟩⟩⟩⟩⟩⟩⟩
set_option maxRecDepth 20000 in
theorem kL_law_360 (L : Nat) (xs : Nat → Int32) : sx_BK sx_tb RL cL_law 4 (some .boolean) room_1 false true L xs 360 (bL_law_360 L xs) := ⟨_, ⟨sn_aload_n dL_law_360 rfl, sm_al _⟩, ⟨_, ⟨sn_aload_n dL_law_361 rfl, sm_al _⟩, ⟨_, ⟨sn_iload_n dL_law_362 rfl, sm_il _⟩, ⟨_, ⟨sn_iconst dL_law_363 (by decide +kernel), sm_const _⟩, ⟨_, ⟨sn_iadd dL_law_364, sm_bin _⟩, ⟨_, ⟨sn_sld rfl dL_law_365, sm_sld _ _⟩, ⟨_, ⟨sn_cv_i (N := 9) (T := TX7) ztb_X7_feed dL_law_366 rfl rfl zw_1_220 zw_1_221 zw_1_222 zw_1_1 zw_1_223 zmh_X7 zpd_X7_feed (Nat.le_of_ble_eq_true rfl) (Nat.le_of_ble_eq_true rfl) rfl rfl, sm_cv _ _ _ _ _ _ _⟩, ⟨_, ⟨sn_aload_n dL_law_369 rfl, sm_al _⟩, ⟨_, ⟨sn_aload_n dL_law_370 rfl, sm_al _⟩, ⟨_, ⟨sn_iload_n dL_law_371 rfl, sm_il _⟩, ⟨_, ⟨sn_iconst dL_law_372 (by decide +kernel), sm_const _⟩, ⟨_, ⟨sn_iadd dL_law_373, sm_bin _⟩, ⟨_, ⟨sn_sld rfl dL_law_374, sm_sld _ _⟩, ⟨_, ⟨sn_cv_i (N := 23) (T := TX8) ztb_X8_feed dL_law_375 rfl rfl zw_4_43 zw_4_44 zw_4_45 zw_1_8 zw_4_46 zmh_X8 zpd_X8_feed (Nat.le_of_ble_eq_true rfl) (Nat.le_of_ble_eq_true rfl) rfl rfl, sm_cv _ _ _ _ _ _ _⟩, ⟨_, ⟨sn_ic_eq dL_law_378 (by decide +kernel) rfl, sm_if2 _ _ _⟩, ⟨_, ⟨sn_iconst dL_law_381 (by decide +kernel), sm_const _⟩, ⟨_, ⟨sn_rz (len := 1) dL_law_382 rfl, sm_rz⟩, trivial⟩⟩⟩⟩⟩⟩⟩⟩⟩⟩⟩⟩⟩⟩⟩⟩⟩
set_option maxRecDepth 20000 in
theorem kL_law_383 (L : Nat) (xs : Nat → Int32) : sx_BK sx_tb RL cL_law 4 (some .boolean) room_1 false true L xs 383 (bL_law_383 L xs) := ⟨_, ⟨sn_aload_n dL_law_383 rfl, sm_al _⟩, ⟨_, ⟨sn_cv_i (N := 9) (T := TX7) ztb_X7_shop dL_law_384 rfl rfl zw_1_229 zw_1_230 zw_1_231 zw_1_1 zw_1_232 zmh_X7 zpd_X7_shop (Nat.le_of_ble_eq_true rfl) (Nat.le_of_ble_eq_true rfl) rfl rfl, sm_cv _ _ _ _ _ _ _⟩, ⟨_, ⟨sn_aload_n dL_law_387 rfl, sm_al _⟩, ⟨_, ⟨sn_cv_i (N := 23) (T := TX8) ztb_X8_shop dL_law_388 rfl rfl zw_4_53 zw_4_54 zw_4_55 zw_1_8 zw_4_56 zmh_X8 zpd_X8_shop (Nat.le_of_ble_eq_true rfl) (Nat.le_of_ble_eq_true rfl) rfl rfl, sm_cv _ _ _ _ _ _ _⟩, ⟨_, ⟨sn_ic_eq dL_law_391 (by decide +kernel) rfl, sm_if2 _ _ _⟩, ⟨_, ⟨sn_iconst dL_law_394 (by decide +kernel), sm_const _⟩, ⟨_, ⟨sn_rz (len := 1) dL_law_395 rfl, sm_rz⟩, trivial⟩⟩⟩⟩⟩⟩⟩
set_option maxRecDepth 20000 in
theorem kL_law_396 (L : Nat) (xs : Nat → Int32) : sx_BK sx_tb RL cL_law 4 (some .boolean) room_1 false true L xs 396 (bL_law_396 L xs) := ⟨_, ⟨sn_aload_n dL_law_396 rfl, sm_al _⟩, ⟨_, ⟨sn_cv_i (N := 9) (T := TX7) ztb_X7_fault dL_law_397 rfl rfl zw_2_49 zw_2_50 zw_2_51 zw_1_1 zw_2_52 zmh_X7 zpd_X7_fault (Nat.le_of_ble_eq_true rfl) (Nat.le_of_ble_eq_true rfl) rfl rfl, sm_cv _ _ _ _ _ _ _⟩, ⟨_, ⟨sn_aload_n dL_law_400 rfl, sm_al _⟩, ⟨_, ⟨sn_cv_i (N := 23) (T := TX8) ztb_X8_fault dL_law_401 rfl rfl zw_4_49 zw_4_50 zw_4_51 zw_1_8 zw_4_52 zmh_X8 zpd_X8_fault (Nat.le_of_ble_eq_true rfl) (Nat.le_of_ble_eq_true rfl) rfl rfl, sm_cv _ _ _ _ _ _ _⟩, ⟨_, ⟨sn_ic_eq dL_law_404 (by decide +kernel) rfl, sm_if2 _ _ _⟩, ⟨_, ⟨sn_iconst dL_law_407 (by decide +kernel), sm_const _⟩, ⟨_, ⟨sn_rz (len := 1) dL_law_408 rfl, sm_rz⟩, trivial⟩⟩⟩⟩⟩⟩⟩
set_option maxRecDepth 20000 in
theorem kL_law_409 (L : Nat) (xs : Nat → Int32) : sx_BK sx_tb RL cL_law 4 (some .boolean) room_1 false true L xs 409 (bL_law_409 L xs) := ⟨_, ⟨sn_aload_n dL_law_409 rfl, sm_al _⟩, ⟨_, ⟨sn_cv_i (N := 9) (T := TX7) ztb_X7_undo dL_law_410 rfl rfl zw_2_53 zw_2_54 zw_2_55 zw_1_1 zw_2_56 zmh_X7 zpd_X7_undo (Nat.le_of_ble_eq_true rfl) (Nat.le_of_ble_eq_true rfl) rfl rfl, sm_cv _ _ _ _ _ _ _⟩, ⟨_, ⟨sn_aload_n dL_law_413 rfl, sm_al _⟩, ⟨_, ⟨sn_cv_i (N := 23) (T := TX8) ztb_X8_undo dL_law_414 rfl rfl zw_4_166 zw_4_167 zw_4_168 zw_1_8 zw_4_169 zmh_X8 zpd_X8_undo (Nat.le_of_ble_eq_true rfl) (Nat.le_of_ble_eq_true rfl) rfl rfl, sm_cv _ _ _ _ _ _ _⟩, ⟨_, ⟨sn_ic_eq dL_law_417 (by decide +kernel) rfl, sm_if2 _ _ _⟩, ⟨_, ⟨sn_iconst dL_law_420 (by decide +kernel), sm_const _⟩, ⟨_, ⟨sn_rz (len := 1) dL_law_421 rfl, sm_rz⟩, trivial⟩⟩⟩⟩⟩⟩⟩
set_option maxRecDepth 20000 in
theorem kL_law_422 (L : Nat) (xs : Nat → Int32) : sx_BK sx_tb RL cL_law 4 (some .boolean) room_1 false true L xs 422 (bL_law_422 L xs) := ⟨_, ⟨sn_aload_n dL_law_422 rfl, sm_al _⟩, ⟨_, ⟨sn_aload_n dL_law_423 rfl, sm_al _⟩, ⟨_, ⟨sn_iload_n dL_law_424 rfl, sm_il _⟩, ⟨_, ⟨sn_iconst dL_law_425 (by decide +kernel), sm_const _⟩, ⟨_, ⟨sn_iadd dL_law_426, sm_bin _⟩, ⟨_, ⟨sn_sld rfl dL_law_427, sm_sld _ _⟩, ⟨_, ⟨sn_cv_i (N := 9) (T := TX7) ztb_X7_weeks dL_law_428 rfl rfl zw_2_63 zw_2_64 zw_2_65 zw_1_1 zw_2_66 zmh_X7 zpd_X7_weeks (Nat.le_of_ble_eq_true rfl) (Nat.le_of_ble_eq_true rfl) rfl rfl, sm_cv _ _ _ _ _ _ _⟩, ⟨_, ⟨sn_aload_n dL_law_431 rfl, sm_al _⟩, ⟨_, ⟨sn_aload_n dL_law_432 rfl, sm_al _⟩, ⟨_, ⟨sn_iload_n dL_law_433 rfl, sm_il _⟩, ⟨_, ⟨sn_iconst dL_law_434 (by decide +kernel), sm_const _⟩, ⟨_, ⟨sn_iadd dL_law_435, sm_bin _⟩, ⟨_, ⟨sn_sld rfl dL_law_436, sm_sld _ _⟩, ⟨_, ⟨sn_cv_i (N := 23) (T := TX8) ztb_X8_weeks dL_law_437 rfl rfl zw_4_106 zw_4_107 zw_4_108 zw_1_8 zw_4_109 zmh_X8 zpd_X8_weeks (Nat.le_of_ble_eq_true rfl) (Nat.le_of_ble_eq_true rfl) rfl rfl, sm_cv _ _ _ _ _ _ _⟩, ⟨_, ⟨sn_ic_eq dL_law_440 (by decide +kernel) rfl, sm_if2 _ _ _⟩, ⟨_, ⟨sn_iconst dL_law_443 (by decide +kernel), sm_const _⟩, ⟨_, ⟨sn_rz (len := 1) dL_law_444 rfl, sm_rz⟩, trivial⟩⟩⟩⟩⟩⟩⟩⟩⟩⟩⟩⟩⟩⟩⟩⟩⟩
set_option maxRecDepth 20000 in
theorem kL_law_445 (L : Nat) (xs : Nat → Int32) : sx_BK sx_tb RL cL_law 4 (some .boolean) room_1 false true L xs 445 (bL_law_445 L xs) := ⟨_, ⟨sn_aload_n dL_law_445 rfl, sm_al _⟩, ⟨_, ⟨sn_aload_n dL_law_446 rfl, sm_al _⟩, ⟨_, ⟨sn_iload_n dL_law_447 rfl, sm_il _⟩, ⟨_, ⟨sn_iconst dL_law_448 (by decide +kernel), sm_const _⟩, ⟨_, ⟨sn_iadd dL_law_449, sm_bin _⟩, ⟨_, ⟨sn_sld rfl dL_law_450, sm_sld _ _⟩, ⟨_, ⟨sn_aload_n dL_law_451 rfl, sm_al _⟩, ⟨_, ⟨sn_iload_n dL_law_452 rfl, sm_il _⟩, ⟨_, ⟨sn_iconst dL_law_453 (by decide +kernel), sm_const _⟩, ⟨_, ⟨sn_iadd dL_law_454, sm_bin _⟩, ⟨_, ⟨sn_sld rfl dL_law_455, sm_sld _ _⟩, ⟨_, ⟨sn_cv_i (N := 9) (T := TX7) ztb_X7_stop dL_law_456 rfl rfl zw_2_119 zw_2_120 zw_2_121 zw_1_1 zw_2_122 zmh_X7 zpd_X7_stop (Nat.le_of_ble_eq_true rfl) (Nat.le_of_ble_eq_true rfl) rfl rfl, sm_cv _ _ _ _ _ _ _⟩, ⟨_, ⟨sn_aload_n dL_law_459 rfl, sm_al _⟩, ⟨_, ⟨sn_aload_n dL_law_460 rfl, sm_al _⟩, ⟨_, ⟨sn_iload_n dL_law_461 rfl, sm_il _⟩, ⟨_, ⟨sn_iconst dL_law_462 (by decide +kernel), sm_const _⟩, ⟨_, ⟨sn_iadd dL_law_463, sm_bin _⟩, ⟨_, ⟨sn_sld rfl dL_law_464, sm_sld _ _⟩, ⟨_, ⟨sn_aload_n dL_law_465 rfl, sm_al _⟩, ⟨_, ⟨sn_iload_n dL_law_466 rfl, sm_il _⟩, ⟨_, ⟨sn_iconst dL_law_467 (by decide +kernel), sm_const _⟩, ⟨_, ⟨sn_iadd dL_law_468, sm_bin _⟩, ⟨_, ⟨sn_sld rfl dL_law_469, sm_sld _ _⟩, ⟨_, ⟨sn_cv_i (N := 23) (T := TX8) ztb_X8_stop dL_law_470 rfl rfl zw_4_141 zw_4_142 zw_4_143 zw_1_8 zw_4_144 zmh_X8 zpd_X8_stop (Nat.le_of_ble_eq_true rfl) (Nat.le_of_ble_eq_true rfl) rfl rfl, sm_cv _ _ _ _ _ _ _⟩, ⟨_, ⟨sn_ic_eq dL_law_473 (by decide +kernel) rfl, sm_if2 _ _ _⟩, ⟨_, ⟨sn_iconst dL_law_476 (by decide +kernel), sm_const _⟩, ⟨_, ⟨sn_rz (len := 1) dL_law_477 rfl, sm_rz⟩, trivial⟩⟩⟩⟩⟩⟩⟩⟩⟩⟩⟩⟩⟩⟩⟩⟩⟩⟩⟩⟩⟩⟩⟩⟩⟩⟩⟩
set_option maxRecDepth 20000 in
theorem kL_law_478 (L : Nat) (xs : Nat → Int32) : sx_BK sx_tb RL cL_law 4 (some .boolean) room_1 false true L xs 478 (bL_law_478 L xs) := ⟨_, ⟨sn_aload_n dL_law_478 rfl, sm_al _⟩, ⟨_, ⟨sn_aload_n dL_law_479 rfl, sm_al _⟩, ⟨_, ⟨sn_iload_n dL_law_480 rfl, sm_il _⟩, ⟨_, ⟨sn_iconst dL_law_481 (by decide +kernel), sm_const _⟩, ⟨_, ⟨sn_iadd dL_law_482, sm_bin _⟩, ⟨_, ⟨sn_sld rfl dL_law_483, sm_sld _ _⟩, ⟨_, ⟨sn_cv_i (N := 9) (T := TX7) ztb_X7_strike dL_law_484 rfl rfl zw_2_128 zw_2_129 zw_2_130 zw_1_1 zw_2_131 zmh_X7 zpd_X7_strike (Nat.le_of_ble_eq_true rfl) (Nat.le_of_ble_eq_true rfl) rfl rfl, sm_cv _ _ _ _ _ _ _⟩, ⟨_, ⟨sn_aload_n dL_law_487 rfl, sm_al _⟩, ⟨_, ⟨sn_aload_n dL_law_488 rfl, sm_al _⟩, ⟨_, ⟨sn_iload_n dL_law_489 rfl, sm_il _⟩, ⟨_, ⟨sn_iconst dL_law_490 (by decide +kernel), sm_const _⟩, ⟨_, ⟨sn_iadd dL_law_491, sm_bin _⟩, ⟨_, ⟨sn_sld rfl dL_law_492, sm_sld _ _⟩, ⟨_, ⟨sn_cv_i (N := 23) (T := TX8) ztb_X8_strike dL_law_493 rfl rfl zw_4_150 zw_4_151 zw_4_152 zw_1_8 zw_4_153 zmh_X8 zpd_X8_strike (Nat.le_of_ble_eq_true rfl) (Nat.le_of_ble_eq_true rfl) rfl rfl, sm_cv _ _ _ _ _ _ _⟩, ⟨_, ⟨sn_ic_eq dL_law_496 (by decide +kernel) rfl, sm_if2 _ _ _⟩, ⟨_, ⟨sn_iconst dL_law_499 (by decide +kernel), sm_const _⟩, ⟨_, ⟨sn_rz (len := 1) dL_law_500 rfl, sm_rz⟩, trivial⟩⟩⟩⟩⟩⟩⟩⟩⟩⟩⟩⟩⟩⟩⟩⟩⟩
set_option maxRecDepth 20000 in
theorem kL_law_501 (L : Nat) (xs : Nat → Int32) : sx_BK sx_tb RL cL_law 4 (some .boolean) room_1 false true L xs 501 (bL_law_501 L xs) := ⟨_, ⟨sn_aload_n dL_law_501 rfl, sm_al _⟩, ⟨_, ⟨sn_aload_n dL_law_502 rfl, sm_al _⟩, ⟨_, ⟨sn_iload_n dL_law_503 rfl, sm_il _⟩, ⟨_, ⟨sn_iconst dL_law_504 (by decide +kernel), sm_const _⟩, ⟨_, ⟨sn_iadd dL_law_505, sm_bin _⟩, ⟨_, ⟨sn_sld rfl dL_law_506, sm_sld _ _⟩, ⟨_, ⟨sn_aload_n dL_law_507 rfl, sm_al _⟩, ⟨_, ⟨sn_iload_n dL_law_508 rfl, sm_il _⟩, ⟨_, ⟨sn_iconst dL_law_509 (by decide +kernel), sm_const _⟩, ⟨_, ⟨sn_iadd dL_law_510, sm_bin _⟩, ⟨_, ⟨sn_sld rfl dL_law_511, sm_sld _ _⟩, ⟨_, ⟨sn_cv_i (N := 9) (T := TX7) ztb_X7_cross dL_law_512 rfl rfl zw_2_132 zw_2_133 zw_2_134 zw_1_1 zw_2_135 zmh_X7 zpd_X7_cross (Nat.le_of_ble_eq_true rfl) (Nat.le_of_ble_eq_true rfl) rfl rfl, sm_cv _ _ _ _ _ _ _⟩, ⟨_, ⟨sn_aload_n dL_law_515 rfl, sm_al _⟩, ⟨_, ⟨sn_aload_n dL_law_516 rfl, sm_al _⟩, ⟨_, ⟨sn_iload_n dL_law_517 rfl, sm_il _⟩, ⟨_, ⟨sn_iconst dL_law_518 (by decide +kernel), sm_const _⟩, ⟨_, ⟨sn_iadd dL_law_519, sm_bin _⟩, ⟨_, ⟨sn_sld rfl dL_law_520, sm_sld _ _⟩, ⟨_, ⟨sn_aload_n dL_law_521 rfl, sm_al _⟩, ⟨_, ⟨sn_iload_n dL_law_522 rfl, sm_il _⟩, ⟨_, ⟨sn_iconst dL_law_523 (by decide +kernel), sm_const _⟩, ⟨_, ⟨sn_iadd dL_law_524, sm_bin _⟩, ⟨_, ⟨sn_sld rfl dL_law_525, sm_sld _ _⟩, ⟨_, ⟨sn_cv_i (N := 23) (T := TX8) ztb_X8_cross dL_law_526 rfl rfl zw_4_155 zw_4_156 zw_4_157 zw_1_8 zw_4_158 zmh_X8 zpd_X8_cross (Nat.le_of_ble_eq_true rfl) (Nat.le_of_ble_eq_true rfl) rfl rfl, sm_cv _ _ _ _ _ _ _⟩, ⟨_, ⟨sn_ic_eq dL_law_529 (by decide +kernel) rfl, sm_if2 _ _ _⟩, ⟨_, ⟨sn_iconst dL_law_532 (by decide +kernel), sm_const _⟩, ⟨_, ⟨sn_rz (len := 1) dL_law_533 rfl, sm_rz⟩, trivial⟩⟩⟩⟩⟩⟩⟩⟩⟩⟩⟩⟩⟩⟩⟩⟩⟩⟩⟩⟩⟩⟩⟩⟩⟩⟩⟩
set_option maxRecDepth 20000 in
theorem kL_law_534 (L : Nat) (xs : Nat → Int32) : sx_BK sx_tb RL cL_law 4 (some .boolean) room_1 false true L xs 534 (bL_law_534 L xs) := ⟨_, ⟨sn_aload_n dL_law_534 rfl, sm_al _⟩, ⟨_, ⟨sn_aload_n dL_law_535 rfl, sm_al _⟩, ⟨_, ⟨sn_iload_n dL_law_536 rfl, sm_il _⟩, ⟨_, ⟨sn_iconst dL_law_537 (by decide +kernel), sm_const _⟩, ⟨_, ⟨sn_iadd dL_law_538, sm_bin _⟩, ⟨_, ⟨sn_sld rfl dL_law_539, sm_sld _ _⟩, ⟨_, ⟨sn_cv_i (N := 9) (T := TX7) ztb_X7_dearer dL_law_540 rfl rfl zw_2_140 zw_2_141 zw_2_142 zw_1_1 zw_2_143 zmh_X7 zpd_X7_dearer (Nat.le_of_ble_eq_true rfl) (Nat.le_of_ble_eq_true rfl) rfl rfl, sm_cv _ _ _ _ _ _ _⟩, ⟨_, ⟨sn_aload_n dL_law_543 rfl, sm_al _⟩, ⟨_, ⟨sn_aload_n dL_law_544 rfl, sm_al _⟩, ⟨_, ⟨sn_iload_n dL_law_545 rfl, sm_il _⟩, ⟨_, ⟨sn_iconst dL_law_546 (by decide +kernel), sm_const _⟩, ⟨_, ⟨sn_iadd dL_law_547, sm_bin _⟩, ⟨_, ⟨sn_sld rfl dL_law_548, sm_sld _ _⟩, ⟨_, ⟨sn_cv_i (N := 23) (T := TX8) ztb_X8_dearer dL_law_549 rfl rfl zw_4_162 zw_4_163 zw_4_164 zw_1_8 zw_4_165 zmh_X8 zpd_X8_dearer (Nat.le_of_ble_eq_true rfl) (Nat.le_of_ble_eq_true rfl) rfl rfl, sm_cv _ _ _ _ _ _ _⟩, ⟨_, ⟨sn_ic_eq dL_law_552 (by decide +kernel) rfl, sm_if2 _ _ _⟩, ⟨_, ⟨sn_iconst dL_law_555 (by decide +kernel), sm_const _⟩, ⟨_, ⟨sn_rz (len := 1) dL_law_556 rfl, sm_rz⟩, trivial⟩⟩⟩⟩⟩⟩⟩⟩⟩⟩⟩⟩⟩⟩⟩⟩⟩
set_option maxRecDepth 20000 in
theorem kL_law_557 (L : Nat) (xs : Nat → Int32) : sx_BK sx_tb RL cL_law 4 (some .boolean) room_1 false true L xs 557 (bL_law_557 L xs) := ⟨_, ⟨sn_aload_n dL_law_557 rfl, sm_al _⟩, ⟨_, ⟨sn_aload_n dL_law_558 rfl, sm_al _⟩, ⟨_, ⟨sn_iload_n dL_law_559 rfl, sm_il _⟩, ⟨_, ⟨sn_iconst dL_law_560 (by decide +kernel), sm_const _⟩, ⟨_, ⟨sn_iadd dL_law_561, sm_bin _⟩, ⟨_, ⟨sn_sld rfl dL_law_562, sm_sld _ _⟩, ⟨_, ⟨sn_aload_n dL_law_563 rfl, sm_al _⟩, ⟨_, ⟨sn_iload_n dL_law_564 rfl, sm_il _⟩, ⟨_, ⟨sn_iconst dL_law_565 (by decide +kernel), sm_const _⟩, ⟨_, ⟨sn_iadd dL_law_566, sm_bin _⟩, ⟨_, ⟨sn_sld rfl dL_law_567, sm_sld _ _⟩, ⟨_, ⟨sn_cv_i (N := 9) (T := TX7) ztb_X7_debtor dL_law_568 rfl rfl zw_2_144 zw_2_145 zw_2_146 zw_1_1 zw_2_147 zmh_X7 zpd_X7_debtor (Nat.le_of_ble_eq_true rfl) (Nat.le_of_ble_eq_true rfl) rfl rfl, sm_cv _ _ _ _ _ _ _⟩, ⟨_, ⟨sn_aload_n dL_law_571 rfl, sm_al _⟩, ⟨_, ⟨sn_aload_n dL_law_572 rfl, sm_al _⟩, ⟨_, ⟨sn_iload_n dL_law_573 rfl, sm_il _⟩, ⟨_, ⟨sn_iconst dL_law_574 (by decide +kernel), sm_const _⟩, ⟨_, ⟨sn_iadd dL_law_575, sm_bin _⟩, ⟨_, ⟨sn_sld rfl dL_law_576, sm_sld _ _⟩, ⟨_, ⟨sn_aload_n dL_law_577 rfl, sm_al _⟩, ⟨_, ⟨sn_iload_n dL_law_578 rfl, sm_il _⟩, ⟨_, ⟨sn_iconst dL_law_579 (by decide +kernel), sm_const _⟩, ⟨_, ⟨sn_iadd dL_law_580, sm_bin _⟩, ⟨_, ⟨sn_sld rfl dL_law_581, sm_sld _ _⟩, ⟨_, ⟨sn_cv_i (N := 23) (T := TX8) ztb_X8_debtor dL_law_582 rfl rfl zw_4_170 zw_4_171 zw_4_172 zw_1_8 zw_4_173 zmh_X8 zpd_X8_debtor (Nat.le_of_ble_eq_true rfl) (Nat.le_of_ble_eq_true rfl) rfl rfl, sm_cv _ _ _ _ _ _ _⟩, ⟨_, ⟨sn_ic_eq dL_law_585 (by decide +kernel) rfl, sm_if2 _ _ _⟩, ⟨_, ⟨sn_iconst dL_law_588 (by decide +kernel), sm_const _⟩, ⟨_, ⟨sn_rz (len := 1) dL_law_589 rfl, sm_rz⟩, trivial⟩⟩⟩⟩⟩⟩⟩⟩⟩⟩⟩⟩⟩⟩⟩⟩⟩⟩⟩⟩⟩⟩⟩⟩⟩⟩⟩
set_option maxRecDepth 20000 in
theorem kL_law_590 (L : Nat) (xs : Nat → Int32) : sx_BK sx_tb RL cL_law 4 (some .boolean) room_1 false true L xs 590 (bL_law_590 L xs) := ⟨_, ⟨sn_aload_n dL_law_590 rfl, sm_al _⟩, ⟨_, ⟨sn_aload_n dL_law_591 rfl, sm_al _⟩, ⟨_, ⟨sn_iload_n dL_law_592 rfl, sm_il _⟩, ⟨_, ⟨sn_iconst dL_law_593 (by decide +kernel), sm_const _⟩, ⟨_, ⟨sn_iadd dL_law_594, sm_bin _⟩, ⟨_, ⟨sn_sld rfl dL_law_595, sm_sld _ _⟩, ⟨_, ⟨sn_cv_i (N := 9) (T := TX7) ztb_X7_shopHas dL_law_596 rfl rfl zw_2_148 zw_2_149 zw_2_150 zw_1_1 zw_2_151 zmh_X7 zpd_X7_shopHas (Nat.le_of_ble_eq_true rfl) (Nat.le_of_ble_eq_true rfl) rfl rfl, sm_cv _ _ _ _ _ _ _⟩, ⟨_, ⟨sn_aload_n dL_law_599 rfl, sm_al _⟩, ⟨_, ⟨sn_aload_n dL_law_600 rfl, sm_al _⟩, ⟨_, ⟨sn_iload_n dL_law_601 rfl, sm_il _⟩, ⟨_, ⟨sn_iconst dL_law_602 (by decide +kernel), sm_const _⟩, ⟨_, ⟨sn_iadd dL_law_603, sm_bin _⟩, ⟨_, ⟨sn_sld rfl dL_law_604, sm_sld _ _⟩, ⟨_, ⟨sn_cv_i (N := 23) (T := TX8) ztb_X8_shopHas dL_law_605 rfl rfl zw_4_174 zw_4_175 zw_4_176 zw_1_8 zw_4_177 zmh_X8 zpd_X8_shopHas (Nat.le_of_ble_eq_true rfl) (Nat.le_of_ble_eq_true rfl) rfl rfl, sm_cv _ _ _ _ _ _ _⟩, ⟨_, ⟨sn_ic_eq dL_law_608 (by decide +kernel) rfl, sm_if2 _ _ _⟩, ⟨_, ⟨sn_iconst dL_law_611 (by decide +kernel), sm_const _⟩, ⟨_, ⟨sn_rz (len := 1) dL_law_612 rfl, sm_rz⟩, trivial⟩⟩⟩⟩⟩⟩⟩⟩⟩⟩⟩⟩⟩⟩⟩⟩⟩
set_option maxRecDepth 20000 in
theorem kL_law_613 (L : Nat) (xs : Nat → Int32) : sx_BK sx_tb RL cL_law 4 (some .boolean) room_1 false true L xs 613 (bL_law_613 L xs) := ⟨_, ⟨sn_aload_n dL_law_613 rfl, sm_al _⟩, ⟨_, ⟨sn_aload_n dL_law_614 rfl, sm_al _⟩, ⟨_, ⟨sn_iload_n dL_law_615 rfl, sm_il _⟩, ⟨_, ⟨sn_iconst dL_law_616 (by decide +kernel), sm_const _⟩, ⟨_, ⟨sn_iadd dL_law_617, sm_bin _⟩, ⟨_, ⟨sn_sld rfl dL_law_618, sm_sld _ _⟩, ⟨_, ⟨sn_aload_n dL_law_619 rfl, sm_al _⟩, ⟨_, ⟨sn_iload_n dL_law_620 rfl, sm_il _⟩, ⟨_, ⟨sn_iconst dL_law_621 (by decide +kernel), sm_const _⟩, ⟨_, ⟨sn_iadd dL_law_622, sm_bin _⟩, ⟨_, ⟨sn_sld rfl dL_law_623, sm_sld _ _⟩, ⟨_, ⟨sn_cv_i (N := 9) (T := TX7) ztb_X7_ahead dL_law_624 rfl rfl zw_2_156 zw_2_157 zw_2_158 zw_1_1 zw_2_159 zmh_X7 zpd_X7_ahead (Nat.le_of_ble_eq_true rfl) (Nat.le_of_ble_eq_true rfl) rfl rfl, sm_cv _ _ _ _ _ _ _⟩, ⟨_, ⟨sn_aload_n dL_law_627 rfl, sm_al _⟩, ⟨_, ⟨sn_aload_n dL_law_628 rfl, sm_al _⟩, ⟨_, ⟨sn_iload_n dL_law_629 rfl, sm_il _⟩, ⟨_, ⟨sn_iconst dL_law_630 (by decide +kernel), sm_const _⟩, ⟨_, ⟨sn_iadd dL_law_631, sm_bin _⟩, ⟨_, ⟨sn_sld rfl dL_law_632, sm_sld _ _⟩, ⟨_, ⟨sn_aload_n dL_law_633 rfl, sm_al _⟩, ⟨_, ⟨sn_iload_n dL_law_634 rfl, sm_il _⟩, ⟨_, ⟨sn_iconst dL_law_635 (by decide +kernel), sm_const _⟩, ⟨_, ⟨sn_iadd dL_law_636, sm_bin _⟩, ⟨_, ⟨sn_sld rfl dL_law_637, sm_sld _ _⟩, ⟨_, ⟨sn_cv_i (N := 23) (T := TX8) ztb_X8_ahead dL_law_638 rfl rfl zw_4_181 zw_4_182 zw_4_183 zw_1_8 zw_4_184 zmh_X8 zpd_X8_ahead (Nat.le_of_ble_eq_true rfl) (Nat.le_of_ble_eq_true rfl) rfl rfl, sm_cv _ _ _ _ _ _ _⟩, ⟨_, ⟨sn_ic_eq dL_law_641 (by decide +kernel) rfl, sm_if2 _ _ _⟩, ⟨_, ⟨sn_iconst dL_law_644 (by decide +kernel), sm_const _⟩, ⟨_, ⟨sn_rz (len := 1) dL_law_645 rfl, sm_rz⟩, trivial⟩⟩⟩⟩⟩⟩⟩⟩⟩⟩⟩⟩⟩⟩⟩⟩⟩⟩⟩⟩⟩⟩⟩⟩⟩⟩⟩
set_option maxRecDepth 20000 in
theorem kL_law_646 (L : Nat) (xs : Nat → Int32) : sx_BK sx_tb RL cL_law 4 (some .boolean) room_1 false true L xs 646 (bL_law_646 L xs) := ⟨_, ⟨sn_aload_n dL_law_646 rfl, sm_al _⟩, ⟨_, ⟨sn_aload_n dL_law_647 rfl, sm_al _⟩, ⟨_, ⟨sn_iload_n dL_law_648 rfl, sm_il _⟩, ⟨_, ⟨sn_iconst dL_law_649 (by decide +kernel), sm_const _⟩, ⟨_, ⟨sn_iadd dL_law_650, sm_bin _⟩, ⟨_, ⟨sn_sld rfl dL_law_651, sm_sld _ _⟩, ⟨_, ⟨sn_aload_n dL_law_652 rfl, sm_al _⟩, ⟨_, ⟨sn_iload_n dL_law_653 rfl, sm_il _⟩, ⟨_, ⟨sn_iconst dL_law_654 (by decide +kernel), sm_const _⟩, ⟨_, ⟨sn_iadd dL_law_655, sm_bin _⟩, ⟨_, ⟨sn_sld rfl dL_law_656, sm_sld _ _⟩, ⟨_, ⟨sn_cv_i (N := 9) (T := TX7) ztb_X7_debt dL_law_657 rfl rfl zw_2_170 zw_2_171 zw_2_172 zw_1_1 zw_2_173 zmh_X7 zpd_X7_debt (Nat.le_of_ble_eq_true rfl) (Nat.le_of_ble_eq_true rfl) rfl rfl, sm_cv _ _ _ _ _ _ _⟩, ⟨_, ⟨sn_aload_n dL_law_660 rfl, sm_al _⟩, ⟨_, ⟨sn_aload_n dL_law_661 rfl, sm_al _⟩, ⟨_, ⟨sn_iload_n dL_law_662 rfl, sm_il _⟩, ⟨_, ⟨sn_iconst dL_law_663 (by decide +kernel), sm_const _⟩, ⟨_, ⟨sn_iadd dL_law_664, sm_bin _⟩, ⟨_, ⟨sn_sld rfl dL_law_665, sm_sld _ _⟩, ⟨_, ⟨sn_aload_n dL_law_666 rfl, sm_al _⟩, ⟨_, ⟨sn_iload_n dL_law_667 rfl, sm_il _⟩, ⟨_, ⟨sn_iconst dL_law_668 (by decide +kernel), sm_const _⟩, ⟨_, ⟨sn_iadd dL_law_669, sm_bin _⟩, ⟨_, ⟨sn_sld rfl dL_law_670, sm_sld _ _⟩, ⟨_, ⟨sn_cv_i (N := 23) (T := TX8) ztb_X8_debt dL_law_671 rfl rfl zw_4_193 zw_4_194 zw_4_195 zw_1_8 zw_4_196 zmh_X8 zpd_X8_debt (Nat.le_of_ble_eq_true rfl) (Nat.le_of_ble_eq_true rfl) rfl rfl, sm_cv _ _ _ _ _ _ _⟩, ⟨_, ⟨sn_ic_eq dL_law_674 (by decide +kernel) rfl, sm_if2 _ _ _⟩, ⟨_, ⟨sn_iconst dL_law_677 (by decide +kernel), sm_const _⟩, ⟨_, ⟨sn_rz (len := 1) dL_law_678 rfl, sm_rz⟩, trivial⟩⟩⟩⟩⟩⟩⟩⟩⟩⟩⟩⟩⟩⟩⟩⟩⟩⟩⟩⟩⟩⟩⟩⟩⟩⟩⟩
set_option maxRecDepth 20000 in
theorem kL_law_679 (L : Nat) (xs : Nat → Int32) : sx_BK sx_tb RL cL_law 4 (some .boolean) room_1 false true L xs 679 (bL_law_679 L xs) := ⟨_, ⟨sn_aload_n dL_law_679 rfl, sm_al _⟩, ⟨_, ⟨sn_cv_i (N := 9) (T := TX7) ztb_X7_shuts dL_law_680 rfl rfl zw_2_174 zw_2_175 zw_2_176 zw_1_1 zw_2_177 zmh_X7 zpd_X7_shuts (Nat.le_of_ble_eq_true rfl) (Nat.le_of_ble_eq_true rfl) rfl rfl, sm_cv _ _ _ _ _ _ _⟩, ⟨_, ⟨sn_aload_n dL_law_683 rfl, sm_al _⟩, ⟨_, ⟨sn_cv_i (N := 23) (T := TX8) ztb_X8_shuts dL_law_684 rfl rfl zw_4_197 zw_4_198 zw_4_199 zw_1_8 zw_4_200 zmh_X8 zpd_X8_shuts (Nat.le_of_ble_eq_true rfl) (Nat.le_of_ble_eq_true rfl) rfl rfl, sm_cv _ _ _ _ _ _ _⟩, ⟨_, ⟨sn_ic_eq dL_law_687 (by decide +kernel) rfl, sm_if2 _ _ _⟩, ⟨_, ⟨sn_iconst dL_law_690 (by decide +kernel), sm_const _⟩, ⟨_, ⟨sn_rz (len := 1) dL_law_691 rfl, sm_rz⟩, trivial⟩⟩⟩⟩⟩⟩⟩
set_option maxRecDepth 20000 in
theorem kL_law_692 (L : Nat) (xs : Nat → Int32) : sx_BK sx_tb RL cL_law 4 (some .boolean) room_1 false true L xs 692 (bL_law_692 L xs) := ⟨_, ⟨sn_aload_n dL_law_692 rfl, sm_al _⟩, ⟨_, ⟨sn_aload_n dL_law_693 rfl, sm_al _⟩, ⟨_, ⟨sn_iload_n dL_law_694 rfl, sm_il _⟩, ⟨_, ⟨sn_iconst dL_law_695 (by decide +kernel), sm_const _⟩, ⟨_, ⟨sn_iadd dL_law_696, sm_bin _⟩, ⟨_, ⟨sn_sld rfl dL_law_697, sm_sld _ _⟩, ⟨_, ⟨sn_aload_n dL_law_698 rfl, sm_al _⟩, ⟨_, ⟨sn_iload_n dL_law_699 rfl, sm_il _⟩, ⟨_, ⟨sn_iconst dL_law_700 (by decide +kernel), sm_const _⟩, ⟨_, ⟨sn_iadd dL_law_701, sm_bin _⟩, ⟨_, ⟨sn_sld rfl dL_law_702, sm_sld _ _⟩, ⟨_, ⟨sn_aload_n dL_law_703 rfl, sm_al _⟩, ⟨_, ⟨sn_iload_n dL_law_704 rfl, sm_il _⟩, ⟨_, ⟨sn_iconst dL_law_705 (by decide +kernel), sm_const _⟩, ⟨_, ⟨sn_iadd dL_law_706, sm_bin _⟩, ⟨_, ⟨sn_sld rfl dL_law_707, sm_sld _ _⟩, ⟨_, ⟨sn_cv_i (N := 9) (T := TX7) ztb_X7_bestStop dL_law_708 rfl rfl zw_2_183 zw_2_184 zw_2_185 zw_1_1 zw_2_186 zmh_X7 zpd_X7_bestStop (Nat.le_of_ble_eq_true rfl) (Nat.le_of_ble_eq_true rfl) rfl rfl, sm_cv _ _ _ _ _ _ _⟩, ⟨_, ⟨sn_aload_n dL_law_711 rfl, sm_al _⟩, ⟨_, ⟨sn_aload_n dL_law_712 rfl, sm_al _⟩, ⟨_, ⟨sn_iload_n dL_law_713 rfl, sm_il _⟩, ⟨_, ⟨sn_iconst dL_law_714 (by decide +kernel), sm_const _⟩, ⟨_, ⟨sn_iadd dL_law_715, sm_bin _⟩, ⟨_, ⟨sn_sld rfl dL_law_716, sm_sld _ _⟩, ⟨_, ⟨sn_aload_n dL_law_717 rfl, sm_al _⟩, ⟨_, ⟨sn_iload_n dL_law_718 rfl, sm_il _⟩, ⟨_, ⟨sn_iconst dL_law_719 (by decide +kernel), sm_const _⟩, ⟨_, ⟨sn_iadd dL_law_720, sm_bin _⟩, ⟨_, ⟨sn_sld rfl dL_law_721, sm_sld _ _⟩, ⟨_, ⟨sn_aload_n dL_law_722 rfl, sm_al _⟩, ⟨_, ⟨sn_iload_n dL_law_723 rfl, sm_il _⟩, ⟨_, ⟨sn_iconst dL_law_724 (by decide +kernel), sm_const _⟩, ⟨_, ⟨sn_iadd dL_law_725, sm_bin _⟩, ⟨_, ⟨sn_sld rfl dL_law_726, sm_sld _ _⟩, ⟨_, ⟨sn_cv_i (N := 23) (T := TX8) ztb_X8_bestStop dL_law_727 rfl rfl zw_4_201 zw_4_202 zw_4_203 zw_1_8 zw_4_204 zmh_X8 zpd_X8_bestStop (Nat.le_of_ble_eq_true rfl) (Nat.le_of_ble_eq_true rfl) rfl rfl, sm_cv _ _ _ _ _ _ _⟩, ⟨_, ⟨sn_ic_eq dL_law_730 (by decide +kernel) rfl, sm_if2 _ _ _⟩, ⟨_, ⟨sn_iconst dL_law_733 (by decide +kernel), sm_const _⟩, ⟨_, ⟨sn_rz (len := 1) dL_law_734 rfl, sm_rz⟩, trivial⟩⟩⟩⟩⟩⟩⟩⟩⟩⟩⟩⟩⟩⟩⟩⟩⟩⟩⟩⟩⟩⟩⟩⟩⟩⟩⟩⟩⟩⟩⟩⟩⟩⟩⟩⟩⟩
set_option maxRecDepth 20000 in
theorem kL_law_735 (L : Nat) (xs : Nat → Int32) : sx_BK sx_tb RL cL_law 4 (some .boolean) room_1 false true L xs 735 (bL_law_735 L xs) := ⟨_, ⟨sn_aload_n dL_law_735 rfl, sm_al _⟩, ⟨_, ⟨sn_aload_n dL_law_736 rfl, sm_al _⟩, ⟨_, ⟨sn_iload_n dL_law_737 rfl, sm_il _⟩, ⟨_, ⟨sn_iconst dL_law_738 (by decide +kernel), sm_const _⟩, ⟨_, ⟨sn_iadd dL_law_739, sm_bin _⟩, ⟨_, ⟨sn_sld rfl dL_law_740, sm_sld _ _⟩, ⟨_, ⟨sn_aload_n dL_law_741 rfl, sm_al _⟩, ⟨_, ⟨sn_iload_n dL_law_742 rfl, sm_il _⟩, ⟨_, ⟨sn_iconst dL_law_743 (by decide +kernel), sm_const _⟩, ⟨_, ⟨sn_iadd dL_law_744, sm_bin _⟩, ⟨_, ⟨sn_sld rfl dL_law_745, sm_sld _ _⟩, ⟨_, ⟨sn_cv_i (N := 9) (T := TX7) ztb_X7_whom dL_law_746 rfl rfl zw_2_195 zw_2_196 zw_2_197 zw_1_1 zw_2_198 zmh_X7 zpd_X7_whom (Nat.le_of_ble_eq_true rfl) (Nat.le_of_ble_eq_true rfl) rfl rfl, sm_cv _ _ _ _ _ _ _⟩, ⟨_, ⟨sn_aload_n dL_law_749 rfl, sm_al _⟩, ⟨_, ⟨sn_aload_n dL_law_750 rfl, sm_al _⟩, ⟨_, ⟨sn_iload_n dL_law_751 rfl, sm_il _⟩, ⟨_, ⟨sn_iconst dL_law_752 (by decide +kernel), sm_const _⟩, ⟨_, ⟨sn_iadd dL_law_753, sm_bin _⟩, ⟨_, ⟨sn_sld rfl dL_law_754, sm_sld _ _⟩, ⟨_, ⟨sn_aload_n dL_law_755 rfl, sm_al _⟩, ⟨_, ⟨sn_iload_n dL_law_756 rfl, sm_il _⟩, ⟨_, ⟨sn_iconst dL_law_757 (by decide +kernel), sm_const _⟩, ⟨_, ⟨sn_iadd dL_law_758, sm_bin _⟩, ⟨_, ⟨sn_sld rfl dL_law_759, sm_sld _ _⟩, ⟨_, ⟨sn_cv_i (N := 23) (T := TX8) ztb_X8_whom dL_law_760 rfl rfl zw_4_205 zw_4_206 zw_4_207 zw_1_8 zw_4_208 zmh_X8 zpd_X8_whom (Nat.le_of_ble_eq_true rfl) (Nat.le_of_ble_eq_true rfl) rfl rfl, sm_cv _ _ _ _ _ _ _⟩, ⟨_, ⟨sn_ic_eq dL_law_763 (by decide +kernel) rfl, sm_if2 _ _ _⟩, ⟨_, ⟨sn_iconst dL_law_766 (by decide +kernel), sm_const _⟩, ⟨_, ⟨sn_rz (len := 1) dL_law_767 rfl, sm_rz⟩, trivial⟩⟩⟩⟩⟩⟩⟩⟩⟩⟩⟩⟩⟩⟩⟩⟩⟩⟩⟩⟩⟩⟩⟩⟩⟩⟩⟩
set_option maxRecDepth 20000 in
theorem kL_law_768 (L : Nat) (xs : Nat → Int32) : sx_BK sx_tb RL cL_law 4 (some .boolean) room_1 false true L xs 768 (bL_law_768 L xs) := ⟨_, ⟨sn_aload_n dL_law_768 rfl, sm_al _⟩, ⟨_, ⟨sn_cv_i (N := 9) (T := TX7) ztb_X7_stands dL_law_769 rfl rfl zw_2_213 zw_2_214 zw_2_215 zw_1_1 zw_2_216 zmh_X7 zpd_X7_stands (Nat.le_of_ble_eq_true rfl) (Nat.le_of_ble_eq_true rfl) rfl rfl, sm_cv _ _ _ _ _ _ _⟩, ⟨_, ⟨sn_aload_n dL_law_772 rfl, sm_al _⟩, ⟨_, ⟨sn_cv_i (N := 23) (T := TX8) ztb_X8_stands dL_law_773 rfl rfl zw_4_212 zw_4_213 zw_4_214 zw_1_8 zw_4_215 zmh_X8 zpd_X8_stands (Nat.le_of_ble_eq_true rfl) (Nat.le_of_ble_eq_true rfl) rfl rfl, sm_cv _ _ _ _ _ _ _⟩, ⟨_, ⟨sn_ic_eq dL_law_776 (by decide +kernel) rfl, sm_if2 _ _ _⟩, ⟨_, ⟨sn_iconst dL_law_779 (by decide +kernel), sm_const _⟩, ⟨_, ⟨sn_rz (len := 1) dL_law_780 rfl, sm_rz⟩, trivial⟩⟩⟩⟩⟩⟩⟩
set_option maxRecDepth 20000 in
theorem kL_law_781 (L : Nat) (xs : Nat → Int32) : sx_BK sx_tb RL cL_law 4 (some .boolean) room_1 false true L xs 781 (bL_law_781 L xs) := ⟨_, ⟨sn_aload_n dL_law_781 rfl, sm_al _⟩, ⟨_, ⟨sn_aload_n dL_law_782 rfl, sm_al _⟩, ⟨_, ⟨sn_iload_n dL_law_783 rfl, sm_il _⟩, ⟨_, ⟨sn_iconst dL_law_784 (by decide +kernel), sm_const _⟩, ⟨_, ⟨sn_iadd dL_law_785, sm_bin _⟩, ⟨_, ⟨sn_sld rfl dL_law_786, sm_sld _ _⟩, ⟨_, ⟨sn_cv_i (N := 9) (T := TX7) ztb_X7_dear dL_law_787 rfl rfl zw_2_225 zw_2_226 zw_2_227 zw_1_1 zw_2_228 zmh_X7 zpd_X7_dear (Nat.le_of_ble_eq_true rfl) (Nat.le_of_ble_eq_true rfl) rfl rfl, sm_cv _ _ _ _ _ _ _⟩, ⟨_, ⟨sn_aload_n dL_law_790 rfl, sm_al _⟩, ⟨_, ⟨sn_aload_n dL_law_791 rfl, sm_al _⟩, ⟨_, ⟨sn_iload_n dL_law_792 rfl, sm_il _⟩, ⟨_, ⟨sn_iconst dL_law_793 (by decide +kernel), sm_const _⟩, ⟨_, ⟨sn_iadd dL_law_794, sm_bin _⟩, ⟨_, ⟨sn_sld rfl dL_law_795, sm_sld _ _⟩, ⟨_, ⟨sn_cv_i (N := 23) (T := TX8) ztb_X8_dear dL_law_796 rfl rfl zw_4_216 zw_4_217 zw_4_218 zw_1_8 zw_4_219 zmh_X8 zpd_X8_dear (Nat.le_of_ble_eq_true rfl) (Nat.le_of_ble_eq_true rfl) rfl rfl, sm_cv _ _ _ _ _ _ _⟩, ⟨_, ⟨sn_ic_eq dL_law_799 (by decide +kernel) rfl, sm_if2 _ _ _⟩, ⟨_, ⟨sn_iconst dL_law_802 (by decide +kernel), sm_const _⟩, ⟨_, ⟨sn_rz (len := 1) dL_law_803 rfl, sm_rz⟩, trivial⟩⟩⟩⟩⟩⟩⟩⟩⟩⟩⟩⟩⟩⟩⟩⟩⟩
set_option maxRecDepth 20000 in
theorem kL_law_804 (L : Nat) (xs : Nat → Int32) : sx_BK sx_tb RL cL_law 4 (some .boolean) room_1 false true L xs 804 (bL_law_804 L xs) := ⟨_, ⟨sn_aload_n dL_law_804 rfl, sm_al _⟩, ⟨_, ⟨sn_aload_n dL_law_805 rfl, sm_al _⟩, ⟨_, ⟨sn_iload_n dL_law_806 rfl, sm_il _⟩, ⟨_, ⟨sn_iconst dL_law_807 (by decide +kernel), sm_const _⟩, ⟨_, ⟨sn_iadd dL_law_808, sm_bin _⟩, ⟨_, ⟨sn_sld rfl dL_law_809, sm_sld _ _⟩, ⟨_, ⟨sn_aload_n dL_law_810 rfl, sm_al _⟩, ⟨_, ⟨sn_iload_n dL_law_811 rfl, sm_il _⟩, ⟨_, ⟨sn_iconst dL_law_812 (by decide +kernel), sm_const _⟩, ⟨_, ⟨sn_iadd dL_law_813, sm_bin _⟩, ⟨_, ⟨sn_sld rfl dL_law_814, sm_sld _ _⟩, ⟨_, ⟨sn_aload_n dL_law_815 rfl, sm_al _⟩, ⟨_, ⟨sn_iload_n dL_law_816 rfl, sm_il _⟩, ⟨_, ⟨sn_iconst dL_law_817 (by decide +kernel), sm_const _⟩, ⟨_, ⟨sn_iadd dL_law_818, sm_bin _⟩, ⟨_, ⟨sn_sld rfl dL_law_819, sm_sld _ _⟩, ⟨_, ⟨sn_cv_i (N := 9) (T := TX7) ztb_X7_rogue dL_law_820 rfl rfl zw_2_233 zw_2_234 zw_2_235 zw_1_1 zw_2_236 zmh_X7 zpd_X7_rogue (Nat.le_of_ble_eq_true rfl) (Nat.le_of_ble_eq_true rfl) rfl rfl, sm_cv _ _ _ _ _ _ _⟩, ⟨_, ⟨sn_aload_n dL_law_823 rfl, sm_al _⟩, ⟨_, ⟨sn_aload_n dL_law_824 rfl, sm_al _⟩, ⟨_, ⟨sn_iload_n dL_law_825 rfl, sm_il _⟩, ⟨_, ⟨sn_iconst dL_law_826 (by decide +kernel), sm_const _⟩, ⟨_, ⟨sn_iadd dL_law_827, sm_bin _⟩, ⟨_, ⟨sn_sld rfl dL_law_828, sm_sld _ _⟩, ⟨_, ⟨sn_aload_n dL_law_829 rfl, sm_al _⟩, ⟨_, ⟨sn_iload_n dL_law_830 rfl, sm_il _⟩, ⟨_, ⟨sn_iconst dL_law_831 (by decide +kernel), sm_const _⟩, ⟨_, ⟨sn_iadd dL_law_832, sm_bin _⟩, ⟨_, ⟨sn_sld rfl dL_law_833, sm_sld _ _⟩, ⟨_, ⟨sn_aload_n dL_law_834 rfl, sm_al _⟩, ⟨_, ⟨sn_iload_n dL_law_835 rfl, sm_il _⟩, ⟨_, ⟨sn_iconst dL_law_836 (by decide +kernel), sm_const _⟩, ⟨_, ⟨sn_iadd dL_law_837, sm_bin _⟩, ⟨_, ⟨sn_sld rfl dL_law_838, sm_sld _ _⟩, ⟨_, ⟨sn_cv_i (N := 23) (T := TX8) ztb_X8_rogue dL_law_839 rfl rfl zw_4_220 zw_4_221 zw_4_222 zw_1_8 zw_4_223 zmh_X8 zpd_X8_rogue (Nat.le_of_ble_eq_true rfl) (Nat.le_of_ble_eq_true rfl) rfl rfl, sm_cv _ _ _ _ _ _ _⟩, ⟨_, ⟨sn_ic_eq dL_law_842 (by decide +kernel) rfl, sm_if2 _ _ _⟩, ⟨_, ⟨sn_iconst dL_law_845 (by decide +kernel), sm_const _⟩, ⟨_, ⟨sn_rz (len := 1) dL_law_846 rfl, sm_rz⟩, trivial⟩⟩⟩⟩⟩⟩⟩⟩⟩⟩⟩⟩⟩⟩⟩⟩⟩⟩⟩⟩⟩⟩⟩⟩⟩⟩⟩⟩⟩⟩⟩⟩⟩⟩⟩⟩⟩
set_option maxRecDepth 20000 in
theorem kL_law_847 (L : Nat) (xs : Nat → Int32) : sx_BK sx_tb RL cL_law 4 (some .boolean) room_1 false true L xs 847 (bL_law_847 L xs) := ⟨_, ⟨sn_aload_n dL_law_847 rfl, sm_al _⟩, ⟨_, ⟨sn_aload_n dL_law_848 rfl, sm_al _⟩, ⟨_, ⟨sn_iload_n dL_law_849 rfl, sm_il _⟩, ⟨_, ⟨sn_iconst dL_law_850 (by decide +kernel), sm_const _⟩, ⟨_, ⟨sn_iadd dL_law_851, sm_bin _⟩, ⟨_, ⟨sn_sld rfl dL_law_852, sm_sld _ _⟩, ⟨_, ⟨sn_aload_n dL_law_853 rfl, sm_al _⟩, ⟨_, ⟨sn_iload_n dL_law_854 rfl, sm_il _⟩, ⟨_, ⟨sn_iconst dL_law_855 (by decide +kernel), sm_const _⟩, ⟨_, ⟨sn_iadd dL_law_856, sm_bin _⟩, ⟨_, ⟨sn_sld rfl dL_law_857, sm_sld _ _⟩, ⟨_, ⟨sn_aload_n dL_law_858 rfl, sm_al _⟩, ⟨_, ⟨sn_iload_n dL_law_859 rfl, sm_il _⟩, ⟨_, ⟨sn_iconst dL_law_860 (by decide +kernel), sm_const _⟩, ⟨_, ⟨sn_iadd dL_law_861, sm_bin _⟩, ⟨_, ⟨sn_sld rfl dL_law_862, sm_sld _ _⟩, ⟨_, ⟨sn_aload_n dL_law_863 rfl, sm_al _⟩, ⟨_, ⟨sn_iload_n dL_law_864 rfl, sm_il _⟩, ⟨_, ⟨sn_iconst dL_law_865 (by decide +kernel), sm_const _⟩, ⟨_, ⟨sn_iadd dL_law_866, sm_bin _⟩, ⟨_, ⟨sn_sld rfl dL_law_867, sm_sld _ _⟩, ⟨_, ⟨sn_cv_i (N := 9) (T := TX7) ztb_X7_who dL_law_868 rfl rfl zw_3_6 zw_3_7 zw_3_8 zw_1_1 zw_3_9 zmh_X7 zpd_X7_who (Nat.le_of_ble_eq_true rfl) (Nat.le_of_ble_eq_true rfl) rfl rfl, sm_cv _ _ _ _ _ _ _⟩, ⟨_, ⟨sn_aload_n dL_law_871 rfl, sm_al _⟩, ⟨_, ⟨sn_aload_n dL_law_872 rfl, sm_al _⟩, ⟨_, ⟨sn_iload_n dL_law_873 rfl, sm_il _⟩, ⟨_, ⟨sn_iconst dL_law_874 (by decide +kernel), sm_const _⟩, ⟨_, ⟨sn_iadd dL_law_875, sm_bin _⟩, ⟨_, ⟨sn_sld rfl dL_law_876, sm_sld _ _⟩, ⟨_, ⟨sn_aload_n dL_law_877 rfl, sm_al _⟩, ⟨_, ⟨sn_iload_n dL_law_878 rfl, sm_il _⟩, ⟨_, ⟨sn_iconst dL_law_879 (by decide +kernel), sm_const _⟩, ⟨_, ⟨sn_iadd dL_law_880, sm_bin _⟩, ⟨_, ⟨sn_sld rfl dL_law_881, sm_sld _ _⟩, ⟨_, ⟨sn_aload_n dL_law_882 rfl, sm_al _⟩, ⟨_, ⟨sn_iload_n dL_law_883 rfl, sm_il _⟩, ⟨_, ⟨sn_iconst dL_law_884 (by decide +kernel), sm_const _⟩, ⟨_, ⟨sn_iadd dL_law_885, sm_bin _⟩, ⟨_, ⟨sn_sld rfl dL_law_886, sm_sld _ _⟩, ⟨_, ⟨sn_aload_n dL_law_887 rfl, sm_al _⟩, ⟨_, ⟨sn_iload_n dL_law_888 rfl, sm_il _⟩, ⟨_, ⟨sn_iconst dL_law_889 (by decide +kernel), sm_const _⟩, ⟨_, ⟨sn_iadd dL_law_890, sm_bin _⟩, ⟨_, ⟨sn_sld rfl dL_law_891, sm_sld _ _⟩, ⟨_, ⟨sn_cv_i (N := 23) (T := TX8) ztb_X8_who dL_law_892 rfl rfl zw_4_224 zw_4_225 zw_4_226 zw_1_8 zw_4_227 zmh_X8 zpd_X8_who (Nat.le_of_ble_eq_true rfl) (Nat.le_of_ble_eq_true rfl) rfl rfl, sm_cv _ _ _ _ _ _ _⟩, ⟨_, ⟨sn_ic_eq dL_law_895 (by decide +kernel) rfl, sm_if2 _ _ _⟩, ⟨_, ⟨sn_iconst dL_law_898 (by decide +kernel), sm_const _⟩, ⟨_, ⟨sn_rz (len := 1) dL_law_899 rfl, sm_rz⟩, trivial⟩⟩⟩⟩⟩⟩⟩⟩⟩⟩⟩⟩⟩⟩⟩⟩⟩⟩⟩⟩⟩⟩⟩⟩⟩⟩⟩⟩⟩⟩⟩⟩⟩⟩⟩⟩⟩⟩⟩⟩⟩⟩⟩⟩⟩⟩⟩
set_option maxRecDepth 20000 in
theorem kL_law_900 (L : Nat) (xs : Nat → Int32) : sx_BK sx_tb RL cL_law 4 (some .boolean) room_1 false true L xs 900 (bL_law_900 L xs) := ⟨_, ⟨sn_aload_n dL_law_900 rfl, sm_al _⟩, ⟨_, ⟨sn_aload_n dL_law_901 rfl, sm_al _⟩, ⟨_, ⟨sn_iload_n dL_law_902 rfl, sm_il _⟩, ⟨_, ⟨sn_iconst dL_law_903 (by decide +kernel), sm_const _⟩, ⟨_, ⟨sn_iadd dL_law_904, sm_bin _⟩, ⟨_, ⟨sn_sld rfl dL_law_905, sm_sld _ _⟩, ⟨_, ⟨sn_cv_i (N := 9) (T := TX7) ztb_X7_atDoor dL_law_906 rfl rfl zw_3_19 zw_3_20 zw_3_21 zw_1_1 zw_3_22 zmh_X7 zpd_X7_atDoor (Nat.le_of_ble_eq_true rfl) (Nat.le_of_ble_eq_true rfl) rfl rfl, sm_cv _ _ _ _ _ _ _⟩, ⟨_, ⟨sn_aload_n dL_law_909 rfl, sm_al _⟩, ⟨_, ⟨sn_aload_n dL_law_910 rfl, sm_al _⟩, ⟨_, ⟨sn_iload_n dL_law_911 rfl, sm_il _⟩, ⟨_, ⟨sn_iconst dL_law_912 (by decide +kernel), sm_const _⟩, ⟨_, ⟨sn_iadd dL_law_913, sm_bin _⟩, ⟨_, ⟨sn_sld rfl dL_law_914, sm_sld _ _⟩, ⟨_, ⟨sn_cv_i (N := 23) (T := TX8) ztb_X8_atDoor dL_law_915 rfl rfl zw_4_229 zw_4_230 zw_4_231 zw_1_8 zw_4_232 zmh_X8 zpd_X8_atDoor (Nat.le_of_ble_eq_true rfl) (Nat.le_of_ble_eq_true rfl) rfl rfl, sm_cv _ _ _ _ _ _ _⟩, ⟨_, ⟨sn_ic_eq dL_law_918 (by decide +kernel) rfl, sm_if2 _ _ _⟩, ⟨_, ⟨sn_iconst dL_law_921 (by decide +kernel), sm_const _⟩, ⟨_, ⟨sn_rz (len := 1) dL_law_922 rfl, sm_rz⟩, trivial⟩⟩⟩⟩⟩⟩⟩⟩⟩⟩⟩⟩⟩⟩⟩⟩⟩
set_option maxRecDepth 20000 in
theorem kL_law_923 (L : Nat) (xs : Nat → Int32) : sx_BK sx_tb RL cL_law 4 (some .boolean) room_1 false true L xs 923 (bL_law_923 L xs) := ⟨_, ⟨sn_aload_n dL_law_923 rfl, sm_al _⟩, ⟨_, ⟨sn_aload_n dL_law_924 rfl, sm_al _⟩, ⟨_, ⟨sn_iload_n dL_law_925 rfl, sm_il _⟩, ⟨_, ⟨sn_iconst dL_law_926 (by decide +kernel), sm_const _⟩, ⟨_, ⟨sn_iadd dL_law_927, sm_bin _⟩, ⟨_, ⟨sn_sld rfl dL_law_928, sm_sld _ _⟩, ⟨_, ⟨sn_aload_n dL_law_929 rfl, sm_al _⟩, ⟨_, ⟨sn_iload_n dL_law_930 rfl, sm_il _⟩, ⟨_, ⟨sn_iconst dL_law_931 (by decide +kernel), sm_const _⟩, ⟨_, ⟨sn_iadd dL_law_932, sm_bin _⟩, ⟨_, ⟨sn_sld rfl dL_law_933, sm_sld _ _⟩, ⟨_, ⟨sn_aload_n dL_law_934 rfl, sm_al _⟩, ⟨_, ⟨sn_iload_n dL_law_935 rfl, sm_il _⟩, ⟨_, ⟨sn_iconst dL_law_936 (by decide +kernel), sm_const _⟩, ⟨_, ⟨sn_iadd dL_law_937, sm_bin _⟩, ⟨_, ⟨sn_sld rfl dL_law_938, sm_sld _ _⟩, ⟨_, ⟨sn_cv_l (N := 9) (T := TX7) ztb_X7_pays dL_law_939 rfl rfl zw_3_32 zw_3_33 zw_3_34 zw_1_1 zw_3_35 zmh_X7 zpd_X7_pays (Nat.le_of_ble_eq_true rfl) (Nat.le_of_ble_eq_true rfl) rfl rfl, sm_cv _ _ _ _ _ _ _⟩, ⟨_, ⟨sn_aload_n dL_law_942 rfl, sm_al _⟩, ⟨_, ⟨sn_aload_n dL_law_943 rfl, sm_al _⟩, ⟨_, ⟨sn_iload_n dL_law_944 rfl, sm_il _⟩, ⟨_, ⟨sn_iconst dL_law_945 (by decide +kernel), sm_const _⟩, ⟨_, ⟨sn_iadd dL_law_946, sm_bin _⟩, ⟨_, ⟨sn_sld rfl dL_law_947, sm_sld _ _⟩, ⟨_, ⟨sn_aload_n dL_law_948 rfl, sm_al _⟩, ⟨_, ⟨sn_iload_n dL_law_949 rfl, sm_il _⟩, ⟨_, ⟨sn_iconst dL_law_950 (by decide +kernel), sm_const _⟩, ⟨_, ⟨sn_iadd dL_law_951, sm_bin _⟩, ⟨_, ⟨sn_sld rfl dL_law_952, sm_sld _ _⟩, ⟨_, ⟨sn_aload_n dL_law_953 rfl, sm_al _⟩, ⟨_, ⟨sn_iload_n dL_law_954 rfl, sm_il _⟩, ⟨_, ⟨sn_iconst dL_law_955 (by decide +kernel), sm_const _⟩, ⟨_, ⟨sn_iadd dL_law_956, sm_bin _⟩, ⟨_, ⟨sn_sld rfl dL_law_957, sm_sld _ _⟩, ⟨_, ⟨sn_cv_l (N := 23) (T := TX8) ztb_X8_pays dL_law_958 rfl rfl zw_4_234 zw_4_235 zw_4_236 zw_1_8 zw_4_237 zmh_X8 zpd_X8_pays (Nat.le_of_ble_eq_true rfl) (Nat.le_of_ble_eq_true rfl) rfl rfl, sm_cv _ _ _ _ _ _ _⟩, ⟨_, ⟨sn_lcmp dL_law_961, sm_lcmp⟩, ⟨_, ⟨sn_if_eq dL_law_962 (by decide +kernel) rfl, sm_if1 _ _ _⟩, ⟨_, ⟨sn_iconst dL_law_965 (by decide +kernel), sm_const _⟩, ⟨_, ⟨sn_rz (len := 1) dL_law_966 rfl, sm_rz⟩, trivial⟩⟩⟩⟩⟩⟩⟩⟩⟩⟩⟩⟩⟩⟩⟩⟩⟩⟩⟩⟩⟩⟩⟩⟩⟩⟩⟩⟩⟩⟩⟩⟩⟩⟩⟩⟩⟩⟩
set_option maxRecDepth 20000 in
theorem kL_law_967 (L : Nat) (xs : Nat → Int32) : sx_BK sx_tb RL cL_law 4 (some .boolean) room_1 false true L xs 967 (bL_law_967 L xs) := ⟨_, ⟨sn_aload_n dL_law_967 rfl, sm_al _⟩, ⟨_, ⟨sn_aload_n dL_law_968 rfl, sm_al _⟩, ⟨_, ⟨sn_iload_n dL_law_969 rfl, sm_il _⟩, ⟨_, ⟨sn_iconst dL_law_970 (by decide +kernel), sm_const _⟩, ⟨_, ⟨sn_iadd dL_law_971, sm_bin _⟩, ⟨_, ⟨sn_sld rfl dL_law_972, sm_sld _ _⟩, ⟨_, ⟨sn_aload_n dL_law_973 rfl, sm_al _⟩, ⟨_, ⟨sn_iload_n dL_law_974 rfl, sm_il _⟩, ⟨_, ⟨sn_iconst dL_law_975 (by decide +kernel), sm_const _⟩, ⟨_, ⟨sn_iadd dL_law_976, sm_bin _⟩, ⟨_, ⟨sn_sld rfl dL_law_977, sm_sld _ _⟩, ⟨_, ⟨sn_aload_n dL_law_978 rfl, sm_al _⟩, ⟨_, ⟨sn_iload_n dL_law_979 rfl, sm_il _⟩, ⟨_, ⟨sn_iconst dL_law_980 (by decide +kernel), sm_const _⟩, ⟨_, ⟨sn_iadd dL_law_981, sm_bin _⟩, ⟨_, ⟨sn_sld rfl dL_law_982, sm_sld _ _⟩, ⟨_, ⟨sn_cv_i (N := 9) (T := TX7) ztb_X7_drawn dL_law_983 rfl rfl zw_3_55 zw_3_56 zw_3_57 zw_1_1 zw_3_58 zmh_X7 zpd_X7_drawn (Nat.le_of_ble_eq_true rfl) (Nat.le_of_ble_eq_true rfl) rfl rfl, sm_cv _ _ _ _ _ _ _⟩, ⟨_, ⟨sn_aload_n dL_law_986 rfl, sm_al _⟩, ⟨_, ⟨sn_aload_n dL_law_987 rfl, sm_al _⟩, ⟨_, ⟨sn_iload_n dL_law_988 rfl, sm_il _⟩, ⟨_, ⟨sn_iconst dL_law_989 (by decide +kernel), sm_const _⟩, ⟨_, ⟨sn_iadd dL_law_990, sm_bin _⟩, ⟨_, ⟨sn_sld rfl dL_law_991, sm_sld _ _⟩, ⟨_, ⟨sn_aload_n dL_law_992 rfl, sm_al _⟩, ⟨_, ⟨sn_iload_n dL_law_993 rfl, sm_il _⟩, ⟨_, ⟨sn_iconst dL_law_994 (by decide +kernel), sm_const _⟩, ⟨_, ⟨sn_iadd dL_law_995, sm_bin _⟩, ⟨_, ⟨sn_sld rfl dL_law_996, sm_sld _ _⟩, ⟨_, ⟨sn_aload_n dL_law_997 rfl, sm_al _⟩, ⟨_, ⟨sn_iload_n dL_law_998 rfl, sm_il _⟩, ⟨_, ⟨sn_iconst dL_law_999 (by decide +kernel), sm_const _⟩, ⟨_, ⟨sn_iadd dL_law_1000, sm_bin _⟩, ⟨_, ⟨sn_sld rfl dL_law_1001, sm_sld _ _⟩, ⟨_, ⟨sn_cv_i (N := 23) (T := TX8) ztb_X8_drawn dL_law_1002 rfl rfl zw_5_1 zw_5_2 zw_5_3 zw_1_8 zw_5_4 zmh_X8 zpd_X8_drawn (Nat.le_of_ble_eq_true rfl) (Nat.le_of_ble_eq_true rfl) rfl rfl, sm_cv _ _ _ _ _ _ _⟩, ⟨_, ⟨sn_ic_eq dL_law_1005 (by decide +kernel) rfl, sm_if2 _ _ _⟩, ⟨_, ⟨sn_iconst dL_law_1008 (by decide +kernel), sm_const _⟩, ⟨_, ⟨sn_rz (len := 1) dL_law_1009 rfl, sm_rz⟩, trivial⟩⟩⟩⟩⟩⟩⟩⟩⟩⟩⟩⟩⟩⟩⟩⟩⟩⟩⟩⟩⟩⟩⟩⟩⟩⟩⟩⟩⟩⟩⟩⟩⟩⟩⟩⟩⟩
set_option maxRecDepth 20000 in
theorem kL_law_1010 (L : Nat) (xs : Nat → Int32) : sx_BK sx_tb RL cL_law 4 (some .boolean) room_1 false true L xs 1010 (bL_law_1010 L xs) := ⟨_, ⟨sn_aload_n dL_law_1010 rfl, sm_al _⟩, ⟨_, ⟨sn_aload_n dL_law_1011 rfl, sm_al _⟩, ⟨_, ⟨sn_iload_n dL_law_1012 rfl, sm_il _⟩, ⟨_, ⟨sn_iconst dL_law_1013 (by decide +kernel), sm_const _⟩, ⟨_, ⟨sn_iadd dL_law_1014, sm_bin _⟩, ⟨_, ⟨sn_sld rfl dL_law_1015, sm_sld _ _⟩, ⟨_, ⟨sn_cv_i (N := 9) (T := TX7) ztb_X7_image dL_law_1016 rfl rfl zw_3_68 zw_3_69 zw_3_70 zw_1_1 zw_3_71 zmh_X7 zpd_X7_image (Nat.le_of_ble_eq_true rfl) (Nat.le_of_ble_eq_true rfl) rfl rfl, sm_cv _ _ _ _ _ _ _⟩, ⟨_, ⟨sn_aload_n dL_law_1019 rfl, sm_al _⟩, ⟨_, ⟨sn_aload_n dL_law_1020 rfl, sm_al _⟩, ⟨_, ⟨sn_iload_n dL_law_1021 rfl, sm_il _⟩, ⟨_, ⟨sn_iconst dL_law_1022 (by decide +kernel), sm_const _⟩, ⟨_, ⟨sn_iadd dL_law_1023, sm_bin _⟩, ⟨_, ⟨sn_sld rfl dL_law_1024, sm_sld _ _⟩, ⟨_, ⟨sn_cv_i (N := 23) (T := TX8) ztb_X8_image dL_law_1025 rfl rfl zw_5_8 zw_5_9 zw_5_10 zw_1_8 zw_5_11 zmh_X8 zpd_X8_image (Nat.le_of_ble_eq_true rfl) (Nat.le_of_ble_eq_true rfl) rfl rfl, sm_cv _ _ _ _ _ _ _⟩, ⟨_, ⟨sn_ic_eq dL_law_1028 (by decide +kernel) rfl, sm_if2 _ _ _⟩, ⟨_, ⟨sn_iconst dL_law_1031 (by decide +kernel), sm_const _⟩, ⟨_, ⟨sn_rz (len := 1) dL_law_1032 rfl, sm_rz⟩, trivial⟩⟩⟩⟩⟩⟩⟩⟩⟩⟩⟩⟩⟩⟩⟩⟩⟩
set_option maxRecDepth 20000 in
theorem kL_law_1033 (L : Nat) (xs : Nat → Int32) : sx_BK sx_tb RL cL_law 4 (some .boolean) room_1 false true L xs 1033 (bL_law_1033 L xs) := ⟨_, ⟨sn_aload_n dL_law_1033 rfl, sm_al _⟩, ⟨_, ⟨sn_aload_n dL_law_1034 rfl, sm_al _⟩, ⟨_, ⟨sn_iload_n dL_law_1035 rfl, sm_il _⟩, ⟨_, ⟨sn_iconst dL_law_1036 (by decide +kernel), sm_const _⟩, ⟨_, ⟨sn_iadd dL_law_1037, sm_bin _⟩, ⟨_, ⟨sn_sld rfl dL_law_1038, sm_sld _ _⟩, ⟨_, ⟨sn_cv_i (N := 9) (T := TX7) ztb_X7_restore dL_law_1039 rfl rfl zw_3_72 zw_3_73 zw_3_74 zw_1_1 zw_3_75 zmh_X7 zpd_X7_restore (Nat.le_of_ble_eq_true rfl) (Nat.le_of_ble_eq_true rfl) rfl rfl, sm_cv _ _ _ _ _ _ _⟩, ⟨_, ⟨sn_aload_n dL_law_1042 rfl, sm_al _⟩, ⟨_, ⟨sn_aload_n dL_law_1043 rfl, sm_al _⟩, ⟨_, ⟨sn_iload_n dL_law_1044 rfl, sm_il _⟩, ⟨_, ⟨sn_iconst dL_law_1045 (by decide +kernel), sm_const _⟩, ⟨_, ⟨sn_iadd dL_law_1046, sm_bin _⟩, ⟨_, ⟨sn_sld rfl dL_law_1047, sm_sld _ _⟩, ⟨_, ⟨sn_cv_i (N := 23) (T := TX8) ztb_X8_restore dL_law_1048 rfl rfl zw_5_12 zw_5_13 zw_5_14 zw_1_8 zw_5_15 zmh_X8 zpd_X8_restore (Nat.le_of_ble_eq_true rfl) (Nat.le_of_ble_eq_true rfl) rfl rfl, sm_cv _ _ _ _ _ _ _⟩, ⟨_, ⟨sn_ic_eq dL_law_1051 (by decide +kernel) rfl, sm_if2 _ _ _⟩, ⟨_, ⟨sn_iconst dL_law_1054 (by decide +kernel), sm_const _⟩, ⟨_, ⟨sn_rz (len := 1) dL_law_1055 rfl, sm_rz⟩, trivial⟩⟩⟩⟩⟩⟩⟩⟩⟩⟩⟩⟩⟩⟩⟩⟩⟩
set_option maxRecDepth 20000 in
theorem kL_law_1056 (L : Nat) (xs : Nat → Int32) : sx_BK sx_tb RL cL_law 4 (some .boolean) room_1 false true L xs 1056 (bL_law_1056 L xs) := ⟨_, ⟨sn_aload_n dL_law_1056 rfl, sm_al _⟩, ⟨_, ⟨sn_aload_n dL_law_1057 rfl, sm_al _⟩, ⟨_, ⟨sn_iload_n dL_law_1058 rfl, sm_il _⟩, ⟨_, ⟨sn_iconst dL_law_1059 (by decide +kernel), sm_const _⟩, ⟨_, ⟨sn_iadd dL_law_1060, sm_bin _⟩, ⟨_, ⟨sn_sld rfl dL_law_1061, sm_sld _ _⟩, ⟨_, ⟨sn_cv_i (N := 9) (T := TX7) ztb_X7_kind dL_law_1062 rfl rfl zw_3_76 zw_3_77 zw_3_78 zw_1_1 zw_3_79 zmh_X7 zpd_X7_kind (Nat.le_of_ble_eq_true rfl) (Nat.le_of_ble_eq_true rfl) rfl rfl, sm_cv _ _ _ _ _ _ _⟩, ⟨_, ⟨sn_aload_n dL_law_1065 rfl, sm_al _⟩, ⟨_, ⟨sn_aload_n dL_law_1066 rfl, sm_al _⟩, ⟨_, ⟨sn_iload_n dL_law_1067 rfl, sm_il _⟩, ⟨_, ⟨sn_iconst dL_law_1068 (by decide +kernel), sm_const _⟩, ⟨_, ⟨sn_iadd dL_law_1069, sm_bin _⟩, ⟨_, ⟨sn_sld rfl dL_law_1070, sm_sld _ _⟩, ⟨_, ⟨sn_cv_i (N := 23) (T := TX8) ztb_X8_kind dL_law_1071 rfl rfl zw_5_16 zw_5_17 zw_5_18 zw_1_8 zw_5_19 zmh_X8 zpd_X8_kind (Nat.le_of_ble_eq_true rfl) (Nat.le_of_ble_eq_true rfl) rfl rfl, sm_cv _ _ _ _ _ _ _⟩, ⟨_, ⟨sn_ic_eq dL_law_1074 (by decide +kernel) rfl, sm_if2 _ _ _⟩, ⟨_, ⟨sn_iconst dL_law_1077 (by decide +kernel), sm_const _⟩, ⟨_, ⟨sn_rz (len := 1) dL_law_1078 rfl, sm_rz⟩, trivial⟩⟩⟩⟩⟩⟩⟩⟩⟩⟩⟩⟩⟩⟩⟩⟩⟩
set_option maxRecDepth 20000 in
theorem kL_law_1079 (L : Nat) (xs : Nat → Int32) : sx_BK sx_tb RL cL_law 4 (some .boolean) room_1 false true L xs 1079 (bL_law_1079 L xs) := ⟨_, ⟨sn_aload_n dL_law_1079 rfl, sm_al _⟩, ⟨_, ⟨sn_aload_n dL_law_1080 rfl, sm_al _⟩, ⟨_, ⟨sn_iload_n dL_law_1081 rfl, sm_il _⟩, ⟨_, ⟨sn_iconst dL_law_1082 (by decide +kernel), sm_const _⟩, ⟨_, ⟨sn_iadd dL_law_1083, sm_bin _⟩, ⟨_, ⟨sn_sld rfl dL_law_1084, sm_sld _ _⟩, ⟨_, ⟨sn_aload_n dL_law_1085 rfl, sm_al _⟩, ⟨_, ⟨sn_iload_n dL_law_1086 rfl, sm_il _⟩, ⟨_, ⟨sn_iconst dL_law_1087 (by decide +kernel), sm_const _⟩, ⟨_, ⟨sn_iadd dL_law_1088, sm_bin _⟩, ⟨_, ⟨sn_sld rfl dL_law_1089, sm_sld _ _⟩, ⟨_, ⟨sn_cv_i (N := 9) (T := TX7) ztb_X7_as dL_law_1090 rfl rfl zw_3_80 zw_3_81 zw_3_82 zw_1_1 zw_3_83 zmh_X7 zpd_X7_as (Nat.le_of_ble_eq_true rfl) (Nat.le_of_ble_eq_true rfl) rfl rfl, sm_cv _ _ _ _ _ _ _⟩, ⟨_, ⟨sn_aload_n dL_law_1093 rfl, sm_al _⟩, ⟨_, ⟨sn_aload_n dL_law_1094 rfl, sm_al _⟩, ⟨_, ⟨sn_iload_n dL_law_1095 rfl, sm_il _⟩, ⟨_, ⟨sn_iconst dL_law_1096 (by decide +kernel), sm_const _⟩, ⟨_, ⟨sn_iadd dL_law_1097, sm_bin _⟩, ⟨_, ⟨sn_sld rfl dL_law_1098, sm_sld _ _⟩, ⟨_, ⟨sn_aload_n dL_law_1099 rfl, sm_al _⟩, ⟨_, ⟨sn_iload_n dL_law_1100 rfl, sm_il _⟩, ⟨_, ⟨sn_iconst dL_law_1101 (by decide +kernel), sm_const _⟩, ⟨_, ⟨sn_iadd dL_law_1102, sm_bin _⟩, ⟨_, ⟨sn_sld rfl dL_law_1103, sm_sld _ _⟩, ⟨_, ⟨sn_cv_i (N := 23) (T := TX8) ztb_X8_as dL_law_1104 rfl rfl zw_5_20 zw_5_21 zw_5_22 zw_1_8 zw_5_23 zmh_X8 zpd_X8_as (Nat.le_of_ble_eq_true rfl) (Nat.le_of_ble_eq_true rfl) rfl rfl, sm_cv _ _ _ _ _ _ _⟩, ⟨_, ⟨sn_ic_eq dL_law_1107 (by decide +kernel) rfl, sm_if2 _ _ _⟩, ⟨_, ⟨sn_iconst dL_law_1110 (by decide +kernel), sm_const _⟩, ⟨_, ⟨sn_rz (len := 1) dL_law_1111 rfl, sm_rz⟩, trivial⟩⟩⟩⟩⟩⟩⟩⟩⟩⟩⟩⟩⟩⟩⟩⟩⟩⟩⟩⟩⟩⟩⟩⟩⟩⟩⟩
set_option maxRecDepth 20000 in
theorem kL_law_1112 (L : Nat) (xs : Nat → Int32) : sx_BK sx_tb RL cL_law 4 (some .boolean) room_1 false true L xs 1112 (bL_law_1112 L xs) := ⟨_, ⟨sn_aload_n dL_law_1112 rfl, sm_al _⟩, ⟨_, ⟨sn_aload_n dL_law_1113 rfl, sm_al _⟩, ⟨_, ⟨sn_iload_n dL_law_1114 rfl, sm_il _⟩, ⟨_, ⟨sn_iconst dL_law_1115 (by decide +kernel), sm_const _⟩, ⟨_, ⟨sn_iadd dL_law_1116, sm_bin _⟩, ⟨_, ⟨sn_sld rfl dL_law_1117, sm_sld _ _⟩, ⟨_, ⟨sn_aload_n dL_law_1118 rfl, sm_al _⟩, ⟨_, ⟨sn_iload_n dL_law_1119 rfl, sm_il _⟩, ⟨_, ⟨sn_iconst dL_law_1120 (by decide +kernel), sm_const _⟩, ⟨_, ⟨sn_iadd dL_law_1121, sm_bin _⟩, ⟨_, ⟨sn_sld rfl dL_law_1122, sm_sld _ _⟩, ⟨_, ⟨sn_cv_i (N := 9) (T := TX7) ztb_X7_ask dL_law_1123 rfl rfl zw_3_91 zw_3_92 zw_3_93 zw_1_1 zw_3_94 zmh_X7 zpd_X7_ask (Nat.le_of_ble_eq_true rfl) (Nat.le_of_ble_eq_true rfl) rfl rfl, sm_cv _ _ _ _ _ _ _⟩, ⟨_, ⟨sn_aload_n dL_law_1126 rfl, sm_al _⟩, ⟨_, ⟨sn_aload_n dL_law_1127 rfl, sm_al _⟩, ⟨_, ⟨sn_iload_n dL_law_1128 rfl, sm_il _⟩, ⟨_, ⟨sn_iconst dL_law_1129 (by decide +kernel), sm_const _⟩, ⟨_, ⟨sn_iadd dL_law_1130, sm_bin _⟩, ⟨_, ⟨sn_sld rfl dL_law_1131, sm_sld _ _⟩, ⟨_, ⟨sn_aload_n dL_law_1132 rfl, sm_al _⟩, ⟨_, ⟨sn_iload_n dL_law_1133 rfl, sm_il _⟩, ⟨_, ⟨sn_iconst dL_law_1134 (by decide +kernel), sm_const _⟩, ⟨_, ⟨sn_iadd dL_law_1135, sm_bin _⟩, ⟨_, ⟨sn_sld rfl dL_law_1136, sm_sld _ _⟩, ⟨_, ⟨sn_cv_i (N := 23) (T := TX8) ztb_X8_ask dL_law_1137 rfl rfl zw_5_27 zw_5_28 zw_5_29 zw_1_8 zw_5_30 zmh_X8 zpd_X8_ask (Nat.le_of_ble_eq_true rfl) (Nat.le_of_ble_eq_true rfl) rfl rfl, sm_cv _ _ _ _ _ _ _⟩, ⟨_, ⟨sn_ic_eq dL_law_1140 (by decide +kernel) rfl, sm_if2 _ _ _⟩, ⟨_, ⟨sn_iconst dL_law_1143 (by decide +kernel), sm_const _⟩, ⟨_, ⟨sn_rz (len := 1) dL_law_1144 rfl, sm_rz⟩, trivial⟩⟩⟩⟩⟩⟩⟩⟩⟩⟩⟩⟩⟩⟩⟩⟩⟩⟩⟩⟩⟩⟩⟩⟩⟩⟩⟩
set_option maxRecDepth 20000 in
theorem kL_law_1145 (L : Nat) (xs : Nat → Int32) : sx_BK sx_tb RL cL_law 4 (some .boolean) room_1 false true L xs 1145 (bL_law_1145 L xs) := ⟨_, ⟨sn_aload_n dL_law_1145 rfl, sm_al _⟩, ⟨_, ⟨sn_aload_n dL_law_1146 rfl, sm_al _⟩, ⟨_, ⟨sn_iload_n dL_law_1147 rfl, sm_il _⟩, ⟨_, ⟨sn_iconst dL_law_1148 (by decide +kernel), sm_const _⟩, ⟨_, ⟨sn_iadd dL_law_1149, sm_bin _⟩, ⟨_, ⟨sn_sld rfl dL_law_1150, sm_sld _ _⟩, ⟨_, ⟨sn_cv_i (N := 9) (T := TX7) ztb_X7_trace dL_law_1151 rfl rfl zw_3_155 zw_3_156 zw_3_157 zw_1_1 zw_3_158 zmh_X7 zpd_X7_trace (Nat.le_of_ble_eq_true rfl) (Nat.le_of_ble_eq_true rfl) rfl rfl, sm_cv _ _ _ _ _ _ _⟩, ⟨_, ⟨sn_aload_n dL_law_1154 rfl, sm_al _⟩, ⟨_, ⟨sn_aload_n dL_law_1155 rfl, sm_al _⟩, ⟨_, ⟨sn_iload_n dL_law_1156 rfl, sm_il _⟩, ⟨_, ⟨sn_iconst dL_law_1157 (by decide +kernel), sm_const _⟩, ⟨_, ⟨sn_iadd dL_law_1158, sm_bin _⟩, ⟨_, ⟨sn_sld rfl dL_law_1159, sm_sld _ _⟩, ⟨_, ⟨sn_cv_i (N := 23) (T := TX8) ztb_X8_trace dL_law_1160 rfl rfl zw_5_51 zw_5_52 zw_5_53 zw_1_8 zw_5_54 zmh_X8 zpd_X8_trace (Nat.le_of_ble_eq_true rfl) (Nat.le_of_ble_eq_true rfl) rfl rfl, sm_cv _ _ _ _ _ _ _⟩, ⟨_, ⟨sn_ic_eq dL_law_1163 (by decide +kernel) rfl, sm_if2 _ _ _⟩, ⟨_, ⟨sn_iconst dL_law_1166 (by decide +kernel), sm_const _⟩, ⟨_, ⟨sn_rz (len := 1) dL_law_1167 rfl, sm_rz⟩, trivial⟩⟩⟩⟩⟩⟩⟩⟩⟩⟩⟩⟩⟩⟩⟩⟩⟩
set_option maxRecDepth 20000 in
theorem kL_law_1168 (L : Nat) (xs : Nat → Int32) : sx_BK sx_tb RL cL_law 4 (some .boolean) room_1 false true L xs 1168 (bL_law_1168 L xs) := ⟨_, ⟨sn_aload_n dL_law_1168 rfl, sm_al _⟩, ⟨_, ⟨sn_aload_n dL_law_1169 rfl, sm_al _⟩, ⟨_, ⟨sn_iload_n dL_law_1170 rfl, sm_il _⟩, ⟨_, ⟨sn_iconst dL_law_1171 (by decide +kernel), sm_const _⟩, ⟨_, ⟨sn_iadd dL_law_1172, sm_bin _⟩, ⟨_, ⟨sn_sld rfl dL_law_1173, sm_sld _ _⟩, ⟨_, ⟨sn_cv_i (N := 9) (T := TX7) ztb_X7_count dL_law_1174 rfl rfl zw_3_160 zw_3_161 zw_3_162 zw_1_1 zw_3_163 zmh_X7 zpd_X7_count (Nat.le_of_ble_eq_true rfl) (Nat.le_of_ble_eq_true rfl) rfl rfl, sm_cv _ _ _ _ _ _ _⟩, ⟨_, ⟨sn_aload_n dL_law_1177 rfl, sm_al _⟩, ⟨_, ⟨sn_aload_n dL_law_1178 rfl, sm_al _⟩, ⟨_, ⟨sn_iload_n dL_law_1179 rfl, sm_il _⟩, ⟨_, ⟨sn_iconst dL_law_1180 (by decide +kernel), sm_const _⟩, ⟨_, ⟨sn_iadd dL_law_1181, sm_bin _⟩, ⟨_, ⟨sn_sld rfl dL_law_1182, sm_sld _ _⟩, ⟨_, ⟨sn_cv_i (N := 23) (T := TX8) ztb_X8_count dL_law_1183 rfl rfl zw_5_55 zw_5_56 zw_5_57 zw_1_8 zw_5_58 zmh_X8 zpd_X8_count (Nat.le_of_ble_eq_true rfl) (Nat.le_of_ble_eq_true rfl) rfl rfl, sm_cv _ _ _ _ _ _ _⟩, ⟨_, ⟨sn_ic_eq dL_law_1186 (by decide +kernel) rfl, sm_if2 _ _ _⟩, ⟨_, ⟨sn_iconst dL_law_1189 (by decide +kernel), sm_const _⟩, ⟨_, ⟨sn_rz (len := 1) dL_law_1190 rfl, sm_rz⟩, trivial⟩⟩⟩⟩⟩⟩⟩⟩⟩⟩⟩⟩⟩⟩⟩⟩⟩
set_option maxRecDepth 20000 in
theorem kL_law_1191 (L : Nat) (xs : Nat → Int32) : sx_BK sx_tb RL cL_law 4 (some .boolean) room_1 false true L xs 1191 (bL_law_1191 L xs) := ⟨_, ⟨sn_aload_n dL_law_1191 rfl, sm_al _⟩, ⟨_, ⟨sn_cv_i (N := 9) (T := TX7) ztb_X7_status dL_law_1192 rfl rfl zw_3_172 zw_3_173 zw_3_174 zw_1_1 zw_3_175 zmh_X7 zpd_X7_status (Nat.le_of_ble_eq_true rfl) (Nat.le_of_ble_eq_true rfl) rfl rfl, sm_cv _ _ _ _ _ _ _⟩, ⟨_, ⟨sn_aload_n dL_law_1195 rfl, sm_al _⟩, ⟨_, ⟨sn_cv_i (N := 23) (T := TX8) ztb_X8_status dL_law_1196 rfl rfl zw_5_63 zw_5_64 zw_5_65 zw_1_8 zw_5_66 zmh_X8 zpd_X8_status (Nat.le_of_ble_eq_true rfl) (Nat.le_of_ble_eq_true rfl) rfl rfl, sm_cv _ _ _ _ _ _ _⟩, ⟨_, ⟨sn_ic_eq dL_law_1199 (by decide +kernel) rfl, sm_if2 _ _ _⟩, ⟨_, ⟨sn_iconst dL_law_1202 (by decide +kernel), sm_const _⟩, ⟨_, ⟨sn_rz (len := 1) dL_law_1203 rfl, sm_rz⟩, trivial⟩⟩⟩⟩⟩⟩⟩
set_option maxRecDepth 20000 in
theorem kL_law_1204 (L : Nat) (xs : Nat → Int32) : sx_BK sx_tb RL cL_law 4 (some .boolean) room_1 false true L xs 1204 (bL_law_1204 L xs) := ⟨_, ⟨sn_iinc dL_law_1204 (by decide +kernel) (Nat.le_of_ble_eq_true rfl), sm_inc _ _⟩, ⟨_, ⟨sn_goto (len := 3) dL_law_1207 (by decide +kernel) rfl, sm_go _ _⟩, trivial⟩⟩
set_option maxRecDepth 20000 in
theorem kL_law_1210 (L : Nat) (xs : Nat → Int32) : sx_BK sx_tb RL cL_law 4 (some .boolean) room_1 false true L xs 1210 (bL_law_1210 L xs) := ⟨_, ⟨sn_iconst dL_law_1210 (by decide +kernel), sm_const _⟩, ⟨_, ⟨sn_rz (len := 1) dL_law_1211 rfl, sm_rz⟩, trivial⟩⟩
theorem kL_law (L : Nat) (xs : Nat → Int32) : ∀ pc, sx_BK sx_tb RL cL_law 4 (some .boolean) room_1 false true L xs pc (BL_law L xs pc) := fun pc => sx_bk_if (kL_law_0 L xs) (sx_bk_if (kL_law_18 L xs) (sx_bk_if (kL_law_188 L xs) (sx_bk_if (kL_law_231 L xs) (sx_bk_if (kL_law_274 L xs) (sx_bk_if (kL_law_337 L xs) (sx_bk_if (kL_law_360 L xs) (sx_bk_if (kL_law_383 L xs) (sx_bk_if (kL_law_396 L xs) (sx_bk_if (kL_law_409 L xs) (sx_bk_if (kL_law_422 L xs) (sx_bk_if (kL_law_445 L xs) (sx_bk_if (kL_law_478 L xs) (sx_bk_if (kL_law_501 L xs) (sx_bk_if (kL_law_534 L xs) (sx_bk_if (kL_law_557 L xs) (sx_bk_if (kL_law_590 L xs) (sx_bk_if (kL_law_613 L xs) (sx_bk_if (kL_law_646 L xs) (sx_bk_if (kL_law_679 L xs) (sx_bk_if (kL_law_692 L xs) (sx_bk_if (kL_law_735 L xs) (sx_bk_if (kL_law_768 L xs) (sx_bk_if (kL_law_781 L xs) (sx_bk_if (kL_law_804 L xs) (sx_bk_if (kL_law_847 L xs) (sx_bk_if (kL_law_900 L xs) (sx_bk_if (kL_law_923 L xs) (sx_bk_if (kL_law_967 L xs) (sx_bk_if (kL_law_1010 L xs) (sx_bk_if (kL_law_1033 L xs) (sx_bk_if (kL_law_1056 L xs) (sx_bk_if (kL_law_1079 L xs) (sx_bk_if (kL_law_1112 L xs) (sx_bk_if (kL_law_1145 L xs) (sx_bk_if (kL_law_1168 L xs) (sx_bk_if (kL_law_1191 L xs) (sx_bk_if (kL_law_1204 L xs) (sx_bk_if (kL_law_1210 L xs) (trivial)))))))))))))))))))))))))))))))))))))))
