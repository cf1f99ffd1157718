/-! blocks of the methods, as equations (by program: wip/whole/gen_blocks.py) -/
theorem mI312 : pIns PG 312 = lkp tI312 := rfl
theorem li_0 : lkp tI312 0 = some (.new 7, 3) := by decide +kernel
theorem li_3 : lkp tI312 3 = some (.dup, 1) := by decide +kernel
theorem li_4 : lkp tI312 4 = some (.invokespecial 9, 3) := by decide +kernel
theorem li_7 : lkp tI312 7 = some (.astore_n 1, 1) := by decide +kernel
theorem li_8 : lkp tI312 8 = some (.new 10, 3) := by decide +kernel
theorem li_11 : lkp tI312 11 = some (.dup, 1) := by decide +kernel
theorem li_12 : lkp tI312 12 = some (.invokespecial 12, 3) := by decide +kernel
theorem li_15 : lkp tI312 15 = some (.astore_n 2, 1) := by decide +kernel
theorem li_16 : lkp tI312 16 = some (.iconst 0, 1) := by decide +kernel
theorem li_17 : lkp tI312 17 = some (.istore_n 3, 1) := by decide +kernel
theorem li_18 : lkp tI312 18 = some (.iload_n 3, 1) := by decide +kernel
theorem li_19 : lkp tI312 19 = some (.aload_n 0, 1) := by decide +kernel
theorem li_20 : lkp tI312 20 = some (.arraylength, 1) := by decide +kernel
theorem li_21 : lkp tI312 21 = some (.bipush 7, 2) := by decide +kernel
theorem li_23 : lkp tI312 23 = some (.isub, 1) := by decide +kernel
theorem li_24 : lkp tI312 24 = some (.if_icmp .gt 1809, 3) := by decide +kernel
theorem li_27 : lkp tI312 27 = some (.aload_n 0, 1) := by decide +kernel
theorem li_28 : lkp tI312 28 = some (.iload_n 3, 1) := by decide +kernel
theorem li_29 : lkp tI312 29 = some (.iaload, 1) := by decide +kernel
theorem li_30 : lkp tI312 30 = some (.bipush 63, 2) := by decide +kernel
theorem li_32 : lkp tI312 32 = some (.iand, 1) := by decide +kernel
theorem li_33 : lkp tI312 33 = some (.tableswitch 1794 0 33 #[151, 214, 237, 270, 293, 326, 369, 412, 455, 488, 531, 564, 627, 670, 723, 802, 845, 888, 921, 985, 1038, 1087, 1156, 1219, 1288, 1363, 1422, 1455, 1534, 1613, 1692, 1725, 1748, 1771], 151) := by decide +kernel
theorem li_184 : lkp tI312 184 = some (.aload_n 1, 1) := by decide +kernel
theorem li_185 : lkp tI312 185 = some (.aload_n 0, 1) := by decide +kernel
theorem li_186 : lkp tI312 186 = some (.iload_n 3, 1) := by decide +kernel
theorem li_187 : lkp tI312 187 = some (.iconst 1, 1) := by decide +kernel
theorem li_188 : lkp tI312 188 = some (.iadd, 1) := by decide +kernel
theorem li_189 : lkp tI312 189 = some (.iaload, 1) := by decide +kernel
theorem li_190 : lkp tI312 190 = some (.aload_n 0, 1) := by decide +kernel
theorem li_191 : lkp tI312 191 = some (.iload_n 3, 1) := by decide +kernel
theorem li_192 : lkp tI312 192 = some (.iconst 2, 1) := by decide +kernel
theorem li_193 : lkp tI312 193 = some (.iadd, 1) := by decide +kernel
theorem li_194 : lkp tI312 194 = some (.iaload, 1) := by decide +kernel
theorem li_195 : lkp tI312 195 = some (.aload_n 0, 1) := by decide +kernel
theorem li_196 : lkp tI312 196 = some (.iload_n 3, 1) := by decide +kernel
theorem li_197 : lkp tI312 197 = some (.iconst 3, 1) := by decide +kernel
theorem li_198 : lkp tI312 198 = some (.iadd, 1) := by decide +kernel
theorem li_199 : lkp tI312 199 = some (.iaload, 1) := by decide +kernel
theorem li_200 : lkp tI312 200 = some (.aload_n 0, 1) := by decide +kernel
theorem li_201 : lkp tI312 201 = some (.iload_n 3, 1) := by decide +kernel
theorem li_202 : lkp tI312 202 = some (.iconst 4, 1) := by decide +kernel
theorem li_203 : lkp tI312 203 = some (.iadd, 1) := by decide +kernel
theorem li_204 : lkp tI312 204 = some (.iaload, 1) := by decide +kernel
theorem li_205 : lkp tI312 205 = some (.aload_n 0, 1) := by decide +kernel
theorem li_206 : lkp tI312 206 = some (.iload_n 3, 1) := by decide +kernel
theorem li_207 : lkp tI312 207 = some (.iconst 5, 1) := by decide +kernel
theorem li_208 : lkp tI312 208 = some (.iadd, 1) := by decide +kernel
theorem li_209 : lkp tI312 209 = some (.iaload, 1) := by decide +kernel
theorem li_210 : lkp tI312 210 = some (.invokevirtual 13, 3) := by decide +kernel
theorem li_213 : lkp tI312 213 = some (.aload_n 2, 1) := by decide +kernel
theorem li_214 : lkp tI312 214 = some (.aload_n 0, 1) := by decide +kernel
theorem li_215 : lkp tI312 215 = some (.iload_n 3, 1) := by decide +kernel
theorem li_216 : lkp tI312 216 = some (.iconst 1, 1) := by decide +kernel
theorem li_217 : lkp tI312 217 = some (.iadd, 1) := by decide +kernel
theorem li_218 : lkp tI312 218 = some (.iaload, 1) := by decide +kernel
theorem li_219 : lkp tI312 219 = some (.aload_n 0, 1) := by decide +kernel
theorem li_220 : lkp tI312 220 = some (.iload_n 3, 1) := by decide +kernel
theorem li_221 : lkp tI312 221 = some (.iconst 2, 1) := by decide +kernel
theorem li_222 : lkp tI312 222 = some (.iadd, 1) := by decide +kernel
theorem li_223 : lkp tI312 223 = some (.iaload, 1) := by decide +kernel
theorem li_224 : lkp tI312 224 = some (.aload_n 0, 1) := by decide +kernel
theorem li_225 : lkp tI312 225 = some (.iload_n 3, 1) := by decide +kernel
theorem li_226 : lkp tI312 226 = some (.iconst 3, 1) := by decide +kernel
theorem li_227 : lkp tI312 227 = some (.iadd, 1) := by decide +kernel
theorem li_228 : lkp tI312 228 = some (.iaload, 1) := by decide +kernel
theorem li_229 : lkp tI312 229 = some (.aload_n 0, 1) := by decide +kernel
theorem li_230 : lkp tI312 230 = some (.iload_n 3, 1) := by decide +kernel
theorem li_231 : lkp tI312 231 = some (.iconst 4, 1) := by decide +kernel
theorem li_232 : lkp tI312 232 = some (.iadd, 1) := by decide +kernel
theorem li_233 : lkp tI312 233 = some (.iaload, 1) := by decide +kernel
theorem li_234 : lkp tI312 234 = some (.aload_n 0, 1) := by decide +kernel
theorem li_235 : lkp tI312 235 = some (.iload_n 3, 1) := by decide +kernel
theorem li_236 : lkp tI312 236 = some (.iconst 5, 1) := by decide +kernel
theorem li_237 : lkp tI312 237 = some (.iadd, 1) := by decide +kernel
theorem li_238 : lkp tI312 238 = some (.iaload, 1) := by decide +kernel
theorem li_239 : lkp tI312 239 = some (.invokevirtual 17, 3) := by decide +kernel
theorem li_242 : lkp tI312 242 = some (.if_icmp .eq 1585, 3) := by decide +kernel
theorem li_245 : lkp tI312 245 = some (.iconst 0, 1) := by decide +kernel
theorem li_246 : lkp tI312 246 = some (.ireturn, 1) := by decide +kernel
theorem li_247 : lkp tI312 247 = some (.aload_n 1, 1) := by decide +kernel
theorem li_248 : lkp tI312 248 = some (.aload_n 0, 1) := by decide +kernel
theorem li_249 : lkp tI312 249 = some (.iload_n 3, 1) := by decide +kernel
theorem li_250 : lkp tI312 250 = some (.iconst 1, 1) := by decide +kernel
theorem li_251 : lkp tI312 251 = some (.iadd, 1) := by decide +kernel
theorem li_252 : lkp tI312 252 = some (.iaload, 1) := by decide +kernel
theorem li_253 : lkp tI312 253 = some (.invokevirtual 18, 3) := by decide +kernel
theorem li_256 : lkp tI312 256 = some (.aload_n 2, 1) := by decide +kernel
theorem li_257 : lkp tI312 257 = some (.aload_n 0, 1) := by decide +kernel
theorem li_258 : lkp tI312 258 = some (.iload_n 3, 1) := by decide +kernel
theorem li_259 : lkp tI312 259 = some (.iconst 1, 1) := by decide +kernel
theorem li_260 : lkp tI312 260 = some (.iadd, 1) := by decide +kernel
theorem li_261 : lkp tI312 261 = some (.iaload, 1) := by decide +kernel
theorem li_262 : lkp tI312 262 = some (.invokevirtual 22, 3) := by decide +kernel
theorem li_265 : lkp tI312 265 = some (.if_icmp .eq 1562, 3) := by decide +kernel
theorem li_268 : lkp tI312 268 = some (.iconst 0, 1) := by decide +kernel
theorem li_269 : lkp tI312 269 = some (.ireturn, 1) := by decide +kernel
theorem li_270 : lkp tI312 270 = some (.aload_n 1, 1) := by decide +kernel
theorem li_271 : lkp tI312 271 = some (.aload_n 0, 1) := by decide +kernel
theorem li_272 : lkp tI312 272 = some (.iload_n 3, 1) := by decide +kernel
theorem li_273 : lkp tI312 273 = some (.iconst 1, 1) := by decide +kernel
theorem li_274 : lkp tI312 274 = some (.iadd, 1) := by decide +kernel
theorem li_275 : lkp tI312 275 = some (.iaload, 1) := by decide +kernel
theorem li_276 : lkp tI312 276 = some (.aload_n 0, 1) := by decide +kernel
theorem li_277 : lkp tI312 277 = some (.iload_n 3, 1) := by decide +kernel
theorem li_278 : lkp tI312 278 = some (.iconst 2, 1) := by decide +kernel
theorem li_279 : lkp tI312 279 = some (.iadd, 1) := by decide +kernel
theorem li_280 : lkp tI312 280 = some (.iaload, 1) := by decide +kernel
theorem li_281 : lkp tI312 281 = some (.invokevirtual 23, 3) := by decide +kernel
theorem li_284 : lkp tI312 284 = some (.aload_n 2, 1) := by decide +kernel
theorem li_285 : lkp tI312 285 = some (.aload_n 0, 1) := by decide +kernel
theorem li_286 : lkp tI312 286 = some (.iload_n 3, 1) := by decide +kernel
theorem li_287 : lkp tI312 287 = some (.iconst 1, 1) := by decide +kernel
theorem li_288 : lkp tI312 288 = some (.iadd, 1) := by decide +kernel
theorem li_289 : lkp tI312 289 = some (.iaload, 1) := by decide +kernel
theorem li_290 : lkp tI312 290 = some (.aload_n 0, 1) := by decide +kernel
theorem li_291 : lkp tI312 291 = some (.iload_n 3, 1) := by decide +kernel
theorem li_292 : lkp tI312 292 = some (.iconst 2, 1) := by decide +kernel
theorem li_293 : lkp tI312 293 = some (.iadd, 1) := by decide +kernel
theorem li_294 : lkp tI312 294 = some (.iaload, 1) := by decide +kernel
theorem li_295 : lkp tI312 295 = some (.invokevirtual 27, 3) := by decide +kernel
theorem li_298 : lkp tI312 298 = some (.if_icmp .eq 1529, 3) := by decide +kernel
theorem li_301 : lkp tI312 301 = some (.iconst 0, 1) := by decide +kernel
theorem li_302 : lkp tI312 302 = some (.ireturn, 1) := by decide +kernel
theorem li_303 : lkp tI312 303 = some (.aload_n 1, 1) := by decide +kernel
theorem li_304 : lkp tI312 304 = some (.aload_n 0, 1) := by decide +kernel
theorem li_305 : lkp tI312 305 = some (.iload_n 3, 1) := by decide +kernel
theorem li_306 : lkp tI312 306 = some (.iconst 1, 1) := by decide +kernel
theorem li_307 : lkp tI312 307 = some (.iadd, 1) := by decide +kernel
theorem li_308 : lkp tI312 308 = some (.iaload, 1) := by decide +kernel
theorem li_309 : lkp tI312 309 = some (.invokevirtual 28, 3) := by decide +kernel
theorem li_312 : lkp tI312 312 = some (.aload_n 2, 1) := by decide +kernel
theorem li_313 : lkp tI312 313 = some (.aload_n 0, 1) := by decide +kernel
theorem li_314 : lkp tI312 314 = some (.iload_n 3, 1) := by decide +kernel
theorem li_315 : lkp tI312 315 = some (.iconst 1, 1) := by decide +kernel
theorem li_316 : lkp tI312 316 = some (.iadd, 1) := by decide +kernel
theorem li_317 : lkp tI312 317 = some (.iaload, 1) := by decide +kernel
theorem li_318 : lkp tI312 318 = some (.invokevirtual 31, 3) := by decide +kernel
theorem li_321 : lkp tI312 321 = some (.if_icmp .eq 1506, 3) := by decide +kernel
theorem li_324 : lkp tI312 324 = some (.iconst 0, 1) := by decide +kernel
theorem li_325 : lkp tI312 325 = some (.ireturn, 1) := by decide +kernel
theorem li_326 : lkp tI312 326 = some (.aload_n 1, 1) := by decide +kernel
theorem li_327 : lkp tI312 327 = some (.aload_n 0, 1) := by decide +kernel
theorem li_328 : lkp tI312 328 = some (.iload_n 3, 1) := by decide +kernel
theorem li_329 : lkp tI312 329 = some (.iconst 1, 1) := by decide +kernel
theorem li_330 : lkp tI312 330 = some (.iadd, 1) := by decide +kernel
theorem li_331 : lkp tI312 331 = some (.iaload, 1) := by decide +kernel
theorem li_332 : lkp tI312 332 = some (.aload_n 0, 1) := by decide +kernel
theorem li_333 : lkp tI312 333 = some (.iload_n 3, 1) := by decide +kernel
theorem li_334 : lkp tI312 334 = some (.iconst 2, 1) := by decide +kernel
theorem li_335 : lkp tI312 335 = some (.iadd, 1) := by decide +kernel
theorem li_336 : lkp tI312 336 = some (.iaload, 1) := by decide +kernel
theorem li_337 : lkp tI312 337 = some (.invokevirtual 32, 3) := by decide +kernel
theorem li_340 : lkp tI312 340 = some (.aload_n 2, 1) := by decide +kernel
theorem li_341 : lkp tI312 341 = some (.aload_n 0, 1) := by decide +kernel
theorem li_342 : lkp tI312 342 = some (.iload_n 3, 1) := by decide +kernel
theorem li_343 : lkp tI312 343 = some (.iconst 1, 1) := by decide +kernel
theorem li_344 : lkp tI312 344 = some (.iadd, 1) := by decide +kernel
theorem li_345 : lkp tI312 345 = some (.iaload, 1) := by decide +kernel
theorem li_346 : lkp tI312 346 = some (.aload_n 0, 1) := by decide +kernel
theorem li_347 : lkp tI312 347 = some (.iload_n 3, 1) := by decide +kernel
theorem li_348 : lkp tI312 348 = some (.iconst 2, 1) := by decide +kernel
theorem li_349 : lkp tI312 349 = some (.iadd, 1) := by decide +kernel
theorem li_350 : lkp tI312 350 = some (.iaload, 1) := by decide +kernel
theorem li_351 : lkp tI312 351 = some (.invokevirtual 35, 3) := by decide +kernel
theorem li_354 : lkp tI312 354 = some (.if_icmp .eq 1473, 3) := by decide +kernel
theorem li_357 : lkp tI312 357 = some (.iconst 0, 1) := by decide +kernel
theorem li_358 : lkp tI312 358 = some (.ireturn, 1) := by decide +kernel
theorem li_359 : lkp tI312 359 = some (.aload_n 1, 1) := by decide +kernel
theorem li_360 : lkp tI312 360 = some (.aload_n 0, 1) := by decide +kernel
theorem li_361 : lkp tI312 361 = some (.iload_n 3, 1) := by decide +kernel
theorem li_362 : lkp tI312 362 = some (.iconst 1, 1) := by decide +kernel
theorem li_363 : lkp tI312 363 = some (.iadd, 1) := by decide +kernel
theorem li_364 : lkp tI312 364 = some (.iaload, 1) := by decide +kernel
theorem li_365 : lkp tI312 365 = some (.aload_n 0, 1) := by decide +kernel
theorem li_366 : lkp tI312 366 = some (.iload_n 3, 1) := by decide +kernel
theorem li_367 : lkp tI312 367 = some (.iconst 2, 1) := by decide +kernel
theorem li_368 : lkp tI312 368 = some (.iadd, 1) := by decide +kernel
theorem li_369 : lkp tI312 369 = some (.iaload, 1) := by decide +kernel
theorem li_370 : lkp tI312 370 = some (.aload_n 0, 1) := by decide +kernel
theorem li_371 : lkp tI312 371 = some (.iload_n 3, 1) := by decide +kernel
theorem li_372 : lkp tI312 372 = some (.iconst 3, 1) := by decide +kernel
theorem li_373 : lkp tI312 373 = some (.iadd, 1) := by decide +kernel
theorem li_374 : lkp tI312 374 = some (.iaload, 1) := by decide +kernel
theorem li_375 : lkp tI312 375 = some (.invokevirtual 36, 3) := by decide +kernel
theorem li_378 : lkp tI312 378 = some (.aload_n 2, 1) := by decide +kernel
theorem li_379 : lkp tI312 379 = some (.aload_n 0, 1) := by decide +kernel
theorem li_380 : lkp tI312 380 = some (.iload_n 3, 1) := by decide +kernel
theorem li_381 : lkp tI312 381 = some (.iconst 1, 1) := by decide +kernel
theorem li_382 : lkp tI312 382 = some (.iadd, 1) := by decide +kernel
theorem li_383 : lkp tI312 383 = some (.iaload, 1) := by decide +kernel
theorem li_384 : lkp tI312 384 = some (.aload_n 0, 1) := by decide +kernel
theorem li_385 : lkp tI312 385 = some (.iload_n 3, 1) := by decide +kernel
theorem li_386 : lkp tI312 386 = some (.iconst 2, 1) := by decide +kernel
theorem li_387 : lkp tI312 387 = some (.iadd, 1) := by decide +kernel
theorem li_388 : lkp tI312 388 = some (.iaload, 1) := by decide +kernel
theorem li_389 : lkp tI312 389 = some (.aload_n 0, 1) := by decide +kernel
theorem li_390 : lkp tI312 390 = some (.iload_n 3, 1) := by decide +kernel
theorem li_391 : lkp tI312 391 = some (.iconst 3, 1) := by decide +kernel
theorem li_392 : lkp tI312 392 = some (.iadd, 1) := by decide +kernel
theorem li_393 : lkp tI312 393 = some (.iaload, 1) := by decide +kernel
theorem li_394 : lkp tI312 394 = some (.invokevirtual 40, 3) := by decide +kernel
theorem li_397 : lkp tI312 397 = some (.if_icmp .eq 1430, 3) := by decide +kernel
theorem li_400 : lkp tI312 400 = some (.iconst 0, 1) := by decide +kernel
theorem li_401 : lkp tI312 401 = some (.ireturn, 1) := by decide +kernel
theorem li_402 : lkp tI312 402 = some (.aload_n 1, 1) := by decide +kernel
theorem li_403 : lkp tI312 403 = some (.aload_n 0, 1) := by decide +kernel
theorem li_404 : lkp tI312 404 = some (.iload_n 3, 1) := by decide +kernel
theorem li_405 : lkp tI312 405 = some (.iconst 1, 1) := by decide +kernel
theorem li_406 : lkp tI312 406 = some (.iadd, 1) := by decide +kernel
theorem li_407 : lkp tI312 407 = some (.iaload, 1) := by decide +kernel
theorem li_408 : lkp tI312 408 = some (.aload_n 0, 1) := by decide +kernel
theorem li_409 : lkp tI312 409 = some (.iload_n 3, 1) := by decide +kernel
theorem li_410 : lkp tI312 410 = some (.iconst 2, 1) := by decide +kernel
theorem li_411 : lkp tI312 411 = some (.iadd, 1) := by decide +kernel
theorem li_412 : lkp tI312 412 = some (.iaload, 1) := by decide +kernel
theorem li_413 : lkp tI312 413 = some (.aload_n 0, 1) := by decide +kernel
theorem li_414 : lkp tI312 414 = some (.iload_n 3, 1) := by decide +kernel
theorem li_415 : lkp tI312 415 = some (.iconst 3, 1) := by decide +kernel
theorem li_416 : lkp tI312 416 = some (.iadd, 1) := by decide +kernel
theorem li_417 : lkp tI312 417 = some (.iaload, 1) := by decide +kernel
theorem li_418 : lkp tI312 418 = some (.invokevirtual 41, 3) := by decide +kernel
theorem li_421 : lkp tI312 421 = some (.aload_n 2, 1) := by decide +kernel
theorem li_422 : lkp tI312 422 = some (.aload_n 0, 1) := by decide +kernel
theorem li_423 : lkp tI312 423 = some (.iload_n 3, 1) := by decide +kernel
theorem li_424 : lkp tI312 424 = some (.iconst 1, 1) := by decide +kernel
theorem li_425 : lkp tI312 425 = some (.iadd, 1) := by decide +kernel
theorem li_426 : lkp tI312 426 = some (.iaload, 1) := by decide +kernel
theorem li_427 : lkp tI312 427 = some (.aload_n 0, 1) := by decide +kernel
theorem li_428 : lkp tI312 428 = some (.iload_n 3, 1) := by decide +kernel
theorem li_429 : lkp tI312 429 = some (.iconst 2, 1) := by decide +kernel
theorem li_430 : lkp tI312 430 = some (.iadd, 1) := by decide +kernel
theorem li_431 : lkp tI312 431 = some (.iaload, 1) := by decide +kernel
theorem li_432 : lkp tI312 432 = some (.aload_n 0, 1) := by decide +kernel
theorem li_433 : lkp tI312 433 = some (.iload_n 3, 1) := by decide +kernel
theorem li_434 : lkp tI312 434 = some (.iconst 3, 1) := by decide +kernel
theorem li_435 : lkp tI312 435 = some (.iadd, 1) := by decide +kernel
theorem li_436 : lkp tI312 436 = some (.iaload, 1) := by decide +kernel
theorem li_437 : lkp tI312 437 = some (.invokevirtual 44, 3) := by decide +kernel
theorem li_440 : lkp tI312 440 = some (.if_icmp .eq 1387, 3) := by decide +kernel
theorem li_443 : lkp tI312 443 = some (.iconst 0, 1) := by decide +kernel
theorem li_444 : lkp tI312 444 = some (.ireturn, 1) := by decide +kernel
theorem li_445 : lkp tI312 445 = some (.aload_n 1, 1) := by decide +kernel
theorem li_446 : lkp tI312 446 = some (.aload_n 0, 1) := by decide +kernel
theorem li_447 : lkp tI312 447 = some (.iload_n 3, 1) := by decide +kernel
theorem li_448 : lkp tI312 448 = some (.iconst 1, 1) := by decide +kernel
theorem li_449 : lkp tI312 449 = some (.iadd, 1) := by decide +kernel
theorem li_450 : lkp tI312 450 = some (.iaload, 1) := by decide +kernel
theorem li_451 : lkp tI312 451 = some (.aload_n 0, 1) := by decide +kernel
theorem li_452 : lkp tI312 452 = some (.iload_n 3, 1) := by decide +kernel
theorem li_453 : lkp tI312 453 = some (.iconst 2, 1) := by decide +kernel
theorem li_454 : lkp tI312 454 = some (.iadd, 1) := by decide +kernel
theorem li_455 : lkp tI312 455 = some (.iaload, 1) := by decide +kernel
theorem li_456 : lkp tI312 456 = some (.aload_n 0, 1) := by decide +kernel
theorem li_457 : lkp tI312 457 = some (.iload_n 3, 1) := by decide +kernel
theorem li_458 : lkp tI312 458 = some (.iconst 3, 1) := by decide +kernel
theorem li_459 : lkp tI312 459 = some (.iadd, 1) := by decide +kernel
theorem li_460 : lkp tI312 460 = some (.iaload, 1) := by decide +kernel
theorem li_461 : lkp tI312 461 = some (.invokevirtual 45, 3) := by decide +kernel
theorem li_464 : lkp tI312 464 = some (.aload_n 2, 1) := by decide +kernel
theorem li_465 : lkp tI312 465 = some (.aload_n 0, 1) := by decide +kernel
theorem li_466 : lkp tI312 466 = some (.iload_n 3, 1) := by decide +kernel
theorem li_467 : lkp tI312 467 = some (.iconst 1, 1) := by decide +kernel
theorem li_468 : lkp tI312 468 = some (.iadd, 1) := by decide +kernel
theorem li_469 : lkp tI312 469 = some (.iaload, 1) := by decide +kernel
theorem li_470 : lkp tI312 470 = some (.aload_n 0, 1) := by decide +kernel
theorem li_471 : lkp tI312 471 = some (.iload_n 3, 1) := by decide +kernel
theorem li_472 : lkp tI312 472 = some (.iconst 2, 1) := by decide +kernel
theorem li_473 : lkp tI312 473 = some (.iadd, 1) := by decide +kernel
theorem li_474 : lkp tI312 474 = some (.iaload, 1) := by decide +kernel
theorem li_475 : lkp tI312 475 = some (.aload_n 0, 1) := by decide +kernel
theorem li_476 : lkp tI312 476 = some (.iload_n 3, 1) := by decide +kernel
theorem li_477 : lkp tI312 477 = some (.iconst 3, 1) := by decide +kernel
theorem li_478 : lkp tI312 478 = some (.iadd, 1) := by decide +kernel
theorem li_479 : lkp tI312 479 = some (.iaload, 1) := by decide +kernel
theorem li_480 : lkp tI312 480 = some (.invokevirtual 48, 3) := by decide +kernel
theorem li_483 : lkp tI312 483 = some (.if_icmp .eq 1344, 3) := by decide +kernel
theorem li_486 : lkp tI312 486 = some (.iconst 0, 1) := by decide +kernel
theorem li_487 : lkp tI312 487 = some (.ireturn, 1) := by decide +kernel
theorem li_488 : lkp tI312 488 = some (.aload_n 1, 1) := by decide +kernel
theorem li_489 : lkp tI312 489 = some (.aload_n 0, 1) := by decide +kernel
theorem li_490 : lkp tI312 490 = some (.iload_n 3, 1) := by decide +kernel
theorem li_491 : lkp tI312 491 = some (.iconst 1, 1) := by decide +kernel
theorem li_492 : lkp tI312 492 = some (.iadd, 1) := by decide +kernel
theorem li_493 : lkp tI312 493 = some (.iaload, 1) := by decide +kernel
theorem li_494 : lkp tI312 494 = some (.aload_n 0, 1) := by decide +kernel
theorem li_495 : lkp tI312 495 = some (.iload_n 3, 1) := by decide +kernel
theorem li_496 : lkp tI312 496 = some (.iconst 2, 1) := by decide +kernel
theorem li_497 : lkp tI312 497 = some (.iadd, 1) := by decide +kernel
theorem li_498 : lkp tI312 498 = some (.iaload, 1) := by decide +kernel
theorem li_499 : lkp tI312 499 = some (.invokevirtual 49, 3) := by decide +kernel
theorem li_502 : lkp tI312 502 = some (.aload_n 2, 1) := by decide +kernel
theorem li_503 : lkp tI312 503 = some (.aload_n 0, 1) := by decide +kernel
theorem li_504 : lkp tI312 504 = some (.iload_n 3, 1) := by decide +kernel
theorem li_505 : lkp tI312 505 = some (.iconst 1, 1) := by decide +kernel
theorem li_506 : lkp tI312 506 = some (.iadd, 1) := by decide +kernel
theorem li_507 : lkp tI312 507 = some (.iaload, 1) := by decide +kernel
theorem li_508 : lkp tI312 508 = some (.aload_n 0, 1) := by decide +kernel
theorem li_509 : lkp tI312 509 = some (.iload_n 3, 1) := by decide +kernel
theorem li_510 : lkp tI312 510 = some (.iconst 2, 1) := by decide +kernel
theorem li_511 : lkp tI312 511 = some (.iadd, 1) := by decide +kernel
theorem li_512 : lkp tI312 512 = some (.iaload, 1) := by decide +kernel
theorem li_513 : lkp tI312 513 = some (.invokevirtual 52, 3) := by decide +kernel
theorem li_516 : lkp tI312 516 = some (.if_icmp .eq 1311, 3) := by decide +kernel
theorem li_519 : lkp tI312 519 = some (.iconst 0, 1) := by decide +kernel
theorem li_520 : lkp tI312 520 = some (.ireturn, 1) := by decide +kernel
theorem li_521 : lkp tI312 521 = some (.aload_n 1, 1) := by decide +kernel
theorem li_522 : lkp tI312 522 = some (.aload_n 0, 1) := by decide +kernel
theorem li_523 : lkp tI312 523 = some (.iload_n 3, 1) := by decide +kernel
theorem li_524 : lkp tI312 524 = some (.iconst 1, 1) := by decide +kernel
theorem li_525 : lkp tI312 525 = some (.iadd, 1) := by decide +kernel
theorem li_526 : lkp tI312 526 = some (.iaload, 1) := by decide +kernel
theorem li_527 : lkp tI312 527 = some (.aload_n 0, 1) := by decide +kernel
theorem li_528 : lkp tI312 528 = some (.iload_n 3, 1) := by decide +kernel
theorem li_529 : lkp tI312 529 = some (.iconst 2, 1) := by decide +kernel
theorem li_530 : lkp tI312 530 = some (.iadd, 1) := by decide +kernel
theorem li_531 : lkp tI312 531 = some (.iaload, 1) := by decide +kernel
theorem li_532 : lkp tI312 532 = some (.aload_n 0, 1) := by decide +kernel
theorem li_533 : lkp tI312 533 = some (.iload_n 3, 1) := by decide +kernel
theorem li_534 : lkp tI312 534 = some (.iconst 3, 1) := by decide +kernel
theorem li_535 : lkp tI312 535 = some (.iadd, 1) := by decide +kernel
theorem li_536 : lkp tI312 536 = some (.iaload, 1) := by decide +kernel
theorem li_537 : lkp tI312 537 = some (.invokevirtual 53, 3) := by decide +kernel
theorem li_540 : lkp tI312 540 = some (.aload_n 2, 1) := by decide +kernel
theorem li_541 : lkp tI312 541 = some (.aload_n 0, 1) := by decide +kernel
theorem li_542 : lkp tI312 542 = some (.iload_n 3, 1) := by decide +kernel
theorem li_543 : lkp tI312 543 = some (.iconst 1, 1) := by decide +kernel
theorem li_544 : lkp tI312 544 = some (.iadd, 1) := by decide +kernel
theorem li_545 : lkp tI312 545 = some (.iaload, 1) := by decide +kernel
theorem li_546 : lkp tI312 546 = some (.aload_n 0, 1) := by decide +kernel
theorem li_547 : lkp tI312 547 = some (.iload_n 3, 1) := by decide +kernel
theorem li_548 : lkp tI312 548 = some (.iconst 2, 1) := by decide +kernel
theorem li_549 : lkp tI312 549 = some (.iadd, 1) := by decide +kernel
theorem li_550 : lkp tI312 550 = some (.iaload, 1) := by decide +kernel
theorem li_551 : lkp tI312 551 = some (.aload_n 0, 1) := by decide +kernel
theorem li_552 : lkp tI312 552 = some (.iload_n 3, 1) := by decide +kernel
theorem li_553 : lkp tI312 553 = some (.iconst 3, 1) := by decide +kernel
theorem li_554 : lkp tI312 554 = some (.iadd, 1) := by decide +kernel
theorem li_555 : lkp tI312 555 = some (.iaload, 1) := by decide +kernel
theorem li_556 : lkp tI312 556 = some (.invokevirtual 56, 3) := by decide +kernel
theorem li_559 : lkp tI312 559 = some (.if_icmp .eq 1268, 3) := by decide +kernel
theorem li_562 : lkp tI312 562 = some (.iconst 0, 1) := by decide +kernel
theorem li_563 : lkp tI312 563 = some (.ireturn, 1) := by decide +kernel
theorem li_564 : lkp tI312 564 = some (.aload_n 1, 1) := by decide +kernel
theorem li_565 : lkp tI312 565 = some (.aload_n 0, 1) := by decide +kernel
theorem li_566 : lkp tI312 566 = some (.iload_n 3, 1) := by decide +kernel
theorem li_567 : lkp tI312 567 = some (.iconst 1, 1) := by decide +kernel
theorem li_568 : lkp tI312 568 = some (.iadd, 1) := by decide +kernel
theorem li_569 : lkp tI312 569 = some (.iaload, 1) := by decide +kernel
theorem li_570 : lkp tI312 570 = some (.aload_n 0, 1) := by decide +kernel
theorem li_571 : lkp tI312 571 = some (.iload_n 3, 1) := by decide +kernel
theorem li_572 : lkp tI312 572 = some (.iconst 2, 1) := by decide +kernel
theorem li_573 : lkp tI312 573 = some (.iadd, 1) := by decide +kernel
theorem li_574 : lkp tI312 574 = some (.iaload, 1) := by decide +kernel
theorem li_575 : lkp tI312 575 = some (.invokevirtual 57, 3) := by decide +kernel
theorem li_578 : lkp tI312 578 = some (.aload_n 2, 1) := by decide +kernel
theorem li_579 : lkp tI312 579 = some (.aload_n 0, 1) := by decide +kernel
theorem li_580 : lkp tI312 580 = some (.iload_n 3, 1) := by decide +kernel
theorem li_581 : lkp tI312 581 = some (.iconst 1, 1) := by decide +kernel
theorem li_582 : lkp tI312 582 = some (.iadd, 1) := by decide +kernel
theorem li_583 : lkp tI312 583 = some (.iaload, 1) := by decide +kernel
theorem li_584 : lkp tI312 584 = some (.aload_n 0, 1) := by decide +kernel
theorem li_585 : lkp tI312 585 = some (.iload_n 3, 1) := by decide +kernel
theorem li_586 : lkp tI312 586 = some (.iconst 2, 1) := by decide +kernel
theorem li_587 : lkp tI312 587 = some (.iadd, 1) := by decide +kernel
theorem li_588 : lkp tI312 588 = some (.iaload, 1) := by decide +kernel
theorem li_589 : lkp tI312 589 = some (.invokevirtual 60, 3) := by decide +kernel
theorem li_592 : lkp tI312 592 = some (.if_icmp .eq 1235, 3) := by decide +kernel
theorem li_595 : lkp tI312 595 = some (.iconst 0, 1) := by decide +kernel
theorem li_596 : lkp tI312 596 = some (.ireturn, 1) := by decide +kernel
theorem li_597 : lkp tI312 597 = some (.aload_n 1, 1) := by decide +kernel
theorem li_598 : lkp tI312 598 = some (.aload_n 0, 1) := by decide +kernel
theorem li_599 : lkp tI312 599 = some (.iload_n 3, 1) := by decide +kernel
theorem li_600 : lkp tI312 600 = some (.iconst 1, 1) := by decide +kernel
theorem li_601 : lkp tI312 601 = some (.iadd, 1) := by decide +kernel
theorem li_602 : lkp tI312 602 = some (.iaload, 1) := by decide +kernel
theorem li_603 : lkp tI312 603 = some (.aload_n 0, 1) := by decide +kernel
theorem li_604 : lkp tI312 604 = some (.iload_n 3, 1) := by decide +kernel
theorem li_605 : lkp tI312 605 = some (.iconst 2, 1) := by decide +kernel
theorem li_606 : lkp tI312 606 = some (.iadd, 1) := by decide +kernel
theorem li_607 : lkp tI312 607 = some (.iaload, 1) := by decide +kernel
theorem li_608 : lkp tI312 608 = some (.aload_n 0, 1) := by decide +kernel
theorem li_609 : lkp tI312 609 = some (.iload_n 3, 1) := by decide +kernel
theorem li_610 : lkp tI312 610 = some (.iconst 3, 1) := by decide +kernel
theorem li_611 : lkp tI312 611 = some (.iadd, 1) := by decide +kernel
theorem li_612 : lkp tI312 612 = some (.iaload, 1) := by decide +kernel
theorem li_613 : lkp tI312 613 = some (.aload_n 0, 1) := by decide +kernel
theorem li_614 : lkp tI312 614 = some (.iload_n 3, 1) := by decide +kernel
theorem li_615 : lkp tI312 615 = some (.iconst 4, 1) := by decide +kernel
theorem li_616 : lkp tI312 616 = some (.iadd, 1) := by decide +kernel
theorem li_617 : lkp tI312 617 = some (.iaload, 1) := by decide +kernel
theorem li_618 : lkp tI312 618 = some (.aload_n 0, 1) := by decide +kernel
theorem li_619 : lkp tI312 619 = some (.iload_n 3, 1) := by decide +kernel
theorem li_620 : lkp tI312 620 = some (.iconst 5, 1) := by decide +kernel
theorem li_621 : lkp tI312 621 = some (.iadd, 1) := by decide +kernel
theorem li_622 : lkp tI312 622 = some (.iaload, 1) := by decide +kernel
theorem li_623 : lkp tI312 623 = some (.invokevirtual 61, 3) := by decide +kernel
theorem li_626 : lkp tI312 626 = some (.aload_n 2, 1) := by decide +kernel
theorem li_627 : lkp tI312 627 = some (.aload_n 0, 1) := by decide +kernel
theorem li_628 : lkp tI312 628 = some (.iload_n 3, 1) := by decide +kernel
theorem li_629 : lkp tI312 629 = some (.iconst 1, 1) := by decide +kernel
theorem li_630 : lkp tI312 630 = some (.iadd, 1) := by decide +kernel
theorem li_631 : lkp tI312 631 = some (.iaload, 1) := by decide +kernel
theorem li_632 : lkp tI312 632 = some (.aload_n 0, 1) := by decide +kernel
theorem li_633 : lkp tI312 633 = some (.iload_n 3, 1) := by decide +kernel
theorem li_634 : lkp tI312 634 = some (.iconst 2, 1) := by decide +kernel
theorem li_635 : lkp tI312 635 = some (.iadd, 1) := by decide +kernel
theorem li_636 : lkp tI312 636 = some (.iaload, 1) := by decide +kernel
theorem li_637 : lkp tI312 637 = some (.aload_n 0, 1) := by decide +kernel
theorem li_638 : lkp tI312 638 = some (.iload_n 3, 1) := by decide +kernel
theorem li_639 : lkp tI312 639 = some (.iconst 3, 1) := by decide +kernel
theorem li_640 : lkp tI312 640 = some (.iadd, 1) := by decide +kernel
theorem li_641 : lkp tI312 641 = some (.iaload, 1) := by decide +kernel
theorem li_642 : lkp tI312 642 = some (.aload_n 0, 1) := by decide +kernel
theorem li_643 : lkp tI312 643 = some (.iload_n 3, 1) := by decide +kernel
theorem li_644 : lkp tI312 644 = some (.iconst 4, 1) := by decide +kernel
theorem li_645 : lkp tI312 645 = some (.iadd, 1) := by decide +kernel
theorem li_646 : lkp tI312 646 = some (.iaload, 1) := by decide +kernel
theorem li_647 : lkp tI312 647 = some (.aload_n 0, 1) := by decide +kernel
theorem li_648 : lkp tI312 648 = some (.iload_n 3, 1) := by decide +kernel
theorem li_649 : lkp tI312 649 = some (.iconst 5, 1) := by decide +kernel
theorem li_650 : lkp tI312 650 = some (.iadd, 1) := by decide +kernel
theorem li_651 : lkp tI312 651 = some (.iaload, 1) := by decide +kernel
theorem li_652 : lkp tI312 652 = some (.invokevirtual 64, 3) := by decide +kernel
theorem li_655 : lkp tI312 655 = some (.if_icmp .eq 1172, 3) := by decide +kernel
theorem li_658 : lkp tI312 658 = some (.iconst 0, 1) := by decide +kernel
theorem li_659 : lkp tI312 659 = some (.ireturn, 1) := by decide +kernel
theorem li_660 : lkp tI312 660 = some (.aload_n 1, 1) := by decide +kernel
theorem li_661 : lkp tI312 661 = some (.aload_n 0, 1) := by decide +kernel
theorem li_662 : lkp tI312 662 = some (.iload_n 3, 1) := by decide +kernel
theorem li_663 : lkp tI312 663 = some (.iconst 1, 1) := by decide +kernel
theorem li_664 : lkp tI312 664 = some (.iadd, 1) := by decide +kernel
theorem li_665 : lkp tI312 665 = some (.iaload, 1) := by decide +kernel
theorem li_666 : lkp tI312 666 = some (.aload_n 0, 1) := by decide +kernel
theorem li_667 : lkp tI312 667 = some (.iload_n 3, 1) := by decide +kernel
theorem li_668 : lkp tI312 668 = some (.iconst 2, 1) := by decide +kernel
theorem li_669 : lkp tI312 669 = some (.iadd, 1) := by decide +kernel
theorem li_670 : lkp tI312 670 = some (.iaload, 1) := by decide +kernel
theorem li_671 : lkp tI312 671 = some (.aload_n 0, 1) := by decide +kernel
theorem li_672 : lkp tI312 672 = some (.iload_n 3, 1) := by decide +kernel
theorem li_673 : lkp tI312 673 = some (.iconst 3, 1) := by decide +kernel
theorem li_674 : lkp tI312 674 = some (.iadd, 1) := by decide +kernel
theorem li_675 : lkp tI312 675 = some (.iaload, 1) := by decide +kernel
theorem li_676 : lkp tI312 676 = some (.invokevirtual 65, 3) := by decide +kernel
theorem li_679 : lkp tI312 679 = some (.aload_n 2, 1) := by decide +kernel
theorem li_680 : lkp tI312 680 = some (.aload_n 0, 1) := by decide +kernel
theorem li_681 : lkp tI312 681 = some (.iload_n 3, 1) := by decide +kernel
theorem li_682 : lkp tI312 682 = some (.iconst 1, 1) := by decide +kernel
theorem li_683 : lkp tI312 683 = some (.iadd, 1) := by decide +kernel
theorem li_684 : lkp tI312 684 = some (.iaload, 1) := by decide +kernel
theorem li_685 : lkp tI312 685 = some (.aload_n 0, 1) := by decide +kernel
theorem li_686 : lkp tI312 686 = some (.iload_n 3, 1) := by decide +kernel
theorem li_687 : lkp tI312 687 = some (.iconst 2, 1) := by decide +kernel
theorem li_688 : lkp tI312 688 = some (.iadd, 1) := by decide +kernel
theorem li_689 : lkp tI312 689 = some (.iaload, 1) := by decide +kernel
theorem li_690 : lkp tI312 690 = some (.aload_n 0, 1) := by decide +kernel
theorem li_691 : lkp tI312 691 = some (.iload_n 3, 1) := by decide +kernel
theorem li_692 : lkp tI312 692 = some (.iconst 3, 1) := by decide +kernel
theorem li_693 : lkp tI312 693 = some (.iadd, 1) := by decide +kernel
theorem li_694 : lkp tI312 694 = some (.iaload, 1) := by decide +kernel
theorem li_695 : lkp tI312 695 = some (.invokevirtual 68, 3) := by decide +kernel
theorem li_698 : lkp tI312 698 = some (.if_icmp .eq 1129, 3) := by decide +kernel
theorem li_701 : lkp tI312 701 = some (.iconst 0, 1) := by decide +kernel
theorem li_702 : lkp tI312 702 = some (.ireturn, 1) := by decide +kernel
theorem li_703 : lkp tI312 703 = some (.aload_n 1, 1) := by decide +kernel
theorem li_704 : lkp tI312 704 = some (.aload_n 0, 1) := by decide +kernel
theorem li_705 : lkp tI312 705 = some (.iload_n 3, 1) := by decide +kernel
theorem li_706 : lkp tI312 706 = some (.iconst 1, 1) := by decide +kernel
theorem li_707 : lkp tI312 707 = some (.iadd, 1) := by decide +kernel
theorem li_708 : lkp tI312 708 = some (.iaload, 1) := by decide +kernel
theorem li_709 : lkp tI312 709 = some (.aload_n 0, 1) := by decide +kernel
theorem li_710 : lkp tI312 710 = some (.iload_n 3, 1) := by decide +kernel
theorem li_711 : lkp tI312 711 = some (.iconst 2, 1) := by decide +kernel
theorem li_712 : lkp tI312 712 = some (.iadd, 1) := by decide +kernel
theorem li_713 : lkp tI312 713 = some (.iaload, 1) := by decide +kernel
theorem li_714 : lkp tI312 714 = some (.aload_n 0, 1) := by decide +kernel
theorem li_715 : lkp tI312 715 = some (.iload_n 3, 1) := by decide +kernel
theorem li_716 : lkp tI312 716 = some (.iconst 3, 1) := by decide +kernel
theorem li_717 : lkp tI312 717 = some (.iadd, 1) := by decide +kernel
theorem li_718 : lkp tI312 718 = some (.iaload, 1) := by decide +kernel
theorem li_719 : lkp tI312 719 = some (.aload_n 0, 1) := by decide +kernel
theorem li_720 : lkp tI312 720 = some (.iload_n 3, 1) := by decide +kernel
theorem li_721 : lkp tI312 721 = some (.iconst 4, 1) := by decide +kernel
theorem li_722 : lkp tI312 722 = some (.iadd, 1) := by decide +kernel
theorem li_723 : lkp tI312 723 = some (.iaload, 1) := by decide +kernel
theorem li_724 : lkp tI312 724 = some (.invokevirtual 69, 3) := by decide +kernel
theorem li_727 : lkp tI312 727 = some (.aload_n 2, 1) := by decide +kernel
theorem li_728 : lkp tI312 728 = some (.aload_n 0, 1) := by decide +kernel
theorem li_729 : lkp tI312 729 = some (.iload_n 3, 1) := by decide +kernel
theorem li_730 : lkp tI312 730 = some (.iconst 1, 1) := by decide +kernel
theorem li_731 : lkp tI312 731 = some (.iadd, 1) := by decide +kernel
theorem li_732 : lkp tI312 732 = some (.iaload, 1) := by decide +kernel
theorem li_733 : lkp tI312 733 = some (.aload_n 0, 1) := by decide +kernel
theorem li_734 : lkp tI312 734 = some (.iload_n 3, 1) := by decide +kernel
theorem li_735 : lkp tI312 735 = some (.iconst 2, 1) := by decide +kernel
theorem li_736 : lkp tI312 736 = some (.iadd, 1) := by decide +kernel
theorem li_737 : lkp tI312 737 = some (.iaload, 1) := by decide +kernel
theorem li_738 : lkp tI312 738 = some (.aload_n 0, 1) := by decide +kernel
theorem li_739 : lkp tI312 739 = some (.iload_n 3, 1) := by decide +kernel
theorem li_740 : lkp tI312 740 = some (.iconst 3, 1) := by decide +kernel
theorem li_741 : lkp tI312 741 = some (.iadd, 1) := by decide +kernel
theorem li_742 : lkp tI312 742 = some (.iaload, 1) := by decide +kernel
theorem li_743 : lkp tI312 743 = some (.aload_n 0, 1) := by decide +kernel
theorem li_744 : lkp tI312 744 = some (.iload_n 3, 1) := by decide +kernel
theorem li_745 : lkp tI312 745 = some (.iconst 4, 1) := by decide +kernel
theorem li_746 : lkp tI312 746 = some (.iadd, 1) := by decide +kernel
theorem li_747 : lkp tI312 747 = some (.iaload, 1) := by decide +kernel
theorem li_748 : lkp tI312 748 = some (.invokevirtual 73, 3) := by decide +kernel
theorem li_751 : lkp tI312 751 = some (.if_icmp .eq 1076, 3) := by decide +kernel
theorem li_754 : lkp tI312 754 = some (.iconst 0, 1) := by decide +kernel
theorem li_755 : lkp tI312 755 = some (.ireturn, 1) := by decide +kernel
theorem li_756 : lkp tI312 756 = some (.aload_n 1, 1) := by decide +kernel
theorem li_757 : lkp tI312 757 = some (.aload_n 0, 1) := by decide +kernel
theorem li_758 : lkp tI312 758 = some (.iload_n 3, 1) := by decide +kernel
theorem li_759 : lkp tI312 759 = some (.iconst 1, 1) := by decide +kernel
theorem li_760 : lkp tI312 760 = some (.iadd, 1) := by decide +kernel
theorem li_761 : lkp tI312 761 = some (.iaload, 1) := by decide +kernel
theorem li_762 : lkp tI312 762 = some (.aload_n 0, 1) := by decide +kernel
theorem li_763 : lkp tI312 763 = some (.iload_n 3, 1) := by decide +kernel
theorem li_764 : lkp tI312 764 = some (.iconst 2, 1) := by decide +kernel
theorem li_765 : lkp tI312 765 = some (.iadd, 1) := by decide +kernel
theorem li_766 : lkp tI312 766 = some (.iaload, 1) := by decide +kernel
theorem li_767 : lkp tI312 767 = some (.aload_n 0, 1) := by decide +kernel
theorem li_768 : lkp tI312 768 = some (.iload_n 3, 1) := by decide +kernel
theorem li_769 : lkp tI312 769 = some (.iconst 3, 1) := by decide +kernel
theorem li_770 : lkp tI312 770 = some (.iadd, 1) := by decide +kernel
theorem li_771 : lkp tI312 771 = some (.iaload, 1) := by decide +kernel
theorem li_772 : lkp tI312 772 = some (.aload_n 0, 1) := by decide +kernel
theorem li_773 : lkp tI312 773 = some (.iload_n 3, 1) := by decide +kernel
theorem li_774 : lkp tI312 774 = some (.iconst 4, 1) := by decide +kernel
theorem li_775 : lkp tI312 775 = some (.iadd, 1) := by decide +kernel
theorem li_776 : lkp tI312 776 = some (.iaload, 1) := by decide +kernel
theorem li_777 : lkp tI312 777 = some (.aload_n 0, 1) := by decide +kernel
theorem li_778 : lkp tI312 778 = some (.iload_n 3, 1) := by decide +kernel
theorem li_779 : lkp tI312 779 = some (.iconst 5, 1) := by decide +kernel
theorem li_780 : lkp tI312 780 = some (.iadd, 1) := by decide +kernel
theorem li_781 : lkp tI312 781 = some (.iaload, 1) := by decide +kernel
theorem li_782 : lkp tI312 782 = some (.ifCond .eq 7, 3) := by decide +kernel
theorem li_785 : lkp tI312 785 = some (.iconst 1, 1) := by decide +kernel
theorem li_786 : lkp tI312 786 = some (.goto 4, 3) := by decide +kernel
theorem li_789 : lkp tI312 789 = some (.iconst 0, 1) := by decide +kernel
theorem li_790 : lkp tI312 790 = some (.invokevirtual 74, 3) := by decide +kernel
theorem li_793 : lkp tI312 793 = some (.aload_n 2, 1) := by decide +kernel
theorem li_794 : lkp tI312 794 = some (.aload_n 0, 1) := by decide +kernel
theorem li_795 : lkp tI312 795 = some (.iload_n 3, 1) := by decide +kernel
theorem li_796 : lkp tI312 796 = some (.iconst 1, 1) := by decide +kernel
theorem li_797 : lkp tI312 797 = some (.iadd, 1) := by decide +kernel
theorem li_798 : lkp tI312 798 = some (.iaload, 1) := by decide +kernel
theorem li_799 : lkp tI312 799 = some (.aload_n 0, 1) := by decide +kernel
theorem li_800 : lkp tI312 800 = some (.iload_n 3, 1) := by decide +kernel
theorem li_801 : lkp tI312 801 = some (.iconst 2, 1) := by decide +kernel
theorem li_802 : lkp tI312 802 = some (.iadd, 1) := by decide +kernel
theorem li_803 : lkp tI312 803 = some (.iaload, 1) := by decide +kernel
theorem li_804 : lkp tI312 804 = some (.aload_n 0, 1) := by decide +kernel
theorem li_805 : lkp tI312 805 = some (.iload_n 3, 1) := by decide +kernel
theorem li_806 : lkp tI312 806 = some (.iconst 3, 1) := by decide +kernel
theorem li_807 : lkp tI312 807 = some (.iadd, 1) := by decide +kernel
theorem li_808 : lkp tI312 808 = some (.iaload, 1) := by decide +kernel
theorem li_809 : lkp tI312 809 = some (.aload_n 0, 1) := by decide +kernel
theorem li_810 : lkp tI312 810 = some (.iload_n 3, 1) := by decide +kernel
theorem li_811 : lkp tI312 811 = some (.iconst 4, 1) := by decide +kernel
theorem li_812 : lkp tI312 812 = some (.iadd, 1) := by decide +kernel
theorem li_813 : lkp tI312 813 = some (.iaload, 1) := by decide +kernel
theorem li_814 : lkp tI312 814 = some (.aload_n 0, 1) := by decide +kernel
theorem li_815 : lkp tI312 815 = some (.iload_n 3, 1) := by decide +kernel
theorem li_816 : lkp tI312 816 = some (.iconst 5, 1) := by decide +kernel
theorem li_817 : lkp tI312 817 = some (.iadd, 1) := by decide +kernel
theorem li_818 : lkp tI312 818 = some (.iaload, 1) := by decide +kernel
theorem li_819 : lkp tI312 819 = some (.ifCond .eq 7, 3) := by decide +kernel
theorem li_822 : lkp tI312 822 = some (.iconst 1, 1) := by decide +kernel
theorem li_823 : lkp tI312 823 = some (.goto 4, 3) := by decide +kernel
theorem li_826 : lkp tI312 826 = some (.iconst 0, 1) := by decide +kernel
theorem li_827 : lkp tI312 827 = some (.invokevirtual 78, 3) := by decide +kernel
theorem li_830 : lkp tI312 830 = some (.if_icmp .eq 997, 3) := by decide +kernel
theorem li_833 : lkp tI312 833 = some (.iconst 0, 1) := by decide +kernel
theorem li_834 : lkp tI312 834 = some (.ireturn, 1) := by decide +kernel
theorem li_835 : lkp tI312 835 = some (.aload_n 1, 1) := by decide +kernel
theorem li_836 : lkp tI312 836 = some (.aload_n 0, 1) := by decide +kernel
theorem li_837 : lkp tI312 837 = some (.iload_n 3, 1) := by decide +kernel
theorem li_838 : lkp tI312 838 = some (.iconst 1, 1) := by decide +kernel
theorem li_839 : lkp tI312 839 = some (.iadd, 1) := by decide +kernel
theorem li_840 : lkp tI312 840 = some (.iaload, 1) := by decide +kernel
theorem li_841 : lkp tI312 841 = some (.aload_n 0, 1) := by decide +kernel
theorem li_842 : lkp tI312 842 = some (.iload_n 3, 1) := by decide +kernel
theorem li_843 : lkp tI312 843 = some (.iconst 2, 1) := by decide +kernel
theorem li_844 : lkp tI312 844 = some (.iadd, 1) := by decide +kernel
theorem li_845 : lkp tI312 845 = some (.iaload, 1) := by decide +kernel
theorem li_846 : lkp tI312 846 = some (.aload_n 0, 1) := by decide +kernel
theorem li_847 : lkp tI312 847 = some (.iload_n 3, 1) := by decide +kernel
theorem li_848 : lkp tI312 848 = some (.iconst 3, 1) := by decide +kernel
theorem li_849 : lkp tI312 849 = some (.iadd, 1) := by decide +kernel
theorem li_850 : lkp tI312 850 = some (.iaload, 1) := by decide +kernel
theorem li_851 : lkp tI312 851 = some (.invokevirtual 79, 3) := by decide +kernel
theorem li_854 : lkp tI312 854 = some (.aload_n 2, 1) := by decide +kernel
theorem li_855 : lkp tI312 855 = some (.aload_n 0, 1) := by decide +kernel
theorem li_856 : lkp tI312 856 = some (.iload_n 3, 1) := by decide +kernel
theorem li_857 : lkp tI312 857 = some (.iconst 1, 1) := by decide +kernel
theorem li_858 : lkp tI312 858 = some (.iadd, 1) := by decide +kernel
theorem li_859 : lkp tI312 859 = some (.iaload, 1) := by decide +kernel
theorem li_860 : lkp tI312 860 = some (.aload_n 0, 1) := by decide +kernel
theorem li_861 : lkp tI312 861 = some (.iload_n 3, 1) := by decide +kernel
theorem li_862 : lkp tI312 862 = some (.iconst 2, 1) := by decide +kernel
theorem li_863 : lkp tI312 863 = some (.iadd, 1) := by decide +kernel
theorem li_864 : lkp tI312 864 = some (.iaload, 1) := by decide +kernel
theorem li_865 : lkp tI312 865 = some (.aload_n 0, 1) := by decide +kernel
theorem li_866 : lkp tI312 866 = some (.iload_n 3, 1) := by decide +kernel
theorem li_867 : lkp tI312 867 = some (.iconst 3, 1) := by decide +kernel
theorem li_868 : lkp tI312 868 = some (.iadd, 1) := by decide +kernel
theorem li_869 : lkp tI312 869 = some (.iaload, 1) := by decide +kernel
theorem li_870 : lkp tI312 870 = some (.invokevirtual 82, 3) := by decide +kernel
theorem li_873 : lkp tI312 873 = some (.if_icmp .eq 954, 3) := by decide +kernel
theorem li_876 : lkp tI312 876 = some (.iconst 0, 1) := by decide +kernel
theorem li_877 : lkp tI312 877 = some (.ireturn, 1) := by decide +kernel
theorem li_878 : lkp tI312 878 = some (.aload_n 1, 1) := by decide +kernel
theorem li_879 : lkp tI312 879 = some (.aload_n 0, 1) := by decide +kernel
theorem li_880 : lkp tI312 880 = some (.iload_n 3, 1) := by decide +kernel
theorem li_881 : lkp tI312 881 = some (.iconst 1, 1) := by decide +kernel
theorem li_882 : lkp tI312 882 = some (.iadd, 1) := by decide +kernel
theorem li_883 : lkp tI312 883 = some (.iaload, 1) := by decide +kernel
theorem li_884 : lkp tI312 884 = some (.aload_n 0, 1) := by decide +kernel
theorem li_885 : lkp tI312 885 = some (.iload_n 3, 1) := by decide +kernel
theorem li_886 : lkp tI312 886 = some (.iconst 2, 1) := by decide +kernel
theorem li_887 : lkp tI312 887 = some (.iadd, 1) := by decide +kernel
theorem li_888 : lkp tI312 888 = some (.iaload, 1) := by decide +kernel
theorem li_889 : lkp tI312 889 = some (.aload_n 0, 1) := by decide +kernel
theorem li_890 : lkp tI312 890 = some (.iload_n 3, 1) := by decide +kernel
theorem li_891 : lkp tI312 891 = some (.iconst 3, 1) := by decide +kernel
theorem li_892 : lkp tI312 892 = some (.iadd, 1) := by decide +kernel
theorem li_893 : lkp tI312 893 = some (.iaload, 1) := by decide +kernel
theorem li_894 : lkp tI312 894 = some (.invokevirtual 83, 3) := by decide +kernel
theorem li_897 : lkp tI312 897 = some (.aload_n 2, 1) := by decide +kernel
theorem li_898 : lkp tI312 898 = some (.aload_n 0, 1) := by decide +kernel
theorem li_899 : lkp tI312 899 = some (.iload_n 3, 1) := by decide +kernel
theorem li_900 : lkp tI312 900 = some (.iconst 1, 1) := by decide +kernel
theorem li_901 : lkp tI312 901 = some (.iadd, 1) := by decide +kernel
theorem li_902 : lkp tI312 902 = some (.iaload, 1) := by decide +kernel
theorem li_903 : lkp tI312 903 = some (.aload_n 0, 1) := by decide +kernel
theorem li_904 : lkp tI312 904 = some (.iload_n 3, 1) := by decide +kernel
theorem li_905 : lkp tI312 905 = some (.iconst 2, 1) := by decide +kernel
theorem li_906 : lkp tI312 906 = some (.iadd, 1) := by decide +kernel
theorem li_907 : lkp tI312 907 = some (.iaload, 1) := by decide +kernel
theorem li_908 : lkp tI312 908 = some (.aload_n 0, 1) := by decide +kernel
theorem li_909 : lkp tI312 909 = some (.iload_n 3, 1) := by decide +kernel
theorem li_910 : lkp tI312 910 = some (.iconst 3, 1) := by decide +kernel
theorem li_911 : lkp tI312 911 = some (.iadd, 1) := by decide +kernel
theorem li_912 : lkp tI312 912 = some (.iaload, 1) := by decide +kernel
theorem li_913 : lkp tI312 913 = some (.invokevirtual 86, 3) := by decide +kernel
theorem li_916 : lkp tI312 916 = some (.if_icmp .eq 911, 3) := by decide +kernel
theorem li_919 : lkp tI312 919 = some (.iconst 0, 1) := by decide +kernel
theorem li_920 : lkp tI312 920 = some (.ireturn, 1) := by decide +kernel
theorem li_921 : lkp tI312 921 = some (.aload_n 1, 1) := by decide +kernel
theorem li_922 : lkp tI312 922 = some (.aload_n 0, 1) := by decide +kernel
theorem li_923 : lkp tI312 923 = some (.iload_n 3, 1) := by decide +kernel
theorem li_924 : lkp tI312 924 = some (.iconst 1, 1) := by decide +kernel
theorem li_925 : lkp tI312 925 = some (.iadd, 1) := by decide +kernel
theorem li_926 : lkp tI312 926 = some (.iaload, 1) := by decide +kernel
theorem li_927 : lkp tI312 927 = some (.aload_n 0, 1) := by decide +kernel
theorem li_928 : lkp tI312 928 = some (.iload_n 3, 1) := by decide +kernel
theorem li_929 : lkp tI312 929 = some (.iconst 2, 1) := by decide +kernel
theorem li_930 : lkp tI312 930 = some (.iadd, 1) := by decide +kernel
theorem li_931 : lkp tI312 931 = some (.iaload, 1) := by decide +kernel
theorem li_932 : lkp tI312 932 = some (.invokevirtual 87, 3) := by decide +kernel
theorem li_935 : lkp tI312 935 = some (.aload_n 2, 1) := by decide +kernel
theorem li_936 : lkp tI312 936 = some (.aload_n 0, 1) := by decide +kernel
theorem li_937 : lkp tI312 937 = some (.iload_n 3, 1) := by decide +kernel
theorem li_938 : lkp tI312 938 = some (.iconst 1, 1) := by decide +kernel
theorem li_939 : lkp tI312 939 = some (.iadd, 1) := by decide +kernel
theorem li_940 : lkp tI312 940 = some (.iaload, 1) := by decide +kernel
theorem li_941 : lkp tI312 941 = some (.aload_n 0, 1) := by decide +kernel
theorem li_942 : lkp tI312 942 = some (.iload_n 3, 1) := by decide +kernel
theorem li_943 : lkp tI312 943 = some (.iconst 2, 1) := by decide +kernel
theorem li_944 : lkp tI312 944 = some (.iadd, 1) := by decide +kernel
theorem li_945 : lkp tI312 945 = some (.iaload, 1) := by decide +kernel
theorem li_946 : lkp tI312 946 = some (.invokevirtual 90, 3) := by decide +kernel
theorem li_949 : lkp tI312 949 = some (.if_icmp .eq 878, 3) := by decide +kernel
theorem li_952 : lkp tI312 952 = some (.iconst 0, 1) := by decide +kernel
theorem li_953 : lkp tI312 953 = some (.ireturn, 1) := by decide +kernel
theorem li_954 : lkp tI312 954 = some (.aload_n 1, 1) := by decide +kernel
theorem li_955 : lkp tI312 955 = some (.aload_n 0, 1) := by decide +kernel
theorem li_956 : lkp tI312 956 = some (.iload_n 3, 1) := by decide +kernel
theorem li_957 : lkp tI312 957 = some (.iconst 1, 1) := by decide +kernel
theorem li_958 : lkp tI312 958 = some (.iadd, 1) := by decide +kernel
theorem li_959 : lkp tI312 959 = some (.iaload, 1) := by decide +kernel
theorem li_960 : lkp tI312 960 = some (.aload_n 0, 1) := by decide +kernel
theorem li_961 : lkp tI312 961 = some (.iload_n 3, 1) := by decide +kernel
theorem li_962 : lkp tI312 962 = some (.iconst 2, 1) := by decide +kernel
theorem li_963 : lkp tI312 963 = some (.iadd, 1) := by decide +kernel
theorem li_964 : lkp tI312 964 = some (.iaload, 1) := by decide +kernel
theorem li_965 : lkp tI312 965 = some (.aload_n 0, 1) := by decide +kernel
theorem li_966 : lkp tI312 966 = some (.iload_n 3, 1) := by decide +kernel
theorem li_967 : lkp tI312 967 = some (.iconst 3, 1) := by decide +kernel
theorem li_968 : lkp tI312 968 = some (.iadd, 1) := by decide +kernel
theorem li_969 : lkp tI312 969 = some (.iaload, 1) := by decide +kernel
theorem li_970 : lkp tI312 970 = some (.aload_n 0, 1) := by decide +kernel
theorem li_971 : lkp tI312 971 = some (.iload_n 3, 1) := by decide +kernel
theorem li_972 : lkp tI312 972 = some (.iconst 4, 1) := by decide +kernel
theorem li_973 : lkp tI312 973 = some (.iadd, 1) := by decide +kernel
theorem li_974 : lkp tI312 974 = some (.iaload, 1) := by decide +kernel
theorem li_975 : lkp tI312 975 = some (.aload_n 0, 1) := by decide +kernel
theorem li_976 : lkp tI312 976 = some (.iload_n 3, 1) := by decide +kernel
theorem li_977 : lkp tI312 977 = some (.iconst 5, 1) := by decide +kernel
theorem li_978 : lkp tI312 978 = some (.iadd, 1) := by decide +kernel
theorem li_979 : lkp tI312 979 = some (.iaload, 1) := by decide +kernel
theorem li_980 : lkp tI312 980 = some (.invokevirtual 91, 3) := by decide +kernel
theorem li_983 : lkp tI312 983 = some (.aload_n 2, 1) := by decide +kernel
theorem li_984 : lkp tI312 984 = some (.aload_n 0, 1) := by decide +kernel
theorem li_985 : lkp tI312 985 = some (.iload_n 3, 1) := by decide +kernel
theorem li_986 : lkp tI312 986 = some (.iconst 1, 1) := by decide +kernel
theorem li_987 : lkp tI312 987 = some (.iadd, 1) := by decide +kernel
theorem li_988 : lkp tI312 988 = some (.iaload, 1) := by decide +kernel
theorem li_989 : lkp tI312 989 = some (.aload_n 0, 1) := by decide +kernel
theorem li_990 : lkp tI312 990 = some (.iload_n 3, 1) := by decide +kernel
theorem li_991 : lkp tI312 991 = some (.iconst 2, 1) := by decide +kernel
theorem li_992 : lkp tI312 992 = some (.iadd, 1) := by decide +kernel
theorem li_993 : lkp tI312 993 = some (.iaload, 1) := by decide +kernel
theorem li_994 : lkp tI312 994 = some (.aload_n 0, 1) := by decide +kernel
theorem li_995 : lkp tI312 995 = some (.iload_n 3, 1) := by decide +kernel
theorem li_996 : lkp tI312 996 = some (.iconst 3, 1) := by decide +kernel
theorem li_997 : lkp tI312 997 = some (.iadd, 1) := by decide +kernel
theorem li_998 : lkp tI312 998 = some (.iaload, 1) := by decide +kernel
theorem li_999 : lkp tI312 999 = some (.aload_n 0, 1) := by decide +kernel
theorem li_1000 : lkp tI312 1000 = some (.iload_n 3, 1) := by decide +kernel
theorem li_1001 : lkp tI312 1001 = some (.iconst 4, 1) := by decide +kernel
theorem li_1002 : lkp tI312 1002 = some (.iadd, 1) := by decide +kernel
theorem li_1003 : lkp tI312 1003 = some (.iaload, 1) := by decide +kernel
theorem li_1004 : lkp tI312 1004 = some (.aload_n 0, 1) := by decide +kernel
theorem li_1005 : lkp tI312 1005 = some (.iload_n 3, 1) := by decide +kernel
theorem li_1006 : lkp tI312 1006 = some (.iconst 5, 1) := by decide +kernel
theorem li_1007 : lkp tI312 1007 = some (.iadd, 1) := by decide +kernel
theorem li_1008 : lkp tI312 1008 = some (.iaload, 1) := by decide +kernel
theorem li_1009 : lkp tI312 1009 = some (.invokevirtual 95, 3) := by decide +kernel
theorem li_1012 : lkp tI312 1012 = some (.lcmp, 1) := by decide +kernel
theorem li_1013 : lkp tI312 1013 = some (.ifCond .eq 814, 3) := by decide +kernel
theorem li_1016 : lkp tI312 1016 = some (.iconst 0, 1) := by decide +kernel
theorem li_1017 : lkp tI312 1017 = some (.ireturn, 1) := by decide +kernel
theorem li_1018 : lkp tI312 1018 = some (.aload_n 1, 1) := by decide +kernel
theorem li_1019 : lkp tI312 1019 = some (.aload_n 0, 1) := by decide +kernel
theorem li_1020 : lkp tI312 1020 = some (.iload_n 3, 1) := by decide +kernel
theorem li_1021 : lkp tI312 1021 = some (.iconst 1, 1) := by decide +kernel
theorem li_1022 : lkp tI312 1022 = some (.iadd, 1) := by decide +kernel
theorem li_1023 : lkp tI312 1023 = some (.iaload, 1) := by decide +kernel
theorem li_1024 : lkp tI312 1024 = some (.aload_n 0, 1) := by decide +kernel
theorem li_1025 : lkp tI312 1025 = some (.iload_n 3, 1) := by decide +kernel
theorem li_1026 : lkp tI312 1026 = some (.iconst 2, 1) := by decide +kernel
theorem li_1027 : lkp tI312 1027 = some (.iadd, 1) := by decide +kernel
theorem li_1028 : lkp tI312 1028 = some (.iaload, 1) := by decide +kernel
theorem li_1029 : lkp tI312 1029 = some (.aload_n 0, 1) := by decide +kernel
theorem li_1030 : lkp tI312 1030 = some (.iload_n 3, 1) := by decide +kernel
theorem li_1031 : lkp tI312 1031 = some (.iconst 3, 1) := by decide +kernel
theorem li_1032 : lkp tI312 1032 = some (.iadd, 1) := by decide +kernel
theorem li_1033 : lkp tI312 1033 = some (.iaload, 1) := by decide +kernel
theorem li_1034 : lkp tI312 1034 = some (.aload_n 0, 1) := by decide +kernel
theorem li_1035 : lkp tI312 1035 = some (.iload_n 3, 1) := by decide +kernel
theorem li_1036 : lkp tI312 1036 = some (.iconst 4, 1) := by decide +kernel
theorem li_1037 : lkp tI312 1037 = some (.iadd, 1) := by decide +kernel
theorem li_1038 : lkp tI312 1038 = some (.iaload, 1) := by decide +kernel
theorem li_1039 : lkp tI312 1039 = some (.invokevirtual 96, 3) := by decide +kernel
theorem li_1042 : lkp tI312 1042 = some (.aload_n 2, 1) := by decide +kernel
theorem li_1043 : lkp tI312 1043 = some (.aload_n 0, 1) := by decide +kernel
theorem li_1044 : lkp tI312 1044 = some (.iload_n 3, 1) := by decide +kernel
theorem li_1045 : lkp tI312 1045 = some (.iconst 1, 1) := by decide +kernel
theorem li_1046 : lkp tI312 1046 = some (.iadd, 1) := by decide +kernel
theorem li_1047 : lkp tI312 1047 = some (.iaload, 1) := by decide +kernel
theorem li_1048 : lkp tI312 1048 = some (.aload_n 0, 1) := by decide +kernel
theorem li_1049 : lkp tI312 1049 = some (.iload_n 3, 1) := by decide +kernel
theorem li_1050 : lkp tI312 1050 = some (.iconst 2, 1) := by decide +kernel
theorem li_1051 : lkp tI312 1051 = some (.iadd, 1) := by decide +kernel
theorem li_1052 : lkp tI312 1052 = some (.iaload, 1) := by decide +kernel
theorem li_1053 : lkp tI312 1053 = some (.aload_n 0, 1) := by decide +kernel
theorem li_1054 : lkp tI312 1054 = some (.iload_n 3, 1) := by decide +kernel
theorem li_1055 : lkp tI312 1055 = some (.iconst 3, 1) := by decide +kernel
theorem li_1056 : lkp tI312 1056 = some (.iadd, 1) := by decide +kernel
theorem li_1057 : lkp tI312 1057 = some (.iaload, 1) := by decide +kernel
theorem li_1058 : lkp tI312 1058 = some (.aload_n 0, 1) := by decide +kernel
theorem li_1059 : lkp tI312 1059 = some (.iload_n 3, 1) := by decide +kernel
theorem li_1060 : lkp tI312 1060 = some (.iconst 4, 1) := by decide +kernel
theorem li_1061 : lkp tI312 1061 = some (.iadd, 1) := by decide +kernel
theorem li_1062 : lkp tI312 1062 = some (.iaload, 1) := by decide +kernel
theorem li_1063 : lkp tI312 1063 = some (.invokevirtual 99, 3) := by decide +kernel
theorem li_1066 : lkp tI312 1066 = some (.if_icmp .eq 761, 3) := by decide +kernel
theorem li_1069 : lkp tI312 1069 = some (.iconst 0, 1) := by decide +kernel
theorem li_1070 : lkp tI312 1070 = some (.ireturn, 1) := by decide +kernel
theorem li_1071 : lkp tI312 1071 = some (.aload_n 1, 1) := by decide +kernel
theorem li_1072 : lkp tI312 1072 = some (.aload_n 0, 1) := by decide +kernel
theorem li_1073 : lkp tI312 1073 = some (.iload_n 3, 1) := by decide +kernel
theorem li_1074 : lkp tI312 1074 = some (.iconst 1, 1) := by decide +kernel
theorem li_1075 : lkp tI312 1075 = some (.iadd, 1) := by decide +kernel
theorem li_1076 : lkp tI312 1076 = some (.iaload, 1) := by decide +kernel
theorem li_1077 : lkp tI312 1077 = some (.aload_n 0, 1) := by decide +kernel
theorem li_1078 : lkp tI312 1078 = some (.iload_n 3, 1) := by decide +kernel
theorem li_1079 : lkp tI312 1079 = some (.iconst 2, 1) := by decide +kernel
theorem li_1080 : lkp tI312 1080 = some (.iadd, 1) := by decide +kernel
theorem li_1081 : lkp tI312 1081 = some (.iaload, 1) := by decide +kernel
theorem li_1082 : lkp tI312 1082 = some (.ifCond .eq 7, 3) := by decide +kernel
theorem li_1085 : lkp tI312 1085 = some (.iconst 1, 1) := by decide +kernel
theorem li_1086 : lkp tI312 1086 = some (.goto 4, 3) := by decide +kernel
theorem li_1089 : lkp tI312 1089 = some (.iconst 0, 1) := by decide +kernel
theorem li_1090 : lkp tI312 1090 = some (.invokevirtual 100, 3) := by decide +kernel
theorem li_1093 : lkp tI312 1093 = some (.aload_n 2, 1) := by decide +kernel
theorem li_1094 : lkp tI312 1094 = some (.aload_n 0, 1) := by decide +kernel
theorem li_1095 : lkp tI312 1095 = some (.iload_n 3, 1) := by decide +kernel
theorem li_1096 : lkp tI312 1096 = some (.iconst 1, 1) := by decide +kernel
theorem li_1097 : lkp tI312 1097 = some (.iadd, 1) := by decide +kernel
theorem li_1098 : lkp tI312 1098 = some (.iaload, 1) := by decide +kernel
theorem li_1099 : lkp tI312 1099 = some (.aload_n 0, 1) := by decide +kernel
theorem li_1100 : lkp tI312 1100 = some (.iload_n 3, 1) := by decide +kernel
theorem li_1101 : lkp tI312 1101 = some (.iconst 2, 1) := by decide +kernel
theorem li_1102 : lkp tI312 1102 = some (.iadd, 1) := by decide +kernel
theorem li_1103 : lkp tI312 1103 = some (.iaload, 1) := by decide +kernel
theorem li_1104 : lkp tI312 1104 = some (.ifCond .eq 7, 3) := by decide +kernel
theorem li_1107 : lkp tI312 1107 = some (.iconst 1, 1) := by decide +kernel
theorem li_1108 : lkp tI312 1108 = some (.goto 4, 3) := by decide +kernel
theorem li_1111 : lkp tI312 1111 = some (.iconst 0, 1) := by decide +kernel
theorem li_1112 : lkp tI312 1112 = some (.invokevirtual 104, 3) := by decide +kernel
theorem li_1115 : lkp tI312 1115 = some (.if_icmp .eq 712, 3) := by decide +kernel
theorem li_1118 : lkp tI312 1118 = some (.iconst 0, 1) := by decide +kernel
theorem li_1119 : lkp tI312 1119 = some (.ireturn, 1) := by decide +kernel
theorem li_1120 : lkp tI312 1120 = some (.aload_n 1, 1) := by decide +kernel
theorem li_1121 : lkp tI312 1121 = some (.aload_n 0, 1) := by decide +kernel
theorem li_1122 : lkp tI312 1122 = some (.iload_n 3, 1) := by decide +kernel
theorem li_1123 : lkp tI312 1123 = some (.iconst 1, 1) := by decide +kernel
theorem li_1124 : lkp tI312 1124 = some (.iadd, 1) := by decide +kernel
theorem li_1125 : lkp tI312 1125 = some (.iaload, 1) := by decide +kernel
theorem li_1126 : lkp tI312 1126 = some (.aload_n 0, 1) := by decide +kernel
theorem li_1127 : lkp tI312 1127 = some (.iload_n 3, 1) := by decide +kernel
theorem li_1128 : lkp tI312 1128 = some (.iconst 2, 1) := by decide +kernel
theorem li_1129 : lkp tI312 1129 = some (.iadd, 1) := by decide +kernel
theorem li_1130 : lkp tI312 1130 = some (.iaload, 1) := by decide +kernel
theorem li_1131 : lkp tI312 1131 = some (.aload_n 0, 1) := by decide +kernel
theorem li_1132 : lkp tI312 1132 = some (.iload_n 3, 1) := by decide +kernel
theorem li_1133 : lkp tI312 1133 = some (.iconst 3, 1) := by decide +kernel
theorem li_1134 : lkp tI312 1134 = some (.iadd, 1) := by decide +kernel
theorem li_1135 : lkp tI312 1135 = some (.iaload, 1) := by decide +kernel
theorem li_1136 : lkp tI312 1136 = some (.aload_n 0, 1) := by decide +kernel
theorem li_1137 : lkp tI312 1137 = some (.iload_n 3, 1) := by decide +kernel
theorem li_1138 : lkp tI312 1138 = some (.iconst 4, 1) := by decide +kernel
theorem li_1139 : lkp tI312 1139 = some (.iadd, 1) := by decide +kernel
theorem li_1140 : lkp tI312 1140 = some (.iaload, 1) := by decide +kernel
theorem li_1141 : lkp tI312 1141 = some (.ifCond .eq 7, 3) := by decide +kernel
theorem li_1144 : lkp tI312 1144 = some (.iconst 1, 1) := by decide +kernel
theorem li_1145 : lkp tI312 1145 = some (.goto 4, 3) := by decide +kernel
theorem li_1148 : lkp tI312 1148 = some (.iconst 0, 1) := by decide +kernel
theorem li_1149 : lkp tI312 1149 = some (.invokevirtual 105, 3) := by decide +kernel
theorem li_1152 : lkp tI312 1152 = some (.aload_n 2, 1) := by decide +kernel
theorem li_1153 : lkp tI312 1153 = some (.aload_n 0, 1) := by decide +kernel
theorem li_1154 : lkp tI312 1154 = some (.iload_n 3, 1) := by decide +kernel
theorem li_1155 : lkp tI312 1155 = some (.iconst 1, 1) := by decide +kernel
theorem li_1156 : lkp tI312 1156 = some (.iadd, 1) := by decide +kernel
theorem li_1157 : lkp tI312 1157 = some (.iaload, 1) := by decide +kernel
theorem li_1158 : lkp tI312 1158 = some (.aload_n 0, 1) := by decide +kernel
theorem li_1159 : lkp tI312 1159 = some (.iload_n 3, 1) := by decide +kernel
theorem li_1160 : lkp tI312 1160 = some (.iconst 2, 1) := by decide +kernel
theorem li_1161 : lkp tI312 1161 = some (.iadd, 1) := by decide +kernel
theorem li_1162 : lkp tI312 1162 = some (.iaload, 1) := by decide +kernel
theorem li_1163 : lkp tI312 1163 = some (.aload_n 0, 1) := by decide +kernel
theorem li_1164 : lkp tI312 1164 = some (.iload_n 3, 1) := by decide +kernel
theorem li_1165 : lkp tI312 1165 = some (.iconst 3, 1) := by decide +kernel
theorem li_1166 : lkp tI312 1166 = some (.iadd, 1) := by decide +kernel
theorem li_1167 : lkp tI312 1167 = some (.iaload, 1) := by decide +kernel
theorem li_1168 : lkp tI312 1168 = some (.aload_n 0, 1) := by decide +kernel
theorem li_1169 : lkp tI312 1169 = some (.iload_n 3, 1) := by decide +kernel
theorem li_1170 : lkp tI312 1170 = some (.iconst 4, 1) := by decide +kernel
theorem li_1171 : lkp tI312 1171 = some (.iadd, 1) := by decide +kernel
theorem li_1172 : lkp tI312 1172 = some (.iaload, 1) := by decide +kernel
theorem li_1173 : lkp tI312 1173 = some (.ifCond .eq 7, 3) := by decide +kernel
theorem li_1176 : lkp tI312 1176 = some (.iconst 1, 1) := by decide +kernel
theorem li_1177 : lkp tI312 1177 = some (.goto 4, 3) := by decide +kernel
theorem li_1180 : lkp tI312 1180 = some (.iconst 0, 1) := by decide +kernel
theorem li_1181 : lkp tI312 1181 = some (.invokevirtual 109, 3) := by decide +kernel
theorem li_1184 : lkp tI312 1184 = some (.if_icmp .eq 643, 3) := by decide +kernel
theorem li_1187 : lkp tI312 1187 = some (.iconst 0, 1) := by decide +kernel
theorem li_1188 : lkp tI312 1188 = some (.ireturn, 1) := by decide +kernel
theorem li_1189 : lkp tI312 1189 = some (.aload_n 1, 1) := by decide +kernel
theorem li_1190 : lkp tI312 1190 = some (.aload_n 0, 1) := by decide +kernel
theorem li_1191 : lkp tI312 1191 = some (.iload_n 3, 1) := by decide +kernel
theorem li_1192 : lkp tI312 1192 = some (.iconst 1, 1) := by decide +kernel
theorem li_1193 : lkp tI312 1193 = some (.iadd, 1) := by decide +kernel
theorem li_1194 : lkp tI312 1194 = some (.iaload, 1) := by decide +kernel
theorem li_1195 : lkp tI312 1195 = some (.aload_n 0, 1) := by decide +kernel
theorem li_1196 : lkp tI312 1196 = some (.iload_n 3, 1) := by decide +kernel
theorem li_1197 : lkp tI312 1197 = some (.iconst 2, 1) := by decide +kernel
theorem li_1198 : lkp tI312 1198 = some (.iadd, 1) := by decide +kernel
theorem li_1199 : lkp tI312 1199 = some (.iaload, 1) := by decide +kernel
theorem li_1200 : lkp tI312 1200 = some (.aload_n 0, 1) := by decide +kernel
theorem li_1201 : lkp tI312 1201 = some (.iload_n 3, 1) := by decide +kernel
theorem li_1202 : lkp tI312 1202 = some (.iconst 3, 1) := by decide +kernel
theorem li_1203 : lkp tI312 1203 = some (.iadd, 1) := by decide +kernel
theorem li_1204 : lkp tI312 1204 = some (.iaload, 1) := by decide +kernel
theorem li_1205 : lkp tI312 1205 = some (.aload_n 0, 1) := by decide +kernel
theorem li_1206 : lkp tI312 1206 = some (.iload_n 3, 1) := by decide +kernel
theorem li_1207 : lkp tI312 1207 = some (.iconst 4, 1) := by decide +kernel
theorem li_1208 : lkp tI312 1208 = some (.iadd, 1) := by decide +kernel
theorem li_1209 : lkp tI312 1209 = some (.iaload, 1) := by decide +kernel
theorem li_1210 : lkp tI312 1210 = some (.aload_n 0, 1) := by decide +kernel
theorem li_1211 : lkp tI312 1211 = some (.iload_n 3, 1) := by decide +kernel
theorem li_1212 : lkp tI312 1212 = some (.iconst 5, 1) := by decide +kernel
theorem li_1213 : lkp tI312 1213 = some (.iadd, 1) := by decide +kernel
theorem li_1214 : lkp tI312 1214 = some (.iaload, 1) := by decide +kernel
theorem li_1215 : lkp tI312 1215 = some (.invokevirtual 110, 3) := by decide +kernel
theorem li_1218 : lkp tI312 1218 = some (.aload_n 2, 1) := by decide +kernel
theorem li_1219 : lkp tI312 1219 = some (.aload_n 0, 1) := by decide +kernel
theorem li_1220 : lkp tI312 1220 = some (.iload_n 3, 1) := by decide +kernel
theorem li_1221 : lkp tI312 1221 = some (.iconst 1, 1) := by decide +kernel
theorem li_1222 : lkp tI312 1222 = some (.iadd, 1) := by decide +kernel
theorem li_1223 : lkp tI312 1223 = some (.iaload, 1) := by decide +kernel
theorem li_1224 : lkp tI312 1224 = some (.aload_n 0, 1) := by decide +kernel
theorem li_1225 : lkp tI312 1225 = some (.iload_n 3, 1) := by decide +kernel
theorem li_1226 : lkp tI312 1226 = some (.iconst 2, 1) := by decide +kernel
theorem li_1227 : lkp tI312 1227 = some (.iadd, 1) := by decide +kernel
theorem li_1228 : lkp tI312 1228 = some (.iaload, 1) := by decide +kernel
theorem li_1229 : lkp tI312 1229 = some (.aload_n 0, 1) := by decide +kernel
theorem li_1230 : lkp tI312 1230 = some (.iload_n 3, 1) := by decide +kernel
theorem li_1231 : lkp tI312 1231 = some (.iconst 3, 1) := by decide +kernel
theorem li_1232 : lkp tI312 1232 = some (.iadd, 1) := by decide +kernel
theorem li_1233 : lkp tI312 1233 = some (.iaload, 1) := by decide +kernel
theorem li_1234 : lkp tI312 1234 = some (.aload_n 0, 1) := by decide +kernel
theorem li_1235 : lkp tI312 1235 = some (.iload_n 3, 1) := by decide +kernel
theorem li_1236 : lkp tI312 1236 = some (.iconst 4, 1) := by decide +kernel
theorem li_1237 : lkp tI312 1237 = some (.iadd, 1) := by decide +kernel
theorem li_1238 : lkp tI312 1238 = some (.iaload, 1) := by decide +kernel
theorem li_1239 : lkp tI312 1239 = some (.aload_n 0, 1) := by decide +kernel
theorem li_1240 : lkp tI312 1240 = some (.iload_n 3, 1) := by decide +kernel
theorem li_1241 : lkp tI312 1241 = some (.iconst 5, 1) := by decide +kernel
theorem li_1242 : lkp tI312 1242 = some (.iadd, 1) := by decide +kernel
theorem li_1243 : lkp tI312 1243 = some (.iaload, 1) := by decide +kernel
theorem li_1244 : lkp tI312 1244 = some (.invokevirtual 113, 3) := by decide +kernel
theorem li_1247 : lkp tI312 1247 = some (.if_icmp .eq 580, 3) := by decide +kernel
theorem li_1250 : lkp tI312 1250 = some (.iconst 0, 1) := by decide +kernel
theorem li_1251 : lkp tI312 1251 = some (.ireturn, 1) := by decide +kernel
theorem li_1252 : lkp tI312 1252 = some (.aload_n 1, 1) := by decide +kernel
theorem li_1253 : lkp tI312 1253 = some (.aload_n 0, 1) := by decide +kernel
theorem li_1254 : lkp tI312 1254 = some (.iload_n 3, 1) := by decide +kernel
theorem li_1255 : lkp tI312 1255 = some (.iconst 1, 1) := by decide +kernel
theorem li_1256 : lkp tI312 1256 = some (.iadd, 1) := by decide +kernel
theorem li_1257 : lkp tI312 1257 = some (.iaload, 1) := by decide +kernel
theorem li_1258 : lkp tI312 1258 = some (.aload_n 0, 1) := by decide +kernel
theorem li_1259 : lkp tI312 1259 = some (.iload_n 3, 1) := by decide +kernel
theorem li_1260 : lkp tI312 1260 = some (.iconst 2, 1) := by decide +kernel
theorem li_1261 : lkp tI312 1261 = some (.iadd, 1) := by decide +kernel
theorem li_1262 : lkp tI312 1262 = some (.iaload, 1) := by decide +kernel
theorem li_1263 : lkp tI312 1263 = some (.aload_n 0, 1) := by decide +kernel
theorem li_1264 : lkp tI312 1264 = some (.iload_n 3, 1) := by decide +kernel
theorem li_1265 : lkp tI312 1265 = some (.iconst 3, 1) := by decide +kernel
theorem li_1266 : lkp tI312 1266 = some (.iadd, 1) := by decide +kernel
theorem li_1267 : lkp tI312 1267 = some (.iaload, 1) := by decide +kernel
theorem li_1268 : lkp tI312 1268 = some (.aload_n 0, 1) := by decide +kernel
theorem li_1269 : lkp tI312 1269 = some (.iload_n 3, 1) := by decide +kernel
theorem li_1270 : lkp tI312 1270 = some (.iconst 4, 1) := by decide +kernel
theorem li_1271 : lkp tI312 1271 = some (.iadd, 1) := by decide +kernel
theorem li_1272 : lkp tI312 1272 = some (.iaload, 1) := by decide +kernel
theorem li_1273 : lkp tI312 1273 = some (.ifCond .eq 7, 3) := by decide +kernel
theorem li_1276 : lkp tI312 1276 = some (.iconst 1, 1) := by decide +kernel
theorem li_1277 : lkp tI312 1277 = some (.goto 4, 3) := by decide +kernel
theorem li_1280 : lkp tI312 1280 = some (.iconst 0, 1) := by decide +kernel
theorem li_1281 : lkp tI312 1281 = some (.invokevirtual 114, 3) := by decide +kernel
theorem li_1284 : lkp tI312 1284 = some (.aload_n 2, 1) := by decide +kernel
theorem li_1285 : lkp tI312 1285 = some (.aload_n 0, 1) := by decide +kernel
theorem li_1286 : lkp tI312 1286 = some (.iload_n 3, 1) := by decide +kernel
theorem li_1287 : lkp tI312 1287 = some (.iconst 1, 1) := by decide +kernel
theorem li_1288 : lkp tI312 1288 = some (.iadd, 1) := by decide +kernel
theorem li_1289 : lkp tI312 1289 = some (.iaload, 1) := by decide +kernel
theorem li_1290 : lkp tI312 1290 = some (.aload_n 0, 1) := by decide +kernel
theorem li_1291 : lkp tI312 1291 = some (.iload_n 3, 1) := by decide +kernel
theorem li_1292 : lkp tI312 1292 = some (.iconst 2, 1) := by decide +kernel
theorem li_1293 : lkp tI312 1293 = some (.iadd, 1) := by decide +kernel
theorem li_1294 : lkp tI312 1294 = some (.iaload, 1) := by decide +kernel
theorem li_1295 : lkp tI312 1295 = some (.aload_n 0, 1) := by decide +kernel
theorem li_1296 : lkp tI312 1296 = some (.iload_n 3, 1) := by decide +kernel
theorem li_1297 : lkp tI312 1297 = some (.iconst 3, 1) := by decide +kernel
theorem li_1298 : lkp tI312 1298 = some (.iadd, 1) := by decide +kernel
theorem li_1299 : lkp tI312 1299 = some (.iaload, 1) := by decide +kernel
theorem li_1300 : lkp tI312 1300 = some (.aload_n 0, 1) := by decide +kernel
theorem li_1301 : lkp tI312 1301 = some (.iload_n 3, 1) := by decide +kernel
theorem li_1302 : lkp tI312 1302 = some (.iconst 4, 1) := by decide +kernel
theorem li_1303 : lkp tI312 1303 = some (.iadd, 1) := by decide +kernel
theorem li_1304 : lkp tI312 1304 = some (.iaload, 1) := by decide +kernel
theorem li_1305 : lkp tI312 1305 = some (.ifCond .eq 7, 3) := by decide +kernel
theorem li_1308 : lkp tI312 1308 = some (.iconst 1, 1) := by decide +kernel
theorem li_1309 : lkp tI312 1309 = some (.goto 4, 3) := by decide +kernel
theorem li_1312 : lkp tI312 1312 = some (.iconst 0, 1) := by decide +kernel
theorem li_1313 : lkp tI312 1313 = some (.invokevirtual 117, 3) := by decide +kernel
theorem li_1316 : lkp tI312 1316 = some (.if_icmp .eq 511, 3) := by decide +kernel
theorem li_1319 : lkp tI312 1319 = some (.iconst 0, 1) := by decide +kernel
theorem li_1320 : lkp tI312 1320 = some (.ireturn, 1) := by decide +kernel
theorem li_1321 : lkp tI312 1321 = some (.aload_n 1, 1) := by decide +kernel
theorem li_1322 : lkp tI312 1322 = some (.aload_n 0, 1) := by decide +kernel
theorem li_1323 : lkp tI312 1323 = some (.iload_n 3, 1) := by decide +kernel
theorem li_1324 : lkp tI312 1324 = some (.iconst 1, 1) := by decide +kernel
theorem li_1325 : lkp tI312 1325 = some (.iadd, 1) := by decide +kernel
theorem li_1326 : lkp tI312 1326 = some (.iaload, 1) := by decide +kernel
theorem li_1327 : lkp tI312 1327 = some (.aload_n 0, 1) := by decide +kernel
theorem li_1328 : lkp tI312 1328 = some (.iload_n 3, 1) := by decide +kernel
theorem li_1329 : lkp tI312 1329 = some (.iconst 2, 1) := by decide +kernel
theorem li_1330 : lkp tI312 1330 = some (.iadd, 1) := by decide +kernel
theorem li_1331 : lkp tI312 1331 = some (.iaload, 1) := by decide +kernel
theorem li_1332 : lkp tI312 1332 = some (.aload_n 0, 1) := by decide +kernel
theorem li_1333 : lkp tI312 1333 = some (.iload_n 3, 1) := by decide +kernel
theorem li_1334 : lkp tI312 1334 = some (.iconst 3, 1) := by decide +kernel
theorem li_1335 : lkp tI312 1335 = some (.iadd, 1) := by decide +kernel
theorem li_1336 : lkp tI312 1336 = some (.iaload, 1) := by decide +kernel
theorem li_1337 : lkp tI312 1337 = some (.aload_n 0, 1) := by decide +kernel
theorem li_1338 : lkp tI312 1338 = some (.iload_n 3, 1) := by decide +kernel
theorem li_1339 : lkp tI312 1339 = some (.iconst 4, 1) := by decide +kernel
theorem li_1340 : lkp tI312 1340 = some (.iadd, 1) := by decide +kernel
theorem li_1341 : lkp tI312 1341 = some (.iaload, 1) := by decide +kernel
theorem li_1342 : lkp tI312 1342 = some (.aload_n 0, 1) := by decide +kernel
theorem li_1343 : lkp tI312 1343 = some (.iload_n 3, 1) := by decide +kernel
theorem li_1344 : lkp tI312 1344 = some (.iconst 5, 1) := by decide +kernel
theorem li_1345 : lkp tI312 1345 = some (.iadd, 1) := by decide +kernel
theorem li_1346 : lkp tI312 1346 = some (.iaload, 1) := by decide +kernel
theorem li_1347 : lkp tI312 1347 = some (.aload_n 0, 1) := by decide +kernel
theorem li_1348 : lkp tI312 1348 = some (.iload_n 3, 1) := by decide +kernel
theorem li_1349 : lkp tI312 1349 = some (.bipush 6, 2) := by decide +kernel
theorem li_1351 : lkp tI312 1351 = some (.iadd, 1) := by decide +kernel
theorem li_1352 : lkp tI312 1352 = some (.iaload, 1) := by decide +kernel
theorem li_1353 : lkp tI312 1353 = some (.invokevirtual 118, 3) := by decide +kernel
theorem li_1356 : lkp tI312 1356 = some (.aload_n 2, 1) := by decide +kernel
theorem li_1357 : lkp tI312 1357 = some (.aload_n 0, 1) := by decide +kernel
theorem li_1358 : lkp tI312 1358 = some (.iload_n 3, 1) := by decide +kernel
theorem li_1359 : lkp tI312 1359 = some (.iconst 1, 1) := by decide +kernel
theorem li_1360 : lkp tI312 1360 = some (.iadd, 1) := by decide +kernel
theorem li_1361 : lkp tI312 1361 = some (.iaload, 1) := by decide +kernel
theorem li_1362 : lkp tI312 1362 = some (.aload_n 0, 1) := by decide +kernel
theorem li_1363 : lkp tI312 1363 = some (.iload_n 3, 1) := by decide +kernel
theorem li_1364 : lkp tI312 1364 = some (.iconst 2, 1) := by decide +kernel
theorem li_1365 : lkp tI312 1365 = some (.iadd, 1) := by decide +kernel
theorem li_1366 : lkp tI312 1366 = some (.iaload, 1) := by decide +kernel
theorem li_1367 : lkp tI312 1367 = some (.aload_n 0, 1) := by decide +kernel
theorem li_1368 : lkp tI312 1368 = some (.iload_n 3, 1) := by decide +kernel
theorem li_1369 : lkp tI312 1369 = some (.iconst 3, 1) := by decide +kernel
theorem li_1370 : lkp tI312 1370 = some (.iadd, 1) := by decide +kernel
theorem li_1371 : lkp tI312 1371 = some (.iaload, 1) := by decide +kernel
theorem li_1372 : lkp tI312 1372 = some (.aload_n 0, 1) := by decide +kernel
theorem li_1373 : lkp tI312 1373 = some (.iload_n 3, 1) := by decide +kernel
theorem li_1374 : lkp tI312 1374 = some (.iconst 4, 1) := by decide +kernel
theorem li_1375 : lkp tI312 1375 = some (.iadd, 1) := by decide +kernel
theorem li_1376 : lkp tI312 1376 = some (.iaload, 1) := by decide +kernel
theorem li_1377 : lkp tI312 1377 = some (.aload_n 0, 1) := by decide +kernel
theorem li_1378 : lkp tI312 1378 = some (.iload_n 3, 1) := by decide +kernel
theorem li_1379 : lkp tI312 1379 = some (.iconst 5, 1) := by decide +kernel
theorem li_1380 : lkp tI312 1380 = some (.iadd, 1) := by decide +kernel
theorem li_1381 : lkp tI312 1381 = some (.iaload, 1) := by decide +kernel
theorem li_1382 : lkp tI312 1382 = some (.aload_n 0, 1) := by decide +kernel
theorem li_1383 : lkp tI312 1383 = some (.iload_n 3, 1) := by decide +kernel
theorem li_1384 : lkp tI312 1384 = some (.bipush 6, 2) := by decide +kernel
theorem li_1386 : lkp tI312 1386 = some (.iadd, 1) := by decide +kernel
theorem li_1387 : lkp tI312 1387 = some (.iaload, 1) := by decide +kernel
theorem li_1388 : lkp tI312 1388 = some (.invokevirtual 122, 3) := by decide +kernel
theorem li_1391 : lkp tI312 1391 = some (.if_icmp .eq 436, 3) := by decide +kernel
theorem li_1394 : lkp tI312 1394 = some (.iconst 0, 1) := by decide +kernel
theorem li_1395 : lkp tI312 1395 = some (.ireturn, 1) := by decide +kernel
theorem li_1396 : lkp tI312 1396 = some (.aload_n 1, 1) := by decide +kernel
theorem li_1397 : lkp tI312 1397 = some (.aload_n 0, 1) := by decide +kernel
theorem li_1398 : lkp tI312 1398 = some (.iload_n 3, 1) := by decide +kernel
theorem li_1399 : lkp tI312 1399 = some (.iconst 1, 1) := by decide +kernel
theorem li_1400 : lkp tI312 1400 = some (.iadd, 1) := by decide +kernel
theorem li_1401 : lkp tI312 1401 = some (.iaload, 1) := by decide +kernel
theorem li_1402 : lkp tI312 1402 = some (.aload_n 0, 1) := by decide +kernel
theorem li_1403 : lkp tI312 1403 = some (.iload_n 3, 1) := by decide +kernel
theorem li_1404 : lkp tI312 1404 = some (.iconst 2, 1) := by decide +kernel
theorem li_1405 : lkp tI312 1405 = some (.iadd, 1) := by decide +kernel
theorem li_1406 : lkp tI312 1406 = some (.iaload, 1) := by decide +kernel
theorem li_1407 : lkp tI312 1407 = some (.aload_n 0, 1) := by decide +kernel
theorem li_1408 : lkp tI312 1408 = some (.iload_n 3, 1) := by decide +kernel
theorem li_1409 : lkp tI312 1409 = some (.iconst 3, 1) := by decide +kernel
theorem li_1410 : lkp tI312 1410 = some (.iadd, 1) := by decide +kernel
theorem li_1411 : lkp tI312 1411 = some (.iaload, 1) := by decide +kernel
theorem li_1412 : lkp tI312 1412 = some (.ifCond .eq 7, 3) := by decide +kernel
theorem li_1415 : lkp tI312 1415 = some (.iconst 1, 1) := by decide +kernel
theorem li_1416 : lkp tI312 1416 = some (.goto 4, 3) := by decide +kernel
theorem li_1419 : lkp tI312 1419 = some (.iconst 0, 1) := by decide +kernel
theorem li_1420 : lkp tI312 1420 = some (.invokevirtual 123, 3) := by decide +kernel
theorem li_1423 : lkp tI312 1423 = some (.aload_n 2, 1) := by decide +kernel
theorem li_1424 : lkp tI312 1424 = some (.aload_n 0, 1) := by decide +kernel
theorem li_1425 : lkp tI312 1425 = some (.iload_n 3, 1) := by decide +kernel
theorem li_1426 : lkp tI312 1426 = some (.iconst 1, 1) := by decide +kernel
theorem li_1427 : lkp tI312 1427 = some (.iadd, 1) := by decide +kernel
theorem li_1428 : lkp tI312 1428 = some (.iaload, 1) := by decide +kernel
theorem li_1429 : lkp tI312 1429 = some (.aload_n 0, 1) := by decide +kernel
theorem li_1430 : lkp tI312 1430 = some (.iload_n 3, 1) := by decide +kernel
theorem li_1431 : lkp tI312 1431 = some (.iconst 2, 1) := by decide +kernel
theorem li_1432 : lkp tI312 1432 = some (.iadd, 1) := by decide +kernel
theorem li_1433 : lkp tI312 1433 = some (.iaload, 1) := by decide +kernel
theorem li_1434 : lkp tI312 1434 = some (.aload_n 0, 1) := by decide +kernel
theorem li_1435 : lkp tI312 1435 = some (.iload_n 3, 1) := by decide +kernel
theorem li_1436 : lkp tI312 1436 = some (.iconst 3, 1) := by decide +kernel
theorem li_1437 : lkp tI312 1437 = some (.iadd, 1) := by decide +kernel
theorem li_1438 : lkp tI312 1438 = some (.iaload, 1) := by decide +kernel
theorem li_1439 : lkp tI312 1439 = some (.ifCond .eq 7, 3) := by decide +kernel
theorem li_1442 : lkp tI312 1442 = some (.iconst 1, 1) := by decide +kernel
theorem li_1443 : lkp tI312 1443 = some (.goto 4, 3) := by decide +kernel
theorem li_1446 : lkp tI312 1446 = some (.iconst 0, 1) := by decide +kernel
theorem li_1447 : lkp tI312 1447 = some (.invokevirtual 127, 3) := by decide +kernel
theorem li_1450 : lkp tI312 1450 = some (.if_icmp .eq 377, 3) := by decide +kernel
theorem li_1453 : lkp tI312 1453 = some (.iconst 0, 1) := by decide +kernel
theorem li_1454 : lkp tI312 1454 = some (.ireturn, 1) := by decide +kernel
theorem li_1455 : lkp tI312 1455 = some (.aload_n 1, 1) := by decide +kernel
theorem li_1456 : lkp tI312 1456 = some (.aload_n 0, 1) := by decide +kernel
theorem li_1457 : lkp tI312 1457 = some (.iload_n 3, 1) := by decide +kernel
theorem li_1458 : lkp tI312 1458 = some (.iconst 1, 1) := by decide +kernel
theorem li_1459 : lkp tI312 1459 = some (.iadd, 1) := by decide +kernel
theorem li_1460 : lkp tI312 1460 = some (.iaload, 1) := by decide +kernel
theorem li_1461 : lkp tI312 1461 = some (.aload_n 0, 1) := by decide +kernel
theorem li_1462 : lkp tI312 1462 = some (.iload_n 3, 1) := by decide +kernel
theorem li_1463 : lkp tI312 1463 = some (.iconst 2, 1) := by decide +kernel
theorem li_1464 : lkp tI312 1464 = some (.iadd, 1) := by decide +kernel
theorem li_1465 : lkp tI312 1465 = some (.iaload, 1) := by decide +kernel
theorem li_1466 : lkp tI312 1466 = some (.invokevirtual 128, 3) := by decide +kernel
theorem li_1469 : lkp tI312 1469 = some (.aload_n 2, 1) := by decide +kernel
theorem li_1470 : lkp tI312 1470 = some (.aload_n 0, 1) := by decide +kernel
theorem li_1471 : lkp tI312 1471 = some (.iload_n 3, 1) := by decide +kernel
theorem li_1472 : lkp tI312 1472 = some (.iconst 1, 1) := by decide +kernel
theorem li_1473 : lkp tI312 1473 = some (.iadd, 1) := by decide +kernel
theorem li_1474 : lkp tI312 1474 = some (.iaload, 1) := by decide +kernel
theorem li_1475 : lkp tI312 1475 = some (.aload_n 0, 1) := by decide +kernel
theorem li_1476 : lkp tI312 1476 = some (.iload_n 3, 1) := by decide +kernel
theorem li_1477 : lkp tI312 1477 = some (.iconst 2, 1) := by decide +kernel
theorem li_1478 : lkp tI312 1478 = some (.iadd, 1) := by decide +kernel
theorem li_1479 : lkp tI312 1479 = some (.iaload, 1) := by decide +kernel
theorem li_1480 : lkp tI312 1480 = some (.invokevirtual 131, 3) := by decide +kernel
theorem li_1483 : lkp tI312 1483 = some (.if_icmp .eq 344, 3) := by decide +kernel
theorem li_1486 : lkp tI312 1486 = some (.iconst 0, 1) := by decide +kernel
theorem li_1487 : lkp tI312 1487 = some (.ireturn, 1) := by decide +kernel
theorem li_1488 : lkp tI312 1488 = some (.aload_n 1, 1) := by decide +kernel
theorem li_1489 : lkp tI312 1489 = some (.aload_n 0, 1) := by decide +kernel
theorem li_1490 : lkp tI312 1490 = some (.iload_n 3, 1) := by decide +kernel
theorem li_1491 : lkp tI312 1491 = some (.iconst 1, 1) := by decide +kernel
theorem li_1492 : lkp tI312 1492 = some (.iadd, 1) := by decide +kernel
theorem li_1493 : lkp tI312 1493 = some (.iaload, 1) := by decide +kernel
theorem li_1494 : lkp tI312 1494 = some (.aload_n 0, 1) := by decide +kernel
theorem li_1495 : lkp tI312 1495 = some (.iload_n 3, 1) := by decide +kernel
theorem li_1496 : lkp tI312 1496 = some (.iconst 2, 1) := by decide +kernel
theorem li_1497 : lkp tI312 1497 = some (.iadd, 1) := by decide +kernel
theorem li_1498 : lkp tI312 1498 = some (.iaload, 1) := by decide +kernel
theorem li_1499 : lkp tI312 1499 = some (.aload_n 0, 1) := by decide +kernel
theorem li_1500 : lkp tI312 1500 = some (.iload_n 3, 1) := by decide +kernel
theorem li_1501 : lkp tI312 1501 = some (.iconst 3, 1) := by decide +kernel
theorem li_1502 : lkp tI312 1502 = some (.iadd, 1) := by decide +kernel
theorem li_1503 : lkp tI312 1503 = some (.iaload, 1) := by decide +kernel
theorem li_1504 : lkp tI312 1504 = some (.aload_n 0, 1) := by decide +kernel
theorem li_1505 : lkp tI312 1505 = some (.iload_n 3, 1) := by decide +kernel
theorem li_1506 : lkp tI312 1506 = some (.iconst 4, 1) := by decide +kernel
theorem li_1507 : lkp tI312 1507 = some (.iadd, 1) := by decide +kernel
theorem li_1508 : lkp tI312 1508 = some (.iaload, 1) := by decide +kernel
theorem li_1509 : lkp tI312 1509 = some (.aload_n 0, 1) := by decide +kernel
theorem li_1510 : lkp tI312 1510 = some (.iload_n 3, 1) := by decide +kernel
theorem li_1511 : lkp tI312 1511 = some (.iconst 5, 1) := by decide +kernel
theorem li_1512 : lkp tI312 1512 = some (.iadd, 1) := by decide +kernel
theorem li_1513 : lkp tI312 1513 = some (.iaload, 1) := by decide +kernel
theorem li_1514 : lkp tI312 1514 = some (.ifCond .eq 7, 3) := by decide +kernel
theorem li_1517 : lkp tI312 1517 = some (.iconst 1, 1) := by decide +kernel
theorem li_1518 : lkp tI312 1518 = some (.goto 4, 3) := by decide +kernel
theorem li_1521 : lkp tI312 1521 = some (.iconst 0, 1) := by decide +kernel
theorem li_1522 : lkp tI312 1522 = some (.invokevirtual 132, 3) := by decide +kernel
theorem li_1525 : lkp tI312 1525 = some (.aload_n 2, 1) := by decide +kernel
theorem li_1526 : lkp tI312 1526 = some (.aload_n 0, 1) := by decide +kernel
theorem li_1527 : lkp tI312 1527 = some (.iload_n 3, 1) := by decide +kernel
theorem li_1528 : lkp tI312 1528 = some (.iconst 1, 1) := by decide +kernel
theorem li_1529 : lkp tI312 1529 = some (.iadd, 1) := by decide +kernel
theorem li_1530 : lkp tI312 1530 = some (.iaload, 1) := by decide +kernel
theorem li_1531 : lkp tI312 1531 = some (.aload_n 0, 1) := by decide +kernel
theorem li_1532 : lkp tI312 1532 = some (.iload_n 3, 1) := by decide +kernel
theorem li_1533 : lkp tI312 1533 = some (.iconst 2, 1) := by decide +kernel
theorem li_1534 : lkp tI312 1534 = some (.iadd, 1) := by decide +kernel
theorem li_1535 : lkp tI312 1535 = some (.iaload, 1) := by decide +kernel
theorem li_1536 : lkp tI312 1536 = some (.aload_n 0, 1) := by decide +kernel
theorem li_1537 : lkp tI312 1537 = some (.iload_n 3, 1) := by decide +kernel
theorem li_1538 : lkp tI312 1538 = some (.iconst 3, 1) := by decide +kernel
theorem li_1539 : lkp tI312 1539 = some (.iadd, 1) := by decide +kernel
theorem li_1540 : lkp tI312 1540 = some (.iaload, 1) := by decide +kernel
theorem li_1541 : lkp tI312 1541 = some (.aload_n 0, 1) := by decide +kernel
theorem li_1542 : lkp tI312 1542 = some (.iload_n 3, 1) := by decide +kernel
theorem li_1543 : lkp tI312 1543 = some (.iconst 4, 1) := by decide +kernel
theorem li_1544 : lkp tI312 1544 = some (.iadd, 1) := by decide +kernel
theorem li_1545 : lkp tI312 1545 = some (.iaload, 1) := by decide +kernel
theorem li_1546 : lkp tI312 1546 = some (.aload_n 0, 1) := by decide +kernel
theorem li_1547 : lkp tI312 1547 = some (.iload_n 3, 1) := by decide +kernel
theorem li_1548 : lkp tI312 1548 = some (.iconst 5, 1) := by decide +kernel
theorem li_1549 : lkp tI312 1549 = some (.iadd, 1) := by decide +kernel
theorem li_1550 : lkp tI312 1550 = some (.iaload, 1) := by decide +kernel
theorem li_1551 : lkp tI312 1551 = some (.ifCond .eq 7, 3) := by decide +kernel
theorem li_1554 : lkp tI312 1554 = some (.iconst 1, 1) := by decide +kernel
theorem li_1555 : lkp tI312 1555 = some (.goto 4, 3) := by decide +kernel
theorem li_1558 : lkp tI312 1558 = some (.iconst 0, 1) := by decide +kernel
theorem li_1559 : lkp tI312 1559 = some (.invokevirtual 135, 3) := by decide +kernel
theorem li_1562 : lkp tI312 1562 = some (.if_icmp .eq 265, 3) := by decide +kernel
theorem li_1565 : lkp tI312 1565 = some (.iconst 0, 1) := by decide +kernel
theorem li_1566 : lkp tI312 1566 = some (.ireturn, 1) := by decide +kernel
theorem li_1567 : lkp tI312 1567 = some (.aload_n 1, 1) := by decide +kernel
theorem li_1568 : lkp tI312 1568 = some (.aload_n 0, 1) := by decide +kernel
theorem li_1569 : lkp tI312 1569 = some (.iload_n 3, 1) := by decide +kernel
theorem li_1570 : lkp tI312 1570 = some (.iconst 1, 1) := by decide +kernel
theorem li_1571 : lkp tI312 1571 = some (.iadd, 1) := by decide +kernel
theorem li_1572 : lkp tI312 1572 = some (.iaload, 1) := by decide +kernel
theorem li_1573 : lkp tI312 1573 = some (.aload_n 0, 1) := by decide +kernel
theorem li_1574 : lkp tI312 1574 = some (.iload_n 3, 1) := by decide +kernel
theorem li_1575 : lkp tI312 1575 = some (.iconst 2, 1) := by decide +kernel
theorem li_1576 : lkp tI312 1576 = some (.iadd, 1) := by decide +kernel
theorem li_1577 : lkp tI312 1577 = some (.iaload, 1) := by decide +kernel
theorem li_1578 : lkp tI312 1578 = some (.aload_n 0, 1) := by decide +kernel
theorem li_1579 : lkp tI312 1579 = some (.iload_n 3, 1) := by decide +kernel
theorem li_1580 : lkp tI312 1580 = some (.iconst 3, 1) := by decide +kernel
theorem li_1581 : lkp tI312 1581 = some (.iadd, 1) := by decide +kernel
theorem li_1582 : lkp tI312 1582 = some (.iaload, 1) := by decide +kernel
theorem li_1583 : lkp tI312 1583 = some (.aload_n 0, 1) := by decide +kernel
theorem li_1584 : lkp tI312 1584 = some (.iload_n 3, 1) := by decide +kernel
theorem li_1585 : lkp tI312 1585 = some (.iconst 4, 1) := by decide +kernel
theorem li_1586 : lkp tI312 1586 = some (.iadd, 1) := by decide +kernel
theorem li_1587 : lkp tI312 1587 = some (.iaload, 1) := by decide +kernel
theorem li_1588 : lkp tI312 1588 = some (.aload_n 0, 1) := by decide +kernel
theorem li_1589 : lkp tI312 1589 = some (.iload_n 3, 1) := by decide +kernel
theorem li_1590 : lkp tI312 1590 = some (.iconst 5, 1) := by decide +kernel
theorem li_1591 : lkp tI312 1591 = some (.iadd, 1) := by decide +kernel
theorem li_1592 : lkp tI312 1592 = some (.iaload, 1) := by decide +kernel
theorem li_1593 : lkp tI312 1593 = some (.ifCond .eq 7, 3) := by decide +kernel
theorem li_1596 : lkp tI312 1596 = some (.iconst 1, 1) := by decide +kernel
theorem li_1597 : lkp tI312 1597 = some (.goto 4, 3) := by decide +kernel
theorem li_1600 : lkp tI312 1600 = some (.iconst 0, 1) := by decide +kernel
theorem li_1601 : lkp tI312 1601 = some (.invokevirtual 136, 3) := by decide +kernel
theorem li_1604 : lkp tI312 1604 = some (.aload_n 2, 1) := by decide +kernel
theorem li_1605 : lkp tI312 1605 = some (.aload_n 0, 1) := by decide +kernel
theorem li_1606 : lkp tI312 1606 = some (.iload_n 3, 1) := by decide +kernel
theorem li_1607 : lkp tI312 1607 = some (.iconst 1, 1) := by decide +kernel
theorem li_1608 : lkp tI312 1608 = some (.iadd, 1) := by decide +kernel
theorem li_1609 : lkp tI312 1609 = some (.iaload, 1) := by decide +kernel
theorem li_1610 : lkp tI312 1610 = some (.aload_n 0, 1) := by decide +kernel
theorem li_1611 : lkp tI312 1611 = some (.iload_n 3, 1) := by decide +kernel
theorem li_1612 : lkp tI312 1612 = some (.iconst 2, 1) := by decide +kernel
theorem li_1613 : lkp tI312 1613 = some (.iadd, 1) := by decide +kernel
theorem li_1614 : lkp tI312 1614 = some (.iaload, 1) := by decide +kernel
theorem li_1615 : lkp tI312 1615 = some (.aload_n 0, 1) := by decide +kernel
theorem li_1616 : lkp tI312 1616 = some (.iload_n 3, 1) := by decide +kernel
theorem li_1617 : lkp tI312 1617 = some (.iconst 3, 1) := by decide +kernel
theorem li_1618 : lkp tI312 1618 = some (.iadd, 1) := by decide +kernel
theorem li_1619 : lkp tI312 1619 = some (.iaload, 1) := by decide +kernel
theorem li_1620 : lkp tI312 1620 = some (.aload_n 0, 1) := by decide +kernel
theorem li_1621 : lkp tI312 1621 = some (.iload_n 3, 1) := by decide +kernel
theorem li_1622 : lkp tI312 1622 = some (.iconst 4, 1) := by decide +kernel
theorem li_1623 : lkp tI312 1623 = some (.iadd, 1) := by decide +kernel
theorem li_1624 : lkp tI312 1624 = some (.iaload, 1) := by decide +kernel
theorem li_1625 : lkp tI312 1625 = some (.aload_n 0, 1) := by decide +kernel
theorem li_1626 : lkp tI312 1626 = some (.iload_n 3, 1) := by decide +kernel
theorem li_1627 : lkp tI312 1627 = some (.iconst 5, 1) := by decide +kernel
theorem li_1628 : lkp tI312 1628 = some (.iadd, 1) := by decide +kernel
theorem li_1629 : lkp tI312 1629 = some (.iaload, 1) := by decide +kernel
theorem li_1630 : lkp tI312 1630 = some (.ifCond .eq 7, 3) := by decide +kernel
theorem li_1633 : lkp tI312 1633 = some (.iconst 1, 1) := by decide +kernel
theorem li_1634 : lkp tI312 1634 = some (.goto 4, 3) := by decide +kernel
theorem li_1637 : lkp tI312 1637 = some (.iconst 0, 1) := by decide +kernel
theorem li_1638 : lkp tI312 1638 = some (.invokevirtual 139, 3) := by decide +kernel
theorem li_1641 : lkp tI312 1641 = some (.if_icmp .eq 186, 3) := by decide +kernel
theorem li_1644 : lkp tI312 1644 = some (.iconst 0, 1) := by decide +kernel
theorem li_1645 : lkp tI312 1645 = some (.ireturn, 1) := by decide +kernel
theorem li_1646 : lkp tI312 1646 = some (.aload_n 1, 1) := by decide +kernel
theorem li_1647 : lkp tI312 1647 = some (.aload_n 0, 1) := by decide +kernel
theorem li_1648 : lkp tI312 1648 = some (.iload_n 3, 1) := by decide +kernel
theorem li_1649 : lkp tI312 1649 = some (.iconst 1, 1) := by decide +kernel
theorem li_1650 : lkp tI312 1650 = some (.iadd, 1) := by decide +kernel
theorem li_1651 : lkp tI312 1651 = some (.iaload, 1) := by decide +kernel
theorem li_1652 : lkp tI312 1652 = some (.aload_n 0, 1) := by decide +kernel
theorem li_1653 : lkp tI312 1653 = some (.iload_n 3, 1) := by decide +kernel
theorem li_1654 : lkp tI312 1654 = some (.iconst 2, 1) := by decide +kernel
theorem li_1655 : lkp tI312 1655 = some (.iadd, 1) := by decide +kernel
theorem li_1656 : lkp tI312 1656 = some (.iaload, 1) := by decide +kernel
theorem li_1657 : lkp tI312 1657 = some (.aload_n 0, 1) := by decide +kernel
theorem li_1658 : lkp tI312 1658 = some (.iload_n 3, 1) := by decide +kernel
theorem li_1659 : lkp tI312 1659 = some (.iconst 3, 1) := by decide +kernel
theorem li_1660 : lkp tI312 1660 = some (.iadd, 1) := by decide +kernel
theorem li_1661 : lkp tI312 1661 = some (.iaload, 1) := by decide +kernel
theorem li_1662 : lkp tI312 1662 = some (.aload_n 0, 1) := by decide +kernel
theorem li_1663 : lkp tI312 1663 = some (.iload_n 3, 1) := by decide +kernel
theorem li_1664 : lkp tI312 1664 = some (.iconst 4, 1) := by decide +kernel
theorem li_1665 : lkp tI312 1665 = some (.iadd, 1) := by decide +kernel
theorem li_1666 : lkp tI312 1666 = some (.iaload, 1) := by decide +kernel
theorem li_1667 : lkp tI312 1667 = some (.aload_n 0, 1) := by decide +kernel
theorem li_1668 : lkp tI312 1668 = some (.iload_n 3, 1) := by decide +kernel
theorem li_1669 : lkp tI312 1669 = some (.iconst 5, 1) := by decide +kernel
theorem li_1670 : lkp tI312 1670 = some (.iadd, 1) := by decide +kernel
theorem li_1671 : lkp tI312 1671 = some (.iaload, 1) := by decide +kernel
theorem li_1672 : lkp tI312 1672 = some (.ifCond .eq 7, 3) := by decide +kernel
theorem li_1675 : lkp tI312 1675 = some (.iconst 1, 1) := by decide +kernel
theorem li_1676 : lkp tI312 1676 = some (.goto 4, 3) := by decide +kernel
theorem li_1679 : lkp tI312 1679 = some (.iconst 0, 1) := by decide +kernel
theorem li_1680 : lkp tI312 1680 = some (.invokevirtual 140, 3) := by decide +kernel
theorem li_1683 : lkp tI312 1683 = some (.aload_n 2, 1) := by decide +kernel
theorem li_1684 : lkp tI312 1684 = some (.aload_n 0, 1) := by decide +kernel
theorem li_1685 : lkp tI312 1685 = some (.iload_n 3, 1) := by decide +kernel
theorem li_1686 : lkp tI312 1686 = some (.iconst 1, 1) := by decide +kernel
theorem li_1687 : lkp tI312 1687 = some (.iadd, 1) := by decide +kernel
theorem li_1688 : lkp tI312 1688 = some (.iaload, 1) := by decide +kernel
theorem li_1689 : lkp tI312 1689 = some (.aload_n 0, 1) := by decide +kernel
theorem li_1690 : lkp tI312 1690 = some (.iload_n 3, 1) := by decide +kernel
theorem li_1691 : lkp tI312 1691 = some (.iconst 2, 1) := by decide +kernel
theorem li_1692 : lkp tI312 1692 = some (.iadd, 1) := by decide +kernel
theorem li_1693 : lkp tI312 1693 = some (.iaload, 1) := by decide +kernel
theorem li_1694 : lkp tI312 1694 = some (.aload_n 0, 1) := by decide +kernel
theorem li_1695 : lkp tI312 1695 = some (.iload_n 3, 1) := by decide +kernel
theorem li_1696 : lkp tI312 1696 = some (.iconst 3, 1) := by decide +kernel
theorem li_1697 : lkp tI312 1697 = some (.iadd, 1) := by decide +kernel
theorem li_1698 : lkp tI312 1698 = some (.iaload, 1) := by decide +kernel
theorem li_1699 : lkp tI312 1699 = some (.aload_n 0, 1) := by decide +kernel
theorem li_1700 : lkp tI312 1700 = some (.iload_n 3, 1) := by decide +kernel
theorem li_1701 : lkp tI312 1701 = some (.iconst 4, 1) := by decide +kernel
theorem li_1702 : lkp tI312 1702 = some (.iadd, 1) := by decide +kernel
theorem li_1703 : lkp tI312 1703 = some (.iaload, 1) := by decide +kernel
theorem li_1704 : lkp tI312 1704 = some (.aload_n 0, 1) := by decide +kernel
theorem li_1705 : lkp tI312 1705 = some (.iload_n 3, 1) := by decide +kernel
theorem li_1706 : lkp tI312 1706 = some (.iconst 5, 1) := by decide +kernel
theorem li_1707 : lkp tI312 1707 = some (.iadd, 1) := by decide +kernel
theorem li_1708 : lkp tI312 1708 = some (.iaload, 1) := by decide +kernel
theorem li_1709 : lkp tI312 1709 = some (.ifCond .eq 7, 3) := by decide +kernel
theorem li_1712 : lkp tI312 1712 = some (.iconst 1, 1) := by decide +kernel
theorem li_1713 : lkp tI312 1713 = some (.goto 4, 3) := by decide +kernel
theorem li_1716 : lkp tI312 1716 = some (.iconst 0, 1) := by decide +kernel
theorem li_1717 : lkp tI312 1717 = some (.invokevirtual 143, 3) := by decide +kernel
theorem li_1720 : lkp tI312 1720 = some (.if_icmp .eq 107, 3) := by decide +kernel
theorem li_1723 : lkp tI312 1723 = some (.iconst 0, 1) := by decide +kernel
theorem li_1724 : lkp tI312 1724 = some (.ireturn, 1) := by decide +kernel
theorem li_1725 : lkp tI312 1725 = some (.aload_n 1, 1) := by decide +kernel
theorem li_1726 : lkp tI312 1726 = some (.aload_n 0, 1) := by decide +kernel
theorem li_1727 : lkp tI312 1727 = some (.iload_n 3, 1) := by decide +kernel
theorem li_1728 : lkp tI312 1728 = some (.iconst 1, 1) := by decide +kernel
theorem li_1729 : lkp tI312 1729 = some (.iadd, 1) := by decide +kernel
theorem li_1730 : lkp tI312 1730 = some (.iaload, 1) := by decide +kernel
theorem li_1731 : lkp tI312 1731 = some (.aload_n 0, 1) := by decide +kernel
theorem li_1732 : lkp tI312 1732 = some (.iload_n 3, 1) := by decide +kernel
theorem li_1733 : lkp tI312 1733 = some (.iconst 2, 1) := by decide +kernel
theorem li_1734 : lkp tI312 1734 = some (.iadd, 1) := by decide +kernel
theorem li_1735 : lkp tI312 1735 = some (.iaload, 1) := by decide +kernel
theorem li_1736 : lkp tI312 1736 = some (.invokevirtual 144, 3) := by decide +kernel
theorem li_1739 : lkp tI312 1739 = some (.aload_n 2, 1) := by decide +kernel
theorem li_1740 : lkp tI312 1740 = some (.aload_n 0, 1) := by decide +kernel
theorem li_1741 : lkp tI312 1741 = some (.iload_n 3, 1) := by decide +kernel
theorem li_1742 : lkp tI312 1742 = some (.iconst 1, 1) := by decide +kernel
theorem li_1743 : lkp tI312 1743 = some (.iadd, 1) := by decide +kernel
theorem li_1744 : lkp tI312 1744 = some (.iaload, 1) := by decide +kernel
theorem li_1745 : lkp tI312 1745 = some (.aload_n 0, 1) := by decide +kernel
theorem li_1746 : lkp tI312 1746 = some (.iload_n 3, 1) := by decide +kernel
theorem li_1747 : lkp tI312 1747 = some (.iconst 2, 1) := by decide +kernel
theorem li_1748 : lkp tI312 1748 = some (.iadd, 1) := by decide +kernel
theorem li_1749 : lkp tI312 1749 = some (.iaload, 1) := by decide +kernel
theorem li_1750 : lkp tI312 1750 = some (.invokevirtual 147, 3) := by decide +kernel
theorem li_1753 : lkp tI312 1753 = some (.if_icmp .eq 74, 3) := by decide +kernel
theorem li_1756 : lkp tI312 1756 = some (.iconst 0, 1) := by decide +kernel
theorem li_1757 : lkp tI312 1757 = some (.ireturn, 1) := by decide +kernel
theorem li_1758 : lkp tI312 1758 = some (.aload_n 1, 1) := by decide +kernel
theorem li_1759 : lkp tI312 1759 = some (.aload_n 0, 1) := by decide +kernel
theorem li_1760 : lkp tI312 1760 = some (.iload_n 3, 1) := by decide +kernel
theorem li_1761 : lkp tI312 1761 = some (.iconst 1, 1) := by decide +kernel
theorem li_1762 : lkp tI312 1762 = some (.iadd, 1) := by decide +kernel
theorem li_1763 : lkp tI312 1763 = some (.iaload, 1) := by decide +kernel
theorem li_1764 : lkp tI312 1764 = some (.invokevirtual 148, 3) := by decide +kernel
theorem li_1767 : lkp tI312 1767 = some (.aload_n 2, 1) := by decide +kernel
theorem li_1768 : lkp tI312 1768 = some (.aload_n 0, 1) := by decide +kernel
theorem li_1769 : lkp tI312 1769 = some (.iload_n 3, 1) := by decide +kernel
theorem li_1770 : lkp tI312 1770 = some (.iconst 1, 1) := by decide +kernel
theorem li_1771 : lkp tI312 1771 = some (.iadd, 1) := by decide +kernel
theorem li_1772 : lkp tI312 1772 = some (.iaload, 1) := by decide +kernel
theorem li_1773 : lkp tI312 1773 = some (.invokevirtual 151, 3) := by decide +kernel
theorem li_1776 : lkp tI312 1776 = some (.if_icmp .eq 51, 3) := by decide +kernel
theorem li_1779 : lkp tI312 1779 = some (.iconst 0, 1) := by decide +kernel
theorem li_1780 : lkp tI312 1780 = some (.ireturn, 1) := by decide +kernel
theorem li_1781 : lkp tI312 1781 = some (.aload_n 1, 1) := by decide +kernel
theorem li_1782 : lkp tI312 1782 = some (.aload_n 0, 1) := by decide +kernel
theorem li_1783 : lkp tI312 1783 = some (.iload_n 3, 1) := by decide +kernel
theorem li_1784 : lkp tI312 1784 = some (.iconst 1, 1) := by decide +kernel
theorem li_1785 : lkp tI312 1785 = some (.iadd, 1) := by decide +kernel
theorem li_1786 : lkp tI312 1786 = some (.iaload, 1) := by decide +kernel
theorem li_1787 : lkp tI312 1787 = some (.invokevirtual 152, 3) := by decide +kernel
theorem li_1790 : lkp tI312 1790 = some (.aload_n 2, 1) := by decide +kernel
theorem li_1791 : lkp tI312 1791 = some (.aload_n 0, 1) := by decide +kernel
theorem li_1792 : lkp tI312 1792 = some (.iload_n 3, 1) := by decide +kernel
theorem li_1793 : lkp tI312 1793 = some (.iconst 1, 1) := by decide +kernel
theorem li_1794 : lkp tI312 1794 = some (.iadd, 1) := by decide +kernel
theorem li_1795 : lkp tI312 1795 = some (.iaload, 1) := by decide +kernel
theorem li_1796 : lkp tI312 1796 = some (.invokevirtual 156, 3) := by decide +kernel
theorem li_1799 : lkp tI312 1799 = some (.if_icmp .eq 28, 3) := by decide +kernel
theorem li_1802 : lkp tI312 1802 = some (.iconst 0, 1) := by decide +kernel
theorem li_1803 : lkp tI312 1803 = some (.ireturn, 1) := by decide +kernel
theorem li_1804 : lkp tI312 1804 = some (.aload_n 1, 1) := by decide +kernel
theorem li_1805 : lkp tI312 1805 = some (.aload_n 0, 1) := by decide +kernel
theorem li_1806 : lkp tI312 1806 = some (.iload_n 3, 1) := by decide +kernel
theorem li_1807 : lkp tI312 1807 = some (.iconst 1, 1) := by decide +kernel
theorem li_1808 : lkp tI312 1808 = some (.iadd, 1) := by decide +kernel
theorem li_1809 : lkp tI312 1809 = some (.iaload, 1) := by decide +kernel
theorem li_1810 : lkp tI312 1810 = some (.invokevirtual 157, 3) := by decide +kernel
theorem li_1813 : lkp tI312 1813 = some (.aload_n 2, 1) := by decide +kernel
theorem li_1814 : lkp tI312 1814 = some (.aload_n 0, 1) := by decide +kernel
theorem li_1815 : lkp tI312 1815 = some (.iload_n 3, 1) := by decide +kernel
theorem li_1816 : lkp tI312 1816 = some (.iconst 1, 1) := by decide +kernel
theorem li_1817 : lkp tI312 1817 = some (.iadd, 1) := by decide +kernel
theorem li_1818 : lkp tI312 1818 = some (.iaload, 1) := by decide +kernel
theorem li_1819 : lkp tI312 1819 = some (.invokevirtual 160, 3) := by decide +kernel
theorem li_1822 : lkp tI312 1822 = some (.if_icmp .eq 5, 3) := by decide +kernel
theorem li_1825 : lkp tI312 1825 = some (.iconst 0, 1) := by decide +kernel
theorem li_1826 : lkp tI312 1826 = some (.ireturn, 1) := by decide +kernel
theorem li_1827 : lkp tI312 1827 = some (.iinc 3 7, 3) := by decide +kernel
theorem li_1830 : lkp tI312 1830 = some (.goto (-1812), 3) := by decide +kernel
theorem li_1833 : lkp tI312 1833 = some (.iconst 1, 1) := by decide +kernel
theorem li_1834 : lkp tI312 1834 = some (.ireturn, 1) := by decide +kernel
theorem e312 {E : (Nat → Value) × (Nat → Nat)} {lo d : Nat} {μ : rM} (a0 : Nat) : cl E lo (d + 1) 312 [.ref a0] μ = ex PG E lo d 312 0 [some (.ref a0), none, none, none] [] μ := rfl
set_option maxRecDepth 20000 in
theorem b312_0 {E : (Nat → Value) × (Nat → Nat)} {lo d : Nat} {μ : rM} (a0 : Nat) : ex PG E lo d 312 0 [some (.ref a0), none, none, none] [] μ = (cl E lo d 121 [.ref (rz μ)] (nw μ (.inl 11) 9)).bind fun z => ex PG E lo d 312 7 [some (.ref a0), none, none, none] (z.1.toList ++ [.ref (rz μ)]) z.2 := (x_new (c := 11) (n := 9) (pc := 0) mI312 li_0 rfl rfl).trans ((x_dup (pc := 3) mI312 li_3 rfl).trans (x_invI (i := 9) (j := 121) (n := 0) (m := 2) (pc := 4) mI312 li_4 (by decide) rfl rfl rfl))
set_option maxRecDepth 20000 in
theorem b312_7 {E : (Nat → Value) × (Nat → Nat)} {lo d : Nat} {μ : rM} (a0 : Nat) (c0 : Nat) : ex PG E lo d 312 7 [some (.ref a0), none, none, none] [.ref c0] μ = (cl E lo d 167 [.ref (rz μ)] (nw μ (.inl 12) 53)).bind fun z => ex PG E lo d 312 15 [some (.ref a0), some (.ref c0), none, none] (z.1.toList ++ [.ref (rz μ)]) z.2 := (x_astore_n (ls' := [some (.ref a0), some (.ref c0), none, none]) (pc := 7) mI312 li_7 rfl rfl).trans ((x_new (c := 12) (n := 53) (pc := 8) mI312 li_8 rfl rfl).trans ((x_dup (pc := 11) mI312 li_11 rfl).trans (x_invI (i := 12) (j := 167) (n := 0) (m := 2) (pc := 12) mI312 li_12 (by decide) rfl rfl rfl)))
set_option maxRecDepth 20000 in
theorem b312_15 {E : (Nat → Value) × (Nat → Nat)} {lo d : Nat} {μ : rM} (a0 : Nat) (a1 : Nat) (c0 : Nat) : ex PG E lo d 312 15 [some (.ref a0), some (.ref a1), none, none] [.ref c0] μ = ex PG E lo d 312 18 [some (.ref a0), some (.ref a1), some (.ref c0), some (.int (0 : Int32))] [] μ := (x_astore_n (ls' := [some (.ref a0), some (.ref a1), some (.ref c0), none]) (pc := 15) mI312 li_15 rfl rfl).trans ((x_iconst (pc := 16) mI312 li_16 ic0).trans (x_istore_n (ls' := [some (.ref a0), some (.ref a1), some (.ref c0), some (.int (0 : Int32))]) (pc := 17) mI312 li_17 rfl rfl))
set_option maxRecDepth 20000 in
theorem b312_18 {E : (Nat → Value) × (Nat → Nat)} {lo d : Nat} {μ : rM} (a0 : Nat) (a1 : Nat) (a2 : Nat) (x3 : Int32) : ex PG E lo d 312 18 [some (.ref a0), some (.ref a1), some (.ref a2), some (.int x3)] [] μ = alen μ a0 (fun n1 => if ((Int32.ofNat n1) - (7 : Int32)) < x3 then ex PG E lo d 312 1833 [some (.ref a0), some (.ref a1), some (.ref a2), some (.int x3)] [] μ else ex PG E lo d 312 27 [some (.ref a0), some (.ref a1), some (.ref a2), some (.int x3)] [] μ) := (x_iload_n (n := 3) (pc := 18) mI312 li_18 rfl).trans ((x_aload_n (n := 0) (pc := 19) mI312 li_19 rfl).trans ((x_alen (pc := 20) mI312 li_20).trans (congrArg (alen μ a0) (funext fun n1 => ((x_bipush (pc := 21) mI312 li_21 bp7).trans ((x_isub (pc := 23) mI312 li_23).trans (x_cmpgt (t := 1833) (pc := 24) mI312 li_24 (by decide))))))))
set_option maxRecDepth 20000 in
theorem b312_27 {E : (Nat → Value) × (Nat → Nat)} {lo d : Nat} {μ : rM} (a0 : Nat) (a1 : Nat) (a2 : Nat) (x3 : Int32) : ex PG E lo d 312 27 [some (.ref a0), some (.ref a1), some (.ref a2), some (.int x3)] [] μ = rdA μ a0 0 x3 (tsw ((ri μ a0 (Int32.toNatClampNeg x3)) &&& (63 : Int32)) 0 [ex PG E lo d 312 184 [some (.ref a0), some (.ref a1), some (.ref a2), some (.int x3)] [] μ, ex PG E lo d 312 247 [some (.ref a0), some (.ref a1), some (.ref a2), some (.int x3)] [] μ, ex PG E lo d 312 270 [some (.ref a0), some (.ref a1), some (.ref a2), some (.int x3)] [] μ, ex PG E lo d 312 303 [some (.ref a0), some (.ref a1), some (.ref a2), some (.int x3)] [] μ, ex PG E lo d 312 326 [some (.ref a0), some (.ref a1), some (.ref a2), some (.int x3)] [] μ, ex PG E lo d 312 359 [some (.ref a0), some (.ref a1), some (.ref a2), some (.int x3)] [] μ, ex PG E lo d 312 402 [some (.ref a0), some (.ref a1), some (.ref a2), some (.int x3)] [] μ, ex PG E lo d 312 445 [some (.ref a0), some (.ref a1), some (.ref a2), some (.int x3)] [] μ, ex PG E lo d 312 488 [some (.ref a0), some (.ref a1), some (.ref a2), some (.int x3)] [] μ, ex PG E lo d 312 521 [some (.ref a0), some (.ref a1), some (.ref a2), some (.int x3)] [] μ, ex PG E lo d 312 564 [some (.ref a0), some (.ref a1), some (.ref a2), some (.int x3)] [] μ, ex PG E lo d 312 597 [some (.ref a0), some (.ref a1), some (.ref a2), some (.int x3)] [] μ, ex PG E lo d 312 660 [some (.ref a0), some (.ref a1), some (.ref a2), some (.int x3)] [] μ, ex PG E lo d 312 703 [some (.ref a0), some (.ref a1), some (.ref a2), some (.int x3)] [] μ, ex PG E lo d 312 756 [some (.ref a0), some (.ref a1), some (.ref a2), some (.int x3)] [] μ, ex PG E lo d 312 835 [some (.ref a0), some (.ref a1), some (.ref a2), some (.int x3)] [] μ, ex PG E lo d 312 878 [some (.ref a0), some (.ref a1), some (.ref a2), some (.int x3)] [] μ, ex PG E lo d 312 921 [some (.ref a0), some (.ref a1), some (.ref a2), some (.int x3)] [] μ, ex PG E lo d 312 954 [some (.ref a0), some (.ref a1), some (.ref a2), some (.int x3)] [] μ, ex PG E lo d 312 1018 [some (.ref a0), some (.ref a1), some (.ref a2), some (.int x3)] [] μ, ex PG E lo d 312 1071 [some (.ref a0), some (.ref a1), some (.ref a2), some (.int x3)] [] μ, ex PG E lo d 312 1120 [some (.ref a0), some (.ref a1), some (.ref a2), some (.int x3)] [] μ, ex PG E lo d 312 1189 [some (.ref a0), some (.ref a1), some (.ref a2), some (.int x3)] [] μ, ex PG E lo d 312 1252 [some (.ref a0), some (.ref a1), some (.ref a2), some (.int x3)] [] μ, ex PG E lo d 312 1321 [some (.ref a0), some (.ref a1), some (.ref a2), some (.int x3)] [] μ, ex PG E lo d 312 1396 [some (.ref a0), some (.ref a1), some (.ref a2), some (.int x3)] [] μ, ex PG E lo d 312 1455 [some (.ref a0), some (.ref a1), some (.ref a2), some (.int x3)] [] μ, ex PG E lo d 312 1488 [some (.ref a0), some (.ref a1), some (.ref a2), some (.int x3)] [] μ, ex PG E lo d 312 1567 [some (.ref a0), some (.ref a1), some (.ref a2), some (.int x3)] [] μ, ex PG E lo d 312 1646 [some (.ref a0), some (.ref a1), some (.ref a2), some (.int x3)] [] μ, ex PG E lo d 312 1725 [some (.ref a0), some (.ref a1), some (.ref a2), some (.int x3)] [] μ, ex PG E lo d 312 1758 [some (.ref a0), some (.ref a1), some (.ref a2), some (.int x3)] [] μ, ex PG E lo d 312 1781 [some (.ref a0), some (.ref a1), some (.ref a2), some (.int x3)] [] μ, ex PG E lo d 312 1804 [some (.ref a0), some (.ref a1), some (.ref a2), some (.int x3)] [] μ] (ex PG E lo d 312 1827 [some (.ref a0), some (.ref a1), some (.ref a2), some (.int x3)] [] μ)) := (x_aload_n (n := 0) (pc := 27) mI312 li_27 rfl).trans ((x_iload_n (n := 3) (pc := 28) mI312 li_28 rfl).trans ((x_iald (pc := 29) mI312 li_29).trans (congrArg (rdA μ a0 0 x3) ((x_bipush (pc := 30) mI312 li_30 bp63).trans ((x_iand (pc := 32) mI312 li_32).trans (x_tsw (tf := 1827) (L := [184, 247, 270, 303, 326, 359, 402, 445, 488, 521, 564, 597, 660, 703, 756, 835, 878, 921, 954, 1018, 1071, 1120, 1189, 1252, 1321, 1396, 1455, 1488, 1567, 1646, 1725, 1758, 1781, 1804]) (pc := 33) mI312 li_33 (by decide) (by decide) (by decide)))))))
set_option maxRecDepth 20000 in
theorem b312_184 {E : (Nat → Value) × (Nat → Nat)} {lo d : Nat} {μ : rM} (a0 : Nat) (a1 : Nat) (a2 : Nat) (x3 : Int32) : ex PG E lo d 312 184 [some (.ref a0), some (.ref a1), some (.ref a2), some (.int x3)] [] μ = rdA μ a0 0 (x3 + (1 : Int32)) (rdA μ a0 0 (x3 + (2 : Int32)) (rdA μ a0 0 (x3 + (3 : Int32)) (rdA μ a0 0 (x3 + (4 : Int32)) (rdA μ a0 0 (x3 + (5 : Int32)) (gO μ a1 11 ((cl E lo d 122 [.ref a1, .int (ri μ a0 (Int32.toNatClampNeg (x3 + (1 : Int32)))), .int (ri μ a0 (Int32.toNatClampNeg (x3 + (2 : Int32)))), .int (ri μ a0 (Int32.toNatClampNeg (x3 + (3 : Int32)))), .int (ri μ a0 (Int32.toNatClampNeg (x3 + (4 : Int32)))), .int (ri μ a0 (Int32.toNatClampNeg (x3 + (5 : Int32))))] μ).bind fun z => ex PG E lo d 312 213 [some (.ref a0), some (.ref a1), some (.ref a2), some (.int x3)] (z.1.toList ++ []) z.2)))))) := (x_aload_n (n := 1) (pc := 184) mI312 li_184 rfl).trans ((x_aload_n (n := 0) (pc := 185) mI312 li_185 rfl).trans ((x_iload_n (n := 3) (pc := 186) mI312 li_186 rfl).trans ((x_iconst (pc := 187) mI312 li_187 ic1).trans ((x_iadd (pc := 188) mI312 li_188).trans ((x_iald (pc := 189) mI312 li_189).trans (congrArg (rdA μ a0 0 (x3 + (1 : Int32))) ((x_aload_n (n := 0) (pc := 190) mI312 li_190 rfl).trans ((x_iload_n (n := 3) (pc := 191) mI312 li_191 rfl).trans ((x_iconst (pc := 192) mI312 li_192 ic2).trans ((x_iadd (pc := 193) mI312 li_193).trans ((x_iald (pc := 194) mI312 li_194).trans (congrArg (rdA μ a0 0 (x3 + (2 : Int32))) ((x_aload_n (n := 0) (pc := 195) mI312 li_195 rfl).trans ((x_iload_n (n := 3) (pc := 196) mI312 li_196 rfl).trans ((x_iconst (pc := 197) mI312 li_197 ic3).trans ((x_iadd (pc := 198) mI312 li_198).trans ((x_iald (pc := 199) mI312 li_199).trans (congrArg (rdA μ a0 0 (x3 + (3 : Int32))) ((x_aload_n (n := 0) (pc := 200) mI312 li_200 rfl).trans ((x_iload_n (n := 3) (pc := 201) mI312 li_201 rfl).trans ((x_iconst (pc := 202) mI312 li_202 ic4).trans ((x_iadd (pc := 203) mI312 li_203).trans ((x_iald (pc := 204) mI312 li_204).trans (congrArg (rdA μ a0 0 (x3 + (4 : Int32))) ((x_aload_n (n := 0) (pc := 205) mI312 li_205 rfl).trans ((x_iload_n (n := 3) (pc := 206) mI312 li_206 rfl).trans ((x_iconst (pc := 207) mI312 li_207 ic5).trans ((x_iadd (pc := 208) mI312 li_208).trans ((x_iald (pc := 209) mI312 li_209).trans (congrArg (rdA μ a0 0 (x3 + (5 : Int32))) (x_invV (i := 13) (j := 122) (n := 5) (c := 11) (pc := 210) mI312 li_210 rfl rfl rfl rfl)))))))))))))))))))))))))))))))
set_option maxRecDepth 20000 in
theorem b312_213 {E : (Nat → Value) × (Nat → Nat)} {lo d : Nat} {μ : rM} (a0 : Nat) (a1 : Nat) (a2 : Nat) (x3 : Int32) (y0 : Int32) : ex PG E lo d 312 213 [some (.ref a0), some (.ref a1), some (.ref a2), some (.int x3)] [.int y0] μ = rdA μ a0 0 (x3 + (1 : Int32)) (rdA μ a0 0 (x3 + (2 : Int32)) (rdA μ a0 0 (x3 + (3 : Int32)) (rdA μ a0 0 (x3 + (4 : Int32)) (rdA μ a0 0 (x3 + (5 : Int32)) (gO μ a2 12 ((cl E lo d 169 [.ref a2, .int (ri μ a0 (Int32.toNatClampNeg (x3 + (1 : Int32)))), .int (ri μ a0 (Int32.toNatClampNeg (x3 + (2 : Int32)))), .int (ri μ a0 (Int32.toNatClampNeg (x3 + (3 : Int32)))), .int (ri μ a0 (Int32.toNatClampNeg (x3 + (4 : Int32)))), .int (ri μ a0 (Int32.toNatClampNeg (x3 + (5 : Int32))))] μ).bind fun z => ex PG E lo d 312 242 [some (.ref a0), some (.ref a1), some (.ref a2), some (.int x3)] (z.1.toList ++ [.int y0]) z.2)))))) := (x_aload_n (n := 2) (pc := 213) mI312 li_213 rfl).trans ((x_aload_n (n := 0) (pc := 214) mI312 li_214 rfl).trans ((x_iload_n (n := 3) (pc := 215) mI312 li_215 rfl).trans ((x_iconst (pc := 216) mI312 li_216 ic1).trans ((x_iadd (pc := 217) mI312 li_217).trans ((x_iald (pc := 218) mI312 li_218).trans (congrArg (rdA μ a0 0 (x3 + (1 : Int32))) ((x_aload_n (n := 0) (pc := 219) mI312 li_219 rfl).trans ((x_iload_n (n := 3) (pc := 220) mI312 li_220 rfl).trans ((x_iconst (pc := 221) mI312 li_221 ic2).trans ((x_iadd (pc := 222) mI312 li_222).trans ((x_iald (pc := 223) mI312 li_223).trans (congrArg (rdA μ a0 0 (x3 + (2 : Int32))) ((x_aload_n (n := 0) (pc := 224) mI312 li_224 rfl).trans ((x_iload_n (n := 3) (pc := 225) mI312 li_225 rfl).trans ((x_iconst (pc := 226) mI312 li_226 ic3).trans ((x_iadd (pc := 227) mI312 li_227).trans ((x_iald (pc := 228) mI312 li_228).trans (congrArg (rdA μ a0 0 (x3 + (3 : Int32))) ((x_aload_n (n := 0) (pc := 229) mI312 li_229 rfl).trans ((x_iload_n (n := 3) (pc := 230) mI312 li_230 rfl).trans ((x_iconst (pc := 231) mI312 li_231 ic4).trans ((x_iadd (pc := 232) mI312 li_232).trans ((x_iald (pc := 233) mI312 li_233).trans (congrArg (rdA μ a0 0 (x3 + (4 : Int32))) ((x_aload_n (n := 0) (pc := 234) mI312 li_234 rfl).trans ((x_iload_n (n := 3) (pc := 235) mI312 li_235 rfl).trans ((x_iconst (pc := 236) mI312 li_236 ic5).trans ((x_iadd (pc := 237) mI312 li_237).trans ((x_iald (pc := 238) mI312 li_238).trans (congrArg (rdA μ a0 0 (x3 + (5 : Int32))) (x_invV (i := 17) (j := 169) (n := 5) (c := 12) (pc := 239) mI312 li_239 rfl rfl rfl rfl)))))))))))))))))))))))))))))))
set_option maxRecDepth 20000 in
theorem b312_242 {E : (Nat → Value) × (Nat → Nat)} {lo d : Nat} {μ : rM} (a0 : Nat) (a1 : Nat) (a2 : Nat) (x3 : Int32) (y0 : Int32) (y1 : Int32) : ex PG E lo d 312 242 [some (.ref a0), some (.ref a1), some (.ref a2), some (.int x3)] [.int y1, .int y0] μ = if y0 = y1 then ex PG E lo d 312 1827 [some (.ref a0), some (.ref a1), some (.ref a2), some (.int x3)] [] μ else ex PG E lo d 312 245 [some (.ref a0), some (.ref a1), some (.ref a2), some (.int x3)] [] μ := x_cmpeq (t := 1827) (pc := 242) mI312 li_242 (by decide)
set_option maxRecDepth 20000 in
theorem b312_245 {E : (Nat → Value) × (Nat → Nat)} {lo d : Nat} {μ : rM} (a0 : Nat) (a1 : Nat) (a2 : Nat) (x3 : Int32) : ex PG E lo d 312 245 [some (.ref a0), some (.ref a1), some (.ref a2), some (.int x3)] [] μ = if (0 : Int32) = 0 ∨ (0 : Int32) = 1 then some (some (.int (0 : Int32)), μ) else none := (x_iconst (pc := 245) mI312 li_245 ic0).trans (x_zret (pc := 246) mI312 li_246 rfl)
set_option maxRecDepth 20000 in
theorem b312_247 {E : (Nat → Value) × (Nat → Nat)} {lo d : Nat} {μ : rM} (a0 : Nat) (a1 : Nat) (a2 : Nat) (x3 : Int32) : ex PG E lo d 312 247 [some (.ref a0), some (.ref a1), some (.ref a2), some (.int x3)] [] μ = rdA μ a0 0 (x3 + (1 : Int32)) (gO μ a1 11 ((cl E lo d 123 [.ref a1, .int (ri μ a0 (Int32.toNatClampNeg (x3 + (1 : Int32))))] μ).bind fun z => ex PG E lo d 312 256 [some (.ref a0), some (.ref a1), some (.ref a2), some (.int x3)] (z.1.toList ++ []) z.2)) := (x_aload_n (n := 1) (pc := 247) mI312 li_247 rfl).trans ((x_aload_n (n := 0) (pc := 248) mI312 li_248 rfl).trans ((x_iload_n (n := 3) (pc := 249) mI312 li_249 rfl).trans ((x_iconst (pc := 250) mI312 li_250 ic1).trans ((x_iadd (pc := 251) mI312 li_251).trans ((x_iald (pc := 252) mI312 li_252).trans (congrArg (rdA μ a0 0 (x3 + (1 : Int32))) (x_invV (i := 18) (j := 123) (n := 1) (c := 11) (pc := 253) mI312 li_253 rfl rfl rfl rfl)))))))
set_option maxRecDepth 20000 in
theorem b312_256 {E : (Nat → Value) × (Nat → Nat)} {lo d : Nat} {μ : rM} (a0 : Nat) (a1 : Nat) (a2 : Nat) (x3 : Int32) (y0 : Int32) : ex PG E lo d 312 256 [some (.ref a0), some (.ref a1), some (.ref a2), some (.int x3)] [.int y0] μ = rdA μ a0 0 (x3 + (1 : Int32)) (gO μ a2 12 ((cl E lo d 170 [.ref a2, .int (ri μ a0 (Int32.toNatClampNeg (x3 + (1 : Int32))))] μ).bind fun z => ex PG E lo d 312 265 [some (.ref a0), some (.ref a1), some (.ref a2), some (.int x3)] (z.1.toList ++ [.int y0]) z.2)) := (x_aload_n (n := 2) (pc := 256) mI312 li_256 rfl).trans ((x_aload_n (n := 0) (pc := 257) mI312 li_257 rfl).trans ((x_iload_n (n := 3) (pc := 258) mI312 li_258 rfl).trans ((x_iconst (pc := 259) mI312 li_259 ic1).trans ((x_iadd (pc := 260) mI312 li_260).trans ((x_iald (pc := 261) mI312 li_261).trans (congrArg (rdA μ a0 0 (x3 + (1 : Int32))) (x_invV (i := 22) (j := 170) (n := 1) (c := 12) (pc := 262) mI312 li_262 rfl rfl rfl rfl)))))))
set_option maxRecDepth 20000 in
theorem b312_265 {E : (Nat → Value) × (Nat → Nat)} {lo d : Nat} {μ : rM} (a0 : Nat) (a1 : Nat) (a2 : Nat) (x3 : Int32) (y0 : Int32) (y1 : Int32) : ex PG E lo d 312 265 [some (.ref a0), some (.ref a1), some (.ref a2), some (.int x3)] [.int y1, .int y0] μ = if y0 = y1 then ex PG E lo d 312 1827 [some (.ref a0), some (.ref a1), some (.ref a2), some (.int x3)] [] μ else ex PG E lo d 312 268 [some (.ref a0), some (.ref a1), some (.ref a2), some (.int x3)] [] μ := x_cmpeq (t := 1827) (pc := 265) mI312 li_265 (by decide)
set_option maxRecDepth 20000 in
theorem b312_268 {E : (Nat → Value) × (Nat → Nat)} {lo d : Nat} {μ : rM} (a0 : Nat) (a1 : Nat) (a2 : Nat) (x3 : Int32) : ex PG E lo d 312 268 [some (.ref a0), some (.ref a1), some (.ref a2), some (.int x3)] [] μ = if (0 : Int32) = 0 ∨ (0 : Int32) = 1 then some (some (.int (0 : Int32)), μ) else none := (x_iconst (pc := 268) mI312 li_268 ic0).trans (x_zret (pc := 269) mI312 li_269 rfl)
set_option maxRecDepth 20000 in
theorem b312_270 {E : (Nat → Value) × (Nat → Nat)} {lo d : Nat} {μ : rM} (a0 : Nat) (a1 : Nat) (a2 : Nat) (x3 : Int32) : ex PG E lo d 312 270 [some (.ref a0), some (.ref a1), some (.ref a2), some (.int x3)] [] μ = rdA μ a0 0 (x3 + (1 : Int32)) (rdA μ a0 0 (x3 + (2 : Int32)) (gO μ a1 11 ((cl E lo d 124 [.ref a1, .int (ri μ a0 (Int32.toNatClampNeg (x3 + (1 : Int32)))), .int (ri μ a0 (Int32.toNatClampNeg (x3 + (2 : Int32))))] μ).bind fun z => ex PG E lo d 312 284 [some (.ref a0), some (.ref a1), some (.ref a2), some (.int x3)] (z.1.toList ++ []) z.2))) := (x_aload_n (n := 1) (pc := 270) mI312 li_270 rfl).trans ((x_aload_n (n := 0) (pc := 271) mI312 li_271 rfl).trans ((x_iload_n (n := 3) (pc := 272) mI312 li_272 rfl).trans ((x_iconst (pc := 273) mI312 li_273 ic1).trans ((x_iadd (pc := 274) mI312 li_274).trans ((x_iald (pc := 275) mI312 li_275).trans (congrArg (rdA μ a0 0 (x3 + (1 : Int32))) ((x_aload_n (n := 0) (pc := 276) mI312 li_276 rfl).trans ((x_iload_n (n := 3) (pc := 277) mI312 li_277 rfl).trans ((x_iconst (pc := 278) mI312 li_278 ic2).trans ((x_iadd (pc := 279) mI312 li_279).trans ((x_iald (pc := 280) mI312 li_280).trans (congrArg (rdA μ a0 0 (x3 + (2 : Int32))) (x_invV (i := 23) (j := 124) (n := 2) (c := 11) (pc := 281) mI312 li_281 rfl rfl rfl rfl)))))))))))))
set_option maxRecDepth 20000 in
theorem b312_284 {E : (Nat → Value) × (Nat → Nat)} {lo d : Nat} {μ : rM} (a0 : Nat) (a1 : Nat) (a2 : Nat) (x3 : Int32) (y0 : Int32) : ex PG E lo d 312 284 [some (.ref a0), some (.ref a1), some (.ref a2), some (.int x3)] [.int y0] μ = rdA μ a0 0 (x3 + (1 : Int32)) (rdA μ a0 0 (x3 + (2 : Int32)) (gO μ a2 12 ((cl E lo d 199 [.ref a2, .int (ri μ a0 (Int32.toNatClampNeg (x3 + (1 : Int32)))), .int (ri μ a0 (Int32.toNatClampNeg (x3 + (2 : Int32))))] μ).bind fun z => ex PG E lo d 312 298 [some (.ref a0), some (.ref a1), some (.ref a2), some (.int x3)] (z.1.toList ++ [.int y0]) z.2))) := (x_aload_n (n := 2) (pc := 284) mI312 li_284 rfl).trans ((x_aload_n (n := 0) (pc := 285) mI312 li_285 rfl).trans ((x_iload_n (n := 3) (pc := 286) mI312 li_286 rfl).trans ((x_iconst (pc := 287) mI312 li_287 ic1).trans ((x_iadd (pc := 288) mI312 li_288).trans ((x_iald (pc := 289) mI312 li_289).trans (congrArg (rdA μ a0 0 (x3 + (1 : Int32))) ((x_aload_n (n := 0) (pc := 290) mI312 li_290 rfl).trans ((x_iload_n (n := 3) (pc := 291) mI312 li_291 rfl).trans ((x_iconst (pc := 292) mI312 li_292 ic2).trans ((x_iadd (pc := 293) mI312 li_293).trans ((x_iald (pc := 294) mI312 li_294).trans (congrArg (rdA μ a0 0 (x3 + (2 : Int32))) (x_invV (i := 27) (j := 199) (n := 2) (c := 12) (pc := 295) mI312 li_295 rfl rfl rfl rfl)))))))))))))
set_option maxRecDepth 20000 in
theorem b312_298 {E : (Nat → Value) × (Nat → Nat)} {lo d : Nat} {μ : rM} (a0 : Nat) (a1 : Nat) (a2 : Nat) (x3 : Int32) (y0 : Int32) (y1 : Int32) : ex PG E lo d 312 298 [some (.ref a0), some (.ref a1), some (.ref a2), some (.int x3)] [.int y1, .int y0] μ = if y0 = y1 then ex PG E lo d 312 1827 [some (.ref a0), some (.ref a1), some (.ref a2), some (.int x3)] [] μ else ex PG E lo d 312 301 [some (.ref a0), some (.ref a1), some (.ref a2), some (.int x3)] [] μ := x_cmpeq (t := 1827) (pc := 298) mI312 li_298 (by decide)
set_option maxRecDepth 20000 in
theorem b312_301 {E : (Nat → Value) × (Nat → Nat)} {lo d : Nat} {μ : rM} (a0 : Nat) (a1 : Nat) (a2 : Nat) (x3 : Int32) : ex PG E lo d 312 301 [some (.ref a0), some (.ref a1), some (.ref a2), some (.int x3)] [] μ = if (0 : Int32) = 0 ∨ (0 : Int32) = 1 then some (some (.int (0 : Int32)), μ) else none := (x_iconst (pc := 301) mI312 li_301 ic0).trans (x_zret (pc := 302) mI312 li_302 rfl)
set_option maxRecDepth 20000 in
theorem b312_303 {E : (Nat → Value) × (Nat → Nat)} {lo d : Nat} {μ : rM} (a0 : Nat) (a1 : Nat) (a2 : Nat) (x3 : Int32) : ex PG E lo d 312 303 [some (.ref a0), some (.ref a1), some (.ref a2), some (.int x3)] [] μ = rdA μ a0 0 (x3 + (1 : Int32)) (gO μ a1 11 ((cl E lo d 126 [.ref a1, .int (ri μ a0 (Int32.toNatClampNeg (x3 + (1 : Int32))))] μ).bind fun z => ex PG E lo d 312 312 [some (.ref a0), some (.ref a1), some (.ref a2), some (.int x3)] (z.1.toList ++ []) z.2)) := (x_aload_n (n := 1) (pc := 303) mI312 li_303 rfl).trans ((x_aload_n (n := 0) (pc := 304) mI312 li_304 rfl).trans ((x_iload_n (n := 3) (pc := 305) mI312 li_305 rfl).trans ((x_iconst (pc := 306) mI312 li_306 ic1).trans ((x_iadd (pc := 307) mI312 li_307).trans ((x_iald (pc := 308) mI312 li_308).trans (congrArg (rdA μ a0 0 (x3 + (1 : Int32))) (x_invV (i := 28) (j := 126) (n := 1) (c := 11) (pc := 309) mI312 li_309 rfl rfl rfl rfl)))))))
set_option maxRecDepth 20000 in
theorem b312_312 {E : (Nat → Value) × (Nat → Nat)} {lo d : Nat} {μ : rM} (a0 : Nat) (a1 : Nat) (a2 : Nat) (x3 : Int32) (y0 : Int32) : ex PG E lo d 312 312 [some (.ref a0), some (.ref a1), some (.ref a2), some (.int x3)] [.int y0] μ = rdA μ a0 0 (x3 + (1 : Int32)) (gO μ a2 12 ((cl E lo d 200 [.ref a2, .int (ri μ a0 (Int32.toNatClampNeg (x3 + (1 : Int32))))] μ).bind fun z => ex PG E lo d 312 321 [some (.ref a0), some (.ref a1), some (.ref a2), some (.int x3)] (z.1.toList ++ [.int y0]) z.2)) := (x_aload_n (n := 2) (pc := 312) mI312 li_312 rfl).trans ((x_aload_n (n := 0) (pc := 313) mI312 li_313 rfl).trans ((x_iload_n (n := 3) (pc := 314) mI312 li_314 rfl).trans ((x_iconst (pc := 315) mI312 li_315 ic1).trans ((x_iadd (pc := 316) mI312 li_316).trans ((x_iald (pc := 317) mI312 li_317).trans (congrArg (rdA μ a0 0 (x3 + (1 : Int32))) (x_invV (i := 31) (j := 200) (n := 1) (c := 12) (pc := 318) mI312 li_318 rfl rfl rfl rfl)))))))
set_option maxRecDepth 20000 in
theorem b312_321 {E : (Nat → Value) × (Nat → Nat)} {lo d : Nat} {μ : rM} (a0 : Nat) (a1 : Nat) (a2 : Nat) (x3 : Int32) (y0 : Int32) (y1 : Int32) : ex PG E lo d 312 321 [some (.ref a0), some (.ref a1), some (.ref a2), some (.int x3)] [.int y1, .int y0] μ = if y0 = y1 then ex PG E lo d 312 1827 [some (.ref a0), some (.ref a1), some (.ref a2), some (.int x3)] [] μ else ex PG E lo d 312 324 [some (.ref a0), some (.ref a1), some (.ref a2), some (.int x3)] [] μ := x_cmpeq (t := 1827) (pc := 321) mI312 li_321 (by decide)
set_option maxRecDepth 20000 in
theorem b312_324 {E : (Nat → Value) × (Nat → Nat)} {lo d : Nat} {μ : rM} (a0 : Nat) (a1 : Nat) (a2 : Nat) (x3 : Int32) : ex PG E lo d 312 324 [some (.ref a0), some (.ref a1), some (.ref a2), some (.int x3)] [] μ = if (0 : Int32) = 0 ∨ (0 : Int32) = 1 then some (some (.int (0 : Int32)), μ) else none := (x_iconst (pc := 324) mI312 li_324 ic0).trans (x_zret (pc := 325) mI312 li_325 rfl)
set_option maxRecDepth 20000 in
theorem b312_326 {E : (Nat → Value) × (Nat → Nat)} {lo d : Nat} {μ : rM} (a0 : Nat) (a1 : Nat) (a2 : Nat) (x3 : Int32) : ex PG E lo d 312 326 [some (.ref a0), some (.ref a1), some (.ref a2), some (.int x3)] [] μ = rdA μ a0 0 (x3 + (1 : Int32)) (rdA μ a0 0 (x3 + (2 : Int32)) (gO μ a1 11 ((cl E lo d 127 [.ref a1, .int (ri μ a0 (Int32.toNatClampNeg (x3 + (1 : Int32)))), .int (ri μ a0 (Int32.toNatClampNeg (x3 + (2 : Int32))))] μ).bind fun z => ex PG E lo d 312 340 [some (.ref a0), some (.ref a1), some (.ref a2), some (.int x3)] (z.1.toList ++ []) z.2))) := (x_aload_n (n := 1) (pc := 326) mI312 li_326 rfl).trans ((x_aload_n (n := 0) (pc := 327) mI312 li_327 rfl).trans ((x_iload_n (n := 3) (pc := 328) mI312 li_328 rfl).trans ((x_iconst (pc := 329) mI312 li_329 ic1).trans ((x_iadd (pc := 330) mI312 li_330).trans ((x_iald (pc := 331) mI312 li_331).trans (congrArg (rdA μ a0 0 (x3 + (1 : Int32))) ((x_aload_n (n := 0) (pc := 332) mI312 li_332 rfl).trans ((x_iload_n (n := 3) (pc := 333) mI312 li_333 rfl).trans ((x_iconst (pc := 334) mI312 li_334 ic2).trans ((x_iadd (pc := 335) mI312 li_335).trans ((x_iald (pc := 336) mI312 li_336).trans (congrArg (rdA μ a0 0 (x3 + (2 : Int32))) (x_invV (i := 32) (j := 127) (n := 2) (c := 11) (pc := 337) mI312 li_337 rfl rfl rfl rfl)))))))))))))
set_option maxRecDepth 20000 in
theorem b312_340 {E : (Nat → Value) × (Nat → Nat)} {lo d : Nat} {μ : rM} (a0 : Nat) (a1 : Nat) (a2 : Nat) (x3 : Int32) (y0 : Int32) : ex PG E lo d 312 340 [some (.ref a0), some (.ref a1), some (.ref a2), some (.int x3)] [.int y0] μ = rdA μ a0 0 (x3 + (1 : Int32)) (rdA μ a0 0 (x3 + (2 : Int32)) (gO μ a2 12 ((cl E lo d 215 [.ref a2, .int (ri μ a0 (Int32.toNatClampNeg (x3 + (1 : Int32)))), .int (ri μ a0 (Int32.toNatClampNeg (x3 + (2 : Int32))))] μ).bind fun z => ex PG E lo d 312 354 [some (.ref a0), some (.ref a1), some (.ref a2), some (.int x3)] (z.1.toList ++ [.int y0]) z.2))) := (x_aload_n (n := 2) (pc := 340) mI312 li_340 rfl).trans ((x_aload_n (n := 0) (pc := 341) mI312 li_341 rfl).trans ((x_iload_n (n := 3) (pc := 342) mI312 li_342 rfl).trans ((x_iconst (pc := 343) mI312 li_343 ic1).trans ((x_iadd (pc := 344) mI312 li_344).trans ((x_iald (pc := 345) mI312 li_345).trans (congrArg (rdA μ a0 0 (x3 + (1 : Int32))) ((x_aload_n (n := 0) (pc := 346) mI312 li_346 rfl).trans ((x_iload_n (n := 3) (pc := 347) mI312 li_347 rfl).trans ((x_iconst (pc := 348) mI312 li_348 ic2).trans ((x_iadd (pc := 349) mI312 li_349).trans ((x_iald (pc := 350) mI312 li_350).trans (congrArg (rdA μ a0 0 (x3 + (2 : Int32))) (x_invV (i := 35) (j := 215) (n := 2) (c := 12) (pc := 351) mI312 li_351 rfl rfl rfl rfl)))))))))))))
set_option maxRecDepth 20000 in
theorem b312_354 {E : (Nat → Value) × (Nat → Nat)} {lo d : Nat} {μ : rM} (a0 : Nat) (a1 : Nat) (a2 : Nat) (x3 : Int32) (y0 : Int32) (y1 : Int32) : ex PG E lo d 312 354 [some (.ref a0), some (.ref a1), some (.ref a2), some (.int x3)] [.int y1, .int y0] μ = if y0 = y1 then ex PG E lo d 312 1827 [some (.ref a0), some (.ref a1), some (.ref a2), some (.int x3)] [] μ else ex PG E lo d 312 357 [some (.ref a0), some (.ref a1), some (.ref a2), some (.int x3)] [] μ := x_cmpeq (t := 1827) (pc := 354) mI312 li_354 (by decide)
set_option maxRecDepth 20000 in
theorem b312_357 {E : (Nat → Value) × (Nat → Nat)} {lo d : Nat} {μ : rM} (a0 : Nat) (a1 : Nat) (a2 : Nat) (x3 : Int32) : ex PG E lo d 312 357 [some (.ref a0), some (.ref a1), some (.ref a2), some (.int x3)] [] μ = if (0 : Int32) = 0 ∨ (0 : Int32) = 1 then some (some (.int (0 : Int32)), μ) else none := (x_iconst (pc := 357) mI312 li_357 ic0).trans (x_zret (pc := 358) mI312 li_358 rfl)
set_option maxRecDepth 20000 in
theorem b312_359 {E : (Nat → Value) × (Nat → Nat)} {lo d : Nat} {μ : rM} (a0 : Nat) (a1 : Nat) (a2 : Nat) (x3 : Int32) : ex PG E lo d 312 359 [some (.ref a0), some (.ref a1), some (.ref a2), some (.int x3)] [] μ = rdA μ a0 0 (x3 + (1 : Int32)) (rdA μ a0 0 (x3 + (2 : Int32)) (rdA μ a0 0 (x3 + (3 : Int32)) (gO μ a1 11 ((cl E lo d 128 [.ref a1, .int (ri μ a0 (Int32.toNatClampNeg (x3 + (1 : Int32)))), .int (ri μ a0 (Int32.toNatClampNeg (x3 + (2 : Int32)))), .int (ri μ a0 (Int32.toNatClampNeg (x3 + (3 : Int32))))] μ).bind fun z => ex PG E lo d 312 378 [some (.ref a0), some (.ref a1), some (.ref a2), some (.int x3)] (z.1.toList ++ []) z.2)))) := (x_aload_n (n := 1) (pc := 359) mI312 li_359 rfl).trans ((x_aload_n (n := 0) (pc := 360) mI312 li_360 rfl).trans ((x_iload_n (n := 3) (pc := 361) mI312 li_361 rfl).trans ((x_iconst (pc := 362) mI312 li_362 ic1).trans ((x_iadd (pc := 363) mI312 li_363).trans ((x_iald (pc := 364) mI312 li_364).trans (congrArg (rdA μ a0 0 (x3 + (1 : Int32))) ((x_aload_n (n := 0) (pc := 365) mI312 li_365 rfl).trans ((x_iload_n (n := 3) (pc := 366) mI312 li_366 rfl).trans ((x_iconst (pc := 367) mI312 li_367 ic2).trans ((x_iadd (pc := 368) mI312 li_368).trans ((x_iald (pc := 369) mI312 li_369).trans (congrArg (rdA μ a0 0 (x3 + (2 : Int32))) ((x_aload_n (n := 0) (pc := 370) mI312 li_370 rfl).trans ((x_iload_n (n := 3) (pc := 371) mI312 li_371 rfl).trans ((x_iconst (pc := 372) mI312 li_372 ic3).trans ((x_iadd (pc := 373) mI312 li_373).trans ((x_iald (pc := 374) mI312 li_374).trans (congrArg (rdA μ a0 0 (x3 + (3 : Int32))) (x_invV (i := 36) (j := 128) (n := 3) (c := 11) (pc := 375) mI312 li_375 rfl rfl rfl rfl)))))))))))))))))))
set_option maxRecDepth 20000 in
theorem b312_378 {E : (Nat → Value) × (Nat → Nat)} {lo d : Nat} {μ : rM} (a0 : Nat) (a1 : Nat) (a2 : Nat) (x3 : Int32) (y0 : Int32) : ex PG E lo d 312 378 [some (.ref a0), some (.ref a1), some (.ref a2), some (.int x3)] [.int y0] μ = rdA μ a0 0 (x3 + (1 : Int32)) (rdA μ a0 0 (x3 + (2 : Int32)) (rdA μ a0 0 (x3 + (3 : Int32)) (gO μ a2 12 ((cl E lo d 216 [.ref a2, .int (ri μ a0 (Int32.toNatClampNeg (x3 + (1 : Int32)))), .int (ri μ a0 (Int32.toNatClampNeg (x3 + (2 : Int32)))), .int (ri μ a0 (Int32.toNatClampNeg (x3 + (3 : Int32))))] μ).bind fun z => ex PG E lo d 312 397 [some (.ref a0), some (.ref a1), some (.ref a2), some (.int x3)] (z.1.toList ++ [.int y0]) z.2)))) := (x_aload_n (n := 2) (pc := 378) mI312 li_378 rfl).trans ((x_aload_n (n := 0) (pc := 379) mI312 li_379 rfl).trans ((x_iload_n (n := 3) (pc := 380) mI312 li_380 rfl).trans ((x_iconst (pc := 381) mI312 li_381 ic1).trans ((x_iadd (pc := 382) mI312 li_382).trans ((x_iald (pc := 383) mI312 li_383).trans (congrArg (rdA μ a0 0 (x3 + (1 : Int32))) ((x_aload_n (n := 0) (pc := 384) mI312 li_384 rfl).trans ((x_iload_n (n := 3) (pc := 385) mI312 li_385 rfl).trans ((x_iconst (pc := 386) mI312 li_386 ic2).trans ((x_iadd (pc := 387) mI312 li_387).trans ((x_iald (pc := 388) mI312 li_388).trans (congrArg (rdA μ a0 0 (x3 + (2 : Int32))) ((x_aload_n (n := 0) (pc := 389) mI312 li_389 rfl).trans ((x_iload_n (n := 3) (pc := 390) mI312 li_390 rfl).trans ((x_iconst (pc := 391) mI312 li_391 ic3).trans ((x_iadd (pc := 392) mI312 li_392).trans ((x_iald (pc := 393) mI312 li_393).trans (congrArg (rdA μ a0 0 (x3 + (3 : Int32))) (x_invV (i := 40) (j := 216) (n := 3) (c := 12) (pc := 394) mI312 li_394 rfl rfl rfl rfl)))))))))))))))))))
set_option maxRecDepth 20000 in
theorem b312_397 {E : (Nat → Value) × (Nat → Nat)} {lo d : Nat} {μ : rM} (a0 : Nat) (a1 : Nat) (a2 : Nat) (x3 : Int32) (y0 : Int32) (y1 : Int32) : ex PG E lo d 312 397 [some (.ref a0), some (.ref a1), some (.ref a2), some (.int x3)] [.int y1, .int y0] μ = if y0 = y1 then ex PG E lo d 312 1827 [some (.ref a0), some (.ref a1), some (.ref a2), some (.int x3)] [] μ else ex PG E lo d 312 400 [some (.ref a0), some (.ref a1), some (.ref a2), some (.int x3)] [] μ := x_cmpeq (t := 1827) (pc := 397) mI312 li_397 (by decide)
set_option maxRecDepth 20000 in
theorem b312_400 {E : (Nat → Value) × (Nat → Nat)} {lo d : Nat} {μ : rM} (a0 : Nat) (a1 : Nat) (a2 : Nat) (x3 : Int32) : ex PG E lo d 312 400 [some (.ref a0), some (.ref a1), some (.ref a2), some (.int x3)] [] μ = if (0 : Int32) = 0 ∨ (0 : Int32) = 1 then some (some (.int (0 : Int32)), μ) else none := (x_iconst (pc := 400) mI312 li_400 ic0).trans (x_zret (pc := 401) mI312 li_401 rfl)
set_option maxRecDepth 20000 in
theorem b312_402 {E : (Nat → Value) × (Nat → Nat)} {lo d : Nat} {μ : rM} (a0 : Nat) (a1 : Nat) (a2 : Nat) (x3 : Int32) : ex PG E lo d 312 402 [some (.ref a0), some (.ref a1), some (.ref a2), some (.int x3)] [] μ = rdA μ a0 0 (x3 + (1 : Int32)) (rdA μ a0 0 (x3 + (2 : Int32)) (rdA μ a0 0 (x3 + (3 : Int32)) (gO μ a1 11 ((cl E lo d 129 [.ref a1, .int (ri μ a0 (Int32.toNatClampNeg (x3 + (1 : Int32)))), .int (ri μ a0 (Int32.toNatClampNeg (x3 + (2 : Int32)))), .int (ri μ a0 (Int32.toNatClampNeg (x3 + (3 : Int32))))] μ).bind fun z => ex PG E lo d 312 421 [some (.ref a0), some (.ref a1), some (.ref a2), some (.int x3)] (z.1.toList ++ []) z.2)))) := (x_aload_n (n := 1) (pc := 402) mI312 li_402 rfl).trans ((x_aload_n (n := 0) (pc := 403) mI312 li_403 rfl).trans ((x_iload_n (n := 3) (pc := 404) mI312 li_404 rfl).trans ((x_iconst (pc := 405) mI312 li_405 ic1).trans ((x_iadd (pc := 406) mI312 li_406).trans ((x_iald (pc := 407) mI312 li_407).trans (congrArg (rdA μ a0 0 (x3 + (1 : Int32))) ((x_aload_n (n := 0) (pc := 408) mI312 li_408 rfl).trans ((x_iload_n (n := 3) (pc := 409) mI312 li_409 rfl).trans ((x_iconst (pc := 410) mI312 li_410 ic2).trans ((x_iadd (pc := 411) mI312 li_411).trans ((x_iald (pc := 412) mI312 li_412).trans (congrArg (rdA μ a0 0 (x3 + (2 : Int32))) ((x_aload_n (n := 0) (pc := 413) mI312 li_413 rfl).trans ((x_iload_n (n := 3) (pc := 414) mI312 li_414 rfl).trans ((x_iconst (pc := 415) mI312 li_415 ic3).trans ((x_iadd (pc := 416) mI312 li_416).trans ((x_iald (pc := 417) mI312 li_417).trans (congrArg (rdA μ a0 0 (x3 + (3 : Int32))) (x_invV (i := 41) (j := 129) (n := 3) (c := 11) (pc := 418) mI312 li_418 rfl rfl rfl rfl)))))))))))))))))))
set_option maxRecDepth 20000 in
theorem b312_421 {E : (Nat → Value) × (Nat → Nat)} {lo d : Nat} {μ : rM} (a0 : Nat) (a1 : Nat) (a2 : Nat) (x3 : Int32) (y0 : Int32) : ex PG E lo d 312 421 [some (.ref a0), some (.ref a1), some (.ref a2), some (.int x3)] [.int y0] μ = rdA μ a0 0 (x3 + (1 : Int32)) (rdA μ a0 0 (x3 + (2 : Int32)) (rdA μ a0 0 (x3 + (3 : Int32)) (gO μ a2 12 ((cl E lo d 217 [.ref a2, .int (ri μ a0 (Int32.toNatClampNeg (x3 + (1 : Int32)))), .int (ri μ a0 (Int32.toNatClampNeg (x3 + (2 : Int32)))), .int (ri μ a0 (Int32.toNatClampNeg (x3 + (3 : Int32))))] μ).bind fun z => ex PG E lo d 312 440 [some (.ref a0), some (.ref a1), some (.ref a2), some (.int x3)] (z.1.toList ++ [.int y0]) z.2)))) := (x_aload_n (n := 2) (pc := 421) mI312 li_421 rfl).trans ((x_aload_n (n := 0) (pc := 422) mI312 li_422 rfl).trans ((x_iload_n (n := 3) (pc := 423) mI312 li_423 rfl).trans ((x_iconst (pc := 424) mI312 li_424 ic1).trans ((x_iadd (pc := 425) mI312 li_425).trans ((x_iald (pc := 426) mI312 li_426).trans (congrArg (rdA μ a0 0 (x3 + (1 : Int32))) ((x_aload_n (n := 0) (pc := 427) mI312 li_427 rfl).trans ((x_iload_n (n := 3) (pc := 428) mI312 li_428 rfl).trans ((x_iconst (pc := 429) mI312 li_429 ic2).trans ((x_iadd (pc := 430) mI312 li_430).trans ((x_iald (pc := 431) mI312 li_431).trans (congrArg (rdA μ a0 0 (x3 + (2 : Int32))) ((x_aload_n (n := 0) (pc := 432) mI312 li_432 rfl).trans ((x_iload_n (n := 3) (pc := 433) mI312 li_433 rfl).trans ((x_iconst (pc := 434) mI312 li_434 ic3).trans ((x_iadd (pc := 435) mI312 li_435).trans ((x_iald (pc := 436) mI312 li_436).trans (congrArg (rdA μ a0 0 (x3 + (3 : Int32))) (x_invV (i := 44) (j := 217) (n := 3) (c := 12) (pc := 437) mI312 li_437 rfl rfl rfl rfl)))))))))))))))))))
set_option maxRecDepth 20000 in
theorem b312_440 {E : (Nat → Value) × (Nat → Nat)} {lo d : Nat} {μ : rM} (a0 : Nat) (a1 : Nat) (a2 : Nat) (x3 : Int32) (y0 : Int32) (y1 : Int32) : ex PG E lo d 312 440 [some (.ref a0), some (.ref a1), some (.ref a2), some (.int x3)] [.int y1, .int y0] μ = if y0 = y1 then ex PG E lo d 312 1827 [some (.ref a0), some (.ref a1), some (.ref a2), some (.int x3)] [] μ else ex PG E lo d 312 443 [some (.ref a0), some (.ref a1), some (.ref a2), some (.int x3)] [] μ := x_cmpeq (t := 1827) (pc := 440) mI312 li_440 (by decide)
set_option maxRecDepth 20000 in
theorem b312_443 {E : (Nat → Value) × (Nat → Nat)} {lo d : Nat} {μ : rM} (a0 : Nat) (a1 : Nat) (a2 : Nat) (x3 : Int32) : ex PG E lo d 312 443 [some (.ref a0), some (.ref a1), some (.ref a2), some (.int x3)] [] μ = if (0 : Int32) = 0 ∨ (0 : Int32) = 1 then some (some (.int (0 : Int32)), μ) else none := (x_iconst (pc := 443) mI312 li_443 ic0).trans (x_zret (pc := 444) mI312 li_444 rfl)
set_option maxRecDepth 20000 in
theorem b312_445 {E : (Nat → Value) × (Nat → Nat)} {lo d : Nat} {μ : rM} (a0 : Nat) (a1 : Nat) (a2 : Nat) (x3 : Int32) : ex PG E lo d 312 445 [some (.ref a0), some (.ref a1), some (.ref a2), some (.int x3)] [] μ = rdA μ a0 0 (x3 + (1 : Int32)) (rdA μ a0 0 (x3 + (2 : Int32)) (rdA μ a0 0 (x3 + (3 : Int32)) (gO μ a1 11 ((cl E lo d 130 [.ref a1, .int (ri μ a0 (Int32.toNatClampNeg (x3 + (1 : Int32)))), .int (ri μ a0 (Int32.toNatClampNeg (x3 + (2 : Int32)))), .int (ri μ a0 (Int32.toNatClampNeg (x3 + (3 : Int32))))] μ).bind fun z => ex PG E lo d 312 464 [some (.ref a0), some (.ref a1), some (.ref a2), some (.int x3)] (z.1.toList ++ []) z.2)))) := (x_aload_n (n := 1) (pc := 445) mI312 li_445 rfl).trans ((x_aload_n (n := 0) (pc := 446) mI312 li_446 rfl).trans ((x_iload_n (n := 3) (pc := 447) mI312 li_447 rfl).trans ((x_iconst (pc := 448) mI312 li_448 ic1).trans ((x_iadd (pc := 449) mI312 li_449).trans ((x_iald (pc := 450) mI312 li_450).trans (congrArg (rdA μ a0 0 (x3 + (1 : Int32))) ((x_aload_n (n := 0) (pc := 451) mI312 li_451 rfl).trans ((x_iload_n (n := 3) (pc := 452) mI312 li_452 rfl).trans ((x_iconst (pc := 453) mI312 li_453 ic2).trans ((x_iadd (pc := 454) mI312 li_454).trans ((x_iald (pc := 455) mI312 li_455).trans (congrArg (rdA μ a0 0 (x3 + (2 : Int32))) ((x_aload_n (n := 0) (pc := 456) mI312 li_456 rfl).trans ((x_iload_n (n := 3) (pc := 457) mI312 li_457 rfl).trans ((x_iconst (pc := 458) mI312 li_458 ic3).trans ((x_iadd (pc := 459) mI312 li_459).trans ((x_iald (pc := 460) mI312 li_460).trans (congrArg (rdA μ a0 0 (x3 + (3 : Int32))) (x_invV (i := 45) (j := 130) (n := 3) (c := 11) (pc := 461) mI312 li_461 rfl rfl rfl rfl)))))))))))))))))))
set_option maxRecDepth 20000 in
theorem b312_464 {E : (Nat → Value) × (Nat → Nat)} {lo d : Nat} {μ : rM} (a0 : Nat) (a1 : Nat) (a2 : Nat) (x3 : Int32) (y0 : Int32) : ex PG E lo d 312 464 [some (.ref a0), some (.ref a1), some (.ref a2), some (.int x3)] [.int y0] μ = rdA μ a0 0 (x3 + (1 : Int32)) (rdA μ a0 0 (x3 + (2 : Int32)) (rdA μ a0 0 (x3 + (3 : Int32)) (gO μ a2 12 ((cl E lo d 218 [.ref a2, .int (ri μ a0 (Int32.toNatClampNeg (x3 + (1 : Int32)))), .int (ri μ a0 (Int32.toNatClampNeg (x3 + (2 : Int32)))), .int (ri μ a0 (Int32.toNatClampNeg (x3 + (3 : Int32))))] μ).bind fun z => ex PG E lo d 312 483 [some (.ref a0), some (.ref a1), some (.ref a2), some (.int x3)] (z.1.toList ++ [.int y0]) z.2)))) := (x_aload_n (n := 2) (pc := 464) mI312 li_464 rfl).trans ((x_aload_n (n := 0) (pc := 465) mI312 li_465 rfl).trans ((x_iload_n (n := 3) (pc := 466) mI312 li_466 rfl).trans ((x_iconst (pc := 467) mI312 li_467 ic1).trans ((x_iadd (pc := 468) mI312 li_468).trans ((x_iald (pc := 469) mI312 li_469).trans (congrArg (rdA μ a0 0 (x3 + (1 : Int32))) ((x_aload_n (n := 0) (pc := 470) mI312 li_470 rfl).trans ((x_iload_n (n := 3) (pc := 471) mI312 li_471 rfl).trans ((x_iconst (pc := 472) mI312 li_472 ic2).trans ((x_iadd (pc := 473) mI312 li_473).trans ((x_iald (pc := 474) mI312 li_474).trans (congrArg (rdA μ a0 0 (x3 + (2 : Int32))) ((x_aload_n (n := 0) (pc := 475) mI312 li_475 rfl).trans ((x_iload_n (n := 3) (pc := 476) mI312 li_476 rfl).trans ((x_iconst (pc := 477) mI312 li_477 ic3).trans ((x_iadd (pc := 478) mI312 li_478).trans ((x_iald (pc := 479) mI312 li_479).trans (congrArg (rdA μ a0 0 (x3 + (3 : Int32))) (x_invV (i := 48) (j := 218) (n := 3) (c := 12) (pc := 480) mI312 li_480 rfl rfl rfl rfl)))))))))))))))))))
set_option maxRecDepth 20000 in
theorem b312_483 {E : (Nat → Value) × (Nat → Nat)} {lo d : Nat} {μ : rM} (a0 : Nat) (a1 : Nat) (a2 : Nat) (x3 : Int32) (y0 : Int32) (y1 : Int32) : ex PG E lo d 312 483 [some (.ref a0), some (.ref a1), some (.ref a2), some (.int x3)] [.int y1, .int y0] μ = if y0 = y1 then ex PG E lo d 312 1827 [some (.ref a0), some (.ref a1), some (.ref a2), some (.int x3)] [] μ else ex PG E lo d 312 486 [some (.ref a0), some (.ref a1), some (.ref a2), some (.int x3)] [] μ := x_cmpeq (t := 1827) (pc := 483) mI312 li_483 (by decide)
set_option maxRecDepth 20000 in
theorem b312_486 {E : (Nat → Value) × (Nat → Nat)} {lo d : Nat} {μ : rM} (a0 : Nat) (a1 : Nat) (a2 : Nat) (x3 : Int32) : ex PG E lo d 312 486 [some (.ref a0), some (.ref a1), some (.ref a2), some (.int x3)] [] μ = if (0 : Int32) = 0 ∨ (0 : Int32) = 1 then some (some (.int (0 : Int32)), μ) else none := (x_iconst (pc := 486) mI312 li_486 ic0).trans (x_zret (pc := 487) mI312 li_487 rfl)
set_option maxRecDepth 20000 in
theorem b312_488 {E : (Nat → Value) × (Nat → Nat)} {lo d : Nat} {μ : rM} (a0 : Nat) (a1 : Nat) (a2 : Nat) (x3 : Int32) : ex PG E lo d 312 488 [some (.ref a0), some (.ref a1), some (.ref a2), some (.int x3)] [] μ = rdA μ a0 0 (x3 + (1 : Int32)) (rdA μ a0 0 (x3 + (2 : Int32)) (gO μ a1 11 ((cl E lo d 131 [.ref a1, .int (ri μ a0 (Int32.toNatClampNeg (x3 + (1 : Int32)))), .int (ri μ a0 (Int32.toNatClampNeg (x3 + (2 : Int32))))] μ).bind fun z => ex PG E lo d 312 502 [some (.ref a0), some (.ref a1), some (.ref a2), some (.int x3)] (z.1.toList ++ []) z.2))) := (x_aload_n (n := 1) (pc := 488) mI312 li_488 rfl).trans ((x_aload_n (n := 0) (pc := 489) mI312 li_489 rfl).trans ((x_iload_n (n := 3) (pc := 490) mI312 li_490 rfl).trans ((x_iconst (pc := 491) mI312 li_491 ic1).trans ((x_iadd (pc := 492) mI312 li_492).trans ((x_iald (pc := 493) mI312 li_493).trans (congrArg (rdA μ a0 0 (x3 + (1 : Int32))) ((x_aload_n (n := 0) (pc := 494) mI312 li_494 rfl).trans ((x_iload_n (n := 3) (pc := 495) mI312 li_495 rfl).trans ((x_iconst (pc := 496) mI312 li_496 ic2).trans ((x_iadd (pc := 497) mI312 li_497).trans ((x_iald (pc := 498) mI312 li_498).trans (congrArg (rdA μ a0 0 (x3 + (2 : Int32))) (x_invV (i := 49) (j := 131) (n := 2) (c := 11) (pc := 499) mI312 li_499 rfl rfl rfl rfl)))))))))))))
set_option maxRecDepth 20000 in
theorem b312_502 {E : (Nat → Value) × (Nat → Nat)} {lo d : Nat} {μ : rM} (a0 : Nat) (a1 : Nat) (a2 : Nat) (x3 : Int32) (y0 : Int32) : ex PG E lo d 312 502 [some (.ref a0), some (.ref a1), some (.ref a2), some (.int x3)] [.int y0] μ = rdA μ a0 0 (x3 + (1 : Int32)) (rdA μ a0 0 (x3 + (2 : Int32)) (gO μ a2 12 ((cl E lo d 220 [.ref a2, .int (ri μ a0 (Int32.toNatClampNeg (x3 + (1 : Int32)))), .int (ri μ a0 (Int32.toNatClampNeg (x3 + (2 : Int32))))] μ).bind fun z => ex PG E lo d 312 516 [some (.ref a0), some (.ref a1), some (.ref a2), some (.int x3)] (z.1.toList ++ [.int y0]) z.2))) := (x_aload_n (n := 2) (pc := 502) mI312 li_502 rfl).trans ((x_aload_n (n := 0) (pc := 503) mI312 li_503 rfl).trans ((x_iload_n (n := 3) (pc := 504) mI312 li_504 rfl).trans ((x_iconst (pc := 505) mI312 li_505 ic1).trans ((x_iadd (pc := 506) mI312 li_506).trans ((x_iald (pc := 507) mI312 li_507).trans (congrArg (rdA μ a0 0 (x3 + (1 : Int32))) ((x_aload_n (n := 0) (pc := 508) mI312 li_508 rfl).trans ((x_iload_n (n := 3) (pc := 509) mI312 li_509 rfl).trans ((x_iconst (pc := 510) mI312 li_510 ic2).trans ((x_iadd (pc := 511) mI312 li_511).trans ((x_iald (pc := 512) mI312 li_512).trans (congrArg (rdA μ a0 0 (x3 + (2 : Int32))) (x_invV (i := 52) (j := 220) (n := 2) (c := 12) (pc := 513) mI312 li_513 rfl rfl rfl rfl)))))))))))))
set_option maxRecDepth 20000 in
theorem b312_516 {E : (Nat → Value) × (Nat → Nat)} {lo d : Nat} {μ : rM} (a0 : Nat) (a1 : Nat) (a2 : Nat) (x3 : Int32) (y0 : Int32) (y1 : Int32) : ex PG E lo d 312 516 [some (.ref a0), some (.ref a1), some (.ref a2), some (.int x3)] [.int y1, .int y0] μ = if y0 = y1 then ex PG E lo d 312 1827 [some (.ref a0), some (.ref a1), some (.ref a2), some (.int x3)] [] μ else ex PG E lo d 312 519 [some (.ref a0), some (.ref a1), some (.ref a2), some (.int x3)] [] μ := x_cmpeq (t := 1827) (pc := 516) mI312 li_516 (by decide)
set_option maxRecDepth 20000 in
theorem b312_519 {E : (Nat → Value) × (Nat → Nat)} {lo d : Nat} {μ : rM} (a0 : Nat) (a1 : Nat) (a2 : Nat) (x3 : Int32) : ex PG E lo d 312 519 [some (.ref a0), some (.ref a1), some (.ref a2), some (.int x3)] [] μ = if (0 : Int32) = 0 ∨ (0 : Int32) = 1 then some (some (.int (0 : Int32)), μ) else none := (x_iconst (pc := 519) mI312 li_519 ic0).trans (x_zret (pc := 520) mI312 li_520 rfl)
set_option maxRecDepth 20000 in
theorem b312_521 {E : (Nat → Value) × (Nat → Nat)} {lo d : Nat} {μ : rM} (a0 : Nat) (a1 : Nat) (a2 : Nat) (x3 : Int32) : ex PG E lo d 312 521 [some (.ref a0), some (.ref a1), some (.ref a2), some (.int x3)] [] μ = rdA μ a0 0 (x3 + (1 : Int32)) (rdA μ a0 0 (x3 + (2 : Int32)) (rdA μ a0 0 (x3 + (3 : Int32)) (gO μ a1 11 ((cl E lo d 132 [.ref a1, .int (ri μ a0 (Int32.toNatClampNeg (x3 + (1 : Int32)))), .int (ri μ a0 (Int32.toNatClampNeg (x3 + (2 : Int32)))), .int (ri μ a0 (Int32.toNatClampNeg (x3 + (3 : Int32))))] μ).bind fun z => ex PG E lo d 312 540 [some (.ref a0), some (.ref a1), some (.ref a2), some (.int x3)] (z.1.toList ++ []) z.2)))) := (x_aload_n (n := 1) (pc := 521) mI312 li_521 rfl).trans ((x_aload_n (n := 0) (pc := 522) mI312 li_522 rfl).trans ((x_iload_n (n := 3) (pc := 523) mI312 li_523 rfl).trans ((x_iconst (pc := 524) mI312 li_524 ic1).trans ((x_iadd (pc := 525) mI312 li_525).trans ((x_iald (pc := 526) mI312 li_526).trans (congrArg (rdA μ a0 0 (x3 + (1 : Int32))) ((x_aload_n (n := 0) (pc := 527) mI312 li_527 rfl).trans ((x_iload_n (n := 3) (pc := 528) mI312 li_528 rfl).trans ((x_iconst (pc := 529) mI312 li_529 ic2).trans ((x_iadd (pc := 530) mI312 li_530).trans ((x_iald (pc := 531) mI312 li_531).trans (congrArg (rdA μ a0 0 (x3 + (2 : Int32))) ((x_aload_n (n := 0) (pc := 532) mI312 li_532 rfl).trans ((x_iload_n (n := 3) (pc := 533) mI312 li_533 rfl).trans ((x_iconst (pc := 534) mI312 li_534 ic3).trans ((x_iadd (pc := 535) mI312 li_535).trans ((x_iald (pc := 536) mI312 li_536).trans (congrArg (rdA μ a0 0 (x3 + (3 : Int32))) (x_invV (i := 53) (j := 132) (n := 3) (c := 11) (pc := 537) mI312 li_537 rfl rfl rfl rfl)))))))))))))))))))
set_option maxRecDepth 20000 in
theorem b312_540 {E : (Nat → Value) × (Nat → Nat)} {lo d : Nat} {μ : rM} (a0 : Nat) (a1 : Nat) (a2 : Nat) (x3 : Int32) (y0 : Int32) : ex PG E lo d 312 540 [some (.ref a0), some (.ref a1), some (.ref a2), some (.int x3)] [.int y0] μ = rdA μ a0 0 (x3 + (1 : Int32)) (rdA μ a0 0 (x3 + (2 : Int32)) (rdA μ a0 0 (x3 + (3 : Int32)) (gO μ a2 12 ((cl E lo d 224 [.ref a2, .int (ri μ a0 (Int32.toNatClampNeg (x3 + (1 : Int32)))), .int (ri μ a0 (Int32.toNatClampNeg (x3 + (2 : Int32)))), .int (ri μ a0 (Int32.toNatClampNeg (x3 + (3 : Int32))))] μ).bind fun z => ex PG E lo d 312 559 [some (.ref a0), some (.ref a1), some (.ref a2), some (.int x3)] (z.1.toList ++ [.int y0]) z.2)))) := (x_aload_n (n := 2) (pc := 540) mI312 li_540 rfl).trans ((x_aload_n (n := 0) (pc := 541) mI312 li_541 rfl).trans ((x_iload_n (n := 3) (pc := 542) mI312 li_542 rfl).trans ((x_iconst (pc := 543) mI312 li_543 ic1).trans ((x_iadd (pc := 544) mI312 li_544).trans ((x_iald (pc := 545) mI312 li_545).trans (congrArg (rdA μ a0 0 (x3 + (1 : Int32))) ((x_aload_n (n := 0) (pc := 546) mI312 li_546 rfl).trans ((x_iload_n (n := 3) (pc := 547) mI312 li_547 rfl).trans ((x_iconst (pc := 548) mI312 li_548 ic2).trans ((x_iadd (pc := 549) mI312 li_549).trans ((x_iald (pc := 550) mI312 li_550).trans (congrArg (rdA μ a0 0 (x3 + (2 : Int32))) ((x_aload_n (n := 0) (pc := 551) mI312 li_551 rfl).trans ((x_iload_n (n := 3) (pc := 552) mI312 li_552 rfl).trans ((x_iconst (pc := 553) mI312 li_553 ic3).trans ((x_iadd (pc := 554) mI312 li_554).trans ((x_iald (pc := 555) mI312 li_555).trans (congrArg (rdA μ a0 0 (x3 + (3 : Int32))) (x_invV (i := 56) (j := 224) (n := 3) (c := 12) (pc := 556) mI312 li_556 rfl rfl rfl rfl)))))))))))))))))))
set_option maxRecDepth 20000 in
theorem b312_559 {E : (Nat → Value) × (Nat → Nat)} {lo d : Nat} {μ : rM} (a0 : Nat) (a1 : Nat) (a2 : Nat) (x3 : Int32) (y0 : Int32) (y1 : Int32) : ex PG E lo d 312 559 [some (.ref a0), some (.ref a1), some (.ref a2), some (.int x3)] [.int y1, .int y0] μ = if y0 = y1 then ex PG E lo d 312 1827 [some (.ref a0), some (.ref a1), some (.ref a2), some (.int x3)] [] μ else ex PG E lo d 312 562 [some (.ref a0), some (.ref a1), some (.ref a2), some (.int x3)] [] μ := x_cmpeq (t := 1827) (pc := 559) mI312 li_559 (by decide)
set_option maxRecDepth 20000 in
theorem b312_562 {E : (Nat → Value) × (Nat → Nat)} {lo d : Nat} {μ : rM} (a0 : Nat) (a1 : Nat) (a2 : Nat) (x3 : Int32) : ex PG E lo d 312 562 [some (.ref a0), some (.ref a1), some (.ref a2), some (.int x3)] [] μ = if (0 : Int32) = 0 ∨ (0 : Int32) = 1 then some (some (.int (0 : Int32)), μ) else none := (x_iconst (pc := 562) mI312 li_562 ic0).trans (x_zret (pc := 563) mI312 li_563 rfl)
set_option maxRecDepth 20000 in
theorem b312_564 {E : (Nat → Value) × (Nat → Nat)} {lo d : Nat} {μ : rM} (a0 : Nat) (a1 : Nat) (a2 : Nat) (x3 : Int32) : ex PG E lo d 312 564 [some (.ref a0), some (.ref a1), some (.ref a2), some (.int x3)] [] μ = rdA μ a0 0 (x3 + (1 : Int32)) (rdA μ a0 0 (x3 + (2 : Int32)) (gO μ a1 11 ((cl E lo d 134 [.ref a1, .int (ri μ a0 (Int32.toNatClampNeg (x3 + (1 : Int32)))), .int (ri μ a0 (Int32.toNatClampNeg (x3 + (2 : Int32))))] μ).bind fun z => ex PG E lo d 312 578 [some (.ref a0), some (.ref a1), some (.ref a2), some (.int x3)] (z.1.toList ++ []) z.2))) := (x_aload_n (n := 1) (pc := 564) mI312 li_564 rfl).trans ((x_aload_n (n := 0) (pc := 565) mI312 li_565 rfl).trans ((x_iload_n (n := 3) (pc := 566) mI312 li_566 rfl).trans ((x_iconst (pc := 567) mI312 li_567 ic1).trans ((x_iadd (pc := 568) mI312 li_568).trans ((x_iald (pc := 569) mI312 li_569).trans (congrArg (rdA μ a0 0 (x3 + (1 : Int32))) ((x_aload_n (n := 0) (pc := 570) mI312 li_570 rfl).trans ((x_iload_n (n := 3) (pc := 571) mI312 li_571 rfl).trans ((x_iconst (pc := 572) mI312 li_572 ic2).trans ((x_iadd (pc := 573) mI312 li_573).trans ((x_iald (pc := 574) mI312 li_574).trans (congrArg (rdA μ a0 0 (x3 + (2 : Int32))) (x_invV (i := 57) (j := 134) (n := 2) (c := 11) (pc := 575) mI312 li_575 rfl rfl rfl rfl)))))))))))))
set_option maxRecDepth 20000 in
theorem b312_578 {E : (Nat → Value) × (Nat → Nat)} {lo d : Nat} {μ : rM} (a0 : Nat) (a1 : Nat) (a2 : Nat) (x3 : Int32) (y0 : Int32) : ex PG E lo d 312 578 [some (.ref a0), some (.ref a1), some (.ref a2), some (.int x3)] [.int y0] μ = rdA μ a0 0 (x3 + (1 : Int32)) (rdA μ a0 0 (x3 + (2 : Int32)) (gO μ a2 12 ((cl E lo d 237 [.ref a2, .int (ri μ a0 (Int32.toNatClampNeg (x3 + (1 : Int32)))), .int (ri μ a0 (Int32.toNatClampNeg (x3 + (2 : Int32))))] μ).bind fun z => ex PG E lo d 312 592 [some (.ref a0), some (.ref a1), some (.ref a2), some (.int x3)] (z.1.toList ++ [.int y0]) z.2))) := (x_aload_n (n := 2) (pc := 578) mI312 li_578 rfl).trans ((x_aload_n (n := 0) (pc := 579) mI312 li_579 rfl).trans ((x_iload_n (n := 3) (pc := 580) mI312 li_580 rfl).trans ((x_iconst (pc := 581) mI312 li_581 ic1).trans ((x_iadd (pc := 582) mI312 li_582).trans ((x_iald (pc := 583) mI312 li_583).trans (congrArg (rdA μ a0 0 (x3 + (1 : Int32))) ((x_aload_n (n := 0) (pc := 584) mI312 li_584 rfl).trans ((x_iload_n (n := 3) (pc := 585) mI312 li_585 rfl).trans ((x_iconst (pc := 586) mI312 li_586 ic2).trans ((x_iadd (pc := 587) mI312 li_587).trans ((x_iald (pc := 588) mI312 li_588).trans (congrArg (rdA μ a0 0 (x3 + (2 : Int32))) (x_invV (i := 60) (j := 237) (n := 2) (c := 12) (pc := 589) mI312 li_589 rfl rfl rfl rfl)))))))))))))
set_option maxRecDepth 20000 in
theorem b312_592 {E : (Nat → Value) × (Nat → Nat)} {lo d : Nat} {μ : rM} (a0 : Nat) (a1 : Nat) (a2 : Nat) (x3 : Int32) (y0 : Int32) (y1 : Int32) : ex PG E lo d 312 592 [some (.ref a0), some (.ref a1), some (.ref a2), some (.int x3)] [.int y1, .int y0] μ = if y0 = y1 then ex PG E lo d 312 1827 [some (.ref a0), some (.ref a1), some (.ref a2), some (.int x3)] [] μ else ex PG E lo d 312 595 [some (.ref a0), some (.ref a1), some (.ref a2), some (.int x3)] [] μ := x_cmpeq (t := 1827) (pc := 592) mI312 li_592 (by decide)
set_option maxRecDepth 20000 in
theorem b312_595 {E : (Nat → Value) × (Nat → Nat)} {lo d : Nat} {μ : rM} (a0 : Nat) (a1 : Nat) (a2 : Nat) (x3 : Int32) : ex PG E lo d 312 595 [some (.ref a0), some (.ref a1), some (.ref a2), some (.int x3)] [] μ = if (0 : Int32) = 0 ∨ (0 : Int32) = 1 then some (some (.int (0 : Int32)), μ) else none := (x_iconst (pc := 595) mI312 li_595 ic0).trans (x_zret (pc := 596) mI312 li_596 rfl)
set_option maxRecDepth 20000 in
theorem b312_597 {E : (Nat → Value) × (Nat → Nat)} {lo d : Nat} {μ : rM} (a0 : Nat) (a1 : Nat) (a2 : Nat) (x3 : Int32) : ex PG E lo d 312 597 [some (.ref a0), some (.ref a1), some (.ref a2), some (.int x3)] [] μ = rdA μ a0 0 (x3 + (1 : Int32)) (rdA μ a0 0 (x3 + (2 : Int32)) (rdA μ a0 0 (x3 + (3 : Int32)) (rdA μ a0 0 (x3 + (4 : Int32)) (rdA μ a0 0 (x3 + (5 : Int32)) (gO μ a1 11 ((cl E lo d 135 [.ref a1, .int (ri μ a0 (Int32.toNatClampNeg (x3 + (1 : Int32)))), .int (ri μ a0 (Int32.toNatClampNeg (x3 + (2 : Int32)))), .int (ri μ a0 (Int32.toNatClampNeg (x3 + (3 : Int32)))), .int (ri μ a0 (Int32.toNatClampNeg (x3 + (4 : Int32)))), .int (ri μ a0 (Int32.toNatClampNeg (x3 + (5 : Int32))))] μ).bind fun z => ex PG E lo d 312 626 [some (.ref a0), some (.ref a1), some (.ref a2), some (.int x3)] (z.1.toList ++ []) z.2)))))) := (x_aload_n (n := 1) (pc := 597) mI312 li_597 rfl).trans ((x_aload_n (n := 0) (pc := 598) mI312 li_598 rfl).trans ((x_iload_n (n := 3) (pc := 599) mI312 li_599 rfl).trans ((x_iconst (pc := 600) mI312 li_600 ic1).trans ((x_iadd (pc := 601) mI312 li_601).trans ((x_iald (pc := 602) mI312 li_602).trans (congrArg (rdA μ a0 0 (x3 + (1 : Int32))) ((x_aload_n (n := 0) (pc := 603) mI312 li_603 rfl).trans ((x_iload_n (n := 3) (pc := 604) mI312 li_604 rfl).trans ((x_iconst (pc := 605) mI312 li_605 ic2).trans ((x_iadd (pc := 606) mI312 li_606).trans ((x_iald (pc := 607) mI312 li_607).trans (congrArg (rdA μ a0 0 (x3 + (2 : Int32))) ((x_aload_n (n := 0) (pc := 608) mI312 li_608 rfl).trans ((x_iload_n (n := 3) (pc := 609) mI312 li_609 rfl).trans ((x_iconst (pc := 610) mI312 li_610 ic3).trans ((x_iadd (pc := 611) mI312 li_611).trans ((x_iald (pc := 612) mI312 li_612).trans (congrArg (rdA μ a0 0 (x3 + (3 : Int32))) ((x_aload_n (n := 0) (pc := 613) mI312 li_613 rfl).trans ((x_iload_n (n := 3) (pc := 614) mI312 li_614 rfl).trans ((x_iconst (pc := 615) mI312 li_615 ic4).trans ((x_iadd (pc := 616) mI312 li_616).trans ((x_iald (pc := 617) mI312 li_617).trans (congrArg (rdA μ a0 0 (x3 + (4 : Int32))) ((x_aload_n (n := 0) (pc := 618) mI312 li_618 rfl).trans ((x_iload_n (n := 3) (pc := 619) mI312 li_619 rfl).trans ((x_iconst (pc := 620) mI312 li_620 ic5).trans ((x_iadd (pc := 621) mI312 li_621).trans ((x_iald (pc := 622) mI312 li_622).trans (congrArg (rdA μ a0 0 (x3 + (5 : Int32))) (x_invV (i := 61) (j := 135) (n := 5) (c := 11) (pc := 623) mI312 li_623 rfl rfl rfl rfl)))))))))))))))))))))))))))))))
set_option maxRecDepth 20000 in
theorem b312_626 {E : (Nat → Value) × (Nat → Nat)} {lo d : Nat} {μ : rM} (a0 : Nat) (a1 : Nat) (a2 : Nat) (x3 : Int32) (y0 : Int32) : ex PG E lo d 312 626 [some (.ref a0), some (.ref a1), some (.ref a2), some (.int x3)] [.int y0] μ = rdA μ a0 0 (x3 + (1 : Int32)) (rdA μ a0 0 (x3 + (2 : Int32)) (rdA μ a0 0 (x3 + (3 : Int32)) (rdA μ a0 0 (x3 + (4 : Int32)) (rdA μ a0 0 (x3 + (5 : Int32)) (gO μ a2 12 ((cl E lo d 238 [.ref a2, .int (ri μ a0 (Int32.toNatClampNeg (x3 + (1 : Int32)))), .int (ri μ a0 (Int32.toNatClampNeg (x3 + (2 : Int32)))), .int (ri μ a0 (Int32.toNatClampNeg (x3 + (3 : Int32)))), .int (ri μ a0 (Int32.toNatClampNeg (x3 + (4 : Int32)))), .int (ri μ a0 (Int32.toNatClampNeg (x3 + (5 : Int32))))] μ).bind fun z => ex PG E lo d 312 655 [some (.ref a0), some (.ref a1), some (.ref a2), some (.int x3)] (z.1.toList ++ [.int y0]) z.2)))))) := (x_aload_n (n := 2) (pc := 626) mI312 li_626 rfl).trans ((x_aload_n (n := 0) (pc := 627) mI312 li_627 rfl).trans ((x_iload_n (n := 3) (pc := 628) mI312 li_628 rfl).trans ((x_iconst (pc := 629) mI312 li_629 ic1).trans ((x_iadd (pc := 630) mI312 li_630).trans ((x_iald (pc := 631) mI312 li_631).trans (congrArg (rdA μ a0 0 (x3 + (1 : Int32))) ((x_aload_n (n := 0) (pc := 632) mI312 li_632 rfl).trans ((x_iload_n (n := 3) (pc := 633) mI312 li_633 rfl).trans ((x_iconst (pc := 634) mI312 li_634 ic2).trans ((x_iadd (pc := 635) mI312 li_635).trans ((x_iald (pc := 636) mI312 li_636).trans (congrArg (rdA μ a0 0 (x3 + (2 : Int32))) ((x_aload_n (n := 0) (pc := 637) mI312 li_637 rfl).trans ((x_iload_n (n := 3) (pc := 638) mI312 li_638 rfl).trans ((x_iconst (pc := 639) mI312 li_639 ic3).trans ((x_iadd (pc := 640) mI312 li_640).trans ((x_iald (pc := 641) mI312 li_641).trans (congrArg (rdA μ a0 0 (x3 + (3 : Int32))) ((x_aload_n (n := 0) (pc := 642) mI312 li_642 rfl).trans ((x_iload_n (n := 3) (pc := 643) mI312 li_643 rfl).trans ((x_iconst (pc := 644) mI312 li_644 ic4).trans ((x_iadd (pc := 645) mI312 li_645).trans ((x_iald (pc := 646) mI312 li_646).trans (congrArg (rdA μ a0 0 (x3 + (4 : Int32))) ((x_aload_n (n := 0) (pc := 647) mI312 li_647 rfl).trans ((x_iload_n (n := 3) (pc := 648) mI312 li_648 rfl).trans ((x_iconst (pc := 649) mI312 li_649 ic5).trans ((x_iadd (pc := 650) mI312 li_650).trans ((x_iald (pc := 651) mI312 li_651).trans (congrArg (rdA μ a0 0 (x3 + (5 : Int32))) (x_invV (i := 64) (j := 238) (n := 5) (c := 12) (pc := 652) mI312 li_652 rfl rfl rfl rfl)))))))))))))))))))))))))))))))
set_option maxRecDepth 20000 in
theorem b312_655 {E : (Nat → Value) × (Nat → Nat)} {lo d : Nat} {μ : rM} (a0 : Nat) (a1 : Nat) (a2 : Nat) (x3 : Int32) (y0 : Int32) (y1 : Int32) : ex PG E lo d 312 655 [some (.ref a0), some (.ref a1), some (.ref a2), some (.int x3)] [.int y1, .int y0] μ = if y0 = y1 then ex PG E lo d 312 1827 [some (.ref a0), some (.ref a1), some (.ref a2), some (.int x3)] [] μ else ex PG E lo d 312 658 [some (.ref a0), some (.ref a1), some (.ref a2), some (.int x3)] [] μ := x_cmpeq (t := 1827) (pc := 655) mI312 li_655 (by decide)
set_option maxRecDepth 20000 in
theorem b312_658 {E : (Nat → Value) × (Nat → Nat)} {lo d : Nat} {μ : rM} (a0 : Nat) (a1 : Nat) (a2 : Nat) (x3 : Int32) : ex PG E lo d 312 658 [some (.ref a0), some (.ref a1), some (.ref a2), some (.int x3)] [] μ = if (0 : Int32) = 0 ∨ (0 : Int32) = 1 then some (some (.int (0 : Int32)), μ) else none := (x_iconst (pc := 658) mI312 li_658 ic0).trans (x_zret (pc := 659) mI312 li_659 rfl)
set_option maxRecDepth 20000 in
theorem b312_660 {E : (Nat → Value) × (Nat → Nat)} {lo d : Nat} {μ : rM} (a0 : Nat) (a1 : Nat) (a2 : Nat) (x3 : Int32) : ex PG E lo d 312 660 [some (.ref a0), some (.ref a1), some (.ref a2), some (.int x3)] [] μ = rdA μ a0 0 (x3 + (1 : Int32)) (rdA μ a0 0 (x3 + (2 : Int32)) (rdA μ a0 0 (x3 + (3 : Int32)) (gO μ a1 11 ((cl E lo d 137 [.ref a1, .int (ri μ a0 (Int32.toNatClampNeg (x3 + (1 : Int32)))), .int (ri μ a0 (Int32.toNatClampNeg (x3 + (2 : Int32)))), .int (ri μ a0 (Int32.toNatClampNeg (x3 + (3 : Int32))))] μ).bind fun z => ex PG E lo d 312 679 [some (.ref a0), some (.ref a1), some (.ref a2), some (.int x3)] (z.1.toList ++ []) z.2)))) := (x_aload_n (n := 1) (pc := 660) mI312 li_660 rfl).trans ((x_aload_n (n := 0) (pc := 661) mI312 li_661 rfl).trans ((x_iload_n (n := 3) (pc := 662) mI312 li_662 rfl).trans ((x_iconst (pc := 663) mI312 li_663 ic1).trans ((x_iadd (pc := 664) mI312 li_664).trans ((x_iald (pc := 665) mI312 li_665).trans (congrArg (rdA μ a0 0 (x3 + (1 : Int32))) ((x_aload_n (n := 0) (pc := 666) mI312 li_666 rfl).trans ((x_iload_n (n := 3) (pc := 667) mI312 li_667 rfl).trans ((x_iconst (pc := 668) mI312 li_668 ic2).trans ((x_iadd (pc := 669) mI312 li_669).trans ((x_iald (pc := 670) mI312 li_670).trans (congrArg (rdA μ a0 0 (x3 + (2 : Int32))) ((x_aload_n (n := 0) (pc := 671) mI312 li_671 rfl).trans ((x_iload_n (n := 3) (pc := 672) mI312 li_672 rfl).trans ((x_iconst (pc := 673) mI312 li_673 ic3).trans ((x_iadd (pc := 674) mI312 li_674).trans ((x_iald (pc := 675) mI312 li_675).trans (congrArg (rdA μ a0 0 (x3 + (3 : Int32))) (x_invV (i := 65) (j := 137) (n := 3) (c := 11) (pc := 676) mI312 li_676 rfl rfl rfl rfl)))))))))))))))))))
set_option maxRecDepth 20000 in
theorem b312_679 {E : (Nat → Value) × (Nat → Nat)} {lo d : Nat} {μ : rM} (a0 : Nat) (a1 : Nat) (a2 : Nat) (x3 : Int32) (y0 : Int32) : ex PG E lo d 312 679 [some (.ref a0), some (.ref a1), some (.ref a2), some (.int x3)] [.int y0] μ = rdA μ a0 0 (x3 + (1 : Int32)) (rdA μ a0 0 (x3 + (2 : Int32)) (rdA μ a0 0 (x3 + (3 : Int32)) (gO μ a2 12 ((cl E lo d 239 [.ref a2, .int (ri μ a0 (Int32.toNatClampNeg (x3 + (1 : Int32)))), .int (ri μ a0 (Int32.toNatClampNeg (x3 + (2 : Int32)))), .int (ri μ a0 (Int32.toNatClampNeg (x3 + (3 : Int32))))] μ).bind fun z => ex PG E lo d 312 698 [some (.ref a0), some (.ref a1), some (.ref a2), some (.int x3)] (z.1.toList ++ [.int y0]) z.2)))) := (x_aload_n (n := 2) (pc := 679) mI312 li_679 rfl).trans ((x_aload_n (n := 0) (pc := 680) mI312 li_680 rfl).trans ((x_iload_n (n := 3) (pc := 681) mI312 li_681 rfl).trans ((x_iconst (pc := 682) mI312 li_682 ic1).trans ((x_iadd (pc := 683) mI312 li_683).trans ((x_iald (pc := 684) mI312 li_684).trans (congrArg (rdA μ a0 0 (x3 + (1 : Int32))) ((x_aload_n (n := 0) (pc := 685) mI312 li_685 rfl).trans ((x_iload_n (n := 3) (pc := 686) mI312 li_686 rfl).trans ((x_iconst (pc := 687) mI312 li_687 ic2).trans ((x_iadd (pc := 688) mI312 li_688).trans ((x_iald (pc := 689) mI312 li_689).trans (congrArg (rdA μ a0 0 (x3 + (2 : Int32))) ((x_aload_n (n := 0) (pc := 690) mI312 li_690 rfl).trans ((x_iload_n (n := 3) (pc := 691) mI312 li_691 rfl).trans ((x_iconst (pc := 692) mI312 li_692 ic3).trans ((x_iadd (pc := 693) mI312 li_693).trans ((x_iald (pc := 694) mI312 li_694).trans (congrArg (rdA μ a0 0 (x3 + (3 : Int32))) (x_invV (i := 68) (j := 239) (n := 3) (c := 12) (pc := 695) mI312 li_695 rfl rfl rfl rfl)))))))))))))))))))
set_option maxRecDepth 20000 in
theorem b312_698 {E : (Nat → Value) × (Nat → Nat)} {lo d : Nat} {μ : rM} (a0 : Nat) (a1 : Nat) (a2 : Nat) (x3 : Int32) (y0 : Int32) (y1 : Int32) : ex PG E lo d 312 698 [some (.ref a0), some (.ref a1), some (.ref a2), some (.int x3)] [.int y1, .int y0] μ = if y0 = y1 then ex PG E lo d 312 1827 [some (.ref a0), some (.ref a1), some (.ref a2), some (.int x3)] [] μ else ex PG E lo d 312 701 [some (.ref a0), some (.ref a1), some (.ref a2), some (.int x3)] [] μ := x_cmpeq (t := 1827) (pc := 698) mI312 li_698 (by decide)
set_option maxRecDepth 20000 in
theorem b312_701 {E : (Nat → Value) × (Nat → Nat)} {lo d : Nat} {μ : rM} (a0 : Nat) (a1 : Nat) (a2 : Nat) (x3 : Int32) : ex PG E lo d 312 701 [some (.ref a0), some (.ref a1), some (.ref a2), some (.int x3)] [] μ = if (0 : Int32) = 0 ∨ (0 : Int32) = 1 then some (some (.int (0 : Int32)), μ) else none := (x_iconst (pc := 701) mI312 li_701 ic0).trans (x_zret (pc := 702) mI312 li_702 rfl)
set_option maxRecDepth 20000 in
theorem b312_703 {E : (Nat → Value) × (Nat → Nat)} {lo d : Nat} {μ : rM} (a0 : Nat) (a1 : Nat) (a2 : Nat) (x3 : Int32) : ex PG E lo d 312 703 [some (.ref a0), some (.ref a1), some (.ref a2), some (.int x3)] [] μ = rdA μ a0 0 (x3 + (1 : Int32)) (rdA μ a0 0 (x3 + (2 : Int32)) (rdA μ a0 0 (x3 + (3 : Int32)) (rdA μ a0 0 (x3 + (4 : Int32)) (gO μ a1 11 ((cl E lo d 138 [.ref a1, .int (ri μ a0 (Int32.toNatClampNeg (x3 + (1 : Int32)))), .int (ri μ a0 (Int32.toNatClampNeg (x3 + (2 : Int32)))), .int (ri μ a0 (Int32.toNatClampNeg (x3 + (3 : Int32)))), .int (ri μ a0 (Int32.toNatClampNeg (x3 + (4 : Int32))))] μ).bind fun z => ex PG E lo d 312 727 [some (.ref a0), some (.ref a1), some (.ref a2), some (.int x3)] (z.1.toList ++ []) z.2))))) := (x_aload_n (n := 1) (pc := 703) mI312 li_703 rfl).trans ((x_aload_n (n := 0) (pc := 704) mI312 li_704 rfl).trans ((x_iload_n (n := 3) (pc := 705) mI312 li_705 rfl).trans ((x_iconst (pc := 706) mI312 li_706 ic1).trans ((x_iadd (pc := 707) mI312 li_707).trans ((x_iald (pc := 708) mI312 li_708).trans (congrArg (rdA μ a0 0 (x3 + (1 : Int32))) ((x_aload_n (n := 0) (pc := 709) mI312 li_709 rfl).trans ((x_iload_n (n := 3) (pc := 710) mI312 li_710 rfl).trans ((x_iconst (pc := 711) mI312 li_711 ic2).trans ((x_iadd (pc := 712) mI312 li_712).trans ((x_iald (pc := 713) mI312 li_713).trans (congrArg (rdA μ a0 0 (x3 + (2 : Int32))) ((x_aload_n (n := 0) (pc := 714) mI312 li_714 rfl).trans ((x_iload_n (n := 3) (pc := 715) mI312 li_715 rfl).trans ((x_iconst (pc := 716) mI312 li_716 ic3).trans ((x_iadd (pc := 717) mI312 li_717).trans ((x_iald (pc := 718) mI312 li_718).trans (congrArg (rdA μ a0 0 (x3 + (3 : Int32))) ((x_aload_n (n := 0) (pc := 719) mI312 li_719 rfl).trans ((x_iload_n (n := 3) (pc := 720) mI312 li_720 rfl).trans ((x_iconst (pc := 721) mI312 li_721 ic4).trans ((x_iadd (pc := 722) mI312 li_722).trans ((x_iald (pc := 723) mI312 li_723).trans (congrArg (rdA μ a0 0 (x3 + (4 : Int32))) (x_invV (i := 69) (j := 138) (n := 4) (c := 11) (pc := 724) mI312 li_724 rfl rfl rfl rfl)))))))))))))))))))))))))
set_option maxRecDepth 20000 in
theorem b312_727 {E : (Nat → Value) × (Nat → Nat)} {lo d : Nat} {μ : rM} (a0 : Nat) (a1 : Nat) (a2 : Nat) (x3 : Int32) (y0 : Int32) : ex PG E lo d 312 727 [some (.ref a0), some (.ref a1), some (.ref a2), some (.int x3)] [.int y0] μ = rdA μ a0 0 (x3 + (1 : Int32)) (rdA μ a0 0 (x3 + (2 : Int32)) (rdA μ a0 0 (x3 + (3 : Int32)) (rdA μ a0 0 (x3 + (4 : Int32)) (gO μ a2 12 ((cl E lo d 241 [.ref a2, .int (ri μ a0 (Int32.toNatClampNeg (x3 + (1 : Int32)))), .int (ri μ a0 (Int32.toNatClampNeg (x3 + (2 : Int32)))), .int (ri μ a0 (Int32.toNatClampNeg (x3 + (3 : Int32)))), .int (ri μ a0 (Int32.toNatClampNeg (x3 + (4 : Int32))))] μ).bind fun z => ex PG E lo d 312 751 [some (.ref a0), some (.ref a1), some (.ref a2), some (.int x3)] (z.1.toList ++ [.int y0]) z.2))))) := (x_aload_n (n := 2) (pc := 727) mI312 li_727 rfl).trans ((x_aload_n (n := 0) (pc := 728) mI312 li_728 rfl).trans ((x_iload_n (n := 3) (pc := 729) mI312 li_729 rfl).trans ((x_iconst (pc := 730) mI312 li_730 ic1).trans ((x_iadd (pc := 731) mI312 li_731).trans ((x_iald (pc := 732) mI312 li_732).trans (congrArg (rdA μ a0 0 (x3 + (1 : Int32))) ((x_aload_n (n := 0) (pc := 733) mI312 li_733 rfl).trans ((x_iload_n (n := 3) (pc := 734) mI312 li_734 rfl).trans ((x_iconst (pc := 735) mI312 li_735 ic2).trans ((x_iadd (pc := 736) mI312 li_736).trans ((x_iald (pc := 737) mI312 li_737).trans (congrArg (rdA μ a0 0 (x3 + (2 : Int32))) ((x_aload_n (n := 0) (pc := 738) mI312 li_738 rfl).trans ((x_iload_n (n := 3) (pc := 739) mI312 li_739 rfl).trans ((x_iconst (pc := 740) mI312 li_740 ic3).trans ((x_iadd (pc := 741) mI312 li_741).trans ((x_iald (pc := 742) mI312 li_742).trans (congrArg (rdA μ a0 0 (x3 + (3 : Int32))) ((x_aload_n (n := 0) (pc := 743) mI312 li_743 rfl).trans ((x_iload_n (n := 3) (pc := 744) mI312 li_744 rfl).trans ((x_iconst (pc := 745) mI312 li_745 ic4).trans ((x_iadd (pc := 746) mI312 li_746).trans ((x_iald (pc := 747) mI312 li_747).trans (congrArg (rdA μ a0 0 (x3 + (4 : Int32))) (x_invV (i := 73) (j := 241) (n := 4) (c := 12) (pc := 748) mI312 li_748 rfl rfl rfl rfl)))))))))))))))))))))))))
set_option maxRecDepth 20000 in
theorem b312_751 {E : (Nat → Value) × (Nat → Nat)} {lo d : Nat} {μ : rM} (a0 : Nat) (a1 : Nat) (a2 : Nat) (x3 : Int32) (y0 : Int32) (y1 : Int32) : ex PG E lo d 312 751 [some (.ref a0), some (.ref a1), some (.ref a2), some (.int x3)] [.int y1, .int y0] μ = if y0 = y1 then ex PG E lo d 312 1827 [some (.ref a0), some (.ref a1), some (.ref a2), some (.int x3)] [] μ else ex PG E lo d 312 754 [some (.ref a0), some (.ref a1), some (.ref a2), some (.int x3)] [] μ := x_cmpeq (t := 1827) (pc := 751) mI312 li_751 (by decide)
set_option maxRecDepth 20000 in
theorem b312_754 {E : (Nat → Value) × (Nat → Nat)} {lo d : Nat} {μ : rM} (a0 : Nat) (a1 : Nat) (a2 : Nat) (x3 : Int32) : ex PG E lo d 312 754 [some (.ref a0), some (.ref a1), some (.ref a2), some (.int x3)] [] μ = if (0 : Int32) = 0 ∨ (0 : Int32) = 1 then some (some (.int (0 : Int32)), μ) else none := (x_iconst (pc := 754) mI312 li_754 ic0).trans (x_zret (pc := 755) mI312 li_755 rfl)
set_option maxRecDepth 20000 in
theorem b312_756 {E : (Nat → Value) × (Nat → Nat)} {lo d : Nat} {μ : rM} (a0 : Nat) (a1 : Nat) (a2 : Nat) (x3 : Int32) : ex PG E lo d 312 756 [some (.ref a0), some (.ref a1), some (.ref a2), some (.int x3)] [] μ = rdA μ a0 0 (x3 + (1 : Int32)) (rdA μ a0 0 (x3 + (2 : Int32)) (rdA μ a0 0 (x3 + (3 : Int32)) (rdA μ a0 0 (x3 + (4 : Int32)) (rdA μ a0 0 (x3 + (5 : Int32)) (if (ri μ a0 (Int32.toNatClampNeg (x3 + (5 : Int32)))) = (0 : Int32) then ex PG E lo d 312 789 [some (.ref a0), some (.ref a1), some (.ref a2), some (.int x3)] [.int (ri μ a0 (Int32.toNatClampNeg (x3 + (4 : Int32)))), .int (ri μ a0 (Int32.toNatClampNeg (x3 + (3 : Int32)))), .int (ri μ a0 (Int32.toNatClampNeg (x3 + (2 : Int32)))), .int (ri μ a0 (Int32.toNatClampNeg (x3 + (1 : Int32)))), .ref a1] μ else ex PG E lo d 312 785 [some (.ref a0), some (.ref a1), some (.ref a2), some (.int x3)] [.int (ri μ a0 (Int32.toNatClampNeg (x3 + (4 : Int32)))), .int (ri μ a0 (Int32.toNatClampNeg (x3 + (3 : Int32)))), .int (ri μ a0 (Int32.toNatClampNeg (x3 + (2 : Int32)))), .int (ri μ a0 (Int32.toNatClampNeg (x3 + (1 : Int32)))), .ref a1] μ))))) := (x_aload_n (n := 1) (pc := 756) mI312 li_756 rfl).trans ((x_aload_n (n := 0) (pc := 757) mI312 li_757 rfl).trans ((x_iload_n (n := 3) (pc := 758) mI312 li_758 rfl).trans ((x_iconst (pc := 759) mI312 li_759 ic1).trans ((x_iadd (pc := 760) mI312 li_760).trans ((x_iald (pc := 761) mI312 li_761).trans (congrArg (rdA μ a0 0 (x3 + (1 : Int32))) ((x_aload_n (n := 0) (pc := 762) mI312 li_762 rfl).trans ((x_iload_n (n := 3) (pc := 763) mI312 li_763 rfl).trans ((x_iconst (pc := 764) mI312 li_764 ic2).trans ((x_iadd (pc := 765) mI312 li_765).trans ((x_iald (pc := 766) mI312 li_766).trans (congrArg (rdA μ a0 0 (x3 + (2 : Int32))) ((x_aload_n (n := 0) (pc := 767) mI312 li_767 rfl).trans ((x_iload_n (n := 3) (pc := 768) mI312 li_768 rfl).trans ((x_iconst (pc := 769) mI312 li_769 ic3).trans ((x_iadd (pc := 770) mI312 li_770).trans ((x_iald (pc := 771) mI312 li_771).trans (congrArg (rdA μ a0 0 (x3 + (3 : Int32))) ((x_aload_n (n := 0) (pc := 772) mI312 li_772 rfl).trans ((x_iload_n (n := 3) (pc := 773) mI312 li_773 rfl).trans ((x_iconst (pc := 774) mI312 li_774 ic4).trans ((x_iadd (pc := 775) mI312 li_775).trans ((x_iald (pc := 776) mI312 li_776).trans (congrArg (rdA μ a0 0 (x3 + (4 : Int32))) ((x_aload_n (n := 0) (pc := 777) mI312 li_777 rfl).trans ((x_iload_n (n := 3) (pc := 778) mI312 li_778 rfl).trans ((x_iconst (pc := 779) mI312 li_779 ic5).trans ((x_iadd (pc := 780) mI312 li_780).trans ((x_iald (pc := 781) mI312 li_781).trans (congrArg (rdA μ a0 0 (x3 + (5 : Int32))) (x_ifeq (t := 789) (pc := 782) mI312 li_782 (by decide))))))))))))))))))))))))))))))))
set_option maxRecDepth 20000 in
theorem b312_785 {E : (Nat → Value) × (Nat → Nat)} {lo d : Nat} {μ : rM} (a0 : Nat) (a1 : Nat) (a2 : Nat) (x3 : Int32) (c0 : Nat) (y1 : Int32) (y2 : Int32) (y3 : Int32) (y4 : Int32) : ex PG E lo d 312 785 [some (.ref a0), some (.ref a1), some (.ref a2), some (.int x3)] [.int y4, .int y3, .int y2, .int y1, .ref c0] μ = ex PG E lo d 312 790 [some (.ref a0), some (.ref a1), some (.ref a2), some (.int x3)] [.int (1 : Int32), .int y4, .int y3, .int y2, .int y1, .ref c0] μ := (x_iconst (pc := 785) mI312 li_785 ic1).trans (x_goto (t := 790) (pc := 786) mI312 li_786 (by decide))
set_option maxRecDepth 20000 in
theorem b312_789 {E : (Nat → Value) × (Nat → Nat)} {lo d : Nat} {μ : rM} (a0 : Nat) (a1 : Nat) (a2 : Nat) (x3 : Int32) (c0 : Nat) (y1 : Int32) (y2 : Int32) (y3 : Int32) (y4 : Int32) : ex PG E lo d 312 789 [some (.ref a0), some (.ref a1), some (.ref a2), some (.int x3)] [.int y4, .int y3, .int y2, .int y1, .ref c0] μ = ex PG E lo d 312 790 [some (.ref a0), some (.ref a1), some (.ref a2), some (.int x3)] [.int (0 : Int32), .int y4, .int y3, .int y2, .int y1, .ref c0] μ := x_iconst (pc := 789) mI312 li_789 ic0
set_option maxRecDepth 20000 in
theorem b312_790 {E : (Nat → Value) × (Nat → Nat)} {lo d : Nat} {μ : rM} (a0 : Nat) (a1 : Nat) (a2 : Nat) (x3 : Int32) (c0 : Nat) (y1 : Int32) (y2 : Int32) (y3 : Int32) (y4 : Int32) (y5 : Int32) : ex PG E lo d 312 790 [some (.ref a0), some (.ref a1), some (.ref a2), some (.int x3)] [.int y5, .int y4, .int y3, .int y2, .int y1, .ref c0] μ = gO μ c0 11 ((cl E lo d 139 [.ref c0, .int y1, .int y2, .int y3, .int y4, .int y5] μ).bind fun z => ex PG E lo d 312 793 [some (.ref a0), some (.ref a1), some (.ref a2), some (.int x3)] (z.1.toList ++ []) z.2) := x_invV (i := 74) (j := 139) (n := 5) (c := 11) (pc := 790) mI312 li_790 rfl rfl rfl rfl
set_option maxRecDepth 20000 in
theorem b312_793 {E : (Nat → Value) × (Nat → Nat)} {lo d : Nat} {μ : rM} (a0 : Nat) (a1 : Nat) (a2 : Nat) (x3 : Int32) (y0 : Int32) : ex PG E lo d 312 793 [some (.ref a0), some (.ref a1), some (.ref a2), some (.int x3)] [.int y0] μ = rdA μ a0 0 (x3 + (1 : Int32)) (rdA μ a0 0 (x3 + (2 : Int32)) (rdA μ a0 0 (x3 + (3 : Int32)) (rdA μ a0 0 (x3 + (4 : Int32)) (rdA μ a0 0 (x3 + (5 : Int32)) (if (ri μ a0 (Int32.toNatClampNeg (x3 + (5 : Int32)))) = (0 : Int32) then ex PG E lo d 312 826 [some (.ref a0), some (.ref a1), some (.ref a2), some (.int x3)] [.int (ri μ a0 (Int32.toNatClampNeg (x3 + (4 : Int32)))), .int (ri μ a0 (Int32.toNatClampNeg (x3 + (3 : Int32)))), .int (ri μ a0 (Int32.toNatClampNeg (x3 + (2 : Int32)))), .int (ri μ a0 (Int32.toNatClampNeg (x3 + (1 : Int32)))), .ref a2, .int y0] μ else ex PG E lo d 312 822 [some (.ref a0), some (.ref a1), some (.ref a2), some (.int x3)] [.int (ri μ a0 (Int32.toNatClampNeg (x3 + (4 : Int32)))), .int (ri μ a0 (Int32.toNatClampNeg (x3 + (3 : Int32)))), .int (ri μ a0 (Int32.toNatClampNeg (x3 + (2 : Int32)))), .int (ri μ a0 (Int32.toNatClampNeg (x3 + (1 : Int32)))), .ref a2, .int y0] μ))))) := (x_aload_n (n := 2) (pc := 793) mI312 li_793 rfl).trans ((x_aload_n (n := 0) (pc := 794) mI312 li_794 rfl).trans ((x_iload_n (n := 3) (pc := 795) mI312 li_795 rfl).trans ((x_iconst (pc := 796) mI312 li_796 ic1).trans ((x_iadd (pc := 797) mI312 li_797).trans ((x_iald (pc := 798) mI312 li_798).trans (congrArg (rdA μ a0 0 (x3 + (1 : Int32))) ((x_aload_n (n := 0) (pc := 799) mI312 li_799 rfl).trans ((x_iload_n (n := 3) (pc := 800) mI312 li_800 rfl).trans ((x_iconst (pc := 801) mI312 li_801 ic2).trans ((x_iadd (pc := 802) mI312 li_802).trans ((x_iald (pc := 803) mI312 li_803).trans (congrArg (rdA μ a0 0 (x3 + (2 : Int32))) ((x_aload_n (n := 0) (pc := 804) mI312 li_804 rfl).trans ((x_iload_n (n := 3) (pc := 805) mI312 li_805 rfl).trans ((x_iconst (pc := 806) mI312 li_806 ic3).trans ((x_iadd (pc := 807) mI312 li_807).trans ((x_iald (pc := 808) mI312 li_808).trans (congrArg (rdA μ a0 0 (x3 + (3 : Int32))) ((x_aload_n (n := 0) (pc := 809) mI312 li_809 rfl).trans ((x_iload_n (n := 3) (pc := 810) mI312 li_810 rfl).trans ((x_iconst (pc := 811) mI312 li_811 ic4).trans ((x_iadd (pc := 812) mI312 li_812).trans ((x_iald (pc := 813) mI312 li_813).trans (congrArg (rdA μ a0 0 (x3 + (4 : Int32))) ((x_aload_n (n := 0) (pc := 814) mI312 li_814 rfl).trans ((x_iload_n (n := 3) (pc := 815) mI312 li_815 rfl).trans ((x_iconst (pc := 816) mI312 li_816 ic5).trans ((x_iadd (pc := 817) mI312 li_817).trans ((x_iald (pc := 818) mI312 li_818).trans (congrArg (rdA μ a0 0 (x3 + (5 : Int32))) (x_ifeq (t := 826) (pc := 819) mI312 li_819 (by decide))))))))))))))))))))))))))))))))
set_option maxRecDepth 20000 in
theorem b312_822 {E : (Nat → Value) × (Nat → Nat)} {lo d : Nat} {μ : rM} (a0 : Nat) (a1 : Nat) (a2 : Nat) (x3 : Int32) (y0 : Int32) (c1 : Nat) (y2 : Int32) (y3 : Int32) (y4 : Int32) (y5 : Int32) : ex PG E lo d 312 822 [some (.ref a0), some (.ref a1), some (.ref a2), some (.int x3)] [.int y5, .int y4, .int y3, .int y2, .ref c1, .int y0] μ = ex PG E lo d 312 827 [some (.ref a0), some (.ref a1), some (.ref a2), some (.int x3)] [.int (1 : Int32), .int y5, .int y4, .int y3, .int y2, .ref c1, .int y0] μ := (x_iconst (pc := 822) mI312 li_822 ic1).trans (x_goto (t := 827) (pc := 823) mI312 li_823 (by decide))
set_option maxRecDepth 20000 in
theorem b312_826 {E : (Nat → Value) × (Nat → Nat)} {lo d : Nat} {μ : rM} (a0 : Nat) (a1 : Nat) (a2 : Nat) (x3 : Int32) (y0 : Int32) (c1 : Nat) (y2 : Int32) (y3 : Int32) (y4 : Int32) (y5 : Int32) : ex PG E lo d 312 826 [some (.ref a0), some (.ref a1), some (.ref a2), some (.int x3)] [.int y5, .int y4, .int y3, .int y2, .ref c1, .int y0] μ = ex PG E lo d 312 827 [some (.ref a0), some (.ref a1), some (.ref a2), some (.int x3)] [.int (0 : Int32), .int y5, .int y4, .int y3, .int y2, .ref c1, .int y0] μ := x_iconst (pc := 826) mI312 li_826 ic0
set_option maxRecDepth 20000 in
theorem b312_827 {E : (Nat → Value) × (Nat → Nat)} {lo d : Nat} {μ : rM} (a0 : Nat) (a1 : Nat) (a2 : Nat) (x3 : Int32) (y0 : Int32) (c1 : Nat) (y2 : Int32) (y3 : Int32) (y4 : Int32) (y5 : Int32) (y6 : Int32) : ex PG E lo d 312 827 [some (.ref a0), some (.ref a1), some (.ref a2), some (.int x3)] [.int y6, .int y5, .int y4, .int y3, .int y2, .ref c1, .int y0] μ = gO μ c1 12 ((cl E lo d 242 [.ref c1, .int y2, .int y3, .int y4, .int y5, .int y6] μ).bind fun z => ex PG E lo d 312 830 [some (.ref a0), some (.ref a1), some (.ref a2), some (.int x3)] (z.1.toList ++ [.int y0]) z.2) := x_invV (i := 78) (j := 242) (n := 5) (c := 12) (pc := 827) mI312 li_827 rfl rfl rfl rfl
set_option maxRecDepth 20000 in
theorem b312_830 {E : (Nat → Value) × (Nat → Nat)} {lo d : Nat} {μ : rM} (a0 : Nat) (a1 : Nat) (a2 : Nat) (x3 : Int32) (y0 : Int32) (y1 : Int32) : ex PG E lo d 312 830 [some (.ref a0), some (.ref a1), some (.ref a2), some (.int x3)] [.int y1, .int y0] μ = if y0 = y1 then ex PG E lo d 312 1827 [some (.ref a0), some (.ref a1), some (.ref a2), some (.int x3)] [] μ else ex PG E lo d 312 833 [some (.ref a0), some (.ref a1), some (.ref a2), some (.int x3)] [] μ := x_cmpeq (t := 1827) (pc := 830) mI312 li_830 (by decide)
set_option maxRecDepth 20000 in
theorem b312_833 {E : (Nat → Value) × (Nat → Nat)} {lo d : Nat} {μ : rM} (a0 : Nat) (a1 : Nat) (a2 : Nat) (x3 : Int32) : ex PG E lo d 312 833 [some (.ref a0), some (.ref a1), some (.ref a2), some (.int x3)] [] μ = if (0 : Int32) = 0 ∨ (0 : Int32) = 1 then some (some (.int (0 : Int32)), μ) else none := (x_iconst (pc := 833) mI312 li_833 ic0).trans (x_zret (pc := 834) mI312 li_834 rfl)
set_option maxRecDepth 20000 in
theorem b312_835 {E : (Nat → Value) × (Nat → Nat)} {lo d : Nat} {μ : rM} (a0 : Nat) (a1 : Nat) (a2 : Nat) (x3 : Int32) : ex PG E lo d 312 835 [some (.ref a0), some (.ref a1), some (.ref a2), some (.int x3)] [] μ = rdA μ a0 0 (x3 + (1 : Int32)) (rdA μ a0 0 (x3 + (2 : Int32)) (rdA μ a0 0 (x3 + (3 : Int32)) (gO μ a1 11 ((cl E lo d 140 [.ref a1, .int (ri μ a0 (Int32.toNatClampNeg (x3 + (1 : Int32)))), .int (ri μ a0 (Int32.toNatClampNeg (x3 + (2 : Int32)))), .int (ri μ a0 (Int32.toNatClampNeg (x3 + (3 : Int32))))] μ).bind fun z => ex PG E lo d 312 854 [some (.ref a0), some (.ref a1), some (.ref a2), some (.int x3)] (z.1.toList ++ []) z.2)))) := (x_aload_n (n := 1) (pc := 835) mI312 li_835 rfl).trans ((x_aload_n (n := 0) (pc := 836) mI312 li_836 rfl).trans ((x_iload_n (n := 3) (pc := 837) mI312 li_837 rfl).trans ((x_iconst (pc := 838) mI312 li_838 ic1).trans ((x_iadd (pc := 839) mI312 li_839).trans ((x_iald (pc := 840) mI312 li_840).trans (congrArg (rdA μ a0 0 (x3 + (1 : Int32))) ((x_aload_n (n := 0) (pc := 841) mI312 li_841 rfl).trans ((x_iload_n (n := 3) (pc := 842) mI312 li_842 rfl).trans ((x_iconst (pc := 843) mI312 li_843 ic2).trans ((x_iadd (pc := 844) mI312 li_844).trans ((x_iald (pc := 845) mI312 li_845).trans (congrArg (rdA μ a0 0 (x3 + (2 : Int32))) ((x_aload_n (n := 0) (pc := 846) mI312 li_846 rfl).trans ((x_iload_n (n := 3) (pc := 847) mI312 li_847 rfl).trans ((x_iconst (pc := 848) mI312 li_848 ic3).trans ((x_iadd (pc := 849) mI312 li_849).trans ((x_iald (pc := 850) mI312 li_850).trans (congrArg (rdA μ a0 0 (x3 + (3 : Int32))) (x_invV (i := 79) (j := 140) (n := 3) (c := 11) (pc := 851) mI312 li_851 rfl rfl rfl rfl)))))))))))))))))))
set_option maxRecDepth 20000 in
theorem b312_854 {E : (Nat → Value) × (Nat → Nat)} {lo d : Nat} {μ : rM} (a0 : Nat) (a1 : Nat) (a2 : Nat) (x3 : Int32) (y0 : Int32) : ex PG E lo d 312 854 [some (.ref a0), some (.ref a1), some (.ref a2), some (.int x3)] [.int y0] μ = rdA μ a0 0 (x3 + (1 : Int32)) (rdA μ a0 0 (x3 + (2 : Int32)) (rdA μ a0 0 (x3 + (3 : Int32)) (gO μ a2 12 ((cl E lo d 247 [.ref a2, .int (ri μ a0 (Int32.toNatClampNeg (x3 + (1 : Int32)))), .int (ri μ a0 (Int32.toNatClampNeg (x3 + (2 : Int32)))), .int (ri μ a0 (Int32.toNatClampNeg (x3 + (3 : Int32))))] μ).bind fun z => ex PG E lo d 312 873 [some (.ref a0), some (.ref a1), some (.ref a2), some (.int x3)] (z.1.toList ++ [.int y0]) z.2)))) := (x_aload_n (n := 2) (pc := 854) mI312 li_854 rfl).trans ((x_aload_n (n := 0) (pc := 855) mI312 li_855 rfl).trans ((x_iload_n (n := 3) (pc := 856) mI312 li_856 rfl).trans ((x_iconst (pc := 857) mI312 li_857 ic1).trans ((x_iadd (pc := 858) mI312 li_858).trans ((x_iald (pc := 859) mI312 li_859).trans (congrArg (rdA μ a0 0 (x3 + (1 : Int32))) ((x_aload_n (n := 0) (pc := 860) mI312 li_860 rfl).trans ((x_iload_n (n := 3) (pc := 861) mI312 li_861 rfl).trans ((x_iconst (pc := 862) mI312 li_862 ic2).trans ((x_iadd (pc := 863) mI312 li_863).trans ((x_iald (pc := 864) mI312 li_864).trans (congrArg (rdA μ a0 0 (x3 + (2 : Int32))) ((x_aload_n (n := 0) (pc := 865) mI312 li_865 rfl).trans ((x_iload_n (n := 3) (pc := 866) mI312 li_866 rfl).trans ((x_iconst (pc := 867) mI312 li_867 ic3).trans ((x_iadd (pc := 868) mI312 li_868).trans ((x_iald (pc := 869) mI312 li_869).trans (congrArg (rdA μ a0 0 (x3 + (3 : Int32))) (x_invV (i := 82) (j := 247) (n := 3) (c := 12) (pc := 870) mI312 li_870 rfl rfl rfl rfl)))))))))))))))))))
set_option maxRecDepth 20000 in
theorem b312_873 {E : (Nat → Value) × (Nat → Nat)} {lo d : Nat} {μ : rM} (a0 : Nat) (a1 : Nat) (a2 : Nat) (x3 : Int32) (y0 : Int32) (y1 : Int32) : ex PG E lo d 312 873 [some (.ref a0), some (.ref a1), some (.ref a2), some (.int x3)] [.int y1, .int y0] μ = if y0 = y1 then ex PG E lo d 312 1827 [some (.ref a0), some (.ref a1), some (.ref a2), some (.int x3)] [] μ else ex PG E lo d 312 876 [some (.ref a0), some (.ref a1), some (.ref a2), some (.int x3)] [] μ := x_cmpeq (t := 1827) (pc := 873) mI312 li_873 (by decide)
set_option maxRecDepth 20000 in
theorem b312_876 {E : (Nat → Value) × (Nat → Nat)} {lo d : Nat} {μ : rM} (a0 : Nat) (a1 : Nat) (a2 : Nat) (x3 : Int32) : ex PG E lo d 312 876 [some (.ref a0), some (.ref a1), some (.ref a2), some (.int x3)] [] μ = if (0 : Int32) = 0 ∨ (0 : Int32) = 1 then some (some (.int (0 : Int32)), μ) else none := (x_iconst (pc := 876) mI312 li_876 ic0).trans (x_zret (pc := 877) mI312 li_877 rfl)
set_option maxRecDepth 20000 in
theorem b312_878 {E : (Nat → Value) × (Nat → Nat)} {lo d : Nat} {μ : rM} (a0 : Nat) (a1 : Nat) (a2 : Nat) (x3 : Int32) : ex PG E lo d 312 878 [some (.ref a0), some (.ref a1), some (.ref a2), some (.int x3)] [] μ = rdA μ a0 0 (x3 + (1 : Int32)) (rdA μ a0 0 (x3 + (2 : Int32)) (rdA μ a0 0 (x3 + (3 : Int32)) (gO μ a1 11 ((cl E lo d 141 [.ref a1, .int (ri μ a0 (Int32.toNatClampNeg (x3 + (1 : Int32)))), .int (ri μ a0 (Int32.toNatClampNeg (x3 + (2 : Int32)))), .int (ri μ a0 (Int32.toNatClampNeg (x3 + (3 : Int32))))] μ).bind fun z => ex PG E lo d 312 897 [some (.ref a0), some (.ref a1), some (.ref a2), some (.int x3)] (z.1.toList ++ []) z.2)))) := (x_aload_n (n := 1) (pc := 878) mI312 li_878 rfl).trans ((x_aload_n (n := 0) (pc := 879) mI312 li_879 rfl).trans ((x_iload_n (n := 3) (pc := 880) mI312 li_880 rfl).trans ((x_iconst (pc := 881) mI312 li_881 ic1).trans ((x_iadd (pc := 882) mI312 li_882).trans ((x_iald (pc := 883) mI312 li_883).trans (congrArg (rdA μ a0 0 (x3 + (1 : Int32))) ((x_aload_n (n := 0) (pc := 884) mI312 li_884 rfl).trans ((x_iload_n (n := 3) (pc := 885) mI312 li_885 rfl).trans ((x_iconst (pc := 886) mI312 li_886 ic2).trans ((x_iadd (pc := 887) mI312 li_887).trans ((x_iald (pc := 888) mI312 li_888).trans (congrArg (rdA μ a0 0 (x3 + (2 : Int32))) ((x_aload_n (n := 0) (pc := 889) mI312 li_889 rfl).trans ((x_iload_n (n := 3) (pc := 890) mI312 li_890 rfl).trans ((x_iconst (pc := 891) mI312 li_891 ic3).trans ((x_iadd (pc := 892) mI312 li_892).trans ((x_iald (pc := 893) mI312 li_893).trans (congrArg (rdA μ a0 0 (x3 + (3 : Int32))) (x_invV (i := 83) (j := 141) (n := 3) (c := 11) (pc := 894) mI312 li_894 rfl rfl rfl rfl)))))))))))))))))))
set_option maxRecDepth 20000 in
theorem b312_897 {E : (Nat → Value) × (Nat → Nat)} {lo d : Nat} {μ : rM} (a0 : Nat) (a1 : Nat) (a2 : Nat) (x3 : Int32) (y0 : Int32) : ex PG E lo d 312 897 [some (.ref a0), some (.ref a1), some (.ref a2), some (.int x3)] [.int y0] μ = rdA μ a0 0 (x3 + (1 : Int32)) (rdA μ a0 0 (x3 + (2 : Int32)) (rdA μ a0 0 (x3 + (3 : Int32)) (gO μ a2 12 ((cl E lo d 248 [.ref a2, .int (ri μ a0 (Int32.toNatClampNeg (x3 + (1 : Int32)))), .int (ri μ a0 (Int32.toNatClampNeg (x3 + (2 : Int32)))), .int (ri μ a0 (Int32.toNatClampNeg (x3 + (3 : Int32))))] μ).bind fun z => ex PG E lo d 312 916 [some (.ref a0), some (.ref a1), some (.ref a2), some (.int x3)] (z.1.toList ++ [.int y0]) z.2)))) := (x_aload_n (n := 2) (pc := 897) mI312 li_897 rfl).trans ((x_aload_n (n := 0) (pc := 898) mI312 li_898 rfl).trans ((x_iload_n (n := 3) (pc := 899) mI312 li_899 rfl).trans ((x_iconst (pc := 900) mI312 li_900 ic1).trans ((x_iadd (pc := 901) mI312 li_901).trans ((x_iald (pc := 902) mI312 li_902).trans (congrArg (rdA μ a0 0 (x3 + (1 : Int32))) ((x_aload_n (n := 0) (pc := 903) mI312 li_903 rfl).trans ((x_iload_n (n := 3) (pc := 904) mI312 li_904 rfl).trans ((x_iconst (pc := 905) mI312 li_905 ic2).trans ((x_iadd (pc := 906) mI312 li_906).trans ((x_iald (pc := 907) mI312 li_907).trans (congrArg (rdA μ a0 0 (x3 + (2 : Int32))) ((x_aload_n (n := 0) (pc := 908) mI312 li_908 rfl).trans ((x_iload_n (n := 3) (pc := 909) mI312 li_909 rfl).trans ((x_iconst (pc := 910) mI312 li_910 ic3).trans ((x_iadd (pc := 911) mI312 li_911).trans ((x_iald (pc := 912) mI312 li_912).trans (congrArg (rdA μ a0 0 (x3 + (3 : Int32))) (x_invV (i := 86) (j := 248) (n := 3) (c := 12) (pc := 913) mI312 li_913 rfl rfl rfl rfl)))))))))))))))))))
set_option maxRecDepth 20000 in
theorem b312_916 {E : (Nat → Value) × (Nat → Nat)} {lo d : Nat} {μ : rM} (a0 : Nat) (a1 : Nat) (a2 : Nat) (x3 : Int32) (y0 : Int32) (y1 : Int32) : ex PG E lo d 312 916 [some (.ref a0), some (.ref a1), some (.ref a2), some (.int x3)] [.int y1, .int y0] μ = if y0 = y1 then ex PG E lo d 312 1827 [some (.ref a0), some (.ref a1), some (.ref a2), some (.int x3)] [] μ else ex PG E lo d 312 919 [some (.ref a0), some (.ref a1), some (.ref a2), some (.int x3)] [] μ := x_cmpeq (t := 1827) (pc := 916) mI312 li_916 (by decide)
set_option maxRecDepth 20000 in
theorem b312_919 {E : (Nat → Value) × (Nat → Nat)} {lo d : Nat} {μ : rM} (a0 : Nat) (a1 : Nat) (a2 : Nat) (x3 : Int32) : ex PG E lo d 312 919 [some (.ref a0), some (.ref a1), some (.ref a2), some (.int x3)] [] μ = if (0 : Int32) = 0 ∨ (0 : Int32) = 1 then some (some (.int (0 : Int32)), μ) else none := (x_iconst (pc := 919) mI312 li_919 ic0).trans (x_zret (pc := 920) mI312 li_920 rfl)
set_option maxRecDepth 20000 in
theorem b312_921 {E : (Nat → Value) × (Nat → Nat)} {lo d : Nat} {μ : rM} (a0 : Nat) (a1 : Nat) (a2 : Nat) (x3 : Int32) : ex PG E lo d 312 921 [some (.ref a0), some (.ref a1), some (.ref a2), some (.int x3)] [] μ = rdA μ a0 0 (x3 + (1 : Int32)) (rdA μ a0 0 (x3 + (2 : Int32)) (gO μ a1 11 ((cl E lo d 142 [.ref a1, .int (ri μ a0 (Int32.toNatClampNeg (x3 + (1 : Int32)))), .int (ri μ a0 (Int32.toNatClampNeg (x3 + (2 : Int32))))] μ).bind fun z => ex PG E lo d 312 935 [some (.ref a0), some (.ref a1), some (.ref a2), some (.int x3)] (z.1.toList ++ []) z.2))) := (x_aload_n (n := 1) (pc := 921) mI312 li_921 rfl).trans ((x_aload_n (n := 0) (pc := 922) mI312 li_922 rfl).trans ((x_iload_n (n := 3) (pc := 923) mI312 li_923 rfl).trans ((x_iconst (pc := 924) mI312 li_924 ic1).trans ((x_iadd (pc := 925) mI312 li_925).trans ((x_iald (pc := 926) mI312 li_926).trans (congrArg (rdA μ a0 0 (x3 + (1 : Int32))) ((x_aload_n (n := 0) (pc := 927) mI312 li_927 rfl).trans ((x_iload_n (n := 3) (pc := 928) mI312 li_928 rfl).trans ((x_iconst (pc := 929) mI312 li_929 ic2).trans ((x_iadd (pc := 930) mI312 li_930).trans ((x_iald (pc := 931) mI312 li_931).trans (congrArg (rdA μ a0 0 (x3 + (2 : Int32))) (x_invV (i := 87) (j := 142) (n := 2) (c := 11) (pc := 932) mI312 li_932 rfl rfl rfl rfl)))))))))))))
set_option maxRecDepth 20000 in
theorem b312_935 {E : (Nat → Value) × (Nat → Nat)} {lo d : Nat} {μ : rM} (a0 : Nat) (a1 : Nat) (a2 : Nat) (x3 : Int32) (y0 : Int32) : ex PG E lo d 312 935 [some (.ref a0), some (.ref a1), some (.ref a2), some (.int x3)] [.int y0] μ = rdA μ a0 0 (x3 + (1 : Int32)) (rdA μ a0 0 (x3 + (2 : Int32)) (gO μ a2 12 ((cl E lo d 249 [.ref a2, .int (ri μ a0 (Int32.toNatClampNeg (x3 + (1 : Int32)))), .int (ri μ a0 (Int32.toNatClampNeg (x3 + (2 : Int32))))] μ).bind fun z => ex PG E lo d 312 949 [some (.ref a0), some (.ref a1), some (.ref a2), some (.int x3)] (z.1.toList ++ [.int y0]) z.2))) := (x_aload_n (n := 2) (pc := 935) mI312 li_935 rfl).trans ((x_aload_n (n := 0) (pc := 936) mI312 li_936 rfl).trans ((x_iload_n (n := 3) (pc := 937) mI312 li_937 rfl).trans ((x_iconst (pc := 938) mI312 li_938 ic1).trans ((x_iadd (pc := 939) mI312 li_939).trans ((x_iald (pc := 940) mI312 li_940).trans (congrArg (rdA μ a0 0 (x3 + (1 : Int32))) ((x_aload_n (n := 0) (pc := 941) mI312 li_941 rfl).trans ((x_iload_n (n := 3) (pc := 942) mI312 li_942 rfl).trans ((x_iconst (pc := 943) mI312 li_943 ic2).trans ((x_iadd (pc := 944) mI312 li_944).trans ((x_iald (pc := 945) mI312 li_945).trans (congrArg (rdA μ a0 0 (x3 + (2 : Int32))) (x_invV (i := 90) (j := 249) (n := 2) (c := 12) (pc := 946) mI312 li_946 rfl rfl rfl rfl)))))))))))))
set_option maxRecDepth 20000 in
theorem b312_949 {E : (Nat → Value) × (Nat → Nat)} {lo d : Nat} {μ : rM} (a0 : Nat) (a1 : Nat) (a2 : Nat) (x3 : Int32) (y0 : Int32) (y1 : Int32) : ex PG E lo d 312 949 [some (.ref a0), some (.ref a1), some (.ref a2), some (.int x3)] [.int y1, .int y0] μ = if y0 = y1 then ex PG E lo d 312 1827 [some (.ref a0), some (.ref a1), some (.ref a2), some (.int x3)] [] μ else ex PG E lo d 312 952 [some (.ref a0), some (.ref a1), some (.ref a2), some (.int x3)] [] μ := x_cmpeq (t := 1827) (pc := 949) mI312 li_949 (by decide)
set_option maxRecDepth 20000 in
theorem b312_952 {E : (Nat → Value) × (Nat → Nat)} {lo d : Nat} {μ : rM} (a0 : Nat) (a1 : Nat) (a2 : Nat) (x3 : Int32) : ex PG E lo d 312 952 [some (.ref a0), some (.ref a1), some (.ref a2), some (.int x3)] [] μ = if (0 : Int32) = 0 ∨ (0 : Int32) = 1 then some (some (.int (0 : Int32)), μ) else none := (x_iconst (pc := 952) mI312 li_952 ic0).trans (x_zret (pc := 953) mI312 li_953 rfl)
set_option maxRecDepth 20000 in
theorem b312_954 {E : (Nat → Value) × (Nat → Nat)} {lo d : Nat} {μ : rM} (a0 : Nat) (a1 : Nat) (a2 : Nat) (x3 : Int32) : ex PG E lo d 312 954 [some (.ref a0), some (.ref a1), some (.ref a2), some (.int x3)] [] μ = rdA μ a0 0 (x3 + (1 : Int32)) (rdA μ a0 0 (x3 + (2 : Int32)) (rdA μ a0 0 (x3 + (3 : Int32)) (rdA μ a0 0 (x3 + (4 : Int32)) (rdA μ a0 0 (x3 + (5 : Int32)) (gO μ a1 11 ((cl E lo d 143 [.ref a1, .int (ri μ a0 (Int32.toNatClampNeg (x3 + (1 : Int32)))), .int (ri μ a0 (Int32.toNatClampNeg (x3 + (2 : Int32)))), .int (ri μ a0 (Int32.toNatClampNeg (x3 + (3 : Int32)))), .int (ri μ a0 (Int32.toNatClampNeg (x3 + (4 : Int32)))), .int (ri μ a0 (Int32.toNatClampNeg (x3 + (5 : Int32))))] μ).bind fun z => ex PG E lo d 312 983 [some (.ref a0), some (.ref a1), some (.ref a2), some (.int x3)] (z.1.toList ++ []) z.2)))))) := (x_aload_n (n := 1) (pc := 954) mI312 li_954 rfl).trans ((x_aload_n (n := 0) (pc := 955) mI312 li_955 rfl).trans ((x_iload_n (n := 3) (pc := 956) mI312 li_956 rfl).trans ((x_iconst (pc := 957) mI312 li_957 ic1).trans ((x_iadd (pc := 958) mI312 li_958).trans ((x_iald (pc := 959) mI312 li_959).trans (congrArg (rdA μ a0 0 (x3 + (1 : Int32))) ((x_aload_n (n := 0) (pc := 960) mI312 li_960 rfl).trans ((x_iload_n (n := 3) (pc := 961) mI312 li_961 rfl).trans ((x_iconst (pc := 962) mI312 li_962 ic2).trans ((x_iadd (pc := 963) mI312 li_963).trans ((x_iald (pc := 964) mI312 li_964).trans (congrArg (rdA μ a0 0 (x3 + (2 : Int32))) ((x_aload_n (n := 0) (pc := 965) mI312 li_965 rfl).trans ((x_iload_n (n := 3) (pc := 966) mI312 li_966 rfl).trans ((x_iconst (pc := 967) mI312 li_967 ic3).trans ((x_iadd (pc := 968) mI312 li_968).trans ((x_iald (pc := 969) mI312 li_969).trans (congrArg (rdA μ a0 0 (x3 + (3 : Int32))) ((x_aload_n (n := 0) (pc := 970) mI312 li_970 rfl).trans ((x_iload_n (n := 3) (pc := 971) mI312 li_971 rfl).trans ((x_iconst (pc := 972) mI312 li_972 ic4).trans ((x_iadd (pc := 973) mI312 li_973).trans ((x_iald (pc := 974) mI312 li_974).trans (congrArg (rdA μ a0 0 (x3 + (4 : Int32))) ((x_aload_n (n := 0) (pc := 975) mI312 li_975 rfl).trans ((x_iload_n (n := 3) (pc := 976) mI312 li_976 rfl).trans ((x_iconst (pc := 977) mI312 li_977 ic5).trans ((x_iadd (pc := 978) mI312 li_978).trans ((x_iald (pc := 979) mI312 li_979).trans (congrArg (rdA μ a0 0 (x3 + (5 : Int32))) (x_invV (i := 91) (j := 143) (n := 5) (c := 11) (pc := 980) mI312 li_980 rfl rfl rfl rfl)))))))))))))))))))))))))))))))
set_option maxRecDepth 20000 in
theorem b312_983 {E : (Nat → Value) × (Nat → Nat)} {lo d : Nat} {μ : rM} (a0 : Nat) (a1 : Nat) (a2 : Nat) (x3 : Int32) (m0 : Int64) : ex PG E lo d 312 983 [some (.ref a0), some (.ref a1), some (.ref a2), some (.int x3)] [.long m0] μ = rdA μ a0 0 (x3 + (1 : Int32)) (rdA μ a0 0 (x3 + (2 : Int32)) (rdA μ a0 0 (x3 + (3 : Int32)) (rdA μ a0 0 (x3 + (4 : Int32)) (rdA μ a0 0 (x3 + (5 : Int32)) (gO μ a2 12 ((cl E lo d 257 [.ref a2, .int (ri μ a0 (Int32.toNatClampNeg (x3 + (1 : Int32)))), .int (ri μ a0 (Int32.toNatClampNeg (x3 + (2 : Int32)))), .int (ri μ a0 (Int32.toNatClampNeg (x3 + (3 : Int32)))), .int (ri μ a0 (Int32.toNatClampNeg (x3 + (4 : Int32)))), .int (ri μ a0 (Int32.toNatClampNeg (x3 + (5 : Int32))))] μ).bind fun z => ex PG E lo d 312 1012 [some (.ref a0), some (.ref a1), some (.ref a2), some (.int x3)] (z.1.toList ++ [.long m0]) z.2)))))) := (x_aload_n (n := 2) (pc := 983) mI312 li_983 rfl).trans ((x_aload_n (n := 0) (pc := 984) mI312 li_984 rfl).trans ((x_iload_n (n := 3) (pc := 985) mI312 li_985 rfl).trans ((x_iconst (pc := 986) mI312 li_986 ic1).trans ((x_iadd (pc := 987) mI312 li_987).trans ((x_iald (pc := 988) mI312 li_988).trans (congrArg (rdA μ a0 0 (x3 + (1 : Int32))) ((x_aload_n (n := 0) (pc := 989) mI312 li_989 rfl).trans ((x_iload_n (n := 3) (pc := 990) mI312 li_990 rfl).trans ((x_iconst (pc := 991) mI312 li_991 ic2).trans ((x_iadd (pc := 992) mI312 li_992).trans ((x_iald (pc := 993) mI312 li_993).trans (congrArg (rdA μ a0 0 (x3 + (2 : Int32))) ((x_aload_n (n := 0) (pc := 994) mI312 li_994 rfl).trans ((x_iload_n (n := 3) (pc := 995) mI312 li_995 rfl).trans ((x_iconst (pc := 996) mI312 li_996 ic3).trans ((x_iadd (pc := 997) mI312 li_997).trans ((x_iald (pc := 998) mI312 li_998).trans (congrArg (rdA μ a0 0 (x3 + (3 : Int32))) ((x_aload_n (n := 0) (pc := 999) mI312 li_999 rfl).trans ((x_iload_n (n := 3) (pc := 1000) mI312 li_1000 rfl).trans ((x_iconst (pc := 1001) mI312 li_1001 ic4).trans ((x_iadd (pc := 1002) mI312 li_1002).trans ((x_iald (pc := 1003) mI312 li_1003).trans (congrArg (rdA μ a0 0 (x3 + (4 : Int32))) ((x_aload_n (n := 0) (pc := 1004) mI312 li_1004 rfl).trans ((x_iload_n (n := 3) (pc := 1005) mI312 li_1005 rfl).trans ((x_iconst (pc := 1006) mI312 li_1006 ic5).trans ((x_iadd (pc := 1007) mI312 li_1007).trans ((x_iald (pc := 1008) mI312 li_1008).trans (congrArg (rdA μ a0 0 (x3 + (5 : Int32))) (x_invV (i := 95) (j := 257) (n := 5) (c := 12) (pc := 1009) mI312 li_1009 rfl rfl rfl rfl)))))))))))))))))))))))))))))))
set_option maxRecDepth 20000 in
theorem b312_1012 {E : (Nat → Value) × (Nat → Nat)} {lo d : Nat} {μ : rM} (a0 : Nat) (a1 : Nat) (a2 : Nat) (x3 : Int32) (m0 : Int64) (m1 : Int64) : ex PG E lo d 312 1012 [some (.ref a0), some (.ref a1), some (.ref a2), some (.int x3)] [.long m1, .long m0] μ = if (lg_cmp m0 m1) = (0 : Int32) then ex PG E lo d 312 1827 [some (.ref a0), some (.ref a1), some (.ref a2), some (.int x3)] [] μ else ex PG E lo d 312 1016 [some (.ref a0), some (.ref a1), some (.ref a2), some (.int x3)] [] μ := (x_lcmp (pc := 1012) mI312 li_1012).trans (x_ifeq (t := 1827) (pc := 1013) mI312 li_1013 (by decide))
set_option maxRecDepth 20000 in
theorem b312_1016 {E : (Nat → Value) × (Nat → Nat)} {lo d : Nat} {μ : rM} (a0 : Nat) (a1 : Nat) (a2 : Nat) (x3 : Int32) : ex PG E lo d 312 1016 [some (.ref a0), some (.ref a1), some (.ref a2), some (.int x3)] [] μ = if (0 : Int32) = 0 ∨ (0 : Int32) = 1 then some (some (.int (0 : Int32)), μ) else none := (x_iconst (pc := 1016) mI312 li_1016 ic0).trans (x_zret (pc := 1017) mI312 li_1017 rfl)
set_option maxRecDepth 20000 in
theorem b312_1018 {E : (Nat → Value) × (Nat → Nat)} {lo d : Nat} {μ : rM} (a0 : Nat) (a1 : Nat) (a2 : Nat) (x3 : Int32) : ex PG E lo d 312 1018 [some (.ref a0), some (.ref a1), some (.ref a2), some (.int x3)] [] μ = rdA μ a0 0 (x3 + (1 : Int32)) (rdA μ a0 0 (x3 + (2 : Int32)) (rdA μ a0 0 (x3 + (3 : Int32)) (rdA μ a0 0 (x3 + (4 : Int32)) (gO μ a1 11 ((cl E lo d 144 [.ref a1, .int (ri μ a0 (Int32.toNatClampNeg (x3 + (1 : Int32)))), .int (ri μ a0 (Int32.toNatClampNeg (x3 + (2 : Int32)))), .int (ri μ a0 (Int32.toNatClampNeg (x3 + (3 : Int32)))), .int (ri μ a0 (Int32.toNatClampNeg (x3 + (4 : Int32))))] μ).bind fun z => ex PG E lo d 312 1042 [some (.ref a0), some (.ref a1), some (.ref a2), some (.int x3)] (z.1.toList ++ []) z.2))))) := (x_aload_n (n := 1) (pc := 1018) mI312 li_1018 rfl).trans ((x_aload_n (n := 0) (pc := 1019) mI312 li_1019 rfl).trans ((x_iload_n (n := 3) (pc := 1020) mI312 li_1020 rfl).trans ((x_iconst (pc := 1021) mI312 li_1021 ic1).trans ((x_iadd (pc := 1022) mI312 li_1022).trans ((x_iald (pc := 1023) mI312 li_1023).trans (congrArg (rdA μ a0 0 (x3 + (1 : Int32))) ((x_aload_n (n := 0) (pc := 1024) mI312 li_1024 rfl).trans ((x_iload_n (n := 3) (pc := 1025) mI312 li_1025 rfl).trans ((x_iconst (pc := 1026) mI312 li_1026 ic2).trans ((x_iadd (pc := 1027) mI312 li_1027).trans ((x_iald (pc := 1028) mI312 li_1028).trans (congrArg (rdA μ a0 0 (x3 + (2 : Int32))) ((x_aload_n (n := 0) (pc := 1029) mI312 li_1029 rfl).trans ((x_iload_n (n := 3) (pc := 1030) mI312 li_1030 rfl).trans ((x_iconst (pc := 1031) mI312 li_1031 ic3).trans ((x_iadd (pc := 1032) mI312 li_1032).trans ((x_iald (pc := 1033) mI312 li_1033).trans (congrArg (rdA μ a0 0 (x3 + (3 : Int32))) ((x_aload_n (n := 0) (pc := 1034) mI312 li_1034 rfl).trans ((x_iload_n (n := 3) (pc := 1035) mI312 li_1035 rfl).trans ((x_iconst (pc := 1036) mI312 li_1036 ic4).trans ((x_iadd (pc := 1037) mI312 li_1037).trans ((x_iald (pc := 1038) mI312 li_1038).trans (congrArg (rdA μ a0 0 (x3 + (4 : Int32))) (x_invV (i := 96) (j := 144) (n := 4) (c := 11) (pc := 1039) mI312 li_1039 rfl rfl rfl rfl)))))))))))))))))))))))))
set_option maxRecDepth 20000 in
theorem b312_1042 {E : (Nat → Value) × (Nat → Nat)} {lo d : Nat} {μ : rM} (a0 : Nat) (a1 : Nat) (a2 : Nat) (x3 : Int32) (y0 : Int32) : ex PG E lo d 312 1042 [some (.ref a0), some (.ref a1), some (.ref a2), some (.int x3)] [.int y0] μ = rdA μ a0 0 (x3 + (1 : Int32)) (rdA μ a0 0 (x3 + (2 : Int32)) (rdA μ a0 0 (x3 + (3 : Int32)) (rdA μ a0 0 (x3 + (4 : Int32)) (gO μ a2 12 ((cl E lo d 258 [.ref a2, .int (ri μ a0 (Int32.toNatClampNeg (x3 + (1 : Int32)))), .int (ri μ a0 (Int32.toNatClampNeg (x3 + (2 : Int32)))), .int (ri μ a0 (Int32.toNatClampNeg (x3 + (3 : Int32)))), .int (ri μ a0 (Int32.toNatClampNeg (x3 + (4 : Int32))))] μ).bind fun z => ex PG E lo d 312 1066 [some (.ref a0), some (.ref a1), some (.ref a2), some (.int x3)] (z.1.toList ++ [.int y0]) z.2))))) := (x_aload_n (n := 2) (pc := 1042) mI312 li_1042 rfl).trans ((x_aload_n (n := 0) (pc := 1043) mI312 li_1043 rfl).trans ((x_iload_n (n := 3) (pc := 1044) mI312 li_1044 rfl).trans ((x_iconst (pc := 1045) mI312 li_1045 ic1).trans ((x_iadd (pc := 1046) mI312 li_1046).trans ((x_iald (pc := 1047) mI312 li_1047).trans (congrArg (rdA μ a0 0 (x3 + (1 : Int32))) ((x_aload_n (n := 0) (pc := 1048) mI312 li_1048 rfl).trans ((x_iload_n (n := 3) (pc := 1049) mI312 li_1049 rfl).trans ((x_iconst (pc := 1050) mI312 li_1050 ic2).trans ((x_iadd (pc := 1051) mI312 li_1051).trans ((x_iald (pc := 1052) mI312 li_1052).trans (congrArg (rdA μ a0 0 (x3 + (2 : Int32))) ((x_aload_n (n := 0) (pc := 1053) mI312 li_1053 rfl).trans ((x_iload_n (n := 3) (pc := 1054) mI312 li_1054 rfl).trans ((x_iconst (pc := 1055) mI312 li_1055 ic3).trans ((x_iadd (pc := 1056) mI312 li_1056).trans ((x_iald (pc := 1057) mI312 li_1057).trans (congrArg (rdA μ a0 0 (x3 + (3 : Int32))) ((x_aload_n (n := 0) (pc := 1058) mI312 li_1058 rfl).trans ((x_iload_n (n := 3) (pc := 1059) mI312 li_1059 rfl).trans ((x_iconst (pc := 1060) mI312 li_1060 ic4).trans ((x_iadd (pc := 1061) mI312 li_1061).trans ((x_iald (pc := 1062) mI312 li_1062).trans (congrArg (rdA μ a0 0 (x3 + (4 : Int32))) (x_invV (i := 99) (j := 258) (n := 4) (c := 12) (pc := 1063) mI312 li_1063 rfl rfl rfl rfl)))))))))))))))))))))))))
set_option maxRecDepth 20000 in
theorem b312_1066 {E : (Nat → Value) × (Nat → Nat)} {lo d : Nat} {μ : rM} (a0 : Nat) (a1 : Nat) (a2 : Nat) (x3 : Int32) (y0 : Int32) (y1 : Int32) : ex PG E lo d 312 1066 [some (.ref a0), some (.ref a1), some (.ref a2), some (.int x3)] [.int y1, .int y0] μ = if y0 = y1 then ex PG E lo d 312 1827 [some (.ref a0), some (.ref a1), some (.ref a2), some (.int x3)] [] μ else ex PG E lo d 312 1069 [some (.ref a0), some (.ref a1), some (.ref a2), some (.int x3)] [] μ := x_cmpeq (t := 1827) (pc := 1066) mI312 li_1066 (by decide)
set_option maxRecDepth 20000 in
theorem b312_1069 {E : (Nat → Value) × (Nat → Nat)} {lo d : Nat} {μ : rM} (a0 : Nat) (a1 : Nat) (a2 : Nat) (x3 : Int32) : ex PG E lo d 312 1069 [some (.ref a0), some (.ref a1), some (.ref a2), some (.int x3)] [] μ = if (0 : Int32) = 0 ∨ (0 : Int32) = 1 then some (some (.int (0 : Int32)), μ) else none := (x_iconst (pc := 1069) mI312 li_1069 ic0).trans (x_zret (pc := 1070) mI312 li_1070 rfl)
set_option maxRecDepth 20000 in
theorem b312_1071 {E : (Nat → Value) × (Nat → Nat)} {lo d : Nat} {μ : rM} (a0 : Nat) (a1 : Nat) (a2 : Nat) (x3 : Int32) : ex PG E lo d 312 1071 [some (.ref a0), some (.ref a1), some (.ref a2), some (.int x3)] [] μ = rdA μ a0 0 (x3 + (1 : Int32)) (rdA μ a0 0 (x3 + (2 : Int32)) (if (ri μ a0 (Int32.toNatClampNeg (x3 + (2 : Int32)))) = (0 : Int32) then ex PG E lo d 312 1089 [some (.ref a0), some (.ref a1), some (.ref a2), some (.int x3)] [.int (ri μ a0 (Int32.toNatClampNeg (x3 + (1 : Int32)))), .ref a1] μ else ex PG E lo d 312 1085 [some (.ref a0), some (.ref a1), some (.ref a2), some (.int x3)] [.int (ri μ a0 (Int32.toNatClampNeg (x3 + (1 : Int32)))), .ref a1] μ)) := (x_aload_n (n := 1) (pc := 1071) mI312 li_1071 rfl).trans ((x_aload_n (n := 0) (pc := 1072) mI312 li_1072 rfl).trans ((x_iload_n (n := 3) (pc := 1073) mI312 li_1073 rfl).trans ((x_iconst (pc := 1074) mI312 li_1074 ic1).trans ((x_iadd (pc := 1075) mI312 li_1075).trans ((x_iald (pc := 1076) mI312 li_1076).trans (congrArg (rdA μ a0 0 (x3 + (1 : Int32))) ((x_aload_n (n := 0) (pc := 1077) mI312 li_1077 rfl).trans ((x_iload_n (n := 3) (pc := 1078) mI312 li_1078 rfl).trans ((x_iconst (pc := 1079) mI312 li_1079 ic2).trans ((x_iadd (pc := 1080) mI312 li_1080).trans ((x_iald (pc := 1081) mI312 li_1081).trans (congrArg (rdA μ a0 0 (x3 + (2 : Int32))) (x_ifeq (t := 1089) (pc := 1082) mI312 li_1082 (by decide))))))))))))))
set_option maxRecDepth 20000 in
theorem b312_1085 {E : (Nat → Value) × (Nat → Nat)} {lo d : Nat} {μ : rM} (a0 : Nat) (a1 : Nat) (a2 : Nat) (x3 : Int32) (c0 : Nat) (y1 : Int32) : ex PG E lo d 312 1085 [some (.ref a0), some (.ref a1), some (.ref a2), some (.int x3)] [.int y1, .ref c0] μ = ex PG E lo d 312 1090 [some (.ref a0), some (.ref a1), some (.ref a2), some (.int x3)] [.int (1 : Int32), .int y1, .ref c0] μ := (x_iconst (pc := 1085) mI312 li_1085 ic1).trans (x_goto (t := 1090) (pc := 1086) mI312 li_1086 (by decide))
set_option maxRecDepth 20000 in
theorem b312_1089 {E : (Nat → Value) × (Nat → Nat)} {lo d : Nat} {μ : rM} (a0 : Nat) (a1 : Nat) (a2 : Nat) (x3 : Int32) (c0 : Nat) (y1 : Int32) : ex PG E lo d 312 1089 [some (.ref a0), some (.ref a1), some (.ref a2), some (.int x3)] [.int y1, .ref c0] μ = ex PG E lo d 312 1090 [some (.ref a0), some (.ref a1), some (.ref a2), some (.int x3)] [.int (0 : Int32), .int y1, .ref c0] μ := x_iconst (pc := 1089) mI312 li_1089 ic0
set_option maxRecDepth 20000 in
theorem b312_1090 {E : (Nat → Value) × (Nat → Nat)} {lo d : Nat} {μ : rM} (a0 : Nat) (a1 : Nat) (a2 : Nat) (x3 : Int32) (c0 : Nat) (y1 : Int32) (y2 : Int32) : ex PG E lo d 312 1090 [some (.ref a0), some (.ref a1), some (.ref a2), some (.int x3)] [.int y2, .int y1, .ref c0] μ = gO μ c0 11 ((cl E lo d 146 [.ref c0, .int y1, .int y2] μ).bind fun z => ex PG E lo d 312 1093 [some (.ref a0), some (.ref a1), some (.ref a2), some (.int x3)] (z.1.toList ++ []) z.2) := x_invV (i := 100) (j := 146) (n := 2) (c := 11) (pc := 1090) mI312 li_1090 rfl rfl rfl rfl
set_option maxRecDepth 20000 in
theorem b312_1093 {E : (Nat → Value) × (Nat → Nat)} {lo d : Nat} {μ : rM} (a0 : Nat) (a1 : Nat) (a2 : Nat) (x3 : Int32) (y0 : Int32) : ex PG E lo d 312 1093 [some (.ref a0), some (.ref a1), some (.ref a2), some (.int x3)] [.int y0] μ = rdA μ a0 0 (x3 + (1 : Int32)) (rdA μ a0 0 (x3 + (2 : Int32)) (if (ri μ a0 (Int32.toNatClampNeg (x3 + (2 : Int32)))) = (0 : Int32) then ex PG E lo d 312 1111 [some (.ref a0), some (.ref a1), some (.ref a2), some (.int x3)] [.int (ri μ a0 (Int32.toNatClampNeg (x3 + (1 : Int32)))), .ref a2, .int y0] μ else ex PG E lo d 312 1107 [some (.ref a0), some (.ref a1), some (.ref a2), some (.int x3)] [.int (ri μ a0 (Int32.toNatClampNeg (x3 + (1 : Int32)))), .ref a2, .int y0] μ)) := (x_aload_n (n := 2) (pc := 1093) mI312 li_1093 rfl).trans ((x_aload_n (n := 0) (pc := 1094) mI312 li_1094 rfl).trans ((x_iload_n (n := 3) (pc := 1095) mI312 li_1095 rfl).trans ((x_iconst (pc := 1096) mI312 li_1096 ic1).trans ((x_iadd (pc := 1097) mI312 li_1097).trans ((x_iald (pc := 1098) mI312 li_1098).trans (congrArg (rdA μ a0 0 (x3 + (1 : Int32))) ((x_aload_n (n := 0) (pc := 1099) mI312 li_1099 rfl).trans ((x_iload_n (n := 3) (pc := 1100) mI312 li_1100 rfl).trans ((x_iconst (pc := 1101) mI312 li_1101 ic2).trans ((x_iadd (pc := 1102) mI312 li_1102).trans ((x_iald (pc := 1103) mI312 li_1103).trans (congrArg (rdA μ a0 0 (x3 + (2 : Int32))) (x_ifeq (t := 1111) (pc := 1104) mI312 li_1104 (by decide))))))))))))))
set_option maxRecDepth 20000 in
theorem b312_1107 {E : (Nat → Value) × (Nat → Nat)} {lo d : Nat} {μ : rM} (a0 : Nat) (a1 : Nat) (a2 : Nat) (x3 : Int32) (y0 : Int32) (c1 : Nat) (y2 : Int32) : ex PG E lo d 312 1107 [some (.ref a0), some (.ref a1), some (.ref a2), some (.int x3)] [.int y2, .ref c1, .int y0] μ = ex PG E lo d 312 1112 [some (.ref a0), some (.ref a1), some (.ref a2), some (.int x3)] [.int (1 : Int32), .int y2, .ref c1, .int y0] μ := (x_iconst (pc := 1107) mI312 li_1107 ic1).trans (x_goto (t := 1112) (pc := 1108) mI312 li_1108 (by decide))
set_option maxRecDepth 20000 in
theorem b312_1111 {E : (Nat → Value) × (Nat → Nat)} {lo d : Nat} {μ : rM} (a0 : Nat) (a1 : Nat) (a2 : Nat) (x3 : Int32) (y0 : Int32) (c1 : Nat) (y2 : Int32) : ex PG E lo d 312 1111 [some (.ref a0), some (.ref a1), some (.ref a2), some (.int x3)] [.int y2, .ref c1, .int y0] μ = ex PG E lo d 312 1112 [some (.ref a0), some (.ref a1), some (.ref a2), some (.int x3)] [.int (0 : Int32), .int y2, .ref c1, .int y0] μ := x_iconst (pc := 1111) mI312 li_1111 ic0
set_option maxRecDepth 20000 in
theorem b312_1112 {E : (Nat → Value) × (Nat → Nat)} {lo d : Nat} {μ : rM} (a0 : Nat) (a1 : Nat) (a2 : Nat) (x3 : Int32) (y0 : Int32) (c1 : Nat) (y2 : Int32) (y3 : Int32) : ex PG E lo d 312 1112 [some (.ref a0), some (.ref a1), some (.ref a2), some (.int x3)] [.int y3, .int y2, .ref c1, .int y0] μ = gO μ c1 12 ((cl E lo d 261 [.ref c1, .int y2, .int y3] μ).bind fun z => ex PG E lo d 312 1115 [some (.ref a0), some (.ref a1), some (.ref a2), some (.int x3)] (z.1.toList ++ [.int y0]) z.2) := x_invV (i := 104) (j := 261) (n := 2) (c := 12) (pc := 1112) mI312 li_1112 rfl rfl rfl rfl
set_option maxRecDepth 20000 in
theorem b312_1115 {E : (Nat → Value) × (Nat → Nat)} {lo d : Nat} {μ : rM} (a0 : Nat) (a1 : Nat) (a2 : Nat) (x3 : Int32) (y0 : Int32) (y1 : Int32) : ex PG E lo d 312 1115 [some (.ref a0), some (.ref a1), some (.ref a2), some (.int x3)] [.int y1, .int y0] μ = if y0 = y1 then ex PG E lo d 312 1827 [some (.ref a0), some (.ref a1), some (.ref a2), some (.int x3)] [] μ else ex PG E lo d 312 1118 [some (.ref a0), some (.ref a1), some (.ref a2), some (.int x3)] [] μ := x_cmpeq (t := 1827) (pc := 1115) mI312 li_1115 (by decide)
set_option maxRecDepth 20000 in
theorem b312_1118 {E : (Nat → Value) × (Nat → Nat)} {lo d : Nat} {μ : rM} (a0 : Nat) (a1 : Nat) (a2 : Nat) (x3 : Int32) : ex PG E lo d 312 1118 [some (.ref a0), some (.ref a1), some (.ref a2), some (.int x3)] [] μ = if (0 : Int32) = 0 ∨ (0 : Int32) = 1 then some (some (.int (0 : Int32)), μ) else none := (x_iconst (pc := 1118) mI312 li_1118 ic0).trans (x_zret (pc := 1119) mI312 li_1119 rfl)
set_option maxRecDepth 20000 in
theorem b312_1120 {E : (Nat → Value) × (Nat → Nat)} {lo d : Nat} {μ : rM} (a0 : Nat) (a1 : Nat) (a2 : Nat) (x3 : Int32) : ex PG E lo d 312 1120 [some (.ref a0), some (.ref a1), some (.ref a2), some (.int x3)] [] μ = rdA μ a0 0 (x3 + (1 : Int32)) (rdA μ a0 0 (x3 + (2 : Int32)) (rdA μ a0 0 (x3 + (3 : Int32)) (rdA μ a0 0 (x3 + (4 : Int32)) (if (ri μ a0 (Int32.toNatClampNeg (x3 + (4 : Int32)))) = (0 : Int32) then ex PG E lo d 312 1148 [some (.ref a0), some (.ref a1), some (.ref a2), some (.int x3)] [.int (ri μ a0 (Int32.toNatClampNeg (x3 + (3 : Int32)))), .int (ri μ a0 (Int32.toNatClampNeg (x3 + (2 : Int32)))), .int (ri μ a0 (Int32.toNatClampNeg (x3 + (1 : Int32)))), .ref a1] μ else ex PG E lo d 312 1144 [some (.ref a0), some (.ref a1), some (.ref a2), some (.int x3)] [.int (ri μ a0 (Int32.toNatClampNeg (x3 + (3 : Int32)))), .int (ri μ a0 (Int32.toNatClampNeg (x3 + (2 : Int32)))), .int (ri μ a0 (Int32.toNatClampNeg (x3 + (1 : Int32)))), .ref a1] μ)))) := (x_aload_n (n := 1) (pc := 1120) mI312 li_1120 rfl).trans ((x_aload_n (n := 0) (pc := 1121) mI312 li_1121 rfl).trans ((x_iload_n (n := 3) (pc := 1122) mI312 li_1122 rfl).trans ((x_iconst (pc := 1123) mI312 li_1123 ic1).trans ((x_iadd (pc := 1124) mI312 li_1124).trans ((x_iald (pc := 1125) mI312 li_1125).trans (congrArg (rdA μ a0 0 (x3 + (1 : Int32))) ((x_aload_n (n := 0) (pc := 1126) mI312 li_1126 rfl).trans ((x_iload_n (n := 3) (pc := 1127) mI312 li_1127 rfl).trans ((x_iconst (pc := 1128) mI312 li_1128 ic2).trans ((x_iadd (pc := 1129) mI312 li_1129).trans ((x_iald (pc := 1130) mI312 li_1130).trans (congrArg (rdA μ a0 0 (x3 + (2 : Int32))) ((x_aload_n (n := 0) (pc := 1131) mI312 li_1131 rfl).trans ((x_iload_n (n := 3) (pc := 1132) mI312 li_1132 rfl).trans ((x_iconst (pc := 1133) mI312 li_1133 ic3).trans ((x_iadd (pc := 1134) mI312 li_1134).trans ((x_iald (pc := 1135) mI312 li_1135).trans (congrArg (rdA μ a0 0 (x3 + (3 : Int32))) ((x_aload_n (n := 0) (pc := 1136) mI312 li_1136 rfl).trans ((x_iload_n (n := 3) (pc := 1137) mI312 li_1137 rfl).trans ((x_iconst (pc := 1138) mI312 li_1138 ic4).trans ((x_iadd (pc := 1139) mI312 li_1139).trans ((x_iald (pc := 1140) mI312 li_1140).trans (congrArg (rdA μ a0 0 (x3 + (4 : Int32))) (x_ifeq (t := 1148) (pc := 1141) mI312 li_1141 (by decide))))))))))))))))))))))))))
set_option maxRecDepth 20000 in
theorem b312_1144 {E : (Nat → Value) × (Nat → Nat)} {lo d : Nat} {μ : rM} (a0 : Nat) (a1 : Nat) (a2 : Nat) (x3 : Int32) (c0 : Nat) (y1 : Int32) (y2 : Int32) (y3 : Int32) : ex PG E lo d 312 1144 [some (.ref a0), some (.ref a1), some (.ref a2), some (.int x3)] [.int y3, .int y2, .int y1, .ref c0] μ = ex PG E lo d 312 1149 [some (.ref a0), some (.ref a1), some (.ref a2), some (.int x3)] [.int (1 : Int32), .int y3, .int y2, .int y1, .ref c0] μ := (x_iconst (pc := 1144) mI312 li_1144 ic1).trans (x_goto (t := 1149) (pc := 1145) mI312 li_1145 (by decide))
set_option maxRecDepth 20000 in
theorem b312_1148 {E : (Nat → Value) × (Nat → Nat)} {lo d : Nat} {μ : rM} (a0 : Nat) (a1 : Nat) (a2 : Nat) (x3 : Int32) (c0 : Nat) (y1 : Int32) (y2 : Int32) (y3 : Int32) : ex PG E lo d 312 1148 [some (.ref a0), some (.ref a1), some (.ref a2), some (.int x3)] [.int y3, .int y2, .int y1, .ref c0] μ = ex PG E lo d 312 1149 [some (.ref a0), some (.ref a1), some (.ref a2), some (.int x3)] [.int (0 : Int32), .int y3, .int y2, .int y1, .ref c0] μ := x_iconst (pc := 1148) mI312 li_1148 ic0
set_option maxRecDepth 20000 in
theorem b312_1149 {E : (Nat → Value) × (Nat → Nat)} {lo d : Nat} {μ : rM} (a0 : Nat) (a1 : Nat) (a2 : Nat) (x3 : Int32) (c0 : Nat) (y1 : Int32) (y2 : Int32) (y3 : Int32) (y4 : Int32) : ex PG E lo d 312 1149 [some (.ref a0), some (.ref a1), some (.ref a2), some (.int x3)] [.int y4, .int y3, .int y2, .int y1, .ref c0] μ = gO μ c0 11 ((cl E lo d 147 [.ref c0, .int y1, .int y2, .int y3, .int y4] μ).bind fun z => ex PG E lo d 312 1152 [some (.ref a0), some (.ref a1), some (.ref a2), some (.int x3)] (z.1.toList ++ []) z.2) := x_invV (i := 105) (j := 147) (n := 4) (c := 11) (pc := 1149) mI312 li_1149 rfl rfl rfl rfl
set_option maxRecDepth 20000 in
theorem b312_1152 {E : (Nat → Value) × (Nat → Nat)} {lo d : Nat} {μ : rM} (a0 : Nat) (a1 : Nat) (a2 : Nat) (x3 : Int32) (y0 : Int32) : ex PG E lo d 312 1152 [some (.ref a0), some (.ref a1), some (.ref a2), some (.int x3)] [.int y0] μ = rdA μ a0 0 (x3 + (1 : Int32)) (rdA μ a0 0 (x3 + (2 : Int32)) (rdA μ a0 0 (x3 + (3 : Int32)) (rdA μ a0 0 (x3 + (4 : Int32)) (if (ri μ a0 (Int32.toNatClampNeg (x3 + (4 : Int32)))) = (0 : Int32) then ex PG E lo d 312 1180 [some (.ref a0), some (.ref a1), some (.ref a2), some (.int x3)] [.int (ri μ a0 (Int32.toNatClampNeg (x3 + (3 : Int32)))), .int (ri μ a0 (Int32.toNatClampNeg (x3 + (2 : Int32)))), .int (ri μ a0 (Int32.toNatClampNeg (x3 + (1 : Int32)))), .ref a2, .int y0] μ else ex PG E lo d 312 1176 [some (.ref a0), some (.ref a1), some (.ref a2), some (.int x3)] [.int (ri μ a0 (Int32.toNatClampNeg (x3 + (3 : Int32)))), .int (ri μ a0 (Int32.toNatClampNeg (x3 + (2 : Int32)))), .int (ri μ a0 (Int32.toNatClampNeg (x3 + (1 : Int32)))), .ref a2, .int y0] μ)))) := (x_aload_n (n := 2) (pc := 1152) mI312 li_1152 rfl).trans ((x_aload_n (n := 0) (pc := 1153) mI312 li_1153 rfl).trans ((x_iload_n (n := 3) (pc := 1154) mI312 li_1154 rfl).trans ((x_iconst (pc := 1155) mI312 li_1155 ic1).trans ((x_iadd (pc := 1156) mI312 li_1156).trans ((x_iald (pc := 1157) mI312 li_1157).trans (congrArg (rdA μ a0 0 (x3 + (1 : Int32))) ((x_aload_n (n := 0) (pc := 1158) mI312 li_1158 rfl).trans ((x_iload_n (n := 3) (pc := 1159) mI312 li_1159 rfl).trans ((x_iconst (pc := 1160) mI312 li_1160 ic2).trans ((x_iadd (pc := 1161) mI312 li_1161).trans ((x_iald (pc := 1162) mI312 li_1162).trans (congrArg (rdA μ a0 0 (x3 + (2 : Int32))) ((x_aload_n (n := 0) (pc := 1163) mI312 li_1163 rfl).trans ((x_iload_n (n := 3) (pc := 1164) mI312 li_1164 rfl).trans ((x_iconst (pc := 1165) mI312 li_1165 ic3).trans ((x_iadd (pc := 1166) mI312 li_1166).trans ((x_iald (pc := 1167) mI312 li_1167).trans (congrArg (rdA μ a0 0 (x3 + (3 : Int32))) ((x_aload_n (n := 0) (pc := 1168) mI312 li_1168 rfl).trans ((x_iload_n (n := 3) (pc := 1169) mI312 li_1169 rfl).trans ((x_iconst (pc := 1170) mI312 li_1170 ic4).trans ((x_iadd (pc := 1171) mI312 li_1171).trans ((x_iald (pc := 1172) mI312 li_1172).trans (congrArg (rdA μ a0 0 (x3 + (4 : Int32))) (x_ifeq (t := 1180) (pc := 1173) mI312 li_1173 (by decide))))))))))))))))))))))))))
set_option maxRecDepth 20000 in
theorem b312_1176 {E : (Nat → Value) × (Nat → Nat)} {lo d : Nat} {μ : rM} (a0 : Nat) (a1 : Nat) (a2 : Nat) (x3 : Int32) (y0 : Int32) (c1 : Nat) (y2 : Int32) (y3 : Int32) (y4 : Int32) : ex PG E lo d 312 1176 [some (.ref a0), some (.ref a1), some (.ref a2), some (.int x3)] [.int y4, .int y3, .int y2, .ref c1, .int y0] μ = ex PG E lo d 312 1181 [some (.ref a0), some (.ref a1), some (.ref a2), some (.int x3)] [.int (1 : Int32), .int y4, .int y3, .int y2, .ref c1, .int y0] μ := (x_iconst (pc := 1176) mI312 li_1176 ic1).trans (x_goto (t := 1181) (pc := 1177) mI312 li_1177 (by decide))
set_option maxRecDepth 20000 in
theorem b312_1180 {E : (Nat → Value) × (Nat → Nat)} {lo d : Nat} {μ : rM} (a0 : Nat) (a1 : Nat) (a2 : Nat) (x3 : Int32) (y0 : Int32) (c1 : Nat) (y2 : Int32) (y3 : Int32) (y4 : Int32) : ex PG E lo d 312 1180 [some (.ref a0), some (.ref a1), some (.ref a2), some (.int x3)] [.int y4, .int y3, .int y2, .ref c1, .int y0] μ = ex PG E lo d 312 1181 [some (.ref a0), some (.ref a1), some (.ref a2), some (.int x3)] [.int (0 : Int32), .int y4, .int y3, .int y2, .ref c1, .int y0] μ := x_iconst (pc := 1180) mI312 li_1180 ic0
set_option maxRecDepth 20000 in
theorem b312_1181 {E : (Nat → Value) × (Nat → Nat)} {lo d : Nat} {μ : rM} (a0 : Nat) (a1 : Nat) (a2 : Nat) (x3 : Int32) (y0 : Int32) (c1 : Nat) (y2 : Int32) (y3 : Int32) (y4 : Int32) (y5 : Int32) : ex PG E lo d 312 1181 [some (.ref a0), some (.ref a1), some (.ref a2), some (.int x3)] [.int y5, .int y4, .int y3, .int y2, .ref c1, .int y0] μ = gO μ c1 12 ((cl E lo d 264 [.ref c1, .int y2, .int y3, .int y4, .int y5] μ).bind fun z => ex PG E lo d 312 1184 [some (.ref a0), some (.ref a1), some (.ref a2), some (.int x3)] (z.1.toList ++ [.int y0]) z.2) := x_invV (i := 109) (j := 264) (n := 4) (c := 12) (pc := 1181) mI312 li_1181 rfl rfl rfl rfl
set_option maxRecDepth 20000 in
theorem b312_1184 {E : (Nat → Value) × (Nat → Nat)} {lo d : Nat} {μ : rM} (a0 : Nat) (a1 : Nat) (a2 : Nat) (x3 : Int32) (y0 : Int32) (y1 : Int32) : ex PG E lo d 312 1184 [some (.ref a0), some (.ref a1), some (.ref a2), some (.int x3)] [.int y1, .int y0] μ = if y0 = y1 then ex PG E lo d 312 1827 [some (.ref a0), some (.ref a1), some (.ref a2), some (.int x3)] [] μ else ex PG E lo d 312 1187 [some (.ref a0), some (.ref a1), some (.ref a2), some (.int x3)] [] μ := x_cmpeq (t := 1827) (pc := 1184) mI312 li_1184 (by decide)
set_option maxRecDepth 20000 in
theorem b312_1187 {E : (Nat → Value) × (Nat → Nat)} {lo d : Nat} {μ : rM} (a0 : Nat) (a1 : Nat) (a2 : Nat) (x3 : Int32) : ex PG E lo d 312 1187 [some (.ref a0), some (.ref a1), some (.ref a2), some (.int x3)] [] μ = if (0 : Int32) = 0 ∨ (0 : Int32) = 1 then some (some (.int (0 : Int32)), μ) else none := (x_iconst (pc := 1187) mI312 li_1187 ic0).trans (x_zret (pc := 1188) mI312 li_1188 rfl)
set_option maxRecDepth 20000 in
theorem b312_1189 {E : (Nat → Value) × (Nat → Nat)} {lo d : Nat} {μ : rM} (a0 : Nat) (a1 : Nat) (a2 : Nat) (x3 : Int32) : ex PG E lo d 312 1189 [some (.ref a0), some (.ref a1), some (.ref a2), some (.int x3)] [] μ = rdA μ a0 0 (x3 + (1 : Int32)) (rdA μ a0 0 (x3 + (2 : Int32)) (rdA μ a0 0 (x3 + (3 : Int32)) (rdA μ a0 0 (x3 + (4 : Int32)) (rdA μ a0 0 (x3 + (5 : Int32)) (gO μ a1 11 ((cl E lo d 148 [.ref a1, .int (ri μ a0 (Int32.toNatClampNeg (x3 + (1 : Int32)))), .int (ri μ a0 (Int32.toNatClampNeg (x3 + (2 : Int32)))), .int (ri μ a0 (Int32.toNatClampNeg (x3 + (3 : Int32)))), .int (ri μ a0 (Int32.toNatClampNeg (x3 + (4 : Int32)))), .int (ri μ a0 (Int32.toNatClampNeg (x3 + (5 : Int32))))] μ).bind fun z => ex PG E lo d 312 1218 [some (.ref a0), some (.ref a1), some (.ref a2), some (.int x3)] (z.1.toList ++ []) z.2)))))) := (x_aload_n (n := 1) (pc := 1189) mI312 li_1189 rfl).trans ((x_aload_n (n := 0) (pc := 1190) mI312 li_1190 rfl).trans ((x_iload_n (n := 3) (pc := 1191) mI312 li_1191 rfl).trans ((x_iconst (pc := 1192) mI312 li_1192 ic1).trans ((x_iadd (pc := 1193) mI312 li_1193).trans ((x_iald (pc := 1194) mI312 li_1194).trans (congrArg (rdA μ a0 0 (x3 + (1 : Int32))) ((x_aload_n (n := 0) (pc := 1195) mI312 li_1195 rfl).trans ((x_iload_n (n := 3) (pc := 1196) mI312 li_1196 rfl).trans ((x_iconst (pc := 1197) mI312 li_1197 ic2).trans ((x_iadd (pc := 1198) mI312 li_1198).trans ((x_iald (pc := 1199) mI312 li_1199).trans (congrArg (rdA μ a0 0 (x3 + (2 : Int32))) ((x_aload_n (n := 0) (pc := 1200) mI312 li_1200 rfl).trans ((x_iload_n (n := 3) (pc := 1201) mI312 li_1201 rfl).trans ((x_iconst (pc := 1202) mI312 li_1202 ic3).trans ((x_iadd (pc := 1203) mI312 li_1203).trans ((x_iald (pc := 1204) mI312 li_1204).trans (congrArg (rdA μ a0 0 (x3 + (3 : Int32))) ((x_aload_n (n := 0) (pc := 1205) mI312 li_1205 rfl).trans ((x_iload_n (n := 3) (pc := 1206) mI312 li_1206 rfl).trans ((x_iconst (pc := 1207) mI312 li_1207 ic4).trans ((x_iadd (pc := 1208) mI312 li_1208).trans ((x_iald (pc := 1209) mI312 li_1209).trans (congrArg (rdA μ a0 0 (x3 + (4 : Int32))) ((x_aload_n (n := 0) (pc := 1210) mI312 li_1210 rfl).trans ((x_iload_n (n := 3) (pc := 1211) mI312 li_1211 rfl).trans ((x_iconst (pc := 1212) mI312 li_1212 ic5).trans ((x_iadd (pc := 1213) mI312 li_1213).trans ((x_iald (pc := 1214) mI312 li_1214).trans (congrArg (rdA μ a0 0 (x3 + (5 : Int32))) (x_invV (i := 110) (j := 148) (n := 5) (c := 11) (pc := 1215) mI312 li_1215 rfl rfl rfl rfl)))))))))))))))))))))))))))))))
set_option maxRecDepth 20000 in
theorem b312_1218 {E : (Nat → Value) × (Nat → Nat)} {lo d : Nat} {μ : rM} (a0 : Nat) (a1 : Nat) (a2 : Nat) (x3 : Int32) (y0 : Int32) : ex PG E lo d 312 1218 [some (.ref a0), some (.ref a1), some (.ref a2), some (.int x3)] [.int y0] μ = rdA μ a0 0 (x3 + (1 : Int32)) (rdA μ a0 0 (x3 + (2 : Int32)) (rdA μ a0 0 (x3 + (3 : Int32)) (rdA μ a0 0 (x3 + (4 : Int32)) (rdA μ a0 0 (x3 + (5 : Int32)) (gO μ a2 12 ((cl E lo d 265 [.ref a2, .int (ri μ a0 (Int32.toNatClampNeg (x3 + (1 : Int32)))), .int (ri μ a0 (Int32.toNatClampNeg (x3 + (2 : Int32)))), .int (ri μ a0 (Int32.toNatClampNeg (x3 + (3 : Int32)))), .int (ri μ a0 (Int32.toNatClampNeg (x3 + (4 : Int32)))), .int (ri μ a0 (Int32.toNatClampNeg (x3 + (5 : Int32))))] μ).bind fun z => ex PG E lo d 312 1247 [some (.ref a0), some (.ref a1), some (.ref a2), some (.int x3)] (z.1.toList ++ [.int y0]) z.2)))))) := (x_aload_n (n := 2) (pc := 1218) mI312 li_1218 rfl).trans ((x_aload_n (n := 0) (pc := 1219) mI312 li_1219 rfl).trans ((x_iload_n (n := 3) (pc := 1220) mI312 li_1220 rfl).trans ((x_iconst (pc := 1221) mI312 li_1221 ic1).trans ((x_iadd (pc := 1222) mI312 li_1222).trans ((x_iald (pc := 1223) mI312 li_1223).trans (congrArg (rdA μ a0 0 (x3 + (1 : Int32))) ((x_aload_n (n := 0) (pc := 1224) mI312 li_1224 rfl).trans ((x_iload_n (n := 3) (pc := 1225) mI312 li_1225 rfl).trans ((x_iconst (pc := 1226) mI312 li_1226 ic2).trans ((x_iadd (pc := 1227) mI312 li_1227).trans ((x_iald (pc := 1228) mI312 li_1228).trans (congrArg (rdA μ a0 0 (x3 + (2 : Int32))) ((x_aload_n (n := 0) (pc := 1229) mI312 li_1229 rfl).trans ((x_iload_n (n := 3) (pc := 1230) mI312 li_1230 rfl).trans ((x_iconst (pc := 1231) mI312 li_1231 ic3).trans ((x_iadd (pc := 1232) mI312 li_1232).trans ((x_iald (pc := 1233) mI312 li_1233).trans (congrArg (rdA μ a0 0 (x3 + (3 : Int32))) ((x_aload_n (n := 0) (pc := 1234) mI312 li_1234 rfl).trans ((x_iload_n (n := 3) (pc := 1235) mI312 li_1235 rfl).trans ((x_iconst (pc := 1236) mI312 li_1236 ic4).trans ((x_iadd (pc := 1237) mI312 li_1237).trans ((x_iald (pc := 1238) mI312 li_1238).trans (congrArg (rdA μ a0 0 (x3 + (4 : Int32))) ((x_aload_n (n := 0) (pc := 1239) mI312 li_1239 rfl).trans ((x_iload_n (n := 3) (pc := 1240) mI312 li_1240 rfl).trans ((x_iconst (pc := 1241) mI312 li_1241 ic5).trans ((x_iadd (pc := 1242) mI312 li_1242).trans ((x_iald (pc := 1243) mI312 li_1243).trans (congrArg (rdA μ a0 0 (x3 + (5 : Int32))) (x_invV (i := 113) (j := 265) (n := 5) (c := 12) (pc := 1244) mI312 li_1244 rfl rfl rfl rfl)))))))))))))))))))))))))))))))
set_option maxRecDepth 20000 in
theorem b312_1247 {E : (Nat → Value) × (Nat → Nat)} {lo d : Nat} {μ : rM} (a0 : Nat) (a1 : Nat) (a2 : Nat) (x3 : Int32) (y0 : Int32) (y1 : Int32) : ex PG E lo d 312 1247 [some (.ref a0), some (.ref a1), some (.ref a2), some (.int x3)] [.int y1, .int y0] μ = if y0 = y1 then ex PG E lo d 312 1827 [some (.ref a0), some (.ref a1), some (.ref a2), some (.int x3)] [] μ else ex PG E lo d 312 1250 [some (.ref a0), some (.ref a1), some (.ref a2), some (.int x3)] [] μ := x_cmpeq (t := 1827) (pc := 1247) mI312 li_1247 (by decide)
set_option maxRecDepth 20000 in
theorem b312_1250 {E : (Nat → Value) × (Nat → Nat)} {lo d : Nat} {μ : rM} (a0 : Nat) (a1 : Nat) (a2 : Nat) (x3 : Int32) : ex PG E lo d 312 1250 [some (.ref a0), some (.ref a1), some (.ref a2), some (.int x3)] [] μ = if (0 : Int32) = 0 ∨ (0 : Int32) = 1 then some (some (.int (0 : Int32)), μ) else none := (x_iconst (pc := 1250) mI312 li_1250 ic0).trans (x_zret (pc := 1251) mI312 li_1251 rfl)
set_option maxRecDepth 20000 in
theorem b312_1252 {E : (Nat → Value) × (Nat → Nat)} {lo d : Nat} {μ : rM} (a0 : Nat) (a1 : Nat) (a2 : Nat) (x3 : Int32) : ex PG E lo d 312 1252 [some (.ref a0), some (.ref a1), some (.ref a2), some (.int x3)] [] μ = rdA μ a0 0 (x3 + (1 : Int32)) (rdA μ a0 0 (x3 + (2 : Int32)) (rdA μ a0 0 (x3 + (3 : Int32)) (rdA μ a0 0 (x3 + (4 : Int32)) (if (ri μ a0 (Int32.toNatClampNeg (x3 + (4 : Int32)))) = (0 : Int32) then ex PG E lo d 312 1280 [some (.ref a0), some (.ref a1), some (.ref a2), some (.int x3)] [.int (ri μ a0 (Int32.toNatClampNeg (x3 + (3 : Int32)))), .int (ri μ a0 (Int32.toNatClampNeg (x3 + (2 : Int32)))), .int (ri μ a0 (Int32.toNatClampNeg (x3 + (1 : Int32)))), .ref a1] μ else ex PG E lo d 312 1276 [some (.ref a0), some (.ref a1), some (.ref a2), some (.int x3)] [.int (ri μ a0 (Int32.toNatClampNeg (x3 + (3 : Int32)))), .int (ri μ a0 (Int32.toNatClampNeg (x3 + (2 : Int32)))), .int (ri μ a0 (Int32.toNatClampNeg (x3 + (1 : Int32)))), .ref a1] μ)))) := (x_aload_n (n := 1) (pc := 1252) mI312 li_1252 rfl).trans ((x_aload_n (n := 0) (pc := 1253) mI312 li_1253 rfl).trans ((x_iload_n (n := 3) (pc := 1254) mI312 li_1254 rfl).trans ((x_iconst (pc := 1255) mI312 li_1255 ic1).trans ((x_iadd (pc := 1256) mI312 li_1256).trans ((x_iald (pc := 1257) mI312 li_1257).trans (congrArg (rdA μ a0 0 (x3 + (1 : Int32))) ((x_aload_n (n := 0) (pc := 1258) mI312 li_1258 rfl).trans ((x_iload_n (n := 3) (pc := 1259) mI312 li_1259 rfl).trans ((x_iconst (pc := 1260) mI312 li_1260 ic2).trans ((x_iadd (pc := 1261) mI312 li_1261).trans ((x_iald (pc := 1262) mI312 li_1262).trans (congrArg (rdA μ a0 0 (x3 + (2 : Int32))) ((x_aload_n (n := 0) (pc := 1263) mI312 li_1263 rfl).trans ((x_iload_n (n := 3) (pc := 1264) mI312 li_1264 rfl).trans ((x_iconst (pc := 1265) mI312 li_1265 ic3).trans ((x_iadd (pc := 1266) mI312 li_1266).trans ((x_iald (pc := 1267) mI312 li_1267).trans (congrArg (rdA μ a0 0 (x3 + (3 : Int32))) ((x_aload_n (n := 0) (pc := 1268) mI312 li_1268 rfl).trans ((x_iload_n (n := 3) (pc := 1269) mI312 li_1269 rfl).trans ((x_iconst (pc := 1270) mI312 li_1270 ic4).trans ((x_iadd (pc := 1271) mI312 li_1271).trans ((x_iald (pc := 1272) mI312 li_1272).trans (congrArg (rdA μ a0 0 (x3 + (4 : Int32))) (x_ifeq (t := 1280) (pc := 1273) mI312 li_1273 (by decide))))))))))))))))))))))))))
set_option maxRecDepth 20000 in
theorem b312_1276 {E : (Nat → Value) × (Nat → Nat)} {lo d : Nat} {μ : rM} (a0 : Nat) (a1 : Nat) (a2 : Nat) (x3 : Int32) (c0 : Nat) (y1 : Int32) (y2 : Int32) (y3 : Int32) : ex PG E lo d 312 1276 [some (.ref a0), some (.ref a1), some (.ref a2), some (.int x3)] [.int y3, .int y2, .int y1, .ref c0] μ = ex PG E lo d 312 1281 [some (.ref a0), some (.ref a1), some (.ref a2), some (.int x3)] [.int (1 : Int32), .int y3, .int y2, .int y1, .ref c0] μ := (x_iconst (pc := 1276) mI312 li_1276 ic1).trans (x_goto (t := 1281) (pc := 1277) mI312 li_1277 (by decide))
set_option maxRecDepth 20000 in
theorem b312_1280 {E : (Nat → Value) × (Nat → Nat)} {lo d : Nat} {μ : rM} (a0 : Nat) (a1 : Nat) (a2 : Nat) (x3 : Int32) (c0 : Nat) (y1 : Int32) (y2 : Int32) (y3 : Int32) : ex PG E lo d 312 1280 [some (.ref a0), some (.ref a1), some (.ref a2), some (.int x3)] [.int y3, .int y2, .int y1, .ref c0] μ = ex PG E lo d 312 1281 [some (.ref a0), some (.ref a1), some (.ref a2), some (.int x3)] [.int (0 : Int32), .int y3, .int y2, .int y1, .ref c0] μ := x_iconst (pc := 1280) mI312 li_1280 ic0
set_option maxRecDepth 20000 in
theorem b312_1281 {E : (Nat → Value) × (Nat → Nat)} {lo d : Nat} {μ : rM} (a0 : Nat) (a1 : Nat) (a2 : Nat) (x3 : Int32) (c0 : Nat) (y1 : Int32) (y2 : Int32) (y3 : Int32) (y4 : Int32) : ex PG E lo d 312 1281 [some (.ref a0), some (.ref a1), some (.ref a2), some (.int x3)] [.int y4, .int y3, .int y2, .int y1, .ref c0] μ = gO μ c0 11 ((cl E lo d 149 [.ref c0, .int y1, .int y2, .int y3, .int y4] μ).bind fun z => ex PG E lo d 312 1284 [some (.ref a0), some (.ref a1), some (.ref a2), some (.int x3)] (z.1.toList ++ []) z.2) := x_invV (i := 114) (j := 149) (n := 4) (c := 11) (pc := 1281) mI312 li_1281 rfl rfl rfl rfl
set_option maxRecDepth 20000 in
theorem b312_1284 {E : (Nat → Value) × (Nat → Nat)} {lo d : Nat} {μ : rM} (a0 : Nat) (a1 : Nat) (a2 : Nat) (x3 : Int32) (y0 : Int32) : ex PG E lo d 312 1284 [some (.ref a0), some (.ref a1), some (.ref a2), some (.int x3)] [.int y0] μ = rdA μ a0 0 (x3 + (1 : Int32)) (rdA μ a0 0 (x3 + (2 : Int32)) (rdA μ a0 0 (x3 + (3 : Int32)) (rdA μ a0 0 (x3 + (4 : Int32)) (if (ri μ a0 (Int32.toNatClampNeg (x3 + (4 : Int32)))) = (0 : Int32) then ex PG E lo d 312 1312 [some (.ref a0), some (.ref a1), some (.ref a2), some (.int x3)] [.int (ri μ a0 (Int32.toNatClampNeg (x3 + (3 : Int32)))), .int (ri μ a0 (Int32.toNatClampNeg (x3 + (2 : Int32)))), .int (ri μ a0 (Int32.toNatClampNeg (x3 + (1 : Int32)))), .ref a2, .int y0] μ else ex PG E lo d 312 1308 [some (.ref a0), some (.ref a1), some (.ref a2), some (.int x3)] [.int (ri μ a0 (Int32.toNatClampNeg (x3 + (3 : Int32)))), .int (ri μ a0 (Int32.toNatClampNeg (x3 + (2 : Int32)))), .int (ri μ a0 (Int32.toNatClampNeg (x3 + (1 : Int32)))), .ref a2, .int y0] μ)))) := (x_aload_n (n := 2) (pc := 1284) mI312 li_1284 rfl).trans ((x_aload_n (n := 0) (pc := 1285) mI312 li_1285 rfl).trans ((x_iload_n (n := 3) (pc := 1286) mI312 li_1286 rfl).trans ((x_iconst (pc := 1287) mI312 li_1287 ic1).trans ((x_iadd (pc := 1288) mI312 li_1288).trans ((x_iald (pc := 1289) mI312 li_1289).trans (congrArg (rdA μ a0 0 (x3 + (1 : Int32))) ((x_aload_n (n := 0) (pc := 1290) mI312 li_1290 rfl).trans ((x_iload_n (n := 3) (pc := 1291) mI312 li_1291 rfl).trans ((x_iconst (pc := 1292) mI312 li_1292 ic2).trans ((x_iadd (pc := 1293) mI312 li_1293).trans ((x_iald (pc := 1294) mI312 li_1294).trans (congrArg (rdA μ a0 0 (x3 + (2 : Int32))) ((x_aload_n (n := 0) (pc := 1295) mI312 li_1295 rfl).trans ((x_iload_n (n := 3) (pc := 1296) mI312 li_1296 rfl).trans ((x_iconst (pc := 1297) mI312 li_1297 ic3).trans ((x_iadd (pc := 1298) mI312 li_1298).trans ((x_iald (pc := 1299) mI312 li_1299).trans (congrArg (rdA μ a0 0 (x3 + (3 : Int32))) ((x_aload_n (n := 0) (pc := 1300) mI312 li_1300 rfl).trans ((x_iload_n (n := 3) (pc := 1301) mI312 li_1301 rfl).trans ((x_iconst (pc := 1302) mI312 li_1302 ic4).trans ((x_iadd (pc := 1303) mI312 li_1303).trans ((x_iald (pc := 1304) mI312 li_1304).trans (congrArg (rdA μ a0 0 (x3 + (4 : Int32))) (x_ifeq (t := 1312) (pc := 1305) mI312 li_1305 (by decide))))))))))))))))))))))))))
set_option maxRecDepth 20000 in
theorem b312_1308 {E : (Nat → Value) × (Nat → Nat)} {lo d : Nat} {μ : rM} (a0 : Nat) (a1 : Nat) (a2 : Nat) (x3 : Int32) (y0 : Int32) (c1 : Nat) (y2 : Int32) (y3 : Int32) (y4 : Int32) : ex PG E lo d 312 1308 [some (.ref a0), some (.ref a1), some (.ref a2), some (.int x3)] [.int y4, .int y3, .int y2, .ref c1, .int y0] μ = ex PG E lo d 312 1313 [some (.ref a0), some (.ref a1), some (.ref a2), some (.int x3)] [.int (1 : Int32), .int y4, .int y3, .int y2, .ref c1, .int y0] μ := (x_iconst (pc := 1308) mI312 li_1308 ic1).trans (x_goto (t := 1313) (pc := 1309) mI312 li_1309 (by decide))
set_option maxRecDepth 20000 in
theorem b312_1312 {E : (Nat → Value) × (Nat → Nat)} {lo d : Nat} {μ : rM} (a0 : Nat) (a1 : Nat) (a2 : Nat) (x3 : Int32) (y0 : Int32) (c1 : Nat) (y2 : Int32) (y3 : Int32) (y4 : Int32) : ex PG E lo d 312 1312 [some (.ref a0), some (.ref a1), some (.ref a2), some (.int x3)] [.int y4, .int y3, .int y2, .ref c1, .int y0] μ = ex PG E lo d 312 1313 [some (.ref a0), some (.ref a1), some (.ref a2), some (.int x3)] [.int (0 : Int32), .int y4, .int y3, .int y2, .ref c1, .int y0] μ := x_iconst (pc := 1312) mI312 li_1312 ic0
set_option maxRecDepth 20000 in
theorem b312_1313 {E : (Nat → Value) × (Nat → Nat)} {lo d : Nat} {μ : rM} (a0 : Nat) (a1 : Nat) (a2 : Nat) (x3 : Int32) (y0 : Int32) (c1 : Nat) (y2 : Int32) (y3 : Int32) (y4 : Int32) (y5 : Int32) : ex PG E lo d 312 1313 [some (.ref a0), some (.ref a1), some (.ref a2), some (.int x3)] [.int y5, .int y4, .int y3, .int y2, .ref c1, .int y0] μ = gO μ c1 12 ((cl E lo d 267 [.ref c1, .int y2, .int y3, .int y4, .int y5] μ).bind fun z => ex PG E lo d 312 1316 [some (.ref a0), some (.ref a1), some (.ref a2), some (.int x3)] (z.1.toList ++ [.int y0]) z.2) := x_invV (i := 117) (j := 267) (n := 4) (c := 12) (pc := 1313) mI312 li_1313 rfl rfl rfl rfl
set_option maxRecDepth 20000 in
theorem b312_1316 {E : (Nat → Value) × (Nat → Nat)} {lo d : Nat} {μ : rM} (a0 : Nat) (a1 : Nat) (a2 : Nat) (x3 : Int32) (y0 : Int32) (y1 : Int32) : ex PG E lo d 312 1316 [some (.ref a0), some (.ref a1), some (.ref a2), some (.int x3)] [.int y1, .int y0] μ = if y0 = y1 then ex PG E lo d 312 1827 [some (.ref a0), some (.ref a1), some (.ref a2), some (.int x3)] [] μ else ex PG E lo d 312 1319 [some (.ref a0), some (.ref a1), some (.ref a2), some (.int x3)] [] μ := x_cmpeq (t := 1827) (pc := 1316) mI312 li_1316 (by decide)
set_option maxRecDepth 20000 in
theorem b312_1319 {E : (Nat → Value) × (Nat → Nat)} {lo d : Nat} {μ : rM} (a0 : Nat) (a1 : Nat) (a2 : Nat) (x3 : Int32) : ex PG E lo d 312 1319 [some (.ref a0), some (.ref a1), some (.ref a2), some (.int x3)] [] μ = if (0 : Int32) = 0 ∨ (0 : Int32) = 1 then some (some (.int (0 : Int32)), μ) else none := (x_iconst (pc := 1319) mI312 li_1319 ic0).trans (x_zret (pc := 1320) mI312 li_1320 rfl)
set_option maxRecDepth 20000 in
theorem b312_1321 {E : (Nat → Value) × (Nat → Nat)} {lo d : Nat} {μ : rM} (a0 : Nat) (a1 : Nat) (a2 : Nat) (x3 : Int32) : ex PG E lo d 312 1321 [some (.ref a0), some (.ref a1), some (.ref a2), some (.int x3)] [] μ = rdA μ a0 0 (x3 + (1 : Int32)) (rdA μ a0 0 (x3 + (2 : Int32)) (rdA μ a0 0 (x3 + (3 : Int32)) (rdA μ a0 0 (x3 + (4 : Int32)) (rdA μ a0 0 (x3 + (5 : Int32)) (rdA μ a0 0 (x3 + (6 : Int32)) (gO μ a1 11 ((cl E lo d 150 [.ref a1, .int (ri μ a0 (Int32.toNatClampNeg (x3 + (1 : Int32)))), .int (ri μ a0 (Int32.toNatClampNeg (x3 + (2 : Int32)))), .int (ri μ a0 (Int32.toNatClampNeg (x3 + (3 : Int32)))), .int (ri μ a0 (Int32.toNatClampNeg (x3 + (4 : Int32)))), .int (ri μ a0 (Int32.toNatClampNeg (x3 + (5 : Int32)))), .int (ri μ a0 (Int32.toNatClampNeg (x3 + (6 : Int32))))] μ).bind fun z => ex PG E lo d 312 1356 [some (.ref a0), some (.ref a1), some (.ref a2), some (.int x3)] (z.1.toList ++ []) z.2))))))) := (x_aload_n (n := 1) (pc := 1321) mI312 li_1321 rfl).trans ((x_aload_n (n := 0) (pc := 1322) mI312 li_1322 rfl).trans ((x_iload_n (n := 3) (pc := 1323) mI312 li_1323 rfl).trans ((x_iconst (pc := 1324) mI312 li_1324 ic1).trans ((x_iadd (pc := 1325) mI312 li_1325).trans ((x_iald (pc := 1326) mI312 li_1326).trans (congrArg (rdA μ a0 0 (x3 + (1 : Int32))) ((x_aload_n (n := 0) (pc := 1327) mI312 li_1327 rfl).trans ((x_iload_n (n := 3) (pc := 1328) mI312 li_1328 rfl).trans ((x_iconst (pc := 1329) mI312 li_1329 ic2).trans ((x_iadd (pc := 1330) mI312 li_1330).trans ((x_iald (pc := 1331) mI312 li_1331).trans (congrArg (rdA μ a0 0 (x3 + (2 : Int32))) ((x_aload_n (n := 0) (pc := 1332) mI312 li_1332 rfl).trans ((x_iload_n (n := 3) (pc := 1333) mI312 li_1333 rfl).trans ((x_iconst (pc := 1334) mI312 li_1334 ic3).trans ((x_iadd (pc := 1335) mI312 li_1335).trans ((x_iald (pc := 1336) mI312 li_1336).trans (congrArg (rdA μ a0 0 (x3 + (3 : Int32))) ((x_aload_n (n := 0) (pc := 1337) mI312 li_1337 rfl).trans ((x_iload_n (n := 3) (pc := 1338) mI312 li_1338 rfl).trans ((x_iconst (pc := 1339) mI312 li_1339 ic4).trans ((x_iadd (pc := 1340) mI312 li_1340).trans ((x_iald (pc := 1341) mI312 li_1341).trans (congrArg (rdA μ a0 0 (x3 + (4 : Int32))) ((x_aload_n (n := 0) (pc := 1342) mI312 li_1342 rfl).trans ((x_iload_n (n := 3) (pc := 1343) mI312 li_1343 rfl).trans ((x_iconst (pc := 1344) mI312 li_1344 ic5).trans ((x_iadd (pc := 1345) mI312 li_1345).trans ((x_iald (pc := 1346) mI312 li_1346).trans (congrArg (rdA μ a0 0 (x3 + (5 : Int32))) ((x_aload_n (n := 0) (pc := 1347) mI312 li_1347 rfl).trans ((x_iload_n (n := 3) (pc := 1348) mI312 li_1348 rfl).trans ((x_bipush (pc := 1349) mI312 li_1349 bp6).trans ((x_iadd (pc := 1351) mI312 li_1351).trans ((x_iald (pc := 1352) mI312 li_1352).trans (congrArg (rdA μ a0 0 (x3 + (6 : Int32))) (x_invV (i := 118) (j := 150) (n := 6) (c := 11) (pc := 1353) mI312 li_1353 rfl rfl rfl rfl)))))))))))))))))))))))))))))))))))))
set_option maxRecDepth 20000 in
theorem b312_1356 {E : (Nat → Value) × (Nat → Nat)} {lo d : Nat} {μ : rM} (a0 : Nat) (a1 : Nat) (a2 : Nat) (x3 : Int32) (y0 : Int32) : ex PG E lo d 312 1356 [some (.ref a0), some (.ref a1), some (.ref a2), some (.int x3)] [.int y0] μ = rdA μ a0 0 (x3 + (1 : Int32)) (rdA μ a0 0 (x3 + (2 : Int32)) (rdA μ a0 0 (x3 + (3 : Int32)) (rdA μ a0 0 (x3 + (4 : Int32)) (rdA μ a0 0 (x3 + (5 : Int32)) (rdA μ a0 0 (x3 + (6 : Int32)) (gO μ a2 12 ((cl E lo d 270 [.ref a2, .int (ri μ a0 (Int32.toNatClampNeg (x3 + (1 : Int32)))), .int (ri μ a0 (Int32.toNatClampNeg (x3 + (2 : Int32)))), .int (ri μ a0 (Int32.toNatClampNeg (x3 + (3 : Int32)))), .int (ri μ a0 (Int32.toNatClampNeg (x3 + (4 : Int32)))), .int (ri μ a0 (Int32.toNatClampNeg (x3 + (5 : Int32)))), .int (ri μ a0 (Int32.toNatClampNeg (x3 + (6 : Int32))))] μ).bind fun z => ex PG E lo d 312 1391 [some (.ref a0), some (.ref a1), some (.ref a2), some (.int x3)] (z.1.toList ++ [.int y0]) z.2))))))) := (x_aload_n (n := 2) (pc := 1356) mI312 li_1356 rfl).trans ((x_aload_n (n := 0) (pc := 1357) mI312 li_1357 rfl).trans ((x_iload_n (n := 3) (pc := 1358) mI312 li_1358 rfl).trans ((x_iconst (pc := 1359) mI312 li_1359 ic1).trans ((x_iadd (pc := 1360) mI312 li_1360).trans ((x_iald (pc := 1361) mI312 li_1361).trans (congrArg (rdA μ a0 0 (x3 + (1 : Int32))) ((x_aload_n (n := 0) (pc := 1362) mI312 li_1362 rfl).trans ((x_iload_n (n := 3) (pc := 1363) mI312 li_1363 rfl).trans ((x_iconst (pc := 1364) mI312 li_1364 ic2).trans ((x_iadd (pc := 1365) mI312 li_1365).trans ((x_iald (pc := 1366) mI312 li_1366).trans (congrArg (rdA μ a0 0 (x3 + (2 : Int32))) ((x_aload_n (n := 0) (pc := 1367) mI312 li_1367 rfl).trans ((x_iload_n (n := 3) (pc := 1368) mI312 li_1368 rfl).trans ((x_iconst (pc := 1369) mI312 li_1369 ic3).trans ((x_iadd (pc := 1370) mI312 li_1370).trans ((x_iald (pc := 1371) mI312 li_1371).trans (congrArg (rdA μ a0 0 (x3 + (3 : Int32))) ((x_aload_n (n := 0) (pc := 1372) mI312 li_1372 rfl).trans ((x_iload_n (n := 3) (pc := 1373) mI312 li_1373 rfl).trans ((x_iconst (pc := 1374) mI312 li_1374 ic4).trans ((x_iadd (pc := 1375) mI312 li_1375).trans ((x_iald (pc := 1376) mI312 li_1376).trans (congrArg (rdA μ a0 0 (x3 + (4 : Int32))) ((x_aload_n (n := 0) (pc := 1377) mI312 li_1377 rfl).trans ((x_iload_n (n := 3) (pc := 1378) mI312 li_1378 rfl).trans ((x_iconst (pc := 1379) mI312 li_1379 ic5).trans ((x_iadd (pc := 1380) mI312 li_1380).trans ((x_iald (pc := 1381) mI312 li_1381).trans (congrArg (rdA μ a0 0 (x3 + (5 : Int32))) ((x_aload_n (n := 0) (pc := 1382) mI312 li_1382 rfl).trans ((x_iload_n (n := 3) (pc := 1383) mI312 li_1383 rfl).trans ((x_bipush (pc := 1384) mI312 li_1384 bp6).trans ((x_iadd (pc := 1386) mI312 li_1386).trans ((x_iald (pc := 1387) mI312 li_1387).trans (congrArg (rdA μ a0 0 (x3 + (6 : Int32))) (x_invV (i := 122) (j := 270) (n := 6) (c := 12) (pc := 1388) mI312 li_1388 rfl rfl rfl rfl)))))))))))))))))))))))))))))))))))))
set_option maxRecDepth 20000 in
theorem b312_1391 {E : (Nat → Value) × (Nat → Nat)} {lo d : Nat} {μ : rM} (a0 : Nat) (a1 : Nat) (a2 : Nat) (x3 : Int32) (y0 : Int32) (y1 : Int32) : ex PG E lo d 312 1391 [some (.ref a0), some (.ref a1), some (.ref a2), some (.int x3)] [.int y1, .int y0] μ = if y0 = y1 then ex PG E lo d 312 1827 [some (.ref a0), some (.ref a1), some (.ref a2), some (.int x3)] [] μ else ex PG E lo d 312 1394 [some (.ref a0), some (.ref a1), some (.ref a2), some (.int x3)] [] μ := x_cmpeq (t := 1827) (pc := 1391) mI312 li_1391 (by decide)
set_option maxRecDepth 20000 in
theorem b312_1394 {E : (Nat → Value) × (Nat → Nat)} {lo d : Nat} {μ : rM} (a0 : Nat) (a1 : Nat) (a2 : Nat) (x3 : Int32) : ex PG E lo d 312 1394 [some (.ref a0), some (.ref a1), some (.ref a2), some (.int x3)] [] μ = if (0 : Int32) = 0 ∨ (0 : Int32) = 1 then some (some (.int (0 : Int32)), μ) else none := (x_iconst (pc := 1394) mI312 li_1394 ic0).trans (x_zret (pc := 1395) mI312 li_1395 rfl)
set_option maxRecDepth 20000 in
theorem b312_1396 {E : (Nat → Value) × (Nat → Nat)} {lo d : Nat} {μ : rM} (a0 : Nat) (a1 : Nat) (a2 : Nat) (x3 : Int32) : ex PG E lo d 312 1396 [some (.ref a0), some (.ref a1), some (.ref a2), some (.int x3)] [] μ = rdA μ a0 0 (x3 + (1 : Int32)) (rdA μ a0 0 (x3 + (2 : Int32)) (rdA μ a0 0 (x3 + (3 : Int32)) (if (ri μ a0 (Int32.toNatClampNeg (x3 + (3 : Int32)))) = (0 : Int32) then ex PG E lo d 312 1419 [some (.ref a0), some (.ref a1), some (.ref a2), some (.int x3)] [.int (ri μ a0 (Int32.toNatClampNeg (x3 + (2 : Int32)))), .int (ri μ a0 (Int32.toNatClampNeg (x3 + (1 : Int32)))), .ref a1] μ else ex PG E lo d 312 1415 [some (.ref a0), some (.ref a1), some (.ref a2), some (.int x3)] [.int (ri μ a0 (Int32.toNatClampNeg (x3 + (2 : Int32)))), .int (ri μ a0 (Int32.toNatClampNeg (x3 + (1 : Int32)))), .ref a1] μ))) := (x_aload_n (n := 1) (pc := 1396) mI312 li_1396 rfl).trans ((x_aload_n (n := 0) (pc := 1397) mI312 li_1397 rfl).trans ((x_iload_n (n := 3) (pc := 1398) mI312 li_1398 rfl).trans ((x_iconst (pc := 1399) mI312 li_1399 ic1).trans ((x_iadd (pc := 1400) mI312 li_1400).trans ((x_iald (pc := 1401) mI312 li_1401).trans (congrArg (rdA μ a0 0 (x3 + (1 : Int32))) ((x_aload_n (n := 0) (pc := 1402) mI312 li_1402 rfl).trans ((x_iload_n (n := 3) (pc := 1403) mI312 li_1403 rfl).trans ((x_iconst (pc := 1404) mI312 li_1404 ic2).trans ((x_iadd (pc := 1405) mI312 li_1405).trans ((x_iald (pc := 1406) mI312 li_1406).trans (congrArg (rdA μ a0 0 (x3 + (2 : Int32))) ((x_aload_n (n := 0) (pc := 1407) mI312 li_1407 rfl).trans ((x_iload_n (n := 3) (pc := 1408) mI312 li_1408 rfl).trans ((x_iconst (pc := 1409) mI312 li_1409 ic3).trans ((x_iadd (pc := 1410) mI312 li_1410).trans ((x_iald (pc := 1411) mI312 li_1411).trans (congrArg (rdA μ a0 0 (x3 + (3 : Int32))) (x_ifeq (t := 1419) (pc := 1412) mI312 li_1412 (by decide))))))))))))))))))))
set_option maxRecDepth 20000 in
theorem b312_1415 {E : (Nat → Value) × (Nat → Nat)} {lo d : Nat} {μ : rM} (a0 : Nat) (a1 : Nat) (a2 : Nat) (x3 : Int32) (c0 : Nat) (y1 : Int32) (y2 : Int32) : ex PG E lo d 312 1415 [some (.ref a0), some (.ref a1), some (.ref a2), some (.int x3)] [.int y2, .int y1, .ref c0] μ = ex PG E lo d 312 1420 [some (.ref a0), some (.ref a1), some (.ref a2), some (.int x3)] [.int (1 : Int32), .int y2, .int y1, .ref c0] μ := (x_iconst (pc := 1415) mI312 li_1415 ic1).trans (x_goto (t := 1420) (pc := 1416) mI312 li_1416 (by decide))
set_option maxRecDepth 20000 in
theorem b312_1419 {E : (Nat → Value) × (Nat → Nat)} {lo d : Nat} {μ : rM} (a0 : Nat) (a1 : Nat) (a2 : Nat) (x3 : Int32) (c0 : Nat) (y1 : Int32) (y2 : Int32) : ex PG E lo d 312 1419 [some (.ref a0), some (.ref a1), some (.ref a2), some (.int x3)] [.int y2, .int y1, .ref c0] μ = ex PG E lo d 312 1420 [some (.ref a0), some (.ref a1), some (.ref a2), some (.int x3)] [.int (0 : Int32), .int y2, .int y1, .ref c0] μ := x_iconst (pc := 1419) mI312 li_1419 ic0
set_option maxRecDepth 20000 in
theorem b312_1420 {E : (Nat → Value) × (Nat → Nat)} {lo d : Nat} {μ : rM} (a0 : Nat) (a1 : Nat) (a2 : Nat) (x3 : Int32) (c0 : Nat) (y1 : Int32) (y2 : Int32) (y3 : Int32) : ex PG E lo d 312 1420 [some (.ref a0), some (.ref a1), some (.ref a2), some (.int x3)] [.int y3, .int y2, .int y1, .ref c0] μ = gO μ c0 11 ((cl E lo d 151 [.ref c0, .int y1, .int y2, .int y3] μ).bind fun z => ex PG E lo d 312 1423 [some (.ref a0), some (.ref a1), some (.ref a2), some (.int x3)] (z.1.toList ++ []) z.2) := x_invV (i := 123) (j := 151) (n := 3) (c := 11) (pc := 1420) mI312 li_1420 rfl rfl rfl rfl
set_option maxRecDepth 20000 in
theorem b312_1423 {E : (Nat → Value) × (Nat → Nat)} {lo d : Nat} {μ : rM} (a0 : Nat) (a1 : Nat) (a2 : Nat) (x3 : Int32) (y0 : Int32) : ex PG E lo d 312 1423 [some (.ref a0), some (.ref a1), some (.ref a2), some (.int x3)] [.int y0] μ = rdA μ a0 0 (x3 + (1 : Int32)) (rdA μ a0 0 (x3 + (2 : Int32)) (rdA μ a0 0 (x3 + (3 : Int32)) (if (ri μ a0 (Int32.toNatClampNeg (x3 + (3 : Int32)))) = (0 : Int32) then ex PG E lo d 312 1446 [some (.ref a0), some (.ref a1), some (.ref a2), some (.int x3)] [.int (ri μ a0 (Int32.toNatClampNeg (x3 + (2 : Int32)))), .int (ri μ a0 (Int32.toNatClampNeg (x3 + (1 : Int32)))), .ref a2, .int y0] μ else ex PG E lo d 312 1442 [some (.ref a0), some (.ref a1), some (.ref a2), some (.int x3)] [.int (ri μ a0 (Int32.toNatClampNeg (x3 + (2 : Int32)))), .int (ri μ a0 (Int32.toNatClampNeg (x3 + (1 : Int32)))), .ref a2, .int y0] μ))) := (x_aload_n (n := 2) (pc := 1423) mI312 li_1423 rfl).trans ((x_aload_n (n := 0) (pc := 1424) mI312 li_1424 rfl).trans ((x_iload_n (n := 3) (pc := 1425) mI312 li_1425 rfl).trans ((x_iconst (pc := 1426) mI312 li_1426 ic1).trans ((x_iadd (pc := 1427) mI312 li_1427).trans ((x_iald (pc := 1428) mI312 li_1428).trans (congrArg (rdA μ a0 0 (x3 + (1 : Int32))) ((x_aload_n (n := 0) (pc := 1429) mI312 li_1429 rfl).trans ((x_iload_n (n := 3) (pc := 1430) mI312 li_1430 rfl).trans ((x_iconst (pc := 1431) mI312 li_1431 ic2).trans ((x_iadd (pc := 1432) mI312 li_1432).trans ((x_iald (pc := 1433) mI312 li_1433).trans (congrArg (rdA μ a0 0 (x3 + (2 : Int32))) ((x_aload_n (n := 0) (pc := 1434) mI312 li_1434 rfl).trans ((x_iload_n (n := 3) (pc := 1435) mI312 li_1435 rfl).trans ((x_iconst (pc := 1436) mI312 li_1436 ic3).trans ((x_iadd (pc := 1437) mI312 li_1437).trans ((x_iald (pc := 1438) mI312 li_1438).trans (congrArg (rdA μ a0 0 (x3 + (3 : Int32))) (x_ifeq (t := 1446) (pc := 1439) mI312 li_1439 (by decide))))))))))))))))))))
set_option maxRecDepth 20000 in
theorem b312_1442 {E : (Nat → Value) × (Nat → Nat)} {lo d : Nat} {μ : rM} (a0 : Nat) (a1 : Nat) (a2 : Nat) (x3 : Int32) (y0 : Int32) (c1 : Nat) (y2 : Int32) (y3 : Int32) : ex PG E lo d 312 1442 [some (.ref a0), some (.ref a1), some (.ref a2), some (.int x3)] [.int y3, .int y2, .ref c1, .int y0] μ = ex PG E lo d 312 1447 [some (.ref a0), some (.ref a1), some (.ref a2), some (.int x3)] [.int (1 : Int32), .int y3, .int y2, .ref c1, .int y0] μ := (x_iconst (pc := 1442) mI312 li_1442 ic1).trans (x_goto (t := 1447) (pc := 1443) mI312 li_1443 (by decide))
set_option maxRecDepth 20000 in
theorem b312_1446 {E : (Nat → Value) × (Nat → Nat)} {lo d : Nat} {μ : rM} (a0 : Nat) (a1 : Nat) (a2 : Nat) (x3 : Int32) (y0 : Int32) (c1 : Nat) (y2 : Int32) (y3 : Int32) : ex PG E lo d 312 1446 [some (.ref a0), some (.ref a1), some (.ref a2), some (.int x3)] [.int y3, .int y2, .ref c1, .int y0] μ = ex PG E lo d 312 1447 [some (.ref a0), some (.ref a1), some (.ref a2), some (.int x3)] [.int (0 : Int32), .int y3, .int y2, .ref c1, .int y0] μ := x_iconst (pc := 1446) mI312 li_1446 ic0
set_option maxRecDepth 20000 in
theorem b312_1447 {E : (Nat → Value) × (Nat → Nat)} {lo d : Nat} {μ : rM} (a0 : Nat) (a1 : Nat) (a2 : Nat) (x3 : Int32) (y0 : Int32) (c1 : Nat) (y2 : Int32) (y3 : Int32) (y4 : Int32) : ex PG E lo d 312 1447 [some (.ref a0), some (.ref a1), some (.ref a2), some (.int x3)] [.int y4, .int y3, .int y2, .ref c1, .int y0] μ = gO μ c1 12 ((cl E lo d 271 [.ref c1, .int y2, .int y3, .int y4] μ).bind fun z => ex PG E lo d 312 1450 [some (.ref a0), some (.ref a1), some (.ref a2), some (.int x3)] (z.1.toList ++ [.int y0]) z.2) := x_invV (i := 127) (j := 271) (n := 3) (c := 12) (pc := 1447) mI312 li_1447 rfl rfl rfl rfl
set_option maxRecDepth 20000 in
theorem b312_1450 {E : (Nat → Value) × (Nat → Nat)} {lo d : Nat} {μ : rM} (a0 : Nat) (a1 : Nat) (a2 : Nat) (x3 : Int32) (y0 : Int32) (y1 : Int32) : ex PG E lo d 312 1450 [some (.ref a0), some (.ref a1), some (.ref a2), some (.int x3)] [.int y1, .int y0] μ = if y0 = y1 then ex PG E lo d 312 1827 [some (.ref a0), some (.ref a1), some (.ref a2), some (.int x3)] [] μ else ex PG E lo d 312 1453 [some (.ref a0), some (.ref a1), some (.ref a2), some (.int x3)] [] μ := x_cmpeq (t := 1827) (pc := 1450) mI312 li_1450 (by decide)
set_option maxRecDepth 20000 in
theorem b312_1453 {E : (Nat → Value) × (Nat → Nat)} {lo d : Nat} {μ : rM} (a0 : Nat) (a1 : Nat) (a2 : Nat) (x3 : Int32) : ex PG E lo d 312 1453 [some (.ref a0), some (.ref a1), some (.ref a2), some (.int x3)] [] μ = if (0 : Int32) = 0 ∨ (0 : Int32) = 1 then some (some (.int (0 : Int32)), μ) else none := (x_iconst (pc := 1453) mI312 li_1453 ic0).trans (x_zret (pc := 1454) mI312 li_1454 rfl)
set_option maxRecDepth 20000 in
theorem b312_1455 {E : (Nat → Value) × (Nat → Nat)} {lo d : Nat} {μ : rM} (a0 : Nat) (a1 : Nat) (a2 : Nat) (x3 : Int32) : ex PG E lo d 312 1455 [some (.ref a0), some (.ref a1), some (.ref a2), some (.int x3)] [] μ = rdA μ a0 0 (x3 + (1 : Int32)) (rdA μ a0 0 (x3 + (2 : Int32)) (gO μ a1 11 ((cl E lo d 152 [.ref a1, .int (ri μ a0 (Int32.toNatClampNeg (x3 + (1 : Int32)))), .int (ri μ a0 (Int32.toNatClampNeg (x3 + (2 : Int32))))] μ).bind fun z => ex PG E lo d 312 1469 [some (.ref a0), some (.ref a1), some (.ref a2), some (.int x3)] (z.1.toList ++ []) z.2))) := (x_aload_n (n := 1) (pc := 1455) mI312 li_1455 rfl).trans ((x_aload_n (n := 0) (pc := 1456) mI312 li_1456 rfl).trans ((x_iload_n (n := 3) (pc := 1457) mI312 li_1457 rfl).trans ((x_iconst (pc := 1458) mI312 li_1458 ic1).trans ((x_iadd (pc := 1459) mI312 li_1459).trans ((x_iald (pc := 1460) mI312 li_1460).trans (congrArg (rdA μ a0 0 (x3 + (1 : Int32))) ((x_aload_n (n := 0) (pc := 1461) mI312 li_1461 rfl).trans ((x_iload_n (n := 3) (pc := 1462) mI312 li_1462 rfl).trans ((x_iconst (pc := 1463) mI312 li_1463 ic2).trans ((x_iadd (pc := 1464) mI312 li_1464).trans ((x_iald (pc := 1465) mI312 li_1465).trans (congrArg (rdA μ a0 0 (x3 + (2 : Int32))) (x_invV (i := 128) (j := 152) (n := 2) (c := 11) (pc := 1466) mI312 li_1466 rfl rfl rfl rfl)))))))))))))
set_option maxRecDepth 20000 in
theorem b312_1469 {E : (Nat → Value) × (Nat → Nat)} {lo d : Nat} {μ : rM} (a0 : Nat) (a1 : Nat) (a2 : Nat) (x3 : Int32) (y0 : Int32) : ex PG E lo d 312 1469 [some (.ref a0), some (.ref a1), some (.ref a2), some (.int x3)] [.int y0] μ = rdA μ a0 0 (x3 + (1 : Int32)) (rdA μ a0 0 (x3 + (2 : Int32)) (gO μ a2 12 ((cl E lo d 272 [.ref a2, .int (ri μ a0 (Int32.toNatClampNeg (x3 + (1 : Int32)))), .int (ri μ a0 (Int32.toNatClampNeg (x3 + (2 : Int32))))] μ).bind fun z => ex PG E lo d 312 1483 [some (.ref a0), some (.ref a1), some (.ref a2), some (.int x3)] (z.1.toList ++ [.int y0]) z.2))) := (x_aload_n (n := 2) (pc := 1469) mI312 li_1469 rfl).trans ((x_aload_n (n := 0) (pc := 1470) mI312 li_1470 rfl).trans ((x_iload_n (n := 3) (pc := 1471) mI312 li_1471 rfl).trans ((x_iconst (pc := 1472) mI312 li_1472 ic1).trans ((x_iadd (pc := 1473) mI312 li_1473).trans ((x_iald (pc := 1474) mI312 li_1474).trans (congrArg (rdA μ a0 0 (x3 + (1 : Int32))) ((x_aload_n (n := 0) (pc := 1475) mI312 li_1475 rfl).trans ((x_iload_n (n := 3) (pc := 1476) mI312 li_1476 rfl).trans ((x_iconst (pc := 1477) mI312 li_1477 ic2).trans ((x_iadd (pc := 1478) mI312 li_1478).trans ((x_iald (pc := 1479) mI312 li_1479).trans (congrArg (rdA μ a0 0 (x3 + (2 : Int32))) (x_invV (i := 131) (j := 272) (n := 2) (c := 12) (pc := 1480) mI312 li_1480 rfl rfl rfl rfl)))))))))))))
set_option maxRecDepth 20000 in
theorem b312_1483 {E : (Nat → Value) × (Nat → Nat)} {lo d : Nat} {μ : rM} (a0 : Nat) (a1 : Nat) (a2 : Nat) (x3 : Int32) (y0 : Int32) (y1 : Int32) : ex PG E lo d 312 1483 [some (.ref a0), some (.ref a1), some (.ref a2), some (.int x3)] [.int y1, .int y0] μ = if y0 = y1 then ex PG E lo d 312 1827 [some (.ref a0), some (.ref a1), some (.ref a2), some (.int x3)] [] μ else ex PG E lo d 312 1486 [some (.ref a0), some (.ref a1), some (.ref a2), some (.int x3)] [] μ := x_cmpeq (t := 1827) (pc := 1483) mI312 li_1483 (by decide)
set_option maxRecDepth 20000 in
theorem b312_1486 {E : (Nat → Value) × (Nat → Nat)} {lo d : Nat} {μ : rM} (a0 : Nat) (a1 : Nat) (a2 : Nat) (x3 : Int32) : ex PG E lo d 312 1486 [some (.ref a0), some (.ref a1), some (.ref a2), some (.int x3)] [] μ = if (0 : Int32) = 0 ∨ (0 : Int32) = 1 then some (some (.int (0 : Int32)), μ) else none := (x_iconst (pc := 1486) mI312 li_1486 ic0).trans (x_zret (pc := 1487) mI312 li_1487 rfl)
set_option maxRecDepth 20000 in
theorem b312_1488 {E : (Nat → Value) × (Nat → Nat)} {lo d : Nat} {μ : rM} (a0 : Nat) (a1 : Nat) (a2 : Nat) (x3 : Int32) : ex PG E lo d 312 1488 [some (.ref a0), some (.ref a1), some (.ref a2), some (.int x3)] [] μ = rdA μ a0 0 (x3 + (1 : Int32)) (rdA μ a0 0 (x3 + (2 : Int32)) (rdA μ a0 0 (x3 + (3 : Int32)) (rdA μ a0 0 (x3 + (4 : Int32)) (rdA μ a0 0 (x3 + (5 : Int32)) (if (ri μ a0 (Int32.toNatClampNeg (x3 + (5 : Int32)))) = (0 : Int32) then ex PG E lo d 312 1521 [some (.ref a0), some (.ref a1), some (.ref a2), some (.int x3)] [.int (ri μ a0 (Int32.toNatClampNeg (x3 + (4 : Int32)))), .int (ri μ a0 (Int32.toNatClampNeg (x3 + (3 : Int32)))), .int (ri μ a0 (Int32.toNatClampNeg (x3 + (2 : Int32)))), .int (ri μ a0 (Int32.toNatClampNeg (x3 + (1 : Int32)))), .ref a1] μ else ex PG E lo d 312 1517 [some (.ref a0), some (.ref a1), some (.ref a2), some (.int x3)] [.int (ri μ a0 (Int32.toNatClampNeg (x3 + (4 : Int32)))), .int (ri μ a0 (Int32.toNatClampNeg (x3 + (3 : Int32)))), .int (ri μ a0 (Int32.toNatClampNeg (x3 + (2 : Int32)))), .int (ri μ a0 (Int32.toNatClampNeg (x3 + (1 : Int32)))), .ref a1] μ))))) := (x_aload_n (n := 1) (pc := 1488) mI312 li_1488 rfl).trans ((x_aload_n (n := 0) (pc := 1489) mI312 li_1489 rfl).trans ((x_iload_n (n := 3) (pc := 1490) mI312 li_1490 rfl).trans ((x_iconst (pc := 1491) mI312 li_1491 ic1).trans ((x_iadd (pc := 1492) mI312 li_1492).trans ((x_iald (pc := 1493) mI312 li_1493).trans (congrArg (rdA μ a0 0 (x3 + (1 : Int32))) ((x_aload_n (n := 0) (pc := 1494) mI312 li_1494 rfl).trans ((x_iload_n (n := 3) (pc := 1495) mI312 li_1495 rfl).trans ((x_iconst (pc := 1496) mI312 li_1496 ic2).trans ((x_iadd (pc := 1497) mI312 li_1497).trans ((x_iald (pc := 1498) mI312 li_1498).trans (congrArg (rdA μ a0 0 (x3 + (2 : Int32))) ((x_aload_n (n := 0) (pc := 1499) mI312 li_1499 rfl).trans ((x_iload_n (n := 3) (pc := 1500) mI312 li_1500 rfl).trans ((x_iconst (pc := 1501) mI312 li_1501 ic3).trans ((x_iadd (pc := 1502) mI312 li_1502).trans ((x_iald (pc := 1503) mI312 li_1503).trans (congrArg (rdA μ a0 0 (x3 + (3 : Int32))) ((x_aload_n (n := 0) (pc := 1504) mI312 li_1504 rfl).trans ((x_iload_n (n := 3) (pc := 1505) mI312 li_1505 rfl).trans ((x_iconst (pc := 1506) mI312 li_1506 ic4).trans ((x_iadd (pc := 1507) mI312 li_1507).trans ((x_iald (pc := 1508) mI312 li_1508).trans (congrArg (rdA μ a0 0 (x3 + (4 : Int32))) ((x_aload_n (n := 0) (pc := 1509) mI312 li_1509 rfl).trans ((x_iload_n (n := 3) (pc := 1510) mI312 li_1510 rfl).trans ((x_iconst (pc := 1511) mI312 li_1511 ic5).trans ((x_iadd (pc := 1512) mI312 li_1512).trans ((x_iald (pc := 1513) mI312 li_1513).trans (congrArg (rdA μ a0 0 (x3 + (5 : Int32))) (x_ifeq (t := 1521) (pc := 1514) mI312 li_1514 (by decide))))))))))))))))))))))))))))))))
set_option maxRecDepth 20000 in
theorem b312_1517 {E : (Nat → Value) × (Nat → Nat)} {lo d : Nat} {μ : rM} (a0 : Nat) (a1 : Nat) (a2 : Nat) (x3 : Int32) (c0 : Nat) (y1 : Int32) (y2 : Int32) (y3 : Int32) (y4 : Int32) : ex PG E lo d 312 1517 [some (.ref a0), some (.ref a1), some (.ref a2), some (.int x3)] [.int y4, .int y3, .int y2, .int y1, .ref c0] μ = ex PG E lo d 312 1522 [some (.ref a0), some (.ref a1), some (.ref a2), some (.int x3)] [.int (1 : Int32), .int y4, .int y3, .int y2, .int y1, .ref c0] μ := (x_iconst (pc := 1517) mI312 li_1517 ic1).trans (x_goto (t := 1522) (pc := 1518) mI312 li_1518 (by decide))
set_option maxRecDepth 20000 in
theorem b312_1521 {E : (Nat → Value) × (Nat → Nat)} {lo d : Nat} {μ : rM} (a0 : Nat) (a1 : Nat) (a2 : Nat) (x3 : Int32) (c0 : Nat) (y1 : Int32) (y2 : Int32) (y3 : Int32) (y4 : Int32) : ex PG E lo d 312 1521 [some (.ref a0), some (.ref a1), some (.ref a2), some (.int x3)] [.int y4, .int y3, .int y2, .int y1, .ref c0] μ = ex PG E lo d 312 1522 [some (.ref a0), some (.ref a1), some (.ref a2), some (.int x3)] [.int (0 : Int32), .int y4, .int y3, .int y2, .int y1, .ref c0] μ := x_iconst (pc := 1521) mI312 li_1521 ic0
set_option maxRecDepth 20000 in
theorem b312_1522 {E : (Nat → Value) × (Nat → Nat)} {lo d : Nat} {μ : rM} (a0 : Nat) (a1 : Nat) (a2 : Nat) (x3 : Int32) (c0 : Nat) (y1 : Int32) (y2 : Int32) (y3 : Int32) (y4 : Int32) (y5 : Int32) : ex PG E lo d 312 1522 [some (.ref a0), some (.ref a1), some (.ref a2), some (.int x3)] [.int y5, .int y4, .int y3, .int y2, .int y1, .ref c0] μ = gO μ c0 11 ((cl E lo d 153 [.ref c0, .int y1, .int y2, .int y3, .int y4, .int y5] μ).bind fun z => ex PG E lo d 312 1525 [some (.ref a0), some (.ref a1), some (.ref a2), some (.int x3)] (z.1.toList ++ []) z.2) := x_invV (i := 132) (j := 153) (n := 5) (c := 11) (pc := 1522) mI312 li_1522 rfl rfl rfl rfl
set_option maxRecDepth 20000 in
theorem b312_1525 {E : (Nat → Value) × (Nat → Nat)} {lo d : Nat} {μ : rM} (a0 : Nat) (a1 : Nat) (a2 : Nat) (x3 : Int32) (y0 : Int32) : ex PG E lo d 312 1525 [some (.ref a0), some (.ref a1), some (.ref a2), some (.int x3)] [.int y0] μ = rdA μ a0 0 (x3 + (1 : Int32)) (rdA μ a0 0 (x3 + (2 : Int32)) (rdA μ a0 0 (x3 + (3 : Int32)) (rdA μ a0 0 (x3 + (4 : Int32)) (rdA μ a0 0 (x3 + (5 : Int32)) (if (ri μ a0 (Int32.toNatClampNeg (x3 + (5 : Int32)))) = (0 : Int32) then ex PG E lo d 312 1558 [some (.ref a0), some (.ref a1), some (.ref a2), some (.int x3)] [.int (ri μ a0 (Int32.toNatClampNeg (x3 + (4 : Int32)))), .int (ri μ a0 (Int32.toNatClampNeg (x3 + (3 : Int32)))), .int (ri μ a0 (Int32.toNatClampNeg (x3 + (2 : Int32)))), .int (ri μ a0 (Int32.toNatClampNeg (x3 + (1 : Int32)))), .ref a2, .int y0] μ else ex PG E lo d 312 1554 [some (.ref a0), some (.ref a1), some (.ref a2), some (.int x3)] [.int (ri μ a0 (Int32.toNatClampNeg (x3 + (4 : Int32)))), .int (ri μ a0 (Int32.toNatClampNeg (x3 + (3 : Int32)))), .int (ri μ a0 (Int32.toNatClampNeg (x3 + (2 : Int32)))), .int (ri μ a0 (Int32.toNatClampNeg (x3 + (1 : Int32)))), .ref a2, .int y0] μ))))) := (x_aload_n (n := 2) (pc := 1525) mI312 li_1525 rfl).trans ((x_aload_n (n := 0) (pc := 1526) mI312 li_1526 rfl).trans ((x_iload_n (n := 3) (pc := 1527) mI312 li_1527 rfl).trans ((x_iconst (pc := 1528) mI312 li_1528 ic1).trans ((x_iadd (pc := 1529) mI312 li_1529).trans ((x_iald (pc := 1530) mI312 li_1530).trans (congrArg (rdA μ a0 0 (x3 + (1 : Int32))) ((x_aload_n (n := 0) (pc := 1531) mI312 li_1531 rfl).trans ((x_iload_n (n := 3) (pc := 1532) mI312 li_1532 rfl).trans ((x_iconst (pc := 1533) mI312 li_1533 ic2).trans ((x_iadd (pc := 1534) mI312 li_1534).trans ((x_iald (pc := 1535) mI312 li_1535).trans (congrArg (rdA μ a0 0 (x3 + (2 : Int32))) ((x_aload_n (n := 0) (pc := 1536) mI312 li_1536 rfl).trans ((x_iload_n (n := 3) (pc := 1537) mI312 li_1537 rfl).trans ((x_iconst (pc := 1538) mI312 li_1538 ic3).trans ((x_iadd (pc := 1539) mI312 li_1539).trans ((x_iald (pc := 1540) mI312 li_1540).trans (congrArg (rdA μ a0 0 (x3 + (3 : Int32))) ((x_aload_n (n := 0) (pc := 1541) mI312 li_1541 rfl).trans ((x_iload_n (n := 3) (pc := 1542) mI312 li_1542 rfl).trans ((x_iconst (pc := 1543) mI312 li_1543 ic4).trans ((x_iadd (pc := 1544) mI312 li_1544).trans ((x_iald (pc := 1545) mI312 li_1545).trans (congrArg (rdA μ a0 0 (x3 + (4 : Int32))) ((x_aload_n (n := 0) (pc := 1546) mI312 li_1546 rfl).trans ((x_iload_n (n := 3) (pc := 1547) mI312 li_1547 rfl).trans ((x_iconst (pc := 1548) mI312 li_1548 ic5).trans ((x_iadd (pc := 1549) mI312 li_1549).trans ((x_iald (pc := 1550) mI312 li_1550).trans (congrArg (rdA μ a0 0 (x3 + (5 : Int32))) (x_ifeq (t := 1558) (pc := 1551) mI312 li_1551 (by decide))))))))))))))))))))))))))))))))
set_option maxRecDepth 20000 in
theorem b312_1554 {E : (Nat → Value) × (Nat → Nat)} {lo d : Nat} {μ : rM} (a0 : Nat) (a1 : Nat) (a2 : Nat) (x3 : Int32) (y0 : Int32) (c1 : Nat) (y2 : Int32) (y3 : Int32) (y4 : Int32) (y5 : Int32) : ex PG E lo d 312 1554 [some (.ref a0), some (.ref a1), some (.ref a2), some (.int x3)] [.int y5, .int y4, .int y3, .int y2, .ref c1, .int y0] μ = ex PG E lo d 312 1559 [some (.ref a0), some (.ref a1), some (.ref a2), some (.int x3)] [.int (1 : Int32), .int y5, .int y4, .int y3, .int y2, .ref c1, .int y0] μ := (x_iconst (pc := 1554) mI312 li_1554 ic1).trans (x_goto (t := 1559) (pc := 1555) mI312 li_1555 (by decide))
set_option maxRecDepth 20000 in
theorem b312_1558 {E : (Nat → Value) × (Nat → Nat)} {lo d : Nat} {μ : rM} (a0 : Nat) (a1 : Nat) (a2 : Nat) (x3 : Int32) (y0 : Int32) (c1 : Nat) (y2 : Int32) (y3 : Int32) (y4 : Int32) (y5 : Int32) : ex PG E lo d 312 1558 [some (.ref a0), some (.ref a1), some (.ref a2), some (.int x3)] [.int y5, .int y4, .int y3, .int y2, .ref c1, .int y0] μ = ex PG E lo d 312 1559 [some (.ref a0), some (.ref a1), some (.ref a2), some (.int x3)] [.int (0 : Int32), .int y5, .int y4, .int y3, .int y2, .ref c1, .int y0] μ := x_iconst (pc := 1558) mI312 li_1558 ic0
set_option maxRecDepth 20000 in
theorem b312_1559 {E : (Nat → Value) × (Nat → Nat)} {lo d : Nat} {μ : rM} (a0 : Nat) (a1 : Nat) (a2 : Nat) (x3 : Int32) (y0 : Int32) (c1 : Nat) (y2 : Int32) (y3 : Int32) (y4 : Int32) (y5 : Int32) (y6 : Int32) : ex PG E lo d 312 1559 [some (.ref a0), some (.ref a1), some (.ref a2), some (.int x3)] [.int y6, .int y5, .int y4, .int y3, .int y2, .ref c1, .int y0] μ = gO μ c1 12 ((cl E lo d 273 [.ref c1, .int y2, .int y3, .int y4, .int y5, .int y6] μ).bind fun z => ex PG E lo d 312 1562 [some (.ref a0), some (.ref a1), some (.ref a2), some (.int x3)] (z.1.toList ++ [.int y0]) z.2) := x_invV (i := 135) (j := 273) (n := 5) (c := 12) (pc := 1559) mI312 li_1559 rfl rfl rfl rfl
set_option maxRecDepth 20000 in
theorem b312_1562 {E : (Nat → Value) × (Nat → Nat)} {lo d : Nat} {μ : rM} (a0 : Nat) (a1 : Nat) (a2 : Nat) (x3 : Int32) (y0 : Int32) (y1 : Int32) : ex PG E lo d 312 1562 [some (.ref a0), some (.ref a1), some (.ref a2), some (.int x3)] [.int y1, .int y0] μ = if y0 = y1 then ex PG E lo d 312 1827 [some (.ref a0), some (.ref a1), some (.ref a2), some (.int x3)] [] μ else ex PG E lo d 312 1565 [some (.ref a0), some (.ref a1), some (.ref a2), some (.int x3)] [] μ := x_cmpeq (t := 1827) (pc := 1562) mI312 li_1562 (by decide)
set_option maxRecDepth 20000 in
theorem b312_1565 {E : (Nat → Value) × (Nat → Nat)} {lo d : Nat} {μ : rM} (a0 : Nat) (a1 : Nat) (a2 : Nat) (x3 : Int32) : ex PG E lo d 312 1565 [some (.ref a0), some (.ref a1), some (.ref a2), some (.int x3)] [] μ = if (0 : Int32) = 0 ∨ (0 : Int32) = 1 then some (some (.int (0 : Int32)), μ) else none := (x_iconst (pc := 1565) mI312 li_1565 ic0).trans (x_zret (pc := 1566) mI312 li_1566 rfl)
set_option maxRecDepth 20000 in
theorem b312_1567 {E : (Nat → Value) × (Nat → Nat)} {lo d : Nat} {μ : rM} (a0 : Nat) (a1 : Nat) (a2 : Nat) (x3 : Int32) : ex PG E lo d 312 1567 [some (.ref a0), some (.ref a1), some (.ref a2), some (.int x3)] [] μ = rdA μ a0 0 (x3 + (1 : Int32)) (rdA μ a0 0 (x3 + (2 : Int32)) (rdA μ a0 0 (x3 + (3 : Int32)) (rdA μ a0 0 (x3 + (4 : Int32)) (rdA μ a0 0 (x3 + (5 : Int32)) (if (ri μ a0 (Int32.toNatClampNeg (x3 + (5 : Int32)))) = (0 : Int32) then ex PG E lo d 312 1600 [some (.ref a0), some (.ref a1), some (.ref a2), some (.int x3)] [.int (ri μ a0 (Int32.toNatClampNeg (x3 + (4 : Int32)))), .int (ri μ a0 (Int32.toNatClampNeg (x3 + (3 : Int32)))), .int (ri μ a0 (Int32.toNatClampNeg (x3 + (2 : Int32)))), .int (ri μ a0 (Int32.toNatClampNeg (x3 + (1 : Int32)))), .ref a1] μ else ex PG E lo d 312 1596 [some (.ref a0), some (.ref a1), some (.ref a2), some (.int x3)] [.int (ri μ a0 (Int32.toNatClampNeg (x3 + (4 : Int32)))), .int (ri μ a0 (Int32.toNatClampNeg (x3 + (3 : Int32)))), .int (ri μ a0 (Int32.toNatClampNeg (x3 + (2 : Int32)))), .int (ri μ a0 (Int32.toNatClampNeg (x3 + (1 : Int32)))), .ref a1] μ))))) := (x_aload_n (n := 1) (pc := 1567) mI312 li_1567 rfl).trans ((x_aload_n (n := 0) (pc := 1568) mI312 li_1568 rfl).trans ((x_iload_n (n := 3) (pc := 1569) mI312 li_1569 rfl).trans ((x_iconst (pc := 1570) mI312 li_1570 ic1).trans ((x_iadd (pc := 1571) mI312 li_1571).trans ((x_iald (pc := 1572) mI312 li_1572).trans (congrArg (rdA μ a0 0 (x3 + (1 : Int32))) ((x_aload_n (n := 0) (pc := 1573) mI312 li_1573 rfl).trans ((x_iload_n (n := 3) (pc := 1574) mI312 li_1574 rfl).trans ((x_iconst (pc := 1575) mI312 li_1575 ic2).trans ((x_iadd (pc := 1576) mI312 li_1576).trans ((x_iald (pc := 1577) mI312 li_1577).trans (congrArg (rdA μ a0 0 (x3 + (2 : Int32))) ((x_aload_n (n := 0) (pc := 1578) mI312 li_1578 rfl).trans ((x_iload_n (n := 3) (pc := 1579) mI312 li_1579 rfl).trans ((x_iconst (pc := 1580) mI312 li_1580 ic3).trans ((x_iadd (pc := 1581) mI312 li_1581).trans ((x_iald (pc := 1582) mI312 li_1582).trans (congrArg (rdA μ a0 0 (x3 + (3 : Int32))) ((x_aload_n (n := 0) (pc := 1583) mI312 li_1583 rfl).trans ((x_iload_n (n := 3) (pc := 1584) mI312 li_1584 rfl).trans ((x_iconst (pc := 1585) mI312 li_1585 ic4).trans ((x_iadd (pc := 1586) mI312 li_1586).trans ((x_iald (pc := 1587) mI312 li_1587).trans (congrArg (rdA μ a0 0 (x3 + (4 : Int32))) ((x_aload_n (n := 0) (pc := 1588) mI312 li_1588 rfl).trans ((x_iload_n (n := 3) (pc := 1589) mI312 li_1589 rfl).trans ((x_iconst (pc := 1590) mI312 li_1590 ic5).trans ((x_iadd (pc := 1591) mI312 li_1591).trans ((x_iald (pc := 1592) mI312 li_1592).trans (congrArg (rdA μ a0 0 (x3 + (5 : Int32))) (x_ifeq (t := 1600) (pc := 1593) mI312 li_1593 (by decide))))))))))))))))))))))))))))))))
set_option maxRecDepth 20000 in
theorem b312_1596 {E : (Nat → Value) × (Nat → Nat)} {lo d : Nat} {μ : rM} (a0 : Nat) (a1 : Nat) (a2 : Nat) (x3 : Int32) (c0 : Nat) (y1 : Int32) (y2 : Int32) (y3 : Int32) (y4 : Int32) : ex PG E lo d 312 1596 [some (.ref a0), some (.ref a1), some (.ref a2), some (.int x3)] [.int y4, .int y3, .int y2, .int y1, .ref c0] μ = ex PG E lo d 312 1601 [some (.ref a0), some (.ref a1), some (.ref a2), some (.int x3)] [.int (1 : Int32), .int y4, .int y3, .int y2, .int y1, .ref c0] μ := (x_iconst (pc := 1596) mI312 li_1596 ic1).trans (x_goto (t := 1601) (pc := 1597) mI312 li_1597 (by decide))
set_option maxRecDepth 20000 in
theorem b312_1600 {E : (Nat → Value) × (Nat → Nat)} {lo d : Nat} {μ : rM} (a0 : Nat) (a1 : Nat) (a2 : Nat) (x3 : Int32) (c0 : Nat) (y1 : Int32) (y2 : Int32) (y3 : Int32) (y4 : Int32) : ex PG E lo d 312 1600 [some (.ref a0), some (.ref a1), some (.ref a2), some (.int x3)] [.int y4, .int y3, .int y2, .int y1, .ref c0] μ = ex PG E lo d 312 1601 [some (.ref a0), some (.ref a1), some (.ref a2), some (.int x3)] [.int (0 : Int32), .int y4, .int y3, .int y2, .int y1, .ref c0] μ := x_iconst (pc := 1600) mI312 li_1600 ic0
set_option maxRecDepth 20000 in
theorem b312_1601 {E : (Nat → Value) × (Nat → Nat)} {lo d : Nat} {μ : rM} (a0 : Nat) (a1 : Nat) (a2 : Nat) (x3 : Int32) (c0 : Nat) (y1 : Int32) (y2 : Int32) (y3 : Int32) (y4 : Int32) (y5 : Int32) : ex PG E lo d 312 1601 [some (.ref a0), some (.ref a1), some (.ref a2), some (.int x3)] [.int y5, .int y4, .int y3, .int y2, .int y1, .ref c0] μ = gO μ c0 11 ((cl E lo d 154 [.ref c0, .int y1, .int y2, .int y3, .int y4, .int y5] μ).bind fun z => ex PG E lo d 312 1604 [some (.ref a0), some (.ref a1), some (.ref a2), some (.int x3)] (z.1.toList ++ []) z.2) := x_invV (i := 136) (j := 154) (n := 5) (c := 11) (pc := 1601) mI312 li_1601 rfl rfl rfl rfl
set_option maxRecDepth 20000 in
theorem b312_1604 {E : (Nat → Value) × (Nat → Nat)} {lo d : Nat} {μ : rM} (a0 : Nat) (a1 : Nat) (a2 : Nat) (x3 : Int32) (y0 : Int32) : ex PG E lo d 312 1604 [some (.ref a0), some (.ref a1), some (.ref a2), some (.int x3)] [.int y0] μ = rdA μ a0 0 (x3 + (1 : Int32)) (rdA μ a0 0 (x3 + (2 : Int32)) (rdA μ a0 0 (x3 + (3 : Int32)) (rdA μ a0 0 (x3 + (4 : Int32)) (rdA μ a0 0 (x3 + (5 : Int32)) (if (ri μ a0 (Int32.toNatClampNeg (x3 + (5 : Int32)))) = (0 : Int32) then ex PG E lo d 312 1637 [some (.ref a0), some (.ref a1), some (.ref a2), some (.int x3)] [.int (ri μ a0 (Int32.toNatClampNeg (x3 + (4 : Int32)))), .int (ri μ a0 (Int32.toNatClampNeg (x3 + (3 : Int32)))), .int (ri μ a0 (Int32.toNatClampNeg (x3 + (2 : Int32)))), .int (ri μ a0 (Int32.toNatClampNeg (x3 + (1 : Int32)))), .ref a2, .int y0] μ else ex PG E lo d 312 1633 [some (.ref a0), some (.ref a1), some (.ref a2), some (.int x3)] [.int (ri μ a0 (Int32.toNatClampNeg (x3 + (4 : Int32)))), .int (ri μ a0 (Int32.toNatClampNeg (x3 + (3 : Int32)))), .int (ri μ a0 (Int32.toNatClampNeg (x3 + (2 : Int32)))), .int (ri μ a0 (Int32.toNatClampNeg (x3 + (1 : Int32)))), .ref a2, .int y0] μ))))) := (x_aload_n (n := 2) (pc := 1604) mI312 li_1604 rfl).trans ((x_aload_n (n := 0) (pc := 1605) mI312 li_1605 rfl).trans ((x_iload_n (n := 3) (pc := 1606) mI312 li_1606 rfl).trans ((x_iconst (pc := 1607) mI312 li_1607 ic1).trans ((x_iadd (pc := 1608) mI312 li_1608).trans ((x_iald (pc := 1609) mI312 li_1609).trans (congrArg (rdA μ a0 0 (x3 + (1 : Int32))) ((x_aload_n (n := 0) (pc := 1610) mI312 li_1610 rfl).trans ((x_iload_n (n := 3) (pc := 1611) mI312 li_1611 rfl).trans ((x_iconst (pc := 1612) mI312 li_1612 ic2).trans ((x_iadd (pc := 1613) mI312 li_1613).trans ((x_iald (pc := 1614) mI312 li_1614).trans (congrArg (rdA μ a0 0 (x3 + (2 : Int32))) ((x_aload_n (n := 0) (pc := 1615) mI312 li_1615 rfl).trans ((x_iload_n (n := 3) (pc := 1616) mI312 li_1616 rfl).trans ((x_iconst (pc := 1617) mI312 li_1617 ic3).trans ((x_iadd (pc := 1618) mI312 li_1618).trans ((x_iald (pc := 1619) mI312 li_1619).trans (congrArg (rdA μ a0 0 (x3 + (3 : Int32))) ((x_aload_n (n := 0) (pc := 1620) mI312 li_1620 rfl).trans ((x_iload_n (n := 3) (pc := 1621) mI312 li_1621 rfl).trans ((x_iconst (pc := 1622) mI312 li_1622 ic4).trans ((x_iadd (pc := 1623) mI312 li_1623).trans ((x_iald (pc := 1624) mI312 li_1624).trans (congrArg (rdA μ a0 0 (x3 + (4 : Int32))) ((x_aload_n (n := 0) (pc := 1625) mI312 li_1625 rfl).trans ((x_iload_n (n := 3) (pc := 1626) mI312 li_1626 rfl).trans ((x_iconst (pc := 1627) mI312 li_1627 ic5).trans ((x_iadd (pc := 1628) mI312 li_1628).trans ((x_iald (pc := 1629) mI312 li_1629).trans (congrArg (rdA μ a0 0 (x3 + (5 : Int32))) (x_ifeq (t := 1637) (pc := 1630) mI312 li_1630 (by decide))))))))))))))))))))))))))))))))
set_option maxRecDepth 20000 in
theorem b312_1633 {E : (Nat → Value) × (Nat → Nat)} {lo d : Nat} {μ : rM} (a0 : Nat) (a1 : Nat) (a2 : Nat) (x3 : Int32) (y0 : Int32) (c1 : Nat) (y2 : Int32) (y3 : Int32) (y4 : Int32) (y5 : Int32) : ex PG E lo d 312 1633 [some (.ref a0), some (.ref a1), some (.ref a2), some (.int x3)] [.int y5, .int y4, .int y3, .int y2, .ref c1, .int y0] μ = ex PG E lo d 312 1638 [some (.ref a0), some (.ref a1), some (.ref a2), some (.int x3)] [.int (1 : Int32), .int y5, .int y4, .int y3, .int y2, .ref c1, .int y0] μ := (x_iconst (pc := 1633) mI312 li_1633 ic1).trans (x_goto (t := 1638) (pc := 1634) mI312 li_1634 (by decide))
set_option maxRecDepth 20000 in
theorem b312_1637 {E : (Nat → Value) × (Nat → Nat)} {lo d : Nat} {μ : rM} (a0 : Nat) (a1 : Nat) (a2 : Nat) (x3 : Int32) (y0 : Int32) (c1 : Nat) (y2 : Int32) (y3 : Int32) (y4 : Int32) (y5 : Int32) : ex PG E lo d 312 1637 [some (.ref a0), some (.ref a1), some (.ref a2), some (.int x3)] [.int y5, .int y4, .int y3, .int y2, .ref c1, .int y0] μ = ex PG E lo d 312 1638 [some (.ref a0), some (.ref a1), some (.ref a2), some (.int x3)] [.int (0 : Int32), .int y5, .int y4, .int y3, .int y2, .ref c1, .int y0] μ := x_iconst (pc := 1637) mI312 li_1637 ic0
set_option maxRecDepth 20000 in
theorem b312_1638 {E : (Nat → Value) × (Nat → Nat)} {lo d : Nat} {μ : rM} (a0 : Nat) (a1 : Nat) (a2 : Nat) (x3 : Int32) (y0 : Int32) (c1 : Nat) (y2 : Int32) (y3 : Int32) (y4 : Int32) (y5 : Int32) (y6 : Int32) : ex PG E lo d 312 1638 [some (.ref a0), some (.ref a1), some (.ref a2), some (.int x3)] [.int y6, .int y5, .int y4, .int y3, .int y2, .ref c1, .int y0] μ = gO μ c1 12 ((cl E lo d 274 [.ref c1, .int y2, .int y3, .int y4, .int y5, .int y6] μ).bind fun z => ex PG E lo d 312 1641 [some (.ref a0), some (.ref a1), some (.ref a2), some (.int x3)] (z.1.toList ++ [.int y0]) z.2) := x_invV (i := 139) (j := 274) (n := 5) (c := 12) (pc := 1638) mI312 li_1638 rfl rfl rfl rfl
set_option maxRecDepth 20000 in
theorem b312_1641 {E : (Nat → Value) × (Nat → Nat)} {lo d : Nat} {μ : rM} (a0 : Nat) (a1 : Nat) (a2 : Nat) (x3 : Int32) (y0 : Int32) (y1 : Int32) : ex PG E lo d 312 1641 [some (.ref a0), some (.ref a1), some (.ref a2), some (.int x3)] [.int y1, .int y0] μ = if y0 = y1 then ex PG E lo d 312 1827 [some (.ref a0), some (.ref a1), some (.ref a2), some (.int x3)] [] μ else ex PG E lo d 312 1644 [some (.ref a0), some (.ref a1), some (.ref a2), some (.int x3)] [] μ := x_cmpeq (t := 1827) (pc := 1641) mI312 li_1641 (by decide)
set_option maxRecDepth 20000 in
theorem b312_1644 {E : (Nat → Value) × (Nat → Nat)} {lo d : Nat} {μ : rM} (a0 : Nat) (a1 : Nat) (a2 : Nat) (x3 : Int32) : ex PG E lo d 312 1644 [some (.ref a0), some (.ref a1), some (.ref a2), some (.int x3)] [] μ = if (0 : Int32) = 0 ∨ (0 : Int32) = 1 then some (some (.int (0 : Int32)), μ) else none := (x_iconst (pc := 1644) mI312 li_1644 ic0).trans (x_zret (pc := 1645) mI312 li_1645 rfl)
set_option maxRecDepth 20000 in
theorem b312_1646 {E : (Nat → Value) × (Nat → Nat)} {lo d : Nat} {μ : rM} (a0 : Nat) (a1 : Nat) (a2 : Nat) (x3 : Int32) : ex PG E lo d 312 1646 [some (.ref a0), some (.ref a1), some (.ref a2), some (.int x3)] [] μ = rdA μ a0 0 (x3 + (1 : Int32)) (rdA μ a0 0 (x3 + (2 : Int32)) (rdA μ a0 0 (x3 + (3 : Int32)) (rdA μ a0 0 (x3 + (4 : Int32)) (rdA μ a0 0 (x3 + (5 : Int32)) (if (ri μ a0 (Int32.toNatClampNeg (x3 + (5 : Int32)))) = (0 : Int32) then ex PG E lo d 312 1679 [some (.ref a0), some (.ref a1), some (.ref a2), some (.int x3)] [.int (ri μ a0 (Int32.toNatClampNeg (x3 + (4 : Int32)))), .int (ri μ a0 (Int32.toNatClampNeg (x3 + (3 : Int32)))), .int (ri μ a0 (Int32.toNatClampNeg (x3 + (2 : Int32)))), .int (ri μ a0 (Int32.toNatClampNeg (x3 + (1 : Int32)))), .ref a1] μ else ex PG E lo d 312 1675 [some (.ref a0), some (.ref a1), some (.ref a2), some (.int x3)] [.int (ri μ a0 (Int32.toNatClampNeg (x3 + (4 : Int32)))), .int (ri μ a0 (Int32.toNatClampNeg (x3 + (3 : Int32)))), .int (ri μ a0 (Int32.toNatClampNeg (x3 + (2 : Int32)))), .int (ri μ a0 (Int32.toNatClampNeg (x3 + (1 : Int32)))), .ref a1] μ))))) := (x_aload_n (n := 1) (pc := 1646) mI312 li_1646 rfl).trans ((x_aload_n (n := 0) (pc := 1647) mI312 li_1647 rfl).trans ((x_iload_n (n := 3) (pc := 1648) mI312 li_1648 rfl).trans ((x_iconst (pc := 1649) mI312 li_1649 ic1).trans ((x_iadd (pc := 1650) mI312 li_1650).trans ((x_iald (pc := 1651) mI312 li_1651).trans (congrArg (rdA μ a0 0 (x3 + (1 : Int32))) ((x_aload_n (n := 0) (pc := 1652) mI312 li_1652 rfl).trans ((x_iload_n (n := 3) (pc := 1653) mI312 li_1653 rfl).trans ((x_iconst (pc := 1654) mI312 li_1654 ic2).trans ((x_iadd (pc := 1655) mI312 li_1655).trans ((x_iald (pc := 1656) mI312 li_1656).trans (congrArg (rdA μ a0 0 (x3 + (2 : Int32))) ((x_aload_n (n := 0) (pc := 1657) mI312 li_1657 rfl).trans ((x_iload_n (n := 3) (pc := 1658) mI312 li_1658 rfl).trans ((x_iconst (pc := 1659) mI312 li_1659 ic3).trans ((x_iadd (pc := 1660) mI312 li_1660).trans ((x_iald (pc := 1661) mI312 li_1661).trans (congrArg (rdA μ a0 0 (x3 + (3 : Int32))) ((x_aload_n (n := 0) (pc := 1662) mI312 li_1662 rfl).trans ((x_iload_n (n := 3) (pc := 1663) mI312 li_1663 rfl).trans ((x_iconst (pc := 1664) mI312 li_1664 ic4).trans ((x_iadd (pc := 1665) mI312 li_1665).trans ((x_iald (pc := 1666) mI312 li_1666).trans (congrArg (rdA μ a0 0 (x3 + (4 : Int32))) ((x_aload_n (n := 0) (pc := 1667) mI312 li_1667 rfl).trans ((x_iload_n (n := 3) (pc := 1668) mI312 li_1668 rfl).trans ((x_iconst (pc := 1669) mI312 li_1669 ic5).trans ((x_iadd (pc := 1670) mI312 li_1670).trans ((x_iald (pc := 1671) mI312 li_1671).trans (congrArg (rdA μ a0 0 (x3 + (5 : Int32))) (x_ifeq (t := 1679) (pc := 1672) mI312 li_1672 (by decide))))))))))))))))))))))))))))))))
set_option maxRecDepth 20000 in
theorem b312_1675 {E : (Nat → Value) × (Nat → Nat)} {lo d : Nat} {μ : rM} (a0 : Nat) (a1 : Nat) (a2 : Nat) (x3 : Int32) (c0 : Nat) (y1 : Int32) (y2 : Int32) (y3 : Int32) (y4 : Int32) : ex PG E lo d 312 1675 [some (.ref a0), some (.ref a1), some (.ref a2), some (.int x3)] [.int y4, .int y3, .int y2, .int y1, .ref c0] μ = ex PG E lo d 312 1680 [some (.ref a0), some (.ref a1), some (.ref a2), some (.int x3)] [.int (1 : Int32), .int y4, .int y3, .int y2, .int y1, .ref c0] μ := (x_iconst (pc := 1675) mI312 li_1675 ic1).trans (x_goto (t := 1680) (pc := 1676) mI312 li_1676 (by decide))
set_option maxRecDepth 20000 in
theorem b312_1679 {E : (Nat → Value) × (Nat → Nat)} {lo d : Nat} {μ : rM} (a0 : Nat) (a1 : Nat) (a2 : Nat) (x3 : Int32) (c0 : Nat) (y1 : Int32) (y2 : Int32) (y3 : Int32) (y4 : Int32) : ex PG E lo d 312 1679 [some (.ref a0), some (.ref a1), some (.ref a2), some (.int x3)] [.int y4, .int y3, .int y2, .int y1, .ref c0] μ = ex PG E lo d 312 1680 [some (.ref a0), some (.ref a1), some (.ref a2), some (.int x3)] [.int (0 : Int32), .int y4, .int y3, .int y2, .int y1, .ref c0] μ := x_iconst (pc := 1679) mI312 li_1679 ic0
set_option maxRecDepth 20000 in
theorem b312_1680 {E : (Nat → Value) × (Nat → Nat)} {lo d : Nat} {μ : rM} (a0 : Nat) (a1 : Nat) (a2 : Nat) (x3 : Int32) (c0 : Nat) (y1 : Int32) (y2 : Int32) (y3 : Int32) (y4 : Int32) (y5 : Int32) : ex PG E lo d 312 1680 [some (.ref a0), some (.ref a1), some (.ref a2), some (.int x3)] [.int y5, .int y4, .int y3, .int y2, .int y1, .ref c0] μ = gO μ c0 11 ((cl E lo d 155 [.ref c0, .int y1, .int y2, .int y3, .int y4, .int y5] μ).bind fun z => ex PG E lo d 312 1683 [some (.ref a0), some (.ref a1), some (.ref a2), some (.int x3)] (z.1.toList ++ []) z.2) := x_invV (i := 140) (j := 155) (n := 5) (c := 11) (pc := 1680) mI312 li_1680 rfl rfl rfl rfl
set_option maxRecDepth 20000 in
theorem b312_1683 {E : (Nat → Value) × (Nat → Nat)} {lo d : Nat} {μ : rM} (a0 : Nat) (a1 : Nat) (a2 : Nat) (x3 : Int32) (y0 : Int32) : ex PG E lo d 312 1683 [some (.ref a0), some (.ref a1), some (.ref a2), some (.int x3)] [.int y0] μ = rdA μ a0 0 (x3 + (1 : Int32)) (rdA μ a0 0 (x3 + (2 : Int32)) (rdA μ a0 0 (x3 + (3 : Int32)) (rdA μ a0 0 (x3 + (4 : Int32)) (rdA μ a0 0 (x3 + (5 : Int32)) (if (ri μ a0 (Int32.toNatClampNeg (x3 + (5 : Int32)))) = (0 : Int32) then ex PG E lo d 312 1716 [some (.ref a0), some (.ref a1), some (.ref a2), some (.int x3)] [.int (ri μ a0 (Int32.toNatClampNeg (x3 + (4 : Int32)))), .int (ri μ a0 (Int32.toNatClampNeg (x3 + (3 : Int32)))), .int (ri μ a0 (Int32.toNatClampNeg (x3 + (2 : Int32)))), .int (ri μ a0 (Int32.toNatClampNeg (x3 + (1 : Int32)))), .ref a2, .int y0] μ else ex PG E lo d 312 1712 [some (.ref a0), some (.ref a1), some (.ref a2), some (.int x3)] [.int (ri μ a0 (Int32.toNatClampNeg (x3 + (4 : Int32)))), .int (ri μ a0 (Int32.toNatClampNeg (x3 + (3 : Int32)))), .int (ri μ a0 (Int32.toNatClampNeg (x3 + (2 : Int32)))), .int (ri μ a0 (Int32.toNatClampNeg (x3 + (1 : Int32)))), .ref a2, .int y0] μ))))) := (x_aload_n (n := 2) (pc := 1683) mI312 li_1683 rfl).trans ((x_aload_n (n := 0) (pc := 1684) mI312 li_1684 rfl).trans ((x_iload_n (n := 3) (pc := 1685) mI312 li_1685 rfl).trans ((x_iconst (pc := 1686) mI312 li_1686 ic1).trans ((x_iadd (pc := 1687) mI312 li_1687).trans ((x_iald (pc := 1688) mI312 li_1688).trans (congrArg (rdA μ a0 0 (x3 + (1 : Int32))) ((x_aload_n (n := 0) (pc := 1689) mI312 li_1689 rfl).trans ((x_iload_n (n := 3) (pc := 1690) mI312 li_1690 rfl).trans ((x_iconst (pc := 1691) mI312 li_1691 ic2).trans ((x_iadd (pc := 1692) mI312 li_1692).trans ((x_iald (pc := 1693) mI312 li_1693).trans (congrArg (rdA μ a0 0 (x3 + (2 : Int32))) ((x_aload_n (n := 0) (pc := 1694) mI312 li_1694 rfl).trans ((x_iload_n (n := 3) (pc := 1695) mI312 li_1695 rfl).trans ((x_iconst (pc := 1696) mI312 li_1696 ic3).trans ((x_iadd (pc := 1697) mI312 li_1697).trans ((x_iald (pc := 1698) mI312 li_1698).trans (congrArg (rdA μ a0 0 (x3 + (3 : Int32))) ((x_aload_n (n := 0) (pc := 1699) mI312 li_1699 rfl).trans ((x_iload_n (n := 3) (pc := 1700) mI312 li_1700 rfl).trans ((x_iconst (pc := 1701) mI312 li_1701 ic4).trans ((x_iadd (pc := 1702) mI312 li_1702).trans ((x_iald (pc := 1703) mI312 li_1703).trans (congrArg (rdA μ a0 0 (x3 + (4 : Int32))) ((x_aload_n (n := 0) (pc := 1704) mI312 li_1704 rfl).trans ((x_iload_n (n := 3) (pc := 1705) mI312 li_1705 rfl).trans ((x_iconst (pc := 1706) mI312 li_1706 ic5).trans ((x_iadd (pc := 1707) mI312 li_1707).trans ((x_iald (pc := 1708) mI312 li_1708).trans (congrArg (rdA μ a0 0 (x3 + (5 : Int32))) (x_ifeq (t := 1716) (pc := 1709) mI312 li_1709 (by decide))))))))))))))))))))))))))))))))
set_option maxRecDepth 20000 in
theorem b312_1712 {E : (Nat → Value) × (Nat → Nat)} {lo d : Nat} {μ : rM} (a0 : Nat) (a1 : Nat) (a2 : Nat) (x3 : Int32) (y0 : Int32) (c1 : Nat) (y2 : Int32) (y3 : Int32) (y4 : Int32) (y5 : Int32) : ex PG E lo d 312 1712 [some (.ref a0), some (.ref a1), some (.ref a2), some (.int x3)] [.int y5, .int y4, .int y3, .int y2, .ref c1, .int y0] μ = ex PG E lo d 312 1717 [some (.ref a0), some (.ref a1), some (.ref a2), some (.int x3)] [.int (1 : Int32), .int y5, .int y4, .int y3, .int y2, .ref c1, .int y0] μ := (x_iconst (pc := 1712) mI312 li_1712 ic1).trans (x_goto (t := 1717) (pc := 1713) mI312 li_1713 (by decide))
set_option maxRecDepth 20000 in
theorem b312_1716 {E : (Nat → Value) × (Nat → Nat)} {lo d : Nat} {μ : rM} (a0 : Nat) (a1 : Nat) (a2 : Nat) (x3 : Int32) (y0 : Int32) (c1 : Nat) (y2 : Int32) (y3 : Int32) (y4 : Int32) (y5 : Int32) : ex PG E lo d 312 1716 [some (.ref a0), some (.ref a1), some (.ref a2), some (.int x3)] [.int y5, .int y4, .int y3, .int y2, .ref c1, .int y0] μ = ex PG E lo d 312 1717 [some (.ref a0), some (.ref a1), some (.ref a2), some (.int x3)] [.int (0 : Int32), .int y5, .int y4, .int y3, .int y2, .ref c1, .int y0] μ := x_iconst (pc := 1716) mI312 li_1716 ic0
set_option maxRecDepth 20000 in
theorem b312_1717 {E : (Nat → Value) × (Nat → Nat)} {lo d : Nat} {μ : rM} (a0 : Nat) (a1 : Nat) (a2 : Nat) (x3 : Int32) (y0 : Int32) (c1 : Nat) (y2 : Int32) (y3 : Int32) (y4 : Int32) (y5 : Int32) (y6 : Int32) : ex PG E lo d 312 1717 [some (.ref a0), some (.ref a1), some (.ref a2), some (.int x3)] [.int y6, .int y5, .int y4, .int y3, .int y2, .ref c1, .int y0] μ = gO μ c1 12 ((cl E lo d 275 [.ref c1, .int y2, .int y3, .int y4, .int y5, .int y6] μ).bind fun z => ex PG E lo d 312 1720 [some (.ref a0), some (.ref a1), some (.ref a2), some (.int x3)] (z.1.toList ++ [.int y0]) z.2) := x_invV (i := 143) (j := 275) (n := 5) (c := 12) (pc := 1717) mI312 li_1717 rfl rfl rfl rfl
set_option maxRecDepth 20000 in
theorem b312_1720 {E : (Nat → Value) × (Nat → Nat)} {lo d : Nat} {μ : rM} (a0 : Nat) (a1 : Nat) (a2 : Nat) (x3 : Int32) (y0 : Int32) (y1 : Int32) : ex PG E lo d 312 1720 [some (.ref a0), some (.ref a1), some (.ref a2), some (.int x3)] [.int y1, .int y0] μ = if y0 = y1 then ex PG E lo d 312 1827 [some (.ref a0), some (.ref a1), some (.ref a2), some (.int x3)] [] μ else ex PG E lo d 312 1723 [some (.ref a0), some (.ref a1), some (.ref a2), some (.int x3)] [] μ := x_cmpeq (t := 1827) (pc := 1720) mI312 li_1720 (by decide)
set_option maxRecDepth 20000 in
theorem b312_1723 {E : (Nat → Value) × (Nat → Nat)} {lo d : Nat} {μ : rM} (a0 : Nat) (a1 : Nat) (a2 : Nat) (x3 : Int32) : ex PG E lo d 312 1723 [some (.ref a0), some (.ref a1), some (.ref a2), some (.int x3)] [] μ = if (0 : Int32) = 0 ∨ (0 : Int32) = 1 then some (some (.int (0 : Int32)), μ) else none := (x_iconst (pc := 1723) mI312 li_1723 ic0).trans (x_zret (pc := 1724) mI312 li_1724 rfl)
set_option maxRecDepth 20000 in
theorem b312_1725 {E : (Nat → Value) × (Nat → Nat)} {lo d : Nat} {μ : rM} (a0 : Nat) (a1 : Nat) (a2 : Nat) (x3 : Int32) : ex PG E lo d 312 1725 [some (.ref a0), some (.ref a1), some (.ref a2), some (.int x3)] [] μ = rdA μ a0 0 (x3 + (1 : Int32)) (rdA μ a0 0 (x3 + (2 : Int32)) (gO μ a1 11 ((cl E lo d 156 [.ref a1, .int (ri μ a0 (Int32.toNatClampNeg (x3 + (1 : Int32)))), .int (ri μ a0 (Int32.toNatClampNeg (x3 + (2 : Int32))))] μ).bind fun z => ex PG E lo d 312 1739 [some (.ref a0), some (.ref a1), some (.ref a2), some (.int x3)] (z.1.toList ++ []) z.2))) := (x_aload_n (n := 1) (pc := 1725) mI312 li_1725 rfl).trans ((x_aload_n (n := 0) (pc := 1726) mI312 li_1726 rfl).trans ((x_iload_n (n := 3) (pc := 1727) mI312 li_1727 rfl).trans ((x_iconst (pc := 1728) mI312 li_1728 ic1).trans ((x_iadd (pc := 1729) mI312 li_1729).trans ((x_iald (pc := 1730) mI312 li_1730).trans (congrArg (rdA μ a0 0 (x3 + (1 : Int32))) ((x_aload_n (n := 0) (pc := 1731) mI312 li_1731 rfl).trans ((x_iload_n (n := 3) (pc := 1732) mI312 li_1732 rfl).trans ((x_iconst (pc := 1733) mI312 li_1733 ic2).trans ((x_iadd (pc := 1734) mI312 li_1734).trans ((x_iald (pc := 1735) mI312 li_1735).trans (congrArg (rdA μ a0 0 (x3 + (2 : Int32))) (x_invV (i := 144) (j := 156) (n := 2) (c := 11) (pc := 1736) mI312 li_1736 rfl rfl rfl rfl)))))))))))))
set_option maxRecDepth 20000 in
theorem b312_1739 {E : (Nat → Value) × (Nat → Nat)} {lo d : Nat} {μ : rM} (a0 : Nat) (a1 : Nat) (a2 : Nat) (x3 : Int32) (y0 : Int32) : ex PG E lo d 312 1739 [some (.ref a0), some (.ref a1), some (.ref a2), some (.int x3)] [.int y0] μ = rdA μ a0 0 (x3 + (1 : Int32)) (rdA μ a0 0 (x3 + (2 : Int32)) (gO μ a2 12 ((cl E lo d 277 [.ref a2, .int (ri μ a0 (Int32.toNatClampNeg (x3 + (1 : Int32)))), .int (ri μ a0 (Int32.toNatClampNeg (x3 + (2 : Int32))))] μ).bind fun z => ex PG E lo d 312 1753 [some (.ref a0), some (.ref a1), some (.ref a2), some (.int x3)] (z.1.toList ++ [.int y0]) z.2))) := (x_aload_n (n := 2) (pc := 1739) mI312 li_1739 rfl).trans ((x_aload_n (n := 0) (pc := 1740) mI312 li_1740 rfl).trans ((x_iload_n (n := 3) (pc := 1741) mI312 li_1741 rfl).trans ((x_iconst (pc := 1742) mI312 li_1742 ic1).trans ((x_iadd (pc := 1743) mI312 li_1743).trans ((x_iald (pc := 1744) mI312 li_1744).trans (congrArg (rdA μ a0 0 (x3 + (1 : Int32))) ((x_aload_n (n := 0) (pc := 1745) mI312 li_1745 rfl).trans ((x_iload_n (n := 3) (pc := 1746) mI312 li_1746 rfl).trans ((x_iconst (pc := 1747) mI312 li_1747 ic2).trans ((x_iadd (pc := 1748) mI312 li_1748).trans ((x_iald (pc := 1749) mI312 li_1749).trans (congrArg (rdA μ a0 0 (x3 + (2 : Int32))) (x_invV (i := 147) (j := 277) (n := 2) (c := 12) (pc := 1750) mI312 li_1750 rfl rfl rfl rfl)))))))))))))
set_option maxRecDepth 20000 in
theorem b312_1753 {E : (Nat → Value) × (Nat → Nat)} {lo d : Nat} {μ : rM} (a0 : Nat) (a1 : Nat) (a2 : Nat) (x3 : Int32) (y0 : Int32) (y1 : Int32) : ex PG E lo d 312 1753 [some (.ref a0), some (.ref a1), some (.ref a2), some (.int x3)] [.int y1, .int y0] μ = if y0 = y1 then ex PG E lo d 312 1827 [some (.ref a0), some (.ref a1), some (.ref a2), some (.int x3)] [] μ else ex PG E lo d 312 1756 [some (.ref a0), some (.ref a1), some (.ref a2), some (.int x3)] [] μ := x_cmpeq (t := 1827) (pc := 1753) mI312 li_1753 (by decide)
set_option maxRecDepth 20000 in
theorem b312_1756 {E : (Nat → Value) × (Nat → Nat)} {lo d : Nat} {μ : rM} (a0 : Nat) (a1 : Nat) (a2 : Nat) (x3 : Int32) : ex PG E lo d 312 1756 [some (.ref a0), some (.ref a1), some (.ref a2), some (.int x3)] [] μ = if (0 : Int32) = 0 ∨ (0 : Int32) = 1 then some (some (.int (0 : Int32)), μ) else none := (x_iconst (pc := 1756) mI312 li_1756 ic0).trans (x_zret (pc := 1757) mI312 li_1757 rfl)
set_option maxRecDepth 20000 in
theorem b312_1758 {E : (Nat → Value) × (Nat → Nat)} {lo d : Nat} {μ : rM} (a0 : Nat) (a1 : Nat) (a2 : Nat) (x3 : Int32) : ex PG E lo d 312 1758 [some (.ref a0), some (.ref a1), some (.ref a2), some (.int x3)] [] μ = rdA μ a0 0 (x3 + (1 : Int32)) (gO μ a1 11 ((cl E lo d 157 [.ref a1, .int (ri μ a0 (Int32.toNatClampNeg (x3 + (1 : Int32))))] μ).bind fun z => ex PG E lo d 312 1767 [some (.ref a0), some (.ref a1), some (.ref a2), some (.int x3)] (z.1.toList ++ []) z.2)) := (x_aload_n (n := 1) (pc := 1758) mI312 li_1758 rfl).trans ((x_aload_n (n := 0) (pc := 1759) mI312 li_1759 rfl).trans ((x_iload_n (n := 3) (pc := 1760) mI312 li_1760 rfl).trans ((x_iconst (pc := 1761) mI312 li_1761 ic1).trans ((x_iadd (pc := 1762) mI312 li_1762).trans ((x_iald (pc := 1763) mI312 li_1763).trans (congrArg (rdA μ a0 0 (x3 + (1 : Int32))) (x_invV (i := 148) (j := 157) (n := 1) (c := 11) (pc := 1764) mI312 li_1764 rfl rfl rfl rfl)))))))
set_option maxRecDepth 20000 in
theorem b312_1767 {E : (Nat → Value) × (Nat → Nat)} {lo d : Nat} {μ : rM} (a0 : Nat) (a1 : Nat) (a2 : Nat) (x3 : Int32) (y0 : Int32) : ex PG E lo d 312 1767 [some (.ref a0), some (.ref a1), some (.ref a2), some (.int x3)] [.int y0] μ = rdA μ a0 0 (x3 + (1 : Int32)) (gO μ a2 12 ((cl E lo d 278 [.ref a2, .int (ri μ a0 (Int32.toNatClampNeg (x3 + (1 : Int32))))] μ).bind fun z => ex PG E lo d 312 1776 [some (.ref a0), some (.ref a1), some (.ref a2), some (.int x3)] (z.1.toList ++ [.int y0]) z.2)) := (x_aload_n (n := 2) (pc := 1767) mI312 li_1767 rfl).trans ((x_aload_n (n := 0) (pc := 1768) mI312 li_1768 rfl).trans ((x_iload_n (n := 3) (pc := 1769) mI312 li_1769 rfl).trans ((x_iconst (pc := 1770) mI312 li_1770 ic1).trans ((x_iadd (pc := 1771) mI312 li_1771).trans ((x_iald (pc := 1772) mI312 li_1772).trans (congrArg (rdA μ a0 0 (x3 + (1 : Int32))) (x_invV (i := 151) (j := 278) (n := 1) (c := 12) (pc := 1773) mI312 li_1773 rfl rfl rfl rfl)))))))
set_option maxRecDepth 20000 in
theorem b312_1776 {E : (Nat → Value) × (Nat → Nat)} {lo d : Nat} {μ : rM} (a0 : Nat) (a1 : Nat) (a2 : Nat) (x3 : Int32) (y0 : Int32) (y1 : Int32) : ex PG E lo d 312 1776 [some (.ref a0), some (.ref a1), some (.ref a2), some (.int x3)] [.int y1, .int y0] μ = if y0 = y1 then ex PG E lo d 312 1827 [some (.ref a0), some (.ref a1), some (.ref a2), some (.int x3)] [] μ else ex PG E lo d 312 1779 [some (.ref a0), some (.ref a1), some (.ref a2), some (.int x3)] [] μ := x_cmpeq (t := 1827) (pc := 1776) mI312 li_1776 (by decide)
set_option maxRecDepth 20000 in
theorem b312_1779 {E : (Nat → Value) × (Nat → Nat)} {lo d : Nat} {μ : rM} (a0 : Nat) (a1 : Nat) (a2 : Nat) (x3 : Int32) : ex PG E lo d 312 1779 [some (.ref a0), some (.ref a1), some (.ref a2), some (.int x3)] [] μ = if (0 : Int32) = 0 ∨ (0 : Int32) = 1 then some (some (.int (0 : Int32)), μ) else none := (x_iconst (pc := 1779) mI312 li_1779 ic0).trans (x_zret (pc := 1780) mI312 li_1780 rfl)
set_option maxRecDepth 20000 in
theorem b312_1781 {E : (Nat → Value) × (Nat → Nat)} {lo d : Nat} {μ : rM} (a0 : Nat) (a1 : Nat) (a2 : Nat) (x3 : Int32) : ex PG E lo d 312 1781 [some (.ref a0), some (.ref a1), some (.ref a2), some (.int x3)] [] μ = rdA μ a0 0 (x3 + (1 : Int32)) (gO μ a1 11 ((cl E lo d 158 [.ref a1, .int (ri μ a0 (Int32.toNatClampNeg (x3 + (1 : Int32))))] μ).bind fun z => ex PG E lo d 312 1790 [some (.ref a0), some (.ref a1), some (.ref a2), some (.int x3)] (z.1.toList ++ []) z.2)) := (x_aload_n (n := 1) (pc := 1781) mI312 li_1781 rfl).trans ((x_aload_n (n := 0) (pc := 1782) mI312 li_1782 rfl).trans ((x_iload_n (n := 3) (pc := 1783) mI312 li_1783 rfl).trans ((x_iconst (pc := 1784) mI312 li_1784 ic1).trans ((x_iadd (pc := 1785) mI312 li_1785).trans ((x_iald (pc := 1786) mI312 li_1786).trans (congrArg (rdA μ a0 0 (x3 + (1 : Int32))) (x_invV (i := 152) (j := 158) (n := 1) (c := 11) (pc := 1787) mI312 li_1787 rfl rfl rfl rfl)))))))
set_option maxRecDepth 20000 in
theorem b312_1790 {E : (Nat → Value) × (Nat → Nat)} {lo d : Nat} {μ : rM} (a0 : Nat) (a1 : Nat) (a2 : Nat) (x3 : Int32) (y0 : Int32) : ex PG E lo d 312 1790 [some (.ref a0), some (.ref a1), some (.ref a2), some (.int x3)] [.int y0] μ = rdA μ a0 0 (x3 + (1 : Int32)) (gO μ a2 12 ((cl E lo d 279 [.ref a2, .int (ri μ a0 (Int32.toNatClampNeg (x3 + (1 : Int32))))] μ).bind fun z => ex PG E lo d 312 1799 [some (.ref a0), some (.ref a1), some (.ref a2), some (.int x3)] (z.1.toList ++ [.int y0]) z.2)) := (x_aload_n (n := 2) (pc := 1790) mI312 li_1790 rfl).trans ((x_aload_n (n := 0) (pc := 1791) mI312 li_1791 rfl).trans ((x_iload_n (n := 3) (pc := 1792) mI312 li_1792 rfl).trans ((x_iconst (pc := 1793) mI312 li_1793 ic1).trans ((x_iadd (pc := 1794) mI312 li_1794).trans ((x_iald (pc := 1795) mI312 li_1795).trans (congrArg (rdA μ a0 0 (x3 + (1 : Int32))) (x_invV (i := 156) (j := 279) (n := 1) (c := 12) (pc := 1796) mI312 li_1796 rfl rfl rfl rfl)))))))
set_option maxRecDepth 20000 in
theorem b312_1799 {E : (Nat → Value) × (Nat → Nat)} {lo d : Nat} {μ : rM} (a0 : Nat) (a1 : Nat) (a2 : Nat) (x3 : Int32) (y0 : Int32) (y1 : Int32) : ex PG E lo d 312 1799 [some (.ref a0), some (.ref a1), some (.ref a2), some (.int x3)] [.int y1, .int y0] μ = if y0 = y1 then ex PG E lo d 312 1827 [some (.ref a0), some (.ref a1), some (.ref a2), some (.int x3)] [] μ else ex PG E lo d 312 1802 [some (.ref a0), some (.ref a1), some (.ref a2), some (.int x3)] [] μ := x_cmpeq (t := 1827) (pc := 1799) mI312 li_1799 (by decide)
set_option maxRecDepth 20000 in
theorem b312_1802 {E : (Nat → Value) × (Nat → Nat)} {lo d : Nat} {μ : rM} (a0 : Nat) (a1 : Nat) (a2 : Nat) (x3 : Int32) : ex PG E lo d 312 1802 [some (.ref a0), some (.ref a1), some (.ref a2), some (.int x3)] [] μ = if (0 : Int32) = 0 ∨ (0 : Int32) = 1 then some (some (.int (0 : Int32)), μ) else none := (x_iconst (pc := 1802) mI312 li_1802 ic0).trans (x_zret (pc := 1803) mI312 li_1803 rfl)
set_option maxRecDepth 20000 in
theorem b312_1804 {E : (Nat → Value) × (Nat → Nat)} {lo d : Nat} {μ : rM} (a0 : Nat) (a1 : Nat) (a2 : Nat) (x3 : Int32) : ex PG E lo d 312 1804 [some (.ref a0), some (.ref a1), some (.ref a2), some (.int x3)] [] μ = rdA μ a0 0 (x3 + (1 : Int32)) (gO μ a1 11 ((cl E lo d 159 [.ref a1, .int (ri μ a0 (Int32.toNatClampNeg (x3 + (1 : Int32))))] μ).bind fun z => ex PG E lo d 312 1813 [some (.ref a0), some (.ref a1), some (.ref a2), some (.int x3)] (z.1.toList ++ []) z.2)) := (x_aload_n (n := 1) (pc := 1804) mI312 li_1804 rfl).trans ((x_aload_n (n := 0) (pc := 1805) mI312 li_1805 rfl).trans ((x_iload_n (n := 3) (pc := 1806) mI312 li_1806 rfl).trans ((x_iconst (pc := 1807) mI312 li_1807 ic1).trans ((x_iadd (pc := 1808) mI312 li_1808).trans ((x_iald (pc := 1809) mI312 li_1809).trans (congrArg (rdA μ a0 0 (x3 + (1 : Int32))) (x_invV (i := 157) (j := 159) (n := 1) (c := 11) (pc := 1810) mI312 li_1810 rfl rfl rfl rfl)))))))
set_option maxRecDepth 20000 in
theorem b312_1813 {E : (Nat → Value) × (Nat → Nat)} {lo d : Nat} {μ : rM} (a0 : Nat) (a1 : Nat) (a2 : Nat) (x3 : Int32) (y0 : Int32) : ex PG E lo d 312 1813 [some (.ref a0), some (.ref a1), some (.ref a2), some (.int x3)] [.int y0] μ = rdA μ a0 0 (x3 + (1 : Int32)) (gO μ a2 12 ((cl E lo d 280 [.ref a2, .int (ri μ a0 (Int32.toNatClampNeg (x3 + (1 : Int32))))] μ).bind fun z => ex PG E lo d 312 1822 [some (.ref a0), some (.ref a1), some (.ref a2), some (.int x3)] (z.1.toList ++ [.int y0]) z.2)) := (x_aload_n (n := 2) (pc := 1813) mI312 li_1813 rfl).trans ((x_aload_n (n := 0) (pc := 1814) mI312 li_1814 rfl).trans ((x_iload_n (n := 3) (pc := 1815) mI312 li_1815 rfl).trans ((x_iconst (pc := 1816) mI312 li_1816 ic1).trans ((x_iadd (pc := 1817) mI312 li_1817).trans ((x_iald (pc := 1818) mI312 li_1818).trans (congrArg (rdA μ a0 0 (x3 + (1 : Int32))) (x_invV (i := 160) (j := 280) (n := 1) (c := 12) (pc := 1819) mI312 li_1819 rfl rfl rfl rfl)))))))
set_option maxRecDepth 20000 in
theorem b312_1822 {E : (Nat → Value) × (Nat → Nat)} {lo d : Nat} {μ : rM} (a0 : Nat) (a1 : Nat) (a2 : Nat) (x3 : Int32) (y0 : Int32) (y1 : Int32) : ex PG E lo d 312 1822 [some (.ref a0), some (.ref a1), some (.ref a2), some (.int x3)] [.int y1, .int y0] μ = if y0 = y1 then ex PG E lo d 312 1827 [some (.ref a0), some (.ref a1), some (.ref a2), some (.int x3)] [] μ else ex PG E lo d 312 1825 [some (.ref a0), some (.ref a1), some (.ref a2), some (.int x3)] [] μ := x_cmpeq (t := 1827) (pc := 1822) mI312 li_1822 (by decide)
set_option maxRecDepth 20000 in
theorem b312_1825 {E : (Nat → Value) × (Nat → Nat)} {lo d : Nat} {μ : rM} (a0 : Nat) (a1 : Nat) (a2 : Nat) (x3 : Int32) : ex PG E lo d 312 1825 [some (.ref a0), some (.ref a1), some (.ref a2), some (.int x3)] [] μ = if (0 : Int32) = 0 ∨ (0 : Int32) = 1 then some (some (.int (0 : Int32)), μ) else none := (x_iconst (pc := 1825) mI312 li_1825 ic0).trans (x_zret (pc := 1826) mI312 li_1826 rfl)
set_option maxRecDepth 20000 in
theorem b312_1827 {E : (Nat → Value) × (Nat → Nat)} {lo d : Nat} {μ : rM} (a0 : Nat) (a1 : Nat) (a2 : Nat) (x3 : Int32) : ex PG E lo d 312 1827 [some (.ref a0), some (.ref a1), some (.ref a2), some (.int x3)] [] μ = ex PG E lo d 312 18 [some (.ref a0), some (.ref a1), some (.ref a2), some (.int (x3 + (7 : Int32)))] [] μ := (x_iinc (ls' := [some (.ref a0), some (.ref a1), some (.ref a2), some (.int (x3 + (7 : Int32)))]) (pc := 1827) mI312 li_1827 rfl rfl ic7 rfl).trans (x_goto (t := 18) (pc := 1830) mI312 li_1830 (by decide))
set_option maxRecDepth 20000 in
theorem b312_1833 {E : (Nat → Value) × (Nat → Nat)} {lo d : Nat} {μ : rM} (a0 : Nat) (a1 : Nat) (a2 : Nat) (x3 : Int32) : ex PG E lo d 312 1833 [some (.ref a0), some (.ref a1), some (.ref a2), some (.int x3)] [] μ = if (1 : Int32) = 0 ∨ (1 : Int32) = 1 then some (some (.int (1 : Int32)), μ) else none := (x_iconst (pc := 1833) mI312 li_1833 ic1).trans (x_zret (pc := 1834) mI312 li_1834 rfl)
