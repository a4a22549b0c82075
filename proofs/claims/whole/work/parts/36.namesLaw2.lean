/-! the law's own names -/
theorem d_law_0 : decode code 0 = .ok (.new 8, 3) := by decide +kernel
theorem d_law_3 : decode code 3 = .ok (.dup, 1) := by decide +kernel
theorem d_law_4 : decode code 4 = .ok (.aload_n 0, 1) := by decide +kernel
theorem d_law_5 : decode code 5 = .ok (.iconst 0, 1) := by decide +kernel
theorem d_law_6 : decode code 6 = .ok (.invokestatic 56, 3) := by decide +kernel
theorem d_law_9 : decode code 9 = .ok (.invokespecial 62, 3) := by decide +kernel
theorem d_law_12 : decode code 12 = .ok (.astore_n 1, 1) := by decide +kernel
theorem d_law_13 : decode code 13 = .ok (.new 65, 3) := by decide +kernel
theorem d_law_16 : decode code 16 = .ok (.dup, 1) := by decide +kernel
theorem d_law_17 : decode code 17 = .ok (.aload_n 0, 1) := by decide +kernel
theorem d_law_18 : decode code 18 = .ok (.iconst 0, 1) := by decide +kernel
theorem d_law_19 : decode code 19 = .ok (.invokestatic 56, 3) := by decide +kernel
theorem d_law_22 : decode code 22 = .ok (.invokespecial 67, 3) := by decide +kernel
theorem d_law_25 : decode code 25 = .ok (.astore_n 2, 1) := by decide +kernel
theorem d_law_26 : decode code 26 = .ok (.iconst 1, 1) := by decide +kernel
theorem d_law_27 : decode code 27 = .ok (.newarray .long, 2) := by decide +kernel
theorem d_law_29 : decode code 29 = .ok (.astore_n 3, 1) := by decide +kernel
theorem d_law_30 : decode code 30 = .ok (.iconst 1, 1) := by decide +kernel
theorem d_law_31 : decode code 31 = .ok (.istore 4, 2) := by decide +kernel
theorem d_law_33 : decode code 33 = .ok (.iload 4, 2) := by decide +kernel
theorem d_law_35 : decode code 35 = .ok (.aload_n 0, 1) := by decide +kernel
theorem d_law_36 : decode code 36 = .ok (.arraylength, 1) := by decide +kernel
theorem d_law_37 : decode code 37 = .ok (.iconst 5, 1) := by decide +kernel
theorem d_law_38 : decode code 38 = .ok (.isub, 1) := by decide +kernel
theorem d_law_39 : decode code 39 = .ok (.if_icmp .gt (1018), 3) := by decide +kernel
theorem d_law_42 : decode code 42 = .ok (.aload_n 0, 1) := by decide +kernel
theorem d_law_43 : decode code 43 = .ok (.iload 4, 2) := by decide +kernel
theorem d_law_45 : decode code 45 = .ok (.iaload, 1) := by decide +kernel
theorem d_law_46 : decode code 46 = .ok (.bipush 15, 2) := by decide +kernel
theorem d_law_48 : decode code 48 = .ok (.iand, 1) := by decide +kernel
theorem d_law_49 : decode code 49 = .ok (.tableswitch (1002) 0 15 #[79, 159, 227, 295, 363, 419, 432, 445, 513, 581, 649, 729, 785, 877, 890, 946], 79) := by decide +kernel
theorem d_law_128 : decode code 128 = .ok (.aload_n 1, 1) := by decide +kernel
theorem d_law_129 : decode code 129 = .ok (.aload_n 0, 1) := by decide +kernel
theorem d_law_130 : decode code 130 = .ok (.iload 4, 2) := by decide +kernel
theorem d_law_132 : decode code 132 = .ok (.iconst 1, 1) := by decide +kernel
theorem d_law_133 : decode code 133 = .ok (.iadd, 1) := by decide +kernel
theorem d_law_134 : decode code 134 = .ok (.iaload, 1) := by decide +kernel
theorem d_law_135 : decode code 135 = .ok (.aload_n 0, 1) := by decide +kernel
theorem d_law_136 : decode code 136 = .ok (.iload 4, 2) := by decide +kernel
theorem d_law_138 : decode code 138 = .ok (.iconst 2, 1) := by decide +kernel
theorem d_law_139 : decode code 139 = .ok (.iadd, 1) := by decide +kernel
theorem d_law_140 : decode code 140 = .ok (.iaload, 1) := by decide +kernel
theorem d_law_141 : decode code 141 = .ok (.aload_n 0, 1) := by decide +kernel
theorem d_law_142 : decode code 142 = .ok (.iload 4, 2) := by decide +kernel
theorem d_law_144 : decode code 144 = .ok (.iconst 3, 1) := by decide +kernel
theorem d_law_145 : decode code 145 = .ok (.iadd, 1) := by decide +kernel
theorem d_law_146 : decode code 146 = .ok (.iaload, 1) := by decide +kernel
theorem d_law_147 : decode code 147 = .ok (.aload_n 3, 1) := by decide +kernel
theorem d_law_148 : decode code 148 = .ok (.invokestatic 68, 3) := by decide +kernel
theorem d_law_151 : decode code 151 = .ok (.istore 5, 2) := by decide +kernel
theorem d_law_153 : decode code 153 = .ok (.aload_n 2, 1) := by decide +kernel
theorem d_law_154 : decode code 154 = .ok (.aload_n 0, 1) := by decide +kernel
theorem d_law_155 : decode code 155 = .ok (.iload 4, 2) := by decide +kernel
theorem d_law_157 : decode code 157 = .ok (.iconst 1, 1) := by decide +kernel
theorem d_law_158 : decode code 158 = .ok (.iadd, 1) := by decide +kernel
theorem d_law_159 : decode code 159 = .ok (.iaload, 1) := by decide +kernel
theorem d_law_160 : decode code 160 = .ok (.aload_n 0, 1) := by decide +kernel
theorem d_law_161 : decode code 161 = .ok (.iload 4, 2) := by decide +kernel
theorem d_law_163 : decode code 163 = .ok (.iconst 2, 1) := by decide +kernel
theorem d_law_164 : decode code 164 = .ok (.iadd, 1) := by decide +kernel
theorem d_law_165 : decode code 165 = .ok (.iaload, 1) := by decide +kernel
theorem d_law_166 : decode code 166 = .ok (.aload_n 0, 1) := by decide +kernel
theorem d_law_167 : decode code 167 = .ok (.iload 4, 2) := by decide +kernel
theorem d_law_169 : decode code 169 = .ok (.iconst 3, 1) := by decide +kernel
theorem d_law_170 : decode code 170 = .ok (.iadd, 1) := by decide +kernel
theorem d_law_171 : decode code 171 = .ok (.iaload, 1) := by decide +kernel
theorem d_law_172 : decode code 172 = .ok (.invokevirtual 71, 3) := by decide +kernel
theorem d_law_175 : decode code 175 = .ok (.istore 6, 2) := by decide +kernel
theorem d_law_177 : decode code 177 = .ok (.aload_n 2, 1) := by decide +kernel
theorem d_law_178 : decode code 178 = .ok (.invokevirtual 72, 3) := by decide +kernel
theorem d_law_181 : decode code 181 = .ok (.iload 5, 2) := by decide +kernel
theorem d_law_183 : decode code 183 = .ok (.if_icmp .eq (5), 3) := by decide +kernel
theorem d_law_186 : decode code 186 = .ok (.iconst 0, 1) := by decide +kernel
theorem d_law_187 : decode code 187 = .ok (.ireturn, 1) := by decide +kernel
theorem d_law_188 : decode code 188 = .ok (.iload 5, 2) := by decide +kernel
theorem d_law_190 : decode code 190 = .ok (.ifCond .ne (15), 3) := by decide +kernel
theorem d_law_193 : decode code 193 = .ok (.aload_n 3, 1) := by decide +kernel
theorem d_law_194 : decode code 194 = .ok (.iconst 0, 1) := by decide +kernel
theorem d_law_195 : decode code 195 = .ok (.laload, 1) := by decide +kernel
theorem d_law_196 : decode code 196 = .ok (.iload 6, 2) := by decide +kernel
theorem d_law_198 : decode code 198 = .ok (.i2l, 1) := by decide +kernel
theorem d_law_199 : decode code 199 = .ok (.lcmp, 1) := by decide +kernel
theorem d_law_200 : decode code 200 = .ok (.ifCond .eq (5), 3) := by decide +kernel
theorem d_law_203 : decode code 203 = .ok (.iconst 0, 1) := by decide +kernel
theorem d_law_204 : decode code 204 = .ok (.ireturn, 1) := by decide +kernel
theorem d_law_205 : decode code 205 = .ok (.goto (846), 3) := by decide +kernel
theorem d_law_208 : decode code 208 = .ok (.aload_n 1, 1) := by decide +kernel
theorem d_law_209 : decode code 209 = .ok (.aload_n 0, 1) := by decide +kernel
theorem d_law_210 : decode code 210 = .ok (.iload 4, 2) := by decide +kernel
theorem d_law_212 : decode code 212 = .ok (.iconst 1, 1) := by decide +kernel
theorem d_law_213 : decode code 213 = .ok (.iadd, 1) := by decide +kernel
theorem d_law_214 : decode code 214 = .ok (.iaload, 1) := by decide +kernel
theorem d_law_215 : decode code 215 = .ok (.aload_n 0, 1) := by decide +kernel
theorem d_law_216 : decode code 216 = .ok (.iload 4, 2) := by decide +kernel
theorem d_law_218 : decode code 218 = .ok (.iconst 2, 1) := by decide +kernel
theorem d_law_219 : decode code 219 = .ok (.iadd, 1) := by decide +kernel
theorem d_law_220 : decode code 220 = .ok (.iaload, 1) := by decide +kernel
theorem d_law_221 : decode code 221 = .ok (.aload_n 3, 1) := by decide +kernel
theorem d_law_222 : decode code 222 = .ok (.invokestatic 76, 3) := by decide +kernel
theorem d_law_225 : decode code 225 = .ok (.istore 5, 2) := by decide +kernel
theorem d_law_227 : decode code 227 = .ok (.aload_n 2, 1) := by decide +kernel
theorem d_law_228 : decode code 228 = .ok (.aload_n 0, 1) := by decide +kernel
theorem d_law_229 : decode code 229 = .ok (.iload 4, 2) := by decide +kernel
theorem d_law_231 : decode code 231 = .ok (.iconst 1, 1) := by decide +kernel
theorem d_law_232 : decode code 232 = .ok (.iadd, 1) := by decide +kernel
theorem d_law_233 : decode code 233 = .ok (.iaload, 1) := by decide +kernel
theorem d_law_234 : decode code 234 = .ok (.aload_n 0, 1) := by decide +kernel
theorem d_law_235 : decode code 235 = .ok (.iload 4, 2) := by decide +kernel
theorem d_law_237 : decode code 237 = .ok (.iconst 2, 1) := by decide +kernel
theorem d_law_238 : decode code 238 = .ok (.iadd, 1) := by decide +kernel
theorem d_law_239 : decode code 239 = .ok (.iaload, 1) := by decide +kernel
theorem d_law_240 : decode code 240 = .ok (.invokevirtual 79, 3) := by decide +kernel
theorem d_law_243 : decode code 243 = .ok (.istore 6, 2) := by decide +kernel
theorem d_law_245 : decode code 245 = .ok (.aload_n 2, 1) := by decide +kernel
theorem d_law_246 : decode code 246 = .ok (.invokevirtual 72, 3) := by decide +kernel
theorem d_law_249 : decode code 249 = .ok (.iload 5, 2) := by decide +kernel
theorem d_law_251 : decode code 251 = .ok (.if_icmp .eq (5), 3) := by decide +kernel
theorem d_law_254 : decode code 254 = .ok (.iconst 0, 1) := by decide +kernel
theorem d_law_255 : decode code 255 = .ok (.ireturn, 1) := by decide +kernel
theorem d_law_256 : decode code 256 = .ok (.iload 5, 2) := by decide +kernel
theorem d_law_258 : decode code 258 = .ok (.ifCond .ne (15), 3) := by decide +kernel
theorem d_law_261 : decode code 261 = .ok (.aload_n 3, 1) := by decide +kernel
theorem d_law_262 : decode code 262 = .ok (.iconst 0, 1) := by decide +kernel
theorem d_law_263 : decode code 263 = .ok (.laload, 1) := by decide +kernel
theorem d_law_264 : decode code 264 = .ok (.iload 6, 2) := by decide +kernel
theorem d_law_266 : decode code 266 = .ok (.i2l, 1) := by decide +kernel
theorem d_law_267 : decode code 267 = .ok (.lcmp, 1) := by decide +kernel
theorem d_law_268 : decode code 268 = .ok (.ifCond .eq (5), 3) := by decide +kernel
theorem d_law_271 : decode code 271 = .ok (.iconst 0, 1) := by decide +kernel
theorem d_law_272 : decode code 272 = .ok (.ireturn, 1) := by decide +kernel
theorem d_law_273 : decode code 273 = .ok (.goto (778), 3) := by decide +kernel
theorem d_law_276 : decode code 276 = .ok (.aload_n 1, 1) := by decide +kernel
theorem d_law_277 : decode code 277 = .ok (.aload_n 0, 1) := by decide +kernel
theorem d_law_278 : decode code 278 = .ok (.iload 4, 2) := by decide +kernel
theorem d_law_280 : decode code 280 = .ok (.iconst 1, 1) := by decide +kernel
theorem d_law_281 : decode code 281 = .ok (.iadd, 1) := by decide +kernel
theorem d_law_282 : decode code 282 = .ok (.iaload, 1) := by decide +kernel
theorem d_law_283 : decode code 283 = .ok (.aload_n 0, 1) := by decide +kernel
theorem d_law_284 : decode code 284 = .ok (.iload 4, 2) := by decide +kernel
theorem d_law_286 : decode code 286 = .ok (.iconst 2, 1) := by decide +kernel
theorem d_law_287 : decode code 287 = .ok (.iadd, 1) := by decide +kernel
theorem d_law_288 : decode code 288 = .ok (.iaload, 1) := by decide +kernel
theorem d_law_289 : decode code 289 = .ok (.aload_n 3, 1) := by decide +kernel
theorem d_law_290 : decode code 290 = .ok (.invokestatic 80, 3) := by decide +kernel
theorem d_law_293 : decode code 293 = .ok (.istore 5, 2) := by decide +kernel
theorem d_law_295 : decode code 295 = .ok (.aload_n 2, 1) := by decide +kernel
theorem d_law_296 : decode code 296 = .ok (.aload_n 0, 1) := by decide +kernel
theorem d_law_297 : decode code 297 = .ok (.iload 4, 2) := by decide +kernel
theorem d_law_299 : decode code 299 = .ok (.iconst 1, 1) := by decide +kernel
theorem d_law_300 : decode code 300 = .ok (.iadd, 1) := by decide +kernel
theorem d_law_301 : decode code 301 = .ok (.iaload, 1) := by decide +kernel
theorem d_law_302 : decode code 302 = .ok (.aload_n 0, 1) := by decide +kernel
theorem d_law_303 : decode code 303 = .ok (.iload 4, 2) := by decide +kernel
theorem d_law_305 : decode code 305 = .ok (.iconst 2, 1) := by decide +kernel
theorem d_law_306 : decode code 306 = .ok (.iadd, 1) := by decide +kernel
theorem d_law_307 : decode code 307 = .ok (.iaload, 1) := by decide +kernel
theorem d_law_308 : decode code 308 = .ok (.invokevirtual 82, 3) := by decide +kernel
theorem d_law_311 : decode code 311 = .ok (.istore 6, 2) := by decide +kernel
theorem d_law_313 : decode code 313 = .ok (.aload_n 2, 1) := by decide +kernel
theorem d_law_314 : decode code 314 = .ok (.invokevirtual 72, 3) := by decide +kernel
theorem d_law_317 : decode code 317 = .ok (.iload 5, 2) := by decide +kernel
theorem d_law_319 : decode code 319 = .ok (.if_icmp .eq (5), 3) := by decide +kernel
theorem d_law_322 : decode code 322 = .ok (.iconst 0, 1) := by decide +kernel
theorem d_law_323 : decode code 323 = .ok (.ireturn, 1) := by decide +kernel
theorem d_law_324 : decode code 324 = .ok (.iload 5, 2) := by decide +kernel
theorem d_law_326 : decode code 326 = .ok (.ifCond .ne (15), 3) := by decide +kernel
theorem d_law_329 : decode code 329 = .ok (.aload_n 3, 1) := by decide +kernel
theorem d_law_330 : decode code 330 = .ok (.iconst 0, 1) := by decide +kernel
theorem d_law_331 : decode code 331 = .ok (.laload, 1) := by decide +kernel
theorem d_law_332 : decode code 332 = .ok (.iload 6, 2) := by decide +kernel
theorem d_law_334 : decode code 334 = .ok (.i2l, 1) := by decide +kernel
theorem d_law_335 : decode code 335 = .ok (.lcmp, 1) := by decide +kernel
theorem d_law_336 : decode code 336 = .ok (.ifCond .eq (5), 3) := by decide +kernel
theorem d_law_339 : decode code 339 = .ok (.iconst 0, 1) := by decide +kernel
theorem d_law_340 : decode code 340 = .ok (.ireturn, 1) := by decide +kernel
theorem d_law_341 : decode code 341 = .ok (.goto (710), 3) := by decide +kernel
theorem d_law_344 : decode code 344 = .ok (.aload_n 1, 1) := by decide +kernel
theorem d_law_345 : decode code 345 = .ok (.aload_n 0, 1) := by decide +kernel
theorem d_law_346 : decode code 346 = .ok (.iload 4, 2) := by decide +kernel
theorem d_law_348 : decode code 348 = .ok (.iconst 1, 1) := by decide +kernel
theorem d_law_349 : decode code 349 = .ok (.iadd, 1) := by decide +kernel
theorem d_law_350 : decode code 350 = .ok (.iaload, 1) := by decide +kernel
theorem d_law_351 : decode code 351 = .ok (.aload_n 0, 1) := by decide +kernel
theorem d_law_352 : decode code 352 = .ok (.iload 4, 2) := by decide +kernel
theorem d_law_354 : decode code 354 = .ok (.iconst 2, 1) := by decide +kernel
theorem d_law_355 : decode code 355 = .ok (.iadd, 1) := by decide +kernel
theorem d_law_356 : decode code 356 = .ok (.iaload, 1) := by decide +kernel
theorem d_law_357 : decode code 357 = .ok (.aload_n 3, 1) := by decide +kernel
theorem d_law_358 : decode code 358 = .ok (.invokestatic 83, 3) := by decide +kernel
theorem d_law_361 : decode code 361 = .ok (.istore 5, 2) := by decide +kernel
theorem d_law_363 : decode code 363 = .ok (.aload_n 2, 1) := by decide +kernel
theorem d_law_364 : decode code 364 = .ok (.aload_n 0, 1) := by decide +kernel
theorem d_law_365 : decode code 365 = .ok (.iload 4, 2) := by decide +kernel
theorem d_law_367 : decode code 367 = .ok (.iconst 1, 1) := by decide +kernel
theorem d_law_368 : decode code 368 = .ok (.iadd, 1) := by decide +kernel
theorem d_law_369 : decode code 369 = .ok (.iaload, 1) := by decide +kernel
theorem d_law_370 : decode code 370 = .ok (.aload_n 0, 1) := by decide +kernel
theorem d_law_371 : decode code 371 = .ok (.iload 4, 2) := by decide +kernel
theorem d_law_373 : decode code 373 = .ok (.iconst 2, 1) := by decide +kernel
theorem d_law_374 : decode code 374 = .ok (.iadd, 1) := by decide +kernel
theorem d_law_375 : decode code 375 = .ok (.iaload, 1) := by decide +kernel
theorem d_law_376 : decode code 376 = .ok (.invokevirtual 85, 3) := by decide +kernel
theorem d_law_379 : decode code 379 = .ok (.istore 6, 2) := by decide +kernel
theorem d_law_381 : decode code 381 = .ok (.aload_n 2, 1) := by decide +kernel
theorem d_law_382 : decode code 382 = .ok (.invokevirtual 72, 3) := by decide +kernel
theorem d_law_385 : decode code 385 = .ok (.iload 5, 2) := by decide +kernel
theorem d_law_387 : decode code 387 = .ok (.if_icmp .eq (5), 3) := by decide +kernel
theorem d_law_390 : decode code 390 = .ok (.iconst 0, 1) := by decide +kernel
theorem d_law_391 : decode code 391 = .ok (.ireturn, 1) := by decide +kernel
theorem d_law_392 : decode code 392 = .ok (.iload 5, 2) := by decide +kernel
theorem d_law_394 : decode code 394 = .ok (.ifCond .ne (15), 3) := by decide +kernel
theorem d_law_397 : decode code 397 = .ok (.aload_n 3, 1) := by decide +kernel
theorem d_law_398 : decode code 398 = .ok (.iconst 0, 1) := by decide +kernel
theorem d_law_399 : decode code 399 = .ok (.laload, 1) := by decide +kernel
theorem d_law_400 : decode code 400 = .ok (.iload 6, 2) := by decide +kernel
theorem d_law_402 : decode code 402 = .ok (.i2l, 1) := by decide +kernel
theorem d_law_403 : decode code 403 = .ok (.lcmp, 1) := by decide +kernel
theorem d_law_404 : decode code 404 = .ok (.ifCond .eq (5), 3) := by decide +kernel
theorem d_law_407 : decode code 407 = .ok (.iconst 0, 1) := by decide +kernel
theorem d_law_408 : decode code 408 = .ok (.ireturn, 1) := by decide +kernel
theorem d_law_409 : decode code 409 = .ok (.goto (642), 3) := by decide +kernel
theorem d_law_412 : decode code 412 = .ok (.aload_n 1, 1) := by decide +kernel
theorem d_law_413 : decode code 413 = .ok (.aload_n 0, 1) := by decide +kernel
theorem d_law_414 : decode code 414 = .ok (.iload 4, 2) := by decide +kernel
theorem d_law_416 : decode code 416 = .ok (.iconst 1, 1) := by decide +kernel
theorem d_law_417 : decode code 417 = .ok (.iadd, 1) := by decide +kernel
theorem d_law_418 : decode code 418 = .ok (.iaload, 1) := by decide +kernel
theorem d_law_419 : decode code 419 = .ok (.aload_n 3, 1) := by decide +kernel
theorem d_law_420 : decode code 420 = .ok (.invokestatic 86, 3) := by decide +kernel
theorem d_law_423 : decode code 423 = .ok (.istore 5, 2) := by decide +kernel
theorem d_law_425 : decode code 425 = .ok (.aload_n 2, 1) := by decide +kernel
theorem d_law_426 : decode code 426 = .ok (.aload_n 0, 1) := by decide +kernel
theorem d_law_427 : decode code 427 = .ok (.iload 4, 2) := by decide +kernel
theorem d_law_429 : decode code 429 = .ok (.iconst 1, 1) := by decide +kernel
theorem d_law_430 : decode code 430 = .ok (.iadd, 1) := by decide +kernel
theorem d_law_431 : decode code 431 = .ok (.iaload, 1) := by decide +kernel
theorem d_law_432 : decode code 432 = .ok (.invokevirtual 89, 3) := by decide +kernel
theorem d_law_435 : decode code 435 = .ok (.istore 6, 2) := by decide +kernel
theorem d_law_437 : decode code 437 = .ok (.aload_n 2, 1) := by decide +kernel
theorem d_law_438 : decode code 438 = .ok (.invokevirtual 72, 3) := by decide +kernel
theorem d_law_441 : decode code 441 = .ok (.iload 5, 2) := by decide +kernel
theorem d_law_443 : decode code 443 = .ok (.if_icmp .eq (5), 3) := by decide +kernel
theorem d_law_446 : decode code 446 = .ok (.iconst 0, 1) := by decide +kernel
theorem d_law_447 : decode code 447 = .ok (.ireturn, 1) := by decide +kernel
theorem d_law_448 : decode code 448 = .ok (.iload 5, 2) := by decide +kernel
theorem d_law_450 : decode code 450 = .ok (.ifCond .ne (15), 3) := by decide +kernel
theorem d_law_453 : decode code 453 = .ok (.aload_n 3, 1) := by decide +kernel
theorem d_law_454 : decode code 454 = .ok (.iconst 0, 1) := by decide +kernel
theorem d_law_455 : decode code 455 = .ok (.laload, 1) := by decide +kernel
theorem d_law_456 : decode code 456 = .ok (.iload 6, 2) := by decide +kernel
theorem d_law_458 : decode code 458 = .ok (.i2l, 1) := by decide +kernel
theorem d_law_459 : decode code 459 = .ok (.lcmp, 1) := by decide +kernel
theorem d_law_460 : decode code 460 = .ok (.ifCond .eq (5), 3) := by decide +kernel
theorem d_law_463 : decode code 463 = .ok (.iconst 0, 1) := by decide +kernel
theorem d_law_464 : decode code 464 = .ok (.ireturn, 1) := by decide +kernel
theorem d_law_465 : decode code 465 = .ok (.goto (586), 3) := by decide +kernel
theorem d_law_468 : decode code 468 = .ok (.aload_n 1, 1) := by decide +kernel
theorem d_law_469 : decode code 469 = .ok (.invokevirtual 90, 3) := by decide +kernel
theorem d_law_472 : decode code 472 = .ok (.aload_n 2, 1) := by decide +kernel
theorem d_law_473 : decode code 473 = .ok (.invokevirtual 93, 3) := by decide +kernel
theorem d_law_476 : decode code 476 = .ok (.if_icmp .eq (575), 3) := by decide +kernel
theorem d_law_479 : decode code 479 = .ok (.iconst 0, 1) := by decide +kernel
theorem d_law_480 : decode code 480 = .ok (.ireturn, 1) := by decide +kernel
theorem d_law_481 : decode code 481 = .ok (.aload_n 1, 1) := by decide +kernel
theorem d_law_482 : decode code 482 = .ok (.invokevirtual 94, 3) := by decide +kernel
theorem d_law_485 : decode code 485 = .ok (.aload_n 2, 1) := by decide +kernel
theorem d_law_486 : decode code 486 = .ok (.invokevirtual 97, 3) := by decide +kernel
theorem d_law_489 : decode code 489 = .ok (.if_icmp .eq (562), 3) := by decide +kernel
theorem d_law_492 : decode code 492 = .ok (.iconst 0, 1) := by decide +kernel
theorem d_law_493 : decode code 493 = .ok (.ireturn, 1) := by decide +kernel
theorem d_law_494 : decode code 494 = .ok (.aload_n 1, 1) := by decide +kernel
theorem d_law_495 : decode code 495 = .ok (.aload_n 0, 1) := by decide +kernel
theorem d_law_496 : decode code 496 = .ok (.iload 4, 2) := by decide +kernel
theorem d_law_498 : decode code 498 = .ok (.iconst 1, 1) := by decide +kernel
theorem d_law_499 : decode code 499 = .ok (.iadd, 1) := by decide +kernel
theorem d_law_500 : decode code 500 = .ok (.iaload, 1) := by decide +kernel
theorem d_law_501 : decode code 501 = .ok (.aload_n 0, 1) := by decide +kernel
theorem d_law_502 : decode code 502 = .ok (.iload 4, 2) := by decide +kernel
theorem d_law_504 : decode code 504 = .ok (.iconst 2, 1) := by decide +kernel
theorem d_law_505 : decode code 505 = .ok (.iadd, 1) := by decide +kernel
theorem d_law_506 : decode code 506 = .ok (.iaload, 1) := by decide +kernel
theorem d_law_507 : decode code 507 = .ok (.aload_n 3, 1) := by decide +kernel
theorem d_law_508 : decode code 508 = .ok (.invokestatic 98, 3) := by decide +kernel
theorem d_law_511 : decode code 511 = .ok (.istore 5, 2) := by decide +kernel
theorem d_law_513 : decode code 513 = .ok (.aload_n 2, 1) := by decide +kernel
theorem d_law_514 : decode code 514 = .ok (.aload_n 0, 1) := by decide +kernel
theorem d_law_515 : decode code 515 = .ok (.iload 4, 2) := by decide +kernel
theorem d_law_517 : decode code 517 = .ok (.iconst 1, 1) := by decide +kernel
theorem d_law_518 : decode code 518 = .ok (.iadd, 1) := by decide +kernel
theorem d_law_519 : decode code 519 = .ok (.iaload, 1) := by decide +kernel
theorem d_law_520 : decode code 520 = .ok (.aload_n 0, 1) := by decide +kernel
theorem d_law_521 : decode code 521 = .ok (.iload 4, 2) := by decide +kernel
theorem d_law_523 : decode code 523 = .ok (.iconst 2, 1) := by decide +kernel
theorem d_law_524 : decode code 524 = .ok (.iadd, 1) := by decide +kernel
theorem d_law_525 : decode code 525 = .ok (.iaload, 1) := by decide +kernel
theorem d_law_526 : decode code 526 = .ok (.invokevirtual 100, 3) := by decide +kernel
theorem d_law_529 : decode code 529 = .ok (.istore 6, 2) := by decide +kernel
theorem d_law_531 : decode code 531 = .ok (.aload_n 2, 1) := by decide +kernel
theorem d_law_532 : decode code 532 = .ok (.invokevirtual 72, 3) := by decide +kernel
theorem d_law_535 : decode code 535 = .ok (.iload 5, 2) := by decide +kernel
theorem d_law_537 : decode code 537 = .ok (.if_icmp .eq (5), 3) := by decide +kernel
theorem d_law_540 : decode code 540 = .ok (.iconst 0, 1) := by decide +kernel
theorem d_law_541 : decode code 541 = .ok (.ireturn, 1) := by decide +kernel
theorem d_law_542 : decode code 542 = .ok (.iload 5, 2) := by decide +kernel
theorem d_law_544 : decode code 544 = .ok (.ifCond .ne (15), 3) := by decide +kernel
theorem d_law_547 : decode code 547 = .ok (.aload_n 3, 1) := by decide +kernel
theorem d_law_548 : decode code 548 = .ok (.iconst 0, 1) := by decide +kernel
theorem d_law_549 : decode code 549 = .ok (.laload, 1) := by decide +kernel
theorem d_law_550 : decode code 550 = .ok (.iload 6, 2) := by decide +kernel
theorem d_law_552 : decode code 552 = .ok (.i2l, 1) := by decide +kernel
theorem d_law_553 : decode code 553 = .ok (.lcmp, 1) := by decide +kernel
theorem d_law_554 : decode code 554 = .ok (.ifCond .eq (5), 3) := by decide +kernel
theorem d_law_557 : decode code 557 = .ok (.iconst 0, 1) := by decide +kernel
theorem d_law_558 : decode code 558 = .ok (.ireturn, 1) := by decide +kernel
theorem d_law_559 : decode code 559 = .ok (.goto (492), 3) := by decide +kernel
theorem d_law_562 : decode code 562 = .ok (.aload_n 1, 1) := by decide +kernel
theorem d_law_563 : decode code 563 = .ok (.aload_n 0, 1) := by decide +kernel
theorem d_law_564 : decode code 564 = .ok (.iload 4, 2) := by decide +kernel
theorem d_law_566 : decode code 566 = .ok (.iconst 1, 1) := by decide +kernel
theorem d_law_567 : decode code 567 = .ok (.iadd, 1) := by decide +kernel
theorem d_law_568 : decode code 568 = .ok (.iaload, 1) := by decide +kernel
theorem d_law_569 : decode code 569 = .ok (.aload_n 0, 1) := by decide +kernel
theorem d_law_570 : decode code 570 = .ok (.iload 4, 2) := by decide +kernel
theorem d_law_572 : decode code 572 = .ok (.iconst 2, 1) := by decide +kernel
theorem d_law_573 : decode code 573 = .ok (.iadd, 1) := by decide +kernel
theorem d_law_574 : decode code 574 = .ok (.iaload, 1) := by decide +kernel
theorem d_law_575 : decode code 575 = .ok (.aload_n 3, 1) := by decide +kernel
theorem d_law_576 : decode code 576 = .ok (.invokestatic 101, 3) := by decide +kernel
theorem d_law_579 : decode code 579 = .ok (.istore 5, 2) := by decide +kernel
theorem d_law_581 : decode code 581 = .ok (.aload_n 2, 1) := by decide +kernel
theorem d_law_582 : decode code 582 = .ok (.aload_n 0, 1) := by decide +kernel
theorem d_law_583 : decode code 583 = .ok (.iload 4, 2) := by decide +kernel
theorem d_law_585 : decode code 585 = .ok (.iconst 1, 1) := by decide +kernel
theorem d_law_586 : decode code 586 = .ok (.iadd, 1) := by decide +kernel
theorem d_law_587 : decode code 587 = .ok (.iaload, 1) := by decide +kernel
theorem d_law_588 : decode code 588 = .ok (.aload_n 0, 1) := by decide +kernel
theorem d_law_589 : decode code 589 = .ok (.iload 4, 2) := by decide +kernel
theorem d_law_591 : decode code 591 = .ok (.iconst 2, 1) := by decide +kernel
theorem d_law_592 : decode code 592 = .ok (.iadd, 1) := by decide +kernel
theorem d_law_593 : decode code 593 = .ok (.iaload, 1) := by decide +kernel
theorem d_law_594 : decode code 594 = .ok (.invokevirtual 103, 3) := by decide +kernel
theorem d_law_597 : decode code 597 = .ok (.istore 6, 2) := by decide +kernel
theorem d_law_599 : decode code 599 = .ok (.aload_n 2, 1) := by decide +kernel
theorem d_law_600 : decode code 600 = .ok (.invokevirtual 72, 3) := by decide +kernel
theorem d_law_603 : decode code 603 = .ok (.iload 5, 2) := by decide +kernel
theorem d_law_605 : decode code 605 = .ok (.if_icmp .eq (5), 3) := by decide +kernel
theorem d_law_608 : decode code 608 = .ok (.iconst 0, 1) := by decide +kernel
theorem d_law_609 : decode code 609 = .ok (.ireturn, 1) := by decide +kernel
theorem d_law_610 : decode code 610 = .ok (.iload 5, 2) := by decide +kernel
theorem d_law_612 : decode code 612 = .ok (.ifCond .ne (15), 3) := by decide +kernel
theorem d_law_615 : decode code 615 = .ok (.aload_n 3, 1) := by decide +kernel
theorem d_law_616 : decode code 616 = .ok (.iconst 0, 1) := by decide +kernel
theorem d_law_617 : decode code 617 = .ok (.laload, 1) := by decide +kernel
theorem d_law_618 : decode code 618 = .ok (.iload 6, 2) := by decide +kernel
theorem d_law_620 : decode code 620 = .ok (.i2l, 1) := by decide +kernel
theorem d_law_621 : decode code 621 = .ok (.lcmp, 1) := by decide +kernel
theorem d_law_622 : decode code 622 = .ok (.ifCond .eq (5), 3) := by decide +kernel
theorem d_law_625 : decode code 625 = .ok (.iconst 0, 1) := by decide +kernel
theorem d_law_626 : decode code 626 = .ok (.ireturn, 1) := by decide +kernel
theorem d_law_627 : decode code 627 = .ok (.goto (424), 3) := by decide +kernel
theorem d_law_630 : decode code 630 = .ok (.aload_n 1, 1) := by decide +kernel
theorem d_law_631 : decode code 631 = .ok (.aload_n 0, 1) := by decide +kernel
theorem d_law_632 : decode code 632 = .ok (.iload 4, 2) := by decide +kernel
theorem d_law_634 : decode code 634 = .ok (.iconst 1, 1) := by decide +kernel
theorem d_law_635 : decode code 635 = .ok (.iadd, 1) := by decide +kernel
theorem d_law_636 : decode code 636 = .ok (.iaload, 1) := by decide +kernel
theorem d_law_637 : decode code 637 = .ok (.aload_n 0, 1) := by decide +kernel
theorem d_law_638 : decode code 638 = .ok (.iload 4, 2) := by decide +kernel
theorem d_law_640 : decode code 640 = .ok (.iconst 2, 1) := by decide +kernel
theorem d_law_641 : decode code 641 = .ok (.iadd, 1) := by decide +kernel
theorem d_law_642 : decode code 642 = .ok (.iaload, 1) := by decide +kernel
theorem d_law_643 : decode code 643 = .ok (.aload_n 3, 1) := by decide +kernel
theorem d_law_644 : decode code 644 = .ok (.invokestatic 104, 3) := by decide +kernel
theorem d_law_647 : decode code 647 = .ok (.istore 5, 2) := by decide +kernel
theorem d_law_649 : decode code 649 = .ok (.aload_n 2, 1) := by decide +kernel
theorem d_law_650 : decode code 650 = .ok (.aload_n 0, 1) := by decide +kernel
theorem d_law_651 : decode code 651 = .ok (.iload 4, 2) := by decide +kernel
theorem d_law_653 : decode code 653 = .ok (.iconst 1, 1) := by decide +kernel
theorem d_law_654 : decode code 654 = .ok (.iadd, 1) := by decide +kernel
theorem d_law_655 : decode code 655 = .ok (.iaload, 1) := by decide +kernel
theorem d_law_656 : decode code 656 = .ok (.aload_n 0, 1) := by decide +kernel
theorem d_law_657 : decode code 657 = .ok (.iload 4, 2) := by decide +kernel
theorem d_law_659 : decode code 659 = .ok (.iconst 2, 1) := by decide +kernel
theorem d_law_660 : decode code 660 = .ok (.iadd, 1) := by decide +kernel
theorem d_law_661 : decode code 661 = .ok (.iaload, 1) := by decide +kernel
theorem d_law_662 : decode code 662 = .ok (.invokevirtual 106, 3) := by decide +kernel
theorem d_law_665 : decode code 665 = .ok (.istore 6, 2) := by decide +kernel
theorem d_law_667 : decode code 667 = .ok (.aload_n 2, 1) := by decide +kernel
theorem d_law_668 : decode code 668 = .ok (.invokevirtual 72, 3) := by decide +kernel
theorem d_law_671 : decode code 671 = .ok (.iload 5, 2) := by decide +kernel
theorem d_law_673 : decode code 673 = .ok (.if_icmp .eq (5), 3) := by decide +kernel
theorem d_law_676 : decode code 676 = .ok (.iconst 0, 1) := by decide +kernel
theorem d_law_677 : decode code 677 = .ok (.ireturn, 1) := by decide +kernel
theorem d_law_678 : decode code 678 = .ok (.iload 5, 2) := by decide +kernel
theorem d_law_680 : decode code 680 = .ok (.ifCond .ne (15), 3) := by decide +kernel
theorem d_law_683 : decode code 683 = .ok (.aload_n 3, 1) := by decide +kernel
theorem d_law_684 : decode code 684 = .ok (.iconst 0, 1) := by decide +kernel
theorem d_law_685 : decode code 685 = .ok (.laload, 1) := by decide +kernel
theorem d_law_686 : decode code 686 = .ok (.iload 6, 2) := by decide +kernel
theorem d_law_688 : decode code 688 = .ok (.i2l, 1) := by decide +kernel
theorem d_law_689 : decode code 689 = .ok (.lcmp, 1) := by decide +kernel
theorem d_law_690 : decode code 690 = .ok (.ifCond .eq (5), 3) := by decide +kernel
theorem d_law_693 : decode code 693 = .ok (.iconst 0, 1) := by decide +kernel
theorem d_law_694 : decode code 694 = .ok (.ireturn, 1) := by decide +kernel
theorem d_law_695 : decode code 695 = .ok (.goto (356), 3) := by decide +kernel
theorem d_law_698 : decode code 698 = .ok (.aload_n 1, 1) := by decide +kernel
theorem d_law_699 : decode code 699 = .ok (.aload_n 0, 1) := by decide +kernel
theorem d_law_700 : decode code 700 = .ok (.iload 4, 2) := by decide +kernel
theorem d_law_702 : decode code 702 = .ok (.iconst 1, 1) := by decide +kernel
theorem d_law_703 : decode code 703 = .ok (.iadd, 1) := by decide +kernel
theorem d_law_704 : decode code 704 = .ok (.iaload, 1) := by decide +kernel
theorem d_law_705 : decode code 705 = .ok (.aload_n 0, 1) := by decide +kernel
theorem d_law_706 : decode code 706 = .ok (.iload 4, 2) := by decide +kernel
theorem d_law_708 : decode code 708 = .ok (.iconst 2, 1) := by decide +kernel
theorem d_law_709 : decode code 709 = .ok (.iadd, 1) := by decide +kernel
theorem d_law_710 : decode code 710 = .ok (.iaload, 1) := by decide +kernel
theorem d_law_711 : decode code 711 = .ok (.aload_n 0, 1) := by decide +kernel
theorem d_law_712 : decode code 712 = .ok (.iload 4, 2) := by decide +kernel
theorem d_law_714 : decode code 714 = .ok (.iconst 3, 1) := by decide +kernel
theorem d_law_715 : decode code 715 = .ok (.iadd, 1) := by decide +kernel
theorem d_law_716 : decode code 716 = .ok (.iaload, 1) := by decide +kernel
theorem d_law_717 : decode code 717 = .ok (.aload_n 3, 1) := by decide +kernel
theorem d_law_718 : decode code 718 = .ok (.invokestatic 107, 3) := by decide +kernel
theorem d_law_721 : decode code 721 = .ok (.istore 5, 2) := by decide +kernel
theorem d_law_723 : decode code 723 = .ok (.aload_n 2, 1) := by decide +kernel
theorem d_law_724 : decode code 724 = .ok (.aload_n 0, 1) := by decide +kernel
theorem d_law_725 : decode code 725 = .ok (.iload 4, 2) := by decide +kernel
theorem d_law_727 : decode code 727 = .ok (.iconst 1, 1) := by decide +kernel
theorem d_law_728 : decode code 728 = .ok (.iadd, 1) := by decide +kernel
theorem d_law_729 : decode code 729 = .ok (.iaload, 1) := by decide +kernel
theorem d_law_730 : decode code 730 = .ok (.aload_n 0, 1) := by decide +kernel
theorem d_law_731 : decode code 731 = .ok (.iload 4, 2) := by decide +kernel
theorem d_law_733 : decode code 733 = .ok (.iconst 2, 1) := by decide +kernel
theorem d_law_734 : decode code 734 = .ok (.iadd, 1) := by decide +kernel
theorem d_law_735 : decode code 735 = .ok (.iaload, 1) := by decide +kernel
theorem d_law_736 : decode code 736 = .ok (.aload_n 0, 1) := by decide +kernel
theorem d_law_737 : decode code 737 = .ok (.iload 4, 2) := by decide +kernel
theorem d_law_739 : decode code 739 = .ok (.iconst 3, 1) := by decide +kernel
theorem d_law_740 : decode code 740 = .ok (.iadd, 1) := by decide +kernel
theorem d_law_741 : decode code 741 = .ok (.iaload, 1) := by decide +kernel
theorem d_law_742 : decode code 742 = .ok (.invokevirtual 109, 3) := by decide +kernel
theorem d_law_745 : decode code 745 = .ok (.istore 6, 2) := by decide +kernel
theorem d_law_747 : decode code 747 = .ok (.aload_n 2, 1) := by decide +kernel
theorem d_law_748 : decode code 748 = .ok (.invokevirtual 72, 3) := by decide +kernel
theorem d_law_751 : decode code 751 = .ok (.iload 5, 2) := by decide +kernel
theorem d_law_753 : decode code 753 = .ok (.if_icmp .eq (5), 3) := by decide +kernel
theorem d_law_756 : decode code 756 = .ok (.iconst 0, 1) := by decide +kernel
theorem d_law_757 : decode code 757 = .ok (.ireturn, 1) := by decide +kernel
theorem d_law_758 : decode code 758 = .ok (.iload 5, 2) := by decide +kernel
theorem d_law_760 : decode code 760 = .ok (.ifCond .ne (15), 3) := by decide +kernel
theorem d_law_763 : decode code 763 = .ok (.aload_n 3, 1) := by decide +kernel
theorem d_law_764 : decode code 764 = .ok (.iconst 0, 1) := by decide +kernel
theorem d_law_765 : decode code 765 = .ok (.laload, 1) := by decide +kernel
theorem d_law_766 : decode code 766 = .ok (.iload 6, 2) := by decide +kernel
theorem d_law_768 : decode code 768 = .ok (.i2l, 1) := by decide +kernel
theorem d_law_769 : decode code 769 = .ok (.lcmp, 1) := by decide +kernel
theorem d_law_770 : decode code 770 = .ok (.ifCond .eq (5), 3) := by decide +kernel
theorem d_law_773 : decode code 773 = .ok (.iconst 0, 1) := by decide +kernel
theorem d_law_774 : decode code 774 = .ok (.ireturn, 1) := by decide +kernel
theorem d_law_775 : decode code 775 = .ok (.goto (276), 3) := by decide +kernel
theorem d_law_778 : decode code 778 = .ok (.aload_n 1, 1) := by decide +kernel
theorem d_law_779 : decode code 779 = .ok (.aload_n 0, 1) := by decide +kernel
theorem d_law_780 : decode code 780 = .ok (.iload 4, 2) := by decide +kernel
theorem d_law_782 : decode code 782 = .ok (.iconst 1, 1) := by decide +kernel
theorem d_law_783 : decode code 783 = .ok (.iadd, 1) := by decide +kernel
theorem d_law_784 : decode code 784 = .ok (.iaload, 1) := by decide +kernel
theorem d_law_785 : decode code 785 = .ok (.aload_n 3, 1) := by decide +kernel
theorem d_law_786 : decode code 786 = .ok (.invokestatic 110, 3) := by decide +kernel
theorem d_law_789 : decode code 789 = .ok (.istore 5, 2) := by decide +kernel
theorem d_law_791 : decode code 791 = .ok (.aload_n 2, 1) := by decide +kernel
theorem d_law_792 : decode code 792 = .ok (.aload_n 0, 1) := by decide +kernel
theorem d_law_793 : decode code 793 = .ok (.iload 4, 2) := by decide +kernel
theorem d_law_795 : decode code 795 = .ok (.iconst 1, 1) := by decide +kernel
theorem d_law_796 : decode code 796 = .ok (.iadd, 1) := by decide +kernel
theorem d_law_797 : decode code 797 = .ok (.iaload, 1) := by decide +kernel
theorem d_law_798 : decode code 798 = .ok (.invokevirtual 112, 3) := by decide +kernel
theorem d_law_801 : decode code 801 = .ok (.istore 6, 2) := by decide +kernel
theorem d_law_803 : decode code 803 = .ok (.aload_n 2, 1) := by decide +kernel
theorem d_law_804 : decode code 804 = .ok (.invokevirtual 72, 3) := by decide +kernel
theorem d_law_807 : decode code 807 = .ok (.iload 5, 2) := by decide +kernel
theorem d_law_809 : decode code 809 = .ok (.if_icmp .eq (5), 3) := by decide +kernel
theorem d_law_812 : decode code 812 = .ok (.iconst 0, 1) := by decide +kernel
theorem d_law_813 : decode code 813 = .ok (.ireturn, 1) := by decide +kernel
theorem d_law_814 : decode code 814 = .ok (.iload 5, 2) := by decide +kernel
theorem d_law_816 : decode code 816 = .ok (.ifCond .ne (15), 3) := by decide +kernel
theorem d_law_819 : decode code 819 = .ok (.aload_n 3, 1) := by decide +kernel
theorem d_law_820 : decode code 820 = .ok (.iconst 0, 1) := by decide +kernel
theorem d_law_821 : decode code 821 = .ok (.laload, 1) := by decide +kernel
theorem d_law_822 : decode code 822 = .ok (.iload 6, 2) := by decide +kernel
theorem d_law_824 : decode code 824 = .ok (.i2l, 1) := by decide +kernel
theorem d_law_825 : decode code 825 = .ok (.lcmp, 1) := by decide +kernel
theorem d_law_826 : decode code 826 = .ok (.ifCond .eq (5), 3) := by decide +kernel
theorem d_law_829 : decode code 829 = .ok (.iconst 0, 1) := by decide +kernel
theorem d_law_830 : decode code 830 = .ok (.ireturn, 1) := by decide +kernel
theorem d_law_831 : decode code 831 = .ok (.goto (220), 3) := by decide +kernel
theorem d_law_834 : decode code 834 = .ok (.aload_n 1, 1) := by decide +kernel
theorem d_law_835 : decode code 835 = .ok (.aload_n 0, 1) := by decide +kernel
theorem d_law_836 : decode code 836 = .ok (.iload 4, 2) := by decide +kernel
theorem d_law_838 : decode code 838 = .ok (.iconst 1, 1) := by decide +kernel
theorem d_law_839 : decode code 839 = .ok (.iadd, 1) := by decide +kernel
theorem d_law_840 : decode code 840 = .ok (.iaload, 1) := by decide +kernel
theorem d_law_841 : decode code 841 = .ok (.aload_n 0, 1) := by decide +kernel
theorem d_law_842 : decode code 842 = .ok (.iload 4, 2) := by decide +kernel
theorem d_law_844 : decode code 844 = .ok (.iconst 2, 1) := by decide +kernel
theorem d_law_845 : decode code 845 = .ok (.iadd, 1) := by decide +kernel
theorem d_law_846 : decode code 846 = .ok (.iaload, 1) := by decide +kernel
theorem d_law_847 : decode code 847 = .ok (.aload_n 0, 1) := by decide +kernel
theorem d_law_848 : decode code 848 = .ok (.iload 4, 2) := by decide +kernel
theorem d_law_850 : decode code 850 = .ok (.iconst 3, 1) := by decide +kernel
theorem d_law_851 : decode code 851 = .ok (.iadd, 1) := by decide +kernel
theorem d_law_852 : decode code 852 = .ok (.iaload, 1) := by decide +kernel
theorem d_law_853 : decode code 853 = .ok (.aload_n 0, 1) := by decide +kernel
theorem d_law_854 : decode code 854 = .ok (.iload 4, 2) := by decide +kernel
theorem d_law_856 : decode code 856 = .ok (.iconst 4, 1) := by decide +kernel
theorem d_law_857 : decode code 857 = .ok (.iadd, 1) := by decide +kernel
theorem d_law_858 : decode code 858 = .ok (.iaload, 1) := by decide +kernel
theorem d_law_859 : decode code 859 = .ok (.aload_n 3, 1) := by decide +kernel
theorem d_law_860 : decode code 860 = .ok (.invokestatic 113, 3) := by decide +kernel
theorem d_law_863 : decode code 863 = .ok (.istore 5, 2) := by decide +kernel
theorem d_law_865 : decode code 865 = .ok (.aload_n 2, 1) := by decide +kernel
theorem d_law_866 : decode code 866 = .ok (.aload_n 0, 1) := by decide +kernel
theorem d_law_867 : decode code 867 = .ok (.iload 4, 2) := by decide +kernel
theorem d_law_869 : decode code 869 = .ok (.iconst 1, 1) := by decide +kernel
theorem d_law_870 : decode code 870 = .ok (.iadd, 1) := by decide +kernel
theorem d_law_871 : decode code 871 = .ok (.iaload, 1) := by decide +kernel
theorem d_law_872 : decode code 872 = .ok (.aload_n 0, 1) := by decide +kernel
theorem d_law_873 : decode code 873 = .ok (.iload 4, 2) := by decide +kernel
theorem d_law_875 : decode code 875 = .ok (.iconst 2, 1) := by decide +kernel
theorem d_law_876 : decode code 876 = .ok (.iadd, 1) := by decide +kernel
theorem d_law_877 : decode code 877 = .ok (.iaload, 1) := by decide +kernel
theorem d_law_878 : decode code 878 = .ok (.aload_n 0, 1) := by decide +kernel
theorem d_law_879 : decode code 879 = .ok (.iload 4, 2) := by decide +kernel
theorem d_law_881 : decode code 881 = .ok (.iconst 3, 1) := by decide +kernel
theorem d_law_882 : decode code 882 = .ok (.iadd, 1) := by decide +kernel
theorem d_law_883 : decode code 883 = .ok (.iaload, 1) := by decide +kernel
theorem d_law_884 : decode code 884 = .ok (.aload_n 0, 1) := by decide +kernel
theorem d_law_885 : decode code 885 = .ok (.iload 4, 2) := by decide +kernel
theorem d_law_887 : decode code 887 = .ok (.iconst 4, 1) := by decide +kernel
theorem d_law_888 : decode code 888 = .ok (.iadd, 1) := by decide +kernel
theorem d_law_889 : decode code 889 = .ok (.iaload, 1) := by decide +kernel
theorem d_law_890 : decode code 890 = .ok (.invokevirtual 116, 3) := by decide +kernel
theorem d_law_893 : decode code 893 = .ok (.istore 6, 2) := by decide +kernel
theorem d_law_895 : decode code 895 = .ok (.aload_n 2, 1) := by decide +kernel
theorem d_law_896 : decode code 896 = .ok (.invokevirtual 72, 3) := by decide +kernel
theorem d_law_899 : decode code 899 = .ok (.iload 5, 2) := by decide +kernel
theorem d_law_901 : decode code 901 = .ok (.if_icmp .eq (5), 3) := by decide +kernel
theorem d_law_904 : decode code 904 = .ok (.iconst 0, 1) := by decide +kernel
theorem d_law_905 : decode code 905 = .ok (.ireturn, 1) := by decide +kernel
theorem d_law_906 : decode code 906 = .ok (.iload 5, 2) := by decide +kernel
theorem d_law_908 : decode code 908 = .ok (.ifCond .ne (15), 3) := by decide +kernel
theorem d_law_911 : decode code 911 = .ok (.aload_n 3, 1) := by decide +kernel
theorem d_law_912 : decode code 912 = .ok (.iconst 0, 1) := by decide +kernel
theorem d_law_913 : decode code 913 = .ok (.laload, 1) := by decide +kernel
theorem d_law_914 : decode code 914 = .ok (.iload 6, 2) := by decide +kernel
theorem d_law_916 : decode code 916 = .ok (.i2l, 1) := by decide +kernel
theorem d_law_917 : decode code 917 = .ok (.lcmp, 1) := by decide +kernel
theorem d_law_918 : decode code 918 = .ok (.ifCond .eq (5), 3) := by decide +kernel
theorem d_law_921 : decode code 921 = .ok (.iconst 0, 1) := by decide +kernel
theorem d_law_922 : decode code 922 = .ok (.ireturn, 1) := by decide +kernel
theorem d_law_923 : decode code 923 = .ok (.goto (128), 3) := by decide +kernel
theorem d_law_926 : decode code 926 = .ok (.aload_n 1, 1) := by decide +kernel
theorem d_law_927 : decode code 927 = .ok (.invokevirtual 117, 3) := by decide +kernel
theorem d_law_930 : decode code 930 = .ok (.aload_n 2, 1) := by decide +kernel
theorem d_law_931 : decode code 931 = .ok (.invokevirtual 120, 3) := by decide +kernel
theorem d_law_934 : decode code 934 = .ok (.if_icmp .eq (117), 3) := by decide +kernel
theorem d_law_937 : decode code 937 = .ok (.iconst 0, 1) := by decide +kernel
theorem d_law_938 : decode code 938 = .ok (.ireturn, 1) := by decide +kernel
theorem d_law_939 : decode code 939 = .ok (.aload_n 1, 1) := by decide +kernel
theorem d_law_940 : decode code 940 = .ok (.aload_n 0, 1) := by decide +kernel
theorem d_law_941 : decode code 941 = .ok (.iload 4, 2) := by decide +kernel
theorem d_law_943 : decode code 943 = .ok (.iconst 1, 1) := by decide +kernel
theorem d_law_944 : decode code 944 = .ok (.iadd, 1) := by decide +kernel
theorem d_law_945 : decode code 945 = .ok (.iaload, 1) := by decide +kernel
theorem d_law_946 : decode code 946 = .ok (.aload_n 3, 1) := by decide +kernel
theorem d_law_947 : decode code 947 = .ok (.invokestatic 121, 3) := by decide +kernel
theorem d_law_950 : decode code 950 = .ok (.istore 5, 2) := by decide +kernel
theorem d_law_952 : decode code 952 = .ok (.aload_n 2, 1) := by decide +kernel
theorem d_law_953 : decode code 953 = .ok (.aload_n 0, 1) := by decide +kernel
theorem d_law_954 : decode code 954 = .ok (.iload 4, 2) := by decide +kernel
theorem d_law_956 : decode code 956 = .ok (.iconst 1, 1) := by decide +kernel
theorem d_law_957 : decode code 957 = .ok (.iadd, 1) := by decide +kernel
theorem d_law_958 : decode code 958 = .ok (.iaload, 1) := by decide +kernel
theorem d_law_959 : decode code 959 = .ok (.invokevirtual 123, 3) := by decide +kernel
theorem d_law_962 : decode code 962 = .ok (.istore 6, 2) := by decide +kernel
theorem d_law_964 : decode code 964 = .ok (.aload_n 2, 1) := by decide +kernel
theorem d_law_965 : decode code 965 = .ok (.invokevirtual 72, 3) := by decide +kernel
theorem d_law_968 : decode code 968 = .ok (.iload 5, 2) := by decide +kernel
theorem d_law_970 : decode code 970 = .ok (.if_icmp .eq (5), 3) := by decide +kernel
theorem d_law_973 : decode code 973 = .ok (.iconst 0, 1) := by decide +kernel
theorem d_law_974 : decode code 974 = .ok (.ireturn, 1) := by decide +kernel
theorem d_law_975 : decode code 975 = .ok (.iload 5, 2) := by decide +kernel
theorem d_law_977 : decode code 977 = .ok (.ifCond .ne (15), 3) := by decide +kernel
theorem d_law_980 : decode code 980 = .ok (.aload_n 3, 1) := by decide +kernel
theorem d_law_981 : decode code 981 = .ok (.iconst 0, 1) := by decide +kernel
theorem d_law_982 : decode code 982 = .ok (.laload, 1) := by decide +kernel
theorem d_law_983 : decode code 983 = .ok (.iload 6, 2) := by decide +kernel
theorem d_law_985 : decode code 985 = .ok (.i2l, 1) := by decide +kernel
theorem d_law_986 : decode code 986 = .ok (.lcmp, 1) := by decide +kernel
theorem d_law_987 : decode code 987 = .ok (.ifCond .eq (5), 3) := by decide +kernel
theorem d_law_990 : decode code 990 = .ok (.iconst 0, 1) := by decide +kernel
theorem d_law_991 : decode code 991 = .ok (.ireturn, 1) := by decide +kernel
theorem d_law_992 : decode code 992 = .ok (.goto (59), 3) := by decide +kernel
theorem d_law_995 : decode code 995 = .ok (.aload_n 1, 1) := by decide +kernel
theorem d_law_996 : decode code 996 = .ok (.aload_n 0, 1) := by decide +kernel
theorem d_law_997 : decode code 997 = .ok (.iload 4, 2) := by decide +kernel
theorem d_law_999 : decode code 999 = .ok (.iconst 1, 1) := by decide +kernel
theorem d_law_1000 : decode code 1000 = .ok (.iadd, 1) := by decide +kernel
theorem d_law_1001 : decode code 1001 = .ok (.iaload, 1) := by decide +kernel
theorem d_law_1002 : decode code 1002 = .ok (.aload_n 3, 1) := by decide +kernel
theorem d_law_1003 : decode code 1003 = .ok (.invokestatic 124, 3) := by decide +kernel
theorem d_law_1006 : decode code 1006 = .ok (.istore 5, 2) := by decide +kernel
theorem d_law_1008 : decode code 1008 = .ok (.aload_n 2, 1) := by decide +kernel
theorem d_law_1009 : decode code 1009 = .ok (.aload_n 0, 1) := by decide +kernel
theorem d_law_1010 : decode code 1010 = .ok (.iload 4, 2) := by decide +kernel
theorem d_law_1012 : decode code 1012 = .ok (.iconst 1, 1) := by decide +kernel
theorem d_law_1013 : decode code 1013 = .ok (.iadd, 1) := by decide +kernel
theorem d_law_1014 : decode code 1014 = .ok (.iaload, 1) := by decide +kernel
theorem d_law_1015 : decode code 1015 = .ok (.invokevirtual 126, 3) := by decide +kernel
theorem d_law_1018 : decode code 1018 = .ok (.istore 6, 2) := by decide +kernel
theorem d_law_1020 : decode code 1020 = .ok (.aload_n 2, 1) := by decide +kernel
theorem d_law_1021 : decode code 1021 = .ok (.invokevirtual 72, 3) := by decide +kernel
theorem d_law_1024 : decode code 1024 = .ok (.iload 5, 2) := by decide +kernel
theorem d_law_1026 : decode code 1026 = .ok (.if_icmp .eq (5), 3) := by decide +kernel
theorem d_law_1029 : decode code 1029 = .ok (.iconst 0, 1) := by decide +kernel
theorem d_law_1030 : decode code 1030 = .ok (.ireturn, 1) := by decide +kernel
theorem d_law_1031 : decode code 1031 = .ok (.iload 5, 2) := by decide +kernel
theorem d_law_1033 : decode code 1033 = .ok (.ifCond .ne (15), 3) := by decide +kernel
theorem d_law_1036 : decode code 1036 = .ok (.aload_n 3, 1) := by decide +kernel
theorem d_law_1037 : decode code 1037 = .ok (.iconst 0, 1) := by decide +kernel
theorem d_law_1038 : decode code 1038 = .ok (.laload, 1) := by decide +kernel
theorem d_law_1039 : decode code 1039 = .ok (.iload 6, 2) := by decide +kernel
theorem d_law_1041 : decode code 1041 = .ok (.i2l, 1) := by decide +kernel
theorem d_law_1042 : decode code 1042 = .ok (.lcmp, 1) := by decide +kernel
theorem d_law_1043 : decode code 1043 = .ok (.ifCond .eq (5), 3) := by decide +kernel
theorem d_law_1046 : decode code 1046 = .ok (.iconst 0, 1) := by decide +kernel
theorem d_law_1047 : decode code 1047 = .ok (.ireturn, 1) := by decide +kernel
theorem d_law_1048 : decode code 1048 = .ok (.goto (3), 3) := by decide +kernel
theorem d_law_1051 : decode code 1051 = .ok (.iinc 4 (5), 3) := by decide +kernel
theorem d_law_1054 : decode code 1054 = .ok (.goto (-1021), 3) := by decide +kernel
theorem d_law_1057 : decode code 1057 = .ok (.iconst 1, 1) := by decide +kernel
theorem d_law_1058 : decode code 1058 = .ok (.ireturn, 1) := by decide +kernel
theorem gs_68 : GoodIn WS (va_wsS R_law 68 y_Law_link (wh y_Law_link b_Law_link 6 (some .int) [(0, 12, 15, 13)])) := wh_good (ws_t 164 (by decide +kernel) (by decide +kernel)) (ws_t 165 (by decide +kernel) (by decide +kernel)) (ws_t 0 (by decide +kernel) (by decide +kernel)) k_Law_link
theorem gv_71 : GoodIn WS (wsV R_law 71 R_Model y_Model_link (wc y_Model_link b_Model_link 5 (some .int))) := wv_good (ws_t 757 (by decide +kernel) (by decide +kernel)) (ws_t 758 (by decide +kernel) (by decide +kernel)) (ws_t 759 (by decide +kernel) (by decide +kernel)) (ws_t 8 (by decide +kernel) (by decide +kernel)) k_Model_link
theorem gv_72 : GoodIn WS (wsV R_law 72 R_Model y_Model_thrown (wc y_Model_thrown b_Model_thrown 1 (some .int))) := wv_good (ws_t 682 (by decide +kernel) (by decide +kernel)) (ws_t 683 (by decide +kernel) (by decide +kernel)) (ws_t 684 (by decide +kernel) (by decide +kernel)) (ws_t 8 (by decide +kernel) (by decide +kernel)) k_Model_thrown
theorem gs_76 : GoodIn WS (va_wsS R_law 76 y_Law_own (wh y_Law_own b_Law_own 5 (some .int) [(0, 10, 13, 13)])) := wh_good (ws_t 360 (by decide +kernel) (by decide +kernel)) (ws_t 361 (by decide +kernel) (by decide +kernel)) (ws_t 0 (by decide +kernel) (by decide +kernel)) k_Law_own
theorem gv_79 : GoodIn WS (wsV R_law 79 R_Model y_Model_own (wc y_Model_own b_Model_own 4 (some .int))) := wv_good (ws_t 773 (by decide +kernel) (by decide +kernel)) (ws_t 774 (by decide +kernel) (by decide +kernel)) (ws_t 775 (by decide +kernel) (by decide +kernel)) (ws_t 8 (by decide +kernel) (by decide +kernel)) k_Model_own
theorem gs_80 : GoodIn WS (va_wsS R_law 80 y_Law_serve (wh y_Law_serve b_Law_serve 5 (some .int) [(0, 10, 13, 13)])) := wh_good (ws_t 382 (by decide +kernel) (by decide +kernel)) (ws_t 383 (by decide +kernel) (by decide +kernel)) (ws_t 0 (by decide +kernel) (by decide +kernel)) k_Law_serve
theorem gv_82 : GoodIn WS (wsV R_law 82 R_Model y_Model_serve (wc y_Model_serve b_Model_serve 4 (some .int))) := wv_good (ws_t 777 (by decide +kernel) (by decide +kernel)) (ws_t 778 (by decide +kernel) (by decide +kernel)) (ws_t 779 (by decide +kernel) (by decide +kernel)) (ws_t 8 (by decide +kernel) (by decide +kernel)) k_Model_serve
theorem gs_83 : GoodIn WS (va_wsS R_law 83 y_Law_step (wh y_Law_step b_Law_step 5 (some .int) [(0, 10, 13, 13)])) := wh_good (ws_t 389 (by decide +kernel) (by decide +kernel)) (ws_t 390 (by decide +kernel) (by decide +kernel)) (ws_t 0 (by decide +kernel) (by decide +kernel)) k_Law_step
theorem gv_85 : GoodIn WS (wsV R_law 85 R_Model y_Model_step (wc y_Model_step b_Model_step 4 (some .int))) := wv_good (ws_t 686 (by decide +kernel) (by decide +kernel)) (ws_t 687 (by decide +kernel) (by decide +kernel)) (ws_t 688 (by decide +kernel) (by decide +kernel)) (ws_t 8 (by decide +kernel) (by decide +kernel)) k_Model_step
theorem gs_86 : GoodIn WS (va_wsS R_law 86 y_Law_run (wh y_Law_run b_Law_run 4 (some .int) [(0, 9, 12, 13)])) := wh_good (ws_t 431 (by decide +kernel) (by decide +kernel)) (ws_t 432 (by decide +kernel) (by decide +kernel)) (ws_t 0 (by decide +kernel) (by decide +kernel)) k_Law_run
theorem gv_89 : GoodIn WS (wsV R_law 89 R_Model y_Model_run (wc y_Model_run b_Model_run 4 (some .int))) := wv_good (ws_t 745 (by decide +kernel) (by decide +kernel)) (ws_t 746 (by decide +kernel) (by decide +kernel)) (ws_t 747 (by decide +kernel) (by decide +kernel)) (ws_t 8 (by decide +kernel) (by decide +kernel)) k_Model_run
theorem gv_90 : GoodIn WS (wsV R_law 90 R_LR y_LR_waiting (wc y_LR_waiting b_LR_waiting 1 (some .int))) := wv_good (ws_t 137 (by decide +kernel) (by decide +kernel)) (ws_t 138 (by decide +kernel) (by decide +kernel)) (ws_t 139 (by decide +kernel) (by decide +kernel)) (ws_t 1 (by decide +kernel) (by decide +kernel)) k_LR_waiting
theorem gv_93 : GoodIn WS (wsV R_law 93 R_Model y_Model_waiting (wc y_Model_waiting b_Model_waiting 1 (some .int))) := wv_good (ws_t 749 (by decide +kernel) (by decide +kernel)) (ws_t 750 (by decide +kernel) (by decide +kernel)) (ws_t 751 (by decide +kernel) (by decide +kernel)) (ws_t 8 (by decide +kernel) (by decide +kernel)) k_Model_waiting
theorem gv_94 : GoodIn WS (wsV R_law 94 R_LR y_LR_lost (wc y_LR_lost b_LR_lost 1 (some .int))) := wv_good (ws_t 145 (by decide +kernel) (by decide +kernel)) (ws_t 146 (by decide +kernel) (by decide +kernel)) (ws_t 147 (by decide +kernel) (by decide +kernel)) (ws_t 1 (by decide +kernel) (by decide +kernel)) k_LR_lost
theorem gv_97 : GoodIn WS (wsV R_law 97 R_Model y_Model_lost (wc y_Model_lost b_Model_lost 1 (some .int))) := wv_good (ws_t 753 (by decide +kernel) (by decide +kernel)) (ws_t 754 (by decide +kernel) (by decide +kernel)) (ws_t 755 (by decide +kernel) (by decide +kernel)) (ws_t 8 (by decide +kernel) (by decide +kernel)) k_Model_lost
theorem gs_98 : GoodIn WS (va_wsS R_law 98 y_Law_distance (wh y_Law_distance b_Law_distance 5 (some .int) [(0, 10, 13, 13)])) := wh_good (ws_t 438 (by decide +kernel) (by decide +kernel)) (ws_t 439 (by decide +kernel) (by decide +kernel)) (ws_t 0 (by decide +kernel) (by decide +kernel)) k_Law_distance
theorem gv_100 : GoodIn WS (wsV R_law 100 R_Model y_Model_distance (wc y_Model_distance b_Model_distance 3 (some .int))) := wv_good (ws_t 781 (by decide +kernel) (by decide +kernel)) (ws_t 782 (by decide +kernel) (by decide +kernel)) (ws_t 783 (by decide +kernel) (by decide +kernel)) (ws_t 8 (by decide +kernel) (by decide +kernel)) k_Model_distance
theorem gs_101 : GoodIn WS (va_wsS R_law 101 y_Law_next (wh y_Law_next b_Law_next 5 (some .int) [(0, 10, 13, 13)])) := wh_good (ws_t 449 (by decide +kernel) (by decide +kernel)) (ws_t 450 (by decide +kernel) (by decide +kernel)) (ws_t 0 (by decide +kernel) (by decide +kernel)) k_Law_next
theorem gv_103 : GoodIn WS (wsV R_law 103 R_Model y_Model_next (wc y_Model_next b_Model_next 3 (some .int))) := wv_good (ws_t 785 (by decide +kernel) (by decide +kernel)) (ws_t 786 (by decide +kernel) (by decide +kernel)) (ws_t 787 (by decide +kernel) (by decide +kernel)) (ws_t 8 (by decide +kernel) (by decide +kernel)) k_Model_next
theorem gs_104 : GoodIn WS (va_wsS R_law 104 y_Law_label (wh y_Law_label b_Law_label 5 (some .int) [(0, 10, 13, 13)])) := wh_good (ws_t 456 (by decide +kernel) (by decide +kernel)) (ws_t 457 (by decide +kernel) (by decide +kernel)) (ws_t 0 (by decide +kernel) (by decide +kernel)) k_Law_label
theorem gv_106 : GoodIn WS (wsV R_law 106 R_Model y_Model_label (wc y_Model_label b_Model_label 3 (some .int))) := wv_good (ws_t 789 (by decide +kernel) (by decide +kernel)) (ws_t 790 (by decide +kernel) (by decide +kernel)) (ws_t 791 (by decide +kernel) (by decide +kernel)) (ws_t 8 (by decide +kernel) (by decide +kernel)) k_Model_label
theorem gs_107 : GoodIn WS (va_wsS R_law 107 y_Law_told (wh y_Law_told b_Law_told 6 (some .int) [(0, 12, 15, 13)])) := wh_good (ws_t 463 (by decide +kernel) (by decide +kernel)) (ws_t 464 (by decide +kernel) (by decide +kernel)) (ws_t 0 (by decide +kernel) (by decide +kernel)) k_Law_told
theorem gv_109 : GoodIn WS (wsV R_law 109 R_Model y_Model_told (wc y_Model_told b_Model_told 4 (some .int))) := wv_good (ws_t 793 (by decide +kernel) (by decide +kernel)) (ws_t 794 (by decide +kernel) (by decide +kernel)) (ws_t 795 (by decide +kernel) (by decide +kernel)) (ws_t 8 (by decide +kernel) (by decide +kernel)) k_Model_told
theorem gs_110 : GoodIn WS (va_wsS R_law 110 y_Law_taken (wh y_Law_taken b_Law_taken 4 (some .int) [(0, 9, 12, 13)])) := wh_good (ws_t 470 (by decide +kernel) (by decide +kernel)) (ws_t 471 (by decide +kernel) (by decide +kernel)) (ws_t 0 (by decide +kernel) (by decide +kernel)) k_Law_taken
theorem gv_112 : GoodIn WS (wsV R_law 112 R_Model y_Model_taken (wc y_Model_taken b_Model_taken 2 (some .int))) := wv_good (ws_t 797 (by decide +kernel) (by decide +kernel)) (ws_t 798 (by decide +kernel) (by decide +kernel)) (ws_t 799 (by decide +kernel) (by decide +kernel)) (ws_t 8 (by decide +kernel) (by decide +kernel)) k_Model_taken
theorem gs_113 : GoodIn WS (va_wsS R_law 113 y_Law_send (wh y_Law_send b_Law_send 7 (some .int) [(0, 14, 17, 13)])) := wh_good (ws_t 487 (by decide +kernel) (by decide +kernel)) (ws_t 488 (by decide +kernel) (by decide +kernel)) (ws_t 0 (by decide +kernel) (by decide +kernel)) k_Law_send
theorem gv_116 : GoodIn WS (wsV R_law 116 R_Model y_Model_send (wc y_Model_send b_Model_send 7 (some .int))) := wv_good (ws_t 805 (by decide +kernel) (by decide +kernel)) (ws_t 806 (by decide +kernel) (by decide +kernel)) (ws_t 807 (by decide +kernel) (by decide +kernel)) (ws_t 8 (by decide +kernel) (by decide +kernel)) k_Model_send
theorem gv_117 : GoodIn WS (wsV R_law 117 R_LR y_LR_hops (wc y_LR_hops b_LR_hops 1 (some .int))) := wv_good (ws_t 153 (by decide +kernel) (by decide +kernel)) (ws_t 154 (by decide +kernel) (by decide +kernel)) (ws_t 155 (by decide +kernel) (by decide +kernel)) (ws_t 1 (by decide +kernel) (by decide +kernel)) k_LR_hops
theorem gv_120 : GoodIn WS (wsV R_law 120 R_Model y_Model_hops (wc y_Model_hops b_Model_hops 1 (some .int))) := wv_good (ws_t 825 (by decide +kernel) (by decide +kernel)) (ws_t 826 (by decide +kernel) (by decide +kernel)) (ws_t 827 (by decide +kernel) (by decide +kernel)) (ws_t 8 (by decide +kernel) (by decide +kernel)) k_Model_hops
theorem gs_121 : GoodIn WS (va_wsS R_law 121 y_Law_hop (wh y_Law_hop b_Law_hop 4 (some .int) [(0, 9, 12, 51)])) := wh_good (ws_t 559 (by decide +kernel) (by decide +kernel)) (ws_t 560 (by decide +kernel) (by decide +kernel)) (ws_t 0 (by decide +kernel) (by decide +kernel)) k_Law_hop
theorem gv_123 : GoodIn WS (wsV R_law 123 R_Model y_Model_hop (wc y_Model_hop b_Model_hop 2 (some .int))) := wv_good (ws_t 829 (by decide +kernel) (by decide +kernel)) (ws_t 830 (by decide +kernel) (by decide +kernel)) (ws_t 831 (by decide +kernel) (by decide +kernel)) (ws_t 8 (by decide +kernel) (by decide +kernel)) k_Model_hop
theorem gs_124 : GoodIn WS (va_wsS R_law 124 y_Law_entry (wh y_Law_entry b_Law_entry 4 (some .int) [(0, 9, 12, 51)])) := wh_good (ws_t 591 (by decide +kernel) (by decide +kernel)) (ws_t 592 (by decide +kernel) (by decide +kernel)) (ws_t 0 (by decide +kernel) (by decide +kernel)) k_Law_entry
theorem gv_126 : GoodIn WS (wsV R_law 126 R_Model y_Model_entry (wc y_Model_entry b_Model_entry 2 (some .int))) := wv_good (ws_t 833 (by decide +kernel) (by decide +kernel)) (ws_t 834 (by decide +kernel) (by decide +kernel)) (ws_t 835 (by decide +kernel) (by decide +kernel)) (ws_t 8 (by decide +kernel) (by decide +kernel)) k_Model_entry
abbrev b_Law_cell : ByteArray := method_2_code
abbrev y_Law_cell : MethodName := ⟨"LabelRoadsLaw", "cell", "([II)I"⟩
theorem d_Law_cell_0 : decode b_Law_cell 0 = .ok (.iload_n 1, 1) := by decide +kernel
theorem d_Law_cell_1 : decode b_Law_cell 1 = .ok (.aload_n 0, 1) := by decide +kernel
theorem d_Law_cell_2 : decode b_Law_cell 2 = .ok (.arraylength, 1) := by decide +kernel
theorem d_Law_cell_3 : decode b_Law_cell 3 = .ok (.if_icmp .ge (9), 3) := by decide +kernel
theorem d_Law_cell_6 : decode b_Law_cell 6 = .ok (.aload_n 0, 1) := by decide +kernel
theorem d_Law_cell_7 : decode b_Law_cell 7 = .ok (.iload_n 1, 1) := by decide +kernel
theorem d_Law_cell_8 : decode b_Law_cell 8 = .ok (.iaload, 1) := by decide +kernel
theorem d_Law_cell_9 : decode b_Law_cell 9 = .ok (.goto (4), 3) := by decide +kernel
theorem d_Law_cell_12 : decode b_Law_cell 12 = .ok (.iconst 0, 1) := by decide +kernel
theorem d_Law_cell_13 : decode b_Law_cell 13 = .ok (.ireturn, 1) := by decide +kernel
theorem k_Law_cell : Cond.code y_Law_cell b_Law_cell 2 (some .int) ∈ WS := ws_t 163 (by decide +kernel) (by decide +kernel)
theorem hd_Law_cell : y_Law_cell.cls ≠ "java/lang/invoke/MethodHandle" ∧ y_Law_cell.cls ≠ "java/lang/invoke/VarHandle" ∧ (parseMethodDescriptor y_Law_cell.desc).map (fun d => d.parameters.length) = some 2 := by decide +kernel
theorem gs_56 : GoodIn WS (va_wsS R_law 56 y_Law_cell (wc y_Law_cell b_Law_cell 2 (some .int))) := wt_good (ws_t 161 (by decide +kernel) (by decide +kernel)) (ws_t 162 (by decide +kernel) (by decide +kernel)) (ws_t 0 (by decide +kernel) (by decide +kernel)) k_Law_cell
theorem cl_law_8 : Cond.classLink R_law 8 R_LR ∈ WS := ws_t 16 (by decide +kernel) (by decide +kernel)
theorem cl_law_65 : Cond.classLink R_law 65 R_Model ∈ WS := ws_t 602 (by decide +kernel) (by decide +kernel)
theorem ml_law_62 : Cond.methodLink R_law 62 y_LR_init ∈ WS := ws_t 18 (by decide +kernel) (by decide +kernel)
theorem ml_law_67 : Cond.methodLink R_law 67 y_Model_init ∈ WS := ws_t 604 (by decide +kernel) (by decide +kernel)
