/-! The law's instructions. -/
theorem md_law_0 : decode code 0 = .ok (.new 7, 3) := by decide +kernel
theorem md_law_3 : decode code 3 = .ok (.dup, 1) := by decide +kernel
theorem md_law_4 : decode code 4 = .ok (.aload_n 0, 1) := by decide +kernel
theorem md_law_5 : decode code 5 = .ok (.iconst 0, 1) := by decide +kernel
theorem md_law_6 : decode code 6 = .ok (.invokestatic 9, 3) := by decide +kernel
theorem md_law_9 : decode code 9 = .ok (.aload_n 0, 1) := by decide +kernel
theorem md_law_10 : decode code 10 = .ok (.iconst 1, 1) := by decide +kernel
theorem md_law_11 : decode code 11 = .ok (.invokestatic 9, 3) := by decide +kernel
theorem md_law_14 : decode code 14 = .ok (.aload_n 0, 1) := by decide +kernel
theorem md_law_15 : decode code 15 = .ok (.iconst 2, 1) := by decide +kernel
theorem md_law_16 : decode code 16 = .ok (.invokestatic 9, 3) := by decide +kernel
theorem md_law_19 : decode code 19 = .ok (.invokespecial 15, 3) := by decide +kernel
theorem md_law_22 : decode code 22 = .ok (.astore_n 1, 1) := by decide +kernel
theorem md_law_23 : decode code 23 = .ok (.new 18, 3) := by decide +kernel
theorem md_law_26 : decode code 26 = .ok (.dup, 1) := by decide +kernel
theorem md_law_27 : decode code 27 = .ok (.aload_n 0, 1) := by decide +kernel
theorem md_law_28 : decode code 28 = .ok (.iconst 0, 1) := by decide +kernel
theorem md_law_29 : decode code 29 = .ok (.invokestatic 9, 3) := by decide +kernel
theorem md_law_32 : decode code 32 = .ok (.aload_n 0, 1) := by decide +kernel
theorem md_law_33 : decode code 33 = .ok (.iconst 1, 1) := by decide +kernel
theorem md_law_34 : decode code 34 = .ok (.invokestatic 9, 3) := by decide +kernel
theorem md_law_37 : decode code 37 = .ok (.aload_n 0, 1) := by decide +kernel
theorem md_law_38 : decode code 38 = .ok (.iconst 2, 1) := by decide +kernel
theorem md_law_39 : decode code 39 = .ok (.invokestatic 9, 3) := by decide +kernel
theorem md_law_42 : decode code 42 = .ok (.invokespecial 20, 3) := by decide +kernel
theorem md_law_45 : decode code 45 = .ok (.astore_n 2, 1) := by decide +kernel
theorem md_law_46 : decode code 46 = .ok (.iconst 3, 1) := by decide +kernel
theorem md_law_47 : decode code 47 = .ok (.istore_n 3, 1) := by decide +kernel
theorem md_law_48 : decode code 48 = .ok (.iload_n 3, 1) := by decide +kernel
theorem md_law_49 : decode code 49 = .ok (.aload_n 0, 1) := by decide +kernel
theorem md_law_50 : decode code 50 = .ok (.arraylength, 1) := by decide +kernel
theorem md_law_51 : decode code 51 = .ok (.iconst 4, 1) := by decide +kernel
theorem md_law_52 : decode code 52 = .ok (.isub, 1) := by decide +kernel
theorem md_law_53 : decode code 53 = .ok (.if_icmp .gt 611, 3) := by decide +kernel
theorem md_law_56 : decode code 56 = .ok (.aload_n 0, 1) := by decide +kernel
theorem md_law_57 : decode code 57 = .ok (.iload_n 3, 1) := by decide +kernel
theorem md_law_58 : decode code 58 = .ok (.iaload, 1) := by decide +kernel
theorem md_law_59 : decode code 59 = .ok (.bipush 31, 2) := by decide +kernel
theorem md_law_61 : decode code 61 = .ok (.iand, 1) := by decide +kernel
theorem md_law_62 : decode code 62 = .ok (.tableswitch 596 0 17 #[86, 119, 152, 175, 198, 247, 260, 273, 296, 319, 352, 385, 418, 451, 484, 507, 530, 573], 86) := by decide +kernel
theorem md_law_148 : decode code 148 = .ok (.aload_n 1, 1) := by decide +kernel
theorem md_law_149 : decode code 149 = .ok (.aload_n 0, 1) := by decide +kernel
theorem md_law_150 : decode code 150 = .ok (.iload_n 3, 1) := by decide +kernel
theorem md_law_151 : decode code 151 = .ok (.iconst 1, 1) := by decide +kernel
theorem md_law_152 : decode code 152 = .ok (.iadd, 1) := by decide +kernel
theorem md_law_153 : decode code 153 = .ok (.iaload, 1) := by decide +kernel
theorem md_law_154 : decode code 154 = .ok (.aload_n 0, 1) := by decide +kernel
theorem md_law_155 : decode code 155 = .ok (.iload_n 3, 1) := by decide +kernel
theorem md_law_156 : decode code 156 = .ok (.iconst 2, 1) := by decide +kernel
theorem md_law_157 : decode code 157 = .ok (.iadd, 1) := by decide +kernel
theorem md_law_158 : decode code 158 = .ok (.iaload, 1) := by decide +kernel
theorem md_law_159 : decode code 159 = .ok (.invokevirtual 21, 3) := by decide +kernel
theorem md_law_162 : decode code 162 = .ok (.aload_n 2, 1) := by decide +kernel
theorem md_law_163 : decode code 163 = .ok (.aload_n 0, 1) := by decide +kernel
theorem md_law_164 : decode code 164 = .ok (.iload_n 3, 1) := by decide +kernel
theorem md_law_165 : decode code 165 = .ok (.iconst 1, 1) := by decide +kernel
theorem md_law_166 : decode code 166 = .ok (.iadd, 1) := by decide +kernel
theorem md_law_167 : decode code 167 = .ok (.iaload, 1) := by decide +kernel
theorem md_law_168 : decode code 168 = .ok (.aload_n 0, 1) := by decide +kernel
theorem md_law_169 : decode code 169 = .ok (.iload_n 3, 1) := by decide +kernel
theorem md_law_170 : decode code 170 = .ok (.iconst 2, 1) := by decide +kernel
theorem md_law_171 : decode code 171 = .ok (.iadd, 1) := by decide +kernel
theorem md_law_172 : decode code 172 = .ok (.iaload, 1) := by decide +kernel
theorem md_law_173 : decode code 173 = .ok (.invokevirtual 25, 3) := by decide +kernel
theorem md_law_176 : decode code 176 = .ok (.if_icmp .eq 482, 3) := by decide +kernel
theorem md_law_179 : decode code 179 = .ok (.iconst 0, 1) := by decide +kernel
theorem md_law_180 : decode code 180 = .ok (.ireturn, 1) := by decide +kernel
theorem md_law_181 : decode code 181 = .ok (.aload_n 1, 1) := by decide +kernel
theorem md_law_182 : decode code 182 = .ok (.aload_n 0, 1) := by decide +kernel
theorem md_law_183 : decode code 183 = .ok (.iload_n 3, 1) := by decide +kernel
theorem md_law_184 : decode code 184 = .ok (.iconst 1, 1) := by decide +kernel
theorem md_law_185 : decode code 185 = .ok (.iadd, 1) := by decide +kernel
theorem md_law_186 : decode code 186 = .ok (.iaload, 1) := by decide +kernel
theorem md_law_187 : decode code 187 = .ok (.aload_n 0, 1) := by decide +kernel
theorem md_law_188 : decode code 188 = .ok (.iload_n 3, 1) := by decide +kernel
theorem md_law_189 : decode code 189 = .ok (.iconst 2, 1) := by decide +kernel
theorem md_law_190 : decode code 190 = .ok (.iadd, 1) := by decide +kernel
theorem md_law_191 : decode code 191 = .ok (.iaload, 1) := by decide +kernel
theorem md_law_192 : decode code 192 = .ok (.invokevirtual 26, 3) := by decide +kernel
theorem md_law_195 : decode code 195 = .ok (.aload_n 2, 1) := by decide +kernel
theorem md_law_196 : decode code 196 = .ok (.aload_n 0, 1) := by decide +kernel
theorem md_law_197 : decode code 197 = .ok (.iload_n 3, 1) := by decide +kernel
theorem md_law_198 : decode code 198 = .ok (.iconst 1, 1) := by decide +kernel
theorem md_law_199 : decode code 199 = .ok (.iadd, 1) := by decide +kernel
theorem md_law_200 : decode code 200 = .ok (.iaload, 1) := by decide +kernel
theorem md_law_201 : decode code 201 = .ok (.aload_n 0, 1) := by decide +kernel
theorem md_law_202 : decode code 202 = .ok (.iload_n 3, 1) := by decide +kernel
theorem md_law_203 : decode code 203 = .ok (.iconst 2, 1) := by decide +kernel
theorem md_law_204 : decode code 204 = .ok (.iadd, 1) := by decide +kernel
theorem md_law_205 : decode code 205 = .ok (.iaload, 1) := by decide +kernel
theorem md_law_206 : decode code 206 = .ok (.invokevirtual 29, 3) := by decide +kernel
theorem md_law_209 : decode code 209 = .ok (.if_icmp .eq 449, 3) := by decide +kernel
theorem md_law_212 : decode code 212 = .ok (.iconst 0, 1) := by decide +kernel
theorem md_law_213 : decode code 213 = .ok (.ireturn, 1) := by decide +kernel
theorem md_law_214 : decode code 214 = .ok (.aload_n 1, 1) := by decide +kernel
theorem md_law_215 : decode code 215 = .ok (.aload_n 0, 1) := by decide +kernel
theorem md_law_216 : decode code 216 = .ok (.iload_n 3, 1) := by decide +kernel
theorem md_law_217 : decode code 217 = .ok (.iconst 1, 1) := by decide +kernel
theorem md_law_218 : decode code 218 = .ok (.iadd, 1) := by decide +kernel
theorem md_law_219 : decode code 219 = .ok (.iaload, 1) := by decide +kernel
theorem md_law_220 : decode code 220 = .ok (.invokevirtual 30, 3) := by decide +kernel
theorem md_law_223 : decode code 223 = .ok (.aload_n 2, 1) := by decide +kernel
theorem md_law_224 : decode code 224 = .ok (.aload_n 0, 1) := by decide +kernel
theorem md_law_225 : decode code 225 = .ok (.iload_n 3, 1) := by decide +kernel
theorem md_law_226 : decode code 226 = .ok (.iconst 1, 1) := by decide +kernel
theorem md_law_227 : decode code 227 = .ok (.iadd, 1) := by decide +kernel
theorem md_law_228 : decode code 228 = .ok (.iaload, 1) := by decide +kernel
theorem md_law_229 : decode code 229 = .ok (.invokevirtual 34, 3) := by decide +kernel
theorem md_law_232 : decode code 232 = .ok (.if_icmp .eq 426, 3) := by decide +kernel
theorem md_law_235 : decode code 235 = .ok (.iconst 0, 1) := by decide +kernel
theorem md_law_236 : decode code 236 = .ok (.ireturn, 1) := by decide +kernel
theorem md_law_237 : decode code 237 = .ok (.aload_n 1, 1) := by decide +kernel
theorem md_law_238 : decode code 238 = .ok (.aload_n 0, 1) := by decide +kernel
theorem md_law_239 : decode code 239 = .ok (.iload_n 3, 1) := by decide +kernel
theorem md_law_240 : decode code 240 = .ok (.iconst 1, 1) := by decide +kernel
theorem md_law_241 : decode code 241 = .ok (.iadd, 1) := by decide +kernel
theorem md_law_242 : decode code 242 = .ok (.iaload, 1) := by decide +kernel
theorem md_law_243 : decode code 243 = .ok (.invokevirtual 35, 3) := by decide +kernel
theorem md_law_246 : decode code 246 = .ok (.aload_n 2, 1) := by decide +kernel
theorem md_law_247 : decode code 247 = .ok (.aload_n 0, 1) := by decide +kernel
theorem md_law_248 : decode code 248 = .ok (.iload_n 3, 1) := by decide +kernel
theorem md_law_249 : decode code 249 = .ok (.iconst 1, 1) := by decide +kernel
theorem md_law_250 : decode code 250 = .ok (.iadd, 1) := by decide +kernel
theorem md_law_251 : decode code 251 = .ok (.iaload, 1) := by decide +kernel
theorem md_law_252 : decode code 252 = .ok (.invokevirtual 39, 3) := by decide +kernel
theorem md_law_255 : decode code 255 = .ok (.if_icmp .eq 403, 3) := by decide +kernel
theorem md_law_258 : decode code 258 = .ok (.iconst 0, 1) := by decide +kernel
theorem md_law_259 : decode code 259 = .ok (.ireturn, 1) := by decide +kernel
theorem md_law_260 : decode code 260 = .ok (.aload_n 1, 1) := by decide +kernel
theorem md_law_261 : decode code 261 = .ok (.aload_n 0, 1) := by decide +kernel
theorem md_law_262 : decode code 262 = .ok (.iload_n 3, 1) := by decide +kernel
theorem md_law_263 : decode code 263 = .ok (.iconst 1, 1) := by decide +kernel
theorem md_law_264 : decode code 264 = .ok (.iadd, 1) := by decide +kernel
theorem md_law_265 : decode code 265 = .ok (.iaload, 1) := by decide +kernel
theorem md_law_266 : decode code 266 = .ok (.aload_n 0, 1) := by decide +kernel
theorem md_law_267 : decode code 267 = .ok (.iload_n 3, 1) := by decide +kernel
theorem md_law_268 : decode code 268 = .ok (.iconst 2, 1) := by decide +kernel
theorem md_law_269 : decode code 269 = .ok (.iadd, 1) := by decide +kernel
theorem md_law_270 : decode code 270 = .ok (.iaload, 1) := by decide +kernel
theorem md_law_271 : decode code 271 = .ok (.ifCond .eq 7, 3) := by decide +kernel
theorem md_law_274 : decode code 274 = .ok (.iconst 1, 1) := by decide +kernel
theorem md_law_275 : decode code 275 = .ok (.goto 4, 3) := by decide +kernel
theorem md_law_278 : decode code 278 = .ok (.iconst 0, 1) := by decide +kernel
theorem md_law_279 : decode code 279 = .ok (.invokevirtual 40, 3) := by decide +kernel
theorem md_law_282 : decode code 282 = .ok (.aload_n 2, 1) := by decide +kernel
theorem md_law_283 : decode code 283 = .ok (.aload_n 0, 1) := by decide +kernel
theorem md_law_284 : decode code 284 = .ok (.iload_n 3, 1) := by decide +kernel
theorem md_law_285 : decode code 285 = .ok (.iconst 1, 1) := by decide +kernel
theorem md_law_286 : decode code 286 = .ok (.iadd, 1) := by decide +kernel
theorem md_law_287 : decode code 287 = .ok (.iaload, 1) := by decide +kernel
theorem md_law_288 : decode code 288 = .ok (.aload_n 0, 1) := by decide +kernel
theorem md_law_289 : decode code 289 = .ok (.iload_n 3, 1) := by decide +kernel
theorem md_law_290 : decode code 290 = .ok (.iconst 2, 1) := by decide +kernel
theorem md_law_291 : decode code 291 = .ok (.iadd, 1) := by decide +kernel
theorem md_law_292 : decode code 292 = .ok (.iaload, 1) := by decide +kernel
theorem md_law_293 : decode code 293 = .ok (.ifCond .eq 7, 3) := by decide +kernel
theorem md_law_296 : decode code 296 = .ok (.iconst 1, 1) := by decide +kernel
theorem md_law_297 : decode code 297 = .ok (.goto 4, 3) := by decide +kernel
theorem md_law_300 : decode code 300 = .ok (.iconst 0, 1) := by decide +kernel
theorem md_law_301 : decode code 301 = .ok (.invokevirtual 44, 3) := by decide +kernel
theorem md_law_304 : decode code 304 = .ok (.if_icmp .eq 354, 3) := by decide +kernel
theorem md_law_307 : decode code 307 = .ok (.iconst 0, 1) := by decide +kernel
theorem md_law_308 : decode code 308 = .ok (.ireturn, 1) := by decide +kernel
theorem md_law_309 : decode code 309 = .ok (.aload_n 1, 1) := by decide +kernel
theorem md_law_310 : decode code 310 = .ok (.invokevirtual 45, 3) := by decide +kernel
theorem md_law_313 : decode code 313 = .ok (.aload_n 2, 1) := by decide +kernel
theorem md_law_314 : decode code 314 = .ok (.invokevirtual 49, 3) := by decide +kernel
theorem md_law_317 : decode code 317 = .ok (.if_icmp .eq 341, 3) := by decide +kernel
theorem md_law_320 : decode code 320 = .ok (.iconst 0, 1) := by decide +kernel
theorem md_law_321 : decode code 321 = .ok (.ireturn, 1) := by decide +kernel
theorem md_law_322 : decode code 322 = .ok (.aload_n 1, 1) := by decide +kernel
theorem md_law_323 : decode code 323 = .ok (.invokevirtual 50, 3) := by decide +kernel
theorem md_law_326 : decode code 326 = .ok (.aload_n 2, 1) := by decide +kernel
theorem md_law_327 : decode code 327 = .ok (.invokevirtual 53, 3) := by decide +kernel
theorem md_law_330 : decode code 330 = .ok (.if_icmp .eq 328, 3) := by decide +kernel
theorem md_law_333 : decode code 333 = .ok (.iconst 0, 1) := by decide +kernel
theorem md_law_334 : decode code 334 = .ok (.ireturn, 1) := by decide +kernel
theorem md_law_335 : decode code 335 = .ok (.aload_n 1, 1) := by decide +kernel
theorem md_law_336 : decode code 336 = .ok (.aload_n 0, 1) := by decide +kernel
theorem md_law_337 : decode code 337 = .ok (.iload_n 3, 1) := by decide +kernel
theorem md_law_338 : decode code 338 = .ok (.iconst 1, 1) := by decide +kernel
theorem md_law_339 : decode code 339 = .ok (.iadd, 1) := by decide +kernel
theorem md_law_340 : decode code 340 = .ok (.iaload, 1) := by decide +kernel
theorem md_law_341 : decode code 341 = .ok (.invokevirtual 54, 3) := by decide +kernel
theorem md_law_344 : decode code 344 = .ok (.aload_n 2, 1) := by decide +kernel
theorem md_law_345 : decode code 345 = .ok (.aload_n 0, 1) := by decide +kernel
theorem md_law_346 : decode code 346 = .ok (.iload_n 3, 1) := by decide +kernel
theorem md_law_347 : decode code 347 = .ok (.iconst 1, 1) := by decide +kernel
theorem md_law_348 : decode code 348 = .ok (.iadd, 1) := by decide +kernel
theorem md_law_349 : decode code 349 = .ok (.iaload, 1) := by decide +kernel
theorem md_law_350 : decode code 350 = .ok (.invokevirtual 57, 3) := by decide +kernel
theorem md_law_353 : decode code 353 = .ok (.if_icmp .eq 305, 3) := by decide +kernel
theorem md_law_356 : decode code 356 = .ok (.iconst 0, 1) := by decide +kernel
theorem md_law_357 : decode code 357 = .ok (.ireturn, 1) := by decide +kernel
theorem md_law_358 : decode code 358 = .ok (.aload_n 1, 1) := by decide +kernel
theorem md_law_359 : decode code 359 = .ok (.aload_n 0, 1) := by decide +kernel
theorem md_law_360 : decode code 360 = .ok (.iload_n 3, 1) := by decide +kernel
theorem md_law_361 : decode code 361 = .ok (.iconst 1, 1) := by decide +kernel
theorem md_law_362 : decode code 362 = .ok (.iadd, 1) := by decide +kernel
theorem md_law_363 : decode code 363 = .ok (.iaload, 1) := by decide +kernel
theorem md_law_364 : decode code 364 = .ok (.invokevirtual 58, 3) := by decide +kernel
theorem md_law_367 : decode code 367 = .ok (.aload_n 2, 1) := by decide +kernel
theorem md_law_368 : decode code 368 = .ok (.aload_n 0, 1) := by decide +kernel
theorem md_law_369 : decode code 369 = .ok (.iload_n 3, 1) := by decide +kernel
theorem md_law_370 : decode code 370 = .ok (.iconst 1, 1) := by decide +kernel
theorem md_law_371 : decode code 371 = .ok (.iadd, 1) := by decide +kernel
theorem md_law_372 : decode code 372 = .ok (.iaload, 1) := by decide +kernel
theorem md_law_373 : decode code 373 = .ok (.invokevirtual 61, 3) := by decide +kernel
theorem md_law_376 : decode code 376 = .ok (.if_icmp .eq 282, 3) := by decide +kernel
theorem md_law_379 : decode code 379 = .ok (.iconst 0, 1) := by decide +kernel
theorem md_law_380 : decode code 380 = .ok (.ireturn, 1) := by decide +kernel
theorem md_law_381 : decode code 381 = .ok (.aload_n 1, 1) := by decide +kernel
theorem md_law_382 : decode code 382 = .ok (.aload_n 0, 1) := by decide +kernel
theorem md_law_383 : decode code 383 = .ok (.iload_n 3, 1) := by decide +kernel
theorem md_law_384 : decode code 384 = .ok (.iconst 1, 1) := by decide +kernel
theorem md_law_385 : decode code 385 = .ok (.iadd, 1) := by decide +kernel
theorem md_law_386 : decode code 386 = .ok (.iaload, 1) := by decide +kernel
theorem md_law_387 : decode code 387 = .ok (.aload_n 0, 1) := by decide +kernel
theorem md_law_388 : decode code 388 = .ok (.iload_n 3, 1) := by decide +kernel
theorem md_law_389 : decode code 389 = .ok (.iconst 2, 1) := by decide +kernel
theorem md_law_390 : decode code 390 = .ok (.iadd, 1) := by decide +kernel
theorem md_law_391 : decode code 391 = .ok (.iaload, 1) := by decide +kernel
theorem md_law_392 : decode code 392 = .ok (.invokevirtual 62, 3) := by decide +kernel
theorem md_law_395 : decode code 395 = .ok (.aload_n 2, 1) := by decide +kernel
theorem md_law_396 : decode code 396 = .ok (.aload_n 0, 1) := by decide +kernel
theorem md_law_397 : decode code 397 = .ok (.iload_n 3, 1) := by decide +kernel
theorem md_law_398 : decode code 398 = .ok (.iconst 1, 1) := by decide +kernel
theorem md_law_399 : decode code 399 = .ok (.iadd, 1) := by decide +kernel
theorem md_law_400 : decode code 400 = .ok (.iaload, 1) := by decide +kernel
theorem md_law_401 : decode code 401 = .ok (.aload_n 0, 1) := by decide +kernel
theorem md_law_402 : decode code 402 = .ok (.iload_n 3, 1) := by decide +kernel
theorem md_law_403 : decode code 403 = .ok (.iconst 2, 1) := by decide +kernel
theorem md_law_404 : decode code 404 = .ok (.iadd, 1) := by decide +kernel
theorem md_law_405 : decode code 405 = .ok (.iaload, 1) := by decide +kernel
theorem md_law_406 : decode code 406 = .ok (.invokevirtual 65, 3) := by decide +kernel
theorem md_law_409 : decode code 409 = .ok (.if_icmp .eq 249, 3) := by decide +kernel
theorem md_law_412 : decode code 412 = .ok (.iconst 0, 1) := by decide +kernel
theorem md_law_413 : decode code 413 = .ok (.ireturn, 1) := by decide +kernel
theorem md_law_414 : decode code 414 = .ok (.aload_n 1, 1) := by decide +kernel
theorem md_law_415 : decode code 415 = .ok (.aload_n 0, 1) := by decide +kernel
theorem md_law_416 : decode code 416 = .ok (.iload_n 3, 1) := by decide +kernel
theorem md_law_417 : decode code 417 = .ok (.iconst 1, 1) := by decide +kernel
theorem md_law_418 : decode code 418 = .ok (.iadd, 1) := by decide +kernel
theorem md_law_419 : decode code 419 = .ok (.iaload, 1) := by decide +kernel
theorem md_law_420 : decode code 420 = .ok (.aload_n 0, 1) := by decide +kernel
theorem md_law_421 : decode code 421 = .ok (.iload_n 3, 1) := by decide +kernel
theorem md_law_422 : decode code 422 = .ok (.iconst 2, 1) := by decide +kernel
theorem md_law_423 : decode code 423 = .ok (.iadd, 1) := by decide +kernel
theorem md_law_424 : decode code 424 = .ok (.iaload, 1) := by decide +kernel
theorem md_law_425 : decode code 425 = .ok (.invokevirtual 66, 3) := by decide +kernel
theorem md_law_428 : decode code 428 = .ok (.aload_n 2, 1) := by decide +kernel
theorem md_law_429 : decode code 429 = .ok (.aload_n 0, 1) := by decide +kernel
theorem md_law_430 : decode code 430 = .ok (.iload_n 3, 1) := by decide +kernel
theorem md_law_431 : decode code 431 = .ok (.iconst 1, 1) := by decide +kernel
theorem md_law_432 : decode code 432 = .ok (.iadd, 1) := by decide +kernel
theorem md_law_433 : decode code 433 = .ok (.iaload, 1) := by decide +kernel
theorem md_law_434 : decode code 434 = .ok (.aload_n 0, 1) := by decide +kernel
theorem md_law_435 : decode code 435 = .ok (.iload_n 3, 1) := by decide +kernel
theorem md_law_436 : decode code 436 = .ok (.iconst 2, 1) := by decide +kernel
theorem md_law_437 : decode code 437 = .ok (.iadd, 1) := by decide +kernel
theorem md_law_438 : decode code 438 = .ok (.iaload, 1) := by decide +kernel
theorem md_law_439 : decode code 439 = .ok (.invokevirtual 69, 3) := by decide +kernel
theorem md_law_442 : decode code 442 = .ok (.if_icmp .eq 216, 3) := by decide +kernel
theorem md_law_445 : decode code 445 = .ok (.iconst 0, 1) := by decide +kernel
theorem md_law_446 : decode code 446 = .ok (.ireturn, 1) := by decide +kernel
theorem md_law_447 : decode code 447 = .ok (.aload_n 1, 1) := by decide +kernel
theorem md_law_448 : decode code 448 = .ok (.aload_n 0, 1) := by decide +kernel
theorem md_law_449 : decode code 449 = .ok (.iload_n 3, 1) := by decide +kernel
theorem md_law_450 : decode code 450 = .ok (.iconst 1, 1) := by decide +kernel
theorem md_law_451 : decode code 451 = .ok (.iadd, 1) := by decide +kernel
theorem md_law_452 : decode code 452 = .ok (.iaload, 1) := by decide +kernel
theorem md_law_453 : decode code 453 = .ok (.aload_n 0, 1) := by decide +kernel
theorem md_law_454 : decode code 454 = .ok (.iload_n 3, 1) := by decide +kernel
theorem md_law_455 : decode code 455 = .ok (.iconst 2, 1) := by decide +kernel
theorem md_law_456 : decode code 456 = .ok (.iadd, 1) := by decide +kernel
theorem md_law_457 : decode code 457 = .ok (.iaload, 1) := by decide +kernel
theorem md_law_458 : decode code 458 = .ok (.invokevirtual 70, 3) := by decide +kernel
theorem md_law_461 : decode code 461 = .ok (.aload_n 2, 1) := by decide +kernel
theorem md_law_462 : decode code 462 = .ok (.aload_n 0, 1) := by decide +kernel
theorem md_law_463 : decode code 463 = .ok (.iload_n 3, 1) := by decide +kernel
theorem md_law_464 : decode code 464 = .ok (.iconst 1, 1) := by decide +kernel
theorem md_law_465 : decode code 465 = .ok (.iadd, 1) := by decide +kernel
theorem md_law_466 : decode code 466 = .ok (.iaload, 1) := by decide +kernel
theorem md_law_467 : decode code 467 = .ok (.aload_n 0, 1) := by decide +kernel
theorem md_law_468 : decode code 468 = .ok (.iload_n 3, 1) := by decide +kernel
theorem md_law_469 : decode code 469 = .ok (.iconst 2, 1) := by decide +kernel
theorem md_law_470 : decode code 470 = .ok (.iadd, 1) := by decide +kernel
theorem md_law_471 : decode code 471 = .ok (.iaload, 1) := by decide +kernel
theorem md_law_472 : decode code 472 = .ok (.invokevirtual 73, 3) := by decide +kernel
theorem md_law_475 : decode code 475 = .ok (.if_icmp .eq 183, 3) := by decide +kernel
theorem md_law_478 : decode code 478 = .ok (.iconst 0, 1) := by decide +kernel
theorem md_law_479 : decode code 479 = .ok (.ireturn, 1) := by decide +kernel
theorem md_law_480 : decode code 480 = .ok (.aload_n 1, 1) := by decide +kernel
theorem md_law_481 : decode code 481 = .ok (.aload_n 0, 1) := by decide +kernel
theorem md_law_482 : decode code 482 = .ok (.iload_n 3, 1) := by decide +kernel
theorem md_law_483 : decode code 483 = .ok (.iconst 1, 1) := by decide +kernel
theorem md_law_484 : decode code 484 = .ok (.iadd, 1) := by decide +kernel
theorem md_law_485 : decode code 485 = .ok (.iaload, 1) := by decide +kernel
theorem md_law_486 : decode code 486 = .ok (.aload_n 0, 1) := by decide +kernel
theorem md_law_487 : decode code 487 = .ok (.iload_n 3, 1) := by decide +kernel
theorem md_law_488 : decode code 488 = .ok (.iconst 2, 1) := by decide +kernel
theorem md_law_489 : decode code 489 = .ok (.iadd, 1) := by decide +kernel
theorem md_law_490 : decode code 490 = .ok (.iaload, 1) := by decide +kernel
theorem md_law_491 : decode code 491 = .ok (.invokevirtual 74, 3) := by decide +kernel
theorem md_law_494 : decode code 494 = .ok (.aload_n 2, 1) := by decide +kernel
theorem md_law_495 : decode code 495 = .ok (.aload_n 0, 1) := by decide +kernel
theorem md_law_496 : decode code 496 = .ok (.iload_n 3, 1) := by decide +kernel
theorem md_law_497 : decode code 497 = .ok (.iconst 1, 1) := by decide +kernel
theorem md_law_498 : decode code 498 = .ok (.iadd, 1) := by decide +kernel
theorem md_law_499 : decode code 499 = .ok (.iaload, 1) := by decide +kernel
theorem md_law_500 : decode code 500 = .ok (.aload_n 0, 1) := by decide +kernel
theorem md_law_501 : decode code 501 = .ok (.iload_n 3, 1) := by decide +kernel
theorem md_law_502 : decode code 502 = .ok (.iconst 2, 1) := by decide +kernel
theorem md_law_503 : decode code 503 = .ok (.iadd, 1) := by decide +kernel
theorem md_law_504 : decode code 504 = .ok (.iaload, 1) := by decide +kernel
theorem md_law_505 : decode code 505 = .ok (.invokevirtual 77, 3) := by decide +kernel
theorem md_law_508 : decode code 508 = .ok (.if_icmp .eq 150, 3) := by decide +kernel
theorem md_law_511 : decode code 511 = .ok (.iconst 0, 1) := by decide +kernel
theorem md_law_512 : decode code 512 = .ok (.ireturn, 1) := by decide +kernel
theorem md_law_513 : decode code 513 = .ok (.aload_n 1, 1) := by decide +kernel
theorem md_law_514 : decode code 514 = .ok (.aload_n 0, 1) := by decide +kernel
theorem md_law_515 : decode code 515 = .ok (.iload_n 3, 1) := by decide +kernel
theorem md_law_516 : decode code 516 = .ok (.iconst 1, 1) := by decide +kernel
theorem md_law_517 : decode code 517 = .ok (.iadd, 1) := by decide +kernel
theorem md_law_518 : decode code 518 = .ok (.iaload, 1) := by decide +kernel
theorem md_law_519 : decode code 519 = .ok (.aload_n 0, 1) := by decide +kernel
theorem md_law_520 : decode code 520 = .ok (.iload_n 3, 1) := by decide +kernel
theorem md_law_521 : decode code 521 = .ok (.iconst 2, 1) := by decide +kernel
theorem md_law_522 : decode code 522 = .ok (.iadd, 1) := by decide +kernel
theorem md_law_523 : decode code 523 = .ok (.iaload, 1) := by decide +kernel
theorem md_law_524 : decode code 524 = .ok (.invokevirtual 78, 3) := by decide +kernel
theorem md_law_527 : decode code 527 = .ok (.aload_n 2, 1) := by decide +kernel
theorem md_law_528 : decode code 528 = .ok (.aload_n 0, 1) := by decide +kernel
theorem md_law_529 : decode code 529 = .ok (.iload_n 3, 1) := by decide +kernel
theorem md_law_530 : decode code 530 = .ok (.iconst 1, 1) := by decide +kernel
theorem md_law_531 : decode code 531 = .ok (.iadd, 1) := by decide +kernel
theorem md_law_532 : decode code 532 = .ok (.iaload, 1) := by decide +kernel
theorem md_law_533 : decode code 533 = .ok (.aload_n 0, 1) := by decide +kernel
theorem md_law_534 : decode code 534 = .ok (.iload_n 3, 1) := by decide +kernel
theorem md_law_535 : decode code 535 = .ok (.iconst 2, 1) := by decide +kernel
theorem md_law_536 : decode code 536 = .ok (.iadd, 1) := by decide +kernel
theorem md_law_537 : decode code 537 = .ok (.iaload, 1) := by decide +kernel
theorem md_law_538 : decode code 538 = .ok (.invokevirtual 81, 3) := by decide +kernel
theorem md_law_541 : decode code 541 = .ok (.if_icmp .eq 117, 3) := by decide +kernel
theorem md_law_544 : decode code 544 = .ok (.iconst 0, 1) := by decide +kernel
theorem md_law_545 : decode code 545 = .ok (.ireturn, 1) := by decide +kernel
theorem md_law_546 : decode code 546 = .ok (.aload_n 1, 1) := by decide +kernel
theorem md_law_547 : decode code 547 = .ok (.aload_n 0, 1) := by decide +kernel
theorem md_law_548 : decode code 548 = .ok (.iload_n 3, 1) := by decide +kernel
theorem md_law_549 : decode code 549 = .ok (.iconst 1, 1) := by decide +kernel
theorem md_law_550 : decode code 550 = .ok (.iadd, 1) := by decide +kernel
theorem md_law_551 : decode code 551 = .ok (.iaload, 1) := by decide +kernel
theorem md_law_552 : decode code 552 = .ok (.invokevirtual 82, 3) := by decide +kernel
theorem md_law_555 : decode code 555 = .ok (.aload_n 2, 1) := by decide +kernel
theorem md_law_556 : decode code 556 = .ok (.aload_n 0, 1) := by decide +kernel
theorem md_law_557 : decode code 557 = .ok (.iload_n 3, 1) := by decide +kernel
theorem md_law_558 : decode code 558 = .ok (.iconst 1, 1) := by decide +kernel
theorem md_law_559 : decode code 559 = .ok (.iadd, 1) := by decide +kernel
theorem md_law_560 : decode code 560 = .ok (.iaload, 1) := by decide +kernel
theorem md_law_561 : decode code 561 = .ok (.invokevirtual 85, 3) := by decide +kernel
theorem md_law_564 : decode code 564 = .ok (.if_icmp .eq 94, 3) := by decide +kernel
theorem md_law_567 : decode code 567 = .ok (.iconst 0, 1) := by decide +kernel
theorem md_law_568 : decode code 568 = .ok (.ireturn, 1) := by decide +kernel
theorem md_law_569 : decode code 569 = .ok (.aload_n 1, 1) := by decide +kernel
theorem md_law_570 : decode code 570 = .ok (.aload_n 0, 1) := by decide +kernel
theorem md_law_571 : decode code 571 = .ok (.iload_n 3, 1) := by decide +kernel
theorem md_law_572 : decode code 572 = .ok (.iconst 1, 1) := by decide +kernel
theorem md_law_573 : decode code 573 = .ok (.iadd, 1) := by decide +kernel
theorem md_law_574 : decode code 574 = .ok (.iaload, 1) := by decide +kernel
theorem md_law_575 : decode code 575 = .ok (.invokevirtual 86, 3) := by decide +kernel
theorem md_law_578 : decode code 578 = .ok (.aload_n 2, 1) := by decide +kernel
theorem md_law_579 : decode code 579 = .ok (.aload_n 0, 1) := by decide +kernel
theorem md_law_580 : decode code 580 = .ok (.iload_n 3, 1) := by decide +kernel
theorem md_law_581 : decode code 581 = .ok (.iconst 1, 1) := by decide +kernel
theorem md_law_582 : decode code 582 = .ok (.iadd, 1) := by decide +kernel
theorem md_law_583 : decode code 583 = .ok (.iaload, 1) := by decide +kernel
theorem md_law_584 : decode code 584 = .ok (.invokevirtual 89, 3) := by decide +kernel
theorem md_law_587 : decode code 587 = .ok (.if_icmp .eq 71, 3) := by decide +kernel
theorem md_law_590 : decode code 590 = .ok (.iconst 0, 1) := by decide +kernel
theorem md_law_591 : decode code 591 = .ok (.ireturn, 1) := by decide +kernel
theorem md_law_592 : decode code 592 = .ok (.aload_n 1, 1) := by decide +kernel
theorem md_law_593 : decode code 593 = .ok (.aload_n 0, 1) := by decide +kernel
theorem md_law_594 : decode code 594 = .ok (.iload_n 3, 1) := by decide +kernel
theorem md_law_595 : decode code 595 = .ok (.iconst 1, 1) := by decide +kernel
theorem md_law_596 : decode code 596 = .ok (.iadd, 1) := by decide +kernel
theorem md_law_597 : decode code 597 = .ok (.iaload, 1) := by decide +kernel
theorem md_law_598 : decode code 598 = .ok (.aload_n 0, 1) := by decide +kernel
theorem md_law_599 : decode code 599 = .ok (.iload_n 3, 1) := by decide +kernel
theorem md_law_600 : decode code 600 = .ok (.iconst 2, 1) := by decide +kernel
theorem md_law_601 : decode code 601 = .ok (.iadd, 1) := by decide +kernel
theorem md_law_602 : decode code 602 = .ok (.iaload, 1) := by decide +kernel
theorem md_law_603 : decode code 603 = .ok (.aload_n 0, 1) := by decide +kernel
theorem md_law_604 : decode code 604 = .ok (.iload_n 3, 1) := by decide +kernel
theorem md_law_605 : decode code 605 = .ok (.iconst 3, 1) := by decide +kernel
theorem md_law_606 : decode code 606 = .ok (.iadd, 1) := by decide +kernel
theorem md_law_607 : decode code 607 = .ok (.iaload, 1) := by decide +kernel
theorem md_law_608 : decode code 608 = .ok (.invokevirtual 90, 3) := by decide +kernel
theorem md_law_611 : decode code 611 = .ok (.aload_n 2, 1) := by decide +kernel
theorem md_law_612 : decode code 612 = .ok (.aload_n 0, 1) := by decide +kernel
theorem md_law_613 : decode code 613 = .ok (.iload_n 3, 1) := by decide +kernel
theorem md_law_614 : decode code 614 = .ok (.iconst 1, 1) := by decide +kernel
theorem md_law_615 : decode code 615 = .ok (.iadd, 1) := by decide +kernel
theorem md_law_616 : decode code 616 = .ok (.iaload, 1) := by decide +kernel
theorem md_law_617 : decode code 617 = .ok (.aload_n 0, 1) := by decide +kernel
theorem md_law_618 : decode code 618 = .ok (.iload_n 3, 1) := by decide +kernel
theorem md_law_619 : decode code 619 = .ok (.iconst 2, 1) := by decide +kernel
theorem md_law_620 : decode code 620 = .ok (.iadd, 1) := by decide +kernel
theorem md_law_621 : decode code 621 = .ok (.iaload, 1) := by decide +kernel
theorem md_law_622 : decode code 622 = .ok (.aload_n 0, 1) := by decide +kernel
theorem md_law_623 : decode code 623 = .ok (.iload_n 3, 1) := by decide +kernel
theorem md_law_624 : decode code 624 = .ok (.iconst 3, 1) := by decide +kernel
theorem md_law_625 : decode code 625 = .ok (.iadd, 1) := by decide +kernel
theorem md_law_626 : decode code 626 = .ok (.iaload, 1) := by decide +kernel
theorem md_law_627 : decode code 627 = .ok (.invokevirtual 94, 3) := by decide +kernel
theorem md_law_630 : decode code 630 = .ok (.if_icmp .eq 28, 3) := by decide +kernel
theorem md_law_633 : decode code 633 = .ok (.iconst 0, 1) := by decide +kernel
theorem md_law_634 : decode code 634 = .ok (.ireturn, 1) := by decide +kernel
theorem md_law_635 : decode code 635 = .ok (.aload_n 1, 1) := by decide +kernel
theorem md_law_636 : decode code 636 = .ok (.aload_n 0, 1) := by decide +kernel
theorem md_law_637 : decode code 637 = .ok (.iload_n 3, 1) := by decide +kernel
theorem md_law_638 : decode code 638 = .ok (.iconst 1, 1) := by decide +kernel
theorem md_law_639 : decode code 639 = .ok (.iadd, 1) := by decide +kernel
theorem md_law_640 : decode code 640 = .ok (.iaload, 1) := by decide +kernel
theorem md_law_641 : decode code 641 = .ok (.invokevirtual 95, 3) := by decide +kernel
theorem md_law_644 : decode code 644 = .ok (.aload_n 2, 1) := by decide +kernel
theorem md_law_645 : decode code 645 = .ok (.aload_n 0, 1) := by decide +kernel
theorem md_law_646 : decode code 646 = .ok (.iload_n 3, 1) := by decide +kernel
theorem md_law_647 : decode code 647 = .ok (.iconst 1, 1) := by decide +kernel
theorem md_law_648 : decode code 648 = .ok (.iadd, 1) := by decide +kernel
theorem md_law_649 : decode code 649 = .ok (.iaload, 1) := by decide +kernel
theorem md_law_650 : decode code 650 = .ok (.invokevirtual 98, 3) := by decide +kernel
theorem md_law_653 : decode code 653 = .ok (.if_icmp .eq 5, 3) := by decide +kernel
theorem md_law_656 : decode code 656 = .ok (.iconst 0, 1) := by decide +kernel
theorem md_law_657 : decode code 657 = .ok (.ireturn, 1) := by decide +kernel
theorem md_law_658 : decode code 658 = .ok (.iinc 3 4, 3) := by decide +kernel
theorem md_law_661 : decode code 661 = .ok (.goto (-613), 3) := by decide +kernel
theorem md_law_664 : decode code 664 = .ok (.iconst 1, 1) := by decide +kernel
theorem md_law_665 : decode code 665 = .ok (.ireturn, 1) := by decide +kernel
