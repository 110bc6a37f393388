theorem dl_0 : decode code 0 = .ok (.new 7, 3) := by decide +kernel
theorem dl_3 : decode code 3 = .ok (.dup, 1) := by decide +kernel
theorem dl_4 : decode code 4 = .ok (.invokespecial 9, 3) := by decide +kernel
theorem dl_7 : decode code 7 = .ok (.astore_n 1, 1) := by decide +kernel
theorem dl_8 : decode code 8 = .ok (.new 10, 3) := by decide +kernel
theorem dl_11 : decode code 11 = .ok (.dup, 1) := by decide +kernel
theorem dl_12 : decode code 12 = .ok (.invokespecial 12, 3) := by decide +kernel
theorem dl_15 : decode code 15 = .ok (.astore_n 2, 1) := by decide +kernel
theorem dl_16 : decode code 16 = .ok (.iconst 0, 1) := by decide +kernel
theorem dl_17 : decode code 17 = .ok (.istore_n 3, 1) := by decide +kernel
theorem dl_18 : decode code 18 = .ok (.iload_n 3, 1) := by decide +kernel
theorem dl_19 : decode code 19 = .ok (.aload_n 0, 1) := by decide +kernel
theorem dl_20 : decode code 20 = .ok (.arraylength, 1) := by decide +kernel
theorem dl_21 : decode code 21 = .ok (.bipush 8, 2) := by decide +kernel
theorem dl_23 : decode code 23 = .ok (.isub, 1) := by decide +kernel
theorem dl_24 : decode code 24 = .ok (.if_icmp .gt 766, 3) := by decide +kernel
theorem dl_27 : decode code 27 = .ok (.aload_n 0, 1) := by decide +kernel
theorem dl_28 : decode code 28 = .ok (.iload_n 3, 1) := by decide +kernel
theorem dl_29 : decode code 29 = .ok (.iaload, 1) := by decide +kernel
theorem dl_30 : decode code 30 = .ok (.bipush 31, 2) := by decide +kernel
theorem dl_32 : decode code 32 = .ok (.iand, 1) := by decide +kernel
theorem dl_33 : decode code 33 = .ok (.tableswitch 751 0 17 #[87, 150, 173, 186, 199, 222, 245, 348, 391, 444, 467, 510, 563, 606, 629, 672, 695, 728], 87) := by decide +kernel
theorem dl_120 : decode code 120 = .ok (.aload_n 1, 1) := by decide +kernel
theorem dl_121 : decode code 121 = .ok (.aload_n 0, 1) := by decide +kernel
theorem dl_122 : decode code 122 = .ok (.iload_n 3, 1) := by decide +kernel
theorem dl_123 : decode code 123 = .ok (.iconst 1, 1) := by decide +kernel
theorem dl_124 : decode code 124 = .ok (.iadd, 1) := by decide +kernel
theorem dl_125 : decode code 125 = .ok (.iaload, 1) := by decide +kernel
theorem dl_126 : decode code 126 = .ok (.aload_n 0, 1) := by decide +kernel
theorem dl_127 : decode code 127 = .ok (.iload_n 3, 1) := by decide +kernel
theorem dl_128 : decode code 128 = .ok (.iconst 2, 1) := by decide +kernel
theorem dl_129 : decode code 129 = .ok (.iadd, 1) := by decide +kernel
theorem dl_130 : decode code 130 = .ok (.iaload, 1) := by decide +kernel
theorem dl_131 : decode code 131 = .ok (.aload_n 0, 1) := by decide +kernel
theorem dl_132 : decode code 132 = .ok (.iload_n 3, 1) := by decide +kernel
theorem dl_133 : decode code 133 = .ok (.iconst 3, 1) := by decide +kernel
theorem dl_134 : decode code 134 = .ok (.iadd, 1) := by decide +kernel
theorem dl_135 : decode code 135 = .ok (.iaload, 1) := by decide +kernel
theorem dl_136 : decode code 136 = .ok (.aload_n 0, 1) := by decide +kernel
theorem dl_137 : decode code 137 = .ok (.iload_n 3, 1) := by decide +kernel
theorem dl_138 : decode code 138 = .ok (.iconst 4, 1) := by decide +kernel
theorem dl_139 : decode code 139 = .ok (.iadd, 1) := by decide +kernel
theorem dl_140 : decode code 140 = .ok (.iaload, 1) := by decide +kernel
theorem dl_141 : decode code 141 = .ok (.aload_n 0, 1) := by decide +kernel
theorem dl_142 : decode code 142 = .ok (.iload_n 3, 1) := by decide +kernel
theorem dl_143 : decode code 143 = .ok (.iconst 5, 1) := by decide +kernel
theorem dl_144 : decode code 144 = .ok (.iadd, 1) := by decide +kernel
theorem dl_145 : decode code 145 = .ok (.iaload, 1) := by decide +kernel
theorem dl_146 : decode code 146 = .ok (.invokevirtual 13, 3) := by decide +kernel
theorem dl_149 : decode code 149 = .ok (.aload_n 2, 1) := by decide +kernel
theorem dl_150 : decode code 150 = .ok (.aload_n 0, 1) := by decide +kernel
theorem dl_151 : decode code 151 = .ok (.iload_n 3, 1) := by decide +kernel
theorem dl_152 : decode code 152 = .ok (.iconst 1, 1) := by decide +kernel
theorem dl_153 : decode code 153 = .ok (.iadd, 1) := by decide +kernel
theorem dl_154 : decode code 154 = .ok (.iaload, 1) := by decide +kernel
theorem dl_155 : decode code 155 = .ok (.aload_n 0, 1) := by decide +kernel
theorem dl_156 : decode code 156 = .ok (.iload_n 3, 1) := by decide +kernel
theorem dl_157 : decode code 157 = .ok (.iconst 2, 1) := by decide +kernel
theorem dl_158 : decode code 158 = .ok (.iadd, 1) := by decide +kernel
theorem dl_159 : decode code 159 = .ok (.iaload, 1) := by decide +kernel
theorem dl_160 : decode code 160 = .ok (.aload_n 0, 1) := by decide +kernel
theorem dl_161 : decode code 161 = .ok (.iload_n 3, 1) := by decide +kernel
theorem dl_162 : decode code 162 = .ok (.iconst 3, 1) := by decide +kernel
theorem dl_163 : decode code 163 = .ok (.iadd, 1) := by decide +kernel
theorem dl_164 : decode code 164 = .ok (.iaload, 1) := by decide +kernel
theorem dl_165 : decode code 165 = .ok (.aload_n 0, 1) := by decide +kernel
theorem dl_166 : decode code 166 = .ok (.iload_n 3, 1) := by decide +kernel
theorem dl_167 : decode code 167 = .ok (.iconst 4, 1) := by decide +kernel
theorem dl_168 : decode code 168 = .ok (.iadd, 1) := by decide +kernel
theorem dl_169 : decode code 169 = .ok (.iaload, 1) := by decide +kernel
theorem dl_170 : decode code 170 = .ok (.aload_n 0, 1) := by decide +kernel
theorem dl_171 : decode code 171 = .ok (.iload_n 3, 1) := by decide +kernel
theorem dl_172 : decode code 172 = .ok (.iconst 5, 1) := by decide +kernel
theorem dl_173 : decode code 173 = .ok (.iadd, 1) := by decide +kernel
theorem dl_174 : decode code 174 = .ok (.iaload, 1) := by decide +kernel
theorem dl_175 : decode code 175 = .ok (.invokevirtual 17, 3) := by decide +kernel
theorem dl_178 : decode code 178 = .ok (.if_icmp .eq 606, 3) := by decide +kernel
theorem dl_181 : decode code 181 = .ok (.iconst 0, 1) := by decide +kernel
theorem dl_182 : decode code 182 = .ok (.ireturn, 1) := by decide +kernel
theorem dl_183 : decode code 183 = .ok (.aload_n 1, 1) := by decide +kernel
theorem dl_184 : decode code 184 = .ok (.aload_n 0, 1) := by decide +kernel
theorem dl_185 : decode code 185 = .ok (.iload_n 3, 1) := by decide +kernel
theorem dl_186 : decode code 186 = .ok (.iconst 1, 1) := by decide +kernel
theorem dl_187 : decode code 187 = .ok (.iadd, 1) := by decide +kernel
theorem dl_188 : decode code 188 = .ok (.iaload, 1) := by decide +kernel
theorem dl_189 : decode code 189 = .ok (.invokevirtual 18, 3) := by decide +kernel
theorem dl_192 : decode code 192 = .ok (.aload_n 2, 1) := by decide +kernel
theorem dl_193 : decode code 193 = .ok (.aload_n 0, 1) := by decide +kernel
theorem dl_194 : decode code 194 = .ok (.iload_n 3, 1) := by decide +kernel
theorem dl_195 : decode code 195 = .ok (.iconst 1, 1) := by decide +kernel
theorem dl_196 : decode code 196 = .ok (.iadd, 1) := by decide +kernel
theorem dl_197 : decode code 197 = .ok (.iaload, 1) := by decide +kernel
theorem dl_198 : decode code 198 = .ok (.invokevirtual 22, 3) := by decide +kernel
theorem dl_201 : decode code 201 = .ok (.if_icmp .eq 583, 3) := by decide +kernel
theorem dl_204 : decode code 204 = .ok (.iconst 0, 1) := by decide +kernel
theorem dl_205 : decode code 205 = .ok (.ireturn, 1) := by decide +kernel
theorem dl_206 : decode code 206 = .ok (.aload_n 1, 1) := by decide +kernel
theorem dl_207 : decode code 207 = .ok (.invokevirtual 23, 3) := by decide +kernel
theorem dl_210 : decode code 210 = .ok (.aload_n 2, 1) := by decide +kernel
theorem dl_211 : decode code 211 = .ok (.invokevirtual 27, 3) := by decide +kernel
theorem dl_214 : decode code 214 = .ok (.if_icmp .eq 570, 3) := by decide +kernel
theorem dl_217 : decode code 217 = .ok (.iconst 0, 1) := by decide +kernel
theorem dl_218 : decode code 218 = .ok (.ireturn, 1) := by decide +kernel
theorem dl_219 : decode code 219 = .ok (.aload_n 1, 1) := by decide +kernel
theorem dl_220 : decode code 220 = .ok (.invokevirtual 28, 3) := by decide +kernel
theorem dl_223 : decode code 223 = .ok (.aload_n 2, 1) := by decide +kernel
theorem dl_224 : decode code 224 = .ok (.invokevirtual 31, 3) := by decide +kernel
theorem dl_227 : decode code 227 = .ok (.if_icmp .eq 557, 3) := by decide +kernel
theorem dl_230 : decode code 230 = .ok (.iconst 0, 1) := by decide +kernel
theorem dl_231 : decode code 231 = .ok (.ireturn, 1) := by decide +kernel
theorem dl_232 : decode code 232 = .ok (.aload_n 1, 1) := by decide +kernel
theorem dl_233 : decode code 233 = .ok (.aload_n 0, 1) := by decide +kernel
theorem dl_234 : decode code 234 = .ok (.iload_n 3, 1) := by decide +kernel
theorem dl_235 : decode code 235 = .ok (.iconst 1, 1) := by decide +kernel
theorem dl_236 : decode code 236 = .ok (.iadd, 1) := by decide +kernel
theorem dl_237 : decode code 237 = .ok (.iaload, 1) := by decide +kernel
theorem dl_238 : decode code 238 = .ok (.invokevirtual 32, 3) := by decide +kernel
theorem dl_241 : decode code 241 = .ok (.aload_n 2, 1) := by decide +kernel
theorem dl_242 : decode code 242 = .ok (.aload_n 0, 1) := by decide +kernel
theorem dl_243 : decode code 243 = .ok (.iload_n 3, 1) := by decide +kernel
theorem dl_244 : decode code 244 = .ok (.iconst 1, 1) := by decide +kernel
theorem dl_245 : decode code 245 = .ok (.iadd, 1) := by decide +kernel
theorem dl_246 : decode code 246 = .ok (.iaload, 1) := by decide +kernel
theorem dl_247 : decode code 247 = .ok (.invokevirtual 36, 3) := by decide +kernel
theorem dl_250 : decode code 250 = .ok (.if_icmp .eq 534, 3) := by decide +kernel
theorem dl_253 : decode code 253 = .ok (.iconst 0, 1) := by decide +kernel
theorem dl_254 : decode code 254 = .ok (.ireturn, 1) := by decide +kernel
theorem dl_255 : decode code 255 = .ok (.aload_n 1, 1) := by decide +kernel
theorem dl_256 : decode code 256 = .ok (.aload_n 0, 1) := by decide +kernel
theorem dl_257 : decode code 257 = .ok (.iload_n 3, 1) := by decide +kernel
theorem dl_258 : decode code 258 = .ok (.iconst 1, 1) := by decide +kernel
theorem dl_259 : decode code 259 = .ok (.iadd, 1) := by decide +kernel
theorem dl_260 : decode code 260 = .ok (.iaload, 1) := by decide +kernel
theorem dl_261 : decode code 261 = .ok (.invokevirtual 37, 3) := by decide +kernel
theorem dl_264 : decode code 264 = .ok (.aload_n 2, 1) := by decide +kernel
theorem dl_265 : decode code 265 = .ok (.aload_n 0, 1) := by decide +kernel
theorem dl_266 : decode code 266 = .ok (.iload_n 3, 1) := by decide +kernel
theorem dl_267 : decode code 267 = .ok (.iconst 1, 1) := by decide +kernel
theorem dl_268 : decode code 268 = .ok (.iadd, 1) := by decide +kernel
theorem dl_269 : decode code 269 = .ok (.iaload, 1) := by decide +kernel
theorem dl_270 : decode code 270 = .ok (.invokevirtual 40, 3) := by decide +kernel
theorem dl_273 : decode code 273 = .ok (.if_icmp .eq 511, 3) := by decide +kernel
theorem dl_276 : decode code 276 = .ok (.iconst 0, 1) := by decide +kernel
theorem dl_277 : decode code 277 = .ok (.ireturn, 1) := by decide +kernel
theorem dl_278 : decode code 278 = .ok (.aload_n 1, 1) := by decide +kernel
theorem dl_279 : decode code 279 = .ok (.aload_n 0, 1) := by decide +kernel
theorem dl_280 : decode code 280 = .ok (.iload_n 3, 1) := by decide +kernel
theorem dl_281 : decode code 281 = .ok (.iconst 1, 1) := by decide +kernel
theorem dl_282 : decode code 282 = .ok (.iadd, 1) := by decide +kernel
theorem dl_283 : decode code 283 = .ok (.iaload, 1) := by decide +kernel
theorem dl_284 : decode code 284 = .ok (.aload_n 0, 1) := by decide +kernel
theorem dl_285 : decode code 285 = .ok (.iload_n 3, 1) := by decide +kernel
theorem dl_286 : decode code 286 = .ok (.iconst 2, 1) := by decide +kernel
theorem dl_287 : decode code 287 = .ok (.iadd, 1) := by decide +kernel
theorem dl_288 : decode code 288 = .ok (.iaload, 1) := by decide +kernel
theorem dl_289 : decode code 289 = .ok (.aload_n 0, 1) := by decide +kernel
theorem dl_290 : decode code 290 = .ok (.iload_n 3, 1) := by decide +kernel
theorem dl_291 : decode code 291 = .ok (.iconst 3, 1) := by decide +kernel
theorem dl_292 : decode code 292 = .ok (.iadd, 1) := by decide +kernel
theorem dl_293 : decode code 293 = .ok (.iaload, 1) := by decide +kernel
theorem dl_294 : decode code 294 = .ok (.aload_n 0, 1) := by decide +kernel
theorem dl_295 : decode code 295 = .ok (.iload_n 3, 1) := by decide +kernel
theorem dl_296 : decode code 296 = .ok (.iconst 4, 1) := by decide +kernel
theorem dl_297 : decode code 297 = .ok (.iadd, 1) := by decide +kernel
theorem dl_298 : decode code 298 = .ok (.iaload, 1) := by decide +kernel
theorem dl_299 : decode code 299 = .ok (.aload_n 0, 1) := by decide +kernel
theorem dl_300 : decode code 300 = .ok (.iload_n 3, 1) := by decide +kernel
theorem dl_301 : decode code 301 = .ok (.iconst 5, 1) := by decide +kernel
theorem dl_302 : decode code 302 = .ok (.iadd, 1) := by decide +kernel
theorem dl_303 : decode code 303 = .ok (.iaload, 1) := by decide +kernel
theorem dl_304 : decode code 304 = .ok (.aload_n 0, 1) := by decide +kernel
theorem dl_305 : decode code 305 = .ok (.iload_n 3, 1) := by decide +kernel
theorem dl_306 : decode code 306 = .ok (.bipush 6, 2) := by decide +kernel
theorem dl_308 : decode code 308 = .ok (.iadd, 1) := by decide +kernel
theorem dl_309 : decode code 309 = .ok (.iaload, 1) := by decide +kernel
theorem dl_310 : decode code 310 = .ok (.aload_n 0, 1) := by decide +kernel
theorem dl_311 : decode code 311 = .ok (.iload_n 3, 1) := by decide +kernel
theorem dl_312 : decode code 312 = .ok (.bipush 7, 2) := by decide +kernel
theorem dl_314 : decode code 314 = .ok (.iadd, 1) := by decide +kernel
theorem dl_315 : decode code 315 = .ok (.iaload, 1) := by decide +kernel
theorem dl_316 : decode code 316 = .ok (.ifCond .eq 7, 3) := by decide +kernel
theorem dl_319 : decode code 319 = .ok (.iconst 1, 1) := by decide +kernel
theorem dl_320 : decode code 320 = .ok (.goto 4, 3) := by decide +kernel
theorem dl_323 : decode code 323 = .ok (.iconst 0, 1) := by decide +kernel
theorem dl_324 : decode code 324 = .ok (.invokevirtual 41, 3) := by decide +kernel
theorem dl_327 : decode code 327 = .ok (.aload_n 2, 1) := by decide +kernel
theorem dl_328 : decode code 328 = .ok (.aload_n 0, 1) := by decide +kernel
theorem dl_329 : decode code 329 = .ok (.iload_n 3, 1) := by decide +kernel
theorem dl_330 : decode code 330 = .ok (.iconst 1, 1) := by decide +kernel
theorem dl_331 : decode code 331 = .ok (.iadd, 1) := by decide +kernel
theorem dl_332 : decode code 332 = .ok (.iaload, 1) := by decide +kernel
theorem dl_333 : decode code 333 = .ok (.aload_n 0, 1) := by decide +kernel
theorem dl_334 : decode code 334 = .ok (.iload_n 3, 1) := by decide +kernel
theorem dl_335 : decode code 335 = .ok (.iconst 2, 1) := by decide +kernel
theorem dl_336 : decode code 336 = .ok (.iadd, 1) := by decide +kernel
theorem dl_337 : decode code 337 = .ok (.iaload, 1) := by decide +kernel
theorem dl_338 : decode code 338 = .ok (.aload_n 0, 1) := by decide +kernel
theorem dl_339 : decode code 339 = .ok (.iload_n 3, 1) := by decide +kernel
theorem dl_340 : decode code 340 = .ok (.iconst 3, 1) := by decide +kernel
theorem dl_341 : decode code 341 = .ok (.iadd, 1) := by decide +kernel
theorem dl_342 : decode code 342 = .ok (.iaload, 1) := by decide +kernel
theorem dl_343 : decode code 343 = .ok (.aload_n 0, 1) := by decide +kernel
theorem dl_344 : decode code 344 = .ok (.iload_n 3, 1) := by decide +kernel
theorem dl_345 : decode code 345 = .ok (.iconst 4, 1) := by decide +kernel
theorem dl_346 : decode code 346 = .ok (.iadd, 1) := by decide +kernel
theorem dl_347 : decode code 347 = .ok (.iaload, 1) := by decide +kernel
theorem dl_348 : decode code 348 = .ok (.aload_n 0, 1) := by decide +kernel
theorem dl_349 : decode code 349 = .ok (.iload_n 3, 1) := by decide +kernel
theorem dl_350 : decode code 350 = .ok (.iconst 5, 1) := by decide +kernel
theorem dl_351 : decode code 351 = .ok (.iadd, 1) := by decide +kernel
theorem dl_352 : decode code 352 = .ok (.iaload, 1) := by decide +kernel
theorem dl_353 : decode code 353 = .ok (.aload_n 0, 1) := by decide +kernel
theorem dl_354 : decode code 354 = .ok (.iload_n 3, 1) := by decide +kernel
theorem dl_355 : decode code 355 = .ok (.bipush 6, 2) := by decide +kernel
theorem dl_357 : decode code 357 = .ok (.iadd, 1) := by decide +kernel
theorem dl_358 : decode code 358 = .ok (.iaload, 1) := by decide +kernel
theorem dl_359 : decode code 359 = .ok (.aload_n 0, 1) := by decide +kernel
theorem dl_360 : decode code 360 = .ok (.iload_n 3, 1) := by decide +kernel
theorem dl_361 : decode code 361 = .ok (.bipush 7, 2) := by decide +kernel
theorem dl_363 : decode code 363 = .ok (.iadd, 1) := by decide +kernel
theorem dl_364 : decode code 364 = .ok (.iaload, 1) := by decide +kernel
theorem dl_365 : decode code 365 = .ok (.ifCond .eq 7, 3) := by decide +kernel
theorem dl_368 : decode code 368 = .ok (.iconst 1, 1) := by decide +kernel
theorem dl_369 : decode code 369 = .ok (.goto 4, 3) := by decide +kernel
theorem dl_372 : decode code 372 = .ok (.iconst 0, 1) := by decide +kernel
theorem dl_373 : decode code 373 = .ok (.invokevirtual 45, 3) := by decide +kernel
theorem dl_376 : decode code 376 = .ok (.if_icmp .eq 408, 3) := by decide +kernel
theorem dl_379 : decode code 379 = .ok (.iconst 0, 1) := by decide +kernel
theorem dl_380 : decode code 380 = .ok (.ireturn, 1) := by decide +kernel
theorem dl_381 : decode code 381 = .ok (.aload_n 1, 1) := by decide +kernel
theorem dl_382 : decode code 382 = .ok (.aload_n 0, 1) := by decide +kernel
theorem dl_383 : decode code 383 = .ok (.iload_n 3, 1) := by decide +kernel
theorem dl_384 : decode code 384 = .ok (.iconst 1, 1) := by decide +kernel
theorem dl_385 : decode code 385 = .ok (.iadd, 1) := by decide +kernel
theorem dl_386 : decode code 386 = .ok (.iaload, 1) := by decide +kernel
theorem dl_387 : decode code 387 = .ok (.aload_n 0, 1) := by decide +kernel
theorem dl_388 : decode code 388 = .ok (.iload_n 3, 1) := by decide +kernel
theorem dl_389 : decode code 389 = .ok (.iconst 2, 1) := by decide +kernel
theorem dl_390 : decode code 390 = .ok (.iadd, 1) := by decide +kernel
theorem dl_391 : decode code 391 = .ok (.iaload, 1) := by decide +kernel
theorem dl_392 : decode code 392 = .ok (.aload_n 0, 1) := by decide +kernel
theorem dl_393 : decode code 393 = .ok (.iload_n 3, 1) := by decide +kernel
theorem dl_394 : decode code 394 = .ok (.iconst 3, 1) := by decide +kernel
theorem dl_395 : decode code 395 = .ok (.iadd, 1) := by decide +kernel
theorem dl_396 : decode code 396 = .ok (.iaload, 1) := by decide +kernel
theorem dl_397 : decode code 397 = .ok (.invokevirtual 46, 3) := by decide +kernel
theorem dl_400 : decode code 400 = .ok (.aload_n 2, 1) := by decide +kernel
theorem dl_401 : decode code 401 = .ok (.aload_n 0, 1) := by decide +kernel
theorem dl_402 : decode code 402 = .ok (.iload_n 3, 1) := by decide +kernel
theorem dl_403 : decode code 403 = .ok (.iconst 1, 1) := by decide +kernel
theorem dl_404 : decode code 404 = .ok (.iadd, 1) := by decide +kernel
theorem dl_405 : decode code 405 = .ok (.iaload, 1) := by decide +kernel
theorem dl_406 : decode code 406 = .ok (.aload_n 0, 1) := by decide +kernel
theorem dl_407 : decode code 407 = .ok (.iload_n 3, 1) := by decide +kernel
theorem dl_408 : decode code 408 = .ok (.iconst 2, 1) := by decide +kernel
theorem dl_409 : decode code 409 = .ok (.iadd, 1) := by decide +kernel
theorem dl_410 : decode code 410 = .ok (.iaload, 1) := by decide +kernel
theorem dl_411 : decode code 411 = .ok (.aload_n 0, 1) := by decide +kernel
theorem dl_412 : decode code 412 = .ok (.iload_n 3, 1) := by decide +kernel
theorem dl_413 : decode code 413 = .ok (.iconst 3, 1) := by decide +kernel
theorem dl_414 : decode code 414 = .ok (.iadd, 1) := by decide +kernel
theorem dl_415 : decode code 415 = .ok (.iaload, 1) := by decide +kernel
theorem dl_416 : decode code 416 = .ok (.invokevirtual 50, 3) := by decide +kernel
theorem dl_419 : decode code 419 = .ok (.if_icmp .eq 365, 3) := by decide +kernel
theorem dl_422 : decode code 422 = .ok (.iconst 0, 1) := by decide +kernel
theorem dl_423 : decode code 423 = .ok (.ireturn, 1) := by decide +kernel
theorem dl_424 : decode code 424 = .ok (.aload_n 1, 1) := by decide +kernel
theorem dl_425 : decode code 425 = .ok (.aload_n 0, 1) := by decide +kernel
theorem dl_426 : decode code 426 = .ok (.iload_n 3, 1) := by decide +kernel
theorem dl_427 : decode code 427 = .ok (.iconst 1, 1) := by decide +kernel
theorem dl_428 : decode code 428 = .ok (.iadd, 1) := by decide +kernel
theorem dl_429 : decode code 429 = .ok (.iaload, 1) := by decide +kernel
theorem dl_430 : decode code 430 = .ok (.aload_n 0, 1) := by decide +kernel
theorem dl_431 : decode code 431 = .ok (.iload_n 3, 1) := by decide +kernel
theorem dl_432 : decode code 432 = .ok (.iconst 2, 1) := by decide +kernel
theorem dl_433 : decode code 433 = .ok (.iadd, 1) := by decide +kernel
theorem dl_434 : decode code 434 = .ok (.iaload, 1) := by decide +kernel
theorem dl_435 : decode code 435 = .ok (.aload_n 0, 1) := by decide +kernel
theorem dl_436 : decode code 436 = .ok (.iload_n 3, 1) := by decide +kernel
theorem dl_437 : decode code 437 = .ok (.iconst 3, 1) := by decide +kernel
theorem dl_438 : decode code 438 = .ok (.iadd, 1) := by decide +kernel
theorem dl_439 : decode code 439 = .ok (.iaload, 1) := by decide +kernel
theorem dl_440 : decode code 440 = .ok (.aload_n 0, 1) := by decide +kernel
theorem dl_441 : decode code 441 = .ok (.iload_n 3, 1) := by decide +kernel
theorem dl_442 : decode code 442 = .ok (.iconst 4, 1) := by decide +kernel
theorem dl_443 : decode code 443 = .ok (.iadd, 1) := by decide +kernel
theorem dl_444 : decode code 444 = .ok (.iaload, 1) := by decide +kernel
theorem dl_445 : decode code 445 = .ok (.invokevirtual 51, 3) := by decide +kernel
theorem dl_448 : decode code 448 = .ok (.aload_n 2, 1) := by decide +kernel
theorem dl_449 : decode code 449 = .ok (.aload_n 0, 1) := by decide +kernel
theorem dl_450 : decode code 450 = .ok (.iload_n 3, 1) := by decide +kernel
theorem dl_451 : decode code 451 = .ok (.iconst 1, 1) := by decide +kernel
theorem dl_452 : decode code 452 = .ok (.iadd, 1) := by decide +kernel
theorem dl_453 : decode code 453 = .ok (.iaload, 1) := by decide +kernel
theorem dl_454 : decode code 454 = .ok (.aload_n 0, 1) := by decide +kernel
theorem dl_455 : decode code 455 = .ok (.iload_n 3, 1) := by decide +kernel
theorem dl_456 : decode code 456 = .ok (.iconst 2, 1) := by decide +kernel
theorem dl_457 : decode code 457 = .ok (.iadd, 1) := by decide +kernel
theorem dl_458 : decode code 458 = .ok (.iaload, 1) := by decide +kernel
theorem dl_459 : decode code 459 = .ok (.aload_n 0, 1) := by decide +kernel
theorem dl_460 : decode code 460 = .ok (.iload_n 3, 1) := by decide +kernel
theorem dl_461 : decode code 461 = .ok (.iconst 3, 1) := by decide +kernel
theorem dl_462 : decode code 462 = .ok (.iadd, 1) := by decide +kernel
theorem dl_463 : decode code 463 = .ok (.iaload, 1) := by decide +kernel
theorem dl_464 : decode code 464 = .ok (.aload_n 0, 1) := by decide +kernel
theorem dl_465 : decode code 465 = .ok (.iload_n 3, 1) := by decide +kernel
theorem dl_466 : decode code 466 = .ok (.iconst 4, 1) := by decide +kernel
theorem dl_467 : decode code 467 = .ok (.iadd, 1) := by decide +kernel
theorem dl_468 : decode code 468 = .ok (.iaload, 1) := by decide +kernel
theorem dl_469 : decode code 469 = .ok (.invokevirtual 55, 3) := by decide +kernel
theorem dl_472 : decode code 472 = .ok (.if_icmp .eq 312, 3) := by decide +kernel
theorem dl_475 : decode code 475 = .ok (.iconst 0, 1) := by decide +kernel
theorem dl_476 : decode code 476 = .ok (.ireturn, 1) := by decide +kernel
theorem dl_477 : decode code 477 = .ok (.aload_n 1, 1) := by decide +kernel
theorem dl_478 : decode code 478 = .ok (.aload_n 0, 1) := by decide +kernel
theorem dl_479 : decode code 479 = .ok (.iload_n 3, 1) := by decide +kernel
theorem dl_480 : decode code 480 = .ok (.iconst 1, 1) := by decide +kernel
theorem dl_481 : decode code 481 = .ok (.iadd, 1) := by decide +kernel
theorem dl_482 : decode code 482 = .ok (.iaload, 1) := by decide +kernel
theorem dl_483 : decode code 483 = .ok (.invokevirtual 56, 3) := by decide +kernel
theorem dl_486 : decode code 486 = .ok (.aload_n 2, 1) := by decide +kernel
theorem dl_487 : decode code 487 = .ok (.aload_n 0, 1) := by decide +kernel
theorem dl_488 : decode code 488 = .ok (.iload_n 3, 1) := by decide +kernel
theorem dl_489 : decode code 489 = .ok (.iconst 1, 1) := by decide +kernel
theorem dl_490 : decode code 490 = .ok (.iadd, 1) := by decide +kernel
theorem dl_491 : decode code 491 = .ok (.iaload, 1) := by decide +kernel
theorem dl_492 : decode code 492 = .ok (.invokevirtual 59, 3) := by decide +kernel
theorem dl_495 : decode code 495 = .ok (.if_icmp .eq 289, 3) := by decide +kernel
theorem dl_498 : decode code 498 = .ok (.iconst 0, 1) := by decide +kernel
theorem dl_499 : decode code 499 = .ok (.ireturn, 1) := by decide +kernel
theorem dl_500 : decode code 500 = .ok (.aload_n 1, 1) := by decide +kernel
theorem dl_501 : decode code 501 = .ok (.aload_n 0, 1) := by decide +kernel
theorem dl_502 : decode code 502 = .ok (.iload_n 3, 1) := by decide +kernel
theorem dl_503 : decode code 503 = .ok (.iconst 1, 1) := by decide +kernel
theorem dl_504 : decode code 504 = .ok (.iadd, 1) := by decide +kernel
theorem dl_505 : decode code 505 = .ok (.iaload, 1) := by decide +kernel
theorem dl_506 : decode code 506 = .ok (.aload_n 0, 1) := by decide +kernel
theorem dl_507 : decode code 507 = .ok (.iload_n 3, 1) := by decide +kernel
theorem dl_508 : decode code 508 = .ok (.iconst 2, 1) := by decide +kernel
theorem dl_509 : decode code 509 = .ok (.iadd, 1) := by decide +kernel
theorem dl_510 : decode code 510 = .ok (.iaload, 1) := by decide +kernel
theorem dl_511 : decode code 511 = .ok (.aload_n 0, 1) := by decide +kernel
theorem dl_512 : decode code 512 = .ok (.iload_n 3, 1) := by decide +kernel
theorem dl_513 : decode code 513 = .ok (.iconst 3, 1) := by decide +kernel
theorem dl_514 : decode code 514 = .ok (.iadd, 1) := by decide +kernel
theorem dl_515 : decode code 515 = .ok (.iaload, 1) := by decide +kernel
theorem dl_516 : decode code 516 = .ok (.invokevirtual 60, 3) := by decide +kernel
theorem dl_519 : decode code 519 = .ok (.aload_n 2, 1) := by decide +kernel
theorem dl_520 : decode code 520 = .ok (.aload_n 0, 1) := by decide +kernel
theorem dl_521 : decode code 521 = .ok (.iload_n 3, 1) := by decide +kernel
theorem dl_522 : decode code 522 = .ok (.iconst 1, 1) := by decide +kernel
theorem dl_523 : decode code 523 = .ok (.iadd, 1) := by decide +kernel
theorem dl_524 : decode code 524 = .ok (.iaload, 1) := by decide +kernel
theorem dl_525 : decode code 525 = .ok (.aload_n 0, 1) := by decide +kernel
theorem dl_526 : decode code 526 = .ok (.iload_n 3, 1) := by decide +kernel
theorem dl_527 : decode code 527 = .ok (.iconst 2, 1) := by decide +kernel
theorem dl_528 : decode code 528 = .ok (.iadd, 1) := by decide +kernel
theorem dl_529 : decode code 529 = .ok (.iaload, 1) := by decide +kernel
theorem dl_530 : decode code 530 = .ok (.aload_n 0, 1) := by decide +kernel
theorem dl_531 : decode code 531 = .ok (.iload_n 3, 1) := by decide +kernel
theorem dl_532 : decode code 532 = .ok (.iconst 3, 1) := by decide +kernel
theorem dl_533 : decode code 533 = .ok (.iadd, 1) := by decide +kernel
theorem dl_534 : decode code 534 = .ok (.iaload, 1) := by decide +kernel
theorem dl_535 : decode code 535 = .ok (.invokevirtual 63, 3) := by decide +kernel
theorem dl_538 : decode code 538 = .ok (.if_icmp .eq 246, 3) := by decide +kernel
theorem dl_541 : decode code 541 = .ok (.iconst 0, 1) := by decide +kernel
theorem dl_542 : decode code 542 = .ok (.ireturn, 1) := by decide +kernel
theorem dl_543 : decode code 543 = .ok (.aload_n 1, 1) := by decide +kernel
theorem dl_544 : decode code 544 = .ok (.aload_n 0, 1) := by decide +kernel
theorem dl_545 : decode code 545 = .ok (.iload_n 3, 1) := by decide +kernel
theorem dl_546 : decode code 546 = .ok (.iconst 1, 1) := by decide +kernel
theorem dl_547 : decode code 547 = .ok (.iadd, 1) := by decide +kernel
theorem dl_548 : decode code 548 = .ok (.iaload, 1) := by decide +kernel
theorem dl_549 : decode code 549 = .ok (.aload_n 0, 1) := by decide +kernel
theorem dl_550 : decode code 550 = .ok (.iload_n 3, 1) := by decide +kernel
theorem dl_551 : decode code 551 = .ok (.iconst 2, 1) := by decide +kernel
theorem dl_552 : decode code 552 = .ok (.iadd, 1) := by decide +kernel
theorem dl_553 : decode code 553 = .ok (.iaload, 1) := by decide +kernel
theorem dl_554 : decode code 554 = .ok (.aload_n 0, 1) := by decide +kernel
theorem dl_555 : decode code 555 = .ok (.iload_n 3, 1) := by decide +kernel
theorem dl_556 : decode code 556 = .ok (.iconst 3, 1) := by decide +kernel
theorem dl_557 : decode code 557 = .ok (.iadd, 1) := by decide +kernel
theorem dl_558 : decode code 558 = .ok (.iaload, 1) := by decide +kernel
theorem dl_559 : decode code 559 = .ok (.aload_n 0, 1) := by decide +kernel
theorem dl_560 : decode code 560 = .ok (.iload_n 3, 1) := by decide +kernel
theorem dl_561 : decode code 561 = .ok (.iconst 4, 1) := by decide +kernel
theorem dl_562 : decode code 562 = .ok (.iadd, 1) := by decide +kernel
theorem dl_563 : decode code 563 = .ok (.iaload, 1) := by decide +kernel
theorem dl_564 : decode code 564 = .ok (.invokevirtual 64, 3) := by decide +kernel
theorem dl_567 : decode code 567 = .ok (.aload_n 2, 1) := by decide +kernel
theorem dl_568 : decode code 568 = .ok (.aload_n 0, 1) := by decide +kernel
theorem dl_569 : decode code 569 = .ok (.iload_n 3, 1) := by decide +kernel
theorem dl_570 : decode code 570 = .ok (.iconst 1, 1) := by decide +kernel
theorem dl_571 : decode code 571 = .ok (.iadd, 1) := by decide +kernel
theorem dl_572 : decode code 572 = .ok (.iaload, 1) := by decide +kernel
theorem dl_573 : decode code 573 = .ok (.aload_n 0, 1) := by decide +kernel
theorem dl_574 : decode code 574 = .ok (.iload_n 3, 1) := by decide +kernel
theorem dl_575 : decode code 575 = .ok (.iconst 2, 1) := by decide +kernel
theorem dl_576 : decode code 576 = .ok (.iadd, 1) := by decide +kernel
theorem dl_577 : decode code 577 = .ok (.iaload, 1) := by decide +kernel
theorem dl_578 : decode code 578 = .ok (.aload_n 0, 1) := by decide +kernel
theorem dl_579 : decode code 579 = .ok (.iload_n 3, 1) := by decide +kernel
theorem dl_580 : decode code 580 = .ok (.iconst 3, 1) := by decide +kernel
theorem dl_581 : decode code 581 = .ok (.iadd, 1) := by decide +kernel
theorem dl_582 : decode code 582 = .ok (.iaload, 1) := by decide +kernel
theorem dl_583 : decode code 583 = .ok (.aload_n 0, 1) := by decide +kernel
theorem dl_584 : decode code 584 = .ok (.iload_n 3, 1) := by decide +kernel
theorem dl_585 : decode code 585 = .ok (.iconst 4, 1) := by decide +kernel
theorem dl_586 : decode code 586 = .ok (.iadd, 1) := by decide +kernel
theorem dl_587 : decode code 587 = .ok (.iaload, 1) := by decide +kernel
theorem dl_588 : decode code 588 = .ok (.invokevirtual 68, 3) := by decide +kernel
theorem dl_591 : decode code 591 = .ok (.if_icmp .eq 193, 3) := by decide +kernel
theorem dl_594 : decode code 594 = .ok (.iconst 0, 1) := by decide +kernel
theorem dl_595 : decode code 595 = .ok (.ireturn, 1) := by decide +kernel
theorem dl_596 : decode code 596 = .ok (.aload_n 1, 1) := by decide +kernel
theorem dl_597 : decode code 597 = .ok (.aload_n 0, 1) := by decide +kernel
theorem dl_598 : decode code 598 = .ok (.iload_n 3, 1) := by decide +kernel
theorem dl_599 : decode code 599 = .ok (.iconst 1, 1) := by decide +kernel
theorem dl_600 : decode code 600 = .ok (.iadd, 1) := by decide +kernel
theorem dl_601 : decode code 601 = .ok (.iaload, 1) := by decide +kernel
theorem dl_602 : decode code 602 = .ok (.aload_n 0, 1) := by decide +kernel
theorem dl_603 : decode code 603 = .ok (.iload_n 3, 1) := by decide +kernel
theorem dl_604 : decode code 604 = .ok (.iconst 2, 1) := by decide +kernel
theorem dl_605 : decode code 605 = .ok (.iadd, 1) := by decide +kernel
theorem dl_606 : decode code 606 = .ok (.iaload, 1) := by decide +kernel
theorem dl_607 : decode code 607 = .ok (.aload_n 0, 1) := by decide +kernel
theorem dl_608 : decode code 608 = .ok (.iload_n 3, 1) := by decide +kernel
theorem dl_609 : decode code 609 = .ok (.iconst 3, 1) := by decide +kernel
theorem dl_610 : decode code 610 = .ok (.iadd, 1) := by decide +kernel
theorem dl_611 : decode code 611 = .ok (.iaload, 1) := by decide +kernel
theorem dl_612 : decode code 612 = .ok (.invokevirtual 69, 3) := by decide +kernel
theorem dl_615 : decode code 615 = .ok (.aload_n 2, 1) := by decide +kernel
theorem dl_616 : decode code 616 = .ok (.aload_n 0, 1) := by decide +kernel
theorem dl_617 : decode code 617 = .ok (.iload_n 3, 1) := by decide +kernel
theorem dl_618 : decode code 618 = .ok (.iconst 1, 1) := by decide +kernel
theorem dl_619 : decode code 619 = .ok (.iadd, 1) := by decide +kernel
theorem dl_620 : decode code 620 = .ok (.iaload, 1) := by decide +kernel
theorem dl_621 : decode code 621 = .ok (.aload_n 0, 1) := by decide +kernel
theorem dl_622 : decode code 622 = .ok (.iload_n 3, 1) := by decide +kernel
theorem dl_623 : decode code 623 = .ok (.iconst 2, 1) := by decide +kernel
theorem dl_624 : decode code 624 = .ok (.iadd, 1) := by decide +kernel
theorem dl_625 : decode code 625 = .ok (.iaload, 1) := by decide +kernel
theorem dl_626 : decode code 626 = .ok (.aload_n 0, 1) := by decide +kernel
theorem dl_627 : decode code 627 = .ok (.iload_n 3, 1) := by decide +kernel
theorem dl_628 : decode code 628 = .ok (.iconst 3, 1) := by decide +kernel
theorem dl_629 : decode code 629 = .ok (.iadd, 1) := by decide +kernel
theorem dl_630 : decode code 630 = .ok (.iaload, 1) := by decide +kernel
theorem dl_631 : decode code 631 = .ok (.invokevirtual 72, 3) := by decide +kernel
theorem dl_634 : decode code 634 = .ok (.if_icmp .eq 150, 3) := by decide +kernel
theorem dl_637 : decode code 637 = .ok (.iconst 0, 1) := by decide +kernel
theorem dl_638 : decode code 638 = .ok (.ireturn, 1) := by decide +kernel
theorem dl_639 : decode code 639 = .ok (.aload_n 1, 1) := by decide +kernel
theorem dl_640 : decode code 640 = .ok (.aload_n 0, 1) := by decide +kernel
theorem dl_641 : decode code 641 = .ok (.iload_n 3, 1) := by decide +kernel
theorem dl_642 : decode code 642 = .ok (.iconst 1, 1) := by decide +kernel
theorem dl_643 : decode code 643 = .ok (.iadd, 1) := by decide +kernel
theorem dl_644 : decode code 644 = .ok (.iaload, 1) := by decide +kernel
theorem dl_645 : decode code 645 = .ok (.invokevirtual 73, 3) := by decide +kernel
theorem dl_648 : decode code 648 = .ok (.aload_n 2, 1) := by decide +kernel
theorem dl_649 : decode code 649 = .ok (.aload_n 0, 1) := by decide +kernel
theorem dl_650 : decode code 650 = .ok (.iload_n 3, 1) := by decide +kernel
theorem dl_651 : decode code 651 = .ok (.iconst 1, 1) := by decide +kernel
theorem dl_652 : decode code 652 = .ok (.iadd, 1) := by decide +kernel
theorem dl_653 : decode code 653 = .ok (.iaload, 1) := by decide +kernel
theorem dl_654 : decode code 654 = .ok (.invokevirtual 76, 3) := by decide +kernel
theorem dl_657 : decode code 657 = .ok (.if_icmp .eq 127, 3) := by decide +kernel
theorem dl_660 : decode code 660 = .ok (.iconst 0, 1) := by decide +kernel
theorem dl_661 : decode code 661 = .ok (.ireturn, 1) := by decide +kernel
theorem dl_662 : decode code 662 = .ok (.aload_n 1, 1) := by decide +kernel
theorem dl_663 : decode code 663 = .ok (.aload_n 0, 1) := by decide +kernel
theorem dl_664 : decode code 664 = .ok (.iload_n 3, 1) := by decide +kernel
theorem dl_665 : decode code 665 = .ok (.iconst 1, 1) := by decide +kernel
theorem dl_666 : decode code 666 = .ok (.iadd, 1) := by decide +kernel
theorem dl_667 : decode code 667 = .ok (.iaload, 1) := by decide +kernel
theorem dl_668 : decode code 668 = .ok (.aload_n 0, 1) := by decide +kernel
theorem dl_669 : decode code 669 = .ok (.iload_n 3, 1) := by decide +kernel
theorem dl_670 : decode code 670 = .ok (.iconst 2, 1) := by decide +kernel
theorem dl_671 : decode code 671 = .ok (.iadd, 1) := by decide +kernel
theorem dl_672 : decode code 672 = .ok (.iaload, 1) := by decide +kernel
theorem dl_673 : decode code 673 = .ok (.aload_n 0, 1) := by decide +kernel
theorem dl_674 : decode code 674 = .ok (.iload_n 3, 1) := by decide +kernel
theorem dl_675 : decode code 675 = .ok (.iconst 3, 1) := by decide +kernel
theorem dl_676 : decode code 676 = .ok (.iadd, 1) := by decide +kernel
theorem dl_677 : decode code 677 = .ok (.iaload, 1) := by decide +kernel
theorem dl_678 : decode code 678 = .ok (.invokevirtual 77, 3) := by decide +kernel
theorem dl_681 : decode code 681 = .ok (.aload_n 2, 1) := by decide +kernel
theorem dl_682 : decode code 682 = .ok (.aload_n 0, 1) := by decide +kernel
theorem dl_683 : decode code 683 = .ok (.iload_n 3, 1) := by decide +kernel
theorem dl_684 : decode code 684 = .ok (.iconst 1, 1) := by decide +kernel
theorem dl_685 : decode code 685 = .ok (.iadd, 1) := by decide +kernel
theorem dl_686 : decode code 686 = .ok (.iaload, 1) := by decide +kernel
theorem dl_687 : decode code 687 = .ok (.aload_n 0, 1) := by decide +kernel
theorem dl_688 : decode code 688 = .ok (.iload_n 3, 1) := by decide +kernel
theorem dl_689 : decode code 689 = .ok (.iconst 2, 1) := by decide +kernel
theorem dl_690 : decode code 690 = .ok (.iadd, 1) := by decide +kernel
theorem dl_691 : decode code 691 = .ok (.iaload, 1) := by decide +kernel
theorem dl_692 : decode code 692 = .ok (.aload_n 0, 1) := by decide +kernel
theorem dl_693 : decode code 693 = .ok (.iload_n 3, 1) := by decide +kernel
theorem dl_694 : decode code 694 = .ok (.iconst 3, 1) := by decide +kernel
theorem dl_695 : decode code 695 = .ok (.iadd, 1) := by decide +kernel
theorem dl_696 : decode code 696 = .ok (.iaload, 1) := by decide +kernel
theorem dl_697 : decode code 697 = .ok (.invokevirtual 80, 3) := by decide +kernel
theorem dl_700 : decode code 700 = .ok (.if_icmp .eq 84, 3) := by decide +kernel
theorem dl_703 : decode code 703 = .ok (.iconst 0, 1) := by decide +kernel
theorem dl_704 : decode code 704 = .ok (.ireturn, 1) := by decide +kernel
theorem dl_705 : decode code 705 = .ok (.aload_n 1, 1) := by decide +kernel
theorem dl_706 : decode code 706 = .ok (.aload_n 0, 1) := by decide +kernel
theorem dl_707 : decode code 707 = .ok (.iload_n 3, 1) := by decide +kernel
theorem dl_708 : decode code 708 = .ok (.iconst 1, 1) := by decide +kernel
theorem dl_709 : decode code 709 = .ok (.iadd, 1) := by decide +kernel
theorem dl_710 : decode code 710 = .ok (.iaload, 1) := by decide +kernel
theorem dl_711 : decode code 711 = .ok (.invokevirtual 81, 3) := by decide +kernel
theorem dl_714 : decode code 714 = .ok (.aload_n 2, 1) := by decide +kernel
theorem dl_715 : decode code 715 = .ok (.aload_n 0, 1) := by decide +kernel
theorem dl_716 : decode code 716 = .ok (.iload_n 3, 1) := by decide +kernel
theorem dl_717 : decode code 717 = .ok (.iconst 1, 1) := by decide +kernel
theorem dl_718 : decode code 718 = .ok (.iadd, 1) := by decide +kernel
theorem dl_719 : decode code 719 = .ok (.iaload, 1) := by decide +kernel
theorem dl_720 : decode code 720 = .ok (.invokevirtual 84, 3) := by decide +kernel
theorem dl_723 : decode code 723 = .ok (.if_icmp .eq 61, 3) := by decide +kernel
theorem dl_726 : decode code 726 = .ok (.iconst 0, 1) := by decide +kernel
theorem dl_727 : decode code 727 = .ok (.ireturn, 1) := by decide +kernel
theorem dl_728 : decode code 728 = .ok (.aload_n 1, 1) := by decide +kernel
theorem dl_729 : decode code 729 = .ok (.aload_n 0, 1) := by decide +kernel
theorem dl_730 : decode code 730 = .ok (.iload_n 3, 1) := by decide +kernel
theorem dl_731 : decode code 731 = .ok (.iconst 1, 1) := by decide +kernel
theorem dl_732 : decode code 732 = .ok (.iadd, 1) := by decide +kernel
theorem dl_733 : decode code 733 = .ok (.iaload, 1) := by decide +kernel
theorem dl_734 : decode code 734 = .ok (.aload_n 0, 1) := by decide +kernel
theorem dl_735 : decode code 735 = .ok (.iload_n 3, 1) := by decide +kernel
theorem dl_736 : decode code 736 = .ok (.iconst 2, 1) := by decide +kernel
theorem dl_737 : decode code 737 = .ok (.iadd, 1) := by decide +kernel
theorem dl_738 : decode code 738 = .ok (.iaload, 1) := by decide +kernel
theorem dl_739 : decode code 739 = .ok (.invokevirtual 85, 3) := by decide +kernel
theorem dl_742 : decode code 742 = .ok (.aload_n 2, 1) := by decide +kernel
theorem dl_743 : decode code 743 = .ok (.aload_n 0, 1) := by decide +kernel
theorem dl_744 : decode code 744 = .ok (.iload_n 3, 1) := by decide +kernel
theorem dl_745 : decode code 745 = .ok (.iconst 1, 1) := by decide +kernel
theorem dl_746 : decode code 746 = .ok (.iadd, 1) := by decide +kernel
theorem dl_747 : decode code 747 = .ok (.iaload, 1) := by decide +kernel
theorem dl_748 : decode code 748 = .ok (.aload_n 0, 1) := by decide +kernel
theorem dl_749 : decode code 749 = .ok (.iload_n 3, 1) := by decide +kernel
theorem dl_750 : decode code 750 = .ok (.iconst 2, 1) := by decide +kernel
theorem dl_751 : decode code 751 = .ok (.iadd, 1) := by decide +kernel
theorem dl_752 : decode code 752 = .ok (.iaload, 1) := by decide +kernel
theorem dl_753 : decode code 753 = .ok (.invokevirtual 89, 3) := by decide +kernel
theorem dl_756 : decode code 756 = .ok (.if_icmp .eq 28, 3) := by decide +kernel
theorem dl_759 : decode code 759 = .ok (.iconst 0, 1) := by decide +kernel
theorem dl_760 : decode code 760 = .ok (.ireturn, 1) := by decide +kernel
theorem dl_761 : decode code 761 = .ok (.aload_n 1, 1) := by decide +kernel
theorem dl_762 : decode code 762 = .ok (.aload_n 0, 1) := by decide +kernel
theorem dl_763 : decode code 763 = .ok (.iload_n 3, 1) := by decide +kernel
theorem dl_764 : decode code 764 = .ok (.iconst 1, 1) := by decide +kernel
theorem dl_765 : decode code 765 = .ok (.iadd, 1) := by decide +kernel
theorem dl_766 : decode code 766 = .ok (.iaload, 1) := by decide +kernel
theorem dl_767 : decode code 767 = .ok (.invokevirtual 90, 3) := by decide +kernel
theorem dl_770 : decode code 770 = .ok (.aload_n 2, 1) := by decide +kernel
theorem dl_771 : decode code 771 = .ok (.aload_n 0, 1) := by decide +kernel
theorem dl_772 : decode code 772 = .ok (.iload_n 3, 1) := by decide +kernel
theorem dl_773 : decode code 773 = .ok (.iconst 1, 1) := by decide +kernel
theorem dl_774 : decode code 774 = .ok (.iadd, 1) := by decide +kernel
theorem dl_775 : decode code 775 = .ok (.iaload, 1) := by decide +kernel
theorem dl_776 : decode code 776 = .ok (.invokevirtual 93, 3) := by decide +kernel
theorem dl_779 : decode code 779 = .ok (.if_icmp .eq 5, 3) := by decide +kernel
theorem dl_782 : decode code 782 = .ok (.iconst 0, 1) := by decide +kernel
theorem dl_783 : decode code 783 = .ok (.ireturn, 1) := by decide +kernel
theorem dl_784 : decode code 784 = .ok (.iinc 3 8, 3) := by decide +kernel
theorem dl_787 : decode code 787 = .ok (.goto (-769), 3) := by decide +kernel
theorem dl_790 : decode code 790 = .ok (.iconst 1, 1) := by decide +kernel
theorem dl_791 : decode code 791 = .ok (.ireturn, 1) := by decide +kernel
theorem kt_312 : Cond.methodLink "GuideDeskLaw" (13 : Nat) ({ cls := "GuideDesk", name := "feed", desc := "(IIIII)I" } : Jvm.MethodName) ∈ TB := TB_of (sub_2 _ (List.mem_of_getElem? (i := 72) rfl)) rfl
theorem kt_313 : Cond.instanceMethod ({ cls := "GuideDesk", name := "feed", desc := "(IIIII)I" } : Jvm.MethodName) ∈ TB := TB_of (sub_2 _ (List.mem_of_getElem? (i := 73) rfl)) rfl
theorem kt_314 : Cond.selects "GuideDesk" ({ cls := "GuideDesk", name := "feed", desc := "(IIIII)I" } : Jvm.MethodName) ({ cls := "GuideDesk", name := "feed", desc := "(IIIII)I" } : Jvm.MethodName) ∈ TB := TB_of (sub_2 _ (List.mem_of_getElem? (i := 74) rfl)) rfl
theorem kt_1285 : Cond.methodLink "GuideDeskLaw" (17 : Nat) ({ cls := "GuideDeskModel", name := "feed", desc := "(IIIII)I" } : Jvm.MethodName) ∈ TB := TB_of (sub_6 _ (List.mem_of_getElem? (i := 85) rfl)) rfl
theorem kt_1286 : Cond.instanceMethod ({ cls := "GuideDeskModel", name := "feed", desc := "(IIIII)I" } : Jvm.MethodName) ∈ TB := TB_of (sub_6 _ (List.mem_of_getElem? (i := 86) rfl)) rfl
theorem kt_1287 : Cond.selects "GuideDeskModel" ({ cls := "GuideDeskModel", name := "feed", desc := "(IIIII)I" } : Jvm.MethodName) ({ cls := "GuideDeskModel", name := "feed", desc := "(IIIII)I" } : Jvm.MethodName) ∈ TB := TB_of (sub_6 _ (List.mem_of_getElem? (i := 87) rfl)) rfl
theorem kt_320 : Cond.methodLink "GuideDeskLaw" (18 : Nat) ({ cls := "GuideDesk", name := "back", desc := "(I)I" } : Jvm.MethodName) ∈ TB := TB_of (sub_2 _ (List.mem_of_getElem? (i := 80) rfl)) rfl
theorem kt_321 : Cond.instanceMethod ({ cls := "GuideDesk", name := "back", desc := "(I)I" } : Jvm.MethodName) ∈ TB := TB_of (sub_2 _ (List.mem_of_getElem? (i := 81) rfl)) rfl
theorem kt_322 : Cond.selects "GuideDesk" ({ cls := "GuideDesk", name := "back", desc := "(I)I" } : Jvm.MethodName) ({ cls := "GuideDesk", name := "back", desc := "(I)I" } : Jvm.MethodName) ∈ TB := TB_of (sub_2 _ (List.mem_of_getElem? (i := 82) rfl)) rfl
theorem kt_1293 : Cond.methodLink "GuideDeskLaw" (22 : Nat) ({ cls := "GuideDeskModel", name := "back", desc := "(I)I" } : Jvm.MethodName) ∈ TB := TB_of (sub_6 _ (List.mem_of_getElem? (i := 93) rfl)) rfl
theorem kt_1294 : Cond.instanceMethod ({ cls := "GuideDeskModel", name := "back", desc := "(I)I" } : Jvm.MethodName) ∈ TB := TB_of (sub_6 _ (List.mem_of_getElem? (i := 94) rfl)) rfl
theorem kt_1295 : Cond.selects "GuideDeskModel" ({ cls := "GuideDeskModel", name := "back", desc := "(I)I" } : Jvm.MethodName) ({ cls := "GuideDeskModel", name := "back", desc := "(I)I" } : Jvm.MethodName) ∈ TB := TB_of (sub_6 _ (List.mem_of_getElem? (i := 95) rfl)) rfl
theorem kt_324 : Cond.methodLink "GuideDeskLaw" (23 : Nat) ({ cls := "GuideDesk", name := "read", desc := "()I" } : Jvm.MethodName) ∈ TB := TB_of (sub_2 _ (List.mem_of_getElem? (i := 84) rfl)) rfl
theorem kt_325 : Cond.instanceMethod ({ cls := "GuideDesk", name := "read", desc := "()I" } : Jvm.MethodName) ∈ TB := TB_of (sub_2 _ (List.mem_of_getElem? (i := 85) rfl)) rfl
theorem kt_326 : Cond.selects "GuideDesk" ({ cls := "GuideDesk", name := "read", desc := "()I" } : Jvm.MethodName) ({ cls := "GuideDesk", name := "read", desc := "()I" } : Jvm.MethodName) ∈ TB := TB_of (sub_2 _ (List.mem_of_getElem? (i := 86) rfl)) rfl
theorem kt_1297 : Cond.methodLink "GuideDeskLaw" (27 : Nat) ({ cls := "GuideDeskModel", name := "read", desc := "()I" } : Jvm.MethodName) ∈ TB := TB_of (sub_6 _ (List.mem_of_getElem? (i := 97) rfl)) rfl
theorem kt_1298 : Cond.instanceMethod ({ cls := "GuideDeskModel", name := "read", desc := "()I" } : Jvm.MethodName) ∈ TB := TB_of (sub_6 _ (List.mem_of_getElem? (i := 98) rfl)) rfl
theorem kt_1299 : Cond.selects "GuideDeskModel" ({ cls := "GuideDeskModel", name := "read", desc := "()I" } : Jvm.MethodName) ({ cls := "GuideDeskModel", name := "read", desc := "()I" } : Jvm.MethodName) ∈ TB := TB_of (sub_6 _ (List.mem_of_getElem? (i := 99) rfl)) rfl
theorem kt_519 : Cond.methodLink "GuideDeskLaw" (28 : Nat) ({ cls := "GuideDesk", name := "place", desc := "()I" } : Jvm.MethodName) ∈ TB := TB_of (sub_3 _ (List.mem_of_getElem? (i := 39) rfl)) rfl
theorem kt_520 : Cond.instanceMethod ({ cls := "GuideDesk", name := "place", desc := "()I" } : Jvm.MethodName) ∈ TB := TB_of (sub_3 _ (List.mem_of_getElem? (i := 40) rfl)) rfl
theorem kt_521 : Cond.selects "GuideDesk" ({ cls := "GuideDesk", name := "place", desc := "()I" } : Jvm.MethodName) ({ cls := "GuideDesk", name := "place", desc := "()I" } : Jvm.MethodName) ∈ TB := TB_of (sub_3 _ (List.mem_of_getElem? (i := 41) rfl)) rfl
theorem kt_1363 : Cond.methodLink "GuideDeskLaw" (31 : Nat) ({ cls := "GuideDeskModel", name := "place", desc := "()I" } : Jvm.MethodName) ∈ TB := TB_of (sub_6 _ (List.mem_of_getElem? (i := 163) rfl)) rfl
theorem kt_1364 : Cond.instanceMethod ({ cls := "GuideDeskModel", name := "place", desc := "()I" } : Jvm.MethodName) ∈ TB := TB_of (sub_6 _ (List.mem_of_getElem? (i := 164) rfl)) rfl
theorem kt_1365 : Cond.selects "GuideDeskModel" ({ cls := "GuideDeskModel", name := "place", desc := "()I" } : Jvm.MethodName) ({ cls := "GuideDeskModel", name := "place", desc := "()I" } : Jvm.MethodName) ∈ TB := TB_of (sub_6 _ (List.mem_of_getElem? (i := 165) rfl)) rfl
theorem kt_523 : Cond.methodLink "GuideDeskLaw" (32 : Nat) ({ cls := "GuideDesk", name := "channels", desc := "(I)Z" } : Jvm.MethodName) ∈ TB := TB_of (sub_3 _ (List.mem_of_getElem? (i := 43) rfl)) rfl
theorem kt_524 : Cond.instanceMethod ({ cls := "GuideDesk", name := "channels", desc := "(I)Z" } : Jvm.MethodName) ∈ TB := TB_of (sub_3 _ (List.mem_of_getElem? (i := 44) rfl)) rfl
theorem kt_525 : Cond.selects "GuideDesk" ({ cls := "GuideDesk", name := "channels", desc := "(I)Z" } : Jvm.MethodName) ({ cls := "GuideDesk", name := "channels", desc := "(I)Z" } : Jvm.MethodName) ∈ TB := TB_of (sub_3 _ (List.mem_of_getElem? (i := 45) rfl)) rfl
theorem kt_1367 : Cond.methodLink "GuideDeskLaw" (36 : Nat) ({ cls := "GuideDeskModel", name := "channels", desc := "(I)Z" } : Jvm.MethodName) ∈ TB := TB_of (sub_6 _ (List.mem_of_getElem? (i := 167) rfl)) rfl
theorem kt_1368 : Cond.instanceMethod ({ cls := "GuideDeskModel", name := "channels", desc := "(I)Z" } : Jvm.MethodName) ∈ TB := TB_of (sub_6 _ (List.mem_of_getElem? (i := 168) rfl)) rfl
theorem kt_1369 : Cond.selects "GuideDeskModel" ({ cls := "GuideDeskModel", name := "channels", desc := "(I)Z" } : Jvm.MethodName) ({ cls := "GuideDeskModel", name := "channels", desc := "(I)Z" } : Jvm.MethodName) ∈ TB := TB_of (sub_6 _ (List.mem_of_getElem? (i := 169) rfl)) rfl
theorem kt_527 : Cond.methodLink "GuideDeskLaw" (37 : Nat) ({ cls := "GuideDesk", name := "source", desc := "(I)I" } : Jvm.MethodName) ∈ TB := TB_of (sub_3 _ (List.mem_of_getElem? (i := 47) rfl)) rfl
theorem kt_528 : Cond.instanceMethod ({ cls := "GuideDesk", name := "source", desc := "(I)I" } : Jvm.MethodName) ∈ TB := TB_of (sub_3 _ (List.mem_of_getElem? (i := 48) rfl)) rfl
theorem kt_529 : Cond.selects "GuideDesk" ({ cls := "GuideDesk", name := "source", desc := "(I)I" } : Jvm.MethodName) ({ cls := "GuideDesk", name := "source", desc := "(I)I" } : Jvm.MethodName) ∈ TB := TB_of (sub_3 _ (List.mem_of_getElem? (i := 49) rfl)) rfl
theorem kt_1371 : Cond.methodLink "GuideDeskLaw" (40 : Nat) ({ cls := "GuideDeskModel", name := "source", desc := "(I)I" } : Jvm.MethodName) ∈ TB := TB_of (sub_6 _ (List.mem_of_getElem? (i := 171) rfl)) rfl
theorem kt_1372 : Cond.instanceMethod ({ cls := "GuideDeskModel", name := "source", desc := "(I)I" } : Jvm.MethodName) ∈ TB := TB_of (sub_6 _ (List.mem_of_getElem? (i := 172) rfl)) rfl
theorem kt_1373 : Cond.selects "GuideDeskModel" ({ cls := "GuideDeskModel", name := "source", desc := "(I)I" } : Jvm.MethodName) ({ cls := "GuideDeskModel", name := "source", desc := "(I)I" } : Jvm.MethodName) ∈ TB := TB_of (sub_6 _ (List.mem_of_getElem? (i := 173) rfl)) rfl
theorem kt_554 : Cond.methodLink "GuideDeskLaw" (41 : Nat) ({ cls := "GuideDesk", name := "notice", desc := "(IIIIIIZ)I" } : Jvm.MethodName) ∈ TB := TB_of (sub_3 _ (List.mem_of_getElem? (i := 74) rfl)) rfl
theorem kt_555 : Cond.instanceMethod ({ cls := "GuideDesk", name := "notice", desc := "(IIIIIIZ)I" } : Jvm.MethodName) ∈ TB := TB_of (sub_3 _ (List.mem_of_getElem? (i := 75) rfl)) rfl
theorem kt_556 : Cond.selects "GuideDesk" ({ cls := "GuideDesk", name := "notice", desc := "(IIIIIIZ)I" } : Jvm.MethodName) ({ cls := "GuideDesk", name := "notice", desc := "(IIIIIIZ)I" } : Jvm.MethodName) ∈ TB := TB_of (sub_3 _ (List.mem_of_getElem? (i := 76) rfl)) rfl
theorem kt_1375 : Cond.methodLink "GuideDeskLaw" (45 : Nat) ({ cls := "GuideDeskModel", name := "notice", desc := "(IIIIIIZ)I" } : Jvm.MethodName) ∈ TB := TB_of (sub_6 _ (List.mem_of_getElem? (i := 175) rfl)) rfl
theorem kt_1376 : Cond.instanceMethod ({ cls := "GuideDeskModel", name := "notice", desc := "(IIIIIIZ)I" } : Jvm.MethodName) ∈ TB := TB_of (sub_6 _ (List.mem_of_getElem? (i := 176) rfl)) rfl
theorem kt_1377 : Cond.selects "GuideDeskModel" ({ cls := "GuideDeskModel", name := "notice", desc := "(IIIIIIZ)I" } : Jvm.MethodName) ({ cls := "GuideDeskModel", name := "notice", desc := "(IIIIIIZ)I" } : Jvm.MethodName) ∈ TB := TB_of (sub_6 _ (List.mem_of_getElem? (i := 177) rfl)) rfl
theorem kt_607 : Cond.methodLink "GuideDeskLaw" (46 : Nat) ({ cls := "GuideDesk", name := "over", desc := "(III)I" } : Jvm.MethodName) ∈ TB := TB_of (sub_3 _ (List.mem_of_getElem? (i := 127) rfl)) rfl
theorem kt_608 : Cond.instanceMethod ({ cls := "GuideDesk", name := "over", desc := "(III)I" } : Jvm.MethodName) ∈ TB := TB_of (sub_3 _ (List.mem_of_getElem? (i := 128) rfl)) rfl
theorem kt_609 : Cond.selects "GuideDesk" ({ cls := "GuideDesk", name := "over", desc := "(III)I" } : Jvm.MethodName) ({ cls := "GuideDesk", name := "over", desc := "(III)I" } : Jvm.MethodName) ∈ TB := TB_of (sub_3 _ (List.mem_of_getElem? (i := 129) rfl)) rfl
theorem kt_1383 : Cond.methodLink "GuideDeskLaw" (50 : Nat) ({ cls := "GuideDeskModel", name := "over", desc := "(III)I" } : Jvm.MethodName) ∈ TB := TB_of (sub_6 _ (List.mem_of_getElem? (i := 183) rfl)) rfl
theorem kt_1384 : Cond.instanceMethod ({ cls := "GuideDeskModel", name := "over", desc := "(III)I" } : Jvm.MethodName) ∈ TB := TB_of (sub_6 _ (List.mem_of_getElem? (i := 184) rfl)) rfl
theorem kt_1385 : Cond.selects "GuideDeskModel" ({ cls := "GuideDeskModel", name := "over", desc := "(III)I" } : Jvm.MethodName) ({ cls := "GuideDeskModel", name := "over", desc := "(III)I" } : Jvm.MethodName) ∈ TB := TB_of (sub_6 _ (List.mem_of_getElem? (i := 185) rfl)) rfl
theorem kt_611 : Cond.methodLink "GuideDeskLaw" (51 : Nat) ({ cls := "GuideDesk", name := "recorder", desc := "(IIII)Z" } : Jvm.MethodName) ∈ TB := TB_of (sub_3 _ (List.mem_of_getElem? (i := 131) rfl)) rfl
theorem kt_612 : Cond.instanceMethod ({ cls := "GuideDesk", name := "recorder", desc := "(IIII)Z" } : Jvm.MethodName) ∈ TB := TB_of (sub_3 _ (List.mem_of_getElem? (i := 132) rfl)) rfl
theorem kt_613 : Cond.selects "GuideDesk" ({ cls := "GuideDesk", name := "recorder", desc := "(IIII)Z" } : Jvm.MethodName) ({ cls := "GuideDesk", name := "recorder", desc := "(IIII)Z" } : Jvm.MethodName) ∈ TB := TB_of (sub_3 _ (List.mem_of_getElem? (i := 133) rfl)) rfl
theorem kt_1387 : Cond.methodLink "GuideDeskLaw" (55 : Nat) ({ cls := "GuideDeskModel", name := "recorder", desc := "(IIII)Z" } : Jvm.MethodName) ∈ TB := TB_of (sub_6 _ (List.mem_of_getElem? (i := 187) rfl)) rfl
theorem kt_1388 : Cond.instanceMethod ({ cls := "GuideDeskModel", name := "recorder", desc := "(IIII)Z" } : Jvm.MethodName) ∈ TB := TB_of (sub_6 _ (List.mem_of_getElem? (i := 188) rfl)) rfl
theorem kt_1389 : Cond.selects "GuideDeskModel" ({ cls := "GuideDeskModel", name := "recorder", desc := "(IIII)Z" } : Jvm.MethodName) ({ cls := "GuideDeskModel", name := "recorder", desc := "(IIII)Z" } : Jvm.MethodName) ∈ TB := TB_of (sub_6 _ (List.mem_of_getElem? (i := 189) rfl)) rfl
theorem kt_615 : Cond.methodLink "GuideDeskLaw" (56 : Nat) ({ cls := "GuideDesk", name := "clock", desc := "(I)Z" } : Jvm.MethodName) ∈ TB := TB_of (sub_3 _ (List.mem_of_getElem? (i := 135) rfl)) rfl
theorem kt_616 : Cond.instanceMethod ({ cls := "GuideDesk", name := "clock", desc := "(I)Z" } : Jvm.MethodName) ∈ TB := TB_of (sub_3 _ (List.mem_of_getElem? (i := 136) rfl)) rfl
theorem kt_617 : Cond.selects "GuideDesk" ({ cls := "GuideDesk", name := "clock", desc := "(I)Z" } : Jvm.MethodName) ({ cls := "GuideDesk", name := "clock", desc := "(I)Z" } : Jvm.MethodName) ∈ TB := TB_of (sub_3 _ (List.mem_of_getElem? (i := 137) rfl)) rfl
theorem kt_1391 : Cond.methodLink "GuideDeskLaw" (59 : Nat) ({ cls := "GuideDeskModel", name := "clock", desc := "(I)Z" } : Jvm.MethodName) ∈ TB := TB_of (sub_6 _ (List.mem_of_getElem? (i := 191) rfl)) rfl
theorem kt_1392 : Cond.instanceMethod ({ cls := "GuideDeskModel", name := "clock", desc := "(I)Z" } : Jvm.MethodName) ∈ TB := TB_of (sub_6 _ (List.mem_of_getElem? (i := 192) rfl)) rfl
theorem kt_1393 : Cond.selects "GuideDeskModel" ({ cls := "GuideDeskModel", name := "clock", desc := "(I)Z" } : Jvm.MethodName) ({ cls := "GuideDeskModel", name := "clock", desc := "(I)Z" } : Jvm.MethodName) ∈ TB := TB_of (sub_6 _ (List.mem_of_getElem? (i := 193) rfl)) rfl
theorem kt_619 : Cond.methodLink "GuideDeskLaw" (60 : Nat) ({ cls := "GuideDesk", name := "sent", desc := "(III)I" } : Jvm.MethodName) ∈ TB := TB_of (sub_3 _ (List.mem_of_getElem? (i := 139) rfl)) rfl
theorem kt_620 : Cond.instanceMethod ({ cls := "GuideDesk", name := "sent", desc := "(III)I" } : Jvm.MethodName) ∈ TB := TB_of (sub_3 _ (List.mem_of_getElem? (i := 140) rfl)) rfl
theorem kt_621 : Cond.selects "GuideDesk" ({ cls := "GuideDesk", name := "sent", desc := "(III)I" } : Jvm.MethodName) ({ cls := "GuideDesk", name := "sent", desc := "(III)I" } : Jvm.MethodName) ∈ TB := TB_of (sub_3 _ (List.mem_of_getElem? (i := 141) rfl)) rfl
theorem kt_1398 : Cond.methodLink "GuideDeskLaw" (63 : Nat) ({ cls := "GuideDeskModel", name := "sent", desc := "(III)I" } : Jvm.MethodName) ∈ TB := TB_of (sub_6 _ (List.mem_of_getElem? (i := 198) rfl)) rfl
theorem kt_1399 : Cond.instanceMethod ({ cls := "GuideDeskModel", name := "sent", desc := "(III)I" } : Jvm.MethodName) ∈ TB := TB_of (sub_6 _ (List.mem_of_getElem? (i := 199) rfl)) rfl
theorem kt_1400 : Cond.selects "GuideDeskModel" ({ cls := "GuideDeskModel", name := "sent", desc := "(III)I" } : Jvm.MethodName) ({ cls := "GuideDeskModel", name := "sent", desc := "(III)I" } : Jvm.MethodName) ∈ TB := TB_of (sub_6 _ (List.mem_of_getElem? (i := 200) rfl)) rfl
theorem kt_761 : Cond.methodLink "GuideDeskLaw" (64 : Nat) ({ cls := "GuideDesk", name := "says", desc := "(IIII)I" } : Jvm.MethodName) ∈ TB := TB_of (sub_4 _ (List.mem_of_getElem? (i := 41) rfl)) rfl
theorem kt_762 : Cond.instanceMethod ({ cls := "GuideDesk", name := "says", desc := "(IIII)I" } : Jvm.MethodName) ∈ TB := TB_of (sub_4 _ (List.mem_of_getElem? (i := 42) rfl)) rfl
theorem kt_763 : Cond.selects "GuideDesk" ({ cls := "GuideDesk", name := "says", desc := "(IIII)I" } : Jvm.MethodName) ({ cls := "GuideDesk", name := "says", desc := "(IIII)I" } : Jvm.MethodName) ∈ TB := TB_of (sub_4 _ (List.mem_of_getElem? (i := 43) rfl)) rfl
theorem kt_1422 : Cond.methodLink "GuideDeskLaw" (68 : Nat) ({ cls := "GuideDeskModel", name := "says", desc := "(IIII)I" } : Jvm.MethodName) ∈ TB := TB_of (sub_6 _ (List.mem_of_getElem? (i := 222) rfl)) rfl
theorem kt_1423 : Cond.instanceMethod ({ cls := "GuideDeskModel", name := "says", desc := "(IIII)I" } : Jvm.MethodName) ∈ TB := TB_of (sub_6 _ (List.mem_of_getElem? (i := 223) rfl)) rfl
theorem kt_1424 : Cond.selects "GuideDeskModel" ({ cls := "GuideDeskModel", name := "says", desc := "(IIII)I" } : Jvm.MethodName) ({ cls := "GuideDeskModel", name := "says", desc := "(IIII)I" } : Jvm.MethodName) ∈ TB := TB_of (sub_6 _ (List.mem_of_getElem? (i := 224) rfl)) rfl
theorem kt_775 : Cond.methodLink "GuideDeskLaw" (69 : Nat) ({ cls := "GuideDesk", name := "showing", desc := "(III)I" } : Jvm.MethodName) ∈ TB := TB_of (sub_4 _ (List.mem_of_getElem? (i := 55) rfl)) rfl
theorem kt_776 : Cond.instanceMethod ({ cls := "GuideDesk", name := "showing", desc := "(III)I" } : Jvm.MethodName) ∈ TB := TB_of (sub_4 _ (List.mem_of_getElem? (i := 56) rfl)) rfl
theorem kt_777 : Cond.selects "GuideDesk" ({ cls := "GuideDesk", name := "showing", desc := "(III)I" } : Jvm.MethodName) ({ cls := "GuideDesk", name := "showing", desc := "(III)I" } : Jvm.MethodName) ∈ TB := TB_of (sub_4 _ (List.mem_of_getElem? (i := 57) rfl)) rfl
theorem kt_1430 : Cond.methodLink "GuideDeskLaw" (72 : Nat) ({ cls := "GuideDeskModel", name := "showing", desc := "(III)I" } : Jvm.MethodName) ∈ TB := TB_of (sub_6 _ (List.mem_of_getElem? (i := 230) rfl)) rfl
theorem kt_1431 : Cond.instanceMethod ({ cls := "GuideDeskModel", name := "showing", desc := "(III)I" } : Jvm.MethodName) ∈ TB := TB_of (sub_6 _ (List.mem_of_getElem? (i := 231) rfl)) rfl
theorem kt_1432 : Cond.selects "GuideDeskModel" ({ cls := "GuideDeskModel", name := "showing", desc := "(III)I" } : Jvm.MethodName) ({ cls := "GuideDeskModel", name := "showing", desc := "(III)I" } : Jvm.MethodName) ∈ TB := TB_of (sub_6 _ (List.mem_of_getElem? (i := 232) rfl)) rfl
theorem kt_812 : Cond.methodLink "GuideDeskLaw" (73 : Nat) ({ cls := "GuideDesk", name := "showings", desc := "(I)I" } : Jvm.MethodName) ∈ TB := TB_of (sub_4 _ (List.mem_of_getElem? (i := 92) rfl)) rfl
theorem kt_813 : Cond.instanceMethod ({ cls := "GuideDesk", name := "showings", desc := "(I)I" } : Jvm.MethodName) ∈ TB := TB_of (sub_4 _ (List.mem_of_getElem? (i := 93) rfl)) rfl
theorem kt_814 : Cond.selects "GuideDesk" ({ cls := "GuideDesk", name := "showings", desc := "(I)I" } : Jvm.MethodName) ({ cls := "GuideDesk", name := "showings", desc := "(I)I" } : Jvm.MethodName) ∈ TB := TB_of (sub_4 _ (List.mem_of_getElem? (i := 94) rfl)) rfl
theorem kt_1426 : Cond.methodLink "GuideDeskLaw" (76 : Nat) ({ cls := "GuideDeskModel", name := "showings", desc := "(I)I" } : Jvm.MethodName) ∈ TB := TB_of (sub_6 _ (List.mem_of_getElem? (i := 226) rfl)) rfl
theorem kt_1427 : Cond.instanceMethod ({ cls := "GuideDeskModel", name := "showings", desc := "(I)I" } : Jvm.MethodName) ∈ TB := TB_of (sub_6 _ (List.mem_of_getElem? (i := 227) rfl)) rfl
theorem kt_1428 : Cond.selects "GuideDeskModel" ({ cls := "GuideDeskModel", name := "showings", desc := "(I)I" } : Jvm.MethodName) ({ cls := "GuideDeskModel", name := "showings", desc := "(I)I" } : Jvm.MethodName) ∈ TB := TB_of (sub_6 _ (List.mem_of_getElem? (i := 228) rfl)) rfl
theorem kt_816 : Cond.methodLink "GuideDeskLaw" (77 : Nat) ({ cls := "GuideDesk", name := "holds", desc := "(III)I" } : Jvm.MethodName) ∈ TB := TB_of (sub_4 _ (List.mem_of_getElem? (i := 96) rfl)) rfl
theorem kt_817 : Cond.instanceMethod ({ cls := "GuideDesk", name := "holds", desc := "(III)I" } : Jvm.MethodName) ∈ TB := TB_of (sub_4 _ (List.mem_of_getElem? (i := 97) rfl)) rfl
theorem kt_818 : Cond.selects "GuideDesk" ({ cls := "GuideDesk", name := "holds", desc := "(III)I" } : Jvm.MethodName) ({ cls := "GuideDesk", name := "holds", desc := "(III)I" } : Jvm.MethodName) ∈ TB := TB_of (sub_4 _ (List.mem_of_getElem? (i := 98) rfl)) rfl
theorem kt_1462 : Cond.methodLink "GuideDeskLaw" (80 : Nat) ({ cls := "GuideDeskModel", name := "holds", desc := "(III)I" } : Jvm.MethodName) ∈ TB := TB_of (sub_7 _ (List.mem_of_getElem? (i := 22) rfl)) rfl
theorem kt_1463 : Cond.instanceMethod ({ cls := "GuideDeskModel", name := "holds", desc := "(III)I" } : Jvm.MethodName) ∈ TB := TB_of (sub_7 _ (List.mem_of_getElem? (i := 23) rfl)) rfl
theorem kt_1464 : Cond.selects "GuideDeskModel" ({ cls := "GuideDeskModel", name := "holds", desc := "(III)I" } : Jvm.MethodName) ({ cls := "GuideDeskModel", name := "holds", desc := "(III)I" } : Jvm.MethodName) ∈ TB := TB_of (sub_7 _ (List.mem_of_getElem? (i := 24) rfl)) rfl
theorem kt_821 : Cond.methodLink "GuideDeskLaw" (81 : Nat) ({ cls := "GuideDesk", name := "plan", desc := "(I)I" } : Jvm.MethodName) ∈ TB := TB_of (sub_4 _ (List.mem_of_getElem? (i := 101) rfl)) rfl
theorem kt_822 : Cond.instanceMethod ({ cls := "GuideDesk", name := "plan", desc := "(I)I" } : Jvm.MethodName) ∈ TB := TB_of (sub_4 _ (List.mem_of_getElem? (i := 102) rfl)) rfl
theorem kt_823 : Cond.selects "GuideDesk" ({ cls := "GuideDesk", name := "plan", desc := "(I)I" } : Jvm.MethodName) ({ cls := "GuideDesk", name := "plan", desc := "(I)I" } : Jvm.MethodName) ∈ TB := TB_of (sub_4 _ (List.mem_of_getElem? (i := 103) rfl)) rfl
theorem kt_1466 : Cond.methodLink "GuideDeskLaw" (84 : Nat) ({ cls := "GuideDeskModel", name := "plan", desc := "(I)I" } : Jvm.MethodName) ∈ TB := TB_of (sub_7 _ (List.mem_of_getElem? (i := 26) rfl)) rfl
theorem kt_1467 : Cond.instanceMethod ({ cls := "GuideDeskModel", name := "plan", desc := "(I)I" } : Jvm.MethodName) ∈ TB := TB_of (sub_7 _ (List.mem_of_getElem? (i := 27) rfl)) rfl
theorem kt_1468 : Cond.selects "GuideDeskModel" ({ cls := "GuideDeskModel", name := "plan", desc := "(I)I" } : Jvm.MethodName) ({ cls := "GuideDeskModel", name := "plan", desc := "(I)I" } : Jvm.MethodName) ∈ TB := TB_of (sub_7 _ (List.mem_of_getElem? (i := 28) rfl)) rfl
theorem kt_1011 : Cond.methodLink "GuideDeskLaw" (85 : Nat) ({ cls := "GuideDesk", name := "candidate", desc := "(II)I" } : Jvm.MethodName) ∈ TB := TB_of (sub_5 _ (List.mem_of_getElem? (i := 51) rfl)) rfl
theorem kt_1012 : Cond.instanceMethod ({ cls := "GuideDesk", name := "candidate", desc := "(II)I" } : Jvm.MethodName) ∈ TB := TB_of (sub_5 _ (List.mem_of_getElem? (i := 52) rfl)) rfl
theorem kt_1013 : Cond.selects "GuideDesk" ({ cls := "GuideDesk", name := "candidate", desc := "(II)I" } : Jvm.MethodName) ({ cls := "GuideDesk", name := "candidate", desc := "(II)I" } : Jvm.MethodName) ∈ TB := TB_of (sub_5 _ (List.mem_of_getElem? (i := 53) rfl)) rfl
theorem kt_1502 : Cond.methodLink "GuideDeskLaw" (89 : Nat) ({ cls := "GuideDeskModel", name := "candidate", desc := "(II)I" } : Jvm.MethodName) ∈ TB := TB_of (sub_7 _ (List.mem_of_getElem? (i := 62) rfl)) rfl
theorem kt_1503 : Cond.instanceMethod ({ cls := "GuideDeskModel", name := "candidate", desc := "(II)I" } : Jvm.MethodName) ∈ TB := TB_of (sub_7 _ (List.mem_of_getElem? (i := 63) rfl)) rfl
theorem kt_1504 : Cond.selects "GuideDeskModel" ({ cls := "GuideDeskModel", name := "candidate", desc := "(II)I" } : Jvm.MethodName) ({ cls := "GuideDeskModel", name := "candidate", desc := "(II)I" } : Jvm.MethodName) ∈ TB := TB_of (sub_7 _ (List.mem_of_getElem? (i := 64) rfl)) rfl
theorem kt_1016 : Cond.methodLink "GuideDeskLaw" (90 : Nat) ({ cls := "GuideDesk", name := "count", desc := "(I)I" } : Jvm.MethodName) ∈ TB := TB_of (sub_5 _ (List.mem_of_getElem? (i := 56) rfl)) rfl
theorem kt_1017 : Cond.instanceMethod ({ cls := "GuideDesk", name := "count", desc := "(I)I" } : Jvm.MethodName) ∈ TB := TB_of (sub_5 _ (List.mem_of_getElem? (i := 57) rfl)) rfl
theorem kt_1018 : Cond.selects "GuideDesk" ({ cls := "GuideDesk", name := "count", desc := "(I)I" } : Jvm.MethodName) ({ cls := "GuideDesk", name := "count", desc := "(I)I" } : Jvm.MethodName) ∈ TB := TB_of (sub_5 _ (List.mem_of_getElem? (i := 58) rfl)) rfl
theorem kt_1506 : Cond.methodLink "GuideDeskLaw" (93 : Nat) ({ cls := "GuideDeskModel", name := "count", desc := "(I)I" } : Jvm.MethodName) ∈ TB := TB_of (sub_7 _ (List.mem_of_getElem? (i := 66) rfl)) rfl
theorem kt_1507 : Cond.instanceMethod ({ cls := "GuideDeskModel", name := "count", desc := "(I)I" } : Jvm.MethodName) ∈ TB := TB_of (sub_7 _ (List.mem_of_getElem? (i := 67) rfl)) rfl
theorem kt_1508 : Cond.selects "GuideDeskModel" ({ cls := "GuideDeskModel", name := "count", desc := "(I)I" } : Jvm.MethodName) ({ cls := "GuideDeskModel", name := "count", desc := "(I)I" } : Jvm.MethodName) ∈ TB := TB_of (sub_7 _ (List.mem_of_getElem? (i := 68) rfl)) rfl
theorem kt_22 : Cond.classLink "GuideDeskLaw" (7 : Nat) "GuideDesk" ∈ TB := TB_of (sub_1 _ (List.mem_of_getElem? (i := 22) rfl)) rfl
theorem kt_24 : Cond.methodLink "GuideDeskLaw" (9 : Nat) ({ cls := "GuideDesk", name := "<init>", desc := "()V" } : Jvm.MethodName) ∈ TB := TB_of (sub_1 _ (List.mem_of_getElem? (i := 24) rfl)) rfl
theorem kt_25 : Cond.instanceMethod ({ cls := "GuideDesk", name := "<init>", desc := "()V" } : Jvm.MethodName) ∈ TB := TB_of (sub_1 _ (List.mem_of_getElem? (i := 25) rfl)) rfl
theorem kt_1024 : Cond.classLink "GuideDeskLaw" (10 : Nat) "GuideDeskModel" ∈ TB := TB_of (sub_5 _ (List.mem_of_getElem? (i := 64) rfl)) rfl
theorem kt_1026 : Cond.methodLink "GuideDeskLaw" (12 : Nat) ({ cls := "GuideDeskModel", name := "<init>", desc := "()V" } : Jvm.MethodName) ∈ TB := TB_of (sub_5 _ (List.mem_of_getElem? (i := 66) rfl)) rfl
theorem kt_1027 : Cond.instanceMethod ({ cls := "GuideDeskModel", name := "<init>", desc := "()V" } : Jvm.MethodName) ∈ TB := TB_of (sub_5 _ (List.mem_of_getElem? (i := 67) rfl)) rfl
