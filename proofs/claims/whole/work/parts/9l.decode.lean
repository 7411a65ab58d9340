/-! the law: what stands where -/
theorem dL_0 : decode code 0 = .ok (.new 7, 3) := by decide +kernel
theorem dL_3 : decode code 3 = .ok (.dup, 1) := by decide +kernel
theorem dL_4 : decode code 4 = .ok (.invokespecial 9, 3) := by decide +kernel
theorem dL_7 : decode code 7 = .ok (.astore_n 1, 1) := by decide +kernel
theorem dL_8 : decode code 8 = .ok (.new 10, 3) := by decide +kernel
theorem dL_11 : decode code 11 = .ok (.dup, 1) := by decide +kernel
theorem dL_12 : decode code 12 = .ok (.invokespecial 12, 3) := by decide +kernel
theorem dL_15 : decode code 15 = .ok (.astore_n 2, 1) := by decide +kernel
theorem dL_16 : decode code 16 = .ok (.iconst 0, 1) := by decide +kernel
theorem dL_17 : decode code 17 = .ok (.istore_n 3, 1) := by decide +kernel
theorem dL_18 : decode code 18 = .ok (.iload_n 3, 1) := by decide +kernel
theorem dL_19 : decode code 19 = .ok (.aload_n 0, 1) := by decide +kernel
theorem dL_20 : decode code 20 = .ok (.arraylength, 1) := by decide +kernel
theorem dL_21 : decode code 21 = .ok (.iconst 4, 1) := by decide +kernel
theorem dL_22 : decode code 22 = .ok (.isub, 1) := by decide +kernel
theorem dL_23 : decode code 23 = .ok (.if_icmp .gt (701), 3) := by decide +kernel
theorem dL_26 : decode code 26 = .ok (.aload_n 0, 1) := by decide +kernel
theorem dL_27 : decode code 27 = .ok (.iload_n 3, 1) := by decide +kernel
theorem dL_28 : decode code 28 = .ok (.iaload, 1) := by decide +kernel
theorem dL_29 : decode code 29 = .ok (.bipush 31, 2) := by decide +kernel
theorem dL_31 : decode code 31 = .ok (.iand, 1) := by decide +kernel
theorem dL_32 : decode code 32 = .ok (.tableswitch 686 0 19 #[96, 119, 142, 155, 178, 211, 254, 297, 340, 363, 406, 419, 442, 475, 508, 541, 574, 607, 640, 663], 96) := by decide +kernel
theorem dL_128 : decode code 128 = .ok (.aload_n 1, 1) := by decide +kernel
theorem dL_129 : decode code 129 = .ok (.aload_n 0, 1) := by decide +kernel
theorem dL_130 : decode code 130 = .ok (.iload_n 3, 1) := by decide +kernel
theorem dL_131 : decode code 131 = .ok (.iconst 1, 1) := by decide +kernel
theorem dL_132 : decode code 132 = .ok (.iadd, 1) := by decide +kernel
theorem dL_133 : decode code 133 = .ok (.iaload, 1) := by decide +kernel
theorem dL_134 : decode code 134 = .ok (.invokevirtual 13, 3) := by decide +kernel
theorem dL_137 : decode code 137 = .ok (.aload_n 2, 1) := by decide +kernel
theorem dL_138 : decode code 138 = .ok (.aload_n 0, 1) := by decide +kernel
theorem dL_139 : decode code 139 = .ok (.iload_n 3, 1) := by decide +kernel
theorem dL_140 : decode code 140 = .ok (.iconst 1, 1) := by decide +kernel
theorem dL_141 : decode code 141 = .ok (.iadd, 1) := by decide +kernel
theorem dL_142 : decode code 142 = .ok (.iaload, 1) := by decide +kernel
theorem dL_143 : decode code 143 = .ok (.invokevirtual 17, 3) := by decide +kernel
theorem dL_146 : decode code 146 = .ok (.if_icmp .eq (572), 3) := by decide +kernel
theorem dL_149 : decode code 149 = .ok (.iconst 0, 1) := by decide +kernel
theorem dL_150 : decode code 150 = .ok (.ireturn, 1) := by decide +kernel
theorem dL_151 : decode code 151 = .ok (.aload_n 1, 1) := by decide +kernel
theorem dL_152 : decode code 152 = .ok (.aload_n 0, 1) := by decide +kernel
theorem dL_153 : decode code 153 = .ok (.iload_n 3, 1) := by decide +kernel
theorem dL_154 : decode code 154 = .ok (.iconst 1, 1) := by decide +kernel
theorem dL_155 : decode code 155 = .ok (.iadd, 1) := by decide +kernel
theorem dL_156 : decode code 156 = .ok (.iaload, 1) := by decide +kernel
theorem dL_157 : decode code 157 = .ok (.invokevirtual 18, 3) := by decide +kernel
theorem dL_160 : decode code 160 = .ok (.aload_n 2, 1) := by decide +kernel
theorem dL_161 : decode code 161 = .ok (.aload_n 0, 1) := by decide +kernel
theorem dL_162 : decode code 162 = .ok (.iload_n 3, 1) := by decide +kernel
theorem dL_163 : decode code 163 = .ok (.iconst 1, 1) := by decide +kernel
theorem dL_164 : decode code 164 = .ok (.iadd, 1) := by decide +kernel
theorem dL_165 : decode code 165 = .ok (.iaload, 1) := by decide +kernel
theorem dL_166 : decode code 166 = .ok (.invokevirtual 21, 3) := by decide +kernel
theorem dL_169 : decode code 169 = .ok (.if_icmp .eq (549), 3) := by decide +kernel
theorem dL_172 : decode code 172 = .ok (.iconst 0, 1) := by decide +kernel
theorem dL_173 : decode code 173 = .ok (.ireturn, 1) := by decide +kernel
theorem dL_174 : decode code 174 = .ok (.aload_n 1, 1) := by decide +kernel
theorem dL_175 : decode code 175 = .ok (.invokevirtual 22, 3) := by decide +kernel
theorem dL_178 : decode code 178 = .ok (.aload_n 2, 1) := by decide +kernel
theorem dL_179 : decode code 179 = .ok (.invokevirtual 26, 3) := by decide +kernel
theorem dL_182 : decode code 182 = .ok (.if_icmp .eq (536), 3) := by decide +kernel
theorem dL_185 : decode code 185 = .ok (.iconst 0, 1) := by decide +kernel
theorem dL_186 : decode code 186 = .ok (.ireturn, 1) := by decide +kernel
theorem dL_187 : decode code 187 = .ok (.aload_n 1, 1) := by decide +kernel
theorem dL_188 : decode code 188 = .ok (.aload_n 0, 1) := by decide +kernel
theorem dL_189 : decode code 189 = .ok (.iload_n 3, 1) := by decide +kernel
theorem dL_190 : decode code 190 = .ok (.iconst 1, 1) := by decide +kernel
theorem dL_191 : decode code 191 = .ok (.iadd, 1) := by decide +kernel
theorem dL_192 : decode code 192 = .ok (.iaload, 1) := by decide +kernel
theorem dL_193 : decode code 193 = .ok (.invokevirtual 27, 3) := by decide +kernel
theorem dL_196 : decode code 196 = .ok (.aload_n 2, 1) := by decide +kernel
theorem dL_197 : decode code 197 = .ok (.aload_n 0, 1) := by decide +kernel
theorem dL_198 : decode code 198 = .ok (.iload_n 3, 1) := by decide +kernel
theorem dL_199 : decode code 199 = .ok (.iconst 1, 1) := by decide +kernel
theorem dL_200 : decode code 200 = .ok (.iadd, 1) := by decide +kernel
theorem dL_201 : decode code 201 = .ok (.iaload, 1) := by decide +kernel
theorem dL_202 : decode code 202 = .ok (.invokevirtual 30, 3) := by decide +kernel
theorem dL_205 : decode code 205 = .ok (.if_icmp .eq (513), 3) := by decide +kernel
theorem dL_208 : decode code 208 = .ok (.iconst 0, 1) := by decide +kernel
theorem dL_209 : decode code 209 = .ok (.ireturn, 1) := by decide +kernel
theorem dL_210 : decode code 210 = .ok (.aload_n 1, 1) := by decide +kernel
theorem dL_211 : decode code 211 = .ok (.aload_n 0, 1) := by decide +kernel
theorem dL_212 : decode code 212 = .ok (.iload_n 3, 1) := by decide +kernel
theorem dL_213 : decode code 213 = .ok (.iconst 1, 1) := by decide +kernel
theorem dL_214 : decode code 214 = .ok (.iadd, 1) := by decide +kernel
theorem dL_215 : decode code 215 = .ok (.iaload, 1) := by decide +kernel
theorem dL_216 : decode code 216 = .ok (.aload_n 0, 1) := by decide +kernel
theorem dL_217 : decode code 217 = .ok (.iload_n 3, 1) := by decide +kernel
theorem dL_218 : decode code 218 = .ok (.iconst 2, 1) := by decide +kernel
theorem dL_219 : decode code 219 = .ok (.iadd, 1) := by decide +kernel
theorem dL_220 : decode code 220 = .ok (.iaload, 1) := by decide +kernel
theorem dL_221 : decode code 221 = .ok (.invokevirtual 31, 3) := by decide +kernel
theorem dL_224 : decode code 224 = .ok (.aload_n 2, 1) := by decide +kernel
theorem dL_225 : decode code 225 = .ok (.aload_n 0, 1) := by decide +kernel
theorem dL_226 : decode code 226 = .ok (.iload_n 3, 1) := by decide +kernel
theorem dL_227 : decode code 227 = .ok (.iconst 1, 1) := by decide +kernel
theorem dL_228 : decode code 228 = .ok (.iadd, 1) := by decide +kernel
theorem dL_229 : decode code 229 = .ok (.iaload, 1) := by decide +kernel
theorem dL_230 : decode code 230 = .ok (.aload_n 0, 1) := by decide +kernel
theorem dL_231 : decode code 231 = .ok (.iload_n 3, 1) := by decide +kernel
theorem dL_232 : decode code 232 = .ok (.iconst 2, 1) := by decide +kernel
theorem dL_233 : decode code 233 = .ok (.iadd, 1) := by decide +kernel
theorem dL_234 : decode code 234 = .ok (.iaload, 1) := by decide +kernel
theorem dL_235 : decode code 235 = .ok (.invokevirtual 35, 3) := by decide +kernel
theorem dL_238 : decode code 238 = .ok (.if_icmp .eq (480), 3) := by decide +kernel
theorem dL_241 : decode code 241 = .ok (.iconst 0, 1) := by decide +kernel
theorem dL_242 : decode code 242 = .ok (.ireturn, 1) := by decide +kernel
theorem dL_243 : decode code 243 = .ok (.aload_n 1, 1) := by decide +kernel
theorem dL_244 : decode code 244 = .ok (.aload_n 0, 1) := by decide +kernel
theorem dL_245 : decode code 245 = .ok (.iload_n 3, 1) := by decide +kernel
theorem dL_246 : decode code 246 = .ok (.iconst 1, 1) := by decide +kernel
theorem dL_247 : decode code 247 = .ok (.iadd, 1) := by decide +kernel
theorem dL_248 : decode code 248 = .ok (.iaload, 1) := by decide +kernel
theorem dL_249 : decode code 249 = .ok (.aload_n 0, 1) := by decide +kernel
theorem dL_250 : decode code 250 = .ok (.iload_n 3, 1) := by decide +kernel
theorem dL_251 : decode code 251 = .ok (.iconst 2, 1) := by decide +kernel
theorem dL_252 : decode code 252 = .ok (.iadd, 1) := by decide +kernel
theorem dL_253 : decode code 253 = .ok (.iaload, 1) := by decide +kernel
theorem dL_254 : decode code 254 = .ok (.aload_n 0, 1) := by decide +kernel
theorem dL_255 : decode code 255 = .ok (.iload_n 3, 1) := by decide +kernel
theorem dL_256 : decode code 256 = .ok (.iconst 3, 1) := by decide +kernel
theorem dL_257 : decode code 257 = .ok (.iadd, 1) := by decide +kernel
theorem dL_258 : decode code 258 = .ok (.iaload, 1) := by decide +kernel
theorem dL_259 : decode code 259 = .ok (.invokevirtual 36, 3) := by decide +kernel
theorem dL_262 : decode code 262 = .ok (.aload_n 2, 1) := by decide +kernel
theorem dL_263 : decode code 263 = .ok (.aload_n 0, 1) := by decide +kernel
theorem dL_264 : decode code 264 = .ok (.iload_n 3, 1) := by decide +kernel
theorem dL_265 : decode code 265 = .ok (.iconst 1, 1) := by decide +kernel
theorem dL_266 : decode code 266 = .ok (.iadd, 1) := by decide +kernel
theorem dL_267 : decode code 267 = .ok (.iaload, 1) := by decide +kernel
theorem dL_268 : decode code 268 = .ok (.aload_n 0, 1) := by decide +kernel
theorem dL_269 : decode code 269 = .ok (.iload_n 3, 1) := by decide +kernel
theorem dL_270 : decode code 270 = .ok (.iconst 2, 1) := by decide +kernel
theorem dL_271 : decode code 271 = .ok (.iadd, 1) := by decide +kernel
theorem dL_272 : decode code 272 = .ok (.iaload, 1) := by decide +kernel
theorem dL_273 : decode code 273 = .ok (.aload_n 0, 1) := by decide +kernel
theorem dL_274 : decode code 274 = .ok (.iload_n 3, 1) := by decide +kernel
theorem dL_275 : decode code 275 = .ok (.iconst 3, 1) := by decide +kernel
theorem dL_276 : decode code 276 = .ok (.iadd, 1) := by decide +kernel
theorem dL_277 : decode code 277 = .ok (.iaload, 1) := by decide +kernel
theorem dL_278 : decode code 278 = .ok (.invokevirtual 40, 3) := by decide +kernel
theorem dL_281 : decode code 281 = .ok (.if_icmp .eq (437), 3) := by decide +kernel
theorem dL_284 : decode code 284 = .ok (.iconst 0, 1) := by decide +kernel
theorem dL_285 : decode code 285 = .ok (.ireturn, 1) := by decide +kernel
theorem dL_286 : decode code 286 = .ok (.aload_n 1, 1) := by decide +kernel
theorem dL_287 : decode code 287 = .ok (.aload_n 0, 1) := by decide +kernel
theorem dL_288 : decode code 288 = .ok (.iload_n 3, 1) := by decide +kernel
theorem dL_289 : decode code 289 = .ok (.iconst 1, 1) := by decide +kernel
theorem dL_290 : decode code 290 = .ok (.iadd, 1) := by decide +kernel
theorem dL_291 : decode code 291 = .ok (.iaload, 1) := by decide +kernel
theorem dL_292 : decode code 292 = .ok (.aload_n 0, 1) := by decide +kernel
theorem dL_293 : decode code 293 = .ok (.iload_n 3, 1) := by decide +kernel
theorem dL_294 : decode code 294 = .ok (.iconst 2, 1) := by decide +kernel
theorem dL_295 : decode code 295 = .ok (.iadd, 1) := by decide +kernel
theorem dL_296 : decode code 296 = .ok (.iaload, 1) := by decide +kernel
theorem dL_297 : decode code 297 = .ok (.aload_n 0, 1) := by decide +kernel
theorem dL_298 : decode code 298 = .ok (.iload_n 3, 1) := by decide +kernel
theorem dL_299 : decode code 299 = .ok (.iconst 3, 1) := by decide +kernel
theorem dL_300 : decode code 300 = .ok (.iadd, 1) := by decide +kernel
theorem dL_301 : decode code 301 = .ok (.iaload, 1) := by decide +kernel
theorem dL_302 : decode code 302 = .ok (.invokevirtual 41, 3) := by decide +kernel
theorem dL_305 : decode code 305 = .ok (.aload_n 2, 1) := by decide +kernel
theorem dL_306 : decode code 306 = .ok (.aload_n 0, 1) := by decide +kernel
theorem dL_307 : decode code 307 = .ok (.iload_n 3, 1) := by decide +kernel
theorem dL_308 : decode code 308 = .ok (.iconst 1, 1) := by decide +kernel
theorem dL_309 : decode code 309 = .ok (.iadd, 1) := by decide +kernel
theorem dL_310 : decode code 310 = .ok (.iaload, 1) := by decide +kernel
theorem dL_311 : decode code 311 = .ok (.aload_n 0, 1) := by decide +kernel
theorem dL_312 : decode code 312 = .ok (.iload_n 3, 1) := by decide +kernel
theorem dL_313 : decode code 313 = .ok (.iconst 2, 1) := by decide +kernel
theorem dL_314 : decode code 314 = .ok (.iadd, 1) := by decide +kernel
theorem dL_315 : decode code 315 = .ok (.iaload, 1) := by decide +kernel
theorem dL_316 : decode code 316 = .ok (.aload_n 0, 1) := by decide +kernel
theorem dL_317 : decode code 317 = .ok (.iload_n 3, 1) := by decide +kernel
theorem dL_318 : decode code 318 = .ok (.iconst 3, 1) := by decide +kernel
theorem dL_319 : decode code 319 = .ok (.iadd, 1) := by decide +kernel
theorem dL_320 : decode code 320 = .ok (.iaload, 1) := by decide +kernel
theorem dL_321 : decode code 321 = .ok (.invokevirtual 44, 3) := by decide +kernel
theorem dL_324 : decode code 324 = .ok (.if_icmp .eq (394), 3) := by decide +kernel
theorem dL_327 : decode code 327 = .ok (.iconst 0, 1) := by decide +kernel
theorem dL_328 : decode code 328 = .ok (.ireturn, 1) := by decide +kernel
theorem dL_329 : decode code 329 = .ok (.aload_n 1, 1) := by decide +kernel
theorem dL_330 : decode code 330 = .ok (.aload_n 0, 1) := by decide +kernel
theorem dL_331 : decode code 331 = .ok (.iload_n 3, 1) := by decide +kernel
theorem dL_332 : decode code 332 = .ok (.iconst 1, 1) := by decide +kernel
theorem dL_333 : decode code 333 = .ok (.iadd, 1) := by decide +kernel
theorem dL_334 : decode code 334 = .ok (.iaload, 1) := by decide +kernel
theorem dL_335 : decode code 335 = .ok (.aload_n 0, 1) := by decide +kernel
theorem dL_336 : decode code 336 = .ok (.iload_n 3, 1) := by decide +kernel
theorem dL_337 : decode code 337 = .ok (.iconst 2, 1) := by decide +kernel
theorem dL_338 : decode code 338 = .ok (.iadd, 1) := by decide +kernel
theorem dL_339 : decode code 339 = .ok (.iaload, 1) := by decide +kernel
theorem dL_340 : decode code 340 = .ok (.aload_n 0, 1) := by decide +kernel
theorem dL_341 : decode code 341 = .ok (.iload_n 3, 1) := by decide +kernel
theorem dL_342 : decode code 342 = .ok (.iconst 3, 1) := by decide +kernel
theorem dL_343 : decode code 343 = .ok (.iadd, 1) := by decide +kernel
theorem dL_344 : decode code 344 = .ok (.iaload, 1) := by decide +kernel
theorem dL_345 : decode code 345 = .ok (.invokevirtual 45, 3) := by decide +kernel
theorem dL_348 : decode code 348 = .ok (.aload_n 2, 1) := by decide +kernel
theorem dL_349 : decode code 349 = .ok (.aload_n 0, 1) := by decide +kernel
theorem dL_350 : decode code 350 = .ok (.iload_n 3, 1) := by decide +kernel
theorem dL_351 : decode code 351 = .ok (.iconst 1, 1) := by decide +kernel
theorem dL_352 : decode code 352 = .ok (.iadd, 1) := by decide +kernel
theorem dL_353 : decode code 353 = .ok (.iaload, 1) := by decide +kernel
theorem dL_354 : decode code 354 = .ok (.aload_n 0, 1) := by decide +kernel
theorem dL_355 : decode code 355 = .ok (.iload_n 3, 1) := by decide +kernel
theorem dL_356 : decode code 356 = .ok (.iconst 2, 1) := by decide +kernel
theorem dL_357 : decode code 357 = .ok (.iadd, 1) := by decide +kernel
theorem dL_358 : decode code 358 = .ok (.iaload, 1) := by decide +kernel
theorem dL_359 : decode code 359 = .ok (.aload_n 0, 1) := by decide +kernel
theorem dL_360 : decode code 360 = .ok (.iload_n 3, 1) := by decide +kernel
theorem dL_361 : decode code 361 = .ok (.iconst 3, 1) := by decide +kernel
theorem dL_362 : decode code 362 = .ok (.iadd, 1) := by decide +kernel
theorem dL_363 : decode code 363 = .ok (.iaload, 1) := by decide +kernel
theorem dL_364 : decode code 364 = .ok (.invokevirtual 48, 3) := by decide +kernel
theorem dL_367 : decode code 367 = .ok (.if_icmp .eq (351), 3) := by decide +kernel
theorem dL_370 : decode code 370 = .ok (.iconst 0, 1) := by decide +kernel
theorem dL_371 : decode code 371 = .ok (.ireturn, 1) := by decide +kernel
theorem dL_372 : decode code 372 = .ok (.aload_n 1, 1) := by decide +kernel
theorem dL_373 : decode code 373 = .ok (.aload_n 0, 1) := by decide +kernel
theorem dL_374 : decode code 374 = .ok (.iload_n 3, 1) := by decide +kernel
theorem dL_375 : decode code 375 = .ok (.iconst 1, 1) := by decide +kernel
theorem dL_376 : decode code 376 = .ok (.iadd, 1) := by decide +kernel
theorem dL_377 : decode code 377 = .ok (.iaload, 1) := by decide +kernel
theorem dL_378 : decode code 378 = .ok (.invokevirtual 49, 3) := by decide +kernel
theorem dL_381 : decode code 381 = .ok (.aload_n 2, 1) := by decide +kernel
theorem dL_382 : decode code 382 = .ok (.aload_n 0, 1) := by decide +kernel
theorem dL_383 : decode code 383 = .ok (.iload_n 3, 1) := by decide +kernel
theorem dL_384 : decode code 384 = .ok (.iconst 1, 1) := by decide +kernel
theorem dL_385 : decode code 385 = .ok (.iadd, 1) := by decide +kernel
theorem dL_386 : decode code 386 = .ok (.iaload, 1) := by decide +kernel
theorem dL_387 : decode code 387 = .ok (.invokevirtual 52, 3) := by decide +kernel
theorem dL_390 : decode code 390 = .ok (.if_icmp .eq (328), 3) := by decide +kernel
theorem dL_393 : decode code 393 = .ok (.iconst 0, 1) := by decide +kernel
theorem dL_394 : decode code 394 = .ok (.ireturn, 1) := by decide +kernel
theorem dL_395 : decode code 395 = .ok (.aload_n 1, 1) := by decide +kernel
theorem dL_396 : decode code 396 = .ok (.aload_n 0, 1) := by decide +kernel
theorem dL_397 : decode code 397 = .ok (.iload_n 3, 1) := by decide +kernel
theorem dL_398 : decode code 398 = .ok (.iconst 1, 1) := by decide +kernel
theorem dL_399 : decode code 399 = .ok (.iadd, 1) := by decide +kernel
theorem dL_400 : decode code 400 = .ok (.iaload, 1) := by decide +kernel
theorem dL_401 : decode code 401 = .ok (.aload_n 0, 1) := by decide +kernel
theorem dL_402 : decode code 402 = .ok (.iload_n 3, 1) := by decide +kernel
theorem dL_403 : decode code 403 = .ok (.iconst 2, 1) := by decide +kernel
theorem dL_404 : decode code 404 = .ok (.iadd, 1) := by decide +kernel
theorem dL_405 : decode code 405 = .ok (.iaload, 1) := by decide +kernel
theorem dL_406 : decode code 406 = .ok (.aload_n 0, 1) := by decide +kernel
theorem dL_407 : decode code 407 = .ok (.iload_n 3, 1) := by decide +kernel
theorem dL_408 : decode code 408 = .ok (.iconst 3, 1) := by decide +kernel
theorem dL_409 : decode code 409 = .ok (.iadd, 1) := by decide +kernel
theorem dL_410 : decode code 410 = .ok (.iaload, 1) := by decide +kernel
theorem dL_411 : decode code 411 = .ok (.invokevirtual 53, 3) := by decide +kernel
theorem dL_414 : decode code 414 = .ok (.aload_n 2, 1) := by decide +kernel
theorem dL_415 : decode code 415 = .ok (.aload_n 0, 1) := by decide +kernel
theorem dL_416 : decode code 416 = .ok (.iload_n 3, 1) := by decide +kernel
theorem dL_417 : decode code 417 = .ok (.iconst 1, 1) := by decide +kernel
theorem dL_418 : decode code 418 = .ok (.iadd, 1) := by decide +kernel
theorem dL_419 : decode code 419 = .ok (.iaload, 1) := by decide +kernel
theorem dL_420 : decode code 420 = .ok (.aload_n 0, 1) := by decide +kernel
theorem dL_421 : decode code 421 = .ok (.iload_n 3, 1) := by decide +kernel
theorem dL_422 : decode code 422 = .ok (.iconst 2, 1) := by decide +kernel
theorem dL_423 : decode code 423 = .ok (.iadd, 1) := by decide +kernel
theorem dL_424 : decode code 424 = .ok (.iaload, 1) := by decide +kernel
theorem dL_425 : decode code 425 = .ok (.aload_n 0, 1) := by decide +kernel
theorem dL_426 : decode code 426 = .ok (.iload_n 3, 1) := by decide +kernel
theorem dL_427 : decode code 427 = .ok (.iconst 3, 1) := by decide +kernel
theorem dL_428 : decode code 428 = .ok (.iadd, 1) := by decide +kernel
theorem dL_429 : decode code 429 = .ok (.iaload, 1) := by decide +kernel
theorem dL_430 : decode code 430 = .ok (.invokevirtual 56, 3) := by decide +kernel
theorem dL_433 : decode code 433 = .ok (.if_icmp .eq (285), 3) := by decide +kernel
theorem dL_436 : decode code 436 = .ok (.iconst 0, 1) := by decide +kernel
theorem dL_437 : decode code 437 = .ok (.ireturn, 1) := by decide +kernel
theorem dL_438 : decode code 438 = .ok (.aload_n 1, 1) := by decide +kernel
theorem dL_439 : decode code 439 = .ok (.invokevirtual 57, 3) := by decide +kernel
theorem dL_442 : decode code 442 = .ok (.aload_n 2, 1) := by decide +kernel
theorem dL_443 : decode code 443 = .ok (.invokevirtual 60, 3) := by decide +kernel
theorem dL_446 : decode code 446 = .ok (.if_icmp .eq (272), 3) := by decide +kernel
theorem dL_449 : decode code 449 = .ok (.iconst 0, 1) := by decide +kernel
theorem dL_450 : decode code 450 = .ok (.ireturn, 1) := by decide +kernel
theorem dL_451 : decode code 451 = .ok (.aload_n 1, 1) := by decide +kernel
theorem dL_452 : decode code 452 = .ok (.aload_n 0, 1) := by decide +kernel
theorem dL_453 : decode code 453 = .ok (.iload_n 3, 1) := by decide +kernel
theorem dL_454 : decode code 454 = .ok (.iconst 1, 1) := by decide +kernel
theorem dL_455 : decode code 455 = .ok (.iadd, 1) := by decide +kernel
theorem dL_456 : decode code 456 = .ok (.iaload, 1) := by decide +kernel
theorem dL_457 : decode code 457 = .ok (.invokevirtual 61, 3) := by decide +kernel
theorem dL_460 : decode code 460 = .ok (.aload_n 2, 1) := by decide +kernel
theorem dL_461 : decode code 461 = .ok (.aload_n 0, 1) := by decide +kernel
theorem dL_462 : decode code 462 = .ok (.iload_n 3, 1) := by decide +kernel
theorem dL_463 : decode code 463 = .ok (.iconst 1, 1) := by decide +kernel
theorem dL_464 : decode code 464 = .ok (.iadd, 1) := by decide +kernel
theorem dL_465 : decode code 465 = .ok (.iaload, 1) := by decide +kernel
theorem dL_466 : decode code 466 = .ok (.invokevirtual 64, 3) := by decide +kernel
theorem dL_469 : decode code 469 = .ok (.if_icmp .eq (249), 3) := by decide +kernel
theorem dL_472 : decode code 472 = .ok (.iconst 0, 1) := by decide +kernel
theorem dL_473 : decode code 473 = .ok (.ireturn, 1) := by decide +kernel
theorem dL_474 : decode code 474 = .ok (.aload_n 1, 1) := by decide +kernel
theorem dL_475 : decode code 475 = .ok (.aload_n 0, 1) := by decide +kernel
theorem dL_476 : decode code 476 = .ok (.iload_n 3, 1) := by decide +kernel
theorem dL_477 : decode code 477 = .ok (.iconst 1, 1) := by decide +kernel
theorem dL_478 : decode code 478 = .ok (.iadd, 1) := by decide +kernel
theorem dL_479 : decode code 479 = .ok (.iaload, 1) := by decide +kernel
theorem dL_480 : decode code 480 = .ok (.aload_n 0, 1) := by decide +kernel
theorem dL_481 : decode code 481 = .ok (.iload_n 3, 1) := by decide +kernel
theorem dL_482 : decode code 482 = .ok (.iconst 2, 1) := by decide +kernel
theorem dL_483 : decode code 483 = .ok (.iadd, 1) := by decide +kernel
theorem dL_484 : decode code 484 = .ok (.iaload, 1) := by decide +kernel
theorem dL_485 : decode code 485 = .ok (.invokevirtual 65, 3) := by decide +kernel
theorem dL_488 : decode code 488 = .ok (.aload_n 2, 1) := by decide +kernel
theorem dL_489 : decode code 489 = .ok (.aload_n 0, 1) := by decide +kernel
theorem dL_490 : decode code 490 = .ok (.iload_n 3, 1) := by decide +kernel
theorem dL_491 : decode code 491 = .ok (.iconst 1, 1) := by decide +kernel
theorem dL_492 : decode code 492 = .ok (.iadd, 1) := by decide +kernel
theorem dL_493 : decode code 493 = .ok (.iaload, 1) := by decide +kernel
theorem dL_494 : decode code 494 = .ok (.aload_n 0, 1) := by decide +kernel
theorem dL_495 : decode code 495 = .ok (.iload_n 3, 1) := by decide +kernel
theorem dL_496 : decode code 496 = .ok (.iconst 2, 1) := by decide +kernel
theorem dL_497 : decode code 497 = .ok (.iadd, 1) := by decide +kernel
theorem dL_498 : decode code 498 = .ok (.iaload, 1) := by decide +kernel
theorem dL_499 : decode code 499 = .ok (.invokevirtual 68, 3) := by decide +kernel
theorem dL_502 : decode code 502 = .ok (.if_icmp .eq (216), 3) := by decide +kernel
theorem dL_505 : decode code 505 = .ok (.iconst 0, 1) := by decide +kernel
theorem dL_506 : decode code 506 = .ok (.ireturn, 1) := by decide +kernel
theorem dL_507 : decode code 507 = .ok (.aload_n 1, 1) := by decide +kernel
theorem dL_508 : decode code 508 = .ok (.aload_n 0, 1) := by decide +kernel
theorem dL_509 : decode code 509 = .ok (.iload_n 3, 1) := by decide +kernel
theorem dL_510 : decode code 510 = .ok (.iconst 1, 1) := by decide +kernel
theorem dL_511 : decode code 511 = .ok (.iadd, 1) := by decide +kernel
theorem dL_512 : decode code 512 = .ok (.iaload, 1) := by decide +kernel
theorem dL_513 : decode code 513 = .ok (.aload_n 0, 1) := by decide +kernel
theorem dL_514 : decode code 514 = .ok (.iload_n 3, 1) := by decide +kernel
theorem dL_515 : decode code 515 = .ok (.iconst 2, 1) := by decide +kernel
theorem dL_516 : decode code 516 = .ok (.iadd, 1) := by decide +kernel
theorem dL_517 : decode code 517 = .ok (.iaload, 1) := by decide +kernel
theorem dL_518 : decode code 518 = .ok (.invokevirtual 69, 3) := by decide +kernel
theorem dL_521 : decode code 521 = .ok (.aload_n 2, 1) := by decide +kernel
theorem dL_522 : decode code 522 = .ok (.aload_n 0, 1) := by decide +kernel
theorem dL_523 : decode code 523 = .ok (.iload_n 3, 1) := by decide +kernel
theorem dL_524 : decode code 524 = .ok (.iconst 1, 1) := by decide +kernel
theorem dL_525 : decode code 525 = .ok (.iadd, 1) := by decide +kernel
theorem dL_526 : decode code 526 = .ok (.iaload, 1) := by decide +kernel
theorem dL_527 : decode code 527 = .ok (.aload_n 0, 1) := by decide +kernel
theorem dL_528 : decode code 528 = .ok (.iload_n 3, 1) := by decide +kernel
theorem dL_529 : decode code 529 = .ok (.iconst 2, 1) := by decide +kernel
theorem dL_530 : decode code 530 = .ok (.iadd, 1) := by decide +kernel
theorem dL_531 : decode code 531 = .ok (.iaload, 1) := by decide +kernel
theorem dL_532 : decode code 532 = .ok (.invokevirtual 72, 3) := by decide +kernel
theorem dL_535 : decode code 535 = .ok (.if_icmp .eq (183), 3) := by decide +kernel
theorem dL_538 : decode code 538 = .ok (.iconst 0, 1) := by decide +kernel
theorem dL_539 : decode code 539 = .ok (.ireturn, 1) := by decide +kernel
theorem dL_540 : decode code 540 = .ok (.aload_n 1, 1) := by decide +kernel
theorem dL_541 : decode code 541 = .ok (.aload_n 0, 1) := by decide +kernel
theorem dL_542 : decode code 542 = .ok (.iload_n 3, 1) := by decide +kernel
theorem dL_543 : decode code 543 = .ok (.iconst 1, 1) := by decide +kernel
theorem dL_544 : decode code 544 = .ok (.iadd, 1) := by decide +kernel
theorem dL_545 : decode code 545 = .ok (.iaload, 1) := by decide +kernel
theorem dL_546 : decode code 546 = .ok (.aload_n 0, 1) := by decide +kernel
theorem dL_547 : decode code 547 = .ok (.iload_n 3, 1) := by decide +kernel
theorem dL_548 : decode code 548 = .ok (.iconst 2, 1) := by decide +kernel
theorem dL_549 : decode code 549 = .ok (.iadd, 1) := by decide +kernel
theorem dL_550 : decode code 550 = .ok (.iaload, 1) := by decide +kernel
theorem dL_551 : decode code 551 = .ok (.invokevirtual 73, 3) := by decide +kernel
theorem dL_554 : decode code 554 = .ok (.aload_n 2, 1) := by decide +kernel
theorem dL_555 : decode code 555 = .ok (.aload_n 0, 1) := by decide +kernel
theorem dL_556 : decode code 556 = .ok (.iload_n 3, 1) := by decide +kernel
theorem dL_557 : decode code 557 = .ok (.iconst 1, 1) := by decide +kernel
theorem dL_558 : decode code 558 = .ok (.iadd, 1) := by decide +kernel
theorem dL_559 : decode code 559 = .ok (.iaload, 1) := by decide +kernel
theorem dL_560 : decode code 560 = .ok (.aload_n 0, 1) := by decide +kernel
theorem dL_561 : decode code 561 = .ok (.iload_n 3, 1) := by decide +kernel
theorem dL_562 : decode code 562 = .ok (.iconst 2, 1) := by decide +kernel
theorem dL_563 : decode code 563 = .ok (.iadd, 1) := by decide +kernel
theorem dL_564 : decode code 564 = .ok (.iaload, 1) := by decide +kernel
theorem dL_565 : decode code 565 = .ok (.invokevirtual 76, 3) := by decide +kernel
theorem dL_568 : decode code 568 = .ok (.if_icmp .eq (150), 3) := by decide +kernel
theorem dL_571 : decode code 571 = .ok (.iconst 0, 1) := by decide +kernel
theorem dL_572 : decode code 572 = .ok (.ireturn, 1) := by decide +kernel
theorem dL_573 : decode code 573 = .ok (.aload_n 1, 1) := by decide +kernel
theorem dL_574 : decode code 574 = .ok (.aload_n 0, 1) := by decide +kernel
theorem dL_575 : decode code 575 = .ok (.iload_n 3, 1) := by decide +kernel
theorem dL_576 : decode code 576 = .ok (.iconst 1, 1) := by decide +kernel
theorem dL_577 : decode code 577 = .ok (.iadd, 1) := by decide +kernel
theorem dL_578 : decode code 578 = .ok (.iaload, 1) := by decide +kernel
theorem dL_579 : decode code 579 = .ok (.aload_n 0, 1) := by decide +kernel
theorem dL_580 : decode code 580 = .ok (.iload_n 3, 1) := by decide +kernel
theorem dL_581 : decode code 581 = .ok (.iconst 2, 1) := by decide +kernel
theorem dL_582 : decode code 582 = .ok (.iadd, 1) := by decide +kernel
theorem dL_583 : decode code 583 = .ok (.iaload, 1) := by decide +kernel
theorem dL_584 : decode code 584 = .ok (.invokevirtual 77, 3) := by decide +kernel
theorem dL_587 : decode code 587 = .ok (.aload_n 2, 1) := by decide +kernel
theorem dL_588 : decode code 588 = .ok (.aload_n 0, 1) := by decide +kernel
theorem dL_589 : decode code 589 = .ok (.iload_n 3, 1) := by decide +kernel
theorem dL_590 : decode code 590 = .ok (.iconst 1, 1) := by decide +kernel
theorem dL_591 : decode code 591 = .ok (.iadd, 1) := by decide +kernel
theorem dL_592 : decode code 592 = .ok (.iaload, 1) := by decide +kernel
theorem dL_593 : decode code 593 = .ok (.aload_n 0, 1) := by decide +kernel
theorem dL_594 : decode code 594 = .ok (.iload_n 3, 1) := by decide +kernel
theorem dL_595 : decode code 595 = .ok (.iconst 2, 1) := by decide +kernel
theorem dL_596 : decode code 596 = .ok (.iadd, 1) := by decide +kernel
theorem dL_597 : decode code 597 = .ok (.iaload, 1) := by decide +kernel
theorem dL_598 : decode code 598 = .ok (.invokevirtual 80, 3) := by decide +kernel
theorem dL_601 : decode code 601 = .ok (.if_icmp .eq (117), 3) := by decide +kernel
theorem dL_604 : decode code 604 = .ok (.iconst 0, 1) := by decide +kernel
theorem dL_605 : decode code 605 = .ok (.ireturn, 1) := by decide +kernel
theorem dL_606 : decode code 606 = .ok (.aload_n 1, 1) := by decide +kernel
theorem dL_607 : decode code 607 = .ok (.aload_n 0, 1) := by decide +kernel
theorem dL_608 : decode code 608 = .ok (.iload_n 3, 1) := by decide +kernel
theorem dL_609 : decode code 609 = .ok (.iconst 1, 1) := by decide +kernel
theorem dL_610 : decode code 610 = .ok (.iadd, 1) := by decide +kernel
theorem dL_611 : decode code 611 = .ok (.iaload, 1) := by decide +kernel
theorem dL_612 : decode code 612 = .ok (.aload_n 0, 1) := by decide +kernel
theorem dL_613 : decode code 613 = .ok (.iload_n 3, 1) := by decide +kernel
theorem dL_614 : decode code 614 = .ok (.iconst 2, 1) := by decide +kernel
theorem dL_615 : decode code 615 = .ok (.iadd, 1) := by decide +kernel
theorem dL_616 : decode code 616 = .ok (.iaload, 1) := by decide +kernel
theorem dL_617 : decode code 617 = .ok (.invokevirtual 81, 3) := by decide +kernel
theorem dL_620 : decode code 620 = .ok (.aload_n 2, 1) := by decide +kernel
theorem dL_621 : decode code 621 = .ok (.aload_n 0, 1) := by decide +kernel
theorem dL_622 : decode code 622 = .ok (.iload_n 3, 1) := by decide +kernel
theorem dL_623 : decode code 623 = .ok (.iconst 1, 1) := by decide +kernel
theorem dL_624 : decode code 624 = .ok (.iadd, 1) := by decide +kernel
theorem dL_625 : decode code 625 = .ok (.iaload, 1) := by decide +kernel
theorem dL_626 : decode code 626 = .ok (.aload_n 0, 1) := by decide +kernel
theorem dL_627 : decode code 627 = .ok (.iload_n 3, 1) := by decide +kernel
theorem dL_628 : decode code 628 = .ok (.iconst 2, 1) := by decide +kernel
theorem dL_629 : decode code 629 = .ok (.iadd, 1) := by decide +kernel
theorem dL_630 : decode code 630 = .ok (.iaload, 1) := by decide +kernel
theorem dL_631 : decode code 631 = .ok (.invokevirtual 84, 3) := by decide +kernel
theorem dL_634 : decode code 634 = .ok (.if_icmp .eq (84), 3) := by decide +kernel
theorem dL_637 : decode code 637 = .ok (.iconst 0, 1) := by decide +kernel
theorem dL_638 : decode code 638 = .ok (.ireturn, 1) := by decide +kernel
theorem dL_639 : decode code 639 = .ok (.aload_n 1, 1) := by decide +kernel
theorem dL_640 : decode code 640 = .ok (.aload_n 0, 1) := by decide +kernel
theorem dL_641 : decode code 641 = .ok (.iload_n 3, 1) := by decide +kernel
theorem dL_642 : decode code 642 = .ok (.iconst 1, 1) := by decide +kernel
theorem dL_643 : decode code 643 = .ok (.iadd, 1) := by decide +kernel
theorem dL_644 : decode code 644 = .ok (.iaload, 1) := by decide +kernel
theorem dL_645 : decode code 645 = .ok (.aload_n 0, 1) := by decide +kernel
theorem dL_646 : decode code 646 = .ok (.iload_n 3, 1) := by decide +kernel
theorem dL_647 : decode code 647 = .ok (.iconst 2, 1) := by decide +kernel
theorem dL_648 : decode code 648 = .ok (.iadd, 1) := by decide +kernel
theorem dL_649 : decode code 649 = .ok (.iaload, 1) := by decide +kernel
theorem dL_650 : decode code 650 = .ok (.invokevirtual 85, 3) := by decide +kernel
theorem dL_653 : decode code 653 = .ok (.aload_n 2, 1) := by decide +kernel
theorem dL_654 : decode code 654 = .ok (.aload_n 0, 1) := by decide +kernel
theorem dL_655 : decode code 655 = .ok (.iload_n 3, 1) := by decide +kernel
theorem dL_656 : decode code 656 = .ok (.iconst 1, 1) := by decide +kernel
theorem dL_657 : decode code 657 = .ok (.iadd, 1) := by decide +kernel
theorem dL_658 : decode code 658 = .ok (.iaload, 1) := by decide +kernel
theorem dL_659 : decode code 659 = .ok (.aload_n 0, 1) := by decide +kernel
theorem dL_660 : decode code 660 = .ok (.iload_n 3, 1) := by decide +kernel
theorem dL_661 : decode code 661 = .ok (.iconst 2, 1) := by decide +kernel
theorem dL_662 : decode code 662 = .ok (.iadd, 1) := by decide +kernel
theorem dL_663 : decode code 663 = .ok (.iaload, 1) := by decide +kernel
theorem dL_664 : decode code 664 = .ok (.invokevirtual 88, 3) := by decide +kernel
theorem dL_667 : decode code 667 = .ok (.if_icmp .eq (51), 3) := by decide +kernel
theorem dL_670 : decode code 670 = .ok (.iconst 0, 1) := by decide +kernel
theorem dL_671 : decode code 671 = .ok (.ireturn, 1) := by decide +kernel
theorem dL_672 : decode code 672 = .ok (.aload_n 1, 1) := by decide +kernel
theorem dL_673 : decode code 673 = .ok (.aload_n 0, 1) := by decide +kernel
theorem dL_674 : decode code 674 = .ok (.iload_n 3, 1) := by decide +kernel
theorem dL_675 : decode code 675 = .ok (.iconst 1, 1) := by decide +kernel
theorem dL_676 : decode code 676 = .ok (.iadd, 1) := by decide +kernel
theorem dL_677 : decode code 677 = .ok (.iaload, 1) := by decide +kernel
theorem dL_678 : decode code 678 = .ok (.invokevirtual 89, 3) := by decide +kernel
theorem dL_681 : decode code 681 = .ok (.aload_n 2, 1) := by decide +kernel
theorem dL_682 : decode code 682 = .ok (.aload_n 0, 1) := by decide +kernel
theorem dL_683 : decode code 683 = .ok (.iload_n 3, 1) := by decide +kernel
theorem dL_684 : decode code 684 = .ok (.iconst 1, 1) := by decide +kernel
theorem dL_685 : decode code 685 = .ok (.iadd, 1) := by decide +kernel
theorem dL_686 : decode code 686 = .ok (.iaload, 1) := by decide +kernel
theorem dL_687 : decode code 687 = .ok (.invokevirtual 92, 3) := by decide +kernel
theorem dL_690 : decode code 690 = .ok (.if_icmp .eq (28), 3) := by decide +kernel
theorem dL_693 : decode code 693 = .ok (.iconst 0, 1) := by decide +kernel
theorem dL_694 : decode code 694 = .ok (.ireturn, 1) := by decide +kernel
theorem dL_695 : decode code 695 = .ok (.aload_n 1, 1) := by decide +kernel
theorem dL_696 : decode code 696 = .ok (.aload_n 0, 1) := by decide +kernel
theorem dL_697 : decode code 697 = .ok (.iload_n 3, 1) := by decide +kernel
theorem dL_698 : decode code 698 = .ok (.iconst 1, 1) := by decide +kernel
theorem dL_699 : decode code 699 = .ok (.iadd, 1) := by decide +kernel
theorem dL_700 : decode code 700 = .ok (.iaload, 1) := by decide +kernel
theorem dL_701 : decode code 701 = .ok (.invokevirtual 93, 3) := by decide +kernel
theorem dL_704 : decode code 704 = .ok (.aload_n 2, 1) := by decide +kernel
theorem dL_705 : decode code 705 = .ok (.aload_n 0, 1) := by decide +kernel
theorem dL_706 : decode code 706 = .ok (.iload_n 3, 1) := by decide +kernel
theorem dL_707 : decode code 707 = .ok (.iconst 1, 1) := by decide +kernel
theorem dL_708 : decode code 708 = .ok (.iadd, 1) := by decide +kernel
theorem dL_709 : decode code 709 = .ok (.iaload, 1) := by decide +kernel
theorem dL_710 : decode code 710 = .ok (.invokevirtual 96, 3) := by decide +kernel
theorem dL_713 : decode code 713 = .ok (.if_icmp .eq (5), 3) := by decide +kernel
theorem dL_716 : decode code 716 = .ok (.iconst 0, 1) := by decide +kernel
theorem dL_717 : decode code 717 = .ok (.ireturn, 1) := by decide +kernel
theorem dL_718 : decode code 718 = .ok (.iinc 3 4, 3) := by decide +kernel
theorem dL_721 : decode code 721 = .ok (.goto (-703), 3) := by decide +kernel
theorem dL_724 : decode code 724 = .ok (.iconst 1, 1) := by decide +kernel
theorem dL_725 : decode code 725 = .ok (.ireturn, 1) := by decide +kernel
