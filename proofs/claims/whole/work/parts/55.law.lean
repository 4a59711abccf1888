theorem dL_law_156 : decode cL_law 156 = .ok (.aload_n 1, 1) := by decide +kernel
theorem dL_law_157 : decode cL_law 157 = .ok (.aload_n 0, 1) := by decide +kernel
theorem dL_law_158 : decode cL_law 158 = .ok (.iload_n 3, 1) := by decide +kernel
theorem dL_law_159 : decode cL_law 159 = .ok (.iconst 1, 1) := by decide +kernel
theorem dL_law_160 : decode cL_law 160 = .ok (.iadd, 1) := by decide +kernel
theorem dL_law_161 : decode cL_law 161 = .ok (.iaload, 1) := by decide +kernel
theorem dL_law_162 : decode cL_law 162 = .ok (.aload_n 0, 1) := by decide +kernel
theorem dL_law_163 : decode cL_law 163 = .ok (.iload_n 3, 1) := by decide +kernel
theorem dL_law_164 : decode cL_law 164 = .ok (.iconst 2, 1) := by decide +kernel
theorem dL_law_165 : decode cL_law 165 = .ok (.iadd, 1) := by decide +kernel
theorem dL_law_166 : decode cL_law 166 = .ok (.iaload, 1) := by decide +kernel
theorem dL_law_167 : decode cL_law 167 = .ok (.aload_n 0, 1) := by decide +kernel
theorem dL_law_168 : decode cL_law 168 = .ok (.iload_n 3, 1) := by decide +kernel
theorem dL_law_169 : decode cL_law 169 = .ok (.iconst 3, 1) := by decide +kernel
theorem dL_law_170 : decode cL_law 170 = .ok (.iadd, 1) := by decide +kernel
theorem dL_law_171 : decode cL_law 171 = .ok (.iaload, 1) := by decide +kernel
theorem dL_law_172 : decode cL_law 172 = .ok (.aload_n 0, 1) := by decide +kernel
theorem dL_law_173 : decode cL_law 173 = .ok (.iload_n 3, 1) := by decide +kernel
theorem dL_law_174 : decode cL_law 174 = .ok (.iconst 4, 1) := by decide +kernel
theorem dL_law_175 : decode cL_law 175 = .ok (.iadd, 1) := by decide +kernel
theorem dL_law_176 : decode cL_law 176 = .ok (.iaload, 1) := by decide +kernel
theorem dL_law_177 : decode cL_law 177 = .ok (.ifCond .eq 7, 3) := by decide +kernel
theorem dL_law_180 : decode cL_law 180 = .ok (.iconst 1, 1) := by decide +kernel
theorem dL_law_181 : decode cL_law 181 = .ok (.goto 4, 3) := by decide +kernel
theorem dL_law_184 : decode cL_law 184 = .ok (.iconst 0, 1) := by decide +kernel
theorem dL_law_185 : decode cL_law 185 = .ok (.invokevirtual 21, 3) := by decide +kernel
theorem dL_law_188 : decode cL_law 188 = .ok (.aload_n 2, 1) := by decide +kernel
theorem dL_law_189 : decode cL_law 189 = .ok (.aload_n 0, 1) := by decide +kernel
theorem dL_law_190 : decode cL_law 190 = .ok (.iload_n 3, 1) := by decide +kernel
theorem dL_law_191 : decode cL_law 191 = .ok (.iconst 1, 1) := by decide +kernel
theorem dL_law_192 : decode cL_law 192 = .ok (.iadd, 1) := by decide +kernel
theorem dL_law_193 : decode cL_law 193 = .ok (.iaload, 1) := by decide +kernel
theorem dL_law_194 : decode cL_law 194 = .ok (.aload_n 0, 1) := by decide +kernel
theorem dL_law_195 : decode cL_law 195 = .ok (.iload_n 3, 1) := by decide +kernel
theorem dL_law_196 : decode cL_law 196 = .ok (.iconst 2, 1) := by decide +kernel
theorem dL_law_197 : decode cL_law 197 = .ok (.iadd, 1) := by decide +kernel
theorem dL_law_198 : decode cL_law 198 = .ok (.iaload, 1) := by decide +kernel
theorem dL_law_199 : decode cL_law 199 = .ok (.aload_n 0, 1) := by decide +kernel
theorem dL_law_200 : decode cL_law 200 = .ok (.iload_n 3, 1) := by decide +kernel
theorem dL_law_201 : decode cL_law 201 = .ok (.iconst 3, 1) := by decide +kernel
theorem dL_law_202 : decode cL_law 202 = .ok (.iadd, 1) := by decide +kernel
theorem dL_law_203 : decode cL_law 203 = .ok (.iaload, 1) := by decide +kernel
theorem dL_law_204 : decode cL_law 204 = .ok (.aload_n 0, 1) := by decide +kernel
theorem dL_law_205 : decode cL_law 205 = .ok (.iload_n 3, 1) := by decide +kernel
theorem dL_law_206 : decode cL_law 206 = .ok (.iconst 4, 1) := by decide +kernel
theorem dL_law_207 : decode cL_law 207 = .ok (.iadd, 1) := by decide +kernel
theorem dL_law_208 : decode cL_law 208 = .ok (.iaload, 1) := by decide +kernel
theorem dL_law_209 : decode cL_law 209 = .ok (.ifCond .eq 7, 3) := by decide +kernel
theorem dL_law_212 : decode cL_law 212 = .ok (.iconst 1, 1) := by decide +kernel
theorem dL_law_213 : decode cL_law 213 = .ok (.goto 4, 3) := by decide +kernel
theorem dL_law_216 : decode cL_law 216 = .ok (.iconst 0, 1) := by decide +kernel
theorem dL_law_217 : decode cL_law 217 = .ok (.invokevirtual 25, 3) := by decide +kernel
theorem dL_law_220 : decode cL_law 220 = .ok (.if_icmp .eq 660, 3) := by decide +kernel
theorem dL_law_225 : decode cL_law 225 = .ok (.aload_n 1, 1) := by decide +kernel
theorem dL_law_226 : decode cL_law 226 = .ok (.aload_n 0, 1) := by decide +kernel
theorem dL_law_227 : decode cL_law 227 = .ok (.iload_n 3, 1) := by decide +kernel
theorem dL_law_228 : decode cL_law 228 = .ok (.iconst 1, 1) := by decide +kernel
theorem dL_law_229 : decode cL_law 229 = .ok (.iadd, 1) := by decide +kernel
theorem dL_law_230 : decode cL_law 230 = .ok (.iaload, 1) := by decide +kernel
theorem dL_law_231 : decode cL_law 231 = .ok (.aload_n 0, 1) := by decide +kernel
theorem dL_law_232 : decode cL_law 232 = .ok (.iload_n 3, 1) := by decide +kernel
theorem dL_law_233 : decode cL_law 233 = .ok (.iconst 2, 1) := by decide +kernel
theorem dL_law_234 : decode cL_law 234 = .ok (.iadd, 1) := by decide +kernel
theorem dL_law_235 : decode cL_law 235 = .ok (.iaload, 1) := by decide +kernel
theorem dL_law_236 : decode cL_law 236 = .ok (.aload_n 0, 1) := by decide +kernel
theorem dL_law_237 : decode cL_law 237 = .ok (.iload_n 3, 1) := by decide +kernel
theorem dL_law_238 : decode cL_law 238 = .ok (.iconst 3, 1) := by decide +kernel
theorem dL_law_239 : decode cL_law 239 = .ok (.iadd, 1) := by decide +kernel
theorem dL_law_240 : decode cL_law 240 = .ok (.iaload, 1) := by decide +kernel
theorem dL_law_241 : decode cL_law 241 = .ok (.aload_n 0, 1) := by decide +kernel
theorem dL_law_242 : decode cL_law 242 = .ok (.iload_n 3, 1) := by decide +kernel
theorem dL_law_243 : decode cL_law 243 = .ok (.iconst 4, 1) := by decide +kernel
theorem dL_law_244 : decode cL_law 244 = .ok (.iadd, 1) := by decide +kernel
theorem dL_law_245 : decode cL_law 245 = .ok (.iaload, 1) := by decide +kernel
theorem dL_law_246 : decode cL_law 246 = .ok (.aload_n 0, 1) := by decide +kernel
theorem dL_law_247 : decode cL_law 247 = .ok (.iload_n 3, 1) := by decide +kernel
theorem dL_law_248 : decode cL_law 248 = .ok (.iconst 5, 1) := by decide +kernel
theorem dL_law_249 : decode cL_law 249 = .ok (.iadd, 1) := by decide +kernel
theorem dL_law_250 : decode cL_law 250 = .ok (.iaload, 1) := by decide +kernel
theorem dL_law_251 : decode cL_law 251 = .ok (.ifCond .eq 7, 3) := by decide +kernel
theorem dL_law_254 : decode cL_law 254 = .ok (.iconst 1, 1) := by decide +kernel
theorem dL_law_255 : decode cL_law 255 = .ok (.goto 4, 3) := by decide +kernel
theorem dL_law_258 : decode cL_law 258 = .ok (.iconst 0, 1) := by decide +kernel
theorem dL_law_259 : decode cL_law 259 = .ok (.invokevirtual 26, 3) := by decide +kernel
theorem dL_law_262 : decode cL_law 262 = .ok (.aload_n 2, 1) := by decide +kernel
theorem dL_law_263 : decode cL_law 263 = .ok (.aload_n 0, 1) := by decide +kernel
theorem dL_law_264 : decode cL_law 264 = .ok (.iload_n 3, 1) := by decide +kernel
theorem dL_law_265 : decode cL_law 265 = .ok (.iconst 1, 1) := by decide +kernel
theorem dL_law_266 : decode cL_law 266 = .ok (.iadd, 1) := by decide +kernel
theorem dL_law_267 : decode cL_law 267 = .ok (.iaload, 1) := by decide +kernel
theorem dL_law_268 : decode cL_law 268 = .ok (.aload_n 0, 1) := by decide +kernel
theorem dL_law_269 : decode cL_law 269 = .ok (.iload_n 3, 1) := by decide +kernel
theorem dL_law_270 : decode cL_law 270 = .ok (.iconst 2, 1) := by decide +kernel
theorem dL_law_271 : decode cL_law 271 = .ok (.iadd, 1) := by decide +kernel
theorem dL_law_272 : decode cL_law 272 = .ok (.iaload, 1) := by decide +kernel
theorem dL_law_273 : decode cL_law 273 = .ok (.aload_n 0, 1) := by decide +kernel
theorem dL_law_274 : decode cL_law 274 = .ok (.iload_n 3, 1) := by decide +kernel
theorem dL_law_275 : decode cL_law 275 = .ok (.iconst 3, 1) := by decide +kernel
theorem dL_law_276 : decode cL_law 276 = .ok (.iadd, 1) := by decide +kernel
theorem dL_law_277 : decode cL_law 277 = .ok (.iaload, 1) := by decide +kernel
theorem dL_law_278 : decode cL_law 278 = .ok (.aload_n 0, 1) := by decide +kernel
theorem dL_law_279 : decode cL_law 279 = .ok (.iload_n 3, 1) := by decide +kernel
theorem dL_law_280 : decode cL_law 280 = .ok (.iconst 4, 1) := by decide +kernel
theorem dL_law_281 : decode cL_law 281 = .ok (.iadd, 1) := by decide +kernel
theorem dL_law_282 : decode cL_law 282 = .ok (.iaload, 1) := by decide +kernel
theorem dL_law_283 : decode cL_law 283 = .ok (.aload_n 0, 1) := by decide +kernel
theorem dL_law_284 : decode cL_law 284 = .ok (.iload_n 3, 1) := by decide +kernel
theorem dL_law_285 : decode cL_law 285 = .ok (.iconst 5, 1) := by decide +kernel
theorem dL_law_286 : decode cL_law 286 = .ok (.iadd, 1) := by decide +kernel
theorem dL_law_287 : decode cL_law 287 = .ok (.iaload, 1) := by decide +kernel
theorem dL_law_288 : decode cL_law 288 = .ok (.ifCond .eq 7, 3) := by decide +kernel
theorem dL_law_291 : decode cL_law 291 = .ok (.iconst 1, 1) := by decide +kernel
theorem dL_law_292 : decode cL_law 292 = .ok (.goto 4, 3) := by decide +kernel
theorem dL_law_295 : decode cL_law 295 = .ok (.iconst 0, 1) := by decide +kernel
theorem dL_law_296 : decode cL_law 296 = .ok (.invokevirtual 30, 3) := by decide +kernel
theorem dL_law_299 : decode cL_law 299 = .ok (.if_icmp .eq 581, 3) := by decide +kernel
theorem dL_law_304 : decode cL_law 304 = .ok (.aload_n 1, 1) := by decide +kernel
theorem dL_law_305 : decode cL_law 305 = .ok (.aload_n 0, 1) := by decide +kernel
theorem dL_law_306 : decode cL_law 306 = .ok (.iload_n 3, 1) := by decide +kernel
theorem dL_law_307 : decode cL_law 307 = .ok (.iconst 1, 1) := by decide +kernel
theorem dL_law_308 : decode cL_law 308 = .ok (.iadd, 1) := by decide +kernel
theorem dL_law_309 : decode cL_law 309 = .ok (.iaload, 1) := by decide +kernel
theorem dL_law_310 : decode cL_law 310 = .ok (.aload_n 0, 1) := by decide +kernel
theorem dL_law_311 : decode cL_law 311 = .ok (.iload_n 3, 1) := by decide +kernel
theorem dL_law_312 : decode cL_law 312 = .ok (.iconst 2, 1) := by decide +kernel
theorem dL_law_313 : decode cL_law 313 = .ok (.iadd, 1) := by decide +kernel
theorem dL_law_314 : decode cL_law 314 = .ok (.iaload, 1) := by decide +kernel
theorem dL_law_315 : decode cL_law 315 = .ok (.aload_n 0, 1) := by decide +kernel
theorem dL_law_316 : decode cL_law 316 = .ok (.iload_n 3, 1) := by decide +kernel
theorem dL_law_317 : decode cL_law 317 = .ok (.iconst 3, 1) := by decide +kernel
theorem dL_law_318 : decode cL_law 318 = .ok (.iadd, 1) := by decide +kernel
theorem dL_law_319 : decode cL_law 319 = .ok (.iaload, 1) := by decide +kernel
theorem dL_law_320 : decode cL_law 320 = .ok (.aload_n 0, 1) := by decide +kernel
theorem dL_law_321 : decode cL_law 321 = .ok (.iload_n 3, 1) := by decide +kernel
theorem dL_law_322 : decode cL_law 322 = .ok (.iconst 4, 1) := by decide +kernel
theorem dL_law_323 : decode cL_law 323 = .ok (.iadd, 1) := by decide +kernel
theorem dL_law_324 : decode cL_law 324 = .ok (.iaload, 1) := by decide +kernel
theorem dL_law_325 : decode cL_law 325 = .ok (.invokevirtual 31, 3) := by decide +kernel
theorem dL_law_328 : decode cL_law 328 = .ok (.aload_n 2, 1) := by decide +kernel
theorem dL_law_329 : decode cL_law 329 = .ok (.aload_n 0, 1) := by decide +kernel
theorem dL_law_330 : decode cL_law 330 = .ok (.iload_n 3, 1) := by decide +kernel
theorem dL_law_331 : decode cL_law 331 = .ok (.iconst 1, 1) := by decide +kernel
theorem dL_law_332 : decode cL_law 332 = .ok (.iadd, 1) := by decide +kernel
theorem dL_law_333 : decode cL_law 333 = .ok (.iaload, 1) := by decide +kernel
theorem dL_law_334 : decode cL_law 334 = .ok (.aload_n 0, 1) := by decide +kernel
theorem dL_law_335 : decode cL_law 335 = .ok (.iload_n 3, 1) := by decide +kernel
theorem dL_law_336 : decode cL_law 336 = .ok (.iconst 2, 1) := by decide +kernel
theorem dL_law_337 : decode cL_law 337 = .ok (.iadd, 1) := by decide +kernel
theorem dL_law_338 : decode cL_law 338 = .ok (.iaload, 1) := by decide +kernel
theorem dL_law_339 : decode cL_law 339 = .ok (.aload_n 0, 1) := by decide +kernel
theorem dL_law_340 : decode cL_law 340 = .ok (.iload_n 3, 1) := by decide +kernel
theorem dL_law_341 : decode cL_law 341 = .ok (.iconst 3, 1) := by decide +kernel
theorem dL_law_342 : decode cL_law 342 = .ok (.iadd, 1) := by decide +kernel
theorem dL_law_343 : decode cL_law 343 = .ok (.iaload, 1) := by decide +kernel
theorem dL_law_344 : decode cL_law 344 = .ok (.aload_n 0, 1) := by decide +kernel
theorem dL_law_345 : decode cL_law 345 = .ok (.iload_n 3, 1) := by decide +kernel
theorem dL_law_346 : decode cL_law 346 = .ok (.iconst 4, 1) := by decide +kernel
theorem dL_law_347 : decode cL_law 347 = .ok (.iadd, 1) := by decide +kernel
theorem dL_law_348 : decode cL_law 348 = .ok (.iaload, 1) := by decide +kernel
theorem dL_law_349 : decode cL_law 349 = .ok (.invokevirtual 35, 3) := by decide +kernel
theorem dL_law_352 : decode cL_law 352 = .ok (.if_icmp .eq 528, 3) := by decide +kernel
theorem dL_law_357 : decode cL_law 357 = .ok (.aload_n 1, 1) := by decide +kernel
theorem dL_law_358 : decode cL_law 358 = .ok (.aload_n 0, 1) := by decide +kernel
theorem dL_law_359 : decode cL_law 359 = .ok (.iload_n 3, 1) := by decide +kernel
theorem dL_law_360 : decode cL_law 360 = .ok (.iconst 1, 1) := by decide +kernel
theorem dL_law_361 : decode cL_law 361 = .ok (.iadd, 1) := by decide +kernel
theorem dL_law_362 : decode cL_law 362 = .ok (.iaload, 1) := by decide +kernel
theorem dL_law_363 : decode cL_law 363 = .ok (.aload_n 0, 1) := by decide +kernel
theorem dL_law_364 : decode cL_law 364 = .ok (.iload_n 3, 1) := by decide +kernel
theorem dL_law_365 : decode cL_law 365 = .ok (.iconst 2, 1) := by decide +kernel
theorem dL_law_366 : decode cL_law 366 = .ok (.iadd, 1) := by decide +kernel
theorem dL_law_367 : decode cL_law 367 = .ok (.iaload, 1) := by decide +kernel
theorem dL_law_368 : decode cL_law 368 = .ok (.aload_n 0, 1) := by decide +kernel
theorem dL_law_369 : decode cL_law 369 = .ok (.iload_n 3, 1) := by decide +kernel
theorem dL_law_370 : decode cL_law 370 = .ok (.iconst 3, 1) := by decide +kernel
theorem dL_law_371 : decode cL_law 371 = .ok (.iadd, 1) := by decide +kernel
theorem dL_law_372 : decode cL_law 372 = .ok (.iaload, 1) := by decide +kernel
theorem dL_law_373 : decode cL_law 373 = .ok (.aload_n 0, 1) := by decide +kernel
theorem dL_law_374 : decode cL_law 374 = .ok (.iload_n 3, 1) := by decide +kernel
theorem dL_law_375 : decode cL_law 375 = .ok (.iconst 4, 1) := by decide +kernel
theorem dL_law_376 : decode cL_law 376 = .ok (.iadd, 1) := by decide +kernel
theorem dL_law_377 : decode cL_law 377 = .ok (.iaload, 1) := by decide +kernel
theorem dL_law_378 : decode cL_law 378 = .ok (.aload_n 0, 1) := by decide +kernel
theorem dL_law_379 : decode cL_law 379 = .ok (.iload_n 3, 1) := by decide +kernel
theorem dL_law_380 : decode cL_law 380 = .ok (.iconst 5, 1) := by decide +kernel
theorem dL_law_381 : decode cL_law 381 = .ok (.iadd, 1) := by decide +kernel
theorem dL_law_382 : decode cL_law 382 = .ok (.iaload, 1) := by decide +kernel
theorem dL_law_383 : decode cL_law 383 = .ok (.invokevirtual 36, 3) := by decide +kernel
theorem dL_law_386 : decode cL_law 386 = .ok (.aload_n 2, 1) := by decide +kernel
theorem dL_law_387 : decode cL_law 387 = .ok (.aload_n 0, 1) := by decide +kernel
theorem dL_law_388 : decode cL_law 388 = .ok (.iload_n 3, 1) := by decide +kernel
theorem dL_law_389 : decode cL_law 389 = .ok (.iconst 1, 1) := by decide +kernel
theorem dL_law_390 : decode cL_law 390 = .ok (.iadd, 1) := by decide +kernel
theorem dL_law_391 : decode cL_law 391 = .ok (.iaload, 1) := by decide +kernel
theorem dL_law_392 : decode cL_law 392 = .ok (.aload_n 0, 1) := by decide +kernel
theorem dL_law_393 : decode cL_law 393 = .ok (.iload_n 3, 1) := by decide +kernel
theorem dL_law_394 : decode cL_law 394 = .ok (.iconst 2, 1) := by decide +kernel
theorem dL_law_395 : decode cL_law 395 = .ok (.iadd, 1) := by decide +kernel
theorem dL_law_396 : decode cL_law 396 = .ok (.iaload, 1) := by decide +kernel
theorem dL_law_397 : decode cL_law 397 = .ok (.aload_n 0, 1) := by decide +kernel
theorem dL_law_398 : decode cL_law 398 = .ok (.iload_n 3, 1) := by decide +kernel
theorem dL_law_399 : decode cL_law 399 = .ok (.iconst 3, 1) := by decide +kernel
theorem dL_law_400 : decode cL_law 400 = .ok (.iadd, 1) := by decide +kernel
theorem dL_law_401 : decode cL_law 401 = .ok (.iaload, 1) := by decide +kernel
theorem dL_law_402 : decode cL_law 402 = .ok (.aload_n 0, 1) := by decide +kernel
theorem dL_law_403 : decode cL_law 403 = .ok (.iload_n 3, 1) := by decide +kernel
theorem dL_law_404 : decode cL_law 404 = .ok (.iconst 4, 1) := by decide +kernel
theorem dL_law_405 : decode cL_law 405 = .ok (.iadd, 1) := by decide +kernel
theorem dL_law_406 : decode cL_law 406 = .ok (.iaload, 1) := by decide +kernel
theorem dL_law_407 : decode cL_law 407 = .ok (.aload_n 0, 1) := by decide +kernel
theorem dL_law_408 : decode cL_law 408 = .ok (.iload_n 3, 1) := by decide +kernel
theorem dL_law_409 : decode cL_law 409 = .ok (.iconst 5, 1) := by decide +kernel
theorem dL_law_410 : decode cL_law 410 = .ok (.iadd, 1) := by decide +kernel
theorem dL_law_411 : decode cL_law 411 = .ok (.iaload, 1) := by decide +kernel
theorem dL_law_412 : decode cL_law 412 = .ok (.invokevirtual 40, 3) := by decide +kernel
theorem dL_law_415 : decode cL_law 415 = .ok (.if_icmp .eq 465, 3) := by decide +kernel
theorem dL_law_420 : decode cL_law 420 = .ok (.aload_n 1, 1) := by decide +kernel
theorem dL_law_421 : decode cL_law 421 = .ok (.aload_n 0, 1) := by decide +kernel
theorem dL_law_422 : decode cL_law 422 = .ok (.iload_n 3, 1) := by decide +kernel
theorem dL_law_423 : decode cL_law 423 = .ok (.iconst 1, 1) := by decide +kernel
theorem dL_law_424 : decode cL_law 424 = .ok (.iadd, 1) := by decide +kernel
theorem dL_law_425 : decode cL_law 425 = .ok (.iaload, 1) := by decide +kernel
theorem dL_law_426 : decode cL_law 426 = .ok (.aload_n 0, 1) := by decide +kernel
theorem dL_law_427 : decode cL_law 427 = .ok (.iload_n 3, 1) := by decide +kernel
theorem dL_law_428 : decode cL_law 428 = .ok (.iconst 2, 1) := by decide +kernel
theorem dL_law_429 : decode cL_law 429 = .ok (.iadd, 1) := by decide +kernel
theorem dL_law_430 : decode cL_law 430 = .ok (.iaload, 1) := by decide +kernel
theorem dL_law_431 : decode cL_law 431 = .ok (.invokevirtual 41, 3) := by decide +kernel
theorem dL_law_434 : decode cL_law 434 = .ok (.aload_n 2, 1) := by decide +kernel
theorem dL_law_435 : decode cL_law 435 = .ok (.aload_n 0, 1) := by decide +kernel
theorem dL_law_436 : decode cL_law 436 = .ok (.iload_n 3, 1) := by decide +kernel
theorem dL_law_437 : decode cL_law 437 = .ok (.iconst 1, 1) := by decide +kernel
theorem dL_law_438 : decode cL_law 438 = .ok (.iadd, 1) := by decide +kernel
theorem dL_law_439 : decode cL_law 439 = .ok (.iaload, 1) := by decide +kernel
theorem dL_law_440 : decode cL_law 440 = .ok (.aload_n 0, 1) := by decide +kernel
theorem dL_law_441 : decode cL_law 441 = .ok (.iload_n 3, 1) := by decide +kernel
theorem dL_law_442 : decode cL_law 442 = .ok (.iconst 2, 1) := by decide +kernel
theorem dL_law_443 : decode cL_law 443 = .ok (.iadd, 1) := by decide +kernel
theorem dL_law_444 : decode cL_law 444 = .ok (.iaload, 1) := by decide +kernel
theorem dL_law_445 : decode cL_law 445 = .ok (.invokevirtual 45, 3) := by decide +kernel
theorem dL_law_448 : decode cL_law 448 = .ok (.if_icmp .eq 432, 3) := by decide +kernel
theorem dL_law_453 : decode cL_law 453 = .ok (.aload_n 1, 1) := by decide +kernel
theorem dL_law_454 : decode cL_law 454 = .ok (.aload_n 0, 1) := by decide +kernel
theorem dL_law_455 : decode cL_law 455 = .ok (.iload_n 3, 1) := by decide +kernel
theorem dL_law_456 : decode cL_law 456 = .ok (.iconst 1, 1) := by decide +kernel
theorem dL_law_457 : decode cL_law 457 = .ok (.iadd, 1) := by decide +kernel
theorem dL_law_458 : decode cL_law 458 = .ok (.iaload, 1) := by decide +kernel
theorem dL_law_459 : decode cL_law 459 = .ok (.invokevirtual 46, 3) := by decide +kernel
theorem dL_law_462 : decode cL_law 462 = .ok (.aload_n 2, 1) := by decide +kernel
theorem dL_law_463 : decode cL_law 463 = .ok (.aload_n 0, 1) := by decide +kernel
theorem dL_law_464 : decode cL_law 464 = .ok (.iload_n 3, 1) := by decide +kernel
theorem dL_law_465 : decode cL_law 465 = .ok (.iconst 1, 1) := by decide +kernel
theorem dL_law_466 : decode cL_law 466 = .ok (.iadd, 1) := by decide +kernel
theorem dL_law_467 : decode cL_law 467 = .ok (.iaload, 1) := by decide +kernel
theorem dL_law_468 : decode cL_law 468 = .ok (.invokevirtual 50, 3) := by decide +kernel
theorem dL_law_471 : decode cL_law 471 = .ok (.if_icmp .eq 409, 3) := by decide +kernel
theorem lmL_25 : Cond.methodLink R_L 25 yM_track ∈ bigW := bw 831 (by decide +kernel) rfl
theorem lmL_21 : Cond.methodLink R_L 21 yX_track ∈ bigW := bw 263 (by decide +kernel) rfl
theorem lmL_30 : Cond.methodLink R_L 30 yM_signal ∈ bigW := bw 847 (by decide +kernel) rfl
theorem lmL_26 : Cond.methodLink R_L 26 yX_signal ∈ bigW := bw 294 (by decide +kernel) rfl
theorem lmL_31 : Cond.methodLink R_L 31 yX_station ∈ bigW := bw 325 (by decide +kernel) rfl
theorem lmL_35 : Cond.methodLink R_L 35 yM_station ∈ bigW := bw 859 (by decide +kernel) rfl
theorem lmL_36 : Cond.methodLink R_L 36 yX_train ∈ bigW := bw 339 (by decide +kernel) rfl
theorem lmL_40 : Cond.methodLink R_L 40 yM_train ∈ bigW := bw 863 (by decide +kernel) rfl
theorem lmL_41 : Cond.methodLink R_L 41 yX_order ∈ bigW := bw 398 (by decide +kernel) rfl
theorem lmL_45 : Cond.methodLink R_L 45 yM_order ∈ bigW := bw 871 (by decide +kernel) rfl
theorem lmL_46 : Cond.methodLink R_L 46 yX_reverse ∈ bigW := bw 410 (by decide +kernel) rfl
theorem lmL_50 : Cond.methodLink R_L 50 yM_reverse ∈ bigW := bw 879 (by decide +kernel) rfl
theorem miM_track : MI yM_track cM_track 6 (some .boolean) 4 := ⟨bw 834 (by decide +kernel) rfl, bw 48 (by decide +kernel) rfl, ⟨by decide +kernel, by decide +kernel⟩, by decide +kernel, by decide⟩
theorem mvM_track : MV yM_track := ⟨bw 832 (by decide +kernel) rfl, bw 833 (by decide +kernel) rfl⟩
theorem miX_track : MI yX_track cX_track 7 (some .boolean) 4 := ⟨bw 266 (by decide +kernel) rfl, bw 39 (by decide +kernel) rfl, ⟨by decide +kernel, by decide +kernel⟩, by decide +kernel, by decide⟩
theorem mvX_track : MV yX_track := ⟨bw 264 (by decide +kernel) rfl, bw 265 (by decide +kernel) rfl⟩
theorem miM_signal : MI yM_signal cM_signal 7 (some .boolean) 5 := ⟨bw 850 (by decide +kernel) rfl, bw 48 (by decide +kernel) rfl, ⟨by decide +kernel, by decide +kernel⟩, by decide +kernel, by decide⟩
theorem mvM_signal : MV yM_signal := ⟨bw 848 (by decide +kernel) rfl, bw 849 (by decide +kernel) rfl⟩
theorem miX_signal : MI yX_signal cX_signal 8 (some .boolean) 5 := ⟨bw 297 (by decide +kernel) rfl, bw 39 (by decide +kernel) rfl, ⟨by decide +kernel, by decide +kernel⟩, by decide +kernel, by decide⟩
theorem mvX_signal : MV yX_signal := ⟨bw 295 (by decide +kernel) rfl, bw 296 (by decide +kernel) rfl⟩
theorem miX_station : MI yX_station cX_station 8 (some .int) 4 := ⟨bw 328 (by decide +kernel) rfl, bw 39 (by decide +kernel) rfl, ⟨by decide +kernel, by decide +kernel⟩, by decide +kernel, by decide⟩
theorem mvX_station : MV yX_station := ⟨bw 326 (by decide +kernel) rfl, bw 327 (by decide +kernel) rfl⟩
theorem miM_station : MI yM_station cM_station 5 (some .int) 4 := ⟨bw 862 (by decide +kernel) rfl, bw 48 (by decide +kernel) rfl, ⟨by decide +kernel, by decide +kernel⟩, by decide +kernel, by decide⟩
theorem mvM_station : MV yM_station := ⟨bw 860 (by decide +kernel) rfl, bw 861 (by decide +kernel) rfl⟩
theorem miX_train : MI yX_train cX_train 7 (some .int) 5 := ⟨bw 342 (by decide +kernel) rfl, bw 39 (by decide +kernel) rfl, ⟨by decide +kernel, by decide +kernel⟩, by decide +kernel, by decide⟩
theorem mvX_train : MV yX_train := ⟨bw 340 (by decide +kernel) rfl, bw 341 (by decide +kernel) rfl⟩
theorem miM_train : MI yM_train cM_train 9 (some .int) 5 := ⟨bw 866 (by decide +kernel) rfl, bw 48 (by decide +kernel) rfl, ⟨by decide +kernel, by decide +kernel⟩, by decide +kernel, by decide⟩
theorem mvM_train : MV yM_train := ⟨bw 864 (by decide +kernel) rfl, bw 865 (by decide +kernel) rfl⟩
theorem miX_order : MI yX_order cX_order 4 (some .boolean) 2 := ⟨bw 401 (by decide +kernel) rfl, bw 39 (by decide +kernel) rfl, ⟨by decide +kernel, by decide +kernel⟩, by decide +kernel, by decide⟩
theorem mvX_order : MV yX_order := ⟨bw 399 (by decide +kernel) rfl, bw 400 (by decide +kernel) rfl⟩
theorem miM_order : MI yM_order cM_order 3 (some .boolean) 2 := ⟨bw 874 (by decide +kernel) rfl, bw 48 (by decide +kernel) rfl, ⟨by decide +kernel, by decide +kernel⟩, by decide +kernel, by decide⟩
theorem mvM_order : MV yM_order := ⟨bw 872 (by decide +kernel) rfl, bw 873 (by decide +kernel) rfl⟩
theorem miX_reverse : MI yX_reverse cX_reverse 4 (some .boolean) 1 := ⟨bw 413 (by decide +kernel) rfl, bw 39 (by decide +kernel) rfl, ⟨by decide +kernel, by decide +kernel⟩, by decide +kernel, by decide⟩
theorem mvX_reverse : MV yX_reverse := ⟨bw 411 (by decide +kernel) rfl, bw 412 (by decide +kernel) rfl⟩
theorem miM_reverse : MI yM_reverse cM_reverse 3 (some .boolean) 1 := ⟨bw 882 (by decide +kernel) rfl, bw 48 (by decide +kernel) rfl, ⟨by decide +kernel, by decide +kernel⟩, by decide +kernel, by decide⟩
theorem mvM_reverse : MV yM_reverse := ⟨bw 880 (by decide +kernel) rfl, bw 881 (by decide +kernel) rfl⟩
theorem lw_c0 {G : vG} {X : vX} {Q : State → Prop} {sc : Nat → Int32} {N : Nat} {w : RW} {i k : Int} (F : FX G X cL_law R_L 4 9) (hX : SCR G X N sc) (hi : 2 ≤ i ∧ i + 5 < (N : Int)) (hk : 0 ≤ k ∧ k ≤ 520) (hz : ST k w) (K : ∀ v, ST (k + 1) v → V G X 4 Q 880 [some (.inr 903), some (.inr 0), some (.inr 77), some (.inl i)] [] v) : V G X 4 Q 156 [some (.inr 903), some (.inr 0), some (.inr 77), some (.inl i)] [] w := by
  have hN := hX.2.2.2
  have hcc := hz.1.2.1.1
  have hmm := hz.1.2.2.2.1
  have hb01 := bz_01 (¬ sv sc (i + 4) = 0)
  have K2 : ∀ (r : Int) (u : RW), (trOK w (sv sc (i + 1)) (sv sc (i + 2)) (sv sc (i + 3)) (bz (¬ sv sc (i + 4) = 0)) ∧ r = 1 ∧ trW w (sv sc (i + 1)) (sv sc (i + 2)) (sv sc (i + 3)) = u) ∨ (¬ trOK w (sv sc (i + 1)) (sv sc (i + 2)) (sv sc (i + 3)) (bz (¬ sv sc (i + 4) = 0)) ∧ r = 0 ∧ w = u) → V G X 4 Q 217 [some (.inr 903), some (.inr 0), some (.inr 77), some (.inl i)] [.inl (bz (¬ sv sc (i + 4) = 0)), .inl (sv sc (i + 3)), .inl (sv sc (i + 2)), .inl (sv sc (i + 1)), .inr 77, .inl r] u := by
    intro r u hr
    have hcl := cl_track hr
    have hPu := PR_g hz.1 hcl
    have hmu := hPu.2.2.2.1
    refine V_callVi F dL_law_217 lmL_25 miM_track mvM_track (ctM_track hb01 hmu) (by decide) (by first | rfl | assumption) rfl rfl (Nat.le_of_ble_eq_true rfl) (fun r2 v hr2 => ?_)
    have hs := s_track hb01 hPu hr hr2
    exact V_icmp_eq F 880 dL_law_220 (by decide) (fun _ => K _ (st_op hz hs.2)) (fun h => absurd hs.1 h)
  have K1 : ∀ (r : Int) (u : RW), (trOK w (sv sc (i + 1)) (sv sc (i + 2)) (sv sc (i + 3)) (bz (¬ sv sc (i + 4) = 0)) ∧ r = 1 ∧ trW w (sv sc (i + 1)) (sv sc (i + 2)) (sv sc (i + 3)) = u) ∨ (¬ trOK w (sv sc (i + 1)) (sv sc (i + 2)) (sv sc (i + 3)) (bz (¬ sv sc (i + 4) = 0)) ∧ r = 0 ∧ w = u) → V G X 4 Q 188 [some (.inr 903), some (.inr 0), some (.inr 77), some (.inl i)] [.inl r] u := by
    intro r u hr
    refine V_aload_n (i := 2) F dL_law_188 rfl rfl ?_
    refine V_aload_n (i := 0) F dL_law_189 rfl rfl ?_
    refine V_iload_n (i := 3) F dL_law_190 rfl rfl ?_
    refine V_iconst F dL_law_191 (by decide) ?_
    refine V_iadd F dL_law_192 (by omega) ?_
    refine V_scr F hX (by omega) dL_law_193 ?_
    refine V_aload_n (i := 0) F dL_law_194 rfl rfl ?_
    refine V_iload_n (i := 3) F dL_law_195 rfl rfl ?_
    refine V_iconst F dL_law_196 (by decide) ?_
    refine V_iadd F dL_law_197 (by omega) ?_
    refine V_scr F hX (by omega) dL_law_198 ?_
    refine V_aload_n (i := 0) F dL_law_199 rfl rfl ?_
    refine V_iload_n (i := 3) F dL_law_200 rfl rfl ?_
    refine V_iconst F dL_law_201 (by decide) ?_
    refine V_iadd F dL_law_202 (by omega) ?_
    refine V_scr F hX (by omega) dL_law_203 ?_
    refine V_aload_n (i := 0) F dL_law_204 rfl rfl ?_
    refine V_iload_n (i := 3) F dL_law_205 rfl rfl ?_
    refine V_iconst F dL_law_206 (by decide) ?_
    refine V_iadd F dL_law_207 (by omega) ?_
    refine V_scr F hX (by omega) dL_law_208 ?_
    refine V_if_eq F 216 dL_law_209 (by decide) (fun h209 => ?_) (fun h209 => ?_)
    · refine V_iconst F dL_law_216 (by decide) ?_
      first
      | (have hg : sv sc (i + 4) = 0 := h209
         have k1 := K2 r u hr
         rw [bz_f (fun q => q hg)] at k1
         exact k1)
      | (have hg : ¬ sv sc (i + 4) = 0 := h209
         have k1 := K2 r u hr
         rw [bz_t hg] at k1
         exact k1)
    · refine V_iconst F dL_law_212 (by decide) ?_
      refine V_goto F 217 dL_law_213 (by decide) ?_
      first
      | (have hg : sv sc (i + 4) = 0 := h209
         have k1 := K2 r u hr
         rw [bz_f (fun q => q hg)] at k1
         exact k1)
      | (have hg : ¬ sv sc (i + 4) = 0 := h209
         have k1 := K2 r u hr
         rw [bz_t hg] at k1
         exact k1)
  have K0 : V G X 4 Q 185 [some (.inr 903), some (.inr 0), some (.inr 77), some (.inl i)] [.inl (bz (¬ sv sc (i + 4) = 0)), .inl (sv sc (i + 3)), .inl (sv sc (i + 2)), .inl (sv sc (i + 1)), .inr 0] w := by
    refine V_callVi F dL_law_185 lmL_21 miX_track mvX_track (ctX_track hb01 hcc) (by decide) (by first | rfl | assumption) rfl rfl (Nat.le_of_ble_eq_true rfl) (fun r u hr => ?_)
    
    exact K1 r u hr
  refine V_aload_n (i := 1) F dL_law_156 rfl rfl ?_
  refine V_aload_n (i := 0) F dL_law_157 rfl rfl ?_
  refine V_iload_n (i := 3) F dL_law_158 rfl rfl ?_
  refine V_iconst F dL_law_159 (by decide) ?_
  refine V_iadd F dL_law_160 (by omega) ?_
  refine V_scr F hX (by omega) dL_law_161 ?_
  refine V_aload_n (i := 0) F dL_law_162 rfl rfl ?_
  refine V_iload_n (i := 3) F dL_law_163 rfl rfl ?_
  refine V_iconst F dL_law_164 (by decide) ?_
  refine V_iadd F dL_law_165 (by omega) ?_
  refine V_scr F hX (by omega) dL_law_166 ?_
  refine V_aload_n (i := 0) F dL_law_167 rfl rfl ?_
  refine V_iload_n (i := 3) F dL_law_168 rfl rfl ?_
  refine V_iconst F dL_law_169 (by decide) ?_
  refine V_iadd F dL_law_170 (by omega) ?_
  refine V_scr F hX (by omega) dL_law_171 ?_
  refine V_aload_n (i := 0) F dL_law_172 rfl rfl ?_
  refine V_iload_n (i := 3) F dL_law_173 rfl rfl ?_
  refine V_iconst F dL_law_174 (by decide) ?_
  refine V_iadd F dL_law_175 (by omega) ?_
  refine V_scr F hX (by omega) dL_law_176 ?_
  refine V_if_eq F 184 dL_law_177 (by decide) (fun h177 => ?_) (fun h177 => ?_)
  · refine V_iconst F dL_law_184 (by decide) ?_
    first
    | (have hg : sv sc (i + 4) = 0 := h177
       have k1 := K0
       rw [bz_f (fun q => q hg)] at k1
       exact k1)
    | (have hg : ¬ sv sc (i + 4) = 0 := h177
       have k1 := K0
       rw [bz_t hg] at k1
       exact k1)
  · refine V_iconst F dL_law_180 (by decide) ?_
    refine V_goto F 185 dL_law_181 (by decide) ?_
    first
    | (have hg : sv sc (i + 4) = 0 := h177
       have k1 := K0
       rw [bz_f (fun q => q hg)] at k1
       exact k1)
    | (have hg : ¬ sv sc (i + 4) = 0 := h177
       have k1 := K0
       rw [bz_t hg] at k1
       exact k1)
theorem lw_c1 {G : vG} {X : vX} {Q : State → Prop} {sc : Nat → Int32} {N : Nat} {w : RW} {i k : Int} (F : FX G X cL_law R_L 4 9) (hX : SCR G X N sc) (hi : 2 ≤ i ∧ i + 5 < (N : Int)) (hk : 0 ≤ k ∧ k ≤ 520) (hz : ST k w) (K : ∀ v, ST (k + 1) v → V G X 4 Q 880 [some (.inr 903), some (.inr 0), some (.inr 77), some (.inl i)] [] v) : V G X 4 Q 225 [some (.inr 903), some (.inr 0), some (.inr 77), some (.inl i)] [] w := by
  have hN := hX.2.2.2
  have hcc := hz.1.2.1.1
  have hmm := hz.1.2.2.2.1
  have hb01 := bz_01 (¬ sv sc (i + 5) = 0)
  have K2 : ∀ (r : Int) (u : RW), (sgOK w (sv sc (i + 1)) (sv sc (i + 2)) (sv sc (i + 3)) (sv sc (i + 4)) (bz (¬ sv sc (i + 5) = 0)) ∧ r = 1 ∧ sgW w (sv sc (i + 1)) (sv sc (i + 2)) (sv sc (i + 3)) (sv sc (i + 4)) = u) ∨ (¬ sgOK w (sv sc (i + 1)) (sv sc (i + 2)) (sv sc (i + 3)) (sv sc (i + 4)) (bz (¬ sv sc (i + 5) = 0)) ∧ r = 0 ∧ w = u) → V G X 4 Q 296 [some (.inr 903), some (.inr 0), some (.inr 77), some (.inl i)] [.inl (bz (¬ sv sc (i + 5) = 0)), .inl (sv sc (i + 4)), .inl (sv sc (i + 3)), .inl (sv sc (i + 2)), .inl (sv sc (i + 1)), .inr 77, .inl r] u := by
    intro r u hr
    have hcl := cl_signal hr
    have hPu := PR_g hz.1 hcl
    have hmu := hPu.2.2.2.1
    refine V_callVi F dL_law_296 lmL_30 miM_signal mvM_signal (ctM_signal hb01 hmu) (by decide) (by first | rfl | assumption) rfl rfl (Nat.le_of_ble_eq_true rfl) (fun r2 v hr2 => ?_)
    have hs := s_signal hb01 hPu hr hr2
    exact V_icmp_eq F 880 dL_law_299 (by decide) (fun _ => K _ (st_op hz hs.2)) (fun h => absurd hs.1 h)
  have K1 : ∀ (r : Int) (u : RW), (sgOK w (sv sc (i + 1)) (sv sc (i + 2)) (sv sc (i + 3)) (sv sc (i + 4)) (bz (¬ sv sc (i + 5) = 0)) ∧ r = 1 ∧ sgW w (sv sc (i + 1)) (sv sc (i + 2)) (sv sc (i + 3)) (sv sc (i + 4)) = u) ∨ (¬ sgOK w (sv sc (i + 1)) (sv sc (i + 2)) (sv sc (i + 3)) (sv sc (i + 4)) (bz (¬ sv sc (i + 5) = 0)) ∧ r = 0 ∧ w = u) → V G X 4 Q 262 [some (.inr 903), some (.inr 0), some (.inr 77), some (.inl i)] [.inl r] u := by
    intro r u hr
    refine V_aload_n (i := 2) F dL_law_262 rfl rfl ?_
    refine V_aload_n (i := 0) F dL_law_263 rfl rfl ?_
    refine V_iload_n (i := 3) F dL_law_264 rfl rfl ?_
    refine V_iconst F dL_law_265 (by decide) ?_
    refine V_iadd F dL_law_266 (by omega) ?_
    refine V_scr F hX (by omega) dL_law_267 ?_
    refine V_aload_n (i := 0) F dL_law_268 rfl rfl ?_
    refine V_iload_n (i := 3) F dL_law_269 rfl rfl ?_
    refine V_iconst F dL_law_270 (by decide) ?_
    refine V_iadd F dL_law_271 (by omega) ?_
    refine V_scr F hX (by omega) dL_law_272 ?_
    refine V_aload_n (i := 0) F dL_law_273 rfl rfl ?_
    refine V_iload_n (i := 3) F dL_law_274 rfl rfl ?_
    refine V_iconst F dL_law_275 (by decide) ?_
    refine V_iadd F dL_law_276 (by omega) ?_
    refine V_scr F hX (by omega) dL_law_277 ?_
    refine V_aload_n (i := 0) F dL_law_278 rfl rfl ?_
    refine V_iload_n (i := 3) F dL_law_279 rfl rfl ?_
    refine V_iconst F dL_law_280 (by decide) ?_
    refine V_iadd F dL_law_281 (by omega) ?_
    refine V_scr F hX (by omega) dL_law_282 ?_
    refine V_aload_n (i := 0) F dL_law_283 rfl rfl ?_
    refine V_iload_n (i := 3) F dL_law_284 rfl rfl ?_
    refine V_iconst F dL_law_285 (by decide) ?_
    refine V_iadd F dL_law_286 (by omega) ?_
    refine V_scr F hX (by omega) dL_law_287 ?_
    refine V_if_eq F 295 dL_law_288 (by decide) (fun h288 => ?_) (fun h288 => ?_)
    · refine V_iconst F dL_law_295 (by decide) ?_
      first
      | (have hg : sv sc (i + 5) = 0 := h288
         have k1 := K2 r u hr
         rw [bz_f (fun q => q hg)] at k1
         exact k1)
      | (have hg : ¬ sv sc (i + 5) = 0 := h288
         have k1 := K2 r u hr
         rw [bz_t hg] at k1
         exact k1)
    · refine V_iconst F dL_law_291 (by decide) ?_
      refine V_goto F 296 dL_law_292 (by decide) ?_
      first
      | (have hg : sv sc (i + 5) = 0 := h288
         have k1 := K2 r u hr
         rw [bz_f (fun q => q hg)] at k1
         exact k1)
      | (have hg : ¬ sv sc (i + 5) = 0 := h288
         have k1 := K2 r u hr
         rw [bz_t hg] at k1
         exact k1)
  have K0 : V G X 4 Q 259 [some (.inr 903), some (.inr 0), some (.inr 77), some (.inl i)] [.inl (bz (¬ sv sc (i + 5) = 0)), .inl (sv sc (i + 4)), .inl (sv sc (i + 3)), .inl (sv sc (i + 2)), .inl (sv sc (i + 1)), .inr 0] w := by
    refine V_callVi F dL_law_259 lmL_26 miX_signal mvX_signal (ctX_signal hb01 hcc) (by decide) (by first | rfl | assumption) rfl rfl (Nat.le_of_ble_eq_true rfl) (fun r u hr => ?_)
    
    exact K1 r u hr
  refine V_aload_n (i := 1) F dL_law_225 rfl rfl ?_
  refine V_aload_n (i := 0) F dL_law_226 rfl rfl ?_
  refine V_iload_n (i := 3) F dL_law_227 rfl rfl ?_
  refine V_iconst F dL_law_228 (by decide) ?_
  refine V_iadd F dL_law_229 (by omega) ?_
  refine V_scr F hX (by omega) dL_law_230 ?_
  refine V_aload_n (i := 0) F dL_law_231 rfl rfl ?_
  refine V_iload_n (i := 3) F dL_law_232 rfl rfl ?_
  refine V_iconst F dL_law_233 (by decide) ?_
  refine V_iadd F dL_law_234 (by omega) ?_
  refine V_scr F hX (by omega) dL_law_235 ?_
  refine V_aload_n (i := 0) F dL_law_236 rfl rfl ?_
  refine V_iload_n (i := 3) F dL_law_237 rfl rfl ?_
  refine V_iconst F dL_law_238 (by decide) ?_
  refine V_iadd F dL_law_239 (by omega) ?_
  refine V_scr F hX (by omega) dL_law_240 ?_
  refine V_aload_n (i := 0) F dL_law_241 rfl rfl ?_
  refine V_iload_n (i := 3) F dL_law_242 rfl rfl ?_
  refine V_iconst F dL_law_243 (by decide) ?_
  refine V_iadd F dL_law_244 (by omega) ?_
  refine V_scr F hX (by omega) dL_law_245 ?_
  refine V_aload_n (i := 0) F dL_law_246 rfl rfl ?_
  refine V_iload_n (i := 3) F dL_law_247 rfl rfl ?_
  refine V_iconst F dL_law_248 (by decide) ?_
  refine V_iadd F dL_law_249 (by omega) ?_
  refine V_scr F hX (by omega) dL_law_250 ?_
  refine V_if_eq F 258 dL_law_251 (by decide) (fun h251 => ?_) (fun h251 => ?_)
  · refine V_iconst F dL_law_258 (by decide) ?_
    first
    | (have hg : sv sc (i + 5) = 0 := h251
       have k1 := K0
       rw [bz_f (fun q => q hg)] at k1
       exact k1)
    | (have hg : ¬ sv sc (i + 5) = 0 := h251
       have k1 := K0
       rw [bz_t hg] at k1
       exact k1)
  · refine V_iconst F dL_law_254 (by decide) ?_
    refine V_goto F 259 dL_law_255 (by decide) ?_
    first
    | (have hg : sv sc (i + 5) = 0 := h251
       have k1 := K0
       rw [bz_f (fun q => q hg)] at k1
       exact k1)
    | (have hg : ¬ sv sc (i + 5) = 0 := h251
       have k1 := K0
       rw [bz_t hg] at k1
       exact k1)
theorem lw_c2 {G : vG} {X : vX} {Q : State → Prop} {sc : Nat → Int32} {N : Nat} {w : RW} {i k : Int} (F : FX G X cL_law R_L 4 9) (hX : SCR G X N sc) (hi : 2 ≤ i ∧ i + 5 < (N : Int)) (hk : 0 ≤ k ∧ k ≤ 520) (hz : ST k w) (K : ∀ v, ST (k + 1) v → V G X 4 Q 880 [some (.inr 903), some (.inr 0), some (.inr 77), some (.inl i)] [] v) : V G X 4 Q 304 [some (.inr 903), some (.inr 0), some (.inr 77), some (.inl i)] [] w := by
  have hN := hX.2.2.2
  have hcc := hz.1.2.1.1
  have hmm := hz.1.2.2.2.1
  refine V_aload_n (i := 1) F dL_law_304 rfl rfl ?_
  refine V_aload_n (i := 0) F dL_law_305 rfl rfl ?_
  refine V_iload_n (i := 3) F dL_law_306 rfl rfl ?_
  refine V_iconst F dL_law_307 (by decide) ?_
  refine V_iadd F dL_law_308 (by omega) ?_
  refine V_scr F hX (by omega) dL_law_309 ?_
  refine V_aload_n (i := 0) F dL_law_310 rfl rfl ?_
  refine V_iload_n (i := 3) F dL_law_311 rfl rfl ?_
  refine V_iconst F dL_law_312 (by decide) ?_
  refine V_iadd F dL_law_313 (by omega) ?_
  refine V_scr F hX (by omega) dL_law_314 ?_
  refine V_aload_n (i := 0) F dL_law_315 rfl rfl ?_
  refine V_iload_n (i := 3) F dL_law_316 rfl rfl ?_
  refine V_iconst F dL_law_317 (by decide) ?_
  refine V_iadd F dL_law_318 (by omega) ?_
  refine V_scr F hX (by omega) dL_law_319 ?_
  refine V_aload_n (i := 0) F dL_law_320 rfl rfl ?_
  refine V_iload_n (i := 3) F dL_law_321 rfl rfl ?_
  refine V_iconst F dL_law_322 (by decide) ?_
  refine V_iadd F dL_law_323 (by omega) ?_
  refine V_scr F hX (by omega) dL_law_324 ?_
  refine V_callVi F dL_law_325 lmL_31 miX_station mvX_station (ctX_station hcc) (by decide) (by first | rfl | assumption) rfl rfl (Nat.le_of_ble_eq_true rfl) (fun r u hr => ?_)
  have hcl := cl_station hr
  have hPu := PR_g hz.1 hcl
  have hmu := hPu.2.2.2.1
  refine V_aload_n (i := 2) F dL_law_328 rfl rfl ?_
  refine V_aload_n (i := 0) F dL_law_329 rfl rfl ?_
  refine V_iload_n (i := 3) F dL_law_330 rfl rfl ?_
  refine V_iconst F dL_law_331 (by decide) ?_
  refine V_iadd F dL_law_332 (by omega) ?_
  refine V_scr F hX (by omega) dL_law_333 ?_
  refine V_aload_n (i := 0) F dL_law_334 rfl rfl ?_
  refine V_iload_n (i := 3) F dL_law_335 rfl rfl ?_
  refine V_iconst F dL_law_336 (by decide) ?_
  refine V_iadd F dL_law_337 (by omega) ?_
  refine V_scr F hX (by omega) dL_law_338 ?_
  refine V_aload_n (i := 0) F dL_law_339 rfl rfl ?_
  refine V_iload_n (i := 3) F dL_law_340 rfl rfl ?_
  refine V_iconst F dL_law_341 (by decide) ?_
  refine V_iadd F dL_law_342 (by omega) ?_
  refine V_scr F hX (by omega) dL_law_343 ?_
  refine V_aload_n (i := 0) F dL_law_344 rfl rfl ?_
  refine V_iload_n (i := 3) F dL_law_345 rfl rfl ?_
  refine V_iconst F dL_law_346 (by decide) ?_
  refine V_iadd F dL_law_347 (by omega) ?_
  refine V_scr F hX (by omega) dL_law_348 ?_
  refine V_callVi F dL_law_349 lmL_35 miM_station mvM_station (ctM_station hmu) (by decide) (by first | rfl | assumption) rfl rfl (Nat.le_of_ble_eq_true rfl) (fun r2 v hr2 => ?_)
  have hs := s_station hPu hr hr2
  exact V_icmp_eq F 880 dL_law_352 (by decide) (fun _ => K _ (st_op hz hs.2)) (fun h => absurd hs.1 h)
theorem lw_c3 {G : vG} {X : vX} {Q : State → Prop} {sc : Nat → Int32} {N : Nat} {w : RW} {i k : Int} (F : FX G X cL_law R_L 4 9) (hX : SCR G X N sc) (hi : 2 ≤ i ∧ i + 5 < (N : Int)) (hk : 0 ≤ k ∧ k ≤ 520) (hz : ST k w) (K : ∀ v, ST (k + 1) v → V G X 4 Q 880 [some (.inr 903), some (.inr 0), some (.inr 77), some (.inl i)] [] v) : V G X 4 Q 357 [some (.inr 903), some (.inr 0), some (.inr 77), some (.inl i)] [] w := by
  have hN := hX.2.2.2
  have hcc := hz.1.2.1.1
  have hmm := hz.1.2.2.2.1
  refine V_aload_n (i := 1) F dL_law_357 rfl rfl ?_
  refine V_aload_n (i := 0) F dL_law_358 rfl rfl ?_
  refine V_iload_n (i := 3) F dL_law_359 rfl rfl ?_
  refine V_iconst F dL_law_360 (by decide) ?_
  refine V_iadd F dL_law_361 (by omega) ?_
  refine V_scr F hX (by omega) dL_law_362 ?_
  refine V_aload_n (i := 0) F dL_law_363 rfl rfl ?_
  refine V_iload_n (i := 3) F dL_law_364 rfl rfl ?_
  refine V_iconst F dL_law_365 (by decide) ?_
  refine V_iadd F dL_law_366 (by omega) ?_
  refine V_scr F hX (by omega) dL_law_367 ?_
  refine V_aload_n (i := 0) F dL_law_368 rfl rfl ?_
  refine V_iload_n (i := 3) F dL_law_369 rfl rfl ?_
  refine V_iconst F dL_law_370 (by decide) ?_
  refine V_iadd F dL_law_371 (by omega) ?_
  refine V_scr F hX (by omega) dL_law_372 ?_
  refine V_aload_n (i := 0) F dL_law_373 rfl rfl ?_
  refine V_iload_n (i := 3) F dL_law_374 rfl rfl ?_
  refine V_iconst F dL_law_375 (by decide) ?_
  refine V_iadd F dL_law_376 (by omega) ?_
  refine V_scr F hX (by omega) dL_law_377 ?_
  refine V_aload_n (i := 0) F dL_law_378 rfl rfl ?_
  refine V_iload_n (i := 3) F dL_law_379 rfl rfl ?_
  refine V_iconst F dL_law_380 (by decide) ?_
  refine V_iadd F dL_law_381 (by omega) ?_
  refine V_scr F hX (by omega) dL_law_382 ?_
  refine V_callVi F dL_law_383 lmL_36 miX_train mvX_train (ctX_train hcc) (by decide) (by first | rfl | assumption) rfl rfl (Nat.le_of_ble_eq_true rfl) (fun r u hr => ?_)
  have hcl := cl_train hcc hr
  have hPu := PR_g hz.1 hcl
  have hmu := hPu.2.2.2.1
  refine V_aload_n (i := 2) F dL_law_386 rfl rfl ?_
  refine V_aload_n (i := 0) F dL_law_387 rfl rfl ?_
  refine V_iload_n (i := 3) F dL_law_388 rfl rfl ?_
  refine V_iconst F dL_law_389 (by decide) ?_
  refine V_iadd F dL_law_390 (by omega) ?_
  refine V_scr F hX (by omega) dL_law_391 ?_
  refine V_aload_n (i := 0) F dL_law_392 rfl rfl ?_
  refine V_iload_n (i := 3) F dL_law_393 rfl rfl ?_
  refine V_iconst F dL_law_394 (by decide) ?_
  refine V_iadd F dL_law_395 (by omega) ?_
  refine V_scr F hX (by omega) dL_law_396 ?_
  refine V_aload_n (i := 0) F dL_law_397 rfl rfl ?_
  refine V_iload_n (i := 3) F dL_law_398 rfl rfl ?_
  refine V_iconst F dL_law_399 (by decide) ?_
  refine V_iadd F dL_law_400 (by omega) ?_
  refine V_scr F hX (by omega) dL_law_401 ?_
  refine V_aload_n (i := 0) F dL_law_402 rfl rfl ?_
  refine V_iload_n (i := 3) F dL_law_403 rfl rfl ?_
  refine V_iconst F dL_law_404 (by decide) ?_
  refine V_iadd F dL_law_405 (by omega) ?_
  refine V_scr F hX (by omega) dL_law_406 ?_
  refine V_aload_n (i := 0) F dL_law_407 rfl rfl ?_
  refine V_iload_n (i := 3) F dL_law_408 rfl rfl ?_
  refine V_iconst F dL_law_409 (by decide) ?_
  refine V_iadd F dL_law_410 (by omega) ?_
  refine V_scr F hX (by omega) dL_law_411 ?_
  refine V_callVi F dL_law_412 lmL_40 miM_train mvM_train (ctM_train hmu) (by decide) (by first | rfl | assumption) rfl rfl (Nat.le_of_ble_eq_true rfl) (fun r2 v hr2 => ?_)
  have hs := s_train hPu hr hr2
  exact V_icmp_eq F 880 dL_law_415 (by decide) (fun _ => K _ (st_op hz hs.2)) (fun h => absurd hs.1 h)
theorem lw_c4 {G : vG} {X : vX} {Q : State → Prop} {sc : Nat → Int32} {N : Nat} {w : RW} {i k : Int} (F : FX G X cL_law R_L 4 9) (hX : SCR G X N sc) (hi : 2 ≤ i ∧ i + 5 < (N : Int)) (hk : 0 ≤ k ∧ k ≤ 520) (hz : ST k w) (K : ∀ v, ST (k + 1) v → V G X 4 Q 880 [some (.inr 903), some (.inr 0), some (.inr 77), some (.inl i)] [] v) : V G X 4 Q 420 [some (.inr 903), some (.inr 0), some (.inr 77), some (.inl i)] [] w := by
  have hN := hX.2.2.2
  have hcc := hz.1.2.1.1
  have hmm := hz.1.2.2.2.1
  refine V_aload_n (i := 1) F dL_law_420 rfl rfl ?_
  refine V_aload_n (i := 0) F dL_law_421 rfl rfl ?_
  refine V_iload_n (i := 3) F dL_law_422 rfl rfl ?_
  refine V_iconst F dL_law_423 (by decide) ?_
  refine V_iadd F dL_law_424 (by omega) ?_
  refine V_scr F hX (by omega) dL_law_425 ?_
  refine V_aload_n (i := 0) F dL_law_426 rfl rfl ?_
  refine V_iload_n (i := 3) F dL_law_427 rfl rfl ?_
  refine V_iconst F dL_law_428 (by decide) ?_
  refine V_iadd F dL_law_429 (by omega) ?_
  refine V_scr F hX (by omega) dL_law_430 ?_
  refine V_callVi F dL_law_431 lmL_41 miX_order mvX_order (ctX_order hcc) (by decide) (by first | rfl | assumption) rfl rfl (Nat.le_of_ble_eq_true rfl) (fun r u hr => ?_)
  have hcl := cl_order hcc hr
  have hPu := PR_g hz.1 hcl
  have hmu := hPu.2.2.2.1
  refine V_aload_n (i := 2) F dL_law_434 rfl rfl ?_
  refine V_aload_n (i := 0) F dL_law_435 rfl rfl ?_
  refine V_iload_n (i := 3) F dL_law_436 rfl rfl ?_
  refine V_iconst F dL_law_437 (by decide) ?_
  refine V_iadd F dL_law_438 (by omega) ?_
  refine V_scr F hX (by omega) dL_law_439 ?_
  refine V_aload_n (i := 0) F dL_law_440 rfl rfl ?_
  refine V_iload_n (i := 3) F dL_law_441 rfl rfl ?_
  refine V_iconst F dL_law_442 (by decide) ?_
  refine V_iadd F dL_law_443 (by omega) ?_
  refine V_scr F hX (by omega) dL_law_444 ?_
  refine V_callVi F dL_law_445 lmL_45 miM_order mvM_order (ctM_order hmu) (by decide) (by first | rfl | assumption) rfl rfl (Nat.le_of_ble_eq_true rfl) (fun r2 v hr2 => ?_)
  have hs := s_order hPu hr hr2
  exact V_icmp_eq F 880 dL_law_448 (by decide) (fun _ => K _ (st_op hz hs.2)) (fun h => absurd hs.1 h)
theorem lw_c5 {G : vG} {X : vX} {Q : State → Prop} {sc : Nat → Int32} {N : Nat} {w : RW} {i k : Int} (F : FX G X cL_law R_L 4 9) (hX : SCR G X N sc) (hi : 2 ≤ i ∧ i + 5 < (N : Int)) (hk : 0 ≤ k ∧ k ≤ 520) (hz : ST k w) (K : ∀ v, ST (k + 1) v → V G X 4 Q 880 [some (.inr 903), some (.inr 0), some (.inr 77), some (.inl i)] [] v) : V G X 4 Q 453 [some (.inr 903), some (.inr 0), some (.inr 77), some (.inl i)] [] w := by
  have hN := hX.2.2.2
  have hcc := hz.1.2.1.1
  have hmm := hz.1.2.2.2.1
  refine V_aload_n (i := 1) F dL_law_453 rfl rfl ?_
  refine V_aload_n (i := 0) F dL_law_454 rfl rfl ?_
  refine V_iload_n (i := 3) F dL_law_455 rfl rfl ?_
  refine V_iconst F dL_law_456 (by decide) ?_
  refine V_iadd F dL_law_457 (by omega) ?_
  refine V_scr F hX (by omega) dL_law_458 ?_
  refine V_callVi F dL_law_459 lmL_46 miX_reverse mvX_reverse (ctX_reverse hcc) (by decide) (by first | rfl | assumption) rfl rfl (Nat.le_of_ble_eq_true rfl) (fun r u hr => ?_)
  have hcl := cl_reverse hcc hr
  have hPu := PR_g hz.1 hcl
  have hmu := hPu.2.2.2.1
  refine V_aload_n (i := 2) F dL_law_462 rfl rfl ?_
  refine V_aload_n (i := 0) F dL_law_463 rfl rfl ?_
  refine V_iload_n (i := 3) F dL_law_464 rfl rfl ?_
  refine V_iconst F dL_law_465 (by decide) ?_
  refine V_iadd F dL_law_466 (by omega) ?_
  refine V_scr F hX (by omega) dL_law_467 ?_
  refine V_callVi F dL_law_468 lmL_50 miM_reverse mvM_reverse (ctM_reverse hmu) (by decide) (by first | rfl | assumption) rfl rfl (Nat.le_of_ble_eq_true rfl) (fun r2 v hr2 => ?_)
  have hs := s_reverse hPu hr hr2
  exact V_icmp_eq F 880 dL_law_471 (by decide) (fun _ => K _ (st_op hz hs.2)) (fun h => absurd hs.1 h)
