/-! THE LAW: its cases -/
theorem dL_law_0 : decode code 0 = .ok (.new 7, 3) := by decide +kernel
theorem dL_law_3 : decode code 3 = .ok (.dup, 1) := by decide +kernel
theorem dL_law_4 : decode code 4 = .ok (.invokespecial 9, 3) := by decide +kernel
theorem dL_law_7 : decode code 7 = .ok (.astore_n 1, 1) := by decide +kernel
theorem dL_law_8 : decode code 8 = .ok (.new 10, 3) := by decide +kernel
theorem dL_law_11 : decode code 11 = .ok (.dup, 1) := by decide +kernel
theorem dL_law_12 : decode code 12 = .ok (.invokespecial 12, 3) := by decide +kernel
theorem dL_law_15 : decode code 15 = .ok (.astore_n 2, 1) := by decide +kernel
theorem dL_law_16 : decode code 16 = .ok (.iconst 0, 1) := by decide +kernel
theorem dL_law_17 : decode code 17 = .ok (.istore_n 3, 1) := by decide +kernel
theorem dL_law_18 : decode code 18 = .ok (.iload_n 3, 1) := by decide +kernel
theorem dL_law_19 : decode code 19 = .ok (.aload_n 0, 1) := by decide +kernel
theorem dL_law_20 : decode code 20 = .ok (.arraylength, 1) := by decide +kernel
theorem dL_law_21 : decode code 21 = .ok (.iconst 5, 1) := by decide +kernel
theorem dL_law_22 : decode code 22 = .ok (.isub, 1) := by decide +kernel
theorem dL_law_23 : decode code 23 = .ok (.if_icmp .gt 815, 3) := by decide +kernel
theorem dL_law_26 : decode code 26 = .ok (.aload_n 0, 1) := by decide +kernel
theorem dL_law_27 : decode code 27 = .ok (.iload_n 3, 1) := by decide +kernel
theorem dL_law_28 : decode code 28 = .ok (.iaload, 1) := by decide +kernel
theorem dL_law_29 : decode code 29 = .ok (.bipush 31, 2) := by decide +kernel
theorem dL_law_31 : decode code 31 = .ok (.iand, 1) := by decide +kernel
theorem dL_law_32 : decode code 32 = .ok (.tableswitch 800 0 21 #[104, 127, 138, 151, 174, 217, 250, 273, 306, 349, 382, 425, 468, 553, 576, 599, 642, 665, 688, 731, 764, 777], 104) := by decide +kernel
theorem dL_law_136 : decode code 136 = .ok (.aload_n 1, 1) := by decide +kernel
theorem dL_law_137 : decode code 137 = .ok (.aload_n 0, 1) := by decide +kernel
theorem dL_law_138 : decode code 138 = .ok (.iload_n 3, 1) := by decide +kernel
theorem dL_law_139 : decode code 139 = .ok (.iconst 1, 1) := by decide +kernel
theorem dL_law_140 : decode code 140 = .ok (.iadd, 1) := by decide +kernel
theorem dL_law_141 : decode code 141 = .ok (.iaload, 1) := by decide +kernel
theorem dL_law_142 : decode code 142 = .ok (.invokevirtual 13, 3) := by decide +kernel
theorem dL_law_145 : decode code 145 = .ok (.aload_n 2, 1) := by decide +kernel
theorem dL_law_146 : decode code 146 = .ok (.aload_n 0, 1) := by decide +kernel
theorem dL_law_147 : decode code 147 = .ok (.iload_n 3, 1) := by decide +kernel
theorem dL_law_148 : decode code 148 = .ok (.iconst 1, 1) := by decide +kernel
theorem dL_law_149 : decode code 149 = .ok (.iadd, 1) := by decide +kernel
theorem dL_law_150 : decode code 150 = .ok (.iaload, 1) := by decide +kernel
theorem dL_law_151 : decode code 151 = .ok (.invokevirtual 17, 3) := by decide +kernel
theorem dL_law_154 : decode code 154 = .ok (.if_icmp .eq 678, 3) := by decide +kernel
theorem dL_law_157 : decode code 157 = .ok (.iconst 0, 1) := by decide +kernel
theorem dL_law_158 : decode code 158 = .ok (.ireturn, 1) := by decide +kernel
theorem dL_law_159 : decode code 159 = .ok (.aload_n 1, 1) := by decide +kernel
theorem dL_law_160 : decode code 160 = .ok (.invokevirtual 18, 3) := by decide +kernel
theorem dL_law_163 : decode code 163 = .ok (.aload_n 2, 1) := by decide +kernel
theorem dL_law_164 : decode code 164 = .ok (.invokevirtual 21, 3) := by decide +kernel
theorem dL_law_167 : decode code 167 = .ok (.goto 665, 3) := by decide +kernel
theorem dL_law_170 : decode code 170 = .ok (.aload_n 1, 1) := by decide +kernel
theorem dL_law_171 : decode code 171 = .ok (.invokevirtual 22, 3) := by decide +kernel
theorem dL_law_174 : decode code 174 = .ok (.aload_n 2, 1) := by decide +kernel
theorem dL_law_175 : decode code 175 = .ok (.invokevirtual 26, 3) := by decide +kernel
theorem dL_law_178 : decode code 178 = .ok (.if_icmp .eq 654, 3) := by decide +kernel
theorem dL_law_181 : decode code 181 = .ok (.iconst 0, 1) := by decide +kernel
theorem dL_law_182 : decode code 182 = .ok (.ireturn, 1) := by decide +kernel
theorem dL_law_183 : decode code 183 = .ok (.aload_n 1, 1) := by decide +kernel
theorem dL_law_184 : decode code 184 = .ok (.aload_n 0, 1) := by decide +kernel
theorem dL_law_185 : decode code 185 = .ok (.iload_n 3, 1) := by decide +kernel
theorem dL_law_186 : decode code 186 = .ok (.iconst 1, 1) := by decide +kernel
theorem dL_law_187 : decode code 187 = .ok (.iadd, 1) := by decide +kernel
theorem dL_law_188 : decode code 188 = .ok (.iaload, 1) := by decide +kernel
theorem dL_law_189 : decode code 189 = .ok (.invokevirtual 27, 3) := by decide +kernel
theorem dL_law_192 : decode code 192 = .ok (.aload_n 2, 1) := by decide +kernel
theorem dL_law_193 : decode code 193 = .ok (.aload_n 0, 1) := by decide +kernel
theorem dL_law_194 : decode code 194 = .ok (.iload_n 3, 1) := by decide +kernel
theorem dL_law_195 : decode code 195 = .ok (.iconst 1, 1) := by decide +kernel
theorem dL_law_196 : decode code 196 = .ok (.iadd, 1) := by decide +kernel
theorem dL_law_197 : decode code 197 = .ok (.iaload, 1) := by decide +kernel
theorem dL_law_198 : decode code 198 = .ok (.invokevirtual 31, 3) := by decide +kernel
theorem dL_law_201 : decode code 201 = .ok (.if_icmp .eq 631, 3) := by decide +kernel
theorem dL_law_204 : decode code 204 = .ok (.iconst 0, 1) := by decide +kernel
theorem dL_law_205 : decode code 205 = .ok (.ireturn, 1) := by decide +kernel
theorem dL_law_206 : decode code 206 = .ok (.aload_n 1, 1) := by decide +kernel
theorem dL_law_207 : decode code 207 = .ok (.aload_n 0, 1) := by decide +kernel
theorem dL_law_208 : decode code 208 = .ok (.iload_n 3, 1) := by decide +kernel
theorem dL_law_209 : decode code 209 = .ok (.iconst 1, 1) := by decide +kernel
theorem dL_law_210 : decode code 210 = .ok (.iadd, 1) := by decide +kernel
theorem dL_law_211 : decode code 211 = .ok (.iaload, 1) := by decide +kernel
theorem dL_law_212 : decode code 212 = .ok (.aload_n 0, 1) := by decide +kernel
theorem dL_law_213 : decode code 213 = .ok (.iload_n 3, 1) := by decide +kernel
theorem dL_law_214 : decode code 214 = .ok (.iconst 2, 1) := by decide +kernel
theorem dL_law_215 : decode code 215 = .ok (.iadd, 1) := by decide +kernel
theorem dL_law_216 : decode code 216 = .ok (.iaload, 1) := by decide +kernel
theorem dL_law_217 : decode code 217 = .ok (.aload_n 0, 1) := by decide +kernel
theorem dL_law_218 : decode code 218 = .ok (.iload_n 3, 1) := by decide +kernel
theorem dL_law_219 : decode code 219 = .ok (.iconst 3, 1) := by decide +kernel
theorem dL_law_220 : decode code 220 = .ok (.iadd, 1) := by decide +kernel
theorem dL_law_221 : decode code 221 = .ok (.iaload, 1) := by decide +kernel
theorem dL_law_222 : decode code 222 = .ok (.invokevirtual 32, 3) := by decide +kernel
theorem dL_law_225 : decode code 225 = .ok (.aload_n 2, 1) := by decide +kernel
theorem dL_law_226 : decode code 226 = .ok (.aload_n 0, 1) := by decide +kernel
theorem dL_law_227 : decode code 227 = .ok (.iload_n 3, 1) := by decide +kernel
theorem dL_law_228 : decode code 228 = .ok (.iconst 1, 1) := by decide +kernel
theorem dL_law_229 : decode code 229 = .ok (.iadd, 1) := by decide +kernel
theorem dL_law_230 : decode code 230 = .ok (.iaload, 1) := by decide +kernel
theorem dL_law_231 : decode code 231 = .ok (.aload_n 0, 1) := by decide +kernel
theorem dL_law_232 : decode code 232 = .ok (.iload_n 3, 1) := by decide +kernel
theorem dL_law_233 : decode code 233 = .ok (.iconst 2, 1) := by decide +kernel
theorem dL_law_234 : decode code 234 = .ok (.iadd, 1) := by decide +kernel
theorem dL_law_235 : decode code 235 = .ok (.iaload, 1) := by decide +kernel
theorem dL_law_236 : decode code 236 = .ok (.aload_n 0, 1) := by decide +kernel
theorem dL_law_237 : decode code 237 = .ok (.iload_n 3, 1) := by decide +kernel
theorem dL_law_238 : decode code 238 = .ok (.iconst 3, 1) := by decide +kernel
theorem dL_law_239 : decode code 239 = .ok (.iadd, 1) := by decide +kernel
theorem dL_law_240 : decode code 240 = .ok (.iaload, 1) := by decide +kernel
theorem dL_law_241 : decode code 241 = .ok (.invokevirtual 36, 3) := by decide +kernel
theorem dL_law_244 : decode code 244 = .ok (.if_icmp .eq 588, 3) := by decide +kernel
theorem dL_law_247 : decode code 247 = .ok (.iconst 0, 1) := by decide +kernel
theorem dL_law_248 : decode code 248 = .ok (.ireturn, 1) := by decide +kernel
theorem dL_law_249 : decode code 249 = .ok (.aload_n 1, 1) := by decide +kernel
theorem dL_law_250 : decode code 250 = .ok (.aload_n 0, 1) := by decide +kernel
theorem dL_law_251 : decode code 251 = .ok (.iload_n 3, 1) := by decide +kernel
theorem dL_law_252 : decode code 252 = .ok (.iconst 1, 1) := by decide +kernel
theorem dL_law_253 : decode code 253 = .ok (.iadd, 1) := by decide +kernel
theorem dL_law_254 : decode code 254 = .ok (.iaload, 1) := by decide +kernel
theorem dL_law_255 : decode code 255 = .ok (.aload_n 0, 1) := by decide +kernel
theorem dL_law_256 : decode code 256 = .ok (.iload_n 3, 1) := by decide +kernel
theorem dL_law_257 : decode code 257 = .ok (.iconst 2, 1) := by decide +kernel
theorem dL_law_258 : decode code 258 = .ok (.iadd, 1) := by decide +kernel
theorem dL_law_259 : decode code 259 = .ok (.iaload, 1) := by decide +kernel
theorem dL_law_260 : decode code 260 = .ok (.invokevirtual 37, 3) := by decide +kernel
theorem dL_law_263 : decode code 263 = .ok (.aload_n 2, 1) := by decide +kernel
theorem dL_law_264 : decode code 264 = .ok (.aload_n 0, 1) := by decide +kernel
theorem dL_law_265 : decode code 265 = .ok (.iload_n 3, 1) := by decide +kernel
theorem dL_law_266 : decode code 266 = .ok (.iconst 1, 1) := by decide +kernel
theorem dL_law_267 : decode code 267 = .ok (.iadd, 1) := by decide +kernel
theorem dL_law_268 : decode code 268 = .ok (.iaload, 1) := by decide +kernel
theorem dL_law_269 : decode code 269 = .ok (.aload_n 0, 1) := by decide +kernel
theorem dL_law_270 : decode code 270 = .ok (.iload_n 3, 1) := by decide +kernel
theorem dL_law_271 : decode code 271 = .ok (.iconst 2, 1) := by decide +kernel
theorem dL_law_272 : decode code 272 = .ok (.iadd, 1) := by decide +kernel
theorem dL_law_273 : decode code 273 = .ok (.iaload, 1) := by decide +kernel
theorem dL_law_274 : decode code 274 = .ok (.invokevirtual 41, 3) := by decide +kernel
theorem dL_law_277 : decode code 277 = .ok (.if_icmp .eq 555, 3) := by decide +kernel
theorem dL_law_280 : decode code 280 = .ok (.iconst 0, 1) := by decide +kernel
theorem dL_law_281 : decode code 281 = .ok (.ireturn, 1) := by decide +kernel
theorem dL_law_282 : decode code 282 = .ok (.aload_n 1, 1) := by decide +kernel
theorem dL_law_283 : decode code 283 = .ok (.aload_n 0, 1) := by decide +kernel
theorem dL_law_284 : decode code 284 = .ok (.iload_n 3, 1) := by decide +kernel
theorem dL_law_285 : decode code 285 = .ok (.iconst 1, 1) := by decide +kernel
theorem dL_law_286 : decode code 286 = .ok (.iadd, 1) := by decide +kernel
theorem dL_law_287 : decode code 287 = .ok (.iaload, 1) := by decide +kernel
theorem dL_law_288 : decode code 288 = .ok (.invokevirtual 42, 3) := by decide +kernel
theorem dL_law_291 : decode code 291 = .ok (.aload_n 2, 1) := by decide +kernel
theorem dL_law_292 : decode code 292 = .ok (.aload_n 0, 1) := by decide +kernel
theorem dL_law_293 : decode code 293 = .ok (.iload_n 3, 1) := by decide +kernel
theorem dL_law_294 : decode code 294 = .ok (.iconst 1, 1) := by decide +kernel
theorem dL_law_295 : decode code 295 = .ok (.iadd, 1) := by decide +kernel
theorem dL_law_296 : decode code 296 = .ok (.iaload, 1) := by decide +kernel
theorem dL_law_297 : decode code 297 = .ok (.invokevirtual 45, 3) := by decide +kernel
theorem dL_law_300 : decode code 300 = .ok (.if_icmp .eq 532, 3) := by decide +kernel
theorem dL_law_303 : decode code 303 = .ok (.iconst 0, 1) := by decide +kernel
theorem dL_law_304 : decode code 304 = .ok (.ireturn, 1) := by decide +kernel
theorem dL_law_305 : decode code 305 = .ok (.aload_n 1, 1) := by decide +kernel
theorem dL_law_306 : decode code 306 = .ok (.aload_n 0, 1) := by decide +kernel
theorem dL_law_307 : decode code 307 = .ok (.iload_n 3, 1) := by decide +kernel
theorem dL_law_308 : decode code 308 = .ok (.iconst 1, 1) := by decide +kernel
theorem dL_law_309 : decode code 309 = .ok (.iadd, 1) := by decide +kernel
theorem dL_law_310 : decode code 310 = .ok (.iaload, 1) := by decide +kernel
theorem dL_law_311 : decode code 311 = .ok (.aload_n 0, 1) := by decide +kernel
theorem dL_law_312 : decode code 312 = .ok (.iload_n 3, 1) := by decide +kernel
theorem dL_law_313 : decode code 313 = .ok (.iconst 2, 1) := by decide +kernel
theorem dL_law_314 : decode code 314 = .ok (.iadd, 1) := by decide +kernel
theorem dL_law_315 : decode code 315 = .ok (.iaload, 1) := by decide +kernel
theorem dL_law_316 : decode code 316 = .ok (.invokevirtual 46, 3) := by decide +kernel
theorem dL_law_319 : decode code 319 = .ok (.aload_n 2, 1) := by decide +kernel
theorem dL_law_320 : decode code 320 = .ok (.aload_n 0, 1) := by decide +kernel
theorem dL_law_321 : decode code 321 = .ok (.iload_n 3, 1) := by decide +kernel
theorem dL_law_322 : decode code 322 = .ok (.iconst 1, 1) := by decide +kernel
theorem dL_law_323 : decode code 323 = .ok (.iadd, 1) := by decide +kernel
theorem dL_law_324 : decode code 324 = .ok (.iaload, 1) := by decide +kernel
theorem dL_law_325 : decode code 325 = .ok (.aload_n 0, 1) := by decide +kernel
theorem dL_law_326 : decode code 326 = .ok (.iload_n 3, 1) := by decide +kernel
theorem dL_law_327 : decode code 327 = .ok (.iconst 2, 1) := by decide +kernel
theorem dL_law_328 : decode code 328 = .ok (.iadd, 1) := by decide +kernel
theorem dL_law_329 : decode code 329 = .ok (.iaload, 1) := by decide +kernel
theorem dL_law_330 : decode code 330 = .ok (.invokevirtual 50, 3) := by decide +kernel
theorem dL_law_333 : decode code 333 = .ok (.if_icmp .eq 499, 3) := by decide +kernel
theorem dL_law_336 : decode code 336 = .ok (.iconst 0, 1) := by decide +kernel
theorem dL_law_337 : decode code 337 = .ok (.ireturn, 1) := by decide +kernel
theorem dL_law_338 : decode code 338 = .ok (.aload_n 1, 1) := by decide +kernel
theorem dL_law_339 : decode code 339 = .ok (.aload_n 0, 1) := by decide +kernel
theorem dL_law_340 : decode code 340 = .ok (.iload_n 3, 1) := by decide +kernel
theorem dL_law_341 : decode code 341 = .ok (.iconst 1, 1) := by decide +kernel
theorem dL_law_342 : decode code 342 = .ok (.iadd, 1) := by decide +kernel
theorem dL_law_343 : decode code 343 = .ok (.iaload, 1) := by decide +kernel
theorem dL_law_344 : decode code 344 = .ok (.aload_n 0, 1) := by decide +kernel
theorem dL_law_345 : decode code 345 = .ok (.iload_n 3, 1) := by decide +kernel
theorem dL_law_346 : decode code 346 = .ok (.iconst 2, 1) := by decide +kernel
theorem dL_law_347 : decode code 347 = .ok (.iadd, 1) := by decide +kernel
theorem dL_law_348 : decode code 348 = .ok (.iaload, 1) := by decide +kernel
theorem dL_law_349 : decode code 349 = .ok (.aload_n 0, 1) := by decide +kernel
theorem dL_law_350 : decode code 350 = .ok (.iload_n 3, 1) := by decide +kernel
theorem dL_law_351 : decode code 351 = .ok (.iconst 3, 1) := by decide +kernel
theorem dL_law_352 : decode code 352 = .ok (.iadd, 1) := by decide +kernel
theorem dL_law_353 : decode code 353 = .ok (.iaload, 1) := by decide +kernel
theorem dL_law_354 : decode code 354 = .ok (.invokevirtual 51, 3) := by decide +kernel
theorem dL_law_357 : decode code 357 = .ok (.aload_n 2, 1) := by decide +kernel
theorem dL_law_358 : decode code 358 = .ok (.aload_n 0, 1) := by decide +kernel
theorem dL_law_359 : decode code 359 = .ok (.iload_n 3, 1) := by decide +kernel
theorem dL_law_360 : decode code 360 = .ok (.iconst 1, 1) := by decide +kernel
theorem dL_law_361 : decode code 361 = .ok (.iadd, 1) := by decide +kernel
theorem dL_law_362 : decode code 362 = .ok (.iaload, 1) := by decide +kernel
theorem dL_law_363 : decode code 363 = .ok (.aload_n 0, 1) := by decide +kernel
theorem dL_law_364 : decode code 364 = .ok (.iload_n 3, 1) := by decide +kernel
theorem dL_law_365 : decode code 365 = .ok (.iconst 2, 1) := by decide +kernel
theorem dL_law_366 : decode code 366 = .ok (.iadd, 1) := by decide +kernel
theorem dL_law_367 : decode code 367 = .ok (.iaload, 1) := by decide +kernel
theorem dL_law_368 : decode code 368 = .ok (.aload_n 0, 1) := by decide +kernel
theorem dL_law_369 : decode code 369 = .ok (.iload_n 3, 1) := by decide +kernel
theorem dL_law_370 : decode code 370 = .ok (.iconst 3, 1) := by decide +kernel
theorem dL_law_371 : decode code 371 = .ok (.iadd, 1) := by decide +kernel
theorem dL_law_372 : decode code 372 = .ok (.iaload, 1) := by decide +kernel
theorem dL_law_373 : decode code 373 = .ok (.invokevirtual 54, 3) := by decide +kernel
theorem dL_law_376 : decode code 376 = .ok (.if_icmp .eq 456, 3) := by decide +kernel
theorem dL_law_379 : decode code 379 = .ok (.iconst 0, 1) := by decide +kernel
theorem dL_law_380 : decode code 380 = .ok (.ireturn, 1) := by decide +kernel
theorem dL_law_381 : decode code 381 = .ok (.aload_n 1, 1) := by decide +kernel
theorem dL_law_382 : decode code 382 = .ok (.aload_n 0, 1) := by decide +kernel
theorem dL_law_383 : decode code 383 = .ok (.iload_n 3, 1) := by decide +kernel
theorem dL_law_384 : decode code 384 = .ok (.iconst 1, 1) := by decide +kernel
theorem dL_law_385 : decode code 385 = .ok (.iadd, 1) := by decide +kernel
theorem dL_law_386 : decode code 386 = .ok (.iaload, 1) := by decide +kernel
theorem dL_law_387 : decode code 387 = .ok (.aload_n 0, 1) := by decide +kernel
theorem dL_law_388 : decode code 388 = .ok (.iload_n 3, 1) := by decide +kernel
theorem dL_law_389 : decode code 389 = .ok (.iconst 2, 1) := by decide +kernel
theorem dL_law_390 : decode code 390 = .ok (.iadd, 1) := by decide +kernel
theorem dL_law_391 : decode code 391 = .ok (.iaload, 1) := by decide +kernel
theorem dL_law_392 : decode code 392 = .ok (.invokevirtual 55, 3) := by decide +kernel
theorem dL_law_395 : decode code 395 = .ok (.aload_n 2, 1) := by decide +kernel
theorem dL_law_396 : decode code 396 = .ok (.aload_n 0, 1) := by decide +kernel
theorem dL_law_397 : decode code 397 = .ok (.iload_n 3, 1) := by decide +kernel
theorem dL_law_398 : decode code 398 = .ok (.iconst 1, 1) := by decide +kernel
theorem dL_law_399 : decode code 399 = .ok (.iadd, 1) := by decide +kernel
theorem dL_law_400 : decode code 400 = .ok (.iaload, 1) := by decide +kernel
theorem dL_law_401 : decode code 401 = .ok (.aload_n 0, 1) := by decide +kernel
theorem dL_law_402 : decode code 402 = .ok (.iload_n 3, 1) := by decide +kernel
theorem dL_law_403 : decode code 403 = .ok (.iconst 2, 1) := by decide +kernel
theorem dL_law_404 : decode code 404 = .ok (.iadd, 1) := by decide +kernel
theorem dL_law_405 : decode code 405 = .ok (.iaload, 1) := by decide +kernel
theorem dL_law_406 : decode code 406 = .ok (.invokevirtual 58, 3) := by decide +kernel
theorem dL_law_409 : decode code 409 = .ok (.if_icmp .eq 423, 3) := by decide +kernel
theorem dL_law_412 : decode code 412 = .ok (.iconst 0, 1) := by decide +kernel
theorem dL_law_413 : decode code 413 = .ok (.ireturn, 1) := by decide +kernel
theorem dL_law_414 : decode code 414 = .ok (.aload_n 1, 1) := by decide +kernel
theorem dL_law_415 : decode code 415 = .ok (.aload_n 0, 1) := by decide +kernel
theorem dL_law_416 : decode code 416 = .ok (.iload_n 3, 1) := by decide +kernel
theorem dL_law_417 : decode code 417 = .ok (.iconst 1, 1) := by decide +kernel
theorem dL_law_418 : decode code 418 = .ok (.iadd, 1) := by decide +kernel
theorem dL_law_419 : decode code 419 = .ok (.iaload, 1) := by decide +kernel
theorem dL_law_420 : decode code 420 = .ok (.aload_n 0, 1) := by decide +kernel
theorem dL_law_421 : decode code 421 = .ok (.iload_n 3, 1) := by decide +kernel
theorem dL_law_422 : decode code 422 = .ok (.iconst 2, 1) := by decide +kernel
theorem dL_law_423 : decode code 423 = .ok (.iadd, 1) := by decide +kernel
theorem dL_law_424 : decode code 424 = .ok (.iaload, 1) := by decide +kernel
theorem dL_law_425 : decode code 425 = .ok (.aload_n 0, 1) := by decide +kernel
theorem dL_law_426 : decode code 426 = .ok (.iload_n 3, 1) := by decide +kernel
theorem dL_law_427 : decode code 427 = .ok (.iconst 3, 1) := by decide +kernel
theorem dL_law_428 : decode code 428 = .ok (.iadd, 1) := by decide +kernel
theorem dL_law_429 : decode code 429 = .ok (.iaload, 1) := by decide +kernel
theorem dL_law_430 : decode code 430 = .ok (.invokevirtual 59, 3) := by decide +kernel
theorem dL_law_433 : decode code 433 = .ok (.aload_n 2, 1) := by decide +kernel
theorem dL_law_434 : decode code 434 = .ok (.aload_n 0, 1) := by decide +kernel
theorem dL_law_435 : decode code 435 = .ok (.iload_n 3, 1) := by decide +kernel
theorem dL_law_436 : decode code 436 = .ok (.iconst 1, 1) := by decide +kernel
theorem dL_law_437 : decode code 437 = .ok (.iadd, 1) := by decide +kernel
theorem dL_law_438 : decode code 438 = .ok (.iaload, 1) := by decide +kernel
theorem dL_law_439 : decode code 439 = .ok (.aload_n 0, 1) := by decide +kernel
theorem dL_law_440 : decode code 440 = .ok (.iload_n 3, 1) := by decide +kernel
theorem dL_law_441 : decode code 441 = .ok (.iconst 2, 1) := by decide +kernel
theorem dL_law_442 : decode code 442 = .ok (.iadd, 1) := by decide +kernel
theorem dL_law_443 : decode code 443 = .ok (.iaload, 1) := by decide +kernel
theorem dL_law_444 : decode code 444 = .ok (.aload_n 0, 1) := by decide +kernel
theorem dL_law_445 : decode code 445 = .ok (.iload_n 3, 1) := by decide +kernel
theorem dL_law_446 : decode code 446 = .ok (.iconst 3, 1) := by decide +kernel
theorem dL_law_447 : decode code 447 = .ok (.iadd, 1) := by decide +kernel
theorem dL_law_448 : decode code 448 = .ok (.iaload, 1) := by decide +kernel
theorem dL_law_449 : decode code 449 = .ok (.invokevirtual 62, 3) := by decide +kernel
theorem dL_law_452 : decode code 452 = .ok (.if_icmp .eq 380, 3) := by decide +kernel
theorem dL_law_455 : decode code 455 = .ok (.iconst 0, 1) := by decide +kernel
theorem dL_law_456 : decode code 456 = .ok (.ireturn, 1) := by decide +kernel
theorem dL_law_457 : decode code 457 = .ok (.aload_n 1, 1) := by decide +kernel
theorem dL_law_458 : decode code 458 = .ok (.aload_n 0, 1) := by decide +kernel
theorem dL_law_459 : decode code 459 = .ok (.iload_n 3, 1) := by decide +kernel
theorem dL_law_460 : decode code 460 = .ok (.iconst 1, 1) := by decide +kernel
theorem dL_law_461 : decode code 461 = .ok (.iadd, 1) := by decide +kernel
theorem dL_law_462 : decode code 462 = .ok (.iaload, 1) := by decide +kernel
theorem dL_law_463 : decode code 463 = .ok (.aload_n 0, 1) := by decide +kernel
theorem dL_law_464 : decode code 464 = .ok (.iload_n 3, 1) := by decide +kernel
theorem dL_law_465 : decode code 465 = .ok (.iconst 2, 1) := by decide +kernel
theorem dL_law_466 : decode code 466 = .ok (.iadd, 1) := by decide +kernel
theorem dL_law_467 : decode code 467 = .ok (.iaload, 1) := by decide +kernel
theorem dL_law_468 : decode code 468 = .ok (.aload_n 0, 1) := by decide +kernel
theorem dL_law_469 : decode code 469 = .ok (.iload_n 3, 1) := by decide +kernel
theorem dL_law_470 : decode code 470 = .ok (.iconst 3, 1) := by decide +kernel
theorem dL_law_471 : decode code 471 = .ok (.iadd, 1) := by decide +kernel
theorem dL_law_472 : decode code 472 = .ok (.iaload, 1) := by decide +kernel
theorem dL_law_473 : decode code 473 = .ok (.invokevirtual 63, 3) := by decide +kernel
theorem dL_law_476 : decode code 476 = .ok (.aload_n 2, 1) := by decide +kernel
theorem dL_law_477 : decode code 477 = .ok (.aload_n 0, 1) := by decide +kernel
theorem dL_law_478 : decode code 478 = .ok (.iload_n 3, 1) := by decide +kernel
theorem dL_law_479 : decode code 479 = .ok (.iconst 1, 1) := by decide +kernel
theorem dL_law_480 : decode code 480 = .ok (.iadd, 1) := by decide +kernel
theorem dL_law_481 : decode code 481 = .ok (.iaload, 1) := by decide +kernel
theorem dL_law_482 : decode code 482 = .ok (.aload_n 0, 1) := by decide +kernel
theorem dL_law_483 : decode code 483 = .ok (.iload_n 3, 1) := by decide +kernel
theorem dL_law_484 : decode code 484 = .ok (.iconst 2, 1) := by decide +kernel
theorem dL_law_485 : decode code 485 = .ok (.iadd, 1) := by decide +kernel
theorem dL_law_486 : decode code 486 = .ok (.iaload, 1) := by decide +kernel
theorem dL_law_487 : decode code 487 = .ok (.aload_n 0, 1) := by decide +kernel
theorem dL_law_488 : decode code 488 = .ok (.iload_n 3, 1) := by decide +kernel
theorem dL_law_489 : decode code 489 = .ok (.iconst 3, 1) := by decide +kernel
theorem dL_law_490 : decode code 490 = .ok (.iadd, 1) := by decide +kernel
theorem dL_law_491 : decode code 491 = .ok (.iaload, 1) := by decide +kernel
theorem dL_law_492 : decode code 492 = .ok (.invokevirtual 66, 3) := by decide +kernel
theorem dL_law_495 : decode code 495 = .ok (.if_icmp .eq 337, 3) := by decide +kernel
theorem dL_law_498 : decode code 498 = .ok (.iconst 0, 1) := by decide +kernel
theorem dL_law_499 : decode code 499 = .ok (.ireturn, 1) := by decide +kernel
theorem dL_law_500 : decode code 500 = .ok (.aload_n 1, 1) := by decide +kernel
theorem dL_law_501 : decode code 501 = .ok (.aload_n 0, 1) := by decide +kernel
theorem dL_law_502 : decode code 502 = .ok (.iload_n 3, 1) := by decide +kernel
theorem dL_law_503 : decode code 503 = .ok (.iconst 1, 1) := by decide +kernel
theorem dL_law_504 : decode code 504 = .ok (.iadd, 1) := by decide +kernel
theorem dL_law_505 : decode code 505 = .ok (.iaload, 1) := by decide +kernel
theorem dL_law_506 : decode code 506 = .ok (.aload_n 0, 1) := by decide +kernel
theorem dL_law_507 : decode code 507 = .ok (.iload_n 3, 1) := by decide +kernel
theorem dL_law_508 : decode code 508 = .ok (.iconst 2, 1) := by decide +kernel
theorem dL_law_509 : decode code 509 = .ok (.iadd, 1) := by decide +kernel
theorem dL_law_510 : decode code 510 = .ok (.iaload, 1) := by decide +kernel
theorem dL_law_511 : decode code 511 = .ok (.aload_n 0, 1) := by decide +kernel
theorem dL_law_512 : decode code 512 = .ok (.iload_n 3, 1) := by decide +kernel
theorem dL_law_513 : decode code 513 = .ok (.iconst 3, 1) := by decide +kernel
theorem dL_law_514 : decode code 514 = .ok (.iadd, 1) := by decide +kernel
theorem dL_law_515 : decode code 515 = .ok (.iaload, 1) := by decide +kernel
theorem dL_law_516 : decode code 516 = .ok (.ifCond .eq 7, 3) := by decide +kernel
theorem dL_law_519 : decode code 519 = .ok (.iconst 1, 1) := by decide +kernel
theorem dL_law_520 : decode code 520 = .ok (.goto 4, 3) := by decide +kernel
theorem dL_law_523 : decode code 523 = .ok (.iconst 0, 1) := by decide +kernel
theorem dL_law_524 : decode code 524 = .ok (.aload_n 0, 1) := by decide +kernel
theorem dL_law_525 : decode code 525 = .ok (.iload_n 3, 1) := by decide +kernel
theorem dL_law_526 : decode code 526 = .ok (.iconst 4, 1) := by decide +kernel
theorem dL_law_527 : decode code 527 = .ok (.iadd, 1) := by decide +kernel
theorem dL_law_528 : decode code 528 = .ok (.iaload, 1) := by decide +kernel
theorem dL_law_529 : decode code 529 = .ok (.ifCond .eq 7, 3) := by decide +kernel
theorem dL_law_532 : decode code 532 = .ok (.iconst 1, 1) := by decide +kernel
theorem dL_law_533 : decode code 533 = .ok (.goto 4, 3) := by decide +kernel
theorem dL_law_536 : decode code 536 = .ok (.iconst 0, 1) := by decide +kernel
theorem dL_law_537 : decode code 537 = .ok (.invokevirtual 67, 3) := by decide +kernel
theorem dL_law_540 : decode code 540 = .ok (.aload_n 2, 1) := by decide +kernel
theorem dL_law_541 : decode code 541 = .ok (.aload_n 0, 1) := by decide +kernel
theorem dL_law_542 : decode code 542 = .ok (.iload_n 3, 1) := by decide +kernel
theorem dL_law_543 : decode code 543 = .ok (.iconst 1, 1) := by decide +kernel
theorem dL_law_544 : decode code 544 = .ok (.iadd, 1) := by decide +kernel
theorem dL_law_545 : decode code 545 = .ok (.iaload, 1) := by decide +kernel
theorem dL_law_546 : decode code 546 = .ok (.aload_n 0, 1) := by decide +kernel
theorem dL_law_547 : decode code 547 = .ok (.iload_n 3, 1) := by decide +kernel
theorem dL_law_548 : decode code 548 = .ok (.iconst 2, 1) := by decide +kernel
theorem dL_law_549 : decode code 549 = .ok (.iadd, 1) := by decide +kernel
theorem dL_law_550 : decode code 550 = .ok (.iaload, 1) := by decide +kernel
theorem dL_law_551 : decode code 551 = .ok (.aload_n 0, 1) := by decide +kernel
theorem dL_law_552 : decode code 552 = .ok (.iload_n 3, 1) := by decide +kernel
theorem dL_law_553 : decode code 553 = .ok (.iconst 3, 1) := by decide +kernel
theorem dL_law_554 : decode code 554 = .ok (.iadd, 1) := by decide +kernel
theorem dL_law_555 : decode code 555 = .ok (.iaload, 1) := by decide +kernel
theorem dL_law_556 : decode code 556 = .ok (.ifCond .eq 7, 3) := by decide +kernel
theorem dL_law_559 : decode code 559 = .ok (.iconst 1, 1) := by decide +kernel
theorem dL_law_560 : decode code 560 = .ok (.goto 4, 3) := by decide +kernel
theorem dL_law_563 : decode code 563 = .ok (.iconst 0, 1) := by decide +kernel
theorem dL_law_564 : decode code 564 = .ok (.aload_n 0, 1) := by decide +kernel
theorem dL_law_565 : decode code 565 = .ok (.iload_n 3, 1) := by decide +kernel
theorem dL_law_566 : decode code 566 = .ok (.iconst 4, 1) := by decide +kernel
theorem dL_law_567 : decode code 567 = .ok (.iadd, 1) := by decide +kernel
theorem dL_law_568 : decode code 568 = .ok (.iaload, 1) := by decide +kernel
theorem dL_law_569 : decode code 569 = .ok (.ifCond .eq 7, 3) := by decide +kernel
theorem dL_law_572 : decode code 572 = .ok (.iconst 1, 1) := by decide +kernel
theorem dL_law_573 : decode code 573 = .ok (.goto 4, 3) := by decide +kernel
theorem dL_law_576 : decode code 576 = .ok (.iconst 0, 1) := by decide +kernel
theorem dL_law_577 : decode code 577 = .ok (.invokevirtual 71, 3) := by decide +kernel
theorem dL_law_580 : decode code 580 = .ok (.if_icmp .eq 252, 3) := by decide +kernel
theorem dL_law_583 : decode code 583 = .ok (.iconst 0, 1) := by decide +kernel
theorem dL_law_584 : decode code 584 = .ok (.ireturn, 1) := by decide +kernel
theorem dL_law_585 : decode code 585 = .ok (.aload_n 1, 1) := by decide +kernel
theorem dL_law_586 : decode code 586 = .ok (.aload_n 0, 1) := by decide +kernel
theorem dL_law_587 : decode code 587 = .ok (.iload_n 3, 1) := by decide +kernel
theorem dL_law_588 : decode code 588 = .ok (.iconst 1, 1) := by decide +kernel
theorem dL_law_589 : decode code 589 = .ok (.iadd, 1) := by decide +kernel
theorem dL_law_590 : decode code 590 = .ok (.iaload, 1) := by decide +kernel
theorem dL_law_591 : decode code 591 = .ok (.invokevirtual 72, 3) := by decide +kernel
theorem dL_law_594 : decode code 594 = .ok (.aload_n 2, 1) := by decide +kernel
theorem dL_law_595 : decode code 595 = .ok (.aload_n 0, 1) := by decide +kernel
theorem dL_law_596 : decode code 596 = .ok (.iload_n 3, 1) := by decide +kernel
theorem dL_law_597 : decode code 597 = .ok (.iconst 1, 1) := by decide +kernel
theorem dL_law_598 : decode code 598 = .ok (.iadd, 1) := by decide +kernel
theorem dL_law_599 : decode code 599 = .ok (.iaload, 1) := by decide +kernel
theorem dL_law_600 : decode code 600 = .ok (.invokevirtual 75, 3) := by decide +kernel
theorem dL_law_603 : decode code 603 = .ok (.if_icmp .eq 229, 3) := by decide +kernel
theorem dL_law_606 : decode code 606 = .ok (.iconst 0, 1) := by decide +kernel
theorem dL_law_607 : decode code 607 = .ok (.ireturn, 1) := by decide +kernel
theorem dL_law_608 : decode code 608 = .ok (.aload_n 1, 1) := by decide +kernel
theorem dL_law_609 : decode code 609 = .ok (.aload_n 0, 1) := by decide +kernel
theorem dL_law_610 : decode code 610 = .ok (.iload_n 3, 1) := by decide +kernel
theorem dL_law_611 : decode code 611 = .ok (.iconst 1, 1) := by decide +kernel
theorem dL_law_612 : decode code 612 = .ok (.iadd, 1) := by decide +kernel
theorem dL_law_613 : decode code 613 = .ok (.iaload, 1) := by decide +kernel
theorem dL_law_614 : decode code 614 = .ok (.invokevirtual 76, 3) := by decide +kernel
theorem dL_law_617 : decode code 617 = .ok (.aload_n 2, 1) := by decide +kernel
theorem dL_law_618 : decode code 618 = .ok (.aload_n 0, 1) := by decide +kernel
theorem dL_law_619 : decode code 619 = .ok (.iload_n 3, 1) := by decide +kernel
theorem dL_law_620 : decode code 620 = .ok (.iconst 1, 1) := by decide +kernel
theorem dL_law_621 : decode code 621 = .ok (.iadd, 1) := by decide +kernel
theorem dL_law_622 : decode code 622 = .ok (.iaload, 1) := by decide +kernel
theorem dL_law_623 : decode code 623 = .ok (.invokevirtual 79, 3) := by decide +kernel
theorem dL_law_626 : decode code 626 = .ok (.if_icmp .eq 206, 3) := by decide +kernel
theorem dL_law_629 : decode code 629 = .ok (.iconst 0, 1) := by decide +kernel
theorem dL_law_630 : decode code 630 = .ok (.ireturn, 1) := by decide +kernel
theorem dL_law_631 : decode code 631 = .ok (.aload_n 1, 1) := by decide +kernel
theorem dL_law_632 : decode code 632 = .ok (.aload_n 0, 1) := by decide +kernel
theorem dL_law_633 : decode code 633 = .ok (.iload_n 3, 1) := by decide +kernel
theorem dL_law_634 : decode code 634 = .ok (.iconst 1, 1) := by decide +kernel
theorem dL_law_635 : decode code 635 = .ok (.iadd, 1) := by decide +kernel
theorem dL_law_636 : decode code 636 = .ok (.iaload, 1) := by decide +kernel
theorem dL_law_637 : decode code 637 = .ok (.aload_n 0, 1) := by decide +kernel
theorem dL_law_638 : decode code 638 = .ok (.iload_n 3, 1) := by decide +kernel
theorem dL_law_639 : decode code 639 = .ok (.iconst 2, 1) := by decide +kernel
theorem dL_law_640 : decode code 640 = .ok (.iadd, 1) := by decide +kernel
theorem dL_law_641 : decode code 641 = .ok (.iaload, 1) := by decide +kernel
theorem dL_law_642 : decode code 642 = .ok (.aload_n 0, 1) := by decide +kernel
theorem dL_law_643 : decode code 643 = .ok (.iload_n 3, 1) := by decide +kernel
theorem dL_law_644 : decode code 644 = .ok (.iconst 3, 1) := by decide +kernel
theorem dL_law_645 : decode code 645 = .ok (.iadd, 1) := by decide +kernel
theorem dL_law_646 : decode code 646 = .ok (.iaload, 1) := by decide +kernel
theorem dL_law_647 : decode code 647 = .ok (.invokevirtual 80, 3) := by decide +kernel
theorem dL_law_650 : decode code 650 = .ok (.aload_n 2, 1) := by decide +kernel
theorem dL_law_651 : decode code 651 = .ok (.aload_n 0, 1) := by decide +kernel
theorem dL_law_652 : decode code 652 = .ok (.iload_n 3, 1) := by decide +kernel
theorem dL_law_653 : decode code 653 = .ok (.iconst 1, 1) := by decide +kernel
theorem dL_law_654 : decode code 654 = .ok (.iadd, 1) := by decide +kernel
theorem dL_law_655 : decode code 655 = .ok (.iaload, 1) := by decide +kernel
theorem dL_law_656 : decode code 656 = .ok (.aload_n 0, 1) := by decide +kernel
theorem dL_law_657 : decode code 657 = .ok (.iload_n 3, 1) := by decide +kernel
theorem dL_law_658 : decode code 658 = .ok (.iconst 2, 1) := by decide +kernel
theorem dL_law_659 : decode code 659 = .ok (.iadd, 1) := by decide +kernel
theorem dL_law_660 : decode code 660 = .ok (.iaload, 1) := by decide +kernel
theorem dL_law_661 : decode code 661 = .ok (.aload_n 0, 1) := by decide +kernel
theorem dL_law_662 : decode code 662 = .ok (.iload_n 3, 1) := by decide +kernel
theorem dL_law_663 : decode code 663 = .ok (.iconst 3, 1) := by decide +kernel
theorem dL_law_664 : decode code 664 = .ok (.iadd, 1) := by decide +kernel
theorem dL_law_665 : decode code 665 = .ok (.iaload, 1) := by decide +kernel
theorem dL_law_666 : decode code 666 = .ok (.invokevirtual 83, 3) := by decide +kernel
theorem dL_law_669 : decode code 669 = .ok (.if_icmp .eq 163, 3) := by decide +kernel
theorem dL_law_672 : decode code 672 = .ok (.iconst 0, 1) := by decide +kernel
theorem dL_law_673 : decode code 673 = .ok (.ireturn, 1) := by decide +kernel
theorem dL_law_674 : decode code 674 = .ok (.aload_n 1, 1) := by decide +kernel
theorem dL_law_675 : decode code 675 = .ok (.aload_n 0, 1) := by decide +kernel
theorem dL_law_676 : decode code 676 = .ok (.iload_n 3, 1) := by decide +kernel
theorem dL_law_677 : decode code 677 = .ok (.iconst 1, 1) := by decide +kernel
theorem dL_law_678 : decode code 678 = .ok (.iadd, 1) := by decide +kernel
theorem dL_law_679 : decode code 679 = .ok (.iaload, 1) := by decide +kernel
theorem dL_law_680 : decode code 680 = .ok (.invokevirtual 84, 3) := by decide +kernel
theorem dL_law_683 : decode code 683 = .ok (.aload_n 2, 1) := by decide +kernel
theorem dL_law_684 : decode code 684 = .ok (.aload_n 0, 1) := by decide +kernel
theorem dL_law_685 : decode code 685 = .ok (.iload_n 3, 1) := by decide +kernel
theorem dL_law_686 : decode code 686 = .ok (.iconst 1, 1) := by decide +kernel
theorem dL_law_687 : decode code 687 = .ok (.iadd, 1) := by decide +kernel
theorem dL_law_688 : decode code 688 = .ok (.iaload, 1) := by decide +kernel
theorem dL_law_689 : decode code 689 = .ok (.invokevirtual 87, 3) := by decide +kernel
theorem dL_law_692 : decode code 692 = .ok (.if_icmp .eq 140, 3) := by decide +kernel
theorem dL_law_695 : decode code 695 = .ok (.iconst 0, 1) := by decide +kernel
theorem dL_law_696 : decode code 696 = .ok (.ireturn, 1) := by decide +kernel
theorem dL_law_697 : decode code 697 = .ok (.aload_n 1, 1) := by decide +kernel
theorem dL_law_698 : decode code 698 = .ok (.aload_n 0, 1) := by decide +kernel
theorem dL_law_699 : decode code 699 = .ok (.iload_n 3, 1) := by decide +kernel
theorem dL_law_700 : decode code 700 = .ok (.iconst 1, 1) := by decide +kernel
theorem dL_law_701 : decode code 701 = .ok (.iadd, 1) := by decide +kernel
theorem dL_law_702 : decode code 702 = .ok (.iaload, 1) := by decide +kernel
theorem dL_law_703 : decode code 703 = .ok (.invokevirtual 88, 3) := by decide +kernel
theorem dL_law_706 : decode code 706 = .ok (.aload_n 2, 1) := by decide +kernel
theorem dL_law_707 : decode code 707 = .ok (.aload_n 0, 1) := by decide +kernel
theorem dL_law_708 : decode code 708 = .ok (.iload_n 3, 1) := by decide +kernel
theorem dL_law_709 : decode code 709 = .ok (.iconst 1, 1) := by decide +kernel
theorem dL_law_710 : decode code 710 = .ok (.iadd, 1) := by decide +kernel
theorem dL_law_711 : decode code 711 = .ok (.iaload, 1) := by decide +kernel
theorem dL_law_712 : decode code 712 = .ok (.invokevirtual 91, 3) := by decide +kernel
theorem dL_law_715 : decode code 715 = .ok (.if_icmp .eq 117, 3) := by decide +kernel
theorem dL_law_718 : decode code 718 = .ok (.iconst 0, 1) := by decide +kernel
theorem dL_law_719 : decode code 719 = .ok (.ireturn, 1) := by decide +kernel
theorem dL_law_720 : decode code 720 = .ok (.aload_n 1, 1) := by decide +kernel
theorem dL_law_721 : decode code 721 = .ok (.aload_n 0, 1) := by decide +kernel
theorem dL_law_722 : decode code 722 = .ok (.iload_n 3, 1) := by decide +kernel
theorem dL_law_723 : decode code 723 = .ok (.iconst 1, 1) := by decide +kernel
theorem dL_law_724 : decode code 724 = .ok (.iadd, 1) := by decide +kernel
theorem dL_law_725 : decode code 725 = .ok (.iaload, 1) := by decide +kernel
theorem dL_law_726 : decode code 726 = .ok (.aload_n 0, 1) := by decide +kernel
theorem dL_law_727 : decode code 727 = .ok (.iload_n 3, 1) := by decide +kernel
theorem dL_law_728 : decode code 728 = .ok (.iconst 2, 1) := by decide +kernel
theorem dL_law_729 : decode code 729 = .ok (.iadd, 1) := by decide +kernel
theorem dL_law_730 : decode code 730 = .ok (.iaload, 1) := by decide +kernel
theorem dL_law_731 : decode code 731 = .ok (.aload_n 0, 1) := by decide +kernel
theorem dL_law_732 : decode code 732 = .ok (.iload_n 3, 1) := by decide +kernel
theorem dL_law_733 : decode code 733 = .ok (.iconst 3, 1) := by decide +kernel
theorem dL_law_734 : decode code 734 = .ok (.iadd, 1) := by decide +kernel
theorem dL_law_735 : decode code 735 = .ok (.iaload, 1) := by decide +kernel
theorem dL_law_736 : decode code 736 = .ok (.invokevirtual 92, 3) := by decide +kernel
theorem dL_law_739 : decode code 739 = .ok (.aload_n 2, 1) := by decide +kernel
theorem dL_law_740 : decode code 740 = .ok (.aload_n 0, 1) := by decide +kernel
theorem dL_law_741 : decode code 741 = .ok (.iload_n 3, 1) := by decide +kernel
theorem dL_law_742 : decode code 742 = .ok (.iconst 1, 1) := by decide +kernel
theorem dL_law_743 : decode code 743 = .ok (.iadd, 1) := by decide +kernel
theorem dL_law_744 : decode code 744 = .ok (.iaload, 1) := by decide +kernel
theorem dL_law_745 : decode code 745 = .ok (.aload_n 0, 1) := by decide +kernel
theorem dL_law_746 : decode code 746 = .ok (.iload_n 3, 1) := by decide +kernel
theorem dL_law_747 : decode code 747 = .ok (.iconst 2, 1) := by decide +kernel
theorem dL_law_748 : decode code 748 = .ok (.iadd, 1) := by decide +kernel
theorem dL_law_749 : decode code 749 = .ok (.iaload, 1) := by decide +kernel
theorem dL_law_750 : decode code 750 = .ok (.aload_n 0, 1) := by decide +kernel
theorem dL_law_751 : decode code 751 = .ok (.iload_n 3, 1) := by decide +kernel
theorem dL_law_752 : decode code 752 = .ok (.iconst 3, 1) := by decide +kernel
theorem dL_law_753 : decode code 753 = .ok (.iadd, 1) := by decide +kernel
theorem dL_law_754 : decode code 754 = .ok (.iaload, 1) := by decide +kernel
theorem dL_law_755 : decode code 755 = .ok (.invokevirtual 96, 3) := by decide +kernel
theorem dL_law_758 : decode code 758 = .ok (.if_icmp .eq 74, 3) := by decide +kernel
theorem dL_law_761 : decode code 761 = .ok (.iconst 0, 1) := by decide +kernel
theorem dL_law_762 : decode code 762 = .ok (.ireturn, 1) := by decide +kernel
theorem dL_law_763 : decode code 763 = .ok (.aload_n 1, 1) := by decide +kernel
theorem dL_law_764 : decode code 764 = .ok (.aload_n 0, 1) := by decide +kernel
theorem dL_law_765 : decode code 765 = .ok (.iload_n 3, 1) := by decide +kernel
theorem dL_law_766 : decode code 766 = .ok (.iconst 1, 1) := by decide +kernel
theorem dL_law_767 : decode code 767 = .ok (.iadd, 1) := by decide +kernel
theorem dL_law_768 : decode code 768 = .ok (.iaload, 1) := by decide +kernel
theorem dL_law_769 : decode code 769 = .ok (.aload_n 0, 1) := by decide +kernel
theorem dL_law_770 : decode code 770 = .ok (.iload_n 3, 1) := by decide +kernel
theorem dL_law_771 : decode code 771 = .ok (.iconst 2, 1) := by decide +kernel
theorem dL_law_772 : decode code 772 = .ok (.iadd, 1) := by decide +kernel
theorem dL_law_773 : decode code 773 = .ok (.iaload, 1) := by decide +kernel
theorem dL_law_774 : decode code 774 = .ok (.invokevirtual 97, 3) := by decide +kernel
theorem dL_law_777 : decode code 777 = .ok (.aload_n 2, 1) := by decide +kernel
theorem dL_law_778 : decode code 778 = .ok (.aload_n 0, 1) := by decide +kernel
theorem dL_law_779 : decode code 779 = .ok (.iload_n 3, 1) := by decide +kernel
theorem dL_law_780 : decode code 780 = .ok (.iconst 1, 1) := by decide +kernel
theorem dL_law_781 : decode code 781 = .ok (.iadd, 1) := by decide +kernel
theorem dL_law_782 : decode code 782 = .ok (.iaload, 1) := by decide +kernel
theorem dL_law_783 : decode code 783 = .ok (.aload_n 0, 1) := by decide +kernel
theorem dL_law_784 : decode code 784 = .ok (.iload_n 3, 1) := by decide +kernel
theorem dL_law_785 : decode code 785 = .ok (.iconst 2, 1) := by decide +kernel
theorem dL_law_786 : decode code 786 = .ok (.iadd, 1) := by decide +kernel
theorem dL_law_787 : decode code 787 = .ok (.iaload, 1) := by decide +kernel
theorem dL_law_788 : decode code 788 = .ok (.invokevirtual 100, 3) := by decide +kernel
theorem dL_law_791 : decode code 791 = .ok (.if_icmp .eq 41, 3) := by decide +kernel
theorem dL_law_794 : decode code 794 = .ok (.iconst 0, 1) := by decide +kernel
theorem dL_law_795 : decode code 795 = .ok (.ireturn, 1) := by decide +kernel
theorem dL_law_796 : decode code 796 = .ok (.aload_n 1, 1) := by decide +kernel
theorem dL_law_797 : decode code 797 = .ok (.invokevirtual 101, 3) := by decide +kernel
theorem dL_law_800 : decode code 800 = .ok (.aload_n 2, 1) := by decide +kernel
theorem dL_law_801 : decode code 801 = .ok (.invokevirtual 104, 3) := by decide +kernel
theorem dL_law_804 : decode code 804 = .ok (.if_icmp .eq 28, 3) := by decide +kernel
theorem dL_law_807 : decode code 807 = .ok (.iconst 0, 1) := by decide +kernel
theorem dL_law_808 : decode code 808 = .ok (.ireturn, 1) := by decide +kernel
theorem dL_law_809 : decode code 809 = .ok (.aload_n 1, 1) := by decide +kernel
theorem dL_law_810 : decode code 810 = .ok (.aload_n 0, 1) := by decide +kernel
theorem dL_law_811 : decode code 811 = .ok (.iload_n 3, 1) := by decide +kernel
theorem dL_law_812 : decode code 812 = .ok (.iconst 1, 1) := by decide +kernel
theorem dL_law_813 : decode code 813 = .ok (.iadd, 1) := by decide +kernel
theorem dL_law_814 : decode code 814 = .ok (.iaload, 1) := by decide +kernel
theorem dL_law_815 : decode code 815 = .ok (.invokevirtual 105, 3) := by decide +kernel
theorem dL_law_818 : decode code 818 = .ok (.aload_n 2, 1) := by decide +kernel
theorem dL_law_819 : decode code 819 = .ok (.aload_n 0, 1) := by decide +kernel
theorem dL_law_820 : decode code 820 = .ok (.iload_n 3, 1) := by decide +kernel
theorem dL_law_821 : decode code 821 = .ok (.iconst 1, 1) := by decide +kernel
theorem dL_law_822 : decode code 822 = .ok (.iadd, 1) := by decide +kernel
theorem dL_law_823 : decode code 823 = .ok (.iaload, 1) := by decide +kernel
theorem dL_law_824 : decode code 824 = .ok (.invokevirtual 108, 3) := by decide +kernel
theorem dL_law_827 : decode code 827 = .ok (.if_icmp .eq 5, 3) := by decide +kernel
theorem dL_law_830 : decode code 830 = .ok (.iconst 0, 1) := by decide +kernel
theorem dL_law_831 : decode code 831 = .ok (.ireturn, 1) := by decide +kernel
theorem dL_law_832 : decode code 832 = .ok (.iinc 3 5, 3) := by decide +kernel
theorem dL_law_835 : decode code 835 = .ok (.goto (-817), 3) := by decide +kernel
theorem dL_law_838 : decode code 838 = .ok (.iconst 1, 1) := by decide +kernel
theorem dL_law_839 : decode code 839 = .ok (.ireturn, 1) := by decide +kernel
set_option maxRecDepth 100000 in
set_option maxHeartbeats 4000000 in
theorem law_18 {p : Program} {l : Launch} {e : Env} {s : State} {m : MethodId} {below : List Frame} {meth : Method} {c : Code} {E : zE} {b L : Nat} {xs : Nat → Int32} (B : zLw p s m c E b L xs) : zLk (zG p l e room_1 s m #[Value.ref b] below meth c E 4 600000 7302250 (lw_Z below #[Value.ref b] s)) 18 (o_il 3 <| o_al 0 <| o_sn L <| o_c 5 <| o_sub <| t_igt ((zG p l e room_1 s m #[Value.ref b] below meth c E 4 600000 7302250 (lw_Z below #[Value.ref b] s)) 838) ((zG p l e room_1 s m #[Value.ref b] below meth c E 4 600000 7302250 (lw_Z below #[Value.ref b] s)) 26)) := lk_iln B.1 dL_law_18 rfl (lk_aln B.1 dL_law_19 rfl (lk_sln B dL_law_20 (lk_c B.1 dL_law_21 (lk_sub B.1 dL_law_22 (lk_igt B.1 dL_law_23 (by decide) (fun _ _ _ h => h) (fun _ _ _ h => h))))))
set_option maxRecDepth 100000 in
set_option maxHeartbeats 4000000 in
theorem law_26 {p : Program} {l : Launch} {e : Env} {s : State} {m : MethodId} {below : List Frame} {meth : Method} {c : Code} {E : zE} {b L : Nat} {xs : Nat → Int32} (B : zLw p s m c E b L xs) : zLk (zG p l e room_1 s m #[Value.ref b] below meth c E 4 600000 7302250 (lw_Z below #[Value.ref b] s)) 26 (o_al 0 <| o_il 3 <| o_sl xs L <| o_c 31 <| o_and <| t_sw [(0, (zG p l e room_1 s m #[Value.ref b] below meth c E 4 600000 7302250 (lw_Z below #[Value.ref b] s)) 136), (1, (zG p l e room_1 s m #[Value.ref b] below meth c E 4 600000 7302250 (lw_Z below #[Value.ref b] s)) 159), (2, (zG p l e room_1 s m #[Value.ref b] below meth c E 4 600000 7302250 (lw_Z below #[Value.ref b] s)) 170), (3, (zG p l e room_1 s m #[Value.ref b] below meth c E 4 600000 7302250 (lw_Z below #[Value.ref b] s)) 183), (4, (zG p l e room_1 s m #[Value.ref b] below meth c E 4 600000 7302250 (lw_Z below #[Value.ref b] s)) 206), (5, (zG p l e room_1 s m #[Value.ref b] below meth c E 4 600000 7302250 (lw_Z below #[Value.ref b] s)) 249), (6, (zG p l e room_1 s m #[Value.ref b] below meth c E 4 600000 7302250 (lw_Z below #[Value.ref b] s)) 282), (7, (zG p l e room_1 s m #[Value.ref b] below meth c E 4 600000 7302250 (lw_Z below #[Value.ref b] s)) 305), (8, (zG p l e room_1 s m #[Value.ref b] below meth c E 4 600000 7302250 (lw_Z below #[Value.ref b] s)) 338), (9, (zG p l e room_1 s m #[Value.ref b] below meth c E 4 600000 7302250 (lw_Z below #[Value.ref b] s)) 381), (10, (zG p l e room_1 s m #[Value.ref b] below meth c E 4 600000 7302250 (lw_Z below #[Value.ref b] s)) 414), (11, (zG p l e room_1 s m #[Value.ref b] below meth c E 4 600000 7302250 (lw_Z below #[Value.ref b] s)) 457), (12, (zG p l e room_1 s m #[Value.ref b] below meth c E 4 600000 7302250 (lw_Z below #[Value.ref b] s)) 500), (13, (zG p l e room_1 s m #[Value.ref b] below meth c E 4 600000 7302250 (lw_Z below #[Value.ref b] s)) 585), (14, (zG p l e room_1 s m #[Value.ref b] below meth c E 4 600000 7302250 (lw_Z below #[Value.ref b] s)) 608), (15, (zG p l e room_1 s m #[Value.ref b] below meth c E 4 600000 7302250 (lw_Z below #[Value.ref b] s)) 631), (16, (zG p l e room_1 s m #[Value.ref b] below meth c E 4 600000 7302250 (lw_Z below #[Value.ref b] s)) 674), (17, (zG p l e room_1 s m #[Value.ref b] below meth c E 4 600000 7302250 (lw_Z below #[Value.ref b] s)) 697), (18, (zG p l e room_1 s m #[Value.ref b] below meth c E 4 600000 7302250 (lw_Z below #[Value.ref b] s)) 720), (19, (zG p l e room_1 s m #[Value.ref b] below meth c E 4 600000 7302250 (lw_Z below #[Value.ref b] s)) 763), (20, (zG p l e room_1 s m #[Value.ref b] below meth c E 4 600000 7302250 (lw_Z below #[Value.ref b] s)) 796), (21, (zG p l e room_1 s m #[Value.ref b] below meth c E 4 600000 7302250 (lw_Z below #[Value.ref b] s)) 809)] ((zG p l e room_1 s m #[Value.ref b] below meth c E 4 600000 7302250 (lw_Z below #[Value.ref b] s)) 832)) := lk_aln B.1 dL_law_26 rfl (lk_iln B.1 dL_law_27 rfl (lk_sld B dL_law_28 (lk_b B.1 dL_law_29 rfl (lk_and B.1 dL_law_31 (lk_tsw B.1 dL_law_32 (by refine zfm ⟨104, 136, (show (0 : Int) ≤ 0 from by decide), (show (0 : Int) ≤ 21 from by decide), rfl, by decide, (fun _ _ _ h => h)⟩ ?_; refine zfm ⟨127, 159, (show (0 : Int) ≤ 1 from by decide), (show (1 : Int) ≤ 21 from by decide), rfl, by decide, (fun _ _ _ h => h)⟩ ?_; refine zfm ⟨138, 170, (show (0 : Int) ≤ 2 from by decide), (show (2 : Int) ≤ 21 from by decide), rfl, by decide, (fun _ _ _ h => h)⟩ ?_; refine zfm ⟨151, 183, (show (0 : Int) ≤ 3 from by decide), (show (3 : Int) ≤ 21 from by decide), rfl, by decide, (fun _ _ _ h => h)⟩ ?_; refine zfm ⟨174, 206, (show (0 : Int) ≤ 4 from by decide), (show (4 : Int) ≤ 21 from by decide), rfl, by decide, (fun _ _ _ h => h)⟩ ?_; refine zfm ⟨217, 249, (show (0 : Int) ≤ 5 from by decide), (show (5 : Int) ≤ 21 from by decide), rfl, by decide, (fun _ _ _ h => h)⟩ ?_; refine zfm ⟨250, 282, (show (0 : Int) ≤ 6 from by decide), (show (6 : Int) ≤ 21 from by decide), rfl, by decide, (fun _ _ _ h => h)⟩ ?_; refine zfm ⟨273, 305, (show (0 : Int) ≤ 7 from by decide), (show (7 : Int) ≤ 21 from by decide), rfl, by decide, (fun _ _ _ h => h)⟩ ?_; refine zfm ⟨306, 338, (show (0 : Int) ≤ 8 from by decide), (show (8 : Int) ≤ 21 from by decide), rfl, by decide, (fun _ _ _ h => h)⟩ ?_; refine zfm ⟨349, 381, (show (0 : Int) ≤ 9 from by decide), (show (9 : Int) ≤ 21 from by decide), rfl, by decide, (fun _ _ _ h => h)⟩ ?_; refine zfm ⟨382, 414, (show (0 : Int) ≤ 10 from by decide), (show (10 : Int) ≤ 21 from by decide), rfl, by decide, (fun _ _ _ h => h)⟩ ?_; refine zfm ⟨425, 457, (show (0 : Int) ≤ 11 from by decide), (show (11 : Int) ≤ 21 from by decide), rfl, by decide, (fun _ _ _ h => h)⟩ ?_; refine zfm ⟨468, 500, (show (0 : Int) ≤ 12 from by decide), (show (12 : Int) ≤ 21 from by decide), rfl, by decide, (fun _ _ _ h => h)⟩ ?_; refine zfm ⟨553, 585, (show (0 : Int) ≤ 13 from by decide), (show (13 : Int) ≤ 21 from by decide), rfl, by decide, (fun _ _ _ h => h)⟩ ?_; refine zfm ⟨576, 608, (show (0 : Int) ≤ 14 from by decide), (show (14 : Int) ≤ 21 from by decide), rfl, by decide, (fun _ _ _ h => h)⟩ ?_; refine zfm ⟨599, 631, (show (0 : Int) ≤ 15 from by decide), (show (15 : Int) ≤ 21 from by decide), rfl, by decide, (fun _ _ _ h => h)⟩ ?_; refine zfm ⟨642, 674, (show (0 : Int) ≤ 16 from by decide), (show (16 : Int) ≤ 21 from by decide), rfl, by decide, (fun _ _ _ h => h)⟩ ?_; refine zfm ⟨665, 697, (show (0 : Int) ≤ 17 from by decide), (show (17 : Int) ≤ 21 from by decide), rfl, by decide, (fun _ _ _ h => h)⟩ ?_; refine zfm ⟨688, 720, (show (0 : Int) ≤ 18 from by decide), (show (18 : Int) ≤ 21 from by decide), rfl, by decide, (fun _ _ _ h => h)⟩ ?_; refine zfm ⟨731, 763, (show (0 : Int) ≤ 19 from by decide), (show (19 : Int) ≤ 21 from by decide), rfl, by decide, (fun _ _ _ h => h)⟩ ?_; refine zfm ⟨764, 796, (show (0 : Int) ≤ 20 from by decide), (show (20 : Int) ≤ 21 from by decide), rfl, by decide, (fun _ _ _ h => h)⟩ ?_; refine zfm ⟨777, 809, (show (0 : Int) ≤ 21 from by decide), (show (21 : Int) ≤ 21 from by decide), rfl, by decide, (fun _ _ _ h => h)⟩ ?_; exact zfn) (fun x h1 h2 => by simp only [List.mem_cons, List.not_mem_nil, or_false, exists_eq_or_imp, exists_eq_left]; omega) (by decide) (fun _ _ _ h => h))))))
set_option maxRecDepth 100000 in
set_option maxHeartbeats 4000000 in
theorem law_838 {p : Program} {l : Launch} {e : Env} {s : State} {m : MethodId} {below : List Frame} {meth : Method} {c : Code} {E : zE} {b L : Nat} {xs : Nat → Int32} (B : zLw p s m c E b L xs) (hr : meth.sig.returnType = ret) (hlk : meth.locks = false) : zLk (zG p l e room_1 s m #[Value.ref b] below meth c E 4 600000 7302250 (lw_Z below #[Value.ref b] s)) 838 (o_c 1 <| t_end) := lk_c B.1 dL_law_838 (lk_end B hr hlk dL_law_839)
set_option maxRecDepth 100000 in
set_option maxHeartbeats 4000000 in
theorem law_832 {p : Program} {l : Launch} {e : Env} {s : State} {m : MethodId} {below : List Frame} {meth : Method} {c : Code} {E : zE} {b L : Nat} {xs : Nat → Int32} (B : zLw p s m c E b L xs) : zLk (zG p l e room_1 s m #[Value.ref b] below meth c E 4 600000 7302250 (lw_Z below #[Value.ref b] s)) 832 (o_inc 3 5 <| (zG p l e room_1 s m #[Value.ref b] below meth c E 4 600000 7302250 (lw_Z below #[Value.ref b] s)) 18) := lk_inc B.1 dL_law_832 (by decide) (lk_goto B.1 dL_law_835 (by decide) (fun _ _ _ h => h))
set_option maxRecDepth 100000 in
set_option maxHeartbeats 4000000 in
theorem law_136 {p : Program} {l : Launch} {e : Env} {s : State} {m : MethodId} {below : List Frame} {meth : Method} {c : Code} {E : zE} {b L : Nat} {xs : Nat → Int32} (B : zLw p s m c E b L xs) : zLk (zG p l e room_1 s m #[Value.ref b] below meth c E 4 600000 7302250 (lw_Z below #[Value.ref b] s)) 136 (o_al 1 <| o_al 0 <| o_il 3 <| o_c 1 <| o_add <| o_sl xs L <| o_callv (zCt 10 mX10_type) 8 2 <| o_al 2 <| o_al 0 <| o_il 3 <| o_c 1 <| o_add <| o_sl xs L <| o_callv (zCt 10 mX11_type) 9 2 <| t_same ((zG p l e room_1 s m #[Value.ref b] below meth c E 4 600000 7302250 (lw_Z below #[Value.ref b] s)) 832)) := lk_aln B.1 dL_law_136 rfl (lk_aln B.1 dL_law_137 rfl (lk_iln B.1 dL_law_138 rfl (lk_c B.1 dL_law_139 (lk_add B.1 dL_law_140 (lk_sld B dL_law_141 (lk_callv (M := mX10_type) (T := TX10) (N := 9) B.1 ⟨Nat.le_of_ble_eq_true rfl, Nat.le_of_ble_eq_true rfl⟩ ⟨Nat.le_refl _, Nat.le_refl _⟩ cl_X10 (zw5 zx_265 zx_262 zx_263 zx_264 zw_49) (by decide +kernel) dL_law_142 (lk_aln B.1 dL_law_145 rfl (lk_aln B.1 dL_law_146 rfl (lk_iln B.1 dL_law_147 rfl (lk_c B.1 dL_law_148 (lk_add B.1 dL_law_149 (lk_sld B dL_law_150 (lk_callv (M := mX11_type) (T := TX11) (N := 41) B.1 ⟨Nat.le_of_ble_eq_true rfl, Nat.le_of_ble_eq_true rfl⟩ ⟨Nat.le_refl _, Nat.le_refl _⟩ cl_X11 (zw5 zx_915 zx_912 zx_913 zx_914 zw_58) (by decide +kernel) dL_law_151 (lk_same B dL_law_154 (by decide) (fun _ _ _ h => h)))))))))))))))
set_option maxRecDepth 100000 in
set_option maxHeartbeats 4000000 in
theorem law_159 {p : Program} {l : Launch} {e : Env} {s : State} {m : MethodId} {below : List Frame} {meth : Method} {c : Code} {E : zE} {b L : Nat} {xs : Nat → Int32} (B : zLw p s m c E b L xs) : zLk (zG p l e room_1 s m #[Value.ref b] below meth c E 4 600000 7302250 (lw_Z below #[Value.ref b] s)) 159 (o_al 1 <| o_callv (zCt 10 mX10_clear) 8 1 <| o_al 2 <| o_callv (zCt 10 mX11_clear) 9 1 <| (zG p l e room_1 s m #[Value.ref b] below meth c E 4 600000 7302250 (lw_Z below #[Value.ref b] s)) 832) := lk_aln B.1 dL_law_159 rfl (lk_callv (M := mX10_clear) (T := TX10) (N := 9) B.1 ⟨Nat.le_of_ble_eq_true rfl, Nat.le_of_ble_eq_true rfl⟩ ⟨Nat.le_refl _, Nat.le_refl _⟩ cl_X10 (zw5 zx_269 zx_266 zx_267 zx_268 zw_49) (by decide +kernel) dL_law_160 (lk_aln B.1 dL_law_163 rfl (lk_callv (M := mX11_clear) (T := TX11) (N := 41) B.1 ⟨Nat.le_of_ble_eq_true rfl, Nat.le_of_ble_eq_true rfl⟩ ⟨Nat.le_refl _, Nat.le_refl _⟩ cl_X11 (zw5 zx_919 zx_916 zx_917 zx_918 zw_58) (by decide +kernel) dL_law_164 (lk_goto B.1 dL_law_167 (by decide) (fun _ _ _ h => h)))))
set_option maxRecDepth 100000 in
set_option maxHeartbeats 4000000 in
theorem law_170 {p : Program} {l : Launch} {e : Env} {s : State} {m : MethodId} {below : List Frame} {meth : Method} {c : Code} {E : zE} {b L : Nat} {xs : Nat → Int32} (B : zLw p s m c E b L xs) : zLk (zG p l e room_1 s m #[Value.ref b] below meth c E 4 600000 7302250 (lw_Z below #[Value.ref b] s)) 170 (o_al 1 <| o_callv (zCt 10 mX10_name) 8 1 <| o_al 2 <| o_callv (zCt 10 mX11_name) 9 1 <| t_same ((zG p l e room_1 s m #[Value.ref b] below meth c E 4 600000 7302250 (lw_Z below #[Value.ref b] s)) 832)) := lk_aln B.1 dL_law_170 rfl (lk_callv (M := mX10_name) (T := TX10) (N := 9) B.1 ⟨Nat.le_of_ble_eq_true rfl, Nat.le_of_ble_eq_true rfl⟩ ⟨Nat.le_refl _, Nat.le_refl _⟩ cl_X10 (zw5 zx_277 zx_274 zx_275 zx_276 zw_49) (by decide +kernel) dL_law_171 (lk_aln B.1 dL_law_174 rfl (lk_callv (M := mX11_name) (T := TX11) (N := 41) B.1 ⟨Nat.le_of_ble_eq_true rfl, Nat.le_of_ble_eq_true rfl⟩ ⟨Nat.le_refl _, Nat.le_refl _⟩ cl_X11 (zw5 zx_923 zx_920 zx_921 zx_922 zw_58) (by decide +kernel) dL_law_175 (lk_same B dL_law_178 (by decide) (fun _ _ _ h => h)))))
set_option maxRecDepth 100000 in
set_option maxHeartbeats 4000000 in
theorem law_183 {p : Program} {l : Launch} {e : Env} {s : State} {m : MethodId} {below : List Frame} {meth : Method} {c : Code} {E : zE} {b L : Nat} {xs : Nat → Int32} (B : zLw p s m c E b L xs) : zLk (zG p l e room_1 s m #[Value.ref b] below meth c E 4 600000 7302250 (lw_Z below #[Value.ref b] s)) 183 (o_al 1 <| o_al 0 <| o_il 3 <| o_c 1 <| o_add <| o_sl xs L <| o_callv (zCt 10 mX10_put) 8 2 <| o_al 2 <| o_al 0 <| o_il 3 <| o_c 1 <| o_add <| o_sl xs L <| o_callv (zCt 10 mX11_put) 9 2 <| t_same ((zG p l e room_1 s m #[Value.ref b] below meth c E 4 600000 7302250 (lw_Z below #[Value.ref b] s)) 832)) := lk_aln B.1 dL_law_183 rfl (lk_aln B.1 dL_law_184 rfl (lk_iln B.1 dL_law_185 rfl (lk_c B.1 dL_law_186 (lk_add B.1 dL_law_187 (lk_sld B dL_law_188 (lk_callv (M := mX10_put) (T := TX10) (N := 9) B.1 ⟨Nat.le_of_ble_eq_true rfl, Nat.le_of_ble_eq_true rfl⟩ ⟨Nat.le_refl _, Nat.le_refl _⟩ cl_X10 (zw5 zx_286 zx_283 zx_284 zx_285 zw_49) (by decide +kernel) dL_law_189 (lk_aln B.1 dL_law_192 rfl (lk_aln B.1 dL_law_193 rfl (lk_iln B.1 dL_law_194 rfl (lk_c B.1 dL_law_195 (lk_add B.1 dL_law_196 (lk_sld B dL_law_197 (lk_callv (M := mX11_put) (T := TX11) (N := 41) B.1 ⟨Nat.le_of_ble_eq_true rfl, Nat.le_of_ble_eq_true rfl⟩ ⟨Nat.le_refl _, Nat.le_refl _⟩ cl_X11 (zw5 zx_937 zx_934 zx_935 zx_936 zw_58) (by decide +kernel) dL_law_198 (lk_same B dL_law_201 (by decide) (fun _ _ _ h => h)))))))))))))))
set_option maxRecDepth 100000 in
set_option maxHeartbeats 4000000 in
theorem law_206 {p : Program} {l : Launch} {e : Env} {s : State} {m : MethodId} {below : List Frame} {meth : Method} {c : Code} {E : zE} {b L : Nat} {xs : Nat → Int32} (B : zLw p s m c E b L xs) : zLk (zG p l e room_1 s m #[Value.ref b] below meth c E 4 600000 7302250 (lw_Z below #[Value.ref b] s)) 206 (o_al 1 <| o_al 0 <| o_il 3 <| o_c 1 <| o_add <| o_sl xs L <| o_al 0 <| o_il 3 <| o_c 2 <| o_add <| o_sl xs L <| o_al 0 <| o_il 3 <| o_c 3 <| o_add <| o_sl xs L <| o_callv (zCt 10 mX10_add) 8 4 <| o_al 2 <| o_al 0 <| o_il 3 <| o_c 1 <| o_add <| o_sl xs L <| o_al 0 <| o_il 3 <| o_c 2 <| o_add <| o_sl xs L <| o_al 0 <| o_il 3 <| o_c 3 <| o_add <| o_sl xs L <| o_callv (zCt 10 mX11_add) 9 4 <| t_same ((zG p l e room_1 s m #[Value.ref b] below meth c E 4 600000 7302250 (lw_Z below #[Value.ref b] s)) 832)) := lk_aln B.1 dL_law_206 rfl (lk_aln B.1 dL_law_207 rfl (lk_iln B.1 dL_law_208 rfl (lk_c B.1 dL_law_209 (lk_add B.1 dL_law_210 (lk_sld B dL_law_211 (lk_aln B.1 dL_law_212 rfl (lk_iln B.1 dL_law_213 rfl (lk_c B.1 dL_law_214 (lk_add B.1 dL_law_215 (lk_sld B dL_law_216 (lk_aln B.1 dL_law_217 rfl (lk_iln B.1 dL_law_218 rfl (lk_c B.1 dL_law_219 (lk_add B.1 dL_law_220 (lk_sld B dL_law_221 (lk_callv (M := mX10_add) (T := TX10) (N := 9) B.1 ⟨Nat.le_of_ble_eq_true rfl, Nat.le_of_ble_eq_true rfl⟩ ⟨Nat.le_refl _, Nat.le_refl _⟩ cl_X10 (zw5 zx_464 zx_461 zx_462 zx_463 zw_49) (by decide +kernel) dL_law_222 (lk_aln B.1 dL_law_225 rfl (lk_aln B.1 dL_law_226 rfl (lk_iln B.1 dL_law_227 rfl (lk_c B.1 dL_law_228 (lk_add B.1 dL_law_229 (lk_sld B dL_law_230 (lk_aln B.1 dL_law_231 rfl (lk_iln B.1 dL_law_232 rfl (lk_c B.1 dL_law_233 (lk_add B.1 dL_law_234 (lk_sld B dL_law_235 (lk_aln B.1 dL_law_236 rfl (lk_iln B.1 dL_law_237 rfl (lk_c B.1 dL_law_238 (lk_add B.1 dL_law_239 (lk_sld B dL_law_240 (lk_callv (M := mX11_add) (T := TX11) (N := 41) B.1 ⟨Nat.le_of_ble_eq_true rfl, Nat.le_of_ble_eq_true rfl⟩ ⟨Nat.le_refl _, Nat.le_refl _⟩ cl_X11 (zw5 zx_1003 zx_1000 zx_1001 zx_1002 zw_58) (by decide +kernel) dL_law_241 (lk_same B dL_law_244 (by decide) (fun _ _ _ h => h)))))))))))))))))))))))))))))))))))
set_option maxRecDepth 100000 in
set_option maxHeartbeats 4000000 in
theorem law_249 {p : Program} {l : Launch} {e : Env} {s : State} {m : MethodId} {below : List Frame} {meth : Method} {c : Code} {E : zE} {b L : Nat} {xs : Nat → Int32} (B : zLw p s m c E b L xs) : zLk (zG p l e room_1 s m #[Value.ref b] below meth c E 4 600000 7302250 (lw_Z below #[Value.ref b] s)) 249 (o_al 1 <| o_al 0 <| o_il 3 <| o_c 1 <| o_add <| o_sl xs L <| o_al 0 <| o_il 3 <| o_c 2 <| o_add <| o_sl xs L <| o_callv (zCt 10 mX10_entry) 8 3 <| o_al 2 <| o_al 0 <| o_il 3 <| o_c 1 <| o_add <| o_sl xs L <| o_al 0 <| o_il 3 <| o_c 2 <| o_add <| o_sl xs L <| o_callv (zCt 10 mX11_entry) 9 3 <| t_same ((zG p l e room_1 s m #[Value.ref b] below meth c E 4 600000 7302250 (lw_Z below #[Value.ref b] s)) 832)) := lk_aln B.1 dL_law_249 rfl (lk_aln B.1 dL_law_250 rfl (lk_iln B.1 dL_law_251 rfl (lk_c B.1 dL_law_252 (lk_add B.1 dL_law_253 (lk_sld B dL_law_254 (lk_aln B.1 dL_law_255 rfl (lk_iln B.1 dL_law_256 rfl (lk_c B.1 dL_law_257 (lk_add B.1 dL_law_258 (lk_sld B dL_law_259 (lk_callv (M := mX10_entry) (T := TX10) (N := 9) B.1 ⟨Nat.le_of_ble_eq_true rfl, Nat.le_of_ble_eq_true rfl⟩ ⟨Nat.le_refl _, Nat.le_refl _⟩ cl_X10 (zw5 zx_493 zx_490 zx_491 zx_492 zw_49) (by decide +kernel) dL_law_260 (lk_aln B.1 dL_law_263 rfl (lk_aln B.1 dL_law_264 rfl (lk_iln B.1 dL_law_265 rfl (lk_c B.1 dL_law_266 (lk_add B.1 dL_law_267 (lk_sld B dL_law_268 (lk_aln B.1 dL_law_269 rfl (lk_iln B.1 dL_law_270 rfl (lk_c B.1 dL_law_271 (lk_add B.1 dL_law_272 (lk_sld B dL_law_273 (lk_callv (M := mX11_entry) (T := TX11) (N := 41) B.1 ⟨Nat.le_of_ble_eq_true rfl, Nat.le_of_ble_eq_true rfl⟩ ⟨Nat.le_refl _, Nat.le_refl _⟩ cl_X11 (zw5 zx_932 zx_929 zx_930 zx_931 zw_58) (by decide +kernel) dL_law_274 (lk_same B dL_law_277 (by decide) (fun _ _ _ h => h)))))))))))))))))))))))))
set_option maxRecDepth 100000 in
set_option maxHeartbeats 4000000 in
theorem law_282 {p : Program} {l : Launch} {e : Env} {s : State} {m : MethodId} {below : List Frame} {meth : Method} {c : Code} {E : zE} {b L : Nat} {xs : Nat → Int32} (B : zLw p s m c E b L xs) : zLk (zG p l e room_1 s m #[Value.ref b] below meth c E 4 600000 7302250 (lw_Z below #[Value.ref b] s)) 282 (o_al 1 <| o_al 0 <| o_il 3 <| o_c 1 <| o_add <| o_sl xs L <| o_callv (zCt 10 mX10_folder) 8 2 <| o_al 2 <| o_al 0 <| o_il 3 <| o_c 1 <| o_add <| o_sl xs L <| o_callv (zCt 10 mX11_folder) 9 2 <| t_same ((zG p l e room_1 s m #[Value.ref b] below meth c E 4 600000 7302250 (lw_Z below #[Value.ref b] s)) 832)) := lk_aln B.1 dL_law_282 rfl (lk_aln B.1 dL_law_283 rfl (lk_iln B.1 dL_law_284 rfl (lk_c B.1 dL_law_285 (lk_add B.1 dL_law_286 (lk_sld B dL_law_287 (lk_callv (M := mX10_folder) (T := TX10) (N := 9) B.1 ⟨Nat.le_of_ble_eq_true rfl, Nat.le_of_ble_eq_true rfl⟩ ⟨Nat.le_refl _, Nat.le_refl _⟩ cl_X10 (zw5 zx_503 zx_500 zx_501 zx_502 zw_49) (by decide +kernel) dL_law_288 (lk_aln B.1 dL_law_291 rfl (lk_aln B.1 dL_law_292 rfl (lk_iln B.1 dL_law_293 rfl (lk_c B.1 dL_law_294 (lk_add B.1 dL_law_295 (lk_sld B dL_law_296 (lk_callv (M := mX11_folder) (T := TX11) (N := 41) B.1 ⟨Nat.le_of_ble_eq_true rfl, Nat.le_of_ble_eq_true rfl⟩ ⟨Nat.le_refl _, Nat.le_refl _⟩ cl_X11 (zw5 zx_1027 zx_1024 zx_1025 zx_1026 zw_58) (by decide +kernel) dL_law_297 (lk_same B dL_law_300 (by decide) (fun _ _ _ h => h)))))))))))))))
set_option maxRecDepth 100000 in
set_option maxHeartbeats 4000000 in
theorem law_305 {p : Program} {l : Launch} {e : Env} {s : State} {m : MethodId} {below : List Frame} {meth : Method} {c : Code} {E : zE} {b L : Nat} {xs : Nat → Int32} (B : zLw p s m c E b L xs) : zLk (zG p l e room_1 s m #[Value.ref b] below meth c E 4 600000 7302250 (lw_Z below #[Value.ref b] s)) 305 (o_al 1 <| o_al 0 <| o_il 3 <| o_c 1 <| o_add <| o_sl xs L <| o_al 0 <| o_il 3 <| o_c 2 <| o_add <| o_sl xs L <| o_callv (zCt 10 mX10_bytes) 8 3 <| o_al 2 <| o_al 0 <| o_il 3 <| o_c 1 <| o_add <| o_sl xs L <| o_al 0 <| o_il 3 <| o_c 2 <| o_add <| o_sl xs L <| o_callv (zCt 10 mX11_bytes) 9 3 <| t_same ((zG p l e room_1 s m #[Value.ref b] below meth c E 4 600000 7302250 (lw_Z below #[Value.ref b] s)) 832)) := lk_aln B.1 dL_law_305 rfl (lk_aln B.1 dL_law_306 rfl (lk_iln B.1 dL_law_307 rfl (lk_c B.1 dL_law_308 (lk_add B.1 dL_law_309 (lk_sld B dL_law_310 (lk_aln B.1 dL_law_311 rfl (lk_iln B.1 dL_law_312 rfl (lk_c B.1 dL_law_313 (lk_add B.1 dL_law_314 (lk_sld B dL_law_315 (lk_callv (M := mX10_bytes) (T := TX10) (N := 9) B.1 ⟨Nat.le_of_ble_eq_true rfl, Nat.le_of_ble_eq_true rfl⟩ ⟨Nat.le_refl _, Nat.le_refl _⟩ cl_X10 (zw5 zx_534 zx_531 zx_532 zx_533 zw_49) (by decide +kernel) dL_law_316 (lk_aln B.1 dL_law_319 rfl (lk_aln B.1 dL_law_320 rfl (lk_iln B.1 dL_law_321 rfl (lk_c B.1 dL_law_322 (lk_add B.1 dL_law_323 (lk_sld B dL_law_324 (lk_aln B.1 dL_law_325 rfl (lk_iln B.1 dL_law_326 rfl (lk_c B.1 dL_law_327 (lk_add B.1 dL_law_328 (lk_sld B dL_law_329 (lk_callv (M := mX11_bytes) (T := TX11) (N := 41) B.1 ⟨Nat.le_of_ble_eq_true rfl, Nat.le_of_ble_eq_true rfl⟩ ⟨Nat.le_refl _, Nat.le_refl _⟩ cl_X11 (zw5 zx_1049 zx_1046 zx_1047 zx_1048 zw_58) (by decide +kernel) dL_law_330 (lk_same B dL_law_333 (by decide) (fun _ _ _ h => h)))))))))))))))))))))))))
set_option maxRecDepth 100000 in
set_option maxHeartbeats 4000000 in
theorem law_338 {p : Program} {l : Launch} {e : Env} {s : State} {m : MethodId} {below : List Frame} {meth : Method} {c : Code} {E : zE} {b L : Nat} {xs : Nat → Int32} (B : zLw p s m c E b L xs) : zLk (zG p l e room_1 s m #[Value.ref b] below meth c E 4 600000 7302250 (lw_Z below #[Value.ref b] s)) 338 (o_al 1 <| o_al 0 <| o_il 3 <| o_c 1 <| o_add <| o_sl xs L <| o_al 0 <| o_il 3 <| o_c 2 <| o_add <| o_sl xs L <| o_al 0 <| o_il 3 <| o_c 3 <| o_add <| o_sl xs L <| o_callv (zCt 10 mX10_raw) 8 4 <| o_al 2 <| o_al 0 <| o_il 3 <| o_c 1 <| o_add <| o_sl xs L <| o_al 0 <| o_il 3 <| o_c 2 <| o_add <| o_sl xs L <| o_al 0 <| o_il 3 <| o_c 3 <| o_add <| o_sl xs L <| o_callv (zCt 10 mX11_raw) 9 4 <| t_same ((zG p l e room_1 s m #[Value.ref b] below meth c E 4 600000 7302250 (lw_Z below #[Value.ref b] s)) 832)) := lk_aln B.1 dL_law_338 rfl (lk_aln B.1 dL_law_339 rfl (lk_iln B.1 dL_law_340 rfl (lk_c B.1 dL_law_341 (lk_add B.1 dL_law_342 (lk_sld B dL_law_343 (lk_aln B.1 dL_law_344 rfl (lk_iln B.1 dL_law_345 rfl (lk_c B.1 dL_law_346 (lk_add B.1 dL_law_347 (lk_sld B dL_law_348 (lk_aln B.1 dL_law_349 rfl (lk_iln B.1 dL_law_350 rfl (lk_c B.1 dL_law_351 (lk_add B.1 dL_law_352 (lk_sld B dL_law_353 (lk_callv (M := mX10_raw) (T := TX10) (N := 9) B.1 ⟨Nat.le_of_ble_eq_true rfl, Nat.le_of_ble_eq_true rfl⟩ ⟨Nat.le_refl _, Nat.le_refl _⟩ cl_X10 (zw5 zx_544 zx_541 zx_542 zx_543 zw_49) (by decide +kernel) dL_law_354 (lk_aln B.1 dL_law_357 rfl (lk_aln B.1 dL_law_358 rfl (lk_iln B.1 dL_law_359 rfl (lk_c B.1 dL_law_360 (lk_add B.1 dL_law_361 (lk_sld B dL_law_362 (lk_aln B.1 dL_law_363 rfl (lk_iln B.1 dL_law_364 rfl (lk_c B.1 dL_law_365 (lk_add B.1 dL_law_366 (lk_sld B dL_law_367 (lk_aln B.1 dL_law_368 rfl (lk_iln B.1 dL_law_369 rfl (lk_c B.1 dL_law_370 (lk_add B.1 dL_law_371 (lk_sld B dL_law_372 (lk_callv (M := mX11_raw) (T := TX11) (N := 41) B.1 ⟨Nat.le_of_ble_eq_true rfl, Nat.le_of_ble_eq_true rfl⟩ ⟨Nat.le_refl _, Nat.le_refl _⟩ cl_X11 (zw5 zx_1057 zx_1054 zx_1055 zx_1056 zw_58) (by decide +kernel) dL_law_373 (lk_same B dL_law_376 (by decide) (fun _ _ _ h => h)))))))))))))))))))))))))))))))))))
set_option maxRecDepth 100000 in
set_option maxHeartbeats 4000000 in
theorem law_381 {p : Program} {l : Launch} {e : Env} {s : State} {m : MethodId} {below : List Frame} {meth : Method} {c : Code} {E : zE} {b L : Nat} {xs : Nat → Int32} (B : zLw p s m c E b L xs) : zLk (zG p l e room_1 s m #[Value.ref b] below meth c E 4 600000 7302250 (lw_Z below #[Value.ref b] s)) 381 (o_al 1 <| o_al 0 <| o_il 3 <| o_c 1 <| o_add <| o_sl xs L <| o_al 0 <| o_il 3 <| o_c 2 <| o_add <| o_sl xs L <| o_callv (zCt 10 mX10_length) 8 3 <| o_al 2 <| o_al 0 <| o_il 3 <| o_c 1 <| o_add <| o_sl xs L <| o_al 0 <| o_il 3 <| o_c 2 <| o_add <| o_sl xs L <| o_callv (zCt 10 mX11_length) 9 3 <| t_same ((zG p l e room_1 s m #[Value.ref b] below meth c E 4 600000 7302250 (lw_Z below #[Value.ref b] s)) 832)) := lk_aln B.1 dL_law_381 rfl (lk_aln B.1 dL_law_382 rfl (lk_iln B.1 dL_law_383 rfl (lk_c B.1 dL_law_384 (lk_add B.1 dL_law_385 (lk_sld B dL_law_386 (lk_aln B.1 dL_law_387 rfl (lk_iln B.1 dL_law_388 rfl (lk_c B.1 dL_law_389 (lk_add B.1 dL_law_390 (lk_sld B dL_law_391 (lk_callv (M := mX10_length) (T := TX10) (N := 9) B.1 ⟨Nat.le_of_ble_eq_true rfl, Nat.le_of_ble_eq_true rfl⟩ ⟨Nat.le_refl _, Nat.le_refl _⟩ cl_X10 (zw5 zx_549 zx_546 zx_547 zx_548 zw_49) (by decide +kernel) dL_law_392 (lk_aln B.1 dL_law_395 rfl (lk_aln B.1 dL_law_396 rfl (lk_iln B.1 dL_law_397 rfl (lk_c B.1 dL_law_398 (lk_add B.1 dL_law_399 (lk_sld B dL_law_400 (lk_aln B.1 dL_law_401 rfl (lk_iln B.1 dL_law_402 rfl (lk_c B.1 dL_law_403 (lk_add B.1 dL_law_404 (lk_sld B dL_law_405 (lk_callv (M := mX11_length) (T := TX11) (N := 41) B.1 ⟨Nat.le_of_ble_eq_true rfl, Nat.le_of_ble_eq_true rfl⟩ ⟨Nat.le_refl _, Nat.le_refl _⟩ cl_X11 (zw5 zx_1061 zx_1058 zx_1059 zx_1060 zw_58) (by decide +kernel) dL_law_406 (lk_same B dL_law_409 (by decide) (fun _ _ _ h => h)))))))))))))))))))))))))
set_option maxRecDepth 100000 in
set_option maxHeartbeats 4000000 in
theorem law_414 {p : Program} {l : Launch} {e : Env} {s : State} {m : MethodId} {below : List Frame} {meth : Method} {c : Code} {E : zE} {b L : Nat} {xs : Nat → Int32} (B : zLw p s m c E b L xs) : zLk (zG p l e room_1 s m #[Value.ref b] below meth c E 4 600000 7302250 (lw_Z below #[Value.ref b] s)) 414 (o_al 1 <| o_al 0 <| o_il 3 <| o_c 1 <| o_add <| o_sl xs L <| o_al 0 <| o_il 3 <| o_c 2 <| o_add <| o_sl xs L <| o_al 0 <| o_il 3 <| o_c 3 <| o_add <| o_sl xs L <| o_callv (zCt 10 mX10_read) 8 4 <| o_al 2 <| o_al 0 <| o_il 3 <| o_c 1 <| o_add <| o_sl xs L <| o_al 0 <| o_il 3 <| o_c 2 <| o_add <| o_sl xs L <| o_al 0 <| o_il 3 <| o_c 3 <| o_add <| o_sl xs L <| o_callv (zCt 10 mX11_read) 9 4 <| t_same ((zG p l e room_1 s m #[Value.ref b] below meth c E 4 600000 7302250 (lw_Z below #[Value.ref b] s)) 832)) := lk_aln B.1 dL_law_414 rfl (lk_aln B.1 dL_law_415 rfl (lk_iln B.1 dL_law_416 rfl (lk_c B.1 dL_law_417 (lk_add B.1 dL_law_418 (lk_sld B dL_law_419 (lk_aln B.1 dL_law_420 rfl (lk_iln B.1 dL_law_421 rfl (lk_c B.1 dL_law_422 (lk_add B.1 dL_law_423 (lk_sld B dL_law_424 (lk_aln B.1 dL_law_425 rfl (lk_iln B.1 dL_law_426 rfl (lk_c B.1 dL_law_427 (lk_add B.1 dL_law_428 (lk_sld B dL_law_429 (lk_callv (M := mX10_read) (T := TX10) (N := 9) B.1 ⟨Nat.le_of_ble_eq_true rfl, Nat.le_of_ble_eq_true rfl⟩ ⟨Nat.le_refl _, Nat.le_refl _⟩ cl_X10 (zw5 zx_559 zx_556 zx_557 zx_558 zw_49) (by decide +kernel) dL_law_430 (lk_aln B.1 dL_law_433 rfl (lk_aln B.1 dL_law_434 rfl (lk_iln B.1 dL_law_435 rfl (lk_c B.1 dL_law_436 (lk_add B.1 dL_law_437 (lk_sld B dL_law_438 (lk_aln B.1 dL_law_439 rfl (lk_iln B.1 dL_law_440 rfl (lk_c B.1 dL_law_441 (lk_add B.1 dL_law_442 (lk_sld B dL_law_443 (lk_aln B.1 dL_law_444 rfl (lk_iln B.1 dL_law_445 rfl (lk_c B.1 dL_law_446 (lk_add B.1 dL_law_447 (lk_sld B dL_law_448 (lk_callv (M := mX11_read) (T := TX11) (N := 41) B.1 ⟨Nat.le_of_ble_eq_true rfl, Nat.le_of_ble_eq_true rfl⟩ ⟨Nat.le_refl _, Nat.le_refl _⟩ cl_X11 (zw5 zx_1069 zx_1066 zx_1067 zx_1068 zw_58) (by decide +kernel) dL_law_449 (lk_same B dL_law_452 (by decide) (fun _ _ _ h => h)))))))))))))))))))))))))))))))))))
set_option maxRecDepth 100000 in
set_option maxHeartbeats 4000000 in
theorem law_457 {p : Program} {l : Launch} {e : Env} {s : State} {m : MethodId} {below : List Frame} {meth : Method} {c : Code} {E : zE} {b L : Nat} {xs : Nat → Int32} (B : zLw p s m c E b L xs) : zLk (zG p l e room_1 s m #[Value.ref b] below meth c E 4 600000 7302250 (lw_Z below #[Value.ref b] s)) 457 (o_al 1 <| o_al 0 <| o_il 3 <| o_c 1 <| o_add <| o_sl xs L <| o_al 0 <| o_il 3 <| o_c 2 <| o_add <| o_sl xs L <| o_al 0 <| o_il 3 <| o_c 3 <| o_add <| o_sl xs L <| o_callv (zCt 10 mX10_find) 8 4 <| o_al 2 <| o_al 0 <| o_il 3 <| o_c 1 <| o_add <| o_sl xs L <| o_al 0 <| o_il 3 <| o_c 2 <| o_add <| o_sl xs L <| o_al 0 <| o_il 3 <| o_c 3 <| o_add <| o_sl xs L <| o_callv (zCt 10 mX11_find) 9 4 <| t_same ((zG p l e room_1 s m #[Value.ref b] below meth c E 4 600000 7302250 (lw_Z below #[Value.ref b] s)) 832)) := lk_aln B.1 dL_law_457 rfl (lk_aln B.1 dL_law_458 rfl (lk_iln B.1 dL_law_459 rfl (lk_c B.1 dL_law_460 (lk_add B.1 dL_law_461 (lk_sld B dL_law_462 (lk_aln B.1 dL_law_463 rfl (lk_iln B.1 dL_law_464 rfl (lk_c B.1 dL_law_465 (lk_add B.1 dL_law_466 (lk_sld B dL_law_467 (lk_aln B.1 dL_law_468 rfl (lk_iln B.1 dL_law_469 rfl (lk_c B.1 dL_law_470 (lk_add B.1 dL_law_471 (lk_sld B dL_law_472 (lk_callv (M := mX10_find) (T := TX10) (N := 9) B.1 ⟨Nat.le_of_ble_eq_true rfl, Nat.le_of_ble_eq_true rfl⟩ ⟨Nat.le_refl _, Nat.le_refl _⟩ cl_X10 (zw5 zx_573 zx_570 zx_571 zx_572 zw_49) (by decide +kernel) dL_law_473 (lk_aln B.1 dL_law_476 rfl (lk_aln B.1 dL_law_477 rfl (lk_iln B.1 dL_law_478 rfl (lk_c B.1 dL_law_479 (lk_add B.1 dL_law_480 (lk_sld B dL_law_481 (lk_aln B.1 dL_law_482 rfl (lk_iln B.1 dL_law_483 rfl (lk_c B.1 dL_law_484 (lk_add B.1 dL_law_485 (lk_sld B dL_law_486 (lk_aln B.1 dL_law_487 rfl (lk_iln B.1 dL_law_488 rfl (lk_c B.1 dL_law_489 (lk_add B.1 dL_law_490 (lk_sld B dL_law_491 (lk_callv (M := mX11_find) (T := TX11) (N := 41) B.1 ⟨Nat.le_of_ble_eq_true rfl, Nat.le_of_ble_eq_true rfl⟩ ⟨Nat.le_refl _, Nat.le_refl _⟩ cl_X11 (zw5 zx_1073 zx_1070 zx_1071 zx_1072 zw_58) (by decide +kernel) dL_law_492 (lk_same B dL_law_495 (by decide) (fun _ _ _ h => h)))))))))))))))))))))))))))))))))))
set_option maxRecDepth 100000 in
set_option maxHeartbeats 4000000 in
theorem law_500 {p : Program} {l : Launch} {e : Env} {s : State} {m : MethodId} {below : List Frame} {meth : Method} {c : Code} {E : zE} {b L : Nat} {xs : Nat → Int32} (B : zLw p s m c E b L xs) : zLk (zG p l e room_1 s m #[Value.ref b] below meth c E 4 600000 7302250 (lw_Z below #[Value.ref b] s)) 500 (o_al 1 <| o_al 0 <| o_il 3 <| o_c 1 <| o_add <| o_sl xs L <| o_al 0 <| o_il 3 <| o_c 2 <| o_add <| o_sl xs L <| o_al 0 <| o_il 3 <| o_c 3 <| o_add <| o_sl xs L <| t_zeq (o_c 0 <| o_al 0 <| o_il 3 <| o_c 4 <| o_add <| o_sl xs L <| t_zeq (o_c 0 <| o_callv (zCt 10 mX10_pin) 8 5 <| o_al 2 <| o_al 0 <| o_il 3 <| o_c 1 <| o_add <| o_sl xs L <| o_al 0 <| o_il 3 <| o_c 2 <| o_add <| o_sl xs L <| o_al 0 <| o_il 3 <| o_c 3 <| o_add <| o_sl xs L <| t_zeq (o_c 0 <| o_al 0 <| o_il 3 <| o_c 4 <| o_add <| o_sl xs L <| t_zeq (o_c 0 <| o_callv (zCt 10 mX11_pin) 9 5 <| t_same ((zG p l e room_1 s m #[Value.ref b] below meth c E 4 600000 7302250 (lw_Z below #[Value.ref b] s)) 832)) (o_c 1 <| o_callv (zCt 10 mX11_pin) 9 5 <| t_same ((zG p l e room_1 s m #[Value.ref b] below meth c E 4 600000 7302250 (lw_Z below #[Value.ref b] s)) 832))) (o_c 1 <| o_al 0 <| o_il 3 <| o_c 4 <| o_add <| o_sl xs L <| t_zeq (o_c 0 <| o_callv (zCt 10 mX11_pin) 9 5 <| t_same ((zG p l e room_1 s m #[Value.ref b] below meth c E 4 600000 7302250 (lw_Z below #[Value.ref b] s)) 832)) (o_c 1 <| o_callv (zCt 10 mX11_pin) 9 5 <| t_same ((zG p l e room_1 s m #[Value.ref b] below meth c E 4 600000 7302250 (lw_Z below #[Value.ref b] s)) 832)))) (o_c 1 <| o_callv (zCt 10 mX10_pin) 8 5 <| o_al 2 <| o_al 0 <| o_il 3 <| o_c 1 <| o_add <| o_sl xs L <| o_al 0 <| o_il 3 <| o_c 2 <| o_add <| o_sl xs L <| o_al 0 <| o_il 3 <| o_c 3 <| o_add <| o_sl xs L <| t_zeq (o_c 0 <| o_al 0 <| o_il 3 <| o_c 4 <| o_add <| o_sl xs L <| t_zeq (o_c 0 <| o_callv (zCt 10 mX11_pin) 9 5 <| t_same ((zG p l e room_1 s m #[Value.ref b] below meth c E 4 600000 7302250 (lw_Z below #[Value.ref b] s)) 832)) (o_c 1 <| o_callv (zCt 10 mX11_pin) 9 5 <| t_same ((zG p l e room_1 s m #[Value.ref b] below meth c E 4 600000 7302250 (lw_Z below #[Value.ref b] s)) 832))) (o_c 1 <| o_al 0 <| o_il 3 <| o_c 4 <| o_add <| o_sl xs L <| t_zeq (o_c 0 <| o_callv (zCt 10 mX11_pin) 9 5 <| t_same ((zG p l e room_1 s m #[Value.ref b] below meth c E 4 600000 7302250 (lw_Z below #[Value.ref b] s)) 832)) (o_c 1 <| o_callv (zCt 10 mX11_pin) 9 5 <| t_same ((zG p l e room_1 s m #[Value.ref b] below meth c E 4 600000 7302250 (lw_Z below #[Value.ref b] s)) 832))))) (o_c 1 <| o_al 0 <| o_il 3 <| o_c 4 <| o_add <| o_sl xs L <| t_zeq (o_c 0 <| o_callv (zCt 10 mX10_pin) 8 5 <| o_al 2 <| o_al 0 <| o_il 3 <| o_c 1 <| o_add <| o_sl xs L <| o_al 0 <| o_il 3 <| o_c 2 <| o_add <| o_sl xs L <| o_al 0 <| o_il 3 <| o_c 3 <| o_add <| o_sl xs L <| t_zeq (o_c 0 <| o_al 0 <| o_il 3 <| o_c 4 <| o_add <| o_sl xs L <| t_zeq (o_c 0 <| o_callv (zCt 10 mX11_pin) 9 5 <| t_same ((zG p l e room_1 s m #[Value.ref b] below meth c E 4 600000 7302250 (lw_Z below #[Value.ref b] s)) 832)) (o_c 1 <| o_callv (zCt 10 mX11_pin) 9 5 <| t_same ((zG p l e room_1 s m #[Value.ref b] below meth c E 4 600000 7302250 (lw_Z below #[Value.ref b] s)) 832))) (o_c 1 <| o_al 0 <| o_il 3 <| o_c 4 <| o_add <| o_sl xs L <| t_zeq (o_c 0 <| o_callv (zCt 10 mX11_pin) 9 5 <| t_same ((zG p l e room_1 s m #[Value.ref b] below meth c E 4 600000 7302250 (lw_Z below #[Value.ref b] s)) 832)) (o_c 1 <| o_callv (zCt 10 mX11_pin) 9 5 <| t_same ((zG p l e room_1 s m #[Value.ref b] below meth c E 4 600000 7302250 (lw_Z below #[Value.ref b] s)) 832)))) (o_c 1 <| o_callv (zCt 10 mX10_pin) 8 5 <| o_al 2 <| o_al 0 <| o_il 3 <| o_c 1 <| o_add <| o_sl xs L <| o_al 0 <| o_il 3 <| o_c 2 <| o_add <| o_sl xs L <| o_al 0 <| o_il 3 <| o_c 3 <| o_add <| o_sl xs L <| t_zeq (o_c 0 <| o_al 0 <| o_il 3 <| o_c 4 <| o_add <| o_sl xs L <| t_zeq (o_c 0 <| o_callv (zCt 10 mX11_pin) 9 5 <| t_same ((zG p l e room_1 s m #[Value.ref b] below meth c E 4 600000 7302250 (lw_Z below #[Value.ref b] s)) 832)) (o_c 1 <| o_callv (zCt 10 mX11_pin) 9 5 <| t_same ((zG p l e room_1 s m #[Value.ref b] below meth c E 4 600000 7302250 (lw_Z below #[Value.ref b] s)) 832))) (o_c 1 <| o_al 0 <| o_il 3 <| o_c 4 <| o_add <| o_sl xs L <| t_zeq (o_c 0 <| o_callv (zCt 10 mX11_pin) 9 5 <| t_same ((zG p l e room_1 s m #[Value.ref b] below meth c E 4 600000 7302250 (lw_Z below #[Value.ref b] s)) 832)) (o_c 1 <| o_callv (zCt 10 mX11_pin) 9 5 <| t_same ((zG p l e room_1 s m #[Value.ref b] below meth c E 4 600000 7302250 (lw_Z below #[Value.ref b] s)) 832)))))) := lk_aln B.1 dL_law_500 rfl (lk_aln B.1 dL_law_501 rfl (lk_iln B.1 dL_law_502 rfl (lk_c B.1 dL_law_503 (lk_add B.1 dL_law_504 (lk_sld B dL_law_505 (lk_aln B.1 dL_law_506 rfl (lk_iln B.1 dL_law_507 rfl (lk_c B.1 dL_law_508 (lk_add B.1 dL_law_509 (lk_sld B dL_law_510 (lk_aln B.1 dL_law_511 rfl (lk_iln B.1 dL_law_512 rfl (lk_c B.1 dL_law_513 (lk_add B.1 dL_law_514 (lk_sld B dL_law_515 (lk_zeq B.1 dL_law_516 (by decide) (lk_c B.1 dL_law_523 (lk_aln B.1 dL_law_524 rfl (lk_iln B.1 dL_law_525 rfl (lk_c B.1 dL_law_526 (lk_add B.1 dL_law_527 (lk_sld B dL_law_528 (lk_zeq B.1 dL_law_529 (by decide) (lk_c B.1 dL_law_536 (lk_callv (M := mX10_pin) (T := TX10) (N := 9) B.1 ⟨Nat.le_of_ble_eq_true rfl, Nat.le_of_ble_eq_true rfl⟩ ⟨Nat.le_refl _, Nat.le_refl _⟩ cl_X10 (zw5 zx_589 zx_586 zx_587 zx_588 zw_49) (by decide +kernel) dL_law_537 (lk_aln B.1 dL_law_540 rfl (lk_aln B.1 dL_law_541 rfl (lk_iln B.1 dL_law_542 rfl (lk_c B.1 dL_law_543 (lk_add B.1 dL_law_544 (lk_sld B dL_law_545 (lk_aln B.1 dL_law_546 rfl (lk_iln B.1 dL_law_547 rfl (lk_c B.1 dL_law_548 (lk_add B.1 dL_law_549 (lk_sld B dL_law_550 (lk_aln B.1 dL_law_551 rfl (lk_iln B.1 dL_law_552 rfl (lk_c B.1 dL_law_553 (lk_add B.1 dL_law_554 (lk_sld B dL_law_555 (lk_zeq B.1 dL_law_556 (by decide) (lk_c B.1 dL_law_563 (lk_aln B.1 dL_law_564 rfl (lk_iln B.1 dL_law_565 rfl (lk_c B.1 dL_law_566 (lk_add B.1 dL_law_567 (lk_sld B dL_law_568 (lk_zeq B.1 dL_law_569 (by decide) (lk_c B.1 dL_law_576 (lk_callv (M := mX11_pin) (T := TX11) (N := 41) B.1 ⟨Nat.le_of_ble_eq_true rfl, Nat.le_of_ble_eq_true rfl⟩ ⟨Nat.le_refl _, Nat.le_refl _⟩ cl_X11 (zw5 zx_1081 zx_1078 zx_1079 zx_1080 zw_58) (by decide +kernel) dL_law_577 (lk_same B dL_law_580 (by decide) (fun _ _ _ h => h)))) (lk_c B.1 dL_law_572 (lk_goto B.1 dL_law_573 (by decide) (lk_callv (M := mX11_pin) (T := TX11) (N := 41) B.1 ⟨Nat.le_of_ble_eq_true rfl, Nat.le_of_ble_eq_true rfl⟩ ⟨Nat.le_refl _, Nat.le_refl _⟩ cl_X11 (zw5 zx_1081 zx_1078 zx_1079 zx_1080 zw_58) (by decide +kernel) dL_law_577 (lk_same B dL_law_580 (by decide) (fun _ _ _ h => h)))))))))))) (lk_c B.1 dL_law_559 (lk_goto B.1 dL_law_560 (by decide) (lk_aln B.1 dL_law_564 rfl (lk_iln B.1 dL_law_565 rfl (lk_c B.1 dL_law_566 (lk_add B.1 dL_law_567 (lk_sld B dL_law_568 (lk_zeq B.1 dL_law_569 (by decide) (lk_c B.1 dL_law_576 (lk_callv (M := mX11_pin) (T := TX11) (N := 41) B.1 ⟨Nat.le_of_ble_eq_true rfl, Nat.le_of_ble_eq_true rfl⟩ ⟨Nat.le_refl _, Nat.le_refl _⟩ cl_X11 (zw5 zx_1081 zx_1078 zx_1079 zx_1080 zw_58) (by decide +kernel) dL_law_577 (lk_same B dL_law_580 (by decide) (fun _ _ _ h => h)))) (lk_c B.1 dL_law_572 (lk_goto B.1 dL_law_573 (by decide) (lk_callv (M := mX11_pin) (T := TX11) (N := 41) B.1 ⟨Nat.le_of_ble_eq_true rfl, Nat.le_of_ble_eq_true rfl⟩ ⟨Nat.le_refl _, Nat.le_refl _⟩ cl_X11 (zw5 zx_1081 zx_1078 zx_1079 zx_1080 zw_58) (by decide +kernel) dL_law_577 (lk_same B dL_law_580 (by decide) (fun _ _ _ h => h)))))))))))))))))))))))))))))))) (lk_c B.1 dL_law_532 (lk_goto B.1 dL_law_533 (by decide) (lk_callv (M := mX10_pin) (T := TX10) (N := 9) B.1 ⟨Nat.le_of_ble_eq_true rfl, Nat.le_of_ble_eq_true rfl⟩ ⟨Nat.le_refl _, Nat.le_refl _⟩ cl_X10 (zw5 zx_589 zx_586 zx_587 zx_588 zw_49) (by decide +kernel) dL_law_537 (lk_aln B.1 dL_law_540 rfl (lk_aln B.1 dL_law_541 rfl (lk_iln B.1 dL_law_542 rfl (lk_c B.1 dL_law_543 (lk_add B.1 dL_law_544 (lk_sld B dL_law_545 (lk_aln B.1 dL_law_546 rfl (lk_iln B.1 dL_law_547 rfl (lk_c B.1 dL_law_548 (lk_add B.1 dL_law_549 (lk_sld B dL_law_550 (lk_aln B.1 dL_law_551 rfl (lk_iln B.1 dL_law_552 rfl (lk_c B.1 dL_law_553 (lk_add B.1 dL_law_554 (lk_sld B dL_law_555 (lk_zeq B.1 dL_law_556 (by decide) (lk_c B.1 dL_law_563 (lk_aln B.1 dL_law_564 rfl (lk_iln B.1 dL_law_565 rfl (lk_c B.1 dL_law_566 (lk_add B.1 dL_law_567 (lk_sld B dL_law_568 (lk_zeq B.1 dL_law_569 (by decide) (lk_c B.1 dL_law_576 (lk_callv (M := mX11_pin) (T := TX11) (N := 41) B.1 ⟨Nat.le_of_ble_eq_true rfl, Nat.le_of_ble_eq_true rfl⟩ ⟨Nat.le_refl _, Nat.le_refl _⟩ cl_X11 (zw5 zx_1081 zx_1078 zx_1079 zx_1080 zw_58) (by decide +kernel) dL_law_577 (lk_same B dL_law_580 (by decide) (fun _ _ _ h => h)))) (lk_c B.1 dL_law_572 (lk_goto B.1 dL_law_573 (by decide) (lk_callv (M := mX11_pin) (T := TX11) (N := 41) B.1 ⟨Nat.le_of_ble_eq_true rfl, Nat.le_of_ble_eq_true rfl⟩ ⟨Nat.le_refl _, Nat.le_refl _⟩ cl_X11 (zw5 zx_1081 zx_1078 zx_1079 zx_1080 zw_58) (by decide +kernel) dL_law_577 (lk_same B dL_law_580 (by decide) (fun _ _ _ h => h)))))))))))) (lk_c B.1 dL_law_559 (lk_goto B.1 dL_law_560 (by decide) (lk_aln B.1 dL_law_564 rfl (lk_iln B.1 dL_law_565 rfl (lk_c B.1 dL_law_566 (lk_add B.1 dL_law_567 (lk_sld B dL_law_568 (lk_zeq B.1 dL_law_569 (by decide) (lk_c B.1 dL_law_576 (lk_callv (M := mX11_pin) (T := TX11) (N := 41) B.1 ⟨Nat.le_of_ble_eq_true rfl, Nat.le_of_ble_eq_true rfl⟩ ⟨Nat.le_refl _, Nat.le_refl _⟩ cl_X11 (zw5 zx_1081 zx_1078 zx_1079 zx_1080 zw_58) (by decide +kernel) dL_law_577 (lk_same B dL_law_580 (by decide) (fun _ _ _ h => h)))) (lk_c B.1 dL_law_572 (lk_goto B.1 dL_law_573 (by decide) (lk_callv (M := mX11_pin) (T := TX11) (N := 41) B.1 ⟨Nat.le_of_ble_eq_true rfl, Nat.le_of_ble_eq_true rfl⟩ ⟨Nat.le_refl _, Nat.le_refl _⟩ cl_X11 (zw5 zx_1081 zx_1078 zx_1079 zx_1080 zw_58) (by decide +kernel) dL_law_577 (lk_same B dL_law_580 (by decide) (fun _ _ _ h => h)))))))))))))))))))))))))))))))))))))))) (lk_c B.1 dL_law_519 (lk_goto B.1 dL_law_520 (by decide) (lk_aln B.1 dL_law_524 rfl (lk_iln B.1 dL_law_525 rfl (lk_c B.1 dL_law_526 (lk_add B.1 dL_law_527 (lk_sld B dL_law_528 (lk_zeq B.1 dL_law_529 (by decide) (lk_c B.1 dL_law_536 (lk_callv (M := mX10_pin) (T := TX10) (N := 9) B.1 ⟨Nat.le_of_ble_eq_true rfl, Nat.le_of_ble_eq_true rfl⟩ ⟨Nat.le_refl _, Nat.le_refl _⟩ cl_X10 (zw5 zx_589 zx_586 zx_587 zx_588 zw_49) (by decide +kernel) dL_law_537 (lk_aln B.1 dL_law_540 rfl (lk_aln B.1 dL_law_541 rfl (lk_iln B.1 dL_law_542 rfl (lk_c B.1 dL_law_543 (lk_add B.1 dL_law_544 (lk_sld B dL_law_545 (lk_aln B.1 dL_law_546 rfl (lk_iln B.1 dL_law_547 rfl (lk_c B.1 dL_law_548 (lk_add B.1 dL_law_549 (lk_sld B dL_law_550 (lk_aln B.1 dL_law_551 rfl (lk_iln B.1 dL_law_552 rfl (lk_c B.1 dL_law_553 (lk_add B.1 dL_law_554 (lk_sld B dL_law_555 (lk_zeq B.1 dL_law_556 (by decide) (lk_c B.1 dL_law_563 (lk_aln B.1 dL_law_564 rfl (lk_iln B.1 dL_law_565 rfl (lk_c B.1 dL_law_566 (lk_add B.1 dL_law_567 (lk_sld B dL_law_568 (lk_zeq B.1 dL_law_569 (by decide) (lk_c B.1 dL_law_576 (lk_callv (M := mX11_pin) (T := TX11) (N := 41) B.1 ⟨Nat.le_of_ble_eq_true rfl, Nat.le_of_ble_eq_true rfl⟩ ⟨Nat.le_refl _, Nat.le_refl _⟩ cl_X11 (zw5 zx_1081 zx_1078 zx_1079 zx_1080 zw_58) (by decide +kernel) dL_law_577 (lk_same B dL_law_580 (by decide) (fun _ _ _ h => h)))) (lk_c B.1 dL_law_572 (lk_goto B.1 dL_law_573 (by decide) (lk_callv (M := mX11_pin) (T := TX11) (N := 41) B.1 ⟨Nat.le_of_ble_eq_true rfl, Nat.le_of_ble_eq_true rfl⟩ ⟨Nat.le_refl _, Nat.le_refl _⟩ cl_X11 (zw5 zx_1081 zx_1078 zx_1079 zx_1080 zw_58) (by decide +kernel) dL_law_577 (lk_same B dL_law_580 (by decide) (fun _ _ _ h => h)))))))))))) (lk_c B.1 dL_law_559 (lk_goto B.1 dL_law_560 (by decide) (lk_aln B.1 dL_law_564 rfl (lk_iln B.1 dL_law_565 rfl (lk_c B.1 dL_law_566 (lk_add B.1 dL_law_567 (lk_sld B dL_law_568 (lk_zeq B.1 dL_law_569 (by decide) (lk_c B.1 dL_law_576 (lk_callv (M := mX11_pin) (T := TX11) (N := 41) B.1 ⟨Nat.le_of_ble_eq_true rfl, Nat.le_of_ble_eq_true rfl⟩ ⟨Nat.le_refl _, Nat.le_refl _⟩ cl_X11 (zw5 zx_1081 zx_1078 zx_1079 zx_1080 zw_58) (by decide +kernel) dL_law_577 (lk_same B dL_law_580 (by decide) (fun _ _ _ h => h)))) (lk_c B.1 dL_law_572 (lk_goto B.1 dL_law_573 (by decide) (lk_callv (M := mX11_pin) (T := TX11) (N := 41) B.1 ⟨Nat.le_of_ble_eq_true rfl, Nat.le_of_ble_eq_true rfl⟩ ⟨Nat.le_refl _, Nat.le_refl _⟩ cl_X11 (zw5 zx_1081 zx_1078 zx_1079 zx_1080 zw_58) (by decide +kernel) dL_law_577 (lk_same B dL_law_580 (by decide) (fun _ _ _ h => h)))))))))))))))))))))))))))))))) (lk_c B.1 dL_law_532 (lk_goto B.1 dL_law_533 (by decide) (lk_callv (M := mX10_pin) (T := TX10) (N := 9) B.1 ⟨Nat.le_of_ble_eq_true rfl, Nat.le_of_ble_eq_true rfl⟩ ⟨Nat.le_refl _, Nat.le_refl _⟩ cl_X10 (zw5 zx_589 zx_586 zx_587 zx_588 zw_49) (by decide +kernel) dL_law_537 (lk_aln B.1 dL_law_540 rfl (lk_aln B.1 dL_law_541 rfl (lk_iln B.1 dL_law_542 rfl (lk_c B.1 dL_law_543 (lk_add B.1 dL_law_544 (lk_sld B dL_law_545 (lk_aln B.1 dL_law_546 rfl (lk_iln B.1 dL_law_547 rfl (lk_c B.1 dL_law_548 (lk_add B.1 dL_law_549 (lk_sld B dL_law_550 (lk_aln B.1 dL_law_551 rfl (lk_iln B.1 dL_law_552 rfl (lk_c B.1 dL_law_553 (lk_add B.1 dL_law_554 (lk_sld B dL_law_555 (lk_zeq B.1 dL_law_556 (by decide) (lk_c B.1 dL_law_563 (lk_aln B.1 dL_law_564 rfl (lk_iln B.1 dL_law_565 rfl (lk_c B.1 dL_law_566 (lk_add B.1 dL_law_567 (lk_sld B dL_law_568 (lk_zeq B.1 dL_law_569 (by decide) (lk_c B.1 dL_law_576 (lk_callv (M := mX11_pin) (T := TX11) (N := 41) B.1 ⟨Nat.le_of_ble_eq_true rfl, Nat.le_of_ble_eq_true rfl⟩ ⟨Nat.le_refl _, Nat.le_refl _⟩ cl_X11 (zw5 zx_1081 zx_1078 zx_1079 zx_1080 zw_58) (by decide +kernel) dL_law_577 (lk_same B dL_law_580 (by decide) (fun _ _ _ h => h)))) (lk_c B.1 dL_law_572 (lk_goto B.1 dL_law_573 (by decide) (lk_callv (M := mX11_pin) (T := TX11) (N := 41) B.1 ⟨Nat.le_of_ble_eq_true rfl, Nat.le_of_ble_eq_true rfl⟩ ⟨Nat.le_refl _, Nat.le_refl _⟩ cl_X11 (zw5 zx_1081 zx_1078 zx_1079 zx_1080 zw_58) (by decide +kernel) dL_law_577 (lk_same B dL_law_580 (by decide) (fun _ _ _ h => h)))))))))))) (lk_c B.1 dL_law_559 (lk_goto B.1 dL_law_560 (by decide) (lk_aln B.1 dL_law_564 rfl (lk_iln B.1 dL_law_565 rfl (lk_c B.1 dL_law_566 (lk_add B.1 dL_law_567 (lk_sld B dL_law_568 (lk_zeq B.1 dL_law_569 (by decide) (lk_c B.1 dL_law_576 (lk_callv (M := mX11_pin) (T := TX11) (N := 41) B.1 ⟨Nat.le_of_ble_eq_true rfl, Nat.le_of_ble_eq_true rfl⟩ ⟨Nat.le_refl _, Nat.le_refl _⟩ cl_X11 (zw5 zx_1081 zx_1078 zx_1079 zx_1080 zw_58) (by decide +kernel) dL_law_577 (lk_same B dL_law_580 (by decide) (fun _ _ _ h => h)))) (lk_c B.1 dL_law_572 (lk_goto B.1 dL_law_573 (by decide) (lk_callv (M := mX11_pin) (T := TX11) (N := 41) B.1 ⟨Nat.le_of_ble_eq_true rfl, Nat.le_of_ble_eq_true rfl⟩ ⟨Nat.le_refl _, Nat.le_refl _⟩ cl_X11 (zw5 zx_1081 zx_1078 zx_1079 zx_1080 zw_58) (by decide +kernel) dL_law_577 (lk_same B dL_law_580 (by decide) (fun _ _ _ h => h)))))))))))))))))))))))))))))))))))))))))))))))))))))))))
set_option maxRecDepth 100000 in
set_option maxHeartbeats 4000000 in
theorem law_585 {p : Program} {l : Launch} {e : Env} {s : State} {m : MethodId} {below : List Frame} {meth : Method} {c : Code} {E : zE} {b L : Nat} {xs : Nat → Int32} (B : zLw p s m c E b L xs) : zLk (zG p l e room_1 s m #[Value.ref b] below meth c E 4 600000 7302250 (lw_Z below #[Value.ref b] s)) 585 (o_al 1 <| o_al 0 <| o_il 3 <| o_c 1 <| o_add <| o_sl xs L <| o_callv (zCt 10 mX10_collect) 8 2 <| o_al 2 <| o_al 0 <| o_il 3 <| o_c 1 <| o_add <| o_sl xs L <| o_callv (zCt 10 mX11_collect) 9 2 <| t_same ((zG p l e room_1 s m #[Value.ref b] below meth c E 4 600000 7302250 (lw_Z below #[Value.ref b] s)) 832)) := lk_aln B.1 dL_law_585 rfl (lk_aln B.1 dL_law_586 rfl (lk_iln B.1 dL_law_587 rfl (lk_c B.1 dL_law_588 (lk_add B.1 dL_law_589 (lk_sld B dL_law_590 (lk_callv (M := mX10_collect) (T := TX10) (N := 9) B.1 ⟨Nat.le_of_ble_eq_true rfl, Nat.le_of_ble_eq_true rfl⟩ ⟨Nat.le_refl _, Nat.le_refl _⟩ cl_X10 (zw5 zx_613 zx_610 zx_611 zx_612 zw_49) (by decide +kernel) dL_law_591 (lk_aln B.1 dL_law_594 rfl (lk_aln B.1 dL_law_595 rfl (lk_iln B.1 dL_law_596 rfl (lk_c B.1 dL_law_597 (lk_add B.1 dL_law_598 (lk_sld B dL_law_599 (lk_callv (M := mX11_collect) (T := TX11) (N := 41) B.1 ⟨Nat.le_of_ble_eq_true rfl, Nat.le_of_ble_eq_true rfl⟩ ⟨Nat.le_refl _, Nat.le_refl _⟩ cl_X11 (zw5 zx_1089 zx_1086 zx_1087 zx_1088 zw_58) (by decide +kernel) dL_law_600 (lk_same B dL_law_603 (by decide) (fun _ _ _ h => h)))))))))))))))
set_option maxRecDepth 100000 in
set_option maxHeartbeats 4000000 in
theorem law_608 {p : Program} {l : Launch} {e : Env} {s : State} {m : MethodId} {below : List Frame} {meth : Method} {c : Code} {E : zE} {b L : Nat} {xs : Nat → Int32} (B : zLw p s m c E b L xs) : zLk (zG p l e room_1 s m #[Value.ref b] below meth c E 4 600000 7302250 (lw_Z below #[Value.ref b] s)) 608 (o_al 1 <| o_al 0 <| o_il 3 <| o_c 1 <| o_add <| o_sl xs L <| o_callv (zCt 10 mX10_blocks) 8 2 <| o_al 2 <| o_al 0 <| o_il 3 <| o_c 1 <| o_add <| o_sl xs L <| o_callv (zCt 10 mX11_blocks) 9 2 <| t_same ((zG p l e room_1 s m #[Value.ref b] below meth c E 4 600000 7302250 (lw_Z below #[Value.ref b] s)) 832)) := lk_aln B.1 dL_law_608 rfl (lk_aln B.1 dL_law_609 rfl (lk_iln B.1 dL_law_610 rfl (lk_c B.1 dL_law_611 (lk_add B.1 dL_law_612 (lk_sld B dL_law_613 (lk_callv (M := mX10_blocks) (T := TX10) (N := 9) B.1 ⟨Nat.le_of_ble_eq_true rfl, Nat.le_of_ble_eq_true rfl⟩ ⟨Nat.le_refl _, Nat.le_refl _⟩ cl_X10 (zw5 zx_638 zx_635 zx_636 zx_637 zw_49) (by decide +kernel) dL_law_614 (lk_aln B.1 dL_law_617 rfl (lk_aln B.1 dL_law_618 rfl (lk_iln B.1 dL_law_619 rfl (lk_c B.1 dL_law_620 (lk_add B.1 dL_law_621 (lk_sld B dL_law_622 (lk_callv (M := mX11_blocks) (T := TX11) (N := 41) B.1 ⟨Nat.le_of_ble_eq_true rfl, Nat.le_of_ble_eq_true rfl⟩ ⟨Nat.le_refl _, Nat.le_refl _⟩ cl_X11 (zw5 zx_1093 zx_1090 zx_1091 zx_1092 zw_58) (by decide +kernel) dL_law_623 (lk_same B dL_law_626 (by decide) (fun _ _ _ h => h)))))))))))))))
set_option maxRecDepth 100000 in
set_option maxHeartbeats 4000000 in
theorem law_631 {p : Program} {l : Launch} {e : Env} {s : State} {m : MethodId} {below : List Frame} {meth : Method} {c : Code} {E : zE} {b L : Nat} {xs : Nat → Int32} (B : zLw p s m c E b L xs) : zLk (zG p l e room_1 s m #[Value.ref b] below meth c E 4 600000 7302250 (lw_Z below #[Value.ref b] s)) 631 (o_al 1 <| o_al 0 <| o_il 3 <| o_c 1 <| o_add <| o_sl xs L <| o_al 0 <| o_il 3 <| o_c 2 <| o_add <| o_sl xs L <| o_al 0 <| o_il 3 <| o_c 3 <| o_add <| o_sl xs L <| o_callv (zCt 10 mX10_fetch) 8 4 <| o_al 2 <| o_al 0 <| o_il 3 <| o_c 1 <| o_add <| o_sl xs L <| o_al 0 <| o_il 3 <| o_c 2 <| o_add <| o_sl xs L <| o_al 0 <| o_il 3 <| o_c 3 <| o_add <| o_sl xs L <| o_callv (zCt 10 mX11_fetch) 9 4 <| t_same ((zG p l e room_1 s m #[Value.ref b] below meth c E 4 600000 7302250 (lw_Z below #[Value.ref b] s)) 832)) := lk_aln B.1 dL_law_631 rfl (lk_aln B.1 dL_law_632 rfl (lk_iln B.1 dL_law_633 rfl (lk_c B.1 dL_law_634 (lk_add B.1 dL_law_635 (lk_sld B dL_law_636 (lk_aln B.1 dL_law_637 rfl (lk_iln B.1 dL_law_638 rfl (lk_c B.1 dL_law_639 (lk_add B.1 dL_law_640 (lk_sld B dL_law_641 (lk_aln B.1 dL_law_642 rfl (lk_iln B.1 dL_law_643 rfl (lk_c B.1 dL_law_644 (lk_add B.1 dL_law_645 (lk_sld B dL_law_646 (lk_callv (M := mX10_fetch) (T := TX10) (N := 9) B.1 ⟨Nat.le_of_ble_eq_true rfl, Nat.le_of_ble_eq_true rfl⟩ ⟨Nat.le_refl _, Nat.le_refl _⟩ cl_X10 (zw5 zx_643 zx_640 zx_641 zx_642 zw_49) (by decide +kernel) dL_law_647 (lk_aln B.1 dL_law_650 rfl (lk_aln B.1 dL_law_651 rfl (lk_iln B.1 dL_law_652 rfl (lk_c B.1 dL_law_653 (lk_add B.1 dL_law_654 (lk_sld B dL_law_655 (lk_aln B.1 dL_law_656 rfl (lk_iln B.1 dL_law_657 rfl (lk_c B.1 dL_law_658 (lk_add B.1 dL_law_659 (lk_sld B dL_law_660 (lk_aln B.1 dL_law_661 rfl (lk_iln B.1 dL_law_662 rfl (lk_c B.1 dL_law_663 (lk_add B.1 dL_law_664 (lk_sld B dL_law_665 (lk_callv (M := mX11_fetch) (T := TX11) (N := 41) B.1 ⟨Nat.le_of_ble_eq_true rfl, Nat.le_of_ble_eq_true rfl⟩ ⟨Nat.le_refl _, Nat.le_refl _⟩ cl_X11 (zw5 zx_1097 zx_1094 zx_1095 zx_1096 zw_58) (by decide +kernel) dL_law_666 (lk_same B dL_law_669 (by decide) (fun _ _ _ h => h)))))))))))))))))))))))))))))))))))
set_option maxRecDepth 100000 in
set_option maxHeartbeats 4000000 in
theorem law_674 {p : Program} {l : Launch} {e : Env} {s : State} {m : MethodId} {below : List Frame} {meth : Method} {c : Code} {E : zE} {b L : Nat} {xs : Nat → Int32} (B : zLw p s m c E b L xs) : zLk (zG p l e room_1 s m #[Value.ref b] below meth c E 4 600000 7302250 (lw_Z below #[Value.ref b] s)) 674 (o_al 1 <| o_al 0 <| o_il 3 <| o_c 1 <| o_add <| o_sl xs L <| o_callv (zCt 10 mX10_retry) 8 2 <| o_al 2 <| o_al 0 <| o_il 3 <| o_c 1 <| o_add <| o_sl xs L <| o_callv (zCt 10 mX11_retry) 9 2 <| t_same ((zG p l e room_1 s m #[Value.ref b] below meth c E 4 600000 7302250 (lw_Z below #[Value.ref b] s)) 832)) := lk_aln B.1 dL_law_674 rfl (lk_aln B.1 dL_law_675 rfl (lk_iln B.1 dL_law_676 rfl (lk_c B.1 dL_law_677 (lk_add B.1 dL_law_678 (lk_sld B dL_law_679 (lk_callv (M := mX10_retry) (T := TX10) (N := 9) B.1 ⟨Nat.le_of_ble_eq_true rfl, Nat.le_of_ble_eq_true rfl⟩ ⟨Nat.le_refl _, Nat.le_refl _⟩ cl_X10 (zw5 zx_678 zx_675 zx_676 zx_677 zw_49) (by decide +kernel) dL_law_680 (lk_aln B.1 dL_law_683 rfl (lk_aln B.1 dL_law_684 rfl (lk_iln B.1 dL_law_685 rfl (lk_c B.1 dL_law_686 (lk_add B.1 dL_law_687 (lk_sld B dL_law_688 (lk_callv (M := mX11_retry) (T := TX11) (N := 41) B.1 ⟨Nat.le_of_ble_eq_true rfl, Nat.le_of_ble_eq_true rfl⟩ ⟨Nat.le_refl _, Nat.le_refl _⟩ cl_X11 (zw5 zx_1109 zx_1106 zx_1107 zx_1108 zw_58) (by decide +kernel) dL_law_689 (lk_same B dL_law_692 (by decide) (fun _ _ _ h => h)))))))))))))))
set_option maxRecDepth 100000 in
set_option maxHeartbeats 4000000 in
theorem law_697 {p : Program} {l : Launch} {e : Env} {s : State} {m : MethodId} {below : List Frame} {meth : Method} {c : Code} {E : zE} {b L : Nat} {xs : Nat → Int32} (B : zLw p s m c E b L xs) : zLk (zG p l e room_1 s m #[Value.ref b] below meth c E 4 600000 7302250 (lw_Z below #[Value.ref b] s)) 697 (o_al 1 <| o_al 0 <| o_il 3 <| o_c 1 <| o_add <| o_sl xs L <| o_callv (zCt 10 mX10_deliver) 8 2 <| o_al 2 <| o_al 0 <| o_il 3 <| o_c 1 <| o_add <| o_sl xs L <| o_callv (zCt 10 mX11_deliver) 9 2 <| t_same ((zG p l e room_1 s m #[Value.ref b] below meth c E 4 600000 7302250 (lw_Z below #[Value.ref b] s)) 832)) := lk_aln B.1 dL_law_697 rfl (lk_aln B.1 dL_law_698 rfl (lk_iln B.1 dL_law_699 rfl (lk_c B.1 dL_law_700 (lk_add B.1 dL_law_701 (lk_sld B dL_law_702 (lk_callv (M := mX10_deliver) (T := TX10) (N := 9) B.1 ⟨Nat.le_of_ble_eq_true rfl, Nat.le_of_ble_eq_true rfl⟩ ⟨Nat.le_refl _, Nat.le_refl _⟩ cl_X10 (zw5 zx_682 zx_679 zx_680 zx_681 zw_49) (by decide +kernel) dL_law_703 (lk_aln B.1 dL_law_706 rfl (lk_aln B.1 dL_law_707 rfl (lk_iln B.1 dL_law_708 rfl (lk_c B.1 dL_law_709 (lk_add B.1 dL_law_710 (lk_sld B dL_law_711 (lk_callv (M := mX11_deliver) (T := TX11) (N := 41) B.1 ⟨Nat.le_of_ble_eq_true rfl, Nat.le_of_ble_eq_true rfl⟩ ⟨Nat.le_refl _, Nat.le_refl _⟩ cl_X11 (zw5 zx_1113 zx_1110 zx_1111 zx_1112 zw_58) (by decide +kernel) dL_law_712 (lk_same B dL_law_715 (by decide) (fun _ _ _ h => h)))))))))))))))
set_option maxRecDepth 100000 in
set_option maxHeartbeats 4000000 in
theorem law_720 {p : Program} {l : Launch} {e : Env} {s : State} {m : MethodId} {below : List Frame} {meth : Method} {c : Code} {E : zE} {b L : Nat} {xs : Nat → Int32} (B : zLw p s m c E b L xs) : zLk (zG p l e room_1 s m #[Value.ref b] below meth c E 4 600000 7302250 (lw_Z below #[Value.ref b] s)) 720 (o_al 1 <| o_al 0 <| o_il 3 <| o_c 1 <| o_add <| o_sl xs L <| o_al 0 <| o_il 3 <| o_c 2 <| o_add <| o_sl xs L <| o_al 0 <| o_il 3 <| o_c 3 <| o_add <| o_sl xs L <| o_callv (zCt 10 mX10_harm) 8 4 <| o_al 2 <| o_al 0 <| o_il 3 <| o_c 1 <| o_add <| o_sl xs L <| o_al 0 <| o_il 3 <| o_c 2 <| o_add <| o_sl xs L <| o_al 0 <| o_il 3 <| o_c 3 <| o_add <| o_sl xs L <| o_callv (zCt 10 mX11_harm) 9 4 <| t_same ((zG p l e room_1 s m #[Value.ref b] below meth c E 4 600000 7302250 (lw_Z below #[Value.ref b] s)) 832)) := lk_aln B.1 dL_law_720 rfl (lk_aln B.1 dL_law_721 rfl (lk_iln B.1 dL_law_722 rfl (lk_c B.1 dL_law_723 (lk_add B.1 dL_law_724 (lk_sld B dL_law_725 (lk_aln B.1 dL_law_726 rfl (lk_iln B.1 dL_law_727 rfl (lk_c B.1 dL_law_728 (lk_add B.1 dL_law_729 (lk_sld B dL_law_730 (lk_aln B.1 dL_law_731 rfl (lk_iln B.1 dL_law_732 rfl (lk_c B.1 dL_law_733 (lk_add B.1 dL_law_734 (lk_sld B dL_law_735 (lk_callv (M := mX10_harm) (T := TX10) (N := 9) B.1 ⟨Nat.le_of_ble_eq_true rfl, Nat.le_of_ble_eq_true rfl⟩ ⟨Nat.le_refl _, Nat.le_refl _⟩ cl_X10 (zw5 zx_750 zx_747 zx_748 zx_749 zw_49) (by decide +kernel) dL_law_736 (lk_aln B.1 dL_law_739 rfl (lk_aln B.1 dL_law_740 rfl (lk_iln B.1 dL_law_741 rfl (lk_c B.1 dL_law_742 (lk_add B.1 dL_law_743 (lk_sld B dL_law_744 (lk_aln B.1 dL_law_745 rfl (lk_iln B.1 dL_law_746 rfl (lk_c B.1 dL_law_747 (lk_add B.1 dL_law_748 (lk_sld B dL_law_749 (lk_aln B.1 dL_law_750 rfl (lk_iln B.1 dL_law_751 rfl (lk_c B.1 dL_law_752 (lk_add B.1 dL_law_753 (lk_sld B dL_law_754 (lk_callv (M := mX11_harm) (T := TX11) (N := 41) B.1 ⟨Nat.le_of_ble_eq_true rfl, Nat.le_of_ble_eq_true rfl⟩ ⟨Nat.le_refl _, Nat.le_refl _⟩ cl_X11 (zw5 zx_1133 zx_1130 zx_1131 zx_1132 zw_58) (by decide +kernel) dL_law_755 (lk_same B dL_law_758 (by decide) (fun _ _ _ h => h)))))))))))))))))))))))))))))))))))
set_option maxRecDepth 100000 in
set_option maxHeartbeats 4000000 in
theorem law_763 {p : Program} {l : Launch} {e : Env} {s : State} {m : MethodId} {below : List Frame} {meth : Method} {c : Code} {E : zE} {b L : Nat} {xs : Nat → Int32} (B : zLw p s m c E b L xs) : zLk (zG p l e room_1 s m #[Value.ref b] below meth c E 4 600000 7302250 (lw_Z below #[Value.ref b] s)) 763 (o_al 1 <| o_al 0 <| o_il 3 <| o_c 1 <| o_add <| o_sl xs L <| o_al 0 <| o_il 3 <| o_c 2 <| o_add <| o_sl xs L <| o_callv (zCt 10 mX10_message) 8 3 <| o_al 2 <| o_al 0 <| o_il 3 <| o_c 1 <| o_add <| o_sl xs L <| o_al 0 <| o_il 3 <| o_c 2 <| o_add <| o_sl xs L <| o_callv (zCt 10 mX11_message) 9 3 <| t_same ((zG p l e room_1 s m #[Value.ref b] below meth c E 4 600000 7302250 (lw_Z below #[Value.ref b] s)) 832)) := lk_aln B.1 dL_law_763 rfl (lk_aln B.1 dL_law_764 rfl (lk_iln B.1 dL_law_765 rfl (lk_c B.1 dL_law_766 (lk_add B.1 dL_law_767 (lk_sld B dL_law_768 (lk_aln B.1 dL_law_769 rfl (lk_iln B.1 dL_law_770 rfl (lk_c B.1 dL_law_771 (lk_add B.1 dL_law_772 (lk_sld B dL_law_773 (lk_callv (M := mX10_message) (T := TX10) (N := 9) B.1 ⟨Nat.le_of_ble_eq_true rfl, Nat.le_of_ble_eq_true rfl⟩ ⟨Nat.le_refl _, Nat.le_refl _⟩ cl_X10 (zw5 zx_765 zx_762 zx_763 zx_764 zw_49) (by decide +kernel) dL_law_774 (lk_aln B.1 dL_law_777 rfl (lk_aln B.1 dL_law_778 rfl (lk_iln B.1 dL_law_779 rfl (lk_c B.1 dL_law_780 (lk_add B.1 dL_law_781 (lk_sld B dL_law_782 (lk_aln B.1 dL_law_783 rfl (lk_iln B.1 dL_law_784 rfl (lk_c B.1 dL_law_785 (lk_add B.1 dL_law_786 (lk_sld B dL_law_787 (lk_callv (M := mX11_message) (T := TX11) (N := 41) B.1 ⟨Nat.le_of_ble_eq_true rfl, Nat.le_of_ble_eq_true rfl⟩ ⟨Nat.le_refl _, Nat.le_refl _⟩ cl_X11 (zw5 zx_1137 zx_1134 zx_1135 zx_1136 zw_58) (by decide +kernel) dL_law_788 (lk_same B dL_law_791 (by decide) (fun _ _ _ h => h)))))))))))))))))))))))))
set_option maxRecDepth 100000 in
set_option maxHeartbeats 4000000 in
theorem law_796 {p : Program} {l : Launch} {e : Env} {s : State} {m : MethodId} {below : List Frame} {meth : Method} {c : Code} {E : zE} {b L : Nat} {xs : Nat → Int32} (B : zLw p s m c E b L xs) : zLk (zG p l e room_1 s m #[Value.ref b] below meth c E 4 600000 7302250 (lw_Z below #[Value.ref b] s)) 796 (o_al 1 <| o_callv (zCt 10 mX10_waiting) 8 1 <| o_al 2 <| o_callv (zCt 10 mX11_waiting) 9 1 <| t_same ((zG p l e room_1 s m #[Value.ref b] below meth c E 4 600000 7302250 (lw_Z below #[Value.ref b] s)) 832)) := lk_aln B.1 dL_law_796 rfl (lk_callv (M := mX10_waiting) (T := TX10) (N := 9) B.1 ⟨Nat.le_of_ble_eq_true rfl, Nat.le_of_ble_eq_true rfl⟩ ⟨Nat.le_refl _, Nat.le_refl _⟩ cl_X10 (zw5 zx_769 zx_766 zx_767 zx_768 zw_49) (by decide +kernel) dL_law_797 (lk_aln B.1 dL_law_800 rfl (lk_callv (M := mX11_waiting) (T := TX11) (N := 41) B.1 ⟨Nat.le_of_ble_eq_true rfl, Nat.le_of_ble_eq_true rfl⟩ ⟨Nat.le_refl _, Nat.le_refl _⟩ cl_X11 (zw5 zx_1141 zx_1138 zx_1139 zx_1140 zw_58) (by decide +kernel) dL_law_801 (lk_same B dL_law_804 (by decide) (fun _ _ _ h => h)))))
set_option maxRecDepth 100000 in
set_option maxHeartbeats 4000000 in
theorem law_809 {p : Program} {l : Launch} {e : Env} {s : State} {m : MethodId} {below : List Frame} {meth : Method} {c : Code} {E : zE} {b L : Nat} {xs : Nat → Int32} (B : zLw p s m c E b L xs) : zLk (zG p l e room_1 s m #[Value.ref b] below meth c E 4 600000 7302250 (lw_Z below #[Value.ref b] s)) 809 (o_al 1 <| o_al 0 <| o_il 3 <| o_c 1 <| o_add <| o_sl xs L <| o_callv (zCt 10 mX10_state) 8 2 <| o_al 2 <| o_al 0 <| o_il 3 <| o_c 1 <| o_add <| o_sl xs L <| o_callv (zCt 10 mX11_state) 9 2 <| t_same ((zG p l e room_1 s m #[Value.ref b] below meth c E 4 600000 7302250 (lw_Z below #[Value.ref b] s)) 832)) := lk_aln B.1 dL_law_809 rfl (lk_aln B.1 dL_law_810 rfl (lk_iln B.1 dL_law_811 rfl (lk_c B.1 dL_law_812 (lk_add B.1 dL_law_813 (lk_sld B dL_law_814 (lk_callv (M := mX10_state) (T := TX10) (N := 9) B.1 ⟨Nat.le_of_ble_eq_true rfl, Nat.le_of_ble_eq_true rfl⟩ ⟨Nat.le_refl _, Nat.le_refl _⟩ cl_X10 (zw5 zx_777 zx_774 zx_775 zx_776 zw_49) (by decide +kernel) dL_law_815 (lk_aln B.1 dL_law_818 rfl (lk_aln B.1 dL_law_819 rfl (lk_iln B.1 dL_law_820 rfl (lk_c B.1 dL_law_821 (lk_add B.1 dL_law_822 (lk_sld B dL_law_823 (lk_callv (M := mX11_state) (T := TX11) (N := 41) B.1 ⟨Nat.le_of_ble_eq_true rfl, Nat.le_of_ble_eq_true rfl⟩ ⟨Nat.le_refl _, Nat.le_refl _⟩ cl_X11 (zw5 zx_1145 zx_1142 zx_1143 zx_1144 zw_58) (by decide +kernel) dL_law_824 (lk_same B dL_law_827 (by decide) (fun _ _ _ h => h)))))))))))))))
