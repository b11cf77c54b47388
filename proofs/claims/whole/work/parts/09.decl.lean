theorem d_law_0 : decode code 0 = .ok (.new 7, 3) := by decide +kernel
theorem d_law_3 : decode code 3 = .ok (.dup, 1) := by decide +kernel
theorem d_law_4 : decode code 4 = .ok (.invokespecial 9, 3) := by decide +kernel
theorem d_law_7 : decode code 7 = .ok (.astore_n 1, 1) := by decide +kernel
theorem d_law_8 : decode code 8 = .ok (.new 10, 3) := by decide +kernel
theorem d_law_11 : decode code 11 = .ok (.dup, 1) := by decide +kernel
theorem d_law_12 : decode code 12 = .ok (.invokespecial 12, 3) := by decide +kernel
theorem d_law_15 : decode code 15 = .ok (.astore_n 2, 1) := by decide +kernel
theorem d_law_16 : decode code 16 = .ok (.iconst 0, 1) := by decide +kernel
theorem d_law_17 : decode code 17 = .ok (.istore_n 3, 1) := by decide +kernel
theorem d_law_18 : decode code 18 = .ok (.iload_n 3, 1) := by decide +kernel
theorem d_law_19 : decode code 19 = .ok (.aload_n 0, 1) := by decide +kernel
theorem d_law_20 : decode code 20 = .ok (.arraylength, 1) := by decide +kernel
theorem d_law_21 : decode code 21 = .ok (.bipush 7, 2) := by decide +kernel
theorem d_law_23 : decode code 23 = .ok (.isub, 1) := by decide +kernel
theorem d_law_24 : decode code 24 = .ok (.if_icmp .gt 1079, 3) := by decide +kernel
theorem d_law_27 : decode code 27 = .ok (.aload_n 0, 1) := by decide +kernel
theorem d_law_28 : decode code 28 = .ok (.iload_n 3, 1) := by decide +kernel
theorem d_law_29 : decode code 29 = .ok (.iaload, 1) := by decide +kernel
theorem d_law_30 : decode code 30 = .ok (.bipush 31, 2) := by decide +kernel
theorem d_law_32 : decode code 32 = .ok (.iand, 1) := by decide +kernel
theorem d_law_33 : decode code 33 = .ok (.tableswitch 1064 0 19 #[95, 108, 223, 256, 359, 454, 517, 590, 603, 647, 691, 714, 737, 750, 834, 878, 932, 995, 1018, 1041], 95) := by decide +kernel
theorem d_law_128 : decode code 128 = .ok (.aload_n 1, 1) := by decide +kernel
theorem d_law_129 : decode code 129 = .ok (.invokevirtual 13, 3) := by decide +kernel
theorem d_law_132 : decode code 132 = .ok (.aload_n 2, 1) := by decide +kernel
theorem d_law_133 : decode code 133 = .ok (.invokevirtual 17, 3) := by decide +kernel
theorem d_law_136 : decode code 136 = .ok (.if_icmp .eq 961, 3) := by decide +kernel
theorem d_law_139 : decode code 139 = .ok (.iconst 0, 1) := by decide +kernel
theorem d_law_140 : decode code 140 = .ok (.ireturn, 1) := by decide +kernel
theorem d_law_141 : decode code 141 = .ok (.aload_n 1, 1) := by decide +kernel
theorem d_law_142 : decode code 142 = .ok (.aload_n 0, 1) := by decide +kernel
theorem d_law_143 : decode code 143 = .ok (.iload_n 3, 1) := by decide +kernel
theorem d_law_144 : decode code 144 = .ok (.iconst 1, 1) := by decide +kernel
theorem d_law_145 : decode code 145 = .ok (.iadd, 1) := by decide +kernel
theorem d_law_146 : decode code 146 = .ok (.iaload, 1) := by decide +kernel
theorem d_law_147 : decode code 147 = .ok (.aload_n 0, 1) := by decide +kernel
theorem d_law_148 : decode code 148 = .ok (.iload_n 3, 1) := by decide +kernel
theorem d_law_149 : decode code 149 = .ok (.iconst 2, 1) := by decide +kernel
theorem d_law_150 : decode code 150 = .ok (.iadd, 1) := by decide +kernel
theorem d_law_151 : decode code 151 = .ok (.iaload, 1) := by decide +kernel
theorem d_law_152 : decode code 152 = .ok (.aload_n 0, 1) := by decide +kernel
theorem d_law_153 : decode code 153 = .ok (.iload_n 3, 1) := by decide +kernel
theorem d_law_154 : decode code 154 = .ok (.iconst 3, 1) := by decide +kernel
theorem d_law_155 : decode code 155 = .ok (.iadd, 1) := by decide +kernel
theorem d_law_156 : decode code 156 = .ok (.iaload, 1) := by decide +kernel
theorem d_law_157 : decode code 157 = .ok (.i2l, 1) := by decide +kernel
theorem d_law_158 : decode code 158 = .ok (.bipush 32, 2) := by decide +kernel
theorem d_law_160 : decode code 160 = .ok (.lshl, 1) := by decide +kernel
theorem d_law_161 : decode code 161 = .ok (.aload_n 0, 1) := by decide +kernel
theorem d_law_162 : decode code 162 = .ok (.iload_n 3, 1) := by decide +kernel
theorem d_law_163 : decode code 163 = .ok (.iconst 4, 1) := by decide +kernel
theorem d_law_164 : decode code 164 = .ok (.iadd, 1) := by decide +kernel
theorem d_law_165 : decode code 165 = .ok (.iaload, 1) := by decide +kernel
theorem d_law_166 : decode code 166 = .ok (.i2l, 1) := by decide +kernel
theorem d_law_167 : decode code 167 = .ok (.ldc2_w 18, 3) := by decide +kernel
theorem d_law_170 : decode code 170 = .ok (.land, 1) := by decide +kernel
theorem d_law_171 : decode code 171 = .ok (.lor, 1) := by decide +kernel
theorem d_law_172 : decode code 172 = .ok (.aload_n 0, 1) := by decide +kernel
theorem d_law_173 : decode code 173 = .ok (.iload_n 3, 1) := by decide +kernel
theorem d_law_174 : decode code 174 = .ok (.iconst 5, 1) := by decide +kernel
theorem d_law_175 : decode code 175 = .ok (.iadd, 1) := by decide +kernel
theorem d_law_176 : decode code 176 = .ok (.iaload, 1) := by decide +kernel
theorem d_law_177 : decode code 177 = .ok (.i2l, 1) := by decide +kernel
theorem d_law_178 : decode code 178 = .ok (.bipush 32, 2) := by decide +kernel
theorem d_law_180 : decode code 180 = .ok (.lshl, 1) := by decide +kernel
theorem d_law_181 : decode code 181 = .ok (.aload_n 0, 1) := by decide +kernel
theorem d_law_182 : decode code 182 = .ok (.iload_n 3, 1) := by decide +kernel
theorem d_law_183 : decode code 183 = .ok (.bipush 6, 2) := by decide +kernel
theorem d_law_185 : decode code 185 = .ok (.iadd, 1) := by decide +kernel
theorem d_law_186 : decode code 186 = .ok (.iaload, 1) := by decide +kernel
theorem d_law_187 : decode code 187 = .ok (.i2l, 1) := by decide +kernel
theorem d_law_188 : decode code 188 = .ok (.ldc2_w 18, 3) := by decide +kernel
theorem d_law_191 : decode code 191 = .ok (.land, 1) := by decide +kernel
theorem d_law_192 : decode code 192 = .ok (.lor, 1) := by decide +kernel
theorem d_law_193 : decode code 193 = .ok (.invokevirtual 20, 3) := by decide +kernel
theorem d_law_196 : decode code 196 = .ok (.aload_n 2, 1) := by decide +kernel
theorem d_law_197 : decode code 197 = .ok (.aload_n 0, 1) := by decide +kernel
theorem d_law_198 : decode code 198 = .ok (.iload_n 3, 1) := by decide +kernel
theorem d_law_199 : decode code 199 = .ok (.iconst 1, 1) := by decide +kernel
theorem d_law_200 : decode code 200 = .ok (.iadd, 1) := by decide +kernel
theorem d_law_201 : decode code 201 = .ok (.iaload, 1) := by decide +kernel
theorem d_law_202 : decode code 202 = .ok (.aload_n 0, 1) := by decide +kernel
theorem d_law_203 : decode code 203 = .ok (.iload_n 3, 1) := by decide +kernel
theorem d_law_204 : decode code 204 = .ok (.iconst 2, 1) := by decide +kernel
theorem d_law_205 : decode code 205 = .ok (.iadd, 1) := by decide +kernel
theorem d_law_206 : decode code 206 = .ok (.iaload, 1) := by decide +kernel
theorem d_law_207 : decode code 207 = .ok (.aload_n 0, 1) := by decide +kernel
theorem d_law_208 : decode code 208 = .ok (.iload_n 3, 1) := by decide +kernel
theorem d_law_209 : decode code 209 = .ok (.iconst 3, 1) := by decide +kernel
theorem d_law_210 : decode code 210 = .ok (.iadd, 1) := by decide +kernel
theorem d_law_211 : decode code 211 = .ok (.iaload, 1) := by decide +kernel
theorem d_law_212 : decode code 212 = .ok (.i2l, 1) := by decide +kernel
theorem d_law_213 : decode code 213 = .ok (.bipush 32, 2) := by decide +kernel
theorem d_law_215 : decode code 215 = .ok (.lshl, 1) := by decide +kernel
theorem d_law_216 : decode code 216 = .ok (.aload_n 0, 1) := by decide +kernel
theorem d_law_217 : decode code 217 = .ok (.iload_n 3, 1) := by decide +kernel
theorem d_law_218 : decode code 218 = .ok (.iconst 4, 1) := by decide +kernel
theorem d_law_219 : decode code 219 = .ok (.iadd, 1) := by decide +kernel
theorem d_law_220 : decode code 220 = .ok (.iaload, 1) := by decide +kernel
theorem d_law_221 : decode code 221 = .ok (.i2l, 1) := by decide +kernel
theorem d_law_222 : decode code 222 = .ok (.ldc2_w 18, 3) := by decide +kernel
theorem d_law_225 : decode code 225 = .ok (.land, 1) := by decide +kernel
theorem d_law_226 : decode code 226 = .ok (.lor, 1) := by decide +kernel
theorem d_law_227 : decode code 227 = .ok (.aload_n 0, 1) := by decide +kernel
theorem d_law_228 : decode code 228 = .ok (.iload_n 3, 1) := by decide +kernel
theorem d_law_229 : decode code 229 = .ok (.iconst 5, 1) := by decide +kernel
theorem d_law_230 : decode code 230 = .ok (.iadd, 1) := by decide +kernel
theorem d_law_231 : decode code 231 = .ok (.iaload, 1) := by decide +kernel
theorem d_law_232 : decode code 232 = .ok (.i2l, 1) := by decide +kernel
theorem d_law_233 : decode code 233 = .ok (.bipush 32, 2) := by decide +kernel
theorem d_law_235 : decode code 235 = .ok (.lshl, 1) := by decide +kernel
theorem d_law_236 : decode code 236 = .ok (.aload_n 0, 1) := by decide +kernel
theorem d_law_237 : decode code 237 = .ok (.iload_n 3, 1) := by decide +kernel
theorem d_law_238 : decode code 238 = .ok (.bipush 6, 2) := by decide +kernel
theorem d_law_240 : decode code 240 = .ok (.iadd, 1) := by decide +kernel
theorem d_law_241 : decode code 241 = .ok (.iaload, 1) := by decide +kernel
theorem d_law_242 : decode code 242 = .ok (.i2l, 1) := by decide +kernel
theorem d_law_243 : decode code 243 = .ok (.ldc2_w 18, 3) := by decide +kernel
theorem d_law_246 : decode code 246 = .ok (.land, 1) := by decide +kernel
theorem d_law_247 : decode code 247 = .ok (.lor, 1) := by decide +kernel
theorem d_law_248 : decode code 248 = .ok (.invokevirtual 24, 3) := by decide +kernel
theorem d_law_251 : decode code 251 = .ok (.if_icmp .eq 846, 3) := by decide +kernel
theorem d_law_254 : decode code 254 = .ok (.iconst 0, 1) := by decide +kernel
theorem d_law_255 : decode code 255 = .ok (.ireturn, 1) := by decide +kernel
theorem d_law_256 : decode code 256 = .ok (.aload_n 1, 1) := by decide +kernel
theorem d_law_257 : decode code 257 = .ok (.aload_n 0, 1) := by decide +kernel
theorem d_law_258 : decode code 258 = .ok (.iload_n 3, 1) := by decide +kernel
theorem d_law_259 : decode code 259 = .ok (.iconst 1, 1) := by decide +kernel
theorem d_law_260 : decode code 260 = .ok (.iadd, 1) := by decide +kernel
theorem d_law_261 : decode code 261 = .ok (.iaload, 1) := by decide +kernel
theorem d_law_262 : decode code 262 = .ok (.aload_n 0, 1) := by decide +kernel
theorem d_law_263 : decode code 263 = .ok (.iload_n 3, 1) := by decide +kernel
theorem d_law_264 : decode code 264 = .ok (.iconst 2, 1) := by decide +kernel
theorem d_law_265 : decode code 265 = .ok (.iadd, 1) := by decide +kernel
theorem d_law_266 : decode code 266 = .ok (.iaload, 1) := by decide +kernel
theorem d_law_267 : decode code 267 = .ok (.invokevirtual 25, 3) := by decide +kernel
theorem d_law_270 : decode code 270 = .ok (.aload_n 2, 1) := by decide +kernel
theorem d_law_271 : decode code 271 = .ok (.aload_n 0, 1) := by decide +kernel
theorem d_law_272 : decode code 272 = .ok (.iload_n 3, 1) := by decide +kernel
theorem d_law_273 : decode code 273 = .ok (.iconst 1, 1) := by decide +kernel
theorem d_law_274 : decode code 274 = .ok (.iadd, 1) := by decide +kernel
theorem d_law_275 : decode code 275 = .ok (.iaload, 1) := by decide +kernel
theorem d_law_276 : decode code 276 = .ok (.aload_n 0, 1) := by decide +kernel
theorem d_law_277 : decode code 277 = .ok (.iload_n 3, 1) := by decide +kernel
theorem d_law_278 : decode code 278 = .ok (.iconst 2, 1) := by decide +kernel
theorem d_law_279 : decode code 279 = .ok (.iadd, 1) := by decide +kernel
theorem d_law_280 : decode code 280 = .ok (.iaload, 1) := by decide +kernel
theorem d_law_281 : decode code 281 = .ok (.invokevirtual 29, 3) := by decide +kernel
theorem d_law_284 : decode code 284 = .ok (.if_icmp .eq 813, 3) := by decide +kernel
theorem d_law_287 : decode code 287 = .ok (.iconst 0, 1) := by decide +kernel
theorem d_law_288 : decode code 288 = .ok (.ireturn, 1) := by decide +kernel
theorem d_law_289 : decode code 289 = .ok (.aload_n 1, 1) := by decide +kernel
theorem d_law_290 : decode code 290 = .ok (.aload_n 0, 1) := by decide +kernel
theorem d_law_291 : decode code 291 = .ok (.iload_n 3, 1) := by decide +kernel
theorem d_law_292 : decode code 292 = .ok (.iconst 1, 1) := by decide +kernel
theorem d_law_293 : decode code 293 = .ok (.iadd, 1) := by decide +kernel
theorem d_law_294 : decode code 294 = .ok (.iaload, 1) := by decide +kernel
theorem d_law_295 : decode code 295 = .ok (.aload_n 0, 1) := by decide +kernel
theorem d_law_296 : decode code 296 = .ok (.iload_n 3, 1) := by decide +kernel
theorem d_law_297 : decode code 297 = .ok (.iconst 2, 1) := by decide +kernel
theorem d_law_298 : decode code 298 = .ok (.iadd, 1) := by decide +kernel
theorem d_law_299 : decode code 299 = .ok (.iaload, 1) := by decide +kernel
theorem d_law_300 : decode code 300 = .ok (.i2l, 1) := by decide +kernel
theorem d_law_301 : decode code 301 = .ok (.bipush 32, 2) := by decide +kernel
theorem d_law_303 : decode code 303 = .ok (.lshl, 1) := by decide +kernel
theorem d_law_304 : decode code 304 = .ok (.aload_n 0, 1) := by decide +kernel
theorem d_law_305 : decode code 305 = .ok (.iload_n 3, 1) := by decide +kernel
theorem d_law_306 : decode code 306 = .ok (.iconst 3, 1) := by decide +kernel
theorem d_law_307 : decode code 307 = .ok (.iadd, 1) := by decide +kernel
theorem d_law_308 : decode code 308 = .ok (.iaload, 1) := by decide +kernel
theorem d_law_309 : decode code 309 = .ok (.i2l, 1) := by decide +kernel
theorem d_law_310 : decode code 310 = .ok (.ldc2_w 18, 3) := by decide +kernel
theorem d_law_313 : decode code 313 = .ok (.land, 1) := by decide +kernel
theorem d_law_314 : decode code 314 = .ok (.lor, 1) := by decide +kernel
theorem d_law_315 : decode code 315 = .ok (.aload_n 0, 1) := by decide +kernel
theorem d_law_316 : decode code 316 = .ok (.iload_n 3, 1) := by decide +kernel
theorem d_law_317 : decode code 317 = .ok (.iconst 4, 1) := by decide +kernel
theorem d_law_318 : decode code 318 = .ok (.iadd, 1) := by decide +kernel
theorem d_law_319 : decode code 319 = .ok (.iaload, 1) := by decide +kernel
theorem d_law_320 : decode code 320 = .ok (.i2l, 1) := by decide +kernel
theorem d_law_321 : decode code 321 = .ok (.bipush 32, 2) := by decide +kernel
theorem d_law_323 : decode code 323 = .ok (.lshl, 1) := by decide +kernel
theorem d_law_324 : decode code 324 = .ok (.aload_n 0, 1) := by decide +kernel
theorem d_law_325 : decode code 325 = .ok (.iload_n 3, 1) := by decide +kernel
theorem d_law_326 : decode code 326 = .ok (.iconst 5, 1) := by decide +kernel
theorem d_law_327 : decode code 327 = .ok (.iadd, 1) := by decide +kernel
theorem d_law_328 : decode code 328 = .ok (.iaload, 1) := by decide +kernel
theorem d_law_329 : decode code 329 = .ok (.i2l, 1) := by decide +kernel
theorem d_law_330 : decode code 330 = .ok (.ldc2_w 18, 3) := by decide +kernel
theorem d_law_333 : decode code 333 = .ok (.land, 1) := by decide +kernel
theorem d_law_334 : decode code 334 = .ok (.lor, 1) := by decide +kernel
theorem d_law_335 : decode code 335 = .ok (.invokevirtual 30, 3) := by decide +kernel
theorem d_law_338 : decode code 338 = .ok (.aload_n 2, 1) := by decide +kernel
theorem d_law_339 : decode code 339 = .ok (.aload_n 0, 1) := by decide +kernel
theorem d_law_340 : decode code 340 = .ok (.iload_n 3, 1) := by decide +kernel
theorem d_law_341 : decode code 341 = .ok (.iconst 1, 1) := by decide +kernel
theorem d_law_342 : decode code 342 = .ok (.iadd, 1) := by decide +kernel
theorem d_law_343 : decode code 343 = .ok (.iaload, 1) := by decide +kernel
theorem d_law_344 : decode code 344 = .ok (.aload_n 0, 1) := by decide +kernel
theorem d_law_345 : decode code 345 = .ok (.iload_n 3, 1) := by decide +kernel
theorem d_law_346 : decode code 346 = .ok (.iconst 2, 1) := by decide +kernel
theorem d_law_347 : decode code 347 = .ok (.iadd, 1) := by decide +kernel
theorem d_law_348 : decode code 348 = .ok (.iaload, 1) := by decide +kernel
theorem d_law_349 : decode code 349 = .ok (.i2l, 1) := by decide +kernel
theorem d_law_350 : decode code 350 = .ok (.bipush 32, 2) := by decide +kernel
theorem d_law_352 : decode code 352 = .ok (.lshl, 1) := by decide +kernel
theorem d_law_353 : decode code 353 = .ok (.aload_n 0, 1) := by decide +kernel
theorem d_law_354 : decode code 354 = .ok (.iload_n 3, 1) := by decide +kernel
theorem d_law_355 : decode code 355 = .ok (.iconst 3, 1) := by decide +kernel
theorem d_law_356 : decode code 356 = .ok (.iadd, 1) := by decide +kernel
theorem d_law_357 : decode code 357 = .ok (.iaload, 1) := by decide +kernel
theorem d_law_358 : decode code 358 = .ok (.i2l, 1) := by decide +kernel
theorem d_law_359 : decode code 359 = .ok (.ldc2_w 18, 3) := by decide +kernel
theorem d_law_362 : decode code 362 = .ok (.land, 1) := by decide +kernel
theorem d_law_363 : decode code 363 = .ok (.lor, 1) := by decide +kernel
theorem d_law_364 : decode code 364 = .ok (.aload_n 0, 1) := by decide +kernel
theorem d_law_365 : decode code 365 = .ok (.iload_n 3, 1) := by decide +kernel
theorem d_law_366 : decode code 366 = .ok (.iconst 4, 1) := by decide +kernel
theorem d_law_367 : decode code 367 = .ok (.iadd, 1) := by decide +kernel
theorem d_law_368 : decode code 368 = .ok (.iaload, 1) := by decide +kernel
theorem d_law_369 : decode code 369 = .ok (.i2l, 1) := by decide +kernel
theorem d_law_370 : decode code 370 = .ok (.bipush 32, 2) := by decide +kernel
theorem d_law_372 : decode code 372 = .ok (.lshl, 1) := by decide +kernel
theorem d_law_373 : decode code 373 = .ok (.aload_n 0, 1) := by decide +kernel
theorem d_law_374 : decode code 374 = .ok (.iload_n 3, 1) := by decide +kernel
theorem d_law_375 : decode code 375 = .ok (.iconst 5, 1) := by decide +kernel
theorem d_law_376 : decode code 376 = .ok (.iadd, 1) := by decide +kernel
theorem d_law_377 : decode code 377 = .ok (.iaload, 1) := by decide +kernel
theorem d_law_378 : decode code 378 = .ok (.i2l, 1) := by decide +kernel
theorem d_law_379 : decode code 379 = .ok (.ldc2_w 18, 3) := by decide +kernel
theorem d_law_382 : decode code 382 = .ok (.land, 1) := by decide +kernel
theorem d_law_383 : decode code 383 = .ok (.lor, 1) := by decide +kernel
theorem d_law_384 : decode code 384 = .ok (.invokevirtual 34, 3) := by decide +kernel
theorem d_law_387 : decode code 387 = .ok (.if_icmp .eq 710, 3) := by decide +kernel
theorem d_law_390 : decode code 390 = .ok (.iconst 0, 1) := by decide +kernel
theorem d_law_391 : decode code 391 = .ok (.ireturn, 1) := by decide +kernel
theorem d_law_392 : decode code 392 = .ok (.aload_n 1, 1) := by decide +kernel
theorem d_law_393 : decode code 393 = .ok (.aload_n 0, 1) := by decide +kernel
theorem d_law_394 : decode code 394 = .ok (.iload_n 3, 1) := by decide +kernel
theorem d_law_395 : decode code 395 = .ok (.iconst 1, 1) := by decide +kernel
theorem d_law_396 : decode code 396 = .ok (.iadd, 1) := by decide +kernel
theorem d_law_397 : decode code 397 = .ok (.iaload, 1) := by decide +kernel
theorem d_law_398 : decode code 398 = .ok (.aload_n 0, 1) := by decide +kernel
theorem d_law_399 : decode code 399 = .ok (.iload_n 3, 1) := by decide +kernel
theorem d_law_400 : decode code 400 = .ok (.iconst 2, 1) := by decide +kernel
theorem d_law_401 : decode code 401 = .ok (.iadd, 1) := by decide +kernel
theorem d_law_402 : decode code 402 = .ok (.iaload, 1) := by decide +kernel
theorem d_law_403 : decode code 403 = .ok (.aload_n 0, 1) := by decide +kernel
theorem d_law_404 : decode code 404 = .ok (.iload_n 3, 1) := by decide +kernel
theorem d_law_405 : decode code 405 = .ok (.iconst 3, 1) := by decide +kernel
theorem d_law_406 : decode code 406 = .ok (.iadd, 1) := by decide +kernel
theorem d_law_407 : decode code 407 = .ok (.iaload, 1) := by decide +kernel
theorem d_law_408 : decode code 408 = .ok (.i2l, 1) := by decide +kernel
theorem d_law_409 : decode code 409 = .ok (.bipush 32, 2) := by decide +kernel
theorem d_law_411 : decode code 411 = .ok (.lshl, 1) := by decide +kernel
theorem d_law_412 : decode code 412 = .ok (.aload_n 0, 1) := by decide +kernel
theorem d_law_413 : decode code 413 = .ok (.iload_n 3, 1) := by decide +kernel
theorem d_law_414 : decode code 414 = .ok (.iconst 4, 1) := by decide +kernel
theorem d_law_415 : decode code 415 = .ok (.iadd, 1) := by decide +kernel
theorem d_law_416 : decode code 416 = .ok (.iaload, 1) := by decide +kernel
theorem d_law_417 : decode code 417 = .ok (.i2l, 1) := by decide +kernel
theorem d_law_418 : decode code 418 = .ok (.ldc2_w 18, 3) := by decide +kernel
theorem d_law_421 : decode code 421 = .ok (.land, 1) := by decide +kernel
theorem d_law_422 : decode code 422 = .ok (.lor, 1) := by decide +kernel
theorem d_law_423 : decode code 423 = .ok (.aload_n 0, 1) := by decide +kernel
theorem d_law_424 : decode code 424 = .ok (.iload_n 3, 1) := by decide +kernel
theorem d_law_425 : decode code 425 = .ok (.iconst 5, 1) := by decide +kernel
theorem d_law_426 : decode code 426 = .ok (.iadd, 1) := by decide +kernel
theorem d_law_427 : decode code 427 = .ok (.iaload, 1) := by decide +kernel
theorem d_law_428 : decode code 428 = .ok (.aload_n 0, 1) := by decide +kernel
theorem d_law_429 : decode code 429 = .ok (.iload_n 3, 1) := by decide +kernel
theorem d_law_430 : decode code 430 = .ok (.bipush 6, 2) := by decide +kernel
theorem d_law_432 : decode code 432 = .ok (.iadd, 1) := by decide +kernel
theorem d_law_433 : decode code 433 = .ok (.iaload, 1) := by decide +kernel
theorem d_law_434 : decode code 434 = .ok (.invokevirtual 35, 3) := by decide +kernel
theorem d_law_437 : decode code 437 = .ok (.aload_n 2, 1) := by decide +kernel
theorem d_law_438 : decode code 438 = .ok (.aload_n 0, 1) := by decide +kernel
theorem d_law_439 : decode code 439 = .ok (.iload_n 3, 1) := by decide +kernel
theorem d_law_440 : decode code 440 = .ok (.iconst 1, 1) := by decide +kernel
theorem d_law_441 : decode code 441 = .ok (.iadd, 1) := by decide +kernel
theorem d_law_442 : decode code 442 = .ok (.iaload, 1) := by decide +kernel
theorem d_law_443 : decode code 443 = .ok (.aload_n 0, 1) := by decide +kernel
theorem d_law_444 : decode code 444 = .ok (.iload_n 3, 1) := by decide +kernel
theorem d_law_445 : decode code 445 = .ok (.iconst 2, 1) := by decide +kernel
theorem d_law_446 : decode code 446 = .ok (.iadd, 1) := by decide +kernel
theorem d_law_447 : decode code 447 = .ok (.iaload, 1) := by decide +kernel
theorem d_law_448 : decode code 448 = .ok (.aload_n 0, 1) := by decide +kernel
theorem d_law_449 : decode code 449 = .ok (.iload_n 3, 1) := by decide +kernel
theorem d_law_450 : decode code 450 = .ok (.iconst 3, 1) := by decide +kernel
theorem d_law_451 : decode code 451 = .ok (.iadd, 1) := by decide +kernel
theorem d_law_452 : decode code 452 = .ok (.iaload, 1) := by decide +kernel
theorem d_law_453 : decode code 453 = .ok (.i2l, 1) := by decide +kernel
theorem d_law_454 : decode code 454 = .ok (.bipush 32, 2) := by decide +kernel
theorem d_law_456 : decode code 456 = .ok (.lshl, 1) := by decide +kernel
theorem d_law_457 : decode code 457 = .ok (.aload_n 0, 1) := by decide +kernel
theorem d_law_458 : decode code 458 = .ok (.iload_n 3, 1) := by decide +kernel
theorem d_law_459 : decode code 459 = .ok (.iconst 4, 1) := by decide +kernel
theorem d_law_460 : decode code 460 = .ok (.iadd, 1) := by decide +kernel
theorem d_law_461 : decode code 461 = .ok (.iaload, 1) := by decide +kernel
theorem d_law_462 : decode code 462 = .ok (.i2l, 1) := by decide +kernel
theorem d_law_463 : decode code 463 = .ok (.ldc2_w 18, 3) := by decide +kernel
theorem d_law_466 : decode code 466 = .ok (.land, 1) := by decide +kernel
theorem d_law_467 : decode code 467 = .ok (.lor, 1) := by decide +kernel
theorem d_law_468 : decode code 468 = .ok (.aload_n 0, 1) := by decide +kernel
theorem d_law_469 : decode code 469 = .ok (.iload_n 3, 1) := by decide +kernel
theorem d_law_470 : decode code 470 = .ok (.iconst 5, 1) := by decide +kernel
theorem d_law_471 : decode code 471 = .ok (.iadd, 1) := by decide +kernel
theorem d_law_472 : decode code 472 = .ok (.iaload, 1) := by decide +kernel
theorem d_law_473 : decode code 473 = .ok (.aload_n 0, 1) := by decide +kernel
theorem d_law_474 : decode code 474 = .ok (.iload_n 3, 1) := by decide +kernel
theorem d_law_475 : decode code 475 = .ok (.bipush 6, 2) := by decide +kernel
theorem d_law_477 : decode code 477 = .ok (.iadd, 1) := by decide +kernel
theorem d_law_478 : decode code 478 = .ok (.iaload, 1) := by decide +kernel
theorem d_law_479 : decode code 479 = .ok (.invokevirtual 39, 3) := by decide +kernel
theorem d_law_482 : decode code 482 = .ok (.if_icmp .eq 615, 3) := by decide +kernel
theorem d_law_485 : decode code 485 = .ok (.iconst 0, 1) := by decide +kernel
theorem d_law_486 : decode code 486 = .ok (.ireturn, 1) := by decide +kernel
theorem d_law_487 : decode code 487 = .ok (.aload_n 1, 1) := by decide +kernel
theorem d_law_488 : decode code 488 = .ok (.aload_n 0, 1) := by decide +kernel
theorem d_law_489 : decode code 489 = .ok (.iload_n 3, 1) := by decide +kernel
theorem d_law_490 : decode code 490 = .ok (.iconst 1, 1) := by decide +kernel
theorem d_law_491 : decode code 491 = .ok (.iadd, 1) := by decide +kernel
theorem d_law_492 : decode code 492 = .ok (.iaload, 1) := by decide +kernel
theorem d_law_493 : decode code 493 = .ok (.aload_n 0, 1) := by decide +kernel
theorem d_law_494 : decode code 494 = .ok (.iload_n 3, 1) := by decide +kernel
theorem d_law_495 : decode code 495 = .ok (.iconst 2, 1) := by decide +kernel
theorem d_law_496 : decode code 496 = .ok (.iadd, 1) := by decide +kernel
theorem d_law_497 : decode code 497 = .ok (.iaload, 1) := by decide +kernel
theorem d_law_498 : decode code 498 = .ok (.i2l, 1) := by decide +kernel
theorem d_law_499 : decode code 499 = .ok (.bipush 32, 2) := by decide +kernel
theorem d_law_501 : decode code 501 = .ok (.lshl, 1) := by decide +kernel
theorem d_law_502 : decode code 502 = .ok (.aload_n 0, 1) := by decide +kernel
theorem d_law_503 : decode code 503 = .ok (.iload_n 3, 1) := by decide +kernel
theorem d_law_504 : decode code 504 = .ok (.iconst 3, 1) := by decide +kernel
theorem d_law_505 : decode code 505 = .ok (.iadd, 1) := by decide +kernel
theorem d_law_506 : decode code 506 = .ok (.iaload, 1) := by decide +kernel
theorem d_law_507 : decode code 507 = .ok (.i2l, 1) := by decide +kernel
theorem d_law_508 : decode code 508 = .ok (.ldc2_w 18, 3) := by decide +kernel
theorem d_law_511 : decode code 511 = .ok (.land, 1) := by decide +kernel
theorem d_law_512 : decode code 512 = .ok (.lor, 1) := by decide +kernel
theorem d_law_513 : decode code 513 = .ok (.invokevirtual 40, 3) := by decide +kernel
theorem d_law_516 : decode code 516 = .ok (.aload_n 2, 1) := by decide +kernel
theorem d_law_517 : decode code 517 = .ok (.aload_n 0, 1) := by decide +kernel
theorem d_law_518 : decode code 518 = .ok (.iload_n 3, 1) := by decide +kernel
theorem d_law_519 : decode code 519 = .ok (.iconst 1, 1) := by decide +kernel
theorem d_law_520 : decode code 520 = .ok (.iadd, 1) := by decide +kernel
theorem d_law_521 : decode code 521 = .ok (.iaload, 1) := by decide +kernel
theorem d_law_522 : decode code 522 = .ok (.aload_n 0, 1) := by decide +kernel
theorem d_law_523 : decode code 523 = .ok (.iload_n 3, 1) := by decide +kernel
theorem d_law_524 : decode code 524 = .ok (.iconst 2, 1) := by decide +kernel
theorem d_law_525 : decode code 525 = .ok (.iadd, 1) := by decide +kernel
theorem d_law_526 : decode code 526 = .ok (.iaload, 1) := by decide +kernel
theorem d_law_527 : decode code 527 = .ok (.i2l, 1) := by decide +kernel
theorem d_law_528 : decode code 528 = .ok (.bipush 32, 2) := by decide +kernel
theorem d_law_530 : decode code 530 = .ok (.lshl, 1) := by decide +kernel
theorem d_law_531 : decode code 531 = .ok (.aload_n 0, 1) := by decide +kernel
theorem d_law_532 : decode code 532 = .ok (.iload_n 3, 1) := by decide +kernel
theorem d_law_533 : decode code 533 = .ok (.iconst 3, 1) := by decide +kernel
theorem d_law_534 : decode code 534 = .ok (.iadd, 1) := by decide +kernel
theorem d_law_535 : decode code 535 = .ok (.iaload, 1) := by decide +kernel
theorem d_law_536 : decode code 536 = .ok (.i2l, 1) := by decide +kernel
theorem d_law_537 : decode code 537 = .ok (.ldc2_w 18, 3) := by decide +kernel
theorem d_law_540 : decode code 540 = .ok (.land, 1) := by decide +kernel
theorem d_law_541 : decode code 541 = .ok (.lor, 1) := by decide +kernel
theorem d_law_542 : decode code 542 = .ok (.invokevirtual 44, 3) := by decide +kernel
theorem d_law_545 : decode code 545 = .ok (.if_icmp .eq 552, 3) := by decide +kernel
theorem d_law_548 : decode code 548 = .ok (.iconst 0, 1) := by decide +kernel
theorem d_law_549 : decode code 549 = .ok (.ireturn, 1) := by decide +kernel
theorem d_law_550 : decode code 550 = .ok (.aload_n 1, 1) := by decide +kernel
theorem d_law_551 : decode code 551 = .ok (.aload_n 0, 1) := by decide +kernel
theorem d_law_552 : decode code 552 = .ok (.iload_n 3, 1) := by decide +kernel
theorem d_law_553 : decode code 553 = .ok (.iconst 1, 1) := by decide +kernel
theorem d_law_554 : decode code 554 = .ok (.iadd, 1) := by decide +kernel
theorem d_law_555 : decode code 555 = .ok (.iaload, 1) := by decide +kernel
theorem d_law_556 : decode code 556 = .ok (.aload_n 0, 1) := by decide +kernel
theorem d_law_557 : decode code 557 = .ok (.iload_n 3, 1) := by decide +kernel
theorem d_law_558 : decode code 558 = .ok (.iconst 2, 1) := by decide +kernel
theorem d_law_559 : decode code 559 = .ok (.iadd, 1) := by decide +kernel
theorem d_law_560 : decode code 560 = .ok (.iaload, 1) := by decide +kernel
theorem d_law_561 : decode code 561 = .ok (.aload_n 0, 1) := by decide +kernel
theorem d_law_562 : decode code 562 = .ok (.iload_n 3, 1) := by decide +kernel
theorem d_law_563 : decode code 563 = .ok (.iconst 3, 1) := by decide +kernel
theorem d_law_564 : decode code 564 = .ok (.iadd, 1) := by decide +kernel
theorem d_law_565 : decode code 565 = .ok (.iaload, 1) := by decide +kernel
theorem d_law_566 : decode code 566 = .ok (.i2l, 1) := by decide +kernel
theorem d_law_567 : decode code 567 = .ok (.bipush 32, 2) := by decide +kernel
theorem d_law_569 : decode code 569 = .ok (.lshl, 1) := by decide +kernel
theorem d_law_570 : decode code 570 = .ok (.aload_n 0, 1) := by decide +kernel
theorem d_law_571 : decode code 571 = .ok (.iload_n 3, 1) := by decide +kernel
theorem d_law_572 : decode code 572 = .ok (.iconst 4, 1) := by decide +kernel
theorem d_law_573 : decode code 573 = .ok (.iadd, 1) := by decide +kernel
theorem d_law_574 : decode code 574 = .ok (.iaload, 1) := by decide +kernel
theorem d_law_575 : decode code 575 = .ok (.i2l, 1) := by decide +kernel
theorem d_law_576 : decode code 576 = .ok (.ldc2_w 18, 3) := by decide +kernel
theorem d_law_579 : decode code 579 = .ok (.land, 1) := by decide +kernel
theorem d_law_580 : decode code 580 = .ok (.lor, 1) := by decide +kernel
theorem d_law_581 : decode code 581 = .ok (.invokevirtual 45, 3) := by decide +kernel
theorem d_law_584 : decode code 584 = .ok (.aload_n 2, 1) := by decide +kernel
theorem d_law_585 : decode code 585 = .ok (.aload_n 0, 1) := by decide +kernel
theorem d_law_586 : decode code 586 = .ok (.iload_n 3, 1) := by decide +kernel
theorem d_law_587 : decode code 587 = .ok (.iconst 1, 1) := by decide +kernel
theorem d_law_588 : decode code 588 = .ok (.iadd, 1) := by decide +kernel
theorem d_law_589 : decode code 589 = .ok (.iaload, 1) := by decide +kernel
theorem d_law_590 : decode code 590 = .ok (.aload_n 0, 1) := by decide +kernel
theorem d_law_591 : decode code 591 = .ok (.iload_n 3, 1) := by decide +kernel
theorem d_law_592 : decode code 592 = .ok (.iconst 2, 1) := by decide +kernel
theorem d_law_593 : decode code 593 = .ok (.iadd, 1) := by decide +kernel
theorem d_law_594 : decode code 594 = .ok (.iaload, 1) := by decide +kernel
theorem d_law_595 : decode code 595 = .ok (.aload_n 0, 1) := by decide +kernel
theorem d_law_596 : decode code 596 = .ok (.iload_n 3, 1) := by decide +kernel
theorem d_law_597 : decode code 597 = .ok (.iconst 3, 1) := by decide +kernel
theorem d_law_598 : decode code 598 = .ok (.iadd, 1) := by decide +kernel
theorem d_law_599 : decode code 599 = .ok (.iaload, 1) := by decide +kernel
theorem d_law_600 : decode code 600 = .ok (.i2l, 1) := by decide +kernel
theorem d_law_601 : decode code 601 = .ok (.bipush 32, 2) := by decide +kernel
theorem d_law_603 : decode code 603 = .ok (.lshl, 1) := by decide +kernel
theorem d_law_604 : decode code 604 = .ok (.aload_n 0, 1) := by decide +kernel
theorem d_law_605 : decode code 605 = .ok (.iload_n 3, 1) := by decide +kernel
theorem d_law_606 : decode code 606 = .ok (.iconst 4, 1) := by decide +kernel
theorem d_law_607 : decode code 607 = .ok (.iadd, 1) := by decide +kernel
theorem d_law_608 : decode code 608 = .ok (.iaload, 1) := by decide +kernel
theorem d_law_609 : decode code 609 = .ok (.i2l, 1) := by decide +kernel
theorem d_law_610 : decode code 610 = .ok (.ldc2_w 18, 3) := by decide +kernel
theorem d_law_613 : decode code 613 = .ok (.land, 1) := by decide +kernel
theorem d_law_614 : decode code 614 = .ok (.lor, 1) := by decide +kernel
theorem d_law_615 : decode code 615 = .ok (.invokevirtual 49, 3) := by decide +kernel
theorem d_law_618 : decode code 618 = .ok (.if_icmp .eq 479, 3) := by decide +kernel
theorem d_law_621 : decode code 621 = .ok (.iconst 0, 1) := by decide +kernel
theorem d_law_622 : decode code 622 = .ok (.ireturn, 1) := by decide +kernel
theorem d_law_623 : decode code 623 = .ok (.aload_n 1, 1) := by decide +kernel
theorem d_law_624 : decode code 624 = .ok (.invokevirtual 50, 3) := by decide +kernel
theorem d_law_627 : decode code 627 = .ok (.aload_n 2, 1) := by decide +kernel
theorem d_law_628 : decode code 628 = .ok (.invokevirtual 53, 3) := by decide +kernel
theorem d_law_631 : decode code 631 = .ok (.if_icmp .eq 466, 3) := by decide +kernel
theorem d_law_634 : decode code 634 = .ok (.iconst 0, 1) := by decide +kernel
theorem d_law_635 : decode code 635 = .ok (.ireturn, 1) := by decide +kernel
theorem d_law_636 : decode code 636 = .ok (.aload_n 1, 1) := by decide +kernel
theorem d_law_637 : decode code 637 = .ok (.aload_n 0, 1) := by decide +kernel
theorem d_law_638 : decode code 638 = .ok (.iload_n 3, 1) := by decide +kernel
theorem d_law_639 : decode code 639 = .ok (.iconst 1, 1) := by decide +kernel
theorem d_law_640 : decode code 640 = .ok (.iadd, 1) := by decide +kernel
theorem d_law_641 : decode code 641 = .ok (.iaload, 1) := by decide +kernel
theorem d_law_642 : decode code 642 = .ok (.aload_n 0, 1) := by decide +kernel
theorem d_law_643 : decode code 643 = .ok (.iload_n 3, 1) := by decide +kernel
theorem d_law_644 : decode code 644 = .ok (.iconst 2, 1) := by decide +kernel
theorem d_law_645 : decode code 645 = .ok (.iadd, 1) := by decide +kernel
theorem d_law_646 : decode code 646 = .ok (.iaload, 1) := by decide +kernel
theorem d_law_647 : decode code 647 = .ok (.aload_n 0, 1) := by decide +kernel
theorem d_law_648 : decode code 648 = .ok (.iload_n 3, 1) := by decide +kernel
theorem d_law_649 : decode code 649 = .ok (.iconst 3, 1) := by decide +kernel
theorem d_law_650 : decode code 650 = .ok (.iadd, 1) := by decide +kernel
theorem d_law_651 : decode code 651 = .ok (.iaload, 1) := by decide +kernel
theorem d_law_652 : decode code 652 = .ok (.invokevirtual 54, 3) := by decide +kernel
theorem d_law_655 : decode code 655 = .ok (.aload_n 2, 1) := by decide +kernel
theorem d_law_656 : decode code 656 = .ok (.aload_n 0, 1) := by decide +kernel
theorem d_law_657 : decode code 657 = .ok (.iload_n 3, 1) := by decide +kernel
theorem d_law_658 : decode code 658 = .ok (.iconst 1, 1) := by decide +kernel
theorem d_law_659 : decode code 659 = .ok (.iadd, 1) := by decide +kernel
theorem d_law_660 : decode code 660 = .ok (.iaload, 1) := by decide +kernel
theorem d_law_661 : decode code 661 = .ok (.aload_n 0, 1) := by decide +kernel
theorem d_law_662 : decode code 662 = .ok (.iload_n 3, 1) := by decide +kernel
theorem d_law_663 : decode code 663 = .ok (.iconst 2, 1) := by decide +kernel
theorem d_law_664 : decode code 664 = .ok (.iadd, 1) := by decide +kernel
theorem d_law_665 : decode code 665 = .ok (.iaload, 1) := by decide +kernel
theorem d_law_666 : decode code 666 = .ok (.aload_n 0, 1) := by decide +kernel
theorem d_law_667 : decode code 667 = .ok (.iload_n 3, 1) := by decide +kernel
theorem d_law_668 : decode code 668 = .ok (.iconst 3, 1) := by decide +kernel
theorem d_law_669 : decode code 669 = .ok (.iadd, 1) := by decide +kernel
theorem d_law_670 : decode code 670 = .ok (.iaload, 1) := by decide +kernel
theorem d_law_671 : decode code 671 = .ok (.invokevirtual 58, 3) := by decide +kernel
theorem d_law_674 : decode code 674 = .ok (.lcmp, 1) := by decide +kernel
theorem d_law_675 : decode code 675 = .ok (.ifCond .eq 422, 3) := by decide +kernel
theorem d_law_678 : decode code 678 = .ok (.iconst 0, 1) := by decide +kernel
theorem d_law_679 : decode code 679 = .ok (.ireturn, 1) := by decide +kernel
theorem d_law_680 : decode code 680 = .ok (.aload_n 1, 1) := by decide +kernel
theorem d_law_681 : decode code 681 = .ok (.aload_n 0, 1) := by decide +kernel
theorem d_law_682 : decode code 682 = .ok (.iload_n 3, 1) := by decide +kernel
theorem d_law_683 : decode code 683 = .ok (.iconst 1, 1) := by decide +kernel
theorem d_law_684 : decode code 684 = .ok (.iadd, 1) := by decide +kernel
theorem d_law_685 : decode code 685 = .ok (.iaload, 1) := by decide +kernel
theorem d_law_686 : decode code 686 = .ok (.aload_n 0, 1) := by decide +kernel
theorem d_law_687 : decode code 687 = .ok (.iload_n 3, 1) := by decide +kernel
theorem d_law_688 : decode code 688 = .ok (.iconst 2, 1) := by decide +kernel
theorem d_law_689 : decode code 689 = .ok (.iadd, 1) := by decide +kernel
theorem d_law_690 : decode code 690 = .ok (.iaload, 1) := by decide +kernel
theorem d_law_691 : decode code 691 = .ok (.aload_n 0, 1) := by decide +kernel
theorem d_law_692 : decode code 692 = .ok (.iload_n 3, 1) := by decide +kernel
theorem d_law_693 : decode code 693 = .ok (.iconst 3, 1) := by decide +kernel
theorem d_law_694 : decode code 694 = .ok (.iadd, 1) := by decide +kernel
theorem d_law_695 : decode code 695 = .ok (.iaload, 1) := by decide +kernel
theorem d_law_696 : decode code 696 = .ok (.invokevirtual 59, 3) := by decide +kernel
theorem d_law_699 : decode code 699 = .ok (.aload_n 2, 1) := by decide +kernel
theorem d_law_700 : decode code 700 = .ok (.aload_n 0, 1) := by decide +kernel
theorem d_law_701 : decode code 701 = .ok (.iload_n 3, 1) := by decide +kernel
theorem d_law_702 : decode code 702 = .ok (.iconst 1, 1) := by decide +kernel
theorem d_law_703 : decode code 703 = .ok (.iadd, 1) := by decide +kernel
theorem d_law_704 : decode code 704 = .ok (.iaload, 1) := by decide +kernel
theorem d_law_705 : decode code 705 = .ok (.aload_n 0, 1) := by decide +kernel
theorem d_law_706 : decode code 706 = .ok (.iload_n 3, 1) := by decide +kernel
theorem d_law_707 : decode code 707 = .ok (.iconst 2, 1) := by decide +kernel
theorem d_law_708 : decode code 708 = .ok (.iadd, 1) := by decide +kernel
theorem d_law_709 : decode code 709 = .ok (.iaload, 1) := by decide +kernel
theorem d_law_710 : decode code 710 = .ok (.aload_n 0, 1) := by decide +kernel
theorem d_law_711 : decode code 711 = .ok (.iload_n 3, 1) := by decide +kernel
theorem d_law_712 : decode code 712 = .ok (.iconst 3, 1) := by decide +kernel
theorem d_law_713 : decode code 713 = .ok (.iadd, 1) := by decide +kernel
theorem d_law_714 : decode code 714 = .ok (.iaload, 1) := by decide +kernel
theorem d_law_715 : decode code 715 = .ok (.invokevirtual 62, 3) := by decide +kernel
theorem d_law_718 : decode code 718 = .ok (.lcmp, 1) := by decide +kernel
theorem d_law_719 : decode code 719 = .ok (.ifCond .eq 378, 3) := by decide +kernel
theorem d_law_722 : decode code 722 = .ok (.iconst 0, 1) := by decide +kernel
theorem d_law_723 : decode code 723 = .ok (.ireturn, 1) := by decide +kernel
theorem d_law_724 : decode code 724 = .ok (.aload_n 1, 1) := by decide +kernel
theorem d_law_725 : decode code 725 = .ok (.aload_n 0, 1) := by decide +kernel
theorem d_law_726 : decode code 726 = .ok (.iload_n 3, 1) := by decide +kernel
theorem d_law_727 : decode code 727 = .ok (.iconst 1, 1) := by decide +kernel
theorem d_law_728 : decode code 728 = .ok (.iadd, 1) := by decide +kernel
theorem d_law_729 : decode code 729 = .ok (.iaload, 1) := by decide +kernel
theorem d_law_730 : decode code 730 = .ok (.invokevirtual 63, 3) := by decide +kernel
theorem d_law_733 : decode code 733 = .ok (.aload_n 2, 1) := by decide +kernel
theorem d_law_734 : decode code 734 = .ok (.aload_n 0, 1) := by decide +kernel
theorem d_law_735 : decode code 735 = .ok (.iload_n 3, 1) := by decide +kernel
theorem d_law_736 : decode code 736 = .ok (.iconst 1, 1) := by decide +kernel
theorem d_law_737 : decode code 737 = .ok (.iadd, 1) := by decide +kernel
theorem d_law_738 : decode code 738 = .ok (.iaload, 1) := by decide +kernel
theorem d_law_739 : decode code 739 = .ok (.invokevirtual 67, 3) := by decide +kernel
theorem d_law_742 : decode code 742 = .ok (.if_icmp .eq 355, 3) := by decide +kernel
theorem d_law_745 : decode code 745 = .ok (.iconst 0, 1) := by decide +kernel
theorem d_law_746 : decode code 746 = .ok (.ireturn, 1) := by decide +kernel
theorem d_law_747 : decode code 747 = .ok (.aload_n 1, 1) := by decide +kernel
theorem d_law_748 : decode code 748 = .ok (.aload_n 0, 1) := by decide +kernel
theorem d_law_749 : decode code 749 = .ok (.iload_n 3, 1) := by decide +kernel
theorem d_law_750 : decode code 750 = .ok (.iconst 1, 1) := by decide +kernel
theorem d_law_751 : decode code 751 = .ok (.iadd, 1) := by decide +kernel
theorem d_law_752 : decode code 752 = .ok (.iaload, 1) := by decide +kernel
theorem d_law_753 : decode code 753 = .ok (.invokevirtual 68, 3) := by decide +kernel
theorem d_law_756 : decode code 756 = .ok (.aload_n 2, 1) := by decide +kernel
theorem d_law_757 : decode code 757 = .ok (.aload_n 0, 1) := by decide +kernel
theorem d_law_758 : decode code 758 = .ok (.iload_n 3, 1) := by decide +kernel
theorem d_law_759 : decode code 759 = .ok (.iconst 1, 1) := by decide +kernel
theorem d_law_760 : decode code 760 = .ok (.iadd, 1) := by decide +kernel
theorem d_law_761 : decode code 761 = .ok (.iaload, 1) := by decide +kernel
theorem d_law_762 : decode code 762 = .ok (.invokevirtual 71, 3) := by decide +kernel
theorem d_law_765 : decode code 765 = .ok (.if_icmp .eq 332, 3) := by decide +kernel
theorem d_law_768 : decode code 768 = .ok (.iconst 0, 1) := by decide +kernel
theorem d_law_769 : decode code 769 = .ok (.ireturn, 1) := by decide +kernel
theorem d_law_770 : decode code 770 = .ok (.aload_n 1, 1) := by decide +kernel
theorem d_law_771 : decode code 771 = .ok (.invokevirtual 72, 3) := by decide +kernel
theorem d_law_774 : decode code 774 = .ok (.aload_n 2, 1) := by decide +kernel
theorem d_law_775 : decode code 775 = .ok (.invokevirtual 76, 3) := by decide +kernel
theorem d_law_778 : decode code 778 = .ok (.if_icmp .eq 319, 3) := by decide +kernel
theorem d_law_781 : decode code 781 = .ok (.iconst 0, 1) := by decide +kernel
theorem d_law_782 : decode code 782 = .ok (.ireturn, 1) := by decide +kernel
theorem d_law_783 : decode code 783 = .ok (.aload_n 1, 1) := by decide +kernel
theorem d_law_784 : decode code 784 = .ok (.aload_n 0, 1) := by decide +kernel
theorem d_law_785 : decode code 785 = .ok (.iload_n 3, 1) := by decide +kernel
theorem d_law_786 : decode code 786 = .ok (.iconst 1, 1) := by decide +kernel
theorem d_law_787 : decode code 787 = .ok (.iadd, 1) := by decide +kernel
theorem d_law_788 : decode code 788 = .ok (.iaload, 1) := by decide +kernel
theorem d_law_789 : decode code 789 = .ok (.aload_n 0, 1) := by decide +kernel
theorem d_law_790 : decode code 790 = .ok (.iload_n 3, 1) := by decide +kernel
theorem d_law_791 : decode code 791 = .ok (.iconst 2, 1) := by decide +kernel
theorem d_law_792 : decode code 792 = .ok (.iadd, 1) := by decide +kernel
theorem d_law_793 : decode code 793 = .ok (.iaload, 1) := by decide +kernel
theorem d_law_794 : decode code 794 = .ok (.aload_n 0, 1) := by decide +kernel
theorem d_law_795 : decode code 795 = .ok (.iload_n 3, 1) := by decide +kernel
theorem d_law_796 : decode code 796 = .ok (.iconst 3, 1) := by decide +kernel
theorem d_law_797 : decode code 797 = .ok (.iadd, 1) := by decide +kernel
theorem d_law_798 : decode code 798 = .ok (.iaload, 1) := by decide +kernel
theorem d_law_799 : decode code 799 = .ok (.aload_n 0, 1) := by decide +kernel
theorem d_law_800 : decode code 800 = .ok (.iload_n 3, 1) := by decide +kernel
theorem d_law_801 : decode code 801 = .ok (.iconst 4, 1) := by decide +kernel
theorem d_law_802 : decode code 802 = .ok (.iadd, 1) := by decide +kernel
theorem d_law_803 : decode code 803 = .ok (.iaload, 1) := by decide +kernel
theorem d_law_804 : decode code 804 = .ok (.i2l, 1) := by decide +kernel
theorem d_law_805 : decode code 805 = .ok (.bipush 32, 2) := by decide +kernel
theorem d_law_807 : decode code 807 = .ok (.lshl, 1) := by decide +kernel
theorem d_law_808 : decode code 808 = .ok (.aload_n 0, 1) := by decide +kernel
theorem d_law_809 : decode code 809 = .ok (.iload_n 3, 1) := by decide +kernel
theorem d_law_810 : decode code 810 = .ok (.iconst 5, 1) := by decide +kernel
theorem d_law_811 : decode code 811 = .ok (.iadd, 1) := by decide +kernel
theorem d_law_812 : decode code 812 = .ok (.iaload, 1) := by decide +kernel
theorem d_law_813 : decode code 813 = .ok (.i2l, 1) := by decide +kernel
theorem d_law_814 : decode code 814 = .ok (.ldc2_w 18, 3) := by decide +kernel
theorem d_law_817 : decode code 817 = .ok (.land, 1) := by decide +kernel
theorem d_law_818 : decode code 818 = .ok (.lor, 1) := by decide +kernel
theorem d_law_819 : decode code 819 = .ok (.invokevirtual 77, 3) := by decide +kernel
theorem d_law_822 : decode code 822 = .ok (.aload_n 2, 1) := by decide +kernel
theorem d_law_823 : decode code 823 = .ok (.aload_n 0, 1) := by decide +kernel
theorem d_law_824 : decode code 824 = .ok (.iload_n 3, 1) := by decide +kernel
theorem d_law_825 : decode code 825 = .ok (.iconst 1, 1) := by decide +kernel
theorem d_law_826 : decode code 826 = .ok (.iadd, 1) := by decide +kernel
theorem d_law_827 : decode code 827 = .ok (.iaload, 1) := by decide +kernel
theorem d_law_828 : decode code 828 = .ok (.aload_n 0, 1) := by decide +kernel
theorem d_law_829 : decode code 829 = .ok (.iload_n 3, 1) := by decide +kernel
theorem d_law_830 : decode code 830 = .ok (.iconst 2, 1) := by decide +kernel
theorem d_law_831 : decode code 831 = .ok (.iadd, 1) := by decide +kernel
theorem d_law_832 : decode code 832 = .ok (.iaload, 1) := by decide +kernel
theorem d_law_833 : decode code 833 = .ok (.aload_n 0, 1) := by decide +kernel
theorem d_law_834 : decode code 834 = .ok (.iload_n 3, 1) := by decide +kernel
theorem d_law_835 : decode code 835 = .ok (.iconst 3, 1) := by decide +kernel
theorem d_law_836 : decode code 836 = .ok (.iadd, 1) := by decide +kernel
theorem d_law_837 : decode code 837 = .ok (.iaload, 1) := by decide +kernel
theorem d_law_838 : decode code 838 = .ok (.aload_n 0, 1) := by decide +kernel
theorem d_law_839 : decode code 839 = .ok (.iload_n 3, 1) := by decide +kernel
theorem d_law_840 : decode code 840 = .ok (.iconst 4, 1) := by decide +kernel
theorem d_law_841 : decode code 841 = .ok (.iadd, 1) := by decide +kernel
theorem d_law_842 : decode code 842 = .ok (.iaload, 1) := by decide +kernel
theorem d_law_843 : decode code 843 = .ok (.i2l, 1) := by decide +kernel
theorem d_law_844 : decode code 844 = .ok (.bipush 32, 2) := by decide +kernel
theorem d_law_846 : decode code 846 = .ok (.lshl, 1) := by decide +kernel
theorem d_law_847 : decode code 847 = .ok (.aload_n 0, 1) := by decide +kernel
theorem d_law_848 : decode code 848 = .ok (.iload_n 3, 1) := by decide +kernel
theorem d_law_849 : decode code 849 = .ok (.iconst 5, 1) := by decide +kernel
theorem d_law_850 : decode code 850 = .ok (.iadd, 1) := by decide +kernel
theorem d_law_851 : decode code 851 = .ok (.iaload, 1) := by decide +kernel
theorem d_law_852 : decode code 852 = .ok (.i2l, 1) := by decide +kernel
theorem d_law_853 : decode code 853 = .ok (.ldc2_w 18, 3) := by decide +kernel
theorem d_law_856 : decode code 856 = .ok (.land, 1) := by decide +kernel
theorem d_law_857 : decode code 857 = .ok (.lor, 1) := by decide +kernel
theorem d_law_858 : decode code 858 = .ok (.invokevirtual 81, 3) := by decide +kernel
theorem d_law_861 : decode code 861 = .ok (.lcmp, 1) := by decide +kernel
theorem d_law_862 : decode code 862 = .ok (.ifCond .eq 235, 3) := by decide +kernel
theorem d_law_865 : decode code 865 = .ok (.iconst 0, 1) := by decide +kernel
theorem d_law_866 : decode code 866 = .ok (.ireturn, 1) := by decide +kernel
theorem d_law_867 : decode code 867 = .ok (.aload_n 1, 1) := by decide +kernel
theorem d_law_868 : decode code 868 = .ok (.aload_n 0, 1) := by decide +kernel
theorem d_law_869 : decode code 869 = .ok (.iload_n 3, 1) := by decide +kernel
theorem d_law_870 : decode code 870 = .ok (.iconst 1, 1) := by decide +kernel
theorem d_law_871 : decode code 871 = .ok (.iadd, 1) := by decide +kernel
theorem d_law_872 : decode code 872 = .ok (.iaload, 1) := by decide +kernel
theorem d_law_873 : decode code 873 = .ok (.aload_n 0, 1) := by decide +kernel
theorem d_law_874 : decode code 874 = .ok (.iload_n 3, 1) := by decide +kernel
theorem d_law_875 : decode code 875 = .ok (.iconst 2, 1) := by decide +kernel
theorem d_law_876 : decode code 876 = .ok (.iadd, 1) := by decide +kernel
theorem d_law_877 : decode code 877 = .ok (.iaload, 1) := by decide +kernel
theorem d_law_878 : decode code 878 = .ok (.aload_n 0, 1) := by decide +kernel
theorem d_law_879 : decode code 879 = .ok (.iload_n 3, 1) := by decide +kernel
theorem d_law_880 : decode code 880 = .ok (.iconst 3, 1) := by decide +kernel
theorem d_law_881 : decode code 881 = .ok (.iadd, 1) := by decide +kernel
theorem d_law_882 : decode code 882 = .ok (.iaload, 1) := by decide +kernel
theorem d_law_883 : decode code 883 = .ok (.invokevirtual 82, 3) := by decide +kernel
theorem d_law_886 : decode code 886 = .ok (.aload_n 2, 1) := by decide +kernel
theorem d_law_887 : decode code 887 = .ok (.aload_n 0, 1) := by decide +kernel
theorem d_law_888 : decode code 888 = .ok (.iload_n 3, 1) := by decide +kernel
theorem d_law_889 : decode code 889 = .ok (.iconst 1, 1) := by decide +kernel
theorem d_law_890 : decode code 890 = .ok (.iadd, 1) := by decide +kernel
theorem d_law_891 : decode code 891 = .ok (.iaload, 1) := by decide +kernel
theorem d_law_892 : decode code 892 = .ok (.aload_n 0, 1) := by decide +kernel
theorem d_law_893 : decode code 893 = .ok (.iload_n 3, 1) := by decide +kernel
theorem d_law_894 : decode code 894 = .ok (.iconst 2, 1) := by decide +kernel
theorem d_law_895 : decode code 895 = .ok (.iadd, 1) := by decide +kernel
theorem d_law_896 : decode code 896 = .ok (.iaload, 1) := by decide +kernel
theorem d_law_897 : decode code 897 = .ok (.aload_n 0, 1) := by decide +kernel
theorem d_law_898 : decode code 898 = .ok (.iload_n 3, 1) := by decide +kernel
theorem d_law_899 : decode code 899 = .ok (.iconst 3, 1) := by decide +kernel
theorem d_law_900 : decode code 900 = .ok (.iadd, 1) := by decide +kernel
theorem d_law_901 : decode code 901 = .ok (.iaload, 1) := by decide +kernel
theorem d_law_902 : decode code 902 = .ok (.invokevirtual 85, 3) := by decide +kernel
theorem d_law_905 : decode code 905 = .ok (.lcmp, 1) := by decide +kernel
theorem d_law_906 : decode code 906 = .ok (.ifCond .eq 191, 3) := by decide +kernel
theorem d_law_909 : decode code 909 = .ok (.iconst 0, 1) := by decide +kernel
theorem d_law_910 : decode code 910 = .ok (.ireturn, 1) := by decide +kernel
theorem d_law_911 : decode code 911 = .ok (.aload_n 1, 1) := by decide +kernel
theorem d_law_912 : decode code 912 = .ok (.aload_n 0, 1) := by decide +kernel
theorem d_law_913 : decode code 913 = .ok (.iload_n 3, 1) := by decide +kernel
theorem d_law_914 : decode code 914 = .ok (.iconst 1, 1) := by decide +kernel
theorem d_law_915 : decode code 915 = .ok (.iadd, 1) := by decide +kernel
theorem d_law_916 : decode code 916 = .ok (.iaload, 1) := by decide +kernel
theorem d_law_917 : decode code 917 = .ok (.aload_n 0, 1) := by decide +kernel
theorem d_law_918 : decode code 918 = .ok (.iload_n 3, 1) := by decide +kernel
theorem d_law_919 : decode code 919 = .ok (.iconst 2, 1) := by decide +kernel
theorem d_law_920 : decode code 920 = .ok (.iadd, 1) := by decide +kernel
theorem d_law_921 : decode code 921 = .ok (.iaload, 1) := by decide +kernel
theorem d_law_922 : decode code 922 = .ok (.aload_n 0, 1) := by decide +kernel
theorem d_law_923 : decode code 923 = .ok (.iload_n 3, 1) := by decide +kernel
theorem d_law_924 : decode code 924 = .ok (.iconst 3, 1) := by decide +kernel
theorem d_law_925 : decode code 925 = .ok (.iadd, 1) := by decide +kernel
theorem d_law_926 : decode code 926 = .ok (.iaload, 1) := by decide +kernel
theorem d_law_927 : decode code 927 = .ok (.aload_n 0, 1) := by decide +kernel
theorem d_law_928 : decode code 928 = .ok (.iload_n 3, 1) := by decide +kernel
theorem d_law_929 : decode code 929 = .ok (.iconst 4, 1) := by decide +kernel
theorem d_law_930 : decode code 930 = .ok (.iadd, 1) := by decide +kernel
theorem d_law_931 : decode code 931 = .ok (.iaload, 1) := by decide +kernel
theorem d_law_932 : decode code 932 = .ok (.invokevirtual 86, 3) := by decide +kernel
theorem d_law_935 : decode code 935 = .ok (.aload_n 2, 1) := by decide +kernel
theorem d_law_936 : decode code 936 = .ok (.aload_n 0, 1) := by decide +kernel
theorem d_law_937 : decode code 937 = .ok (.iload_n 3, 1) := by decide +kernel
theorem d_law_938 : decode code 938 = .ok (.iconst 1, 1) := by decide +kernel
theorem d_law_939 : decode code 939 = .ok (.iadd, 1) := by decide +kernel
theorem d_law_940 : decode code 940 = .ok (.iaload, 1) := by decide +kernel
theorem d_law_941 : decode code 941 = .ok (.aload_n 0, 1) := by decide +kernel
theorem d_law_942 : decode code 942 = .ok (.iload_n 3, 1) := by decide +kernel
theorem d_law_943 : decode code 943 = .ok (.iconst 2, 1) := by decide +kernel
theorem d_law_944 : decode code 944 = .ok (.iadd, 1) := by decide +kernel
theorem d_law_945 : decode code 945 = .ok (.iaload, 1) := by decide +kernel
theorem d_law_946 : decode code 946 = .ok (.aload_n 0, 1) := by decide +kernel
theorem d_law_947 : decode code 947 = .ok (.iload_n 3, 1) := by decide +kernel
theorem d_law_948 : decode code 948 = .ok (.iconst 3, 1) := by decide +kernel
theorem d_law_949 : decode code 949 = .ok (.iadd, 1) := by decide +kernel
theorem d_law_950 : decode code 950 = .ok (.iaload, 1) := by decide +kernel
theorem d_law_951 : decode code 951 = .ok (.aload_n 0, 1) := by decide +kernel
theorem d_law_952 : decode code 952 = .ok (.iload_n 3, 1) := by decide +kernel
theorem d_law_953 : decode code 953 = .ok (.iconst 4, 1) := by decide +kernel
theorem d_law_954 : decode code 954 = .ok (.iadd, 1) := by decide +kernel
theorem d_law_955 : decode code 955 = .ok (.iaload, 1) := by decide +kernel
theorem d_law_956 : decode code 956 = .ok (.invokevirtual 90, 3) := by decide +kernel
theorem d_law_959 : decode code 959 = .ok (.lcmp, 1) := by decide +kernel
theorem d_law_960 : decode code 960 = .ok (.ifCond .eq 137, 3) := by decide +kernel
theorem d_law_963 : decode code 963 = .ok (.iconst 0, 1) := by decide +kernel
theorem d_law_964 : decode code 964 = .ok (.ireturn, 1) := by decide +kernel
theorem d_law_965 : decode code 965 = .ok (.aload_n 1, 1) := by decide +kernel
theorem d_law_966 : decode code 966 = .ok (.aload_n 0, 1) := by decide +kernel
theorem d_law_967 : decode code 967 = .ok (.iload_n 3, 1) := by decide +kernel
theorem d_law_968 : decode code 968 = .ok (.iconst 1, 1) := by decide +kernel
theorem d_law_969 : decode code 969 = .ok (.iadd, 1) := by decide +kernel
theorem d_law_970 : decode code 970 = .ok (.iaload, 1) := by decide +kernel
theorem d_law_971 : decode code 971 = .ok (.i2l, 1) := by decide +kernel
theorem d_law_972 : decode code 972 = .ok (.bipush 32, 2) := by decide +kernel
theorem d_law_974 : decode code 974 = .ok (.lshl, 1) := by decide +kernel
theorem d_law_975 : decode code 975 = .ok (.aload_n 0, 1) := by decide +kernel
theorem d_law_976 : decode code 976 = .ok (.iload_n 3, 1) := by decide +kernel
theorem d_law_977 : decode code 977 = .ok (.iconst 2, 1) := by decide +kernel
theorem d_law_978 : decode code 978 = .ok (.iadd, 1) := by decide +kernel
theorem d_law_979 : decode code 979 = .ok (.iaload, 1) := by decide +kernel
theorem d_law_980 : decode code 980 = .ok (.i2l, 1) := by decide +kernel
theorem d_law_981 : decode code 981 = .ok (.ldc2_w 18, 3) := by decide +kernel
theorem d_law_984 : decode code 984 = .ok (.land, 1) := by decide +kernel
theorem d_law_985 : decode code 985 = .ok (.lor, 1) := by decide +kernel
theorem d_law_986 : decode code 986 = .ok (.aload_n 0, 1) := by decide +kernel
theorem d_law_987 : decode code 987 = .ok (.iload_n 3, 1) := by decide +kernel
theorem d_law_988 : decode code 988 = .ok (.iconst 3, 1) := by decide +kernel
theorem d_law_989 : decode code 989 = .ok (.iadd, 1) := by decide +kernel
theorem d_law_990 : decode code 990 = .ok (.iaload, 1) := by decide +kernel
theorem d_law_991 : decode code 991 = .ok (.invokevirtual 91, 3) := by decide +kernel
theorem d_law_994 : decode code 994 = .ok (.aload_n 2, 1) := by decide +kernel
theorem d_law_995 : decode code 995 = .ok (.aload_n 0, 1) := by decide +kernel
theorem d_law_996 : decode code 996 = .ok (.iload_n 3, 1) := by decide +kernel
theorem d_law_997 : decode code 997 = .ok (.iconst 1, 1) := by decide +kernel
theorem d_law_998 : decode code 998 = .ok (.iadd, 1) := by decide +kernel
theorem d_law_999 : decode code 999 = .ok (.iaload, 1) := by decide +kernel
theorem d_law_1000 : decode code 1000 = .ok (.i2l, 1) := by decide +kernel
theorem d_law_1001 : decode code 1001 = .ok (.bipush 32, 2) := by decide +kernel
theorem d_law_1003 : decode code 1003 = .ok (.lshl, 1) := by decide +kernel
theorem d_law_1004 : decode code 1004 = .ok (.aload_n 0, 1) := by decide +kernel
theorem d_law_1005 : decode code 1005 = .ok (.iload_n 3, 1) := by decide +kernel
theorem d_law_1006 : decode code 1006 = .ok (.iconst 2, 1) := by decide +kernel
theorem d_law_1007 : decode code 1007 = .ok (.iadd, 1) := by decide +kernel
theorem d_law_1008 : decode code 1008 = .ok (.iaload, 1) := by decide +kernel
theorem d_law_1009 : decode code 1009 = .ok (.i2l, 1) := by decide +kernel
theorem d_law_1010 : decode code 1010 = .ok (.ldc2_w 18, 3) := by decide +kernel
theorem d_law_1013 : decode code 1013 = .ok (.land, 1) := by decide +kernel
theorem d_law_1014 : decode code 1014 = .ok (.lor, 1) := by decide +kernel
theorem d_law_1015 : decode code 1015 = .ok (.aload_n 0, 1) := by decide +kernel
theorem d_law_1016 : decode code 1016 = .ok (.iload_n 3, 1) := by decide +kernel
theorem d_law_1017 : decode code 1017 = .ok (.iconst 3, 1) := by decide +kernel
theorem d_law_1018 : decode code 1018 = .ok (.iadd, 1) := by decide +kernel
theorem d_law_1019 : decode code 1019 = .ok (.iaload, 1) := by decide +kernel
theorem d_law_1020 : decode code 1020 = .ok (.invokevirtual 95, 3) := by decide +kernel
theorem d_law_1023 : decode code 1023 = .ok (.if_icmp .eq 74, 3) := by decide +kernel
theorem d_law_1026 : decode code 1026 = .ok (.iconst 0, 1) := by decide +kernel
theorem d_law_1027 : decode code 1027 = .ok (.ireturn, 1) := by decide +kernel
theorem d_law_1028 : decode code 1028 = .ok (.aload_n 1, 1) := by decide +kernel
theorem d_law_1029 : decode code 1029 = .ok (.aload_n 0, 1) := by decide +kernel
theorem d_law_1030 : decode code 1030 = .ok (.iload_n 3, 1) := by decide +kernel
theorem d_law_1031 : decode code 1031 = .ok (.iconst 1, 1) := by decide +kernel
theorem d_law_1032 : decode code 1032 = .ok (.iadd, 1) := by decide +kernel
theorem d_law_1033 : decode code 1033 = .ok (.iaload, 1) := by decide +kernel
theorem d_law_1034 : decode code 1034 = .ok (.invokevirtual 96, 3) := by decide +kernel
theorem d_law_1037 : decode code 1037 = .ok (.aload_n 2, 1) := by decide +kernel
theorem d_law_1038 : decode code 1038 = .ok (.aload_n 0, 1) := by decide +kernel
theorem d_law_1039 : decode code 1039 = .ok (.iload_n 3, 1) := by decide +kernel
theorem d_law_1040 : decode code 1040 = .ok (.iconst 1, 1) := by decide +kernel
theorem d_law_1041 : decode code 1041 = .ok (.iadd, 1) := by decide +kernel
theorem d_law_1042 : decode code 1042 = .ok (.iaload, 1) := by decide +kernel
theorem d_law_1043 : decode code 1043 = .ok (.invokevirtual 99, 3) := by decide +kernel
theorem d_law_1046 : decode code 1046 = .ok (.if_icmp .eq 51, 3) := by decide +kernel
theorem d_law_1049 : decode code 1049 = .ok (.iconst 0, 1) := by decide +kernel
theorem d_law_1050 : decode code 1050 = .ok (.ireturn, 1) := by decide +kernel
theorem d_law_1051 : decode code 1051 = .ok (.aload_n 1, 1) := by decide +kernel
theorem d_law_1052 : decode code 1052 = .ok (.aload_n 0, 1) := by decide +kernel
theorem d_law_1053 : decode code 1053 = .ok (.iload_n 3, 1) := by decide +kernel
theorem d_law_1054 : decode code 1054 = .ok (.iconst 1, 1) := by decide +kernel
theorem d_law_1055 : decode code 1055 = .ok (.iadd, 1) := by decide +kernel
theorem d_law_1056 : decode code 1056 = .ok (.iaload, 1) := by decide +kernel
theorem d_law_1057 : decode code 1057 = .ok (.invokevirtual 100, 3) := by decide +kernel
theorem d_law_1060 : decode code 1060 = .ok (.aload_n 2, 1) := by decide +kernel
theorem d_law_1061 : decode code 1061 = .ok (.aload_n 0, 1) := by decide +kernel
theorem d_law_1062 : decode code 1062 = .ok (.iload_n 3, 1) := by decide +kernel
theorem d_law_1063 : decode code 1063 = .ok (.iconst 1, 1) := by decide +kernel
theorem d_law_1064 : decode code 1064 = .ok (.iadd, 1) := by decide +kernel
theorem d_law_1065 : decode code 1065 = .ok (.iaload, 1) := by decide +kernel
theorem d_law_1066 : decode code 1066 = .ok (.invokevirtual 104, 3) := by decide +kernel
theorem d_law_1069 : decode code 1069 = .ok (.if_icmp .eq 28, 3) := by decide +kernel
theorem d_law_1072 : decode code 1072 = .ok (.iconst 0, 1) := by decide +kernel
theorem d_law_1073 : decode code 1073 = .ok (.ireturn, 1) := by decide +kernel
theorem d_law_1074 : decode code 1074 = .ok (.aload_n 1, 1) := by decide +kernel
theorem d_law_1075 : decode code 1075 = .ok (.aload_n 0, 1) := by decide +kernel
theorem d_law_1076 : decode code 1076 = .ok (.iload_n 3, 1) := by decide +kernel
theorem d_law_1077 : decode code 1077 = .ok (.iconst 1, 1) := by decide +kernel
theorem d_law_1078 : decode code 1078 = .ok (.iadd, 1) := by decide +kernel
theorem d_law_1079 : decode code 1079 = .ok (.iaload, 1) := by decide +kernel
theorem d_law_1080 : decode code 1080 = .ok (.invokevirtual 105, 3) := by decide +kernel
theorem d_law_1083 : decode code 1083 = .ok (.aload_n 2, 1) := by decide +kernel
theorem d_law_1084 : decode code 1084 = .ok (.aload_n 0, 1) := by decide +kernel
theorem d_law_1085 : decode code 1085 = .ok (.iload_n 3, 1) := by decide +kernel
theorem d_law_1086 : decode code 1086 = .ok (.iconst 1, 1) := by decide +kernel
theorem d_law_1087 : decode code 1087 = .ok (.iadd, 1) := by decide +kernel
theorem d_law_1088 : decode code 1088 = .ok (.iaload, 1) := by decide +kernel
theorem d_law_1089 : decode code 1089 = .ok (.invokevirtual 108, 3) := by decide +kernel
theorem d_law_1092 : decode code 1092 = .ok (.if_icmp .eq 5, 3) := by decide +kernel
theorem d_law_1095 : decode code 1095 = .ok (.iconst 0, 1) := by decide +kernel
theorem d_law_1096 : decode code 1096 = .ok (.ireturn, 1) := by decide +kernel
theorem d_law_1097 : decode code 1097 = .ok (.iinc 3 7, 3) := by decide +kernel
theorem d_law_1100 : decode code 1100 = .ok (.goto (-1082), 3) := by decide +kernel
theorem d_law_1103 : decode code 1103 = .ok (.iconst 1, 1) := by decide +kernel
theorem d_law_1104 : decode code 1104 = .ok (.ireturn, 1) := by decide +kernel
