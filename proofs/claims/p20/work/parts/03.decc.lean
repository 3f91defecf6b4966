theorem dX5_isSame_97 : decode cX5_isSame 97 = .ok (.iconst 4, 1) := by decide +kernel
theorem dX5_isSame_98 : decode cX5_isSame 98 = .ok (.aload 6, 2) := by decide +kernel
theorem dX5_isSame_100 : decode cX5_isSame 100 = .ok (.getfield 80, 3) := by decide +kernel
theorem dX5_isSame_103 : decode cX5_isSame 103 = .ok (.iastore, 1) := by decide +kernel
theorem dX5_isSame_104 : decode cX5_isSame 104 = .ok (.astore 7, 2) := by decide +kernel
theorem dX5_isSame_106 : decode cX5_isSame 106 = .ok (.iconst 0, 1) := by decide +kernel
theorem dX5_isSame_107 : decode cX5_isSame 107 = .ok (.istore 8, 2) := by decide +kernel
theorem dX5_isSame_109 : decode cX5_isSame 109 = .ok (.iload 8, 2) := by decide +kernel
theorem dX5_isSame_111 : decode cX5_isSame 111 = .ok (.iconst 5, 1) := by decide +kernel
theorem dX5_isSame_112 : decode cX5_isSame 112 = .ok (.if_icmp .ge 26, 3) := by decide +kernel
theorem dX5_isSame_115 : decode cX5_isSame 115 = .ok (.aload_n 1, 1) := by decide +kernel
theorem dX5_isSame_116 : decode cX5_isSame 116 = .ok (.iload_n 3, 1) := by decide +kernel
theorem dX5_isSame_117 : decode cX5_isSame 117 = .ok (.iload 8, 2) := by decide +kernel
theorem dX5_isSame_119 : decode cX5_isSame 119 = .ok (.invokevirtual 103, 3) := by decide +kernel
theorem dX5_isSame_122 : decode cX5_isSame 122 = .ok (.aload 7, 2) := by decide +kernel
theorem dX5_isSame_124 : decode cX5_isSame 124 = .ok (.iload 8, 2) := by decide +kernel
theorem dX5_isSame_126 : decode cX5_isSame 126 = .ok (.iaload, 1) := by decide +kernel
theorem dX5_isSame_127 : decode cX5_isSame 127 = .ok (.if_icmp .eq 5, 3) := by decide +kernel
theorem dX5_isSame_130 : decode cX5_isSame 130 = .ok (.iconst 0, 1) := by decide +kernel
theorem dX5_isSame_131 : decode cX5_isSame 131 = .ok (.ireturn, 1) := by decide +kernel
theorem dX5_isSame_132 : decode cX5_isSame 132 = .ok (.iinc 8 1, 3) := by decide +kernel
theorem dX5_isSame_135 : decode cX5_isSame 135 = .ok (.goto (-26), 3) := by decide +kernel
theorem dX5_isSame_138 : decode cX5_isSame 138 = .ok (.aload_n 1, 1) := by decide +kernel
theorem dX5_isSame_139 : decode cX5_isSame 139 = .ok (.iload 4, 2) := by decide +kernel
theorem dX5_isSame_141 : decode cX5_isSame 141 = .ok (.iload 5, 2) := by decide +kernel
theorem dX5_isSame_143 : decode cX5_isSame 143 = .ok (.invokevirtual 109, 3) := by decide +kernel
theorem dX5_isSame_146 : decode cX5_isSame 146 = .ok (.iload_n 3, 1) := by decide +kernel
theorem dX5_isSame_147 : decode cX5_isSame 147 = .ok (.if_icmp .eq 5, 3) := by decide +kernel
theorem dX5_isSame_150 : decode cX5_isSame 150 = .ok (.iconst 0, 1) := by decide +kernel
theorem dX5_isSame_151 : decode cX5_isSame 151 = .ok (.ireturn, 1) := by decide +kernel
theorem dX5_isSame_152 : decode cX5_isSame 152 = .ok (.iload_n 2, 1) := by decide +kernel
theorem dX5_isSame_153 : decode cX5_isSame 153 = .ok (.aload 6, 2) := by decide +kernel
theorem dX5_isSame_155 : decode cX5_isSame 155 = .ok (.getfield 80, 3) := by decide +kernel
theorem dX5_isSame_158 : decode cX5_isSame 158 = .ok (.iadd, 1) := by decide +kernel
theorem dX5_isSame_159 : decode cX5_isSame 159 = .ok (.istore_n 2, 1) := by decide +kernel
theorem dX5_isSame_160 : decode cX5_isSame 160 = .ok (.iinc 5 1, 3) := by decide +kernel
theorem dX5_isSame_163 : decode cX5_isSame 163 = .ok (.goto (-141), 3) := by decide +kernel
theorem dX5_isSame_166 : decode cX5_isSame 166 = .ok (.iinc 4 1, 3) := by decide +kernel
theorem dX5_isSame_169 : decode cX5_isSame 169 = .ok (.goto (-156), 3) := by decide +kernel
theorem dX5_isSame_172 : decode cX5_isSame 172 = .ok (.aload_n 0, 1) := by decide +kernel
theorem dX5_isSame_173 : decode cX5_isSame 173 = .ok (.iload_n 3, 1) := by decide +kernel
theorem dX5_isSame_174 : decode cX5_isSame 174 = .ok (.invokevirtual 76, 3) := by decide +kernel
theorem dX5_isSame_177 : decode cX5_isSame 177 = .ok (.ifnonnull 31, 3) := by decide +kernel
theorem dX5_isSame_180 : decode cX5_isSame 180 = .ok (.iconst 0, 1) := by decide +kernel
theorem dX5_isSame_181 : decode cX5_isSame 181 = .ok (.istore 4, 2) := by decide +kernel
theorem dX5_isSame_183 : decode cX5_isSame 183 = .ok (.iload 4, 2) := by decide +kernel
theorem dX5_isSame_185 : decode cX5_isSame 185 = .ok (.iconst 5, 1) := by decide +kernel
theorem dX5_isSame_186 : decode cX5_isSame 186 = .ok (.if_icmp .ge 22, 3) := by decide +kernel
theorem dX5_isSame_189 : decode cX5_isSame 189 = .ok (.aload_n 1, 1) := by decide +kernel
theorem dX5_isSame_190 : decode cX5_isSame 190 = .ok (.iload_n 3, 1) := by decide +kernel
theorem dX5_isSame_191 : decode cX5_isSame 191 = .ok (.iload 4, 2) := by decide +kernel
theorem dX5_isSame_193 : decode cX5_isSame 193 = .ok (.invokevirtual 103, 3) := by decide +kernel
theorem dX5_isSame_196 : decode cX5_isSame 196 = .ok (.iconst (-1), 1) := by decide +kernel
theorem dX5_isSame_197 : decode cX5_isSame 197 = .ok (.if_icmp .eq 5, 3) := by decide +kernel
theorem dX5_isSame_200 : decode cX5_isSame 200 = .ok (.iconst 0, 1) := by decide +kernel
theorem dX5_isSame_201 : decode cX5_isSame 201 = .ok (.ireturn, 1) := by decide +kernel
theorem dX5_isSame_202 : decode cX5_isSame 202 = .ok (.iinc 4 1, 3) := by decide +kernel
theorem dX5_isSame_205 : decode cX5_isSame 205 = .ok (.goto (-22), 3) := by decide +kernel
theorem dX5_isSame_208 : decode cX5_isSame 208 = .ok (.iinc 3 1, 3) := by decide +kernel
theorem dX5_isSame_211 : decode cX5_isSame 211 = .ok (.goto (-207), 3) := by decide +kernel
theorem dX5_isSame_214 : decode cX5_isSame 214 = .ok (.iconst 0, 1) := by decide +kernel
theorem dX5_isSame_215 : decode cX5_isSame 215 = .ok (.istore_n 3, 1) := by decide +kernel
theorem dX5_isSame_216 : decode cX5_isSame 216 = .ok (.iload_n 3, 1) := by decide +kernel
theorem dX5_isSame_217 : decode cX5_isSame 217 = .ok (.iconst 2, 1) := by decide +kernel
theorem dX5_isSame_218 : decode cX5_isSame 218 = .ok (.if_icmp .ge 51, 3) := by decide +kernel
theorem dX5_isSame_221 : decode cX5_isSame 221 = .ok (.iconst 0, 1) := by decide +kernel
theorem dX5_isSame_222 : decode cX5_isSame 222 = .ok (.istore 4, 2) := by decide +kernel
theorem dX5_isSame_224 : decode cX5_isSame 224 = .ok (.iload 4, 2) := by decide +kernel
theorem dX5_isSame_226 : decode cX5_isSame 226 = .ok (.aload_n 0, 1) := by decide +kernel
theorem dX5_isSame_227 : decode cX5_isSame 227 = .ok (.getfield 23, 3) := by decide +kernel
theorem dX5_isSame_230 : decode cX5_isSame 230 = .ok (.iload_n 3, 1) := by decide +kernel
theorem dX5_isSame_231 : decode cX5_isSame 231 = .ok (.aaload, 1) := by decide +kernel
theorem dX5_isSame_232 : decode cX5_isSame 232 = .ok (.arraylength, 1) := by decide +kernel
theorem dX5_isSame_233 : decode cX5_isSame 233 = .ok (.if_icmp .ge 30, 3) := by decide +kernel
theorem dX5_isSame_236 : decode cX5_isSame 236 = .ok (.aload_n 1, 1) := by decide +kernel
theorem dX5_isSame_237 : decode cX5_isSame 237 = .ok (.iload_n 3, 1) := by decide +kernel
theorem dX5_isSame_238 : decode cX5_isSame 238 = .ok (.iload 4, 2) := by decide +kernel
theorem dX5_isSame_240 : decode cX5_isSame 240 = .ok (.invokevirtual 112, 3) := by decide +kernel
theorem dX5_isSame_243 : decode cX5_isSame 243 = .ok (.aload_n 0, 1) := by decide +kernel
theorem dX5_isSame_244 : decode cX5_isSame 244 = .ok (.getfield 23, 3) := by decide +kernel
theorem dX5_isSame_247 : decode cX5_isSame 247 = .ok (.iload_n 3, 1) := by decide +kernel
theorem dX5_isSame_248 : decode cX5_isSame 248 = .ok (.aaload, 1) := by decide +kernel
theorem dX5_isSame_249 : decode cX5_isSame 249 = .ok (.iload 4, 2) := by decide +kernel
theorem dX5_isSame_251 : decode cX5_isSame 251 = .ok (.iaload, 1) := by decide +kernel
theorem dX5_isSame_252 : decode cX5_isSame 252 = .ok (.if_icmp .eq 5, 3) := by decide +kernel
theorem dX5_isSame_255 : decode cX5_isSame 255 = .ok (.iconst 0, 1) := by decide +kernel
theorem dX5_isSame_256 : decode cX5_isSame 256 = .ok (.ireturn, 1) := by decide +kernel
theorem dX5_isSame_257 : decode cX5_isSame 257 = .ok (.iinc 4 1, 3) := by decide +kernel
theorem dX5_isSame_260 : decode cX5_isSame 260 = .ok (.goto (-36), 3) := by decide +kernel
theorem dX5_isSame_263 : decode cX5_isSame 263 = .ok (.iinc 3 1, 3) := by decide +kernel
theorem dX5_isSame_266 : decode cX5_isSame 266 = .ok (.goto (-50), 3) := by decide +kernel
theorem dX5_isSame_269 : decode cX5_isSame 269 = .ok (.bipush 11, 2) := by decide +kernel
theorem dX5_isSame_271 : decode cX5_isSame 271 = .ok (.newarray .int, 2) := by decide +kernel
theorem dX5_isSame_273 : decode cX5_isSame 273 = .ok (.dup, 1) := by decide +kernel
theorem dX5_isSame_274 : decode cX5_isSame 274 = .ok (.iconst 0, 1) := by decide +kernel
theorem dX5_isSame_275 : decode cX5_isSame 275 = .ok (.aload_n 0, 1) := by decide +kernel
theorem dX5_isSame_276 : decode cX5_isSame 276 = .ok (.getfield 7, 3) := by decide +kernel
theorem dX5_isSame_279 : decode cX5_isSame 279 = .ok (.iastore, 1) := by decide +kernel
theorem dX5_isSame_280 : decode cX5_isSame 280 = .ok (.dup, 1) := by decide +kernel
theorem dX5_isSame_281 : decode cX5_isSame 281 = .ok (.iconst 1, 1) := by decide +kernel
theorem dX5_isSame_282 : decode cX5_isSame 282 = .ok (.aload_n 0, 1) := by decide +kernel
theorem dX5_isSame_283 : decode cX5_isSame 283 = .ok (.getfield 17, 3) := by decide +kernel
theorem dX5_isSame_286 : decode cX5_isSame 286 = .ok (.iconst 0, 1) := by decide +kernel
theorem dX5_isSame_287 : decode cX5_isSame 287 = .ok (.aaload, 1) := by decide +kernel
theorem dX5_isSame_288 : decode cX5_isSame 288 = .ok (.arraylength, 1) := by decide +kernel
theorem dX5_isSame_289 : decode cX5_isSame 289 = .ok (.iastore, 1) := by decide +kernel
theorem dX5_isSame_290 : decode cX5_isSame 290 = .ok (.dup, 1) := by decide +kernel
theorem dX5_isSame_291 : decode cX5_isSame 291 = .ok (.iconst 2, 1) := by decide +kernel
theorem dX5_isSame_292 : decode cX5_isSame 292 = .ok (.aload_n 0, 1) := by decide +kernel
theorem dX5_isSame_293 : decode cX5_isSame 293 = .ok (.getfield 17, 3) := by decide +kernel
theorem dX5_isSame_296 : decode cX5_isSame 296 = .ok (.iconst 1, 1) := by decide +kernel
theorem dX5_isSame_297 : decode cX5_isSame 297 = .ok (.aaload, 1) := by decide +kernel
theorem dX5_isSame_298 : decode cX5_isSame 298 = .ok (.arraylength, 1) := by decide +kernel
theorem dX5_isSame_299 : decode cX5_isSame 299 = .ok (.iastore, 1) := by decide +kernel
theorem dX5_isSame_300 : decode cX5_isSame 300 = .ok (.dup, 1) := by decide +kernel
theorem dX5_isSame_301 : decode cX5_isSame 301 = .ok (.iconst 3, 1) := by decide +kernel
theorem dX5_isSame_302 : decode cX5_isSame 302 = .ok (.aload_n 0, 1) := by decide +kernel
theorem dX5_isSame_303 : decode cX5_isSame 303 = .ok (.getfield 23, 3) := by decide +kernel
theorem dX5_isSame_306 : decode cX5_isSame 306 = .ok (.iconst 0, 1) := by decide +kernel
theorem dX5_isSame_307 : decode cX5_isSame 307 = .ok (.aaload, 1) := by decide +kernel
theorem dX5_isSame_308 : decode cX5_isSame 308 = .ok (.arraylength, 1) := by decide +kernel
theorem dX5_isSame_309 : decode cX5_isSame 309 = .ok (.iastore, 1) := by decide +kernel
theorem dX5_isSame_310 : decode cX5_isSame 310 = .ok (.dup, 1) := by decide +kernel
theorem dX5_isSame_311 : decode cX5_isSame 311 = .ok (.iconst 4, 1) := by decide +kernel
theorem dX5_isSame_312 : decode cX5_isSame 312 = .ok (.aload_n 0, 1) := by decide +kernel
theorem dX5_isSame_313 : decode cX5_isSame 313 = .ok (.getfield 23, 3) := by decide +kernel
theorem dX5_isSame_316 : decode cX5_isSame 316 = .ok (.iconst 1, 1) := by decide +kernel
theorem dX5_isSame_317 : decode cX5_isSame 317 = .ok (.aaload, 1) := by decide +kernel
theorem dX5_isSame_318 : decode cX5_isSame 318 = .ok (.arraylength, 1) := by decide +kernel
theorem dX5_isSame_319 : decode cX5_isSame 319 = .ok (.iastore, 1) := by decide +kernel
theorem dX5_isSame_320 : decode cX5_isSame 320 = .ok (.dup, 1) := by decide +kernel
theorem dX5_isSame_321 : decode cX5_isSame 321 = .ok (.iconst 5, 1) := by decide +kernel
theorem dX5_isSame_322 : decode cX5_isSame 322 = .ok (.aload_n 0, 1) := by decide +kernel
theorem dX5_isSame_323 : decode cX5_isSame 323 = .ok (.getfield 28, 3) := by decide +kernel
theorem dX5_isSame_326 : decode cX5_isSame 326 = .ok (.iastore, 1) := by decide +kernel
theorem dX5_isSame_327 : decode cX5_isSame 327 = .ok (.dup, 1) := by decide +kernel
theorem dX5_isSame_328 : decode cX5_isSame 328 = .ok (.bipush 6, 2) := by decide +kernel
theorem dX5_isSame_330 : decode cX5_isSame 330 = .ok (.aload_n 0, 1) := by decide +kernel
theorem dX5_isSame_331 : decode cX5_isSame 331 = .ok (.getfield 31, 3) := by decide +kernel
theorem dX5_isSame_334 : decode cX5_isSame 334 = .ok (.iastore, 1) := by decide +kernel
theorem dX5_isSame_335 : decode cX5_isSame 335 = .ok (.dup, 1) := by decide +kernel
theorem dX5_isSame_336 : decode cX5_isSame 336 = .ok (.bipush 7, 2) := by decide +kernel
theorem dX5_isSame_338 : decode cX5_isSame 338 = .ok (.aload_n 0, 1) := by decide +kernel
theorem dX5_isSame_339 : decode cX5_isSame 339 = .ok (.getfield 34, 3) := by decide +kernel
theorem dX5_isSame_342 : decode cX5_isSame 342 = .ok (.iastore, 1) := by decide +kernel
theorem dX5_isSame_343 : decode cX5_isSame 343 = .ok (.dup, 1) := by decide +kernel
theorem dX5_isSame_344 : decode cX5_isSame 344 = .ok (.bipush 8, 2) := by decide +kernel
theorem dX5_isSame_346 : decode cX5_isSame 346 = .ok (.aload_n 0, 1) := by decide +kernel
theorem dX5_isSame_347 : decode cX5_isSame 347 = .ok (.getfield 37, 3) := by decide +kernel
theorem dX5_isSame_350 : decode cX5_isSame 350 = .ok (.iastore, 1) := by decide +kernel
theorem dX5_isSame_351 : decode cX5_isSame 351 = .ok (.dup, 1) := by decide +kernel
theorem dX5_isSame_352 : decode cX5_isSame 352 = .ok (.bipush 9, 2) := by decide +kernel
theorem dX5_isSame_354 : decode cX5_isSame 354 = .ok (.aload_n 0, 1) := by decide +kernel
theorem dX5_isSame_355 : decode cX5_isSame 355 = .ok (.getfield 40, 3) := by decide +kernel
theorem dX5_isSame_358 : decode cX5_isSame 358 = .ok (.iastore, 1) := by decide +kernel
theorem dX5_isSame_359 : decode cX5_isSame 359 = .ok (.dup, 1) := by decide +kernel
theorem dX5_isSame_360 : decode cX5_isSame 360 = .ok (.bipush 10, 2) := by decide +kernel
theorem dX5_isSame_362 : decode cX5_isSame 362 = .ok (.aload_n 0, 1) := by decide +kernel
theorem dX5_isSame_363 : decode cX5_isSame 363 = .ok (.invokevirtual 87, 3) := by decide +kernel
theorem dX5_isSame_366 : decode cX5_isSame 366 = .ok (.iastore, 1) := by decide +kernel
theorem dX5_isSame_367 : decode cX5_isSame 367 = .ok (.astore_n 3, 1) := by decide +kernel
theorem dX5_isSame_368 : decode cX5_isSame 368 = .ok (.iconst 0, 1) := by decide +kernel
theorem dX5_isSame_369 : decode cX5_isSame 369 = .ok (.istore 4, 2) := by decide +kernel
theorem dX5_isSame_371 : decode cX5_isSame 371 = .ok (.iload 4, 2) := by decide +kernel
theorem dX5_isSame_373 : decode cX5_isSame 373 = .ok (.bipush 11, 2) := by decide +kernel
theorem dX5_isSame_375 : decode cX5_isSame 375 = .ok (.if_icmp .ge 24, 3) := by decide +kernel
theorem dX5_isSame_378 : decode cX5_isSame 378 = .ok (.aload_n 1, 1) := by decide +kernel
theorem dX5_isSame_379 : decode cX5_isSame 379 = .ok (.iload 4, 2) := by decide +kernel
theorem dX5_isSame_381 : decode cX5_isSame 381 = .ok (.invokevirtual 115, 3) := by decide +kernel
theorem dX5_isSame_384 : decode cX5_isSame 384 = .ok (.aload_n 3, 1) := by decide +kernel
theorem dX5_isSame_385 : decode cX5_isSame 385 = .ok (.iload 4, 2) := by decide +kernel
theorem dX5_isSame_387 : decode cX5_isSame 387 = .ok (.iaload, 1) := by decide +kernel
theorem dX5_isSame_388 : decode cX5_isSame 388 = .ok (.if_icmp .eq 5, 3) := by decide +kernel
theorem dX5_isSame_391 : decode cX5_isSame 391 = .ok (.iconst 0, 1) := by decide +kernel
theorem dX5_isSame_392 : decode cX5_isSame 392 = .ok (.ireturn, 1) := by decide +kernel
theorem dX5_isSame_393 : decode cX5_isSame 393 = .ok (.iinc 4 1, 3) := by decide +kernel
theorem dX5_isSame_396 : decode cX5_isSame 396 = .ok (.goto (-25), 3) := by decide +kernel
theorem dX5_isSame_399 : decode cX5_isSame 399 = .ok (.aload_n 1, 1) := by decide +kernel
theorem dX5_isSame_400 : decode cX5_isSame 400 = .ok (.invokevirtual 118, 3) := by decide +kernel
theorem dX5_isSame_403 : decode cX5_isSame 403 = .ok (.aload_n 0, 1) := by decide +kernel
theorem dX5_isSame_404 : decode cX5_isSame 404 = .ok (.invokevirtual 83, 3) := by decide +kernel
theorem dX5_isSame_407 : decode cX5_isSame 407 = .ok (.ifCond .ne 7, 3) := by decide +kernel
theorem dX5_isSame_410 : decode cX5_isSame 410 = .ok (.dconst 0, 1) := by decide +kernel
theorem dX5_isSame_411 : decode cX5_isSame 411 = .ok (.goto 11, 3) := by decide +kernel
theorem dX5_isSame_414 : decode cX5_isSame 414 = .ok (.iload_n 2, 1) := by decide +kernel
theorem dX5_isSame_415 : decode cX5_isSame 415 = .ok (.i2d, 1) := by decide +kernel
theorem dX5_isSame_416 : decode cX5_isSame 416 = .ok (.aload_n 0, 1) := by decide +kernel
theorem dX5_isSame_417 : decode cX5_isSame 417 = .ok (.invokevirtual 83, 3) := by decide +kernel
theorem dX5_isSame_420 : decode cX5_isSame 420 = .ok (.i2d, 1) := by decide +kernel
theorem dX5_isSame_421 : decode cX5_isSame 421 = .ok (.ddiv, 1) := by decide +kernel
theorem dX5_isSame_422 : decode cX5_isSame 422 = .ok (.dcmp .l, 1) := by decide +kernel
theorem dX5_isSame_423 : decode cX5_isSame 423 = .ok (.ifCond .ne 7, 3) := by decide +kernel
theorem dX5_isSame_426 : decode cX5_isSame 426 = .ok (.iconst 1, 1) := by decide +kernel
theorem dX5_isSame_427 : decode cX5_isSame 427 = .ok (.goto 4, 3) := by decide +kernel
theorem dX5_isSame_430 : decode cX5_isSame 430 = .ok (.iconst 0, 1) := by decide +kernel
theorem dX5_isSame_431 : decode cX5_isSame 431 = .ok (.ireturn, 1) := by decide +kernel
theorem dL_below_0 : decode cL_below 0 = .ok (.iload_n 0, 1) := by decide +kernel
theorem dL_below_1 : decode cL_below 1 = .ok (.ldc 7, 2) := by decide +kernel
theorem dL_below_3 : decode cL_below 3 = .ok (.iand, 1) := by decide +kernel
theorem dL_below_4 : decode cL_below 4 = .ok (.iload_n 1, 1) := by decide +kernel
theorem dL_below_5 : decode cL_below 5 = .ok (.irem, 1) := by decide +kernel
theorem dL_below_6 : decode cL_below 6 = .ok (.ireturn, 1) := by decide +kernel
theorem dL_cell_0 : decode cL_cell 0 = .ok (.iload_n 1, 1) := by decide +kernel
theorem dL_cell_1 : decode cL_cell 1 = .ok (.aload_n 0, 1) := by decide +kernel
theorem dL_cell_2 : decode cL_cell 2 = .ok (.arraylength, 1) := by decide +kernel
theorem dL_cell_3 : decode cL_cell 3 = .ok (.if_icmp .ge 9, 3) := by decide +kernel
theorem dL_cell_6 : decode cL_cell 6 = .ok (.aload_n 0, 1) := by decide +kernel
theorem dL_cell_7 : decode cL_cell 7 = .ok (.iload_n 1, 1) := by decide +kernel
theorem dL_cell_8 : decode cL_cell 8 = .ok (.iaload, 1) := by decide +kernel
theorem dL_cell_9 : decode cL_cell 9 = .ok (.goto 9, 3) := by decide +kernel
theorem dL_cell_12 : decode cL_cell 12 = .ok (.ldc 8, 2) := by decide +kernel
theorem dL_cell_14 : decode cL_cell 14 = .ok (.iload_n 1, 1) := by decide +kernel
theorem dL_cell_15 : decode cL_cell 15 = .ok (.iconst 3, 1) := by decide +kernel
theorem dL_cell_16 : decode cL_cell 16 = .ok (.iadd, 1) := by decide +kernel
theorem dL_cell_17 : decode cL_cell 17 = .ok (.imul, 1) := by decide +kernel
theorem dL_cell_18 : decode cL_cell 18 = .ok (.ireturn, 1) := by decide +kernel
theorem dL_with_0 : decode cL_with 0 = .ok (.aload_n 0, 1) := by decide +kernel
theorem dL_with_1 : decode cL_with 1 = .ok (.arraylength, 1) := by decide +kernel
theorem dL_with_2 : decode cL_with 2 = .ok (.iconst 1, 1) := by decide +kernel
theorem dL_with_3 : decode cL_with 3 = .ok (.iadd, 1) := by decide +kernel
theorem dL_with_4 : decode cL_with 4 = .ok (.anewarray 9, 3) := by decide +kernel
theorem dL_with_7 : decode cL_with 7 = .ok (.astore_n 2, 1) := by decide +kernel
theorem dL_with_8 : decode cL_with 8 = .ok (.iconst 0, 1) := by decide +kernel
theorem dL_with_9 : decode cL_with 9 = .ok (.istore_n 3, 1) := by decide +kernel
theorem dL_with_10 : decode cL_with 10 = .ok (.iload_n 3, 1) := by decide +kernel
theorem dL_with_11 : decode cL_with 11 = .ok (.aload_n 0, 1) := by decide +kernel
theorem dL_with_12 : decode cL_with 12 = .ok (.arraylength, 1) := by decide +kernel
theorem dL_with_13 : decode cL_with 13 = .ok (.if_icmp .ge 15, 3) := by decide +kernel
theorem dL_with_16 : decode cL_with 16 = .ok (.aload_n 2, 1) := by decide +kernel
theorem dL_with_17 : decode cL_with 17 = .ok (.iload_n 3, 1) := by decide +kernel
theorem dL_with_18 : decode cL_with 18 = .ok (.aload_n 0, 1) := by decide +kernel
theorem dL_with_19 : decode cL_with 19 = .ok (.iload_n 3, 1) := by decide +kernel
theorem dL_with_20 : decode cL_with 20 = .ok (.aaload, 1) := by decide +kernel
theorem dL_with_21 : decode cL_with 21 = .ok (.aastore, 1) := by decide +kernel
theorem dL_with_22 : decode cL_with 22 = .ok (.iinc 3 1, 3) := by decide +kernel
theorem dL_with_25 : decode cL_with 25 = .ok (.goto (-15), 3) := by decide +kernel
theorem dL_with_28 : decode cL_with 28 = .ok (.aload_n 2, 1) := by decide +kernel
theorem dL_with_29 : decode cL_with 29 = .ok (.aload_n 0, 1) := by decide +kernel
theorem dL_with_30 : decode cL_with 30 = .ok (.arraylength, 1) := by decide +kernel
theorem dL_with_31 : decode cL_with 31 = .ok (.aload_n 1, 1) := by decide +kernel
theorem dL_with_32 : decode cL_with 32 = .ok (.aastore, 1) := by decide +kernel
theorem dL_with_33 : decode cL_with 33 = .ok (.aload_n 2, 1) := by decide +kernel
theorem dL_with_34 : decode cL_with 34 = .ok (.areturn, 1) := by decide +kernel
theorem dL_without_0 : decode cL_without 0 = .ok (.aload_n 0, 1) := by decide +kernel
theorem dL_without_1 : decode cL_without 1 = .ok (.arraylength, 1) := by decide +kernel
theorem dL_without_2 : decode cL_without 2 = .ok (.iconst 1, 1) := by decide +kernel
theorem dL_without_3 : decode cL_without 3 = .ok (.isub, 1) := by decide +kernel
theorem dL_without_4 : decode cL_without 4 = .ok (.anewarray 9, 3) := by decide +kernel
theorem dL_without_7 : decode cL_without 7 = .ok (.astore_n 2, 1) := by decide +kernel
theorem dL_without_8 : decode cL_without 8 = .ok (.iconst 0, 1) := by decide +kernel
theorem dL_without_9 : decode cL_without 9 = .ok (.istore_n 3, 1) := by decide +kernel
theorem dL_without_10 : decode cL_without 10 = .ok (.iload_n 3, 1) := by decide +kernel
theorem dL_without_11 : decode cL_without 11 = .ok (.aload_n 2, 1) := by decide +kernel
theorem dL_without_12 : decode cL_without 12 = .ok (.arraylength, 1) := by decide +kernel
theorem dL_without_13 : decode cL_without 13 = .ok (.if_icmp .ge 26, 3) := by decide +kernel
theorem dL_without_16 : decode cL_without 16 = .ok (.aload_n 2, 1) := by decide +kernel
theorem dL_without_17 : decode cL_without 17 = .ok (.iload_n 3, 1) := by decide +kernel
theorem dL_without_18 : decode cL_without 18 = .ok (.aload_n 0, 1) := by decide +kernel
theorem dL_without_19 : decode cL_without 19 = .ok (.iload_n 3, 1) := by decide +kernel
theorem dL_without_20 : decode cL_without 20 = .ok (.iload_n 1, 1) := by decide +kernel
theorem dL_without_21 : decode cL_without 21 = .ok (.if_icmp .ge 7, 3) := by decide +kernel
theorem dL_without_24 : decode cL_without 24 = .ok (.iload_n 3, 1) := by decide +kernel
theorem dL_without_25 : decode cL_without 25 = .ok (.goto 6, 3) := by decide +kernel
theorem dL_without_28 : decode cL_without 28 = .ok (.iload_n 3, 1) := by decide +kernel
theorem dL_without_29 : decode cL_without 29 = .ok (.iconst 1, 1) := by decide +kernel
theorem dL_without_30 : decode cL_without 30 = .ok (.iadd, 1) := by decide +kernel
theorem dL_without_31 : decode cL_without 31 = .ok (.aaload, 1) := by decide +kernel
theorem dL_without_32 : decode cL_without 32 = .ok (.aastore, 1) := by decide +kernel
theorem dL_without_33 : decode cL_without 33 = .ok (.iinc 3 1, 3) := by decide +kernel
theorem dL_without_36 : decode cL_without 36 = .ok (.goto (-26), 3) := by decide +kernel
theorem dL_without_39 : decode cL_without 39 = .ok (.aload_n 2, 1) := by decide +kernel
theorem dL_without_40 : decode cL_without 40 = .ok (.areturn, 1) := by decide +kernel
theorem dL_with__0 : decode cL_with_ 0 = .ok (.aload_n 0, 1) := by decide +kernel
theorem dL_with__1 : decode cL_with_ 1 = .ok (.arraylength, 1) := by decide +kernel
theorem dL_with__2 : decode cL_with_ 2 = .ok (.iconst 1, 1) := by decide +kernel
theorem dL_with__3 : decode cL_with_ 3 = .ok (.iadd, 1) := by decide +kernel
theorem dL_with__4 : decode cL_with_ 4 = .ok (.newarray .int, 2) := by decide +kernel
theorem dL_with__6 : decode cL_with_ 6 = .ok (.astore_n 2, 1) := by decide +kernel
theorem dL_with__7 : decode cL_with_ 7 = .ok (.iconst 0, 1) := by decide +kernel
theorem dL_with__8 : decode cL_with_ 8 = .ok (.istore_n 3, 1) := by decide +kernel
theorem dL_with__9 : decode cL_with_ 9 = .ok (.iload_n 3, 1) := by decide +kernel
theorem dL_with__10 : decode cL_with_ 10 = .ok (.aload_n 0, 1) := by decide +kernel
theorem dL_with__11 : decode cL_with_ 11 = .ok (.arraylength, 1) := by decide +kernel
theorem dL_with__12 : decode cL_with_ 12 = .ok (.if_icmp .ge 15, 3) := by decide +kernel
theorem dL_with__15 : decode cL_with_ 15 = .ok (.aload_n 2, 1) := by decide +kernel
theorem dL_with__16 : decode cL_with_ 16 = .ok (.iload_n 3, 1) := by decide +kernel
theorem dL_with__17 : decode cL_with_ 17 = .ok (.aload_n 0, 1) := by decide +kernel
theorem dL_with__18 : decode cL_with_ 18 = .ok (.iload_n 3, 1) := by decide +kernel
theorem dL_with__19 : decode cL_with_ 19 = .ok (.iaload, 1) := by decide +kernel
theorem dL_with__20 : decode cL_with_ 20 = .ok (.iastore, 1) := by decide +kernel
theorem dL_with__21 : decode cL_with_ 21 = .ok (.iinc 3 1, 3) := by decide +kernel
theorem dL_with__24 : decode cL_with_ 24 = .ok (.goto (-15), 3) := by decide +kernel
theorem dL_with__27 : decode cL_with_ 27 = .ok (.aload_n 2, 1) := by decide +kernel
theorem dL_with__28 : decode cL_with_ 28 = .ok (.aload_n 0, 1) := by decide +kernel
theorem dL_with__29 : decode cL_with_ 29 = .ok (.arraylength, 1) := by decide +kernel
theorem dL_with__30 : decode cL_with_ 30 = .ok (.iload_n 1, 1) := by decide +kernel
theorem dL_with__31 : decode cL_with_ 31 = .ok (.iastore, 1) := by decide +kernel
theorem dL_with__32 : decode cL_with_ 32 = .ok (.aload_n 2, 1) := by decide +kernel
theorem dL_with__33 : decode cL_with_ 33 = .ok (.areturn, 1) := by decide +kernel
theorem dL_without__0 : decode cL_without_ 0 = .ok (.aload_n 0, 1) := by decide +kernel
theorem dL_without__1 : decode cL_without_ 1 = .ok (.arraylength, 1) := by decide +kernel
theorem dL_without__2 : decode cL_without_ 2 = .ok (.iconst 1, 1) := by decide +kernel
theorem dL_without__3 : decode cL_without_ 3 = .ok (.isub, 1) := by decide +kernel
theorem dL_without__4 : decode cL_without_ 4 = .ok (.newarray .int, 2) := by decide +kernel
theorem dL_without__6 : decode cL_without_ 6 = .ok (.astore_n 2, 1) := by decide +kernel
theorem dL_without__7 : decode cL_without_ 7 = .ok (.iconst 0, 1) := by decide +kernel
theorem dL_without__8 : decode cL_without_ 8 = .ok (.istore_n 3, 1) := by decide +kernel
theorem dL_without__9 : decode cL_without_ 9 = .ok (.iload_n 3, 1) := by decide +kernel
theorem dL_without__10 : decode cL_without_ 10 = .ok (.aload_n 2, 1) := by decide +kernel
theorem dL_without__11 : decode cL_without_ 11 = .ok (.arraylength, 1) := by decide +kernel
theorem dL_without__12 : decode cL_without_ 12 = .ok (.if_icmp .ge 26, 3) := by decide +kernel
theorem dL_without__15 : decode cL_without_ 15 = .ok (.aload_n 2, 1) := by decide +kernel
theorem dL_without__16 : decode cL_without_ 16 = .ok (.iload_n 3, 1) := by decide +kernel
theorem dL_without__17 : decode cL_without_ 17 = .ok (.aload_n 0, 1) := by decide +kernel
theorem dL_without__18 : decode cL_without_ 18 = .ok (.iload_n 3, 1) := by decide +kernel
theorem dL_without__19 : decode cL_without_ 19 = .ok (.iload_n 1, 1) := by decide +kernel
theorem dL_without__20 : decode cL_without_ 20 = .ok (.if_icmp .ge 7, 3) := by decide +kernel
theorem dL_without__23 : decode cL_without_ 23 = .ok (.iload_n 3, 1) := by decide +kernel
theorem dL_without__24 : decode cL_without_ 24 = .ok (.goto 6, 3) := by decide +kernel
theorem dL_without__27 : decode cL_without_ 27 = .ok (.iload_n 3, 1) := by decide +kernel
theorem dL_without__28 : decode cL_without_ 28 = .ok (.iconst 1, 1) := by decide +kernel
theorem dL_without__29 : decode cL_without_ 29 = .ok (.iadd, 1) := by decide +kernel
theorem dL_without__30 : decode cL_without_ 30 = .ok (.iaload, 1) := by decide +kernel
theorem dL_without__31 : decode cL_without_ 31 = .ok (.iastore, 1) := by decide +kernel
theorem dL_without__32 : decode cL_without_ 32 = .ok (.iinc 3 1, 3) := by decide +kernel
theorem dL_without__35 : decode cL_without_ 35 = .ok (.goto (-26), 3) := by decide +kernel
theorem dL_without__38 : decode cL_without_ 38 = .ok (.aload_n 2, 1) := by decide +kernel
theorem dL_without__39 : decode cL_without_ 39 = .ok (.areturn, 1) := by decide +kernel
theorem dL_fetch_0 : decode cL_fetch 0 = .ok (.aload_n 0, 1) := by decide +kernel
theorem dL_fetch_1 : decode cL_fetch 1 = .ok (.iload_n 1, 1) := by decide +kernel
theorem dL_fetch_2 : decode cL_fetch 2 = .ok (.invokevirtual 11, 3) := by decide +kernel
theorem dL_fetch_5 : decode cL_fetch 5 = .ok (.ireturn, 1) := by decide +kernel
theorem dL_fetch_6 : decode cL_fetch 6 = .ok (.astore_n 2, 1) := by decide +kernel
theorem dL_fetch_7 : decode cL_fetch 7 = .ok (.bipush (-9), 2) := by decide +kernel
theorem dL_fetch_9 : decode cL_fetch 9 = .ok (.ireturn, 1) := by decide +kernel
theorem dL_act_0 : decode cL_act 0 = .ok (.iload_n 2, 1) := by decide +kernel
theorem dL_act_1 : decode cL_act 1 = .ok (.iconst 1, 1) := by decide +kernel
theorem dL_act_2 : decode cL_act 2 = .ok (.ishr, 1) := by decide +kernel
theorem dL_act_3 : decode cL_act 3 = .ok (.iload_n 2, 1) := by decide +kernel
theorem dL_act_4 : decode cL_act 4 = .ok (.iconst 5, 1) := by decide +kernel
theorem dL_act_5 : decode cL_act 5 = .ok (.ishr, 1) := by decide +kernel
theorem dL_act_6 : decode cL_act 6 = .ok (.iconst 3, 1) := by decide +kernel
theorem dL_act_7 : decode cL_act 7 = .ok (.invokestatic 19, 3) := by decide +kernel
theorem dL_act_10 : decode cL_act 10 = .ok (.ifCond .ne 8, 3) := by decide +kernel
theorem dL_act_13 : decode cL_act 13 = .ok (.bipush 40, 2) := by decide +kernel
theorem dL_act_15 : decode cL_act 15 = .ok (.goto 5, 3) := by decide +kernel
theorem dL_act_18 : decode cL_act 18 = .ok (.bipush 11, 2) := by decide +kernel
theorem dL_act_20 : decode cL_act 20 = .ok (.invokestatic 19, 3) := by decide +kernel
theorem dL_act_23 : decode cL_act 23 = .ok (.istore_n 3, 1) := by decide +kernel
theorem dL_act_24 : decode cL_act 24 = .ok (.aload_n 1, 1) := by decide +kernel
theorem dL_act_25 : decode cL_act 25 = .ok (.iload_n 3, 1) := by decide +kernel
theorem dL_act_26 : decode cL_act 26 = .ok (.invokevirtual 25, 3) := by decide +kernel
theorem dL_act_29 : decode cL_act 29 = .ok (.astore 4, 2) := by decide +kernel
theorem dL_act_31 : decode cL_act 31 = .ok (.iload_n 2, 1) := by decide +kernel
theorem dL_act_32 : decode cL_act 32 = .ok (.bipush 9, 2) := by decide +kernel
theorem dL_act_34 : decode cL_act 34 = .ok (.ishr, 1) := by decide +kernel
theorem dL_act_35 : decode cL_act 35 = .ok (.bipush 22, 2) := by decide +kernel
theorem dL_act_37 : decode cL_act 37 = .ok (.invokestatic 19, 3) := by decide +kernel
theorem dL_act_40 : decode cL_act 40 = .ok (.tableswitch 435 0 8 #[52, 52, 99, 99, 99, 187, 293, 345, 386], 52) := by decide +kernel
theorem dL_act_92 : decode cL_act 92 = .ok (.aload 4, 2) := by decide +kernel
theorem dL_act_94 : decode cL_act 94 = .ok (.ifnull 13, 3) := by decide +kernel
theorem dL_act_97 : decode cL_act 97 = .ok (.aload 4, 2) := by decide +kernel
theorem dL_act_99 : decode cL_act 99 = .ok (.getfield 31, 3) := by decide +kernel
theorem dL_act_102 : decode cL_act 102 = .ok (.bipush 9, 2) := by decide +kernel
theorem dL_act_104 : decode cL_act 104 = .ok (.if_icmp .ne 5, 3) := by decide +kernel
theorem dL_act_107 : decode cL_act 107 = .ok (.iconst 1, 1) := by decide +kernel
theorem dL_act_108 : decode cL_act 108 = .ok (.ireturn, 1) := by decide +kernel
theorem dL_act_109 : decode cL_act 109 = .ok (.aload 4, 2) := by decide +kernel
theorem dL_act_111 : decode cL_act 111 = .ok (.dup, 1) := by decide +kernel
theorem dL_act_112 : decode cL_act 112 = .ok (.getfield 31, 3) := by decide +kernel
theorem dL_act_115 : decode cL_act 115 = .ok (.iconst 1, 1) := by decide +kernel
theorem dL_act_116 : decode cL_act 116 = .ok (.iadd, 1) := by decide +kernel
theorem dL_act_117 : decode cL_act 117 = .ok (.putfield 31, 3) := by decide +kernel
theorem dL_act_120 : decode cL_act 120 = .ok (.aload_n 0, 1) := by decide +kernel
theorem dL_act_121 : decode cL_act 121 = .ok (.iload_n 3, 1) := by decide +kernel
theorem dL_act_122 : decode cL_act 122 = .ok (.invokevirtual 35, 3) := by decide +kernel
theorem dL_act_125 : decode cL_act 125 = .ok (.aload 4, 2) := by decide +kernel
theorem dL_act_127 : decode cL_act 127 = .ok (.getfield 31, 3) := by decide +kernel
theorem dL_act_130 : decode cL_act 130 = .ok (.if_icmp .ne 7, 3) := by decide +kernel
theorem dL_act_133 : decode cL_act 133 = .ok (.iconst 1, 1) := by decide +kernel
theorem dL_act_134 : decode cL_act 134 = .ok (.goto 4, 3) := by decide +kernel
theorem dL_act_137 : decode cL_act 137 = .ok (.iconst 0, 1) := by decide +kernel
theorem dL_act_138 : decode cL_act 138 = .ok (.ireturn, 1) := by decide +kernel
theorem dL_act_139 : decode cL_act 139 = .ok (.iconst 0, 1) := by decide +kernel
theorem dL_act_140 : decode cL_act 140 = .ok (.istore 5, 2) := by decide +kernel
theorem dL_act_142 : decode cL_act 142 = .ok (.iload 5, 2) := by decide +kernel
theorem dL_act_144 : decode cL_act 144 = .ok (.bipush 40, 2) := by decide +kernel
theorem dL_act_146 : decode cL_act 146 = .ok (.if_icmp .ge 36, 3) := by decide +kernel
theorem dL_act_149 : decode cL_act 149 = .ok (.aload 4, 2) := by decide +kernel
theorem dL_act_151 : decode cL_act 151 = .ok (.ifnull 11, 3) := by decide +kernel
theorem dL_act_154 : decode cL_act 154 = .ok (.aload 4, 2) := by decide +kernel
theorem dL_act_156 : decode cL_act 156 = .ok (.getfield 31, 3) := by decide +kernel
theorem dL_act_159 : decode cL_act 159 = .ok (.ifCond .ne 23, 3) := by decide +kernel
theorem dL_act_162 : decode cL_act 162 = .ok (.iload_n 3, 1) := by decide +kernel
theorem dL_act_163 : decode cL_act 163 = .ok (.iconst 1, 1) := by decide +kernel
theorem dL_act_164 : decode cL_act 164 = .ok (.iadd, 1) := by decide +kernel
theorem dL_act_165 : decode cL_act 165 = .ok (.bipush 40, 2) := by decide +kernel
theorem dL_act_167 : decode cL_act 167 = .ok (.irem, 1) := by decide +kernel
theorem dL_act_168 : decode cL_act 168 = .ok (.istore_n 3, 1) := by decide +kernel
theorem dL_act_169 : decode cL_act 169 = .ok (.aload_n 1, 1) := by decide +kernel
theorem dL_act_170 : decode cL_act 170 = .ok (.iload_n 3, 1) := by decide +kernel
theorem dL_act_171 : decode cL_act 171 = .ok (.invokevirtual 25, 3) := by decide +kernel
theorem dL_act_174 : decode cL_act 174 = .ok (.astore 4, 2) := by decide +kernel
theorem dL_act_176 : decode cL_act 176 = .ok (.iinc 5 1, 3) := by decide +kernel
theorem dL_act_179 : decode cL_act 179 = .ok (.goto (-37), 3) := by decide +kernel
theorem dL_act_182 : decode cL_act 182 = .ok (.aload 4, 2) := by decide +kernel
theorem dL_act_184 : decode cL_act 184 = .ok (.ifnull 11, 3) := by decide +kernel
theorem dL_act_187 : decode cL_act 187 = .ok (.aload 4, 2) := by decide +kernel
theorem dL_act_189 : decode cL_act 189 = .ok (.getfield 31, 3) := by decide +kernel
theorem dL_act_192 : decode cL_act 192 = .ok (.ifCond .ne 5, 3) := by decide +kernel
theorem dL_act_195 : decode cL_act 195 = .ok (.iconst 1, 1) := by decide +kernel
theorem dL_act_196 : decode cL_act 196 = .ok (.ireturn, 1) := by decide +kernel
theorem dL_act_197 : decode cL_act 197 = .ok (.aload 4, 2) := by decide +kernel
theorem dL_act_199 : decode cL_act 199 = .ok (.dup, 1) := by decide +kernel
theorem dL_act_200 : decode cL_act 200 = .ok (.getfield 31, 3) := by decide +kernel
theorem dL_act_203 : decode cL_act 203 = .ok (.iconst 1, 1) := by decide +kernel
theorem dL_act_204 : decode cL_act 204 = .ok (.isub, 1) := by decide +kernel
theorem dL_act_205 : decode cL_act 205 = .ok (.putfield 31, 3) := by decide +kernel
theorem dL_act_208 : decode cL_act 208 = .ok (.aload_n 0, 1) := by decide +kernel
theorem dL_act_209 : decode cL_act 209 = .ok (.iload_n 3, 1) := by decide +kernel
theorem dL_act_210 : decode cL_act 210 = .ok (.invokevirtual 38, 3) := by decide +kernel
theorem dL_act_213 : decode cL_act 213 = .ok (.aload 4, 2) := by decide +kernel
theorem dL_act_215 : decode cL_act 215 = .ok (.getfield 31, 3) := by decide +kernel
theorem dL_act_218 : decode cL_act 218 = .ok (.if_icmp .ne 7, 3) := by decide +kernel
theorem dL_act_221 : decode cL_act 221 = .ok (.iconst 1, 1) := by decide +kernel
theorem dL_act_222 : decode cL_act 222 = .ok (.goto 4, 3) := by decide +kernel
theorem dL_act_225 : decode cL_act 225 = .ok (.iconst 0, 1) := by decide +kernel
theorem dL_act_226 : decode cL_act 226 = .ok (.ireturn, 1) := by decide +kernel
theorem dL_act_227 : decode cL_act 227 = .ok (.aload 4, 2) := by decide +kernel
theorem dL_act_229 : decode cL_act 229 = .ok (.ifnull 11, 3) := by decide +kernel
theorem dL_act_232 : decode cL_act 232 = .ok (.aload 4, 2) := by decide +kernel
theorem dL_act_234 : decode cL_act 234 = .ok (.getfield 31, 3) := by decide +kernel
theorem dL_act_237 : decode cL_act 237 = .ok (.ifCond .le 5, 3) := by decide +kernel
theorem dL_act_240 : decode cL_act 240 = .ok (.iconst 1, 1) := by decide +kernel
theorem dL_act_241 : decode cL_act 241 = .ok (.ireturn, 1) := by decide +kernel
theorem dL_act_242 : decode cL_act 242 = .ok (.iconst 0, 1) := by decide +kernel
theorem dL_act_243 : decode cL_act 243 = .ok (.istore 5, 2) := by decide +kernel
theorem dL_act_245 : decode cL_act 245 = .ok (.iload 5, 2) := by decide +kernel
theorem dL_act_247 : decode cL_act 247 = .ok (.iconst 2, 1) := by decide +kernel
theorem dL_act_248 : decode cL_act 248 = .ok (.if_icmp .ge 66, 3) := by decide +kernel
theorem dL_act_251 : decode cL_act 251 = .ok (.aload_n 1, 1) := by decide +kernel
theorem dL_act_252 : decode cL_act 252 = .ok (.getfield 41, 3) := by decide +kernel
theorem dL_act_255 : decode cL_act 255 = .ok (.iload 5, 2) := by decide +kernel
theorem dL_act_257 : decode cL_act 257 = .ok (.aaload, 1) := by decide +kernel
theorem dL_act_258 : decode cL_act 258 = .ok (.arraylength, 1) := by decide +kernel
theorem dL_act_259 : decode cL_act 259 = .ok (.iconst 1, 1) := by decide +kernel
theorem dL_act_260 : decode cL_act 260 = .ok (.isub, 1) := by decide +kernel
theorem dL_act_261 : decode cL_act 261 = .ok (.istore 6, 2) := by decide +kernel
theorem dL_act_263 : decode cL_act 263 = .ok (.iload 6, 2) := by decide +kernel
theorem dL_act_265 : decode cL_act 265 = .ok (.ifCond .lt 43, 3) := by decide +kernel
theorem dL_act_268 : decode cL_act 268 = .ok (.aload_n 1, 1) := by decide +kernel
theorem dL_act_269 : decode cL_act 269 = .ok (.getfield 41, 3) := by decide +kernel
theorem dL_act_272 : decode cL_act 272 = .ok (.iload 5, 2) := by decide +kernel
theorem dL_act_274 : decode cL_act 274 = .ok (.aaload, 1) := by decide +kernel
theorem dL_act_275 : decode cL_act 275 = .ok (.iload 6, 2) := by decide +kernel
theorem dL_act_277 : decode cL_act 277 = .ok (.aaload, 1) := by decide +kernel
theorem dL_act_278 : decode cL_act 278 = .ok (.aload 4, 2) := by decide +kernel
theorem dL_act_280 : decode cL_act 280 = .ok (.if_acmp .ne 22, 3) := by decide +kernel
theorem dL_act_283 : decode cL_act 283 = .ok (.aload_n 1, 1) := by decide +kernel
theorem dL_act_284 : decode cL_act 284 = .ok (.getfield 41, 3) := by decide +kernel
theorem dL_act_287 : decode cL_act 287 = .ok (.iload 5, 2) := by decide +kernel
theorem dL_act_289 : decode cL_act 289 = .ok (.aload_n 1, 1) := by decide +kernel
theorem dL_act_290 : decode cL_act 290 = .ok (.getfield 41, 3) := by decide +kernel
theorem dL_act_293 : decode cL_act 293 = .ok (.iload 5, 2) := by decide +kernel
theorem dL_act_295 : decode cL_act 295 = .ok (.aaload, 1) := by decide +kernel
theorem dL_act_296 : decode cL_act 296 = .ok (.iload 6, 2) := by decide +kernel
theorem dL_act_298 : decode cL_act 298 = .ok (.invokestatic 45, 3) := by decide +kernel
theorem dL_act_301 : decode cL_act 301 = .ok (.aastore, 1) := by decide +kernel
theorem dL_act_302 : decode cL_act 302 = .ok (.iinc 6 (-1), 3) := by decide +kernel
theorem dL_act_305 : decode cL_act 305 = .ok (.goto (-42), 3) := by decide +kernel
theorem dL_act_308 : decode cL_act 308 = .ok (.iinc 5 1, 3) := by decide +kernel
theorem dL_act_311 : decode cL_act 311 = .ok (.goto (-66), 3) := by decide +kernel
theorem dL_act_314 : decode cL_act 314 = .ok (.aload_n 0, 1) := by decide +kernel
theorem dL_act_315 : decode cL_act 315 = .ok (.iload_n 3, 1) := by decide +kernel
theorem dL_act_316 : decode cL_act 316 = .ok (.invokevirtual 49, 3) := by decide +kernel
theorem dL_act_319 : decode cL_act 319 = .ok (.aload 4, 2) := by decide +kernel
theorem dL_act_321 : decode cL_act 321 = .ok (.getfield 52, 3) := by decide +kernel
theorem dL_act_324 : decode cL_act 324 = .ok (.if_icmp .ne 7, 3) := by decide +kernel
theorem dL_act_327 : decode cL_act 327 = .ok (.iconst 1, 1) := by decide +kernel
theorem dL_act_328 : decode cL_act 328 = .ok (.goto 4, 3) := by decide +kernel
theorem dL_act_331 : decode cL_act 331 = .ok (.iconst 0, 1) := by decide +kernel
theorem dL_act_332 : decode cL_act 332 = .ok (.ireturn, 1) := by decide +kernel
theorem dL_act_333 : decode cL_act 333 = .ok (.iconst 2, 1) := by decide +kernel
theorem dL_act_334 : decode cL_act 334 = .ok (.iload_n 2, 1) := by decide +kernel
theorem dL_act_335 : decode cL_act 335 = .ok (.iconst 2, 1) := by decide +kernel
theorem dL_act_336 : decode cL_act 336 = .ok (.ishr, 1) := by decide +kernel
theorem dL_act_337 : decode cL_act 337 = .ok (.bipush 11, 2) := by decide +kernel
theorem dL_act_339 : decode cL_act 339 = .ok (.invokestatic 19, 3) := by decide +kernel
theorem dL_act_342 : decode cL_act 342 = .ok (.iadd, 1) := by decide +kernel
theorem dL_act_343 : decode cL_act 343 = .ok (.istore 5, 2) := by decide +kernel
theorem dL_act_345 : decode cL_act 345 = .ok (.aload_n 1, 1) := by decide +kernel
theorem dL_act_346 : decode cL_act 346 = .ok (.invokevirtual 55, 3) := by decide +kernel
theorem dL_act_349 : decode cL_act 349 = .ok (.iload 5, 2) := by decide +kernel
theorem dL_act_351 : decode cL_act 351 = .ok (.if_icmp .le 5, 3) := by decide +kernel
theorem dL_act_354 : decode cL_act 354 = .ok (.iconst 1, 1) := by decide +kernel
theorem dL_act_355 : decode cL_act 355 = .ok (.ireturn, 1) := by decide +kernel
theorem dL_act_356 : decode cL_act 356 = .ok (.aload_n 1, 1) := by decide +kernel
theorem dL_act_357 : decode cL_act 357 = .ok (.getfield 59, 3) := by decide +kernel
theorem dL_act_360 : decode cL_act 360 = .ok (.istore 6, 2) := by decide +kernel
theorem dL_act_362 : decode cL_act 362 = .ok (.aload_n 1, 1) := by decide +kernel
theorem dL_act_363 : decode cL_act 363 = .ok (.iload 5, 2) := by decide +kernel
theorem dL_act_365 : decode cL_act 365 = .ok (.invokevirtual 62, 3) := by decide +kernel
theorem dL_act_368 : decode cL_act 368 = .ok (.aload_n 0, 1) := by decide +kernel
theorem dL_act_369 : decode cL_act 369 = .ok (.iload 5, 2) := by decide +kernel
theorem dL_act_371 : decode cL_act 371 = .ok (.invokevirtual 66, 3) := by decide +kernel
theorem dL_act_374 : decode cL_act 374 = .ok (.iload 6, 2) := by decide +kernel
theorem dL_act_376 : decode cL_act 376 = .ok (.if_icmp .ne 7, 3) := by decide +kernel
theorem dL_act_379 : decode cL_act 379 = .ok (.iconst 1, 1) := by decide +kernel
theorem dL_act_380 : decode cL_act 380 = .ok (.goto 4, 3) := by decide +kernel
theorem dL_act_383 : decode cL_act 383 = .ok (.iconst 0, 1) := by decide +kernel
theorem dL_act_384 : decode cL_act 384 = .ok (.ireturn, 1) := by decide +kernel
theorem dL_act_385 : decode cL_act 385 = .ok (.aload_n 1, 1) := by decide +kernel
theorem dL_act_386 : decode cL_act 386 = .ok (.getfield 68, 3) := by decide +kernel
theorem dL_act_389 : decode cL_act 389 = .ok (.istore 7, 2) := by decide +kernel
theorem dL_act_391 : decode cL_act 391 = .ok (.aload_n 1, 1) := by decide +kernel
theorem dL_act_392 : decode cL_act 392 = .ok (.iload_n 2, 1) := by decide +kernel
theorem dL_act_393 : decode cL_act 393 = .ok (.iconst 2, 1) := by decide +kernel
theorem dL_act_394 : decode cL_act 394 = .ok (.ishr, 1) := by decide +kernel
theorem dL_act_395 : decode cL_act 395 = .ok (.aload_n 1, 1) := by decide +kernel
theorem dL_act_396 : decode cL_act 396 = .ok (.getfield 59, 3) := by decide +kernel
theorem dL_act_399 : decode cL_act 399 = .ok (.iconst 1, 1) := by decide +kernel
theorem dL_act_400 : decode cL_act 400 = .ok (.iadd, 1) := by decide +kernel
theorem dL_act_401 : decode cL_act 401 = .ok (.invokestatic 19, 3) := by decide +kernel
theorem dL_act_404 : decode cL_act 404 = .ok (.putfield 68, 3) := by decide +kernel
theorem dL_act_407 : decode cL_act 407 = .ok (.aload_n 0, 1) := by decide +kernel
theorem dL_act_408 : decode cL_act 408 = .ok (.aload_n 1, 1) := by decide +kernel
theorem dL_act_409 : decode cL_act 409 = .ok (.getfield 68, 3) := by decide +kernel
theorem dL_act_412 : decode cL_act 412 = .ok (.invokevirtual 71, 3) := by decide +kernel
theorem dL_act_415 : decode cL_act 415 = .ok (.iload 7, 2) := by decide +kernel
theorem dL_act_417 : decode cL_act 417 = .ok (.if_icmp .ne 7, 3) := by decide +kernel
theorem dL_act_420 : decode cL_act 420 = .ok (.iconst 1, 1) := by decide +kernel
theorem dL_act_421 : decode cL_act 421 = .ok (.goto 4, 3) := by decide +kernel
theorem dL_act_424 : decode cL_act 424 = .ok (.iconst 0, 1) := by decide +kernel
theorem dL_act_425 : decode cL_act 425 = .ok (.ireturn, 1) := by decide +kernel
theorem dL_act_426 : decode cL_act 426 = .ok (.iload_n 2, 1) := by decide +kernel
theorem dL_act_427 : decode cL_act 427 = .ok (.iconst 3, 1) := by decide +kernel
theorem dL_act_428 : decode cL_act 428 = .ok (.ishr, 1) := by decide +kernel
theorem dL_act_429 : decode cL_act 429 = .ok (.bipush 40, 2) := by decide +kernel
theorem dL_act_431 : decode cL_act 431 = .ok (.invokestatic 19, 3) := by decide +kernel
theorem dL_act_434 : decode cL_act 434 = .ok (.istore 8, 2) := by decide +kernel
theorem dL_act_436 : decode cL_act 436 = .ok (.iconst 1, 1) := by decide +kernel
theorem dL_act_437 : decode cL_act 437 = .ok (.iload_n 2, 1) := by decide +kernel
theorem dL_act_438 : decode cL_act 438 = .ok (.iconst 4, 1) := by decide +kernel
theorem dL_act_439 : decode cL_act 439 = .ok (.ishr, 1) := by decide +kernel
theorem dL_act_440 : decode cL_act 440 = .ok (.bipush 30, 2) := by decide +kernel
theorem dL_act_442 : decode cL_act 442 = .ok (.invokestatic 19, 3) := by decide +kernel
theorem dL_act_445 : decode cL_act 445 = .ok (.iadd, 1) := by decide +kernel
theorem dL_act_446 : decode cL_act 446 = .ok (.istore 9, 2) := by decide +kernel
theorem dL_act_448 : decode cL_act 448 = .ok (.aload_n 0, 1) := by decide +kernel
theorem dL_act_449 : decode cL_act 449 = .ok (.iload_n 3, 1) := by decide +kernel
theorem dL_act_450 : decode cL_act 450 = .ok (.iload 8, 2) := by decide +kernel
theorem dL_act_452 : decode cL_act 452 = .ok (.iload 9, 2) := by decide +kernel
theorem dL_act_454 : decode cL_act 454 = .ok (.invokevirtual 74, 3) := by decide +kernel
theorem dL_act_457 : decode cL_act 457 = .ok (.aload_n 1, 1) := by decide +kernel
theorem dL_act_458 : decode cL_act 458 = .ok (.iload_n 3, 1) := by decide +kernel
theorem dL_act_459 : decode cL_act 459 = .ok (.iload 8, 2) := by decide +kernel
theorem dL_act_461 : decode cL_act 461 = .ok (.iload 9, 2) := by decide +kernel
theorem dL_act_463 : decode cL_act 463 = .ok (.invokevirtual 78, 3) := by decide +kernel
theorem dL_act_466 : decode cL_act 466 = .ok (.if_icmp .ne 7, 3) := by decide +kernel
theorem dL_act_469 : decode cL_act 469 = .ok (.iconst 1, 1) := by decide +kernel
theorem dL_act_470 : decode cL_act 470 = .ok (.goto 4, 3) := by decide +kernel
theorem dL_act_473 : decode cL_act 473 = .ok (.iconst 0, 1) := by decide +kernel
theorem dL_act_474 : decode cL_act 474 = .ok (.ireturn, 1) := by decide +kernel
theorem dL_act_475 : decode cL_act 475 = .ok (.aload_n 0, 1) := by decide +kernel
theorem dL_act_476 : decode cL_act 476 = .ok (.iload_n 3, 1) := by decide +kernel
theorem dL_act_477 : decode cL_act 477 = .ok (.invokestatic 79, 3) := by decide +kernel
theorem dL_act_480 : decode cL_act 480 = .ok (.aload_n 1, 1) := by decide +kernel
theorem dL_act_481 : decode cL_act 481 = .ok (.iload_n 3, 1) := by decide +kernel
theorem dL_act_482 : decode cL_act 482 = .ok (.invokevirtual 82, 3) := by decide +kernel
theorem dL_act_485 : decode cL_act 485 = .ok (.if_icmp .ne 7, 3) := by decide +kernel
theorem dL_act_488 : decode cL_act 488 = .ok (.iconst 1, 1) := by decide +kernel
theorem dL_act_489 : decode cL_act 489 = .ok (.goto 4, 3) := by decide +kernel
theorem dL_act_492 : decode cL_act 492 = .ok (.iconst 0, 1) := by decide +kernel
theorem dL_act_493 : decode cL_act 493 = .ok (.ireturn, 1) := by decide +kernel
theorem dL_build_0 : decode cL_build 0 = .ok (.new 26, 3) := by decide +kernel
theorem dL_build_3 : decode cL_build 3 = .ok (.dup, 1) := by decide +kernel
theorem dL_build_4 : decode cL_build 4 = .ok (.invokespecial 83, 3) := by decide +kernel
theorem dL_build_7 : decode cL_build 7 = .ok (.astore_n 2, 1) := by decide +kernel
theorem dL_build_8 : decode cL_build 8 = .ok (.bipush 15, 2) := by decide +kernel
theorem dL_build_10 : decode cL_build 10 = .ok (.aload_n 1, 1) := by decide +kernel
theorem dL_build_11 : decode cL_build 11 = .ok (.iconst 0, 1) := by decide +kernel
theorem dL_build_12 : decode cL_build 12 = .ok (.invokestatic 84, 3) := by decide +kernel
theorem dL_build_15 : decode cL_build 15 = .ok (.bipush 60, 2) := by decide +kernel
theorem dL_build_17 : decode cL_build 17 = .ok (.invokestatic 19, 3) := by decide +kernel
theorem dL_build_20 : decode cL_build 20 = .ok (.iadd, 1) := by decide +kernel
theorem dL_build_21 : decode cL_build 21 = .ok (.istore_n 3, 1) := by decide +kernel
theorem dL_build_22 : decode cL_build 22 = .ok (.iconst 0, 1) := by decide +kernel
theorem dL_build_23 : decode cL_build 23 = .ok (.istore 4, 2) := by decide +kernel
theorem dL_build_25 : decode cL_build 25 = .ok (.iload 4, 2) := by decide +kernel
theorem dL_build_27 : decode cL_build 27 = .ok (.iload_n 3, 1) := by decide +kernel
theorem dL_build_28 : decode cL_build 28 = .ok (.if_icmp .ge 43, 3) := by decide +kernel
theorem dL_build_31 : decode cL_build 31 = .ok (.aload_n 0, 1) := by decide +kernel
theorem dL_build_32 : decode cL_build 32 = .ok (.aload_n 2, 1) := by decide +kernel
theorem dL_build_33 : decode cL_build 33 = .ok (.aload_n 1, 1) := by decide +kernel
theorem dL_build_34 : decode cL_build 34 = .ok (.iload 4, 2) := by decide +kernel
theorem dL_build_36 : decode cL_build 36 = .ok (.bipush 16, 2) := by decide +kernel
theorem dL_build_38 : decode cL_build 38 = .ok (.irem, 1) := by decide +kernel
theorem dL_build_39 : decode cL_build 39 = .ok (.invokestatic 84, 3) := by decide +kernel
theorem dL_build_42 : decode cL_build 42 = .ok (.iload 4, 2) := by decide +kernel
theorem dL_build_44 : decode cL_build 44 = .ok (.bipush 16, 2) := by decide +kernel
theorem dL_build_46 : decode cL_build 46 = .ok (.idiv, 1) := by decide +kernel
theorem dL_build_47 : decode cL_build 47 = .ok (.iconst 3, 1) := by decide +kernel
theorem dL_build_48 : decode cL_build 48 = .ok (.imul, 1) := by decide +kernel
theorem dL_build_49 : decode cL_build 49 = .ok (.ishr, 1) := by decide +kernel
theorem dL_build_50 : decode cL_build 50 = .ok (.sipush 373, 3) := by decide +kernel
theorem dL_build_53 : decode cL_build 53 = .ok (.iload 4, 2) := by decide +kernel
theorem dL_build_55 : decode cL_build 55 = .ok (.imul, 1) := by decide +kernel
theorem dL_build_56 : decode cL_build 56 = .ok (.iadd, 1) := by decide +kernel
theorem dL_build_57 : decode cL_build 57 = .ok (.invokestatic 88, 3) := by decide +kernel
theorem dL_build_60 : decode cL_build 60 = .ok (.ifCond .ne 5, 3) := by decide +kernel
theorem dL_build_63 : decode cL_build 63 = .ok (.aconst_null, 1) := by decide +kernel
theorem dL_build_64 : decode cL_build 64 = .ok (.areturn, 1) := by decide +kernel
theorem dL_build_65 : decode cL_build 65 = .ok (.iinc 4 1, 3) := by decide +kernel
theorem dL_build_68 : decode cL_build 68 = .ok (.goto (-43), 3) := by decide +kernel
theorem dL_build_71 : decode cL_build 71 = .ok (.aload_n 2, 1) := by decide +kernel
theorem dL_build_72 : decode cL_build 72 = .ok (.areturn, 1) := by decide +kernel
theorem dL_law_0 : decode cL_law 0 = .ok (.new 12, 3) := by decide +kernel
theorem dL_law_3 : decode cL_law 3 = .ok (.dup, 1) := by decide +kernel
theorem dL_law_4 : decode cL_law 4 = .ok (.invokespecial 92, 3) := by decide +kernel
theorem dL_law_7 : decode cL_law 7 = .ok (.astore_n 1, 1) := by decide +kernel
theorem dL_law_8 : decode cL_law 8 = .ok (.aload_n 1, 1) := by decide +kernel
theorem dL_law_9 : decode cL_law 9 = .ok (.aload_n 0, 1) := by decide +kernel
theorem dL_law_10 : decode cL_law 10 = .ok (.invokestatic 93, 3) := by decide +kernel
theorem dL_law_13 : decode cL_law 13 = .ok (.astore_n 2, 1) := by decide +kernel
theorem dL_law_14 : decode cL_law 14 = .ok (.aload_n 2, 1) := by decide +kernel
theorem dL_law_15 : decode cL_law 15 = .ok (.ifnonnull 5, 3) := by decide +kernel
theorem dL_law_18 : decode cL_law 18 = .ok (.iconst 0, 1) := by decide +kernel
theorem dL_law_19 : decode cL_law 19 = .ok (.ireturn, 1) := by decide +kernel
theorem dL_law_20 : decode cL_law 20 = .ok (.iconst 0, 1) := by decide +kernel
theorem dL_law_21 : decode cL_law 21 = .ok (.istore_n 3, 1) := by decide +kernel
theorem dL_law_22 : decode cL_law 22 = .ok (.iload_n 3, 1) := by decide +kernel
theorem dL_law_23 : decode cL_law 23 = .ok (.bipush 60, 2) := by decide +kernel
theorem dL_law_25 : decode cL_law 25 = .ok (.if_icmp .ge 507, 3) := by decide +kernel
theorem dL_law_28 : decode cL_law 28 = .ok (.aload_n 0, 1) := by decide +kernel
theorem dL_law_29 : decode cL_law 29 = .ok (.iload_n 3, 1) := by decide +kernel
theorem dL_law_30 : decode cL_law 30 = .ok (.bipush 16, 2) := by decide +kernel
theorem dL_law_32 : decode cL_law 32 = .ok (.irem, 1) := by decide +kernel
theorem dL_law_33 : decode cL_law 33 = .ok (.invokestatic 84, 3) := by decide +kernel
theorem dL_law_36 : decode cL_law 36 = .ok (.iload_n 3, 1) := by decide +kernel
theorem dL_law_37 : decode cL_law 37 = .ok (.bipush 16, 2) := by decide +kernel
theorem dL_law_39 : decode cL_law 39 = .ok (.idiv, 1) := by decide +kernel
theorem dL_law_40 : decode cL_law 40 = .ok (.iconst 3, 1) := by decide +kernel
theorem dL_law_41 : decode cL_law 41 = .ok (.imul, 1) := by decide +kernel
theorem dL_law_42 : decode cL_law 42 = .ok (.ishr, 1) := by decide +kernel
theorem dL_law_43 : decode cL_law 43 = .ok (.sipush 373, 3) := by decide +kernel
theorem dL_law_46 : decode cL_law 46 = .ok (.iload_n 3, 1) := by decide +kernel
theorem dL_law_47 : decode cL_law 47 = .ok (.imul, 1) := by decide +kernel
theorem dL_law_48 : decode cL_law 48 = .ok (.iadd, 1) := by decide +kernel
theorem dL_law_49 : decode cL_law 49 = .ok (.istore 4, 2) := by decide +kernel
theorem dL_law_51 : decode cL_law 51 = .ok (.aload_n 1, 1) := by decide +kernel
theorem dL_law_52 : decode cL_law 52 = .ok (.aload_n 2, 1) := by decide +kernel
theorem dL_law_53 : decode cL_law 53 = .ok (.iload 4, 2) := by decide +kernel
theorem dL_law_55 : decode cL_law 55 = .ok (.invokestatic 88, 3) := by decide +kernel
theorem dL_law_58 : decode cL_law 58 = .ok (.ifCond .ne 5, 3) := by decide +kernel
theorem dL_law_61 : decode cL_law 61 = .ok (.iconst 0, 1) := by decide +kernel
theorem dL_law_62 : decode cL_law 62 = .ok (.ireturn, 1) := by decide +kernel
theorem dL_law_63 : decode cL_law 63 = .ok (.iload 4, 2) := by decide +kernel
theorem dL_law_65 : decode cL_law 65 = .ok (.iconst 1, 1) := by decide +kernel
theorem dL_law_66 : decode cL_law 66 = .ok (.ishr, 1) := by decide +kernel
theorem dL_law_67 : decode cL_law 67 = .ok (.bipush 40, 2) := by decide +kernel
theorem dL_law_69 : decode cL_law 69 = .ok (.invokestatic 19, 3) := by decide +kernel
theorem dL_law_72 : decode cL_law 72 = .ok (.istore 5, 2) := by decide +kernel
theorem dL_law_74 : decode cL_law 74 = .ok (.aload_n 1, 1) := by decide +kernel
theorem dL_law_75 : decode cL_law 75 = .ok (.iconst 1, 1) := by decide +kernel
theorem dL_law_76 : decode cL_law 76 = .ok (.invokevirtual 97, 3) := by decide +kernel
theorem dL_law_79 : decode cL_law 79 = .ok (.aload_n 1, 1) := by decide +kernel
theorem dL_law_80 : decode cL_law 80 = .ok (.iconst 2, 1) := by decide +kernel
theorem dL_law_81 : decode cL_law 81 = .ok (.invokevirtual 97, 3) := by decide +kernel
theorem dL_law_84 : decode cL_law 84 = .ok (.iadd, 1) := by decide +kernel
theorem dL_law_85 : decode cL_law 85 = .ok (.istore 6, 2) := by decide +kernel
theorem dL_law_87 : decode cL_law 87 = .ok (.aload_n 1, 1) := by decide +kernel
theorem dL_law_88 : decode cL_law 88 = .ok (.iconst 0, 1) := by decide +kernel
theorem dL_law_89 : decode cL_law 89 = .ok (.invokevirtual 97, 3) := by decide +kernel
theorem dL_law_92 : decode cL_law 92 = .ok (.istore 7, 2) := by decide +kernel
theorem dL_law_94 : decode cL_law 94 = .ok (.aload_n 1, 1) := by decide +kernel
theorem dL_law_95 : decode cL_law 95 = .ok (.bipush 6, 2) := by decide +kernel
theorem dL_law_97 : decode cL_law 97 = .ok (.invokevirtual 97, 3) := by decide +kernel
theorem dL_law_100 : decode cL_law 100 = .ok (.aload_n 1, 1) := by decide +kernel
theorem dL_law_101 : decode cL_law 101 = .ok (.bipush 7, 2) := by decide +kernel
theorem dL_law_103 : decode cL_law 103 = .ok (.invokevirtual 97, 3) := by decide +kernel
theorem dL_law_106 : decode cL_law 106 = .ok (.iadd, 1) := by decide +kernel
theorem dL_law_107 : decode cL_law 107 = .ok (.istore 8, 2) := by decide +kernel
theorem dL_law_109 : decode cL_law 109 = .ok (.aload_n 1, 1) := by decide +kernel
theorem dL_law_110 : decode cL_law 110 = .ok (.bipush 9, 2) := by decide +kernel
theorem dL_law_112 : decode cL_law 112 = .ok (.invokevirtual 97, 3) := by decide +kernel
theorem dL_law_115 : decode cL_law 115 = .ok (.istore 9, 2) := by decide +kernel
theorem dL_law_117 : decode cL_law 117 = .ok (.bipush 40, 2) := by decide +kernel
theorem dL_law_119 : decode cL_law 119 = .ok (.newarray .boolean, 2) := by decide +kernel
theorem dL_law_121 : decode cL_law 121 = .ok (.astore 10, 2) := by decide +kernel
theorem dL_law_123 : decode cL_law 123 = .ok (.bipush 40, 2) := by decide +kernel
theorem dL_law_125 : decode cL_law 125 = .ok (.newarray .boolean, 2) := by decide +kernel
theorem dL_law_127 : decode cL_law 127 = .ok (.astore 11, 2) := by decide +kernel
theorem dL_law_129 : decode cL_law 129 = .ok (.iconst 0, 1) := by decide +kernel
theorem dL_law_130 : decode cL_law 130 = .ok (.istore 12, 2) := by decide +kernel
theorem dL_law_132 : decode cL_law 132 = .ok (.iload 12, 2) := by decide +kernel
theorem dL_law_134 : decode cL_law 134 = .ok (.bipush 40, 2) := by decide +kernel
theorem dL_law_136 : decode cL_law 136 = .ok (.if_icmp .ge 49, 3) := by decide +kernel
theorem dL_law_139 : decode cL_law 139 = .ok (.aload 10, 2) := by decide +kernel
theorem dL_law_141 : decode cL_law 141 = .ok (.iload 12, 2) := by decide +kernel
theorem dL_law_143 : decode cL_law 143 = .ok (.aload_n 1, 1) := by decide +kernel
theorem dL_law_144 : decode cL_law 144 = .ok (.iload 12, 2) := by decide +kernel
theorem dL_law_146 : decode cL_law 146 = .ok (.iconst 0, 1) := by decide +kernel
theorem dL_law_147 : decode cL_law 147 = .ok (.invokevirtual 100, 3) := by decide +kernel
theorem dL_law_150 : decode cL_law 150 = .ok (.ifCond .lt 7, 3) := by decide +kernel
theorem dL_law_153 : decode cL_law 153 = .ok (.iconst 1, 1) := by decide +kernel
theorem dL_law_154 : decode cL_law 154 = .ok (.goto 4, 3) := by decide +kernel
theorem dL_law_157 : decode cL_law 157 = .ok (.iconst 0, 1) := by decide +kernel
theorem dL_law_158 : decode cL_law 158 = .ok (.bastore, 1) := by decide +kernel
theorem dL_law_159 : decode cL_law 159 = .ok (.aload 11, 2) := by decide +kernel
theorem dL_law_161 : decode cL_law 161 = .ok (.iload 12, 2) := by decide +kernel
theorem dL_law_163 : decode cL_law 163 = .ok (.aload_n 1, 1) := by decide +kernel
theorem dL_law_164 : decode cL_law 164 = .ok (.iload 12, 2) := by decide +kernel
theorem dL_law_166 : decode cL_law 166 = .ok (.iconst 3, 1) := by decide +kernel
theorem dL_law_167 : decode cL_law 167 = .ok (.invokevirtual 100, 3) := by decide +kernel
theorem dL_law_170 : decode cL_law 170 = .ok (.ifCond .le 7, 3) := by decide +kernel
theorem dL_law_173 : decode cL_law 173 = .ok (.iconst 1, 1) := by decide +kernel
theorem dL_law_174 : decode cL_law 174 = .ok (.goto 4, 3) := by decide +kernel
theorem dL_law_177 : decode cL_law 177 = .ok (.iconst 0, 1) := by decide +kernel
theorem dL_law_178 : decode cL_law 178 = .ok (.bastore, 1) := by decide +kernel
theorem dL_law_179 : decode cL_law 179 = .ok (.iinc 12 1, 3) := by decide +kernel
theorem dL_law_182 : decode cL_law 182 = .ok (.goto (-50), 3) := by decide +kernel
theorem dL_law_185 : decode cL_law 185 = .ok (.aload_n 1, 1) := by decide +kernel
theorem dL_law_186 : decode cL_law 186 = .ok (.iload 5, 2) := by decide +kernel
theorem dL_law_188 : decode cL_law 188 = .ok (.invokestatic 79, 3) := by decide +kernel
theorem dL_law_191 : decode cL_law 191 = .ok (.istore 12, 2) := by decide +kernel
theorem dL_law_193 : decode cL_law 193 = .ok (.aload_n 2, 1) := by decide +kernel
theorem dL_law_194 : decode cL_law 194 = .ok (.iload 5, 2) := by decide +kernel
theorem dL_law_196 : decode cL_law 196 = .ok (.invokevirtual 82, 3) := by decide +kernel
theorem dL_law_199 : decode cL_law 199 = .ok (.iload 12, 2) := by decide +kernel
theorem dL_law_201 : decode cL_law 201 = .ok (.if_icmp .ne 50, 3) := by decide +kernel
theorem dL_law_204 : decode cL_law 204 = .ok (.iload 12, 2) := by decide +kernel
theorem dL_law_206 : decode cL_law 206 = .ok (.ifCond .ne 7, 3) := by decide +kernel
theorem dL_law_209 : decode cL_law 209 = .ok (.iconst 1, 1) := by decide +kernel
theorem dL_law_210 : decode cL_law 210 = .ok (.goto 4, 3) := by decide +kernel
theorem dL_law_213 : decode cL_law 213 = .ok (.iconst 0, 1) := by decide +kernel
theorem dL_law_214 : decode cL_law 214 = .ok (.aload 10, 2) := by decide +kernel
theorem dL_law_216 : decode cL_law 216 = .ok (.iload 5, 2) := by decide +kernel
theorem dL_law_218 : decode cL_law 218 = .ok (.baload, 1) := by decide +kernel
theorem dL_law_219 : decode cL_law 219 = .ok (.if_icmp .ne 32, 3) := by decide +kernel
theorem dL_law_222 : decode cL_law 222 = .ok (.aload_n 1, 1) := by decide +kernel
theorem dL_law_223 : decode cL_law 223 = .ok (.bipush 6, 2) := by decide +kernel
theorem dL_law_225 : decode cL_law 225 = .ok (.invokevirtual 97, 3) := by decide +kernel
theorem dL_law_228 : decode cL_law 228 = .ok (.aload_n 1, 1) := by decide +kernel
theorem dL_law_229 : decode cL_law 229 = .ok (.bipush 7, 2) := by decide +kernel
theorem dL_law_231 : decode cL_law 231 = .ok (.invokevirtual 97, 3) := by decide +kernel
theorem dL_law_234 : decode cL_law 234 = .ok (.iadd, 1) := by decide +kernel
theorem dL_law_235 : decode cL_law 235 = .ok (.iload 8, 2) := by decide +kernel
theorem dL_law_237 : decode cL_law 237 = .ok (.iload 12, 2) := by decide +kernel
theorem dL_law_239 : decode cL_law 239 = .ok (.ifCond .ge 7, 3) := by decide +kernel
theorem dL_law_242 : decode cL_law 242 = .ok (.iconst 0, 1) := by decide +kernel
theorem dL_law_243 : decode cL_law 243 = .ok (.goto 4, 3) := by decide +kernel
theorem dL_law_246 : decode cL_law 246 = .ok (.iconst 1, 1) := by decide +kernel
theorem dL_law_247 : decode cL_law 247 = .ok (.iadd, 1) := by decide +kernel
theorem dL_law_248 : decode cL_law 248 = .ok (.if_icmp .eq 5, 3) := by decide +kernel
theorem dL_law_251 : decode cL_law 251 = .ok (.iconst 0, 1) := by decide +kernel
theorem dL_law_252 : decode cL_law 252 = .ok (.ireturn, 1) := by decide +kernel
theorem dL_law_253 : decode cL_law 253 = .ok (.iload 12, 2) := by decide +kernel
theorem dL_law_255 : decode cL_law 255 = .ok (.ifCond .ge 14, 3) := by decide +kernel
theorem dL_law_258 : decode cL_law 258 = .ok (.aload_n 1, 1) := by decide +kernel
theorem dL_law_259 : decode cL_law 259 = .ok (.bipush 9, 2) := by decide +kernel
theorem dL_law_261 : decode cL_law 261 = .ok (.invokevirtual 97, 3) := by decide +kernel
theorem dL_law_264 : decode cL_law 264 = .ok (.iload 9, 2) := by decide +kernel
theorem dL_law_266 : decode cL_law 266 = .ok (.if_icmp .ne 18, 3) := by decide +kernel
theorem dL_law_269 : decode cL_law 269 = .ok (.iload 12, 2) := by decide +kernel
theorem dL_law_271 : decode cL_law 271 = .ok (.ifCond .lt 15, 3) := by decide +kernel
theorem dL_law_274 : decode cL_law 274 = .ok (.aload_n 1, 1) := by decide +kernel
theorem dL_law_275 : decode cL_law 275 = .ok (.iload 5, 2) := by decide +kernel
theorem dL_law_277 : decode cL_law 277 = .ok (.iconst 0, 1) := by decide +kernel
theorem dL_law_278 : decode cL_law 278 = .ok (.invokevirtual 100, 3) := by decide +kernel
theorem dL_law_281 : decode cL_law 281 = .ok (.ifCond .ge 5, 3) := by decide +kernel
theorem dL_law_284 : decode cL_law 284 = .ok (.iconst 0, 1) := by decide +kernel
theorem dL_law_285 : decode cL_law 285 = .ok (.ireturn, 1) := by decide +kernel
theorem dL_law_286 : decode cL_law 286 = .ok (.iconst 0, 1) := by decide +kernel
theorem dL_law_287 : decode cL_law 287 = .ok (.istore 13, 2) := by decide +kernel
theorem dL_law_289 : decode cL_law 289 = .ok (.iconst 0, 1) := by decide +kernel
theorem dL_law_290 : decode cL_law 290 = .ok (.istore 14, 2) := by decide +kernel
theorem dL_law_292 : decode cL_law 292 = .ok (.iload 14, 2) := by decide +kernel
theorem dL_law_294 : decode cL_law 294 = .ok (.bipush 40, 2) := by decide +kernel
theorem dL_law_296 : decode cL_law 296 = .ok (.if_icmp .ge 77, 3) := by decide +kernel
theorem dL_law_299 : decode cL_law 299 = .ok (.aload_n 1, 1) := by decide +kernel
theorem dL_law_300 : decode cL_law 300 = .ok (.iload 14, 2) := by decide +kernel
theorem dL_law_302 : decode cL_law 302 = .ok (.iconst 0, 1) := by decide +kernel
theorem dL_law_303 : decode cL_law 303 = .ok (.invokevirtual 100, 3) := by decide +kernel
theorem dL_law_306 : decode cL_law 306 = .ok (.ifCond .lt 7, 3) := by decide +kernel
theorem dL_law_309 : decode cL_law 309 = .ok (.iconst 1, 1) := by decide +kernel
theorem dL_law_310 : decode cL_law 310 = .ok (.goto 4, 3) := by decide +kernel
theorem dL_law_313 : decode cL_law 313 = .ok (.iconst 0, 1) := by decide +kernel
theorem dL_law_314 : decode cL_law 314 = .ok (.istore 15, 2) := by decide +kernel
theorem dL_law_316 : decode cL_law 316 = .ok (.aload 10, 2) := by decide +kernel
theorem dL_law_318 : decode cL_law 318 = .ok (.iload 14, 2) := by decide +kernel
theorem dL_law_320 : decode cL_law 320 = .ok (.baload, 1) := by decide +kernel
theorem dL_law_321 : decode cL_law 321 = .ok (.ifCond .eq 11, 3) := by decide +kernel
theorem dL_law_324 : decode cL_law 324 = .ok (.iload 15, 2) := by decide +kernel
theorem dL_law_326 : decode cL_law 326 = .ok (.ifCond .ne 6, 3) := by decide +kernel
theorem dL_law_329 : decode cL_law 329 = .ok (.iinc 13 1, 3) := by decide +kernel
theorem dL_law_332 : decode cL_law 332 = .ok (.aload 11, 2) := by decide +kernel
theorem dL_law_334 : decode cL_law 334 = .ok (.iload 14, 2) := by decide +kernel
theorem dL_law_336 : decode cL_law 336 = .ok (.baload, 1) := by decide +kernel
theorem dL_law_337 : decode cL_law 337 = .ok (.ifCond .eq 8, 3) := by decide +kernel
theorem dL_law_340 : decode cL_law 340 = .ok (.iload 15, 2) := by decide +kernel
theorem dL_law_342 : decode cL_law 342 = .ok (.ifCond .eq 23, 3) := by decide +kernel
theorem dL_law_345 : decode cL_law 345 = .ok (.aload 10, 2) := by decide +kernel
theorem dL_law_347 : decode cL_law 347 = .ok (.iload 14, 2) := by decide +kernel
theorem dL_law_349 : decode cL_law 349 = .ok (.baload, 1) := by decide +kernel
theorem dL_law_350 : decode cL_law 350 = .ok (.ifCond .ne 17, 3) := by decide +kernel
theorem dL_law_353 : decode cL_law 353 = .ok (.iload 15, 2) := by decide +kernel
theorem dL_law_355 : decode cL_law 355 = .ok (.ifCond .eq 12, 3) := by decide +kernel
theorem dL_law_358 : decode cL_law 358 = .ok (.iload 14, 2) := by decide +kernel
theorem dL_law_360 : decode cL_law 360 = .ok (.iload 5, 2) := by decide +kernel
theorem dL_law_362 : decode cL_law 362 = .ok (.if_icmp .eq 5, 3) := by decide +kernel
theorem dL_law_365 : decode cL_law 365 = .ok (.iconst 0, 1) := by decide +kernel
theorem dL_law_366 : decode cL_law 366 = .ok (.ireturn, 1) := by decide +kernel
theorem dL_law_367 : decode cL_law 367 = .ok (.iinc 14 1, 3) := by decide +kernel
theorem dL_law_370 : decode cL_law 370 = .ok (.goto (-78), 3) := by decide +kernel
theorem dL_law_373 : decode cL_law 373 = .ok (.iload 12, 2) := by decide +kernel
theorem dL_law_375 : decode cL_law 375 = .ok (.ifCond .le 14, 3) := by decide +kernel
theorem dL_law_378 : decode cL_law 378 = .ok (.iload 6, 2) := by decide +kernel
theorem dL_law_380 : decode cL_law 380 = .ok (.iload 7, 2) := by decide +kernel
theorem dL_law_382 : decode cL_law 382 = .ok (.if_icmp .ne 7, 3) := by decide +kernel
theorem dL_law_385 : decode cL_law 385 = .ok (.iconst 1, 1) := by decide +kernel
theorem dL_law_386 : decode cL_law 386 = .ok (.goto 4, 3) := by decide +kernel
theorem dL_law_389 : decode cL_law 389 = .ok (.iconst 0, 1) := by decide +kernel
theorem dL_law_390 : decode cL_law 390 = .ok (.istore 14, 2) := by decide +kernel
theorem dL_law_392 : decode cL_law 392 = .ok (.iload 13, 2) := by decide +kernel
theorem dL_law_394 : decode cL_law 394 = .ok (.iload 14, 2) := by decide +kernel
theorem dL_law_396 : decode cL_law 396 = .ok (.ifCond .eq 7, 3) := by decide +kernel
theorem dL_law_399 : decode cL_law 399 = .ok (.iconst 1, 1) := by decide +kernel
theorem dL_law_400 : decode cL_law 400 = .ok (.goto 4, 3) := by decide +kernel
theorem dL_law_403 : decode cL_law 403 = .ok (.iconst 0, 1) := by decide +kernel
theorem dL_law_404 : decode cL_law 404 = .ok (.if_icmp .ne 44, 3) := by decide +kernel
theorem dL_law_407 : decode cL_law 407 = .ok (.aload_n 1, 1) := by decide +kernel
theorem dL_law_408 : decode cL_law 408 = .ok (.bipush 9, 2) := by decide +kernel
theorem dL_law_410 : decode cL_law 410 = .ok (.invokevirtual 97, 3) := by decide +kernel
theorem dL_law_413 : decode cL_law 413 = .ok (.iload 9, 2) := by decide +kernel
theorem dL_law_415 : decode cL_law 415 = .ok (.isub, 1) := by decide +kernel
theorem dL_law_416 : decode cL_law 416 = .ok (.iload 14, 2) := by decide +kernel
theorem dL_law_418 : decode cL_law 418 = .ok (.ifCond .eq 10, 3) := by decide +kernel
theorem dL_law_421 : decode cL_law 421 = .ok (.iconst 3, 1) := by decide +kernel
theorem dL_law_422 : decode cL_law 422 = .ok (.iload 6, 2) := by decide +kernel
theorem dL_law_424 : decode cL_law 424 = .ok (.imul, 1) := by decide +kernel
theorem dL_law_425 : decode cL_law 425 = .ok (.goto 4, 3) := by decide +kernel
theorem dL_law_428 : decode cL_law 428 = .ok (.iconst 0, 1) := by decide +kernel
theorem dL_law_429 : decode cL_law 429 = .ok (.if_icmp .gt 19, 3) := by decide +kernel
theorem dL_law_432 : decode cL_law 432 = .ok (.iload 14, 2) := by decide +kernel
theorem dL_law_434 : decode cL_law 434 = .ok (.ifCond .eq 16, 3) := by decide +kernel
theorem dL_law_437 : decode cL_law 437 = .ok (.aload_n 1, 1) := by decide +kernel
theorem dL_law_438 : decode cL_law 438 = .ok (.bipush 9, 2) := by decide +kernel
theorem dL_law_440 : decode cL_law 440 = .ok (.invokevirtual 97, 3) := by decide +kernel
theorem dL_law_443 : decode cL_law 443 = .ok (.iload 9, 2) := by decide +kernel
theorem dL_law_445 : decode cL_law 445 = .ok (.if_icmp .ne 5, 3) := by decide +kernel
theorem dL_law_448 : decode cL_law 448 = .ok (.iconst 0, 1) := by decide +kernel
theorem dL_law_449 : decode cL_law 449 = .ok (.ireturn, 1) := by decide +kernel
theorem dL_law_450 : decode cL_law 450 = .ok (.aload_n 1, 1) := by decide +kernel
theorem dL_law_451 : decode cL_law 451 = .ok (.iconst 1, 1) := by decide +kernel
theorem dL_law_452 : decode cL_law 452 = .ok (.invokevirtual 97, 3) := by decide +kernel
theorem dL_law_455 : decode cL_law 455 = .ok (.aload_n 1, 1) := by decide +kernel
theorem dL_law_456 : decode cL_law 456 = .ok (.iconst 2, 1) := by decide +kernel
theorem dL_law_457 : decode cL_law 457 = .ok (.invokevirtual 97, 3) := by decide +kernel
theorem dL_law_460 : decode cL_law 460 = .ok (.iadd, 1) := by decide +kernel
theorem dL_law_461 : decode cL_law 461 = .ok (.iload 6, 2) := by decide +kernel
theorem dL_law_463 : decode cL_law 463 = .ok (.iload 12, 2) := by decide +kernel
theorem dL_law_465 : decode cL_law 465 = .ok (.ifCond .le 12, 3) := by decide +kernel
theorem dL_law_468 : decode cL_law 468 = .ok (.iload 14, 2) := by decide +kernel
theorem dL_law_470 : decode cL_law 470 = .ok (.ifCond .ne 7, 3) := by decide +kernel
theorem dL_law_473 : decode cL_law 473 = .ok (.iconst 1, 1) := by decide +kernel
theorem dL_law_474 : decode cL_law 474 = .ok (.goto 4, 3) := by decide +kernel
theorem dL_law_477 : decode cL_law 477 = .ok (.iconst 0, 1) := by decide +kernel
theorem dL_law_478 : decode cL_law 478 = .ok (.iadd, 1) := by decide +kernel
theorem dL_law_479 : decode cL_law 479 = .ok (.if_icmp .eq 5, 3) := by decide +kernel
theorem dL_law_482 : decode cL_law 482 = .ok (.iconst 0, 1) := by decide +kernel
theorem dL_law_483 : decode cL_law 483 = .ok (.ireturn, 1) := by decide +kernel
theorem dL_law_484 : decode cL_law 484 = .ok (.aload_n 1, 1) := by decide +kernel
theorem dL_law_485 : decode cL_law 485 = .ok (.invokevirtual 103, 3) := by decide +kernel
theorem dL_law_488 : decode cL_law 488 = .ok (.ifCond .ge 7, 3) := by decide +kernel
theorem dL_law_491 : decode cL_law 491 = .ok (.iconst 1, 1) := by decide +kernel
theorem dL_law_492 : decode cL_law 492 = .ok (.goto 4, 3) := by decide +kernel
theorem dL_law_495 : decode cL_law 495 = .ok (.iconst 0, 1) := by decide +kernel
theorem dL_law_496 : decode cL_law 496 = .ok (.aload_n 1, 1) := by decide +kernel
theorem dL_law_497 : decode cL_law 497 = .ok (.bipush 10, 2) := by decide +kernel
theorem dL_law_499 : decode cL_law 499 = .ok (.invokevirtual 97, 3) := by decide +kernel
theorem dL_law_502 : decode cL_law 502 = .ok (.aload_n 1, 1) := by decide +kernel
theorem dL_law_503 : decode cL_law 503 = .ok (.iconst 1, 1) := by decide +kernel
theorem dL_law_504 : decode cL_law 504 = .ok (.invokevirtual 97, 3) := by decide +kernel
theorem dL_law_507 : decode cL_law 507 = .ok (.aload_n 1, 1) := by decide +kernel
theorem dL_law_508 : decode cL_law 508 = .ok (.iconst 2, 1) := by decide +kernel
theorem dL_law_509 : decode cL_law 509 = .ok (.invokevirtual 97, 3) := by decide +kernel
theorem dL_law_512 : decode cL_law 512 = .ok (.iadd, 1) := by decide +kernel
theorem dL_law_513 : decode cL_law 513 = .ok (.if_icmp .ne 7, 3) := by decide +kernel
theorem dL_law_516 : decode cL_law 516 = .ok (.iconst 1, 1) := by decide +kernel
theorem dL_law_517 : decode cL_law 517 = .ok (.goto 4, 3) := by decide +kernel
theorem dL_law_520 : decode cL_law 520 = .ok (.iconst 0, 1) := by decide +kernel
theorem dL_law_521 : decode cL_law 521 = .ok (.if_icmp .eq 5, 3) := by decide +kernel
theorem dL_law_524 : decode cL_law 524 = .ok (.iconst 0, 1) := by decide +kernel
theorem dL_law_525 : decode cL_law 525 = .ok (.ireturn, 1) := by decide +kernel
theorem dL_law_526 : decode cL_law 526 = .ok (.iinc 3 1, 3) := by decide +kernel
theorem dL_law_529 : decode cL_law 529 = .ok (.goto (-507), 3) := by decide +kernel
theorem dL_law_532 : decode cL_law 532 = .ok (.aload_n 2, 1) := by decide +kernel
theorem dL_law_533 : decode cL_law 533 = .ok (.aload_n 1, 1) := by decide +kernel
theorem dL_law_534 : decode cL_law 534 = .ok (.invokevirtual 106, 3) := by decide +kernel
theorem dL_law_537 : decode cL_law 537 = .ok (.ireturn, 1) := by decide +kernel
