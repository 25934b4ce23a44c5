/-! the law, run by run: printed by wip/whole/gen_law.py -/
theorem mw_k_iconst_6 : Int32.ofInt (6) = nI 6 := by decide
theorem mw_p11_8 : mj_pool 11 8 = some (8, 8, 0) := by decide +kernel
theorem mw_p11_91 : mj_pool 11 91 = some (8, 9, 0) := by decide +kernel
theorem mw_p11_94 : mj_pool 11 94 = some (2, 142, 1) := by decide +kernel
theorem mw_p11_98 : mj_pool 11 98 = some (2, 195, 1) := by decide +kernel
theorem mw_p11_99 : mj_pool 11 99 = some (2, 312, 0) := by decide +kernel
theorem mw_p11_104 : mj_pool 11 104 = some (2, 196, 1) := by decide +kernel
theorem mw_p11_105 : mj_pool 11 105 = some (2, 194, 1) := by decide +kernel
theorem mw_p11_109 : mj_pool 11 109 = some (2, 144, 1) := by decide +kernel
theorem mw_p11_112 : mj_pool 11 112 = some (2, 225, 1) := by decide +kernel
theorem mw_p11_113 : mj_pool 11 113 = some (2, 313, 0) := by decide +kernel
theorem mw_p11_115 : mj_pool 11 115 = some (2, 226, 1) := by decide +kernel
theorem mw_p11_116 : mj_pool 11 116 = some (2, 314, 0) := by decide +kernel
theorem mw_p11_119 : mj_pool 11 119 = some (2, 238, 1) := by decide +kernel
theorem mw_p11_120 : mj_pool 11 120 = some (2, 315, 0) := by decide +kernel
theorem mw_p11_123 : mj_pool 11 123 = some (2, 242, 1) := by decide +kernel
theorem mw_p11_124 : mj_pool 11 124 = some (2, 145, 1) := by decide +kernel
theorem mw_p11_127 : mj_pool 11 127 = some (2, 248, 1) := by decide +kernel
theorem mw_p11_128 : mj_pool 11 128 = some (2, 316, 0) := by decide +kernel
theorem mw_p11_130 : mj_pool 11 130 = some (2, 256, 1) := by decide +kernel
theorem mw_p11_131 : mj_pool 11 131 = some (2, 317, 0) := by decide +kernel
theorem mw_p11_133 : mj_pool 11 133 = some (2, 259, 1) := by decide +kernel
theorem mw_p11_134 : mj_pool 11 134 = some (2, 318, 0) := by decide +kernel
theorem mw_p11_136 : mj_pool 11 136 = some (2, 263, 1) := by decide +kernel
theorem mw_p11_137 : mj_pool 11 137 = some (2, 319, 0) := by decide +kernel
theorem mw_p11_140 : mj_pool 11 140 = some (2, 264, 1) := by decide +kernel
theorem mw_p11_141 : mj_pool 11 141 = some (2, 146, 1) := by decide +kernel
theorem mw_p11_144 : mj_pool 11 144 = some (2, 267, 1) := by decide +kernel
theorem mw_p11_145 : mj_pool 11 145 = some (2, 320, 0) := by decide +kernel
theorem mw_p11_147 : mj_pool 11 147 = some (2, 269, 1) := by decide +kernel
theorem mw_p11_148 : mj_pool 11 148 = some (2, 321, 0) := by decide +kernel
theorem mw_p11_150 : mj_pool 11 150 = some (2, 270, 1) := by decide +kernel
theorem mw_p11_151 : mj_pool 11 151 = some (2, 147, 1) := by decide +kernel
theorem mw_p11_154 : mj_pool 11 154 = some (2, 271, 1) := by decide +kernel
theorem mw_p11_155 : mj_pool 11 155 = some (2, 322, 0) := by decide +kernel
theorem mw_p11_157 : mj_pool 11 157 = some (2, 272, 1) := by decide +kernel
theorem mw_p11_158 : mj_pool 11 158 = some (2, 323, 0) := by decide +kernel
theorem mw_p11_160 : mj_pool 11 160 = some (2, 277, 1) := by decide +kernel
theorem mw_p11_161 : mj_pool 11 161 = some (2, 148, 1) := by decide +kernel
theorem mw_p11_164 : mj_pool 11 164 = some (2, 280, 1) := by decide +kernel
theorem mw_p11_165 : mj_pool 11 165 = some (2, 324, 0) := by decide +kernel
theorem mw_p11_167 : mj_pool 11 167 = some (2, 281, 1) := by decide +kernel
theorem mw_p11_168 : mj_pool 11 168 = some (2, 150, 1) := by decide +kernel
theorem mw_p11_171 : mj_pool 11 171 = some (2, 282, 1) := by decide +kernel
theorem mw_p11_172 : mj_pool 11 172 = some (2, 151, 1) := by decide +kernel
theorem mw_p11_175 : mj_pool 11 175 = some (2, 279, 1) := by decide +kernel
theorem mw_p11_176 : mj_pool 11 176 = some (2, 325, 0) := by decide +kernel
theorem mw_p11_178 : mj_pool 11 178 = some (2, 283, 1) := by decide +kernel
theorem mw_p11_179 : mj_pool 11 179 = some (2, 326, 0) := by decide +kernel
theorem mw_p11_181 : mj_pool 11 181 = some (2, 278, 1) := by decide +kernel
theorem mw_p11_182 : mj_pool 11 182 = some (2, 327, 0) := by decide +kernel
theorem mw_p11_184 : mj_pool 11 184 = some (2, 284, 1) := by decide +kernel
theorem mw_p11_185 : mj_pool 11 185 = some (2, 154, 1) := by decide +kernel
theorem mw_p11_188 : mj_pool 11 188 = some (2, 285, 1) := by decide +kernel
theorem mw_p11_189 : mj_pool 11 189 = some (2, 155, 1) := by decide +kernel
theorem mw_p11_192 : mj_pool 11 192 = some (2, 286, 1) := by decide +kernel
theorem mw_p11_193 : mj_pool 11 193 = some (2, 328, 0) := by decide +kernel
theorem mw_p11_195 : mj_pool 11 195 = some (2, 275, 1) := by decide +kernel
theorem mw_p11_196 : mj_pool 11 196 = some (2, 156, 1) := by decide +kernel
theorem mw_p11_199 : mj_pool 11 199 = some (2, 287, 1) := by decide +kernel
theorem mw_p11_200 : mj_pool 11 200 = some (2, 157, 1) := by decide +kernel
theorem mw_p11_203 : mj_pool 11 203 = some (2, 288, 1) := by decide +kernel
theorem mw_p11_204 : mj_pool 11 204 = some (2, 329, 0) := by decide +kernel
theorem mw_p11_206 : mj_pool 11 206 = some (2, 289, 1) := by decide +kernel
theorem mw_p11_207 : mj_pool 11 207 = some (2, 330, 0) := by decide +kernel
theorem mw_p11_209 : mj_pool 11 209 = some (2, 290, 1) := by decide +kernel
theorem mw_p11_210 : mj_pool 11 210 = some (2, 158, 1) := by decide +kernel
theorem mw_p11_213 : mj_pool 11 213 = some (2, 291, 1) := by decide +kernel
theorem mw_p11_214 : mj_pool 11 214 = some (2, 159, 1) := by decide +kernel
theorem mw_p11_217 : mj_pool 11 217 = some (2, 292, 1) := by decide +kernel
theorem mw_p11_218 : mj_pool 11 218 = some (2, 331, 0) := by decide +kernel
theorem mw_p11_220 : mj_pool 11 220 = some (2, 293, 1) := by decide +kernel
theorem mw_p11_221 : mj_pool 11 221 = some (2, 332, 0) := by decide +kernel
theorem mw_p11_223 : mj_pool 11 223 = some (2, 294, 1) := by decide +kernel
theorem mw_p11_224 : mj_pool 11 224 = some (2, 333, 0) := by decide +kernel
theorem mw_p11_226 : mj_pool 11 226 = some (2, 297, 1) := by decide +kernel
theorem mw_p11_227 : mj_pool 11 227 = some (2, 160, 1) := by decide +kernel
theorem mw_p11_230 : mj_pool 11 230 = some (2, 299, 1) := by decide +kernel
theorem mw_p11_231 : mj_pool 11 231 = some (2, 334, 0) := by decide +kernel
theorem mw_p11_233 : mj_pool 11 233 = some (2, 300, 1) := by decide +kernel
theorem mw_p11_234 : mj_pool 11 234 = some (2, 335, 0) := by decide +kernel
theorem mw_p11_236 : mj_pool 11 236 = some (2, 303, 1) := by decide +kernel
theorem mw_p11_237 : mj_pool 11 237 = some (2, 161, 1) := by decide +kernel
theorem mw_p11_240 : mj_pool 11 240 = some (2, 306, 1) := by decide +kernel
theorem mw_p11_241 : mj_pool 11 241 = some (2, 162, 1) := by decide +kernel
theorem mw_p11_245 : mj_pool 11 245 = some (2, 308, 1) := by decide +kernel
theorem d336_0 : decode code 0 = .ok (.new 8, 3) := by decide +kernel
theorem d336_7 : decode code 7 = .ok (.astore_n 1, 1) := by decide +kernel
theorem d336_8 : decode code 8 = .ok (.new 91, 3) := by decide +kernel
theorem d336_15 : decode code 15 = .ok (.astore_n 2, 1) := by decide +kernel
theorem d336_16 : decode code 16 = .ok (.iconst 1, 1) := by decide +kernel
theorem d336_17 : decode code 17 = .ok (.newarray .long, 2) := by decide +kernel
theorem d336_23 : decode code 23 = .ok (.iload 4, 2) := by decide +kernel
theorem d336_25 : decode code 25 = .ok (.aload_n 0, 1) := by decide +kernel
theorem d336_26 : decode code 26 = .ok (.arraylength, 1) := by decide +kernel
theorem d336_27 : decode code 27 = .ok (.bipush 6, 2) := by decide +kernel
theorem d336_29 : decode code 29 = .ok (.isub, 1) := by decide +kernel
theorem d336_30 : decode code 30 = .ok (.if_icmp .gt 2112, 3) := by decide +kernel
theorem d336_33 : decode code 33 = .ok (.aload_n 0, 1) := by decide +kernel
theorem d336_34 : decode code 34 = .ok (.iload 4, 2) := by decide +kernel
theorem d336_36 : decode code 36 = .ok (.iaload, 1) := by decide +kernel
theorem d336_37 : decode code 37 = .ok (.bipush 63, 2) := by decide +kernel
theorem d336_39 : decode code 39 = .ok (.iand, 1) := by decide +kernel
theorem d336_40 : decode code 40 = .ok (.tableswitch 2096 0 40 #[180, 253, 309, 322, 378, 446, 526, 551, 607, 682, 750, 842, 855, 947, 1015, 1028, 1096, 1164, 1177, 1245, 1258, 1271, 1327, 1383, 1439, 1452, 1465, 1521, 1534, 1547, 1615, 1671, 1684, 1697, 1789, 1845, 1901, 1912, 1992, 2072, 2083], 180) := by decide +kernel
theorem d336_220 : decode code 220 = .ok (.aload_n 1, 1) := by decide +kernel
theorem d336_221 : decode code 221 = .ok (.aload_n 0, 1) := by decide +kernel
theorem d336_222 : decode code 222 = .ok (.iload 4, 2) := by decide +kernel
theorem d336_224 : decode code 224 = .ok (.iconst 1, 1) := by decide +kernel
theorem d336_225 : decode code 225 = .ok (.iadd, 1) := by decide +kernel
theorem d336_226 : decode code 226 = .ok (.iaload, 1) := by decide +kernel
theorem d336_227 : decode code 227 = .ok (.aload_n 0, 1) := by decide +kernel
theorem d336_228 : decode code 228 = .ok (.iload 4, 2) := by decide +kernel
theorem d336_230 : decode code 230 = .ok (.iconst 2, 1) := by decide +kernel
theorem d336_231 : decode code 231 = .ok (.iadd, 1) := by decide +kernel
theorem d336_232 : decode code 232 = .ok (.iaload, 1) := by decide +kernel
theorem d336_233 : decode code 233 = .ok (.aload_n 0, 1) := by decide +kernel
theorem d336_234 : decode code 234 = .ok (.iload 4, 2) := by decide +kernel
theorem d336_236 : decode code 236 = .ok (.iconst 3, 1) := by decide +kernel
theorem d336_237 : decode code 237 = .ok (.iadd, 1) := by decide +kernel
theorem d336_238 : decode code 238 = .ok (.iaload, 1) := by decide +kernel
theorem d336_239 : decode code 239 = .ok (.aload_n 0, 1) := by decide +kernel
theorem d336_240 : decode code 240 = .ok (.iload 4, 2) := by decide +kernel
theorem d336_242 : decode code 242 = .ok (.iconst 4, 1) := by decide +kernel
theorem d336_243 : decode code 243 = .ok (.iadd, 1) := by decide +kernel
theorem d336_244 : decode code 244 = .ok (.iaload, 1) := by decide +kernel
theorem d336_245 : decode code 245 = .ok (.aload_n 0, 1) := by decide +kernel
theorem d336_246 : decode code 246 = .ok (.iload 4, 2) := by decide +kernel
theorem d336_248 : decode code 248 = .ok (.iconst 5, 1) := by decide +kernel
theorem d336_249 : decode code 249 = .ok (.iadd, 1) := by decide +kernel
theorem d336_250 : decode code 250 = .ok (.iaload, 1) := by decide +kernel
theorem d336_251 : decode code 251 = .ok (.invokevirtual 94, 3) := by decide +kernel
theorem d336_254 : decode code 254 = .ok (.aload_n 2, 1) := by decide +kernel
theorem d336_255 : decode code 255 = .ok (.aload_n 0, 1) := by decide +kernel
theorem d336_256 : decode code 256 = .ok (.iload 4, 2) := by decide +kernel
theorem d336_258 : decode code 258 = .ok (.iconst 1, 1) := by decide +kernel
theorem d336_259 : decode code 259 = .ok (.iadd, 1) := by decide +kernel
theorem d336_260 : decode code 260 = .ok (.iaload, 1) := by decide +kernel
theorem d336_261 : decode code 261 = .ok (.aload_n 0, 1) := by decide +kernel
theorem d336_262 : decode code 262 = .ok (.iload 4, 2) := by decide +kernel
theorem d336_264 : decode code 264 = .ok (.iconst 2, 1) := by decide +kernel
theorem d336_265 : decode code 265 = .ok (.iadd, 1) := by decide +kernel
theorem d336_266 : decode code 266 = .ok (.iaload, 1) := by decide +kernel
theorem d336_267 : decode code 267 = .ok (.aload_n 0, 1) := by decide +kernel
theorem d336_268 : decode code 268 = .ok (.iload 4, 2) := by decide +kernel
theorem d336_270 : decode code 270 = .ok (.iconst 3, 1) := by decide +kernel
theorem d336_271 : decode code 271 = .ok (.iadd, 1) := by decide +kernel
theorem d336_272 : decode code 272 = .ok (.iaload, 1) := by decide +kernel
theorem d336_273 : decode code 273 = .ok (.aload_n 0, 1) := by decide +kernel
theorem d336_274 : decode code 274 = .ok (.iload 4, 2) := by decide +kernel
theorem d336_276 : decode code 276 = .ok (.iconst 4, 1) := by decide +kernel
theorem d336_277 : decode code 277 = .ok (.iadd, 1) := by decide +kernel
theorem d336_278 : decode code 278 = .ok (.iaload, 1) := by decide +kernel
theorem d336_279 : decode code 279 = .ok (.aload_n 0, 1) := by decide +kernel
theorem d336_280 : decode code 280 = .ok (.iload 4, 2) := by decide +kernel
theorem d336_282 : decode code 282 = .ok (.iconst 5, 1) := by decide +kernel
theorem d336_283 : decode code 283 = .ok (.iadd, 1) := by decide +kernel
theorem d336_284 : decode code 284 = .ok (.iaload, 1) := by decide +kernel
theorem d336_285 : decode code 285 = .ok (.invokevirtual 98, 3) := by decide +kernel
theorem d336_288 : decode code 288 = .ok (.if_icmp .eq 1848, 3) := by decide +kernel
theorem d336_291 : decode code 291 = .ok (.iconst 0, 1) := by decide +kernel
theorem d336_292 : decode code 292 = .ok (.ireturn, 1) := by decide +kernel
theorem d336_293 : decode code 293 = .ok (.aload_n 1, 1) := by decide +kernel
theorem d336_294 : decode code 294 = .ok (.aload_n 0, 1) := by decide +kernel
theorem d336_295 : decode code 295 = .ok (.iload 4, 2) := by decide +kernel
theorem d336_297 : decode code 297 = .ok (.iconst 1, 1) := by decide +kernel
theorem d336_298 : decode code 298 = .ok (.iadd, 1) := by decide +kernel
theorem d336_299 : decode code 299 = .ok (.iaload, 1) := by decide +kernel
theorem d336_300 : decode code 300 = .ok (.aload_n 3, 1) := by decide +kernel
theorem d336_301 : decode code 301 = .ok (.invokestatic 99, 3) := by decide +kernel
theorem d336_304 : decode code 304 = .ok (.istore 5, 2) := by decide +kernel
theorem d336_306 : decode code 306 = .ok (.aload_n 2, 1) := by decide +kernel
theorem d336_307 : decode code 307 = .ok (.aload_n 0, 1) := by decide +kernel
theorem d336_308 : decode code 308 = .ok (.iload 4, 2) := by decide +kernel
theorem d336_310 : decode code 310 = .ok (.iconst 1, 1) := by decide +kernel
theorem d336_311 : decode code 311 = .ok (.iadd, 1) := by decide +kernel
theorem d336_312 : decode code 312 = .ok (.iaload, 1) := by decide +kernel
theorem d336_313 : decode code 313 = .ok (.invokevirtual 104, 3) := by decide +kernel
theorem d336_316 : decode code 316 = .ok (.istore 6, 2) := by decide +kernel
theorem d336_318 : decode code 318 = .ok (.aload_n 2, 1) := by decide +kernel
theorem d336_319 : decode code 319 = .ok (.invokevirtual 105, 3) := by decide +kernel
theorem d336_322 : decode code 322 = .ok (.iload 5, 2) := by decide +kernel
theorem d336_324 : decode code 324 = .ok (.if_icmp .eq 5, 3) := by decide +kernel
theorem d336_327 : decode code 327 = .ok (.iconst 0, 1) := by decide +kernel
theorem d336_328 : decode code 328 = .ok (.ireturn, 1) := by decide +kernel
theorem d336_329 : decode code 329 = .ok (.iload 5, 2) := by decide +kernel
theorem d336_331 : decode code 331 = .ok (.ifCond .ne 15, 3) := by decide +kernel
theorem d336_334 : decode code 334 = .ok (.aload_n 3, 1) := by decide +kernel
theorem d336_335 : decode code 335 = .ok (.iconst 0, 1) := by decide +kernel
theorem d336_336 : decode code 336 = .ok (.laload, 1) := by decide +kernel
theorem d336_337 : decode code 337 = .ok (.iload 6, 2) := by decide +kernel
theorem d336_339 : decode code 339 = .ok (.i2l, 1) := by decide +kernel
theorem d336_340 : decode code 340 = .ok (.lcmp, 1) := by decide +kernel
theorem d336_341 : decode code 341 = .ok (.ifCond .eq 5, 3) := by decide +kernel
theorem d336_344 : decode code 344 = .ok (.iconst 0, 1) := by decide +kernel
theorem d336_345 : decode code 345 = .ok (.ireturn, 1) := by decide +kernel
theorem d336_346 : decode code 346 = .ok (.goto 1790, 3) := by decide +kernel
theorem d336_349 : decode code 349 = .ok (.aload_n 1, 1) := by decide +kernel
theorem d336_350 : decode code 350 = .ok (.invokevirtual 109, 3) := by decide +kernel
theorem d336_353 : decode code 353 = .ok (.aload_n 2, 1) := by decide +kernel
theorem d336_354 : decode code 354 = .ok (.invokevirtual 112, 3) := by decide +kernel
theorem d336_357 : decode code 357 = .ok (.if_icmp .eq 1779, 3) := by decide +kernel
theorem d336_360 : decode code 360 = .ok (.iconst 0, 1) := by decide +kernel
theorem d336_361 : decode code 361 = .ok (.ireturn, 1) := by decide +kernel
theorem d336_362 : decode code 362 = .ok (.aload_n 1, 1) := by decide +kernel
theorem d336_363 : decode code 363 = .ok (.aload_n 0, 1) := by decide +kernel
theorem d336_364 : decode code 364 = .ok (.iload 4, 2) := by decide +kernel
theorem d336_366 : decode code 366 = .ok (.iconst 1, 1) := by decide +kernel
theorem d336_367 : decode code 367 = .ok (.iadd, 1) := by decide +kernel
theorem d336_368 : decode code 368 = .ok (.iaload, 1) := by decide +kernel
theorem d336_369 : decode code 369 = .ok (.aload_n 3, 1) := by decide +kernel
theorem d336_370 : decode code 370 = .ok (.invokestatic 113, 3) := by decide +kernel
theorem d336_373 : decode code 373 = .ok (.istore 5, 2) := by decide +kernel
theorem d336_375 : decode code 375 = .ok (.aload_n 2, 1) := by decide +kernel
theorem d336_376 : decode code 376 = .ok (.aload_n 0, 1) := by decide +kernel
theorem d336_377 : decode code 377 = .ok (.iload 4, 2) := by decide +kernel
theorem d336_379 : decode code 379 = .ok (.iconst 1, 1) := by decide +kernel
theorem d336_380 : decode code 380 = .ok (.iadd, 1) := by decide +kernel
theorem d336_381 : decode code 381 = .ok (.iaload, 1) := by decide +kernel
theorem d336_382 : decode code 382 = .ok (.invokevirtual 115, 3) := by decide +kernel
theorem d336_385 : decode code 385 = .ok (.istore 6, 2) := by decide +kernel
theorem d336_387 : decode code 387 = .ok (.aload_n 2, 1) := by decide +kernel
theorem d336_388 : decode code 388 = .ok (.invokevirtual 105, 3) := by decide +kernel
theorem d336_391 : decode code 391 = .ok (.iload 5, 2) := by decide +kernel
theorem d336_393 : decode code 393 = .ok (.if_icmp .eq 5, 3) := by decide +kernel
theorem d336_396 : decode code 396 = .ok (.iconst 0, 1) := by decide +kernel
theorem d336_397 : decode code 397 = .ok (.ireturn, 1) := by decide +kernel
theorem d336_398 : decode code 398 = .ok (.iload 5, 2) := by decide +kernel
theorem d336_400 : decode code 400 = .ok (.ifCond .ne 15, 3) := by decide +kernel
theorem d336_403 : decode code 403 = .ok (.aload_n 3, 1) := by decide +kernel
theorem d336_404 : decode code 404 = .ok (.iconst 0, 1) := by decide +kernel
theorem d336_405 : decode code 405 = .ok (.laload, 1) := by decide +kernel
theorem d336_406 : decode code 406 = .ok (.iload 6, 2) := by decide +kernel
theorem d336_408 : decode code 408 = .ok (.i2l, 1) := by decide +kernel
theorem d336_409 : decode code 409 = .ok (.lcmp, 1) := by decide +kernel
theorem d336_410 : decode code 410 = .ok (.ifCond .eq 5, 3) := by decide +kernel
theorem d336_413 : decode code 413 = .ok (.iconst 0, 1) := by decide +kernel
theorem d336_414 : decode code 414 = .ok (.ireturn, 1) := by decide +kernel
theorem d336_415 : decode code 415 = .ok (.goto 1721, 3) := by decide +kernel
theorem d336_418 : decode code 418 = .ok (.aload_n 1, 1) := by decide +kernel
theorem d336_419 : decode code 419 = .ok (.aload_n 0, 1) := by decide +kernel
theorem d336_420 : decode code 420 = .ok (.iload 4, 2) := by decide +kernel
theorem d336_422 : decode code 422 = .ok (.iconst 1, 1) := by decide +kernel
theorem d336_423 : decode code 423 = .ok (.iadd, 1) := by decide +kernel
theorem d336_424 : decode code 424 = .ok (.iaload, 1) := by decide +kernel
theorem d336_425 : decode code 425 = .ok (.aload_n 0, 1) := by decide +kernel
theorem d336_426 : decode code 426 = .ok (.iload 4, 2) := by decide +kernel
theorem d336_428 : decode code 428 = .ok (.iconst 2, 1) := by decide +kernel
theorem d336_429 : decode code 429 = .ok (.iadd, 1) := by decide +kernel
theorem d336_430 : decode code 430 = .ok (.iaload, 1) := by decide +kernel
theorem d336_431 : decode code 431 = .ok (.aload_n 3, 1) := by decide +kernel
theorem d336_432 : decode code 432 = .ok (.invokestatic 116, 3) := by decide +kernel
theorem d336_435 : decode code 435 = .ok (.istore 5, 2) := by decide +kernel
theorem d336_437 : decode code 437 = .ok (.aload_n 2, 1) := by decide +kernel
theorem d336_438 : decode code 438 = .ok (.aload_n 0, 1) := by decide +kernel
theorem d336_439 : decode code 439 = .ok (.iload 4, 2) := by decide +kernel
theorem d336_441 : decode code 441 = .ok (.iconst 1, 1) := by decide +kernel
theorem d336_442 : decode code 442 = .ok (.iadd, 1) := by decide +kernel
theorem d336_443 : decode code 443 = .ok (.iaload, 1) := by decide +kernel
theorem d336_444 : decode code 444 = .ok (.aload_n 0, 1) := by decide +kernel
theorem d336_445 : decode code 445 = .ok (.iload 4, 2) := by decide +kernel
theorem d336_447 : decode code 447 = .ok (.iconst 2, 1) := by decide +kernel
theorem d336_448 : decode code 448 = .ok (.iadd, 1) := by decide +kernel
theorem d336_449 : decode code 449 = .ok (.iaload, 1) := by decide +kernel
theorem d336_450 : decode code 450 = .ok (.invokevirtual 119, 3) := by decide +kernel
theorem d336_453 : decode code 453 = .ok (.istore 6, 2) := by decide +kernel
theorem d336_455 : decode code 455 = .ok (.aload_n 2, 1) := by decide +kernel
theorem d336_456 : decode code 456 = .ok (.invokevirtual 105, 3) := by decide +kernel
theorem d336_459 : decode code 459 = .ok (.iload 5, 2) := by decide +kernel
theorem d336_461 : decode code 461 = .ok (.if_icmp .eq 5, 3) := by decide +kernel
theorem d336_464 : decode code 464 = .ok (.iconst 0, 1) := by decide +kernel
theorem d336_465 : decode code 465 = .ok (.ireturn, 1) := by decide +kernel
theorem d336_466 : decode code 466 = .ok (.iload 5, 2) := by decide +kernel
theorem d336_468 : decode code 468 = .ok (.ifCond .ne 15, 3) := by decide +kernel
theorem d336_471 : decode code 471 = .ok (.aload_n 3, 1) := by decide +kernel
theorem d336_472 : decode code 472 = .ok (.iconst 0, 1) := by decide +kernel
theorem d336_473 : decode code 473 = .ok (.laload, 1) := by decide +kernel
theorem d336_474 : decode code 474 = .ok (.iload 6, 2) := by decide +kernel
theorem d336_476 : decode code 476 = .ok (.i2l, 1) := by decide +kernel
theorem d336_477 : decode code 477 = .ok (.lcmp, 1) := by decide +kernel
theorem d336_478 : decode code 478 = .ok (.ifCond .eq 5, 3) := by decide +kernel
theorem d336_481 : decode code 481 = .ok (.iconst 0, 1) := by decide +kernel
theorem d336_482 : decode code 482 = .ok (.ireturn, 1) := by decide +kernel
theorem d336_483 : decode code 483 = .ok (.goto 1653, 3) := by decide +kernel
theorem d336_486 : decode code 486 = .ok (.aload_n 1, 1) := by decide +kernel
theorem d336_487 : decode code 487 = .ok (.aload_n 0, 1) := by decide +kernel
theorem d336_488 : decode code 488 = .ok (.iload 4, 2) := by decide +kernel
theorem d336_490 : decode code 490 = .ok (.iconst 1, 1) := by decide +kernel
theorem d336_491 : decode code 491 = .ok (.iadd, 1) := by decide +kernel
theorem d336_492 : decode code 492 = .ok (.iaload, 1) := by decide +kernel
theorem d336_493 : decode code 493 = .ok (.aload_n 0, 1) := by decide +kernel
theorem d336_494 : decode code 494 = .ok (.iload 4, 2) := by decide +kernel
theorem d336_496 : decode code 496 = .ok (.iconst 2, 1) := by decide +kernel
theorem d336_497 : decode code 497 = .ok (.iadd, 1) := by decide +kernel
theorem d336_498 : decode code 498 = .ok (.iaload, 1) := by decide +kernel
theorem d336_499 : decode code 499 = .ok (.aload_n 0, 1) := by decide +kernel
theorem d336_500 : decode code 500 = .ok (.iload 4, 2) := by decide +kernel
theorem d336_502 : decode code 502 = .ok (.iconst 3, 1) := by decide +kernel
theorem d336_503 : decode code 503 = .ok (.iadd, 1) := by decide +kernel
theorem d336_504 : decode code 504 = .ok (.iaload, 1) := by decide +kernel
theorem d336_505 : decode code 505 = .ok (.aload_n 3, 1) := by decide +kernel
theorem d336_506 : decode code 506 = .ok (.invokestatic 120, 3) := by decide +kernel
theorem d336_509 : decode code 509 = .ok (.istore 5, 2) := by decide +kernel
theorem d336_511 : decode code 511 = .ok (.aload_n 2, 1) := by decide +kernel
theorem d336_512 : decode code 512 = .ok (.aload_n 0, 1) := by decide +kernel
theorem d336_513 : decode code 513 = .ok (.iload 4, 2) := by decide +kernel
theorem d336_515 : decode code 515 = .ok (.iconst 1, 1) := by decide +kernel
theorem d336_516 : decode code 516 = .ok (.iadd, 1) := by decide +kernel
theorem d336_517 : decode code 517 = .ok (.iaload, 1) := by decide +kernel
theorem d336_518 : decode code 518 = .ok (.aload_n 0, 1) := by decide +kernel
theorem d336_519 : decode code 519 = .ok (.iload 4, 2) := by decide +kernel
theorem d336_521 : decode code 521 = .ok (.iconst 2, 1) := by decide +kernel
theorem d336_522 : decode code 522 = .ok (.iadd, 1) := by decide +kernel
theorem d336_523 : decode code 523 = .ok (.iaload, 1) := by decide +kernel
theorem d336_524 : decode code 524 = .ok (.aload_n 0, 1) := by decide +kernel
theorem d336_525 : decode code 525 = .ok (.iload 4, 2) := by decide +kernel
theorem d336_527 : decode code 527 = .ok (.iconst 3, 1) := by decide +kernel
theorem d336_528 : decode code 528 = .ok (.iadd, 1) := by decide +kernel
theorem d336_529 : decode code 529 = .ok (.iaload, 1) := by decide +kernel
theorem d336_530 : decode code 530 = .ok (.invokevirtual 123, 3) := by decide +kernel
theorem d336_533 : decode code 533 = .ok (.istore 6, 2) := by decide +kernel
theorem d336_535 : decode code 535 = .ok (.aload_n 2, 1) := by decide +kernel
theorem d336_536 : decode code 536 = .ok (.invokevirtual 105, 3) := by decide +kernel
theorem d336_539 : decode code 539 = .ok (.iload 5, 2) := by decide +kernel
theorem d336_541 : decode code 541 = .ok (.if_icmp .eq 5, 3) := by decide +kernel
theorem d336_544 : decode code 544 = .ok (.iconst 0, 1) := by decide +kernel
theorem d336_545 : decode code 545 = .ok (.ireturn, 1) := by decide +kernel
theorem d336_546 : decode code 546 = .ok (.iload 5, 2) := by decide +kernel
theorem d336_548 : decode code 548 = .ok (.ifCond .ne 15, 3) := by decide +kernel
theorem d336_551 : decode code 551 = .ok (.aload_n 3, 1) := by decide +kernel
theorem d336_552 : decode code 552 = .ok (.iconst 0, 1) := by decide +kernel
theorem d336_553 : decode code 553 = .ok (.laload, 1) := by decide +kernel
theorem d336_554 : decode code 554 = .ok (.iload 6, 2) := by decide +kernel
theorem d336_556 : decode code 556 = .ok (.i2l, 1) := by decide +kernel
theorem d336_557 : decode code 557 = .ok (.lcmp, 1) := by decide +kernel
theorem d336_558 : decode code 558 = .ok (.ifCond .eq 5, 3) := by decide +kernel
theorem d336_561 : decode code 561 = .ok (.iconst 0, 1) := by decide +kernel
theorem d336_562 : decode code 562 = .ok (.ireturn, 1) := by decide +kernel
theorem d336_563 : decode code 563 = .ok (.goto 1573, 3) := by decide +kernel
theorem d336_566 : decode code 566 = .ok (.aload_n 1, 1) := by decide +kernel
theorem d336_567 : decode code 567 = .ok (.aload_n 0, 1) := by decide +kernel
theorem d336_568 : decode code 568 = .ok (.iload 4, 2) := by decide +kernel
theorem d336_570 : decode code 570 = .ok (.iconst 1, 1) := by decide +kernel
theorem d336_571 : decode code 571 = .ok (.iadd, 1) := by decide +kernel
theorem d336_572 : decode code 572 = .ok (.iaload, 1) := by decide +kernel
theorem d336_573 : decode code 573 = .ok (.invokevirtual 124, 3) := by decide +kernel
theorem d336_576 : decode code 576 = .ok (.aload_n 2, 1) := by decide +kernel
theorem d336_577 : decode code 577 = .ok (.aload_n 0, 1) := by decide +kernel
theorem d336_578 : decode code 578 = .ok (.iload 4, 2) := by decide +kernel
theorem d336_580 : decode code 580 = .ok (.iconst 1, 1) := by decide +kernel
theorem d336_581 : decode code 581 = .ok (.iadd, 1) := by decide +kernel
theorem d336_582 : decode code 582 = .ok (.iaload, 1) := by decide +kernel
theorem d336_583 : decode code 583 = .ok (.invokevirtual 127, 3) := by decide +kernel
theorem d336_586 : decode code 586 = .ok (.if_icmp .eq 1550, 3) := by decide +kernel
theorem d336_589 : decode code 589 = .ok (.iconst 0, 1) := by decide +kernel
theorem d336_590 : decode code 590 = .ok (.ireturn, 1) := by decide +kernel
theorem d336_591 : decode code 591 = .ok (.aload_n 1, 1) := by decide +kernel
theorem d336_592 : decode code 592 = .ok (.aload_n 0, 1) := by decide +kernel
theorem d336_593 : decode code 593 = .ok (.iload 4, 2) := by decide +kernel
theorem d336_595 : decode code 595 = .ok (.iconst 1, 1) := by decide +kernel
theorem d336_596 : decode code 596 = .ok (.iadd, 1) := by decide +kernel
theorem d336_597 : decode code 597 = .ok (.iaload, 1) := by decide +kernel
theorem d336_598 : decode code 598 = .ok (.aload_n 3, 1) := by decide +kernel
theorem d336_599 : decode code 599 = .ok (.invokestatic 128, 3) := by decide +kernel
theorem d336_602 : decode code 602 = .ok (.istore 5, 2) := by decide +kernel
theorem d336_604 : decode code 604 = .ok (.aload_n 2, 1) := by decide +kernel
theorem d336_605 : decode code 605 = .ok (.aload_n 0, 1) := by decide +kernel
theorem d336_606 : decode code 606 = .ok (.iload 4, 2) := by decide +kernel
theorem d336_608 : decode code 608 = .ok (.iconst 1, 1) := by decide +kernel
theorem d336_609 : decode code 609 = .ok (.iadd, 1) := by decide +kernel
theorem d336_610 : decode code 610 = .ok (.iaload, 1) := by decide +kernel
theorem d336_611 : decode code 611 = .ok (.invokevirtual 130, 3) := by decide +kernel
theorem d336_614 : decode code 614 = .ok (.istore 6, 2) := by decide +kernel
theorem d336_616 : decode code 616 = .ok (.aload_n 2, 1) := by decide +kernel
theorem d336_617 : decode code 617 = .ok (.invokevirtual 105, 3) := by decide +kernel
theorem d336_620 : decode code 620 = .ok (.iload 5, 2) := by decide +kernel
theorem d336_622 : decode code 622 = .ok (.if_icmp .eq 5, 3) := by decide +kernel
theorem d336_625 : decode code 625 = .ok (.iconst 0, 1) := by decide +kernel
theorem d336_626 : decode code 626 = .ok (.ireturn, 1) := by decide +kernel
theorem d336_627 : decode code 627 = .ok (.iload 5, 2) := by decide +kernel
theorem d336_629 : decode code 629 = .ok (.ifCond .ne 15, 3) := by decide +kernel
theorem d336_632 : decode code 632 = .ok (.aload_n 3, 1) := by decide +kernel
theorem d336_633 : decode code 633 = .ok (.iconst 0, 1) := by decide +kernel
theorem d336_634 : decode code 634 = .ok (.laload, 1) := by decide +kernel
theorem d336_635 : decode code 635 = .ok (.iload 6, 2) := by decide +kernel
theorem d336_637 : decode code 637 = .ok (.i2l, 1) := by decide +kernel
theorem d336_638 : decode code 638 = .ok (.lcmp, 1) := by decide +kernel
theorem d336_639 : decode code 639 = .ok (.ifCond .eq 5, 3) := by decide +kernel
theorem d336_642 : decode code 642 = .ok (.iconst 0, 1) := by decide +kernel
theorem d336_643 : decode code 643 = .ok (.ireturn, 1) := by decide +kernel
theorem d336_644 : decode code 644 = .ok (.goto 1492, 3) := by decide +kernel
theorem d336_647 : decode code 647 = .ok (.aload_n 1, 1) := by decide +kernel
theorem d336_648 : decode code 648 = .ok (.aload_n 0, 1) := by decide +kernel
theorem d336_649 : decode code 649 = .ok (.iload 4, 2) := by decide +kernel
theorem d336_651 : decode code 651 = .ok (.iconst 1, 1) := by decide +kernel
theorem d336_652 : decode code 652 = .ok (.iadd, 1) := by decide +kernel
theorem d336_653 : decode code 653 = .ok (.iaload, 1) := by decide +kernel
theorem d336_654 : decode code 654 = .ok (.aload_n 0, 1) := by decide +kernel
theorem d336_655 : decode code 655 = .ok (.iload 4, 2) := by decide +kernel
theorem d336_657 : decode code 657 = .ok (.iconst 2, 1) := by decide +kernel
theorem d336_658 : decode code 658 = .ok (.iadd, 1) := by decide +kernel
theorem d336_659 : decode code 659 = .ok (.iaload, 1) := by decide +kernel
theorem d336_660 : decode code 660 = .ok (.aload_n 3, 1) := by decide +kernel
theorem d336_661 : decode code 661 = .ok (.invokestatic 131, 3) := by decide +kernel
theorem d336_664 : decode code 664 = .ok (.istore 5, 2) := by decide +kernel
theorem d336_666 : decode code 666 = .ok (.aload_n 2, 1) := by decide +kernel
theorem d336_667 : decode code 667 = .ok (.aload_n 0, 1) := by decide +kernel
theorem d336_668 : decode code 668 = .ok (.iload 4, 2) := by decide +kernel
theorem d336_670 : decode code 670 = .ok (.iconst 1, 1) := by decide +kernel
theorem d336_671 : decode code 671 = .ok (.iadd, 1) := by decide +kernel
theorem d336_672 : decode code 672 = .ok (.iaload, 1) := by decide +kernel
theorem d336_673 : decode code 673 = .ok (.aload_n 0, 1) := by decide +kernel
theorem d336_674 : decode code 674 = .ok (.iload 4, 2) := by decide +kernel
theorem d336_676 : decode code 676 = .ok (.iconst 2, 1) := by decide +kernel
theorem d336_677 : decode code 677 = .ok (.iadd, 1) := by decide +kernel
theorem d336_678 : decode code 678 = .ok (.iaload, 1) := by decide +kernel
theorem d336_679 : decode code 679 = .ok (.invokevirtual 133, 3) := by decide +kernel
theorem d336_682 : decode code 682 = .ok (.istore 6, 2) := by decide +kernel
theorem d336_684 : decode code 684 = .ok (.aload_n 2, 1) := by decide +kernel
theorem d336_685 : decode code 685 = .ok (.invokevirtual 105, 3) := by decide +kernel
theorem d336_688 : decode code 688 = .ok (.iload 5, 2) := by decide +kernel
theorem d336_690 : decode code 690 = .ok (.if_icmp .eq 5, 3) := by decide +kernel
theorem d336_693 : decode code 693 = .ok (.iconst 0, 1) := by decide +kernel
theorem d336_694 : decode code 694 = .ok (.ireturn, 1) := by decide +kernel
theorem d336_695 : decode code 695 = .ok (.iload 5, 2) := by decide +kernel
theorem d336_697 : decode code 697 = .ok (.ifCond .ne 22, 3) := by decide +kernel
theorem d336_700 : decode code 700 = .ok (.aload_n 3, 1) := by decide +kernel
theorem d336_701 : decode code 701 = .ok (.iconst 0, 1) := by decide +kernel
theorem d336_702 : decode code 702 = .ok (.laload, 1) := by decide +kernel
theorem d336_703 : decode code 703 = .ok (.iload 6, 2) := by decide +kernel
theorem d336_705 : decode code 705 = .ok (.ifCond .eq 7, 3) := by decide +kernel
theorem d336_708 : decode code 708 = .ok (.lconst 1, 1) := by decide +kernel
theorem d336_709 : decode code 709 = .ok (.goto 4, 3) := by decide +kernel
theorem d336_712 : decode code 712 = .ok (.lconst 0, 1) := by decide +kernel
theorem d336_713 : decode code 713 = .ok (.lcmp, 1) := by decide +kernel
theorem d336_714 : decode code 714 = .ok (.ifCond .eq 5, 3) := by decide +kernel
theorem d336_717 : decode code 717 = .ok (.iconst 0, 1) := by decide +kernel
theorem d336_718 : decode code 718 = .ok (.ireturn, 1) := by decide +kernel
theorem d336_719 : decode code 719 = .ok (.goto 1417, 3) := by decide +kernel
theorem d336_722 : decode code 722 = .ok (.aload_n 1, 1) := by decide +kernel
theorem d336_723 : decode code 723 = .ok (.aload_n 0, 1) := by decide +kernel
theorem d336_724 : decode code 724 = .ok (.iload 4, 2) := by decide +kernel
theorem d336_726 : decode code 726 = .ok (.iconst 1, 1) := by decide +kernel
theorem d336_727 : decode code 727 = .ok (.iadd, 1) := by decide +kernel
theorem d336_728 : decode code 728 = .ok (.iaload, 1) := by decide +kernel
theorem d336_729 : decode code 729 = .ok (.aload_n 0, 1) := by decide +kernel
theorem d336_730 : decode code 730 = .ok (.iload 4, 2) := by decide +kernel
theorem d336_732 : decode code 732 = .ok (.iconst 2, 1) := by decide +kernel
theorem d336_733 : decode code 733 = .ok (.iadd, 1) := by decide +kernel
theorem d336_734 : decode code 734 = .ok (.iaload, 1) := by decide +kernel
theorem d336_735 : decode code 735 = .ok (.aload_n 3, 1) := by decide +kernel
theorem d336_736 : decode code 736 = .ok (.invokestatic 134, 3) := by decide +kernel
theorem d336_739 : decode code 739 = .ok (.istore 5, 2) := by decide +kernel
theorem d336_741 : decode code 741 = .ok (.aload_n 2, 1) := by decide +kernel
theorem d336_742 : decode code 742 = .ok (.aload_n 0, 1) := by decide +kernel
theorem d336_743 : decode code 743 = .ok (.iload 4, 2) := by decide +kernel
theorem d336_745 : decode code 745 = .ok (.iconst 1, 1) := by decide +kernel
theorem d336_746 : decode code 746 = .ok (.iadd, 1) := by decide +kernel
theorem d336_747 : decode code 747 = .ok (.iaload, 1) := by decide +kernel
theorem d336_748 : decode code 748 = .ok (.aload_n 0, 1) := by decide +kernel
theorem d336_749 : decode code 749 = .ok (.iload 4, 2) := by decide +kernel
theorem d336_751 : decode code 751 = .ok (.iconst 2, 1) := by decide +kernel
theorem d336_752 : decode code 752 = .ok (.iadd, 1) := by decide +kernel
theorem d336_753 : decode code 753 = .ok (.iaload, 1) := by decide +kernel
theorem d336_754 : decode code 754 = .ok (.invokevirtual 136, 3) := by decide +kernel
theorem d336_757 : decode code 757 = .ok (.istore 6, 2) := by decide +kernel
theorem d336_759 : decode code 759 = .ok (.aload_n 2, 1) := by decide +kernel
theorem d336_760 : decode code 760 = .ok (.invokevirtual 105, 3) := by decide +kernel
theorem d336_763 : decode code 763 = .ok (.iload 5, 2) := by decide +kernel
theorem d336_765 : decode code 765 = .ok (.if_icmp .eq 5, 3) := by decide +kernel
theorem d336_768 : decode code 768 = .ok (.iconst 0, 1) := by decide +kernel
theorem d336_769 : decode code 769 = .ok (.ireturn, 1) := by decide +kernel
theorem d336_770 : decode code 770 = .ok (.iload 5, 2) := by decide +kernel
theorem d336_772 : decode code 772 = .ok (.ifCond .ne 15, 3) := by decide +kernel
theorem d336_775 : decode code 775 = .ok (.aload_n 3, 1) := by decide +kernel
theorem d336_776 : decode code 776 = .ok (.iconst 0, 1) := by decide +kernel
theorem d336_777 : decode code 777 = .ok (.laload, 1) := by decide +kernel
theorem d336_778 : decode code 778 = .ok (.iload 6, 2) := by decide +kernel
theorem d336_780 : decode code 780 = .ok (.i2l, 1) := by decide +kernel
theorem d336_781 : decode code 781 = .ok (.lcmp, 1) := by decide +kernel
theorem d336_782 : decode code 782 = .ok (.ifCond .eq 5, 3) := by decide +kernel
theorem d336_785 : decode code 785 = .ok (.iconst 0, 1) := by decide +kernel
theorem d336_786 : decode code 786 = .ok (.ireturn, 1) := by decide +kernel
theorem d336_787 : decode code 787 = .ok (.goto 1349, 3) := by decide +kernel
theorem d336_790 : decode code 790 = .ok (.aload_n 1, 1) := by decide +kernel
theorem d336_791 : decode code 791 = .ok (.aload_n 0, 1) := by decide +kernel
theorem d336_792 : decode code 792 = .ok (.iload 4, 2) := by decide +kernel
theorem d336_794 : decode code 794 = .ok (.iconst 1, 1) := by decide +kernel
theorem d336_795 : decode code 795 = .ok (.iadd, 1) := by decide +kernel
theorem d336_796 : decode code 796 = .ok (.iaload, 1) := by decide +kernel
theorem d336_797 : decode code 797 = .ok (.aload_n 0, 1) := by decide +kernel
theorem d336_798 : decode code 798 = .ok (.iload 4, 2) := by decide +kernel
theorem d336_800 : decode code 800 = .ok (.iconst 2, 1) := by decide +kernel
theorem d336_801 : decode code 801 = .ok (.iadd, 1) := by decide +kernel
theorem d336_802 : decode code 802 = .ok (.iaload, 1) := by decide +kernel
theorem d336_803 : decode code 803 = .ok (.aload_n 0, 1) := by decide +kernel
theorem d336_804 : decode code 804 = .ok (.iload 4, 2) := by decide +kernel
theorem d336_806 : decode code 806 = .ok (.iconst 3, 1) := by decide +kernel
theorem d336_807 : decode code 807 = .ok (.iadd, 1) := by decide +kernel
theorem d336_808 : decode code 808 = .ok (.iaload, 1) := by decide +kernel
theorem d336_809 : decode code 809 = .ok (.aload_n 0, 1) := by decide +kernel
theorem d336_810 : decode code 810 = .ok (.iload 4, 2) := by decide +kernel
theorem d336_812 : decode code 812 = .ok (.iconst 4, 1) := by decide +kernel
theorem d336_813 : decode code 813 = .ok (.iadd, 1) := by decide +kernel
theorem d336_814 : decode code 814 = .ok (.iaload, 1) := by decide +kernel
theorem d336_815 : decode code 815 = .ok (.aload_n 3, 1) := by decide +kernel
theorem d336_816 : decode code 816 = .ok (.invokestatic 137, 3) := by decide +kernel
theorem d336_819 : decode code 819 = .ok (.istore 5, 2) := by decide +kernel
theorem d336_821 : decode code 821 = .ok (.aload_n 2, 1) := by decide +kernel
theorem d336_822 : decode code 822 = .ok (.aload_n 0, 1) := by decide +kernel
