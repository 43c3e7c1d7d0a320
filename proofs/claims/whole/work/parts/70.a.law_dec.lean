/-! THE LAW: decode rows, words -/
theorem d_law_0 : decode code 0 = .ok (.new 7, 3) := by decide +kernel
theorem d_law_3 : decode code 3 = .ok (.dup, 1) := by decide +kernel
theorem d_law_4 : decode code 4 = .ok (.invokespecial 9, 3) := by decide +kernel
theorem d_law_7 : decode code 7 = .ok (.astore_n 1, 1) := by decide +kernel
theorem d_law_8 : decode code 8 = .ok (.new 10, 3) := by decide +kernel
theorem d_law_11 : decode code 11 = .ok (.dup, 1) := by decide +kernel
theorem d_law_12 : decode code 12 = .ok (.invokespecial 12, 3) := by decide +kernel
theorem d_law_15 : decode code 15 = .ok (.astore_n 2, 1) := by decide +kernel
theorem d_law_16 : decode code 16 = .ok (.iconst 0, 1) := by decide +kernel
theorem d_law_17 : decode code 17 = .ok (.istore_n 3, 1) := by decide +kernel
theorem d_law_18 : decode code 18 = .ok (.iload_n 3, 1) := by decide +kernel
theorem d_law_19 : decode code 19 = .ok (.aload_n 0, 1) := by decide +kernel
theorem d_law_20 : decode code 20 = .ok (.arraylength, 1) := by decide +kernel
theorem d_law_21 : decode code 21 = .ok (.iconst 4, 1) := by decide +kernel
theorem d_law_22 : decode code 22 = .ok (.isub, 1) := by decide +kernel
theorem d_law_23 : decode code 23 = .ok (.if_icmp .gt 424, 3) := by decide +kernel
theorem d_law_26 : decode code 26 = .ok (.aload_n 0, 1) := by decide +kernel
theorem d_law_27 : decode code 27 = .ok (.iload_n 3, 1) := by decide +kernel
theorem d_law_28 : decode code 28 = .ok (.iaload, 1) := by decide +kernel
theorem d_law_29 : decode code 29 = .ok (.bipush 15, 2) := by decide +kernel
theorem d_law_31 : decode code 31 = .ok (.iand, 1) := by decide +kernel
theorem d_law_32 : decode code 32 = .ok (.tableswitch 409 0 12 #[68, 131, 164, 197, 210, 223, 262, 301, 314, 337, 360, 373, 386], 68) := by decide +kernel
theorem d_law_100 : decode code 100 = .ok (.aload_n 1, 1) := by decide +kernel
theorem d_law_101 : decode code 101 = .ok (.aload_n 0, 1) := by decide +kernel
theorem d_law_102 : decode code 102 = .ok (.iload_n 3, 1) := by decide +kernel
theorem d_law_103 : decode code 103 = .ok (.iconst 1, 1) := by decide +kernel
theorem d_law_104 : decode code 104 = .ok (.iadd, 1) := by decide +kernel
theorem d_law_105 : decode code 105 = .ok (.iaload, 1) := by decide +kernel
theorem d_law_106 : decode code 106 = .ok (.i2l, 1) := by decide +kernel
theorem d_law_107 : decode code 107 = .ok (.bipush 32, 2) := by decide +kernel
theorem d_law_109 : decode code 109 = .ok (.lshl, 1) := by decide +kernel
theorem d_law_110 : decode code 110 = .ok (.aload_n 0, 1) := by decide +kernel
theorem d_law_111 : decode code 111 = .ok (.iload_n 3, 1) := by decide +kernel
theorem d_law_112 : decode code 112 = .ok (.iconst 2, 1) := by decide +kernel
theorem d_law_113 : decode code 113 = .ok (.iadd, 1) := by decide +kernel
theorem d_law_114 : decode code 114 = .ok (.iaload, 1) := by decide +kernel
theorem d_law_115 : decode code 115 = .ok (.i2l, 1) := by decide +kernel
theorem d_law_116 : decode code 116 = .ok (.ldc2_w 13, 3) := by decide +kernel
theorem d_law_119 : decode code 119 = .ok (.land, 1) := by decide +kernel
theorem d_law_120 : decode code 120 = .ok (.lor, 1) := by decide +kernel
theorem d_law_121 : decode code 121 = .ok (.aload_n 0, 1) := by decide +kernel
theorem d_law_122 : decode code 122 = .ok (.iload_n 3, 1) := by decide +kernel
theorem d_law_123 : decode code 123 = .ok (.iconst 3, 1) := by decide +kernel
theorem d_law_124 : decode code 124 = .ok (.iadd, 1) := by decide +kernel
theorem d_law_125 : decode code 125 = .ok (.iaload, 1) := by decide +kernel
theorem d_law_126 : decode code 126 = .ok (.invokevirtual 15, 3) := by decide +kernel
theorem d_law_129 : decode code 129 = .ok (.aload_n 2, 1) := by decide +kernel
theorem d_law_130 : decode code 130 = .ok (.aload_n 0, 1) := by decide +kernel
theorem d_law_131 : decode code 131 = .ok (.iload_n 3, 1) := by decide +kernel
theorem d_law_132 : decode code 132 = .ok (.iconst 1, 1) := by decide +kernel
theorem d_law_133 : decode code 133 = .ok (.iadd, 1) := by decide +kernel
theorem d_law_134 : decode code 134 = .ok (.iaload, 1) := by decide +kernel
theorem d_law_135 : decode code 135 = .ok (.i2l, 1) := by decide +kernel
theorem d_law_136 : decode code 136 = .ok (.bipush 32, 2) := by decide +kernel
theorem d_law_138 : decode code 138 = .ok (.lshl, 1) := by decide +kernel
theorem d_law_139 : decode code 139 = .ok (.aload_n 0, 1) := by decide +kernel
theorem d_law_140 : decode code 140 = .ok (.iload_n 3, 1) := by decide +kernel
theorem d_law_141 : decode code 141 = .ok (.iconst 2, 1) := by decide +kernel
theorem d_law_142 : decode code 142 = .ok (.iadd, 1) := by decide +kernel
theorem d_law_143 : decode code 143 = .ok (.iaload, 1) := by decide +kernel
theorem d_law_144 : decode code 144 = .ok (.i2l, 1) := by decide +kernel
theorem d_law_145 : decode code 145 = .ok (.ldc2_w 13, 3) := by decide +kernel
theorem d_law_148 : decode code 148 = .ok (.land, 1) := by decide +kernel
theorem d_law_149 : decode code 149 = .ok (.lor, 1) := by decide +kernel
theorem d_law_150 : decode code 150 = .ok (.aload_n 0, 1) := by decide +kernel
theorem d_law_151 : decode code 151 = .ok (.iload_n 3, 1) := by decide +kernel
theorem d_law_152 : decode code 152 = .ok (.iconst 3, 1) := by decide +kernel
theorem d_law_153 : decode code 153 = .ok (.iadd, 1) := by decide +kernel
theorem d_law_154 : decode code 154 = .ok (.iaload, 1) := by decide +kernel
theorem d_law_155 : decode code 155 = .ok (.invokevirtual 19, 3) := by decide +kernel
theorem d_law_158 : decode code 158 = .ok (.if_icmp .eq 283, 3) := by decide +kernel
theorem d_law_161 : decode code 161 = .ok (.iconst 0, 1) := by decide +kernel
theorem d_law_162 : decode code 162 = .ok (.ireturn, 1) := by decide +kernel
theorem d_law_163 : decode code 163 = .ok (.aload_n 1, 1) := by decide +kernel
theorem d_law_164 : decode code 164 = .ok (.aload_n 0, 1) := by decide +kernel
theorem d_law_165 : decode code 165 = .ok (.iload_n 3, 1) := by decide +kernel
theorem d_law_166 : decode code 166 = .ok (.iconst 1, 1) := by decide +kernel
theorem d_law_167 : decode code 167 = .ok (.iadd, 1) := by decide +kernel
theorem d_law_168 : decode code 168 = .ok (.iaload, 1) := by decide +kernel
theorem d_law_169 : decode code 169 = .ok (.aload_n 0, 1) := by decide +kernel
theorem d_law_170 : decode code 170 = .ok (.iload_n 3, 1) := by decide +kernel
theorem d_law_171 : decode code 171 = .ok (.iconst 2, 1) := by decide +kernel
theorem d_law_172 : decode code 172 = .ok (.iadd, 1) := by decide +kernel
theorem d_law_173 : decode code 173 = .ok (.iaload, 1) := by decide +kernel
theorem d_law_174 : decode code 174 = .ok (.invokevirtual 20, 3) := by decide +kernel
theorem d_law_177 : decode code 177 = .ok (.aload_n 2, 1) := by decide +kernel
theorem d_law_178 : decode code 178 = .ok (.aload_n 0, 1) := by decide +kernel
theorem d_law_179 : decode code 179 = .ok (.iload_n 3, 1) := by decide +kernel
theorem d_law_180 : decode code 180 = .ok (.iconst 1, 1) := by decide +kernel
theorem d_law_181 : decode code 181 = .ok (.iadd, 1) := by decide +kernel
theorem d_law_182 : decode code 182 = .ok (.iaload, 1) := by decide +kernel
theorem d_law_183 : decode code 183 = .ok (.aload_n 0, 1) := by decide +kernel
theorem d_law_184 : decode code 184 = .ok (.iload_n 3, 1) := by decide +kernel
theorem d_law_185 : decode code 185 = .ok (.iconst 2, 1) := by decide +kernel
theorem d_law_186 : decode code 186 = .ok (.iadd, 1) := by decide +kernel
theorem d_law_187 : decode code 187 = .ok (.iaload, 1) := by decide +kernel
theorem d_law_188 : decode code 188 = .ok (.invokevirtual 24, 3) := by decide +kernel
theorem d_law_191 : decode code 191 = .ok (.if_icmp .eq 250, 3) := by decide +kernel
theorem d_law_194 : decode code 194 = .ok (.iconst 0, 1) := by decide +kernel
theorem d_law_195 : decode code 195 = .ok (.ireturn, 1) := by decide +kernel
theorem d_law_196 : decode code 196 = .ok (.aload_n 1, 1) := by decide +kernel
theorem d_law_197 : decode code 197 = .ok (.aload_n 0, 1) := by decide +kernel
theorem d_law_198 : decode code 198 = .ok (.iload_n 3, 1) := by decide +kernel
theorem d_law_199 : decode code 199 = .ok (.iconst 1, 1) := by decide +kernel
theorem d_law_200 : decode code 200 = .ok (.iadd, 1) := by decide +kernel
theorem d_law_201 : decode code 201 = .ok (.iaload, 1) := by decide +kernel
theorem d_law_202 : decode code 202 = .ok (.aload_n 0, 1) := by decide +kernel
theorem d_law_203 : decode code 203 = .ok (.iload_n 3, 1) := by decide +kernel
theorem d_law_204 : decode code 204 = .ok (.iconst 2, 1) := by decide +kernel
theorem d_law_205 : decode code 205 = .ok (.iadd, 1) := by decide +kernel
theorem d_law_206 : decode code 206 = .ok (.iaload, 1) := by decide +kernel
theorem d_law_207 : decode code 207 = .ok (.invokevirtual 25, 3) := by decide +kernel
theorem d_law_210 : decode code 210 = .ok (.aload_n 2, 1) := by decide +kernel
theorem d_law_211 : decode code 211 = .ok (.aload_n 0, 1) := by decide +kernel
theorem d_law_212 : decode code 212 = .ok (.iload_n 3, 1) := by decide +kernel
theorem d_law_213 : decode code 213 = .ok (.iconst 1, 1) := by decide +kernel
theorem d_law_214 : decode code 214 = .ok (.iadd, 1) := by decide +kernel
theorem d_law_215 : decode code 215 = .ok (.iaload, 1) := by decide +kernel
theorem d_law_216 : decode code 216 = .ok (.aload_n 0, 1) := by decide +kernel
theorem d_law_217 : decode code 217 = .ok (.iload_n 3, 1) := by decide +kernel
theorem d_law_218 : decode code 218 = .ok (.iconst 2, 1) := by decide +kernel
theorem d_law_219 : decode code 219 = .ok (.iadd, 1) := by decide +kernel
theorem d_law_220 : decode code 220 = .ok (.iaload, 1) := by decide +kernel
theorem d_law_221 : decode code 221 = .ok (.invokevirtual 28, 3) := by decide +kernel
theorem d_law_224 : decode code 224 = .ok (.if_icmp .eq 217, 3) := by decide +kernel
theorem d_law_227 : decode code 227 = .ok (.iconst 0, 1) := by decide +kernel
theorem d_law_228 : decode code 228 = .ok (.ireturn, 1) := by decide +kernel
theorem d_law_229 : decode code 229 = .ok (.aload_n 1, 1) := by decide +kernel
theorem d_law_230 : decode code 230 = .ok (.invokevirtual 29, 3) := by decide +kernel
theorem d_law_233 : decode code 233 = .ok (.aload_n 2, 1) := by decide +kernel
theorem d_law_234 : decode code 234 = .ok (.invokevirtual 33, 3) := by decide +kernel
theorem d_law_237 : decode code 237 = .ok (.if_icmp .eq 204, 3) := by decide +kernel
theorem d_law_240 : decode code 240 = .ok (.iconst 0, 1) := by decide +kernel
theorem d_law_241 : decode code 241 = .ok (.ireturn, 1) := by decide +kernel
theorem d_law_242 : decode code 242 = .ok (.aload_n 1, 1) := by decide +kernel
theorem d_law_243 : decode code 243 = .ok (.invokevirtual 34, 3) := by decide +kernel
theorem d_law_246 : decode code 246 = .ok (.aload_n 2, 1) := by decide +kernel
theorem d_law_247 : decode code 247 = .ok (.invokevirtual 37, 3) := by decide +kernel
theorem d_law_250 : decode code 250 = .ok (.if_icmp .eq 191, 3) := by decide +kernel
theorem d_law_253 : decode code 253 = .ok (.iconst 0, 1) := by decide +kernel
theorem d_law_254 : decode code 254 = .ok (.ireturn, 1) := by decide +kernel
theorem d_law_255 : decode code 255 = .ok (.aload_n 1, 1) := by decide +kernel
theorem d_law_256 : decode code 256 = .ok (.aload_n 0, 1) := by decide +kernel
theorem d_law_257 : decode code 257 = .ok (.iload_n 3, 1) := by decide +kernel
theorem d_law_258 : decode code 258 = .ok (.iconst 1, 1) := by decide +kernel
theorem d_law_259 : decode code 259 = .ok (.iadd, 1) := by decide +kernel
theorem d_law_260 : decode code 260 = .ok (.iaload, 1) := by decide +kernel
theorem d_law_261 : decode code 261 = .ok (.ifCond .eq 7, 3) := by decide +kernel
theorem d_law_264 : decode code 264 = .ok (.iconst 1, 1) := by decide +kernel
theorem d_law_265 : decode code 265 = .ok (.goto 4, 3) := by decide +kernel
theorem d_law_268 : decode code 268 = .ok (.iconst 0, 1) := by decide +kernel
theorem d_law_269 : decode code 269 = .ok (.invokevirtual 38, 3) := by decide +kernel
theorem d_law_272 : decode code 272 = .ok (.aload_n 2, 1) := by decide +kernel
theorem d_law_273 : decode code 273 = .ok (.aload_n 0, 1) := by decide +kernel
theorem d_law_274 : decode code 274 = .ok (.iload_n 3, 1) := by decide +kernel
theorem d_law_275 : decode code 275 = .ok (.iconst 1, 1) := by decide +kernel
theorem d_law_276 : decode code 276 = .ok (.iadd, 1) := by decide +kernel
theorem d_law_277 : decode code 277 = .ok (.iaload, 1) := by decide +kernel
theorem d_law_278 : decode code 278 = .ok (.ifCond .eq 7, 3) := by decide +kernel
theorem d_law_281 : decode code 281 = .ok (.iconst 1, 1) := by decide +kernel
theorem d_law_282 : decode code 282 = .ok (.goto 4, 3) := by decide +kernel
theorem d_law_285 : decode code 285 = .ok (.iconst 0, 1) := by decide +kernel
theorem d_law_286 : decode code 286 = .ok (.invokevirtual 42, 3) := by decide +kernel
theorem d_law_289 : decode code 289 = .ok (.if_icmp .eq 152, 3) := by decide +kernel
theorem d_law_292 : decode code 292 = .ok (.iconst 0, 1) := by decide +kernel
theorem d_law_293 : decode code 293 = .ok (.ireturn, 1) := by decide +kernel
theorem d_law_294 : decode code 294 = .ok (.aload_n 1, 1) := by decide +kernel
theorem d_law_295 : decode code 295 = .ok (.aload_n 0, 1) := by decide +kernel
theorem d_law_296 : decode code 296 = .ok (.iload_n 3, 1) := by decide +kernel
theorem d_law_297 : decode code 297 = .ok (.iconst 1, 1) := by decide +kernel
theorem d_law_298 : decode code 298 = .ok (.iadd, 1) := by decide +kernel
theorem d_law_299 : decode code 299 = .ok (.iaload, 1) := by decide +kernel
theorem d_law_300 : decode code 300 = .ok (.ifCond .eq 7, 3) := by decide +kernel
theorem d_law_303 : decode code 303 = .ok (.iconst 1, 1) := by decide +kernel
theorem d_law_304 : decode code 304 = .ok (.goto 4, 3) := by decide +kernel
theorem d_law_307 : decode code 307 = .ok (.iconst 0, 1) := by decide +kernel
theorem d_law_308 : decode code 308 = .ok (.invokevirtual 43, 3) := by decide +kernel
theorem d_law_311 : decode code 311 = .ok (.aload_n 2, 1) := by decide +kernel
theorem d_law_312 : decode code 312 = .ok (.aload_n 0, 1) := by decide +kernel
theorem d_law_313 : decode code 313 = .ok (.iload_n 3, 1) := by decide +kernel
theorem d_law_314 : decode code 314 = .ok (.iconst 1, 1) := by decide +kernel
theorem d_law_315 : decode code 315 = .ok (.iadd, 1) := by decide +kernel
theorem d_law_316 : decode code 316 = .ok (.iaload, 1) := by decide +kernel
theorem d_law_317 : decode code 317 = .ok (.ifCond .eq 7, 3) := by decide +kernel
theorem d_law_320 : decode code 320 = .ok (.iconst 1, 1) := by decide +kernel
theorem d_law_321 : decode code 321 = .ok (.goto 4, 3) := by decide +kernel
theorem d_law_324 : decode code 324 = .ok (.iconst 0, 1) := by decide +kernel
theorem d_law_325 : decode code 325 = .ok (.invokevirtual 46, 3) := by decide +kernel
theorem d_law_328 : decode code 328 = .ok (.if_icmp .eq 113, 3) := by decide +kernel
theorem d_law_331 : decode code 331 = .ok (.iconst 0, 1) := by decide +kernel
theorem d_law_332 : decode code 332 = .ok (.ireturn, 1) := by decide +kernel
theorem d_law_333 : decode code 333 = .ok (.aload_n 1, 1) := by decide +kernel
theorem d_law_334 : decode code 334 = .ok (.invokevirtual 47, 3) := by decide +kernel
theorem d_law_337 : decode code 337 = .ok (.aload_n 2, 1) := by decide +kernel
theorem d_law_338 : decode code 338 = .ok (.invokevirtual 50, 3) := by decide +kernel
theorem d_law_341 : decode code 341 = .ok (.if_icmp .eq 100, 3) := by decide +kernel
theorem d_law_344 : decode code 344 = .ok (.iconst 0, 1) := by decide +kernel
theorem d_law_345 : decode code 345 = .ok (.ireturn, 1) := by decide +kernel
theorem d_law_346 : decode code 346 = .ok (.aload_n 1, 1) := by decide +kernel
theorem d_law_347 : decode code 347 = .ok (.aload_n 0, 1) := by decide +kernel
theorem d_law_348 : decode code 348 = .ok (.iload_n 3, 1) := by decide +kernel
theorem d_law_349 : decode code 349 = .ok (.iconst 1, 1) := by decide +kernel
theorem d_law_350 : decode code 350 = .ok (.iadd, 1) := by decide +kernel
theorem d_law_351 : decode code 351 = .ok (.iaload, 1) := by decide +kernel
theorem d_law_352 : decode code 352 = .ok (.invokevirtual 51, 3) := by decide +kernel
theorem d_law_355 : decode code 355 = .ok (.aload_n 2, 1) := by decide +kernel
theorem d_law_356 : decode code 356 = .ok (.aload_n 0, 1) := by decide +kernel
theorem d_law_357 : decode code 357 = .ok (.iload_n 3, 1) := by decide +kernel
theorem d_law_358 : decode code 358 = .ok (.iconst 1, 1) := by decide +kernel
theorem d_law_359 : decode code 359 = .ok (.iadd, 1) := by decide +kernel
theorem d_law_360 : decode code 360 = .ok (.iaload, 1) := by decide +kernel
theorem d_law_361 : decode code 361 = .ok (.invokevirtual 55, 3) := by decide +kernel
theorem d_law_364 : decode code 364 = .ok (.if_icmp .eq 77, 3) := by decide +kernel
theorem d_law_367 : decode code 367 = .ok (.iconst 0, 1) := by decide +kernel
theorem d_law_368 : decode code 368 = .ok (.ireturn, 1) := by decide +kernel
theorem d_law_369 : decode code 369 = .ok (.aload_n 1, 1) := by decide +kernel
theorem d_law_370 : decode code 370 = .ok (.aload_n 0, 1) := by decide +kernel
theorem d_law_371 : decode code 371 = .ok (.iload_n 3, 1) := by decide +kernel
theorem d_law_372 : decode code 372 = .ok (.iconst 1, 1) := by decide +kernel
theorem d_law_373 : decode code 373 = .ok (.iadd, 1) := by decide +kernel
theorem d_law_374 : decode code 374 = .ok (.iaload, 1) := by decide +kernel
theorem d_law_375 : decode code 375 = .ok (.invokevirtual 56, 3) := by decide +kernel
theorem d_law_378 : decode code 378 = .ok (.aload_n 2, 1) := by decide +kernel
theorem d_law_379 : decode code 379 = .ok (.aload_n 0, 1) := by decide +kernel
theorem d_law_380 : decode code 380 = .ok (.iload_n 3, 1) := by decide +kernel
theorem d_law_381 : decode code 381 = .ok (.iconst 1, 1) := by decide +kernel
theorem d_law_382 : decode code 382 = .ok (.iadd, 1) := by decide +kernel
theorem d_law_383 : decode code 383 = .ok (.iaload, 1) := by decide +kernel
theorem d_law_384 : decode code 384 = .ok (.invokevirtual 59, 3) := by decide +kernel
theorem d_law_387 : decode code 387 = .ok (.if_icmp .eq 54, 3) := by decide +kernel
theorem d_law_390 : decode code 390 = .ok (.iconst 0, 1) := by decide +kernel
theorem d_law_391 : decode code 391 = .ok (.ireturn, 1) := by decide +kernel
theorem d_law_392 : decode code 392 = .ok (.aload_n 1, 1) := by decide +kernel
theorem d_law_393 : decode code 393 = .ok (.invokevirtual 60, 3) := by decide +kernel
theorem d_law_396 : decode code 396 = .ok (.aload_n 2, 1) := by decide +kernel
theorem d_law_397 : decode code 397 = .ok (.invokevirtual 63, 3) := by decide +kernel
theorem d_law_400 : decode code 400 = .ok (.if_icmp .eq 41, 3) := by decide +kernel
theorem d_law_403 : decode code 403 = .ok (.iconst 0, 1) := by decide +kernel
theorem d_law_404 : decode code 404 = .ok (.ireturn, 1) := by decide +kernel
theorem d_law_405 : decode code 405 = .ok (.aload_n 1, 1) := by decide +kernel
theorem d_law_406 : decode code 406 = .ok (.invokevirtual 64, 3) := by decide +kernel
theorem d_law_409 : decode code 409 = .ok (.aload_n 2, 1) := by decide +kernel
theorem d_law_410 : decode code 410 = .ok (.invokevirtual 67, 3) := by decide +kernel
theorem d_law_413 : decode code 413 = .ok (.if_icmp .eq 28, 3) := by decide +kernel
theorem d_law_416 : decode code 416 = .ok (.iconst 0, 1) := by decide +kernel
theorem d_law_417 : decode code 417 = .ok (.ireturn, 1) := by decide +kernel
theorem d_law_418 : decode code 418 = .ok (.aload_n 1, 1) := by decide +kernel
theorem d_law_419 : decode code 419 = .ok (.aload_n 0, 1) := by decide +kernel
theorem d_law_420 : decode code 420 = .ok (.iload_n 3, 1) := by decide +kernel
theorem d_law_421 : decode code 421 = .ok (.iconst 1, 1) := by decide +kernel
theorem d_law_422 : decode code 422 = .ok (.iadd, 1) := by decide +kernel
theorem d_law_423 : decode code 423 = .ok (.iaload, 1) := by decide +kernel
theorem d_law_424 : decode code 424 = .ok (.invokevirtual 68, 3) := by decide +kernel
theorem d_law_427 : decode code 427 = .ok (.aload_n 2, 1) := by decide +kernel
theorem d_law_428 : decode code 428 = .ok (.aload_n 0, 1) := by decide +kernel
theorem d_law_429 : decode code 429 = .ok (.iload_n 3, 1) := by decide +kernel
theorem d_law_430 : decode code 430 = .ok (.iconst 1, 1) := by decide +kernel
theorem d_law_431 : decode code 431 = .ok (.iadd, 1) := by decide +kernel
theorem d_law_432 : decode code 432 = .ok (.iaload, 1) := by decide +kernel
theorem d_law_433 : decode code 433 = .ok (.invokevirtual 71, 3) := by decide +kernel
theorem d_law_436 : decode code 436 = .ok (.if_icmp .eq 5, 3) := by decide +kernel
theorem d_law_439 : decode code 439 = .ok (.iconst 0, 1) := by decide +kernel
theorem d_law_440 : decode code 440 = .ok (.ireturn, 1) := by decide +kernel
theorem d_law_441 : decode code 441 = .ok (.iinc 3 4, 3) := by decide +kernel
theorem d_law_444 : decode code 444 = .ok (.goto (-426), 3) := by decide +kernel
theorem d_law_447 : decode code 447 = .ok (.iconst 1, 1) := by decide +kernel
theorem d_law_448 : decode code 448 = .ok (.ireturn, 1) := by decide +kernel
set_option maxRecDepth 20000 in
theorem mw_10 : (Jvm.Cond.classLink "WordBreakerLaw" (7 : Nat) "WordBreaker") ∈ bigW := List.mem_filter.mpr ⟨List.mem_append_right _ (List.mem_of_getElem? (i := 10) rfl), rfl⟩
set_option maxRecDepth 20000 in
theorem mw_11 : (Jvm.Cond.instantiable "WordBreaker" (10 : Nat)) ∈ bigW := List.mem_filter.mpr ⟨List.mem_append_right _ (List.mem_of_getElem? (i := 11) rfl), rfl⟩
set_option maxRecDepth 20000 in
theorem mw_12 : (Jvm.Cond.methodLink "WordBreakerLaw" (9 : Nat) ({ cls := "WordBreaker", name := "<init>", desc := "()V" } : Jvm.MethodName)) ∈ bigW := List.mem_filter.mpr ⟨List.mem_append_right _ (List.mem_of_getElem? (i := 12) rfl), rfl⟩
set_option maxRecDepth 20000 in
theorem mw_13 : (Jvm.Cond.instanceMethod ({ cls := "WordBreaker", name := "<init>", desc := "()V" } : Jvm.MethodName)) ∈ bigW := List.mem_filter.mpr ⟨List.mem_append_right _ (List.mem_of_getElem? (i := 13) rfl), rfl⟩
set_option maxRecDepth 20000 in
theorem mw_14 : (Jvm.Cond.code ({ cls := "WordBreaker", name := "<init>", desc := "()V" } : Jvm.MethodName) prog_1_method_1_code (1 : Nat) (Option.none : Option Jvm.ClassFile.FieldType)) ∈ bigW := List.mem_filter.mpr ⟨List.mem_append_right _ (List.mem_of_getElem? (i := 14) rfl), rfl⟩
set_option maxRecDepth 20000 in
theorem mw_187 : (Jvm.Cond.methodLink "WordBreakerLaw" (15 : Nat) ({ cls := "WordBreaker", name := "type", desc := "(JI)Z" } : Jvm.MethodName)) ∈ bigW := List.mem_filter.mpr ⟨List.mem_append_right _ (List.mem_of_getElem? (i := 187) rfl), rfl⟩
set_option maxRecDepth 20000 in
theorem mw_188 : (Jvm.Cond.instanceMethod ({ cls := "WordBreaker", name := "type", desc := "(JI)Z" } : Jvm.MethodName)) ∈ bigW := List.mem_filter.mpr ⟨List.mem_append_right _ (List.mem_of_getElem? (i := 188) rfl), rfl⟩
set_option maxRecDepth 20000 in
theorem mw_189 : (Jvm.Cond.selects "WordBreaker" ({ cls := "WordBreaker", name := "type", desc := "(JI)Z" } : Jvm.MethodName) ({ cls := "WordBreaker", name := "type", desc := "(JI)Z" } : Jvm.MethodName)) ∈ bigW := List.mem_filter.mpr ⟨List.mem_append_right _ (List.mem_of_getElem? (i := 189) rfl), rfl⟩
set_option maxRecDepth 20000 in
theorem mw_190 : (Jvm.Cond.code ({ cls := "WordBreaker", name := "type", desc := "(JI)Z" } : Jvm.MethodName) prog_1_method_2_code (5 : Nat) (Option.some Jvm.ClassFile.FieldType.boolean)) ∈ bigW := List.mem_filter.mpr ⟨List.mem_append_right _ (List.mem_of_getElem? (i := 190) rfl), rfl⟩
set_option maxRecDepth 20000 in
theorem mw_197 : (Jvm.Cond.methodLink "WordBreakerLaw" (20 : Nat) ({ cls := "WordBreaker", name := "letter", desc := "(II)Z" } : Jvm.MethodName)) ∈ bigW := List.mem_filter.mpr ⟨List.mem_append_right _ (List.mem_of_getElem? (i := 197) rfl), rfl⟩
set_option maxRecDepth 20000 in
theorem mw_198 : (Jvm.Cond.instanceMethod ({ cls := "WordBreaker", name := "letter", desc := "(II)Z" } : Jvm.MethodName)) ∈ bigW := List.mem_filter.mpr ⟨List.mem_append_right _ (List.mem_of_getElem? (i := 198) rfl), rfl⟩
set_option maxRecDepth 20000 in
theorem mw_199 : (Jvm.Cond.selects "WordBreaker" ({ cls := "WordBreaker", name := "letter", desc := "(II)Z" } : Jvm.MethodName) ({ cls := "WordBreaker", name := "letter", desc := "(II)Z" } : Jvm.MethodName)) ∈ bigW := List.mem_filter.mpr ⟨List.mem_append_right _ (List.mem_of_getElem? (i := 199) rfl), rfl⟩
set_option maxRecDepth 20000 in
theorem mw_200 : (Jvm.Cond.code ({ cls := "WordBreaker", name := "letter", desc := "(II)Z" } : Jvm.MethodName) prog_1_method_3_code (3 : Nat) (Option.some Jvm.ClassFile.FieldType.boolean)) ∈ bigW := List.mem_filter.mpr ⟨List.mem_append_right _ (List.mem_of_getElem? (i := 200) rfl), rfl⟩
set_option maxRecDepth 20000 in
theorem mw_211 : (Jvm.Cond.methodLink "WordBreakerLaw" (25 : Nat) ({ cls := "WordBreaker", name := "least", desc := "(II)Z" } : Jvm.MethodName)) ∈ bigW := List.mem_filter.mpr ⟨List.mem_append_right _ (List.mem_of_getElem? (i := 211) rfl), rfl⟩
set_option maxRecDepth 20000 in
theorem mw_212 : (Jvm.Cond.instanceMethod ({ cls := "WordBreaker", name := "least", desc := "(II)Z" } : Jvm.MethodName)) ∈ bigW := List.mem_filter.mpr ⟨List.mem_append_right _ (List.mem_of_getElem? (i := 212) rfl), rfl⟩
set_option maxRecDepth 20000 in
theorem mw_213 : (Jvm.Cond.selects "WordBreaker" ({ cls := "WordBreaker", name := "least", desc := "(II)Z" } : Jvm.MethodName) ({ cls := "WordBreaker", name := "least", desc := "(II)Z" } : Jvm.MethodName)) ∈ bigW := List.mem_filter.mpr ⟨List.mem_append_right _ (List.mem_of_getElem? (i := 213) rfl), rfl⟩
set_option maxRecDepth 20000 in
theorem mw_214 : (Jvm.Cond.code ({ cls := "WordBreaker", name := "least", desc := "(II)Z" } : Jvm.MethodName) prog_1_method_4_code (3 : Nat) (Option.some Jvm.ClassFile.FieldType.boolean)) ∈ bigW := List.mem_filter.mpr ⟨List.mem_append_right _ (List.mem_of_getElem? (i := 214) rfl), rfl⟩
set_option maxRecDepth 20000 in
theorem mw_215 : (Jvm.Cond.methodLink "WordBreakerLaw" (29 : Nat) ({ cls := "WordBreaker", name := "patterns", desc := "()I" } : Jvm.MethodName)) ∈ bigW := List.mem_filter.mpr ⟨List.mem_append_right _ (List.mem_of_getElem? (i := 215) rfl), rfl⟩
set_option maxRecDepth 20000 in
theorem mw_216 : (Jvm.Cond.instanceMethod ({ cls := "WordBreaker", name := "patterns", desc := "()I" } : Jvm.MethodName)) ∈ bigW := List.mem_filter.mpr ⟨List.mem_append_right _ (List.mem_of_getElem? (i := 216) rfl), rfl⟩
set_option maxRecDepth 20000 in
theorem mw_217 : (Jvm.Cond.selects "WordBreaker" ({ cls := "WordBreaker", name := "patterns", desc := "()I" } : Jvm.MethodName) ({ cls := "WordBreaker", name := "patterns", desc := "()I" } : Jvm.MethodName)) ∈ bigW := List.mem_filter.mpr ⟨List.mem_append_right _ (List.mem_of_getElem? (i := 217) rfl), rfl⟩
set_option maxRecDepth 20000 in
theorem mw_218 : (Jvm.Cond.code ({ cls := "WordBreaker", name := "patterns", desc := "()I" } : Jvm.MethodName) prog_1_method_5_code (2 : Nat) (Option.some Jvm.ClassFile.FieldType.int)) ∈ bigW := List.mem_filter.mpr ⟨List.mem_append_right _ (List.mem_of_getElem? (i := 218) rfl), rfl⟩
set_option maxRecDepth 20000 in
theorem mw_305 : (Jvm.Cond.methodLink "WordBreakerLaw" (34 : Nat) ({ cls := "WordBreaker", name := "words", desc := "()I" } : Jvm.MethodName)) ∈ bigW := List.mem_filter.mpr ⟨List.mem_append_right _ (List.mem_of_getElem? (i := 305) rfl), rfl⟩
set_option maxRecDepth 20000 in
theorem mw_306 : (Jvm.Cond.instanceMethod ({ cls := "WordBreaker", name := "words", desc := "()I" } : Jvm.MethodName)) ∈ bigW := List.mem_filter.mpr ⟨List.mem_append_right _ (List.mem_of_getElem? (i := 306) rfl), rfl⟩
set_option maxRecDepth 20000 in
theorem mw_307 : (Jvm.Cond.selects "WordBreaker" ({ cls := "WordBreaker", name := "words", desc := "()I" } : Jvm.MethodName) ({ cls := "WordBreaker", name := "words", desc := "()I" } : Jvm.MethodName)) ∈ bigW := List.mem_filter.mpr ⟨List.mem_append_right _ (List.mem_of_getElem? (i := 307) rfl), rfl⟩
set_option maxRecDepth 20000 in
theorem mw_308 : (Jvm.Cond.code ({ cls := "WordBreaker", name := "words", desc := "()I" } : Jvm.MethodName) prog_1_method_6_code (2 : Nat) (Option.some Jvm.ClassFile.FieldType.int)) ∈ bigW := List.mem_filter.mpr ⟨List.mem_append_right _ (List.mem_of_getElem? (i := 308) rfl), rfl⟩
set_option maxRecDepth 20000 in
theorem mw_317 : (Jvm.Cond.methodLink "WordBreakerLaw" (38 : Nat) ({ cls := "WordBreaker", name := "clear", desc := "(Z)I" } : Jvm.MethodName)) ∈ bigW := List.mem_filter.mpr ⟨List.mem_append_right _ (List.mem_of_getElem? (i := 317) rfl), rfl⟩
set_option maxRecDepth 20000 in
theorem mw_318 : (Jvm.Cond.instanceMethod ({ cls := "WordBreaker", name := "clear", desc := "(Z)I" } : Jvm.MethodName)) ∈ bigW := List.mem_filter.mpr ⟨List.mem_append_right _ (List.mem_of_getElem? (i := 318) rfl), rfl⟩
set_option maxRecDepth 20000 in
theorem mw_319 : (Jvm.Cond.selects "WordBreaker" ({ cls := "WordBreaker", name := "clear", desc := "(Z)I" } : Jvm.MethodName) ({ cls := "WordBreaker", name := "clear", desc := "(Z)I" } : Jvm.MethodName)) ∈ bigW := List.mem_filter.mpr ⟨List.mem_append_right _ (List.mem_of_getElem? (i := 319) rfl), rfl⟩
set_option maxRecDepth 20000 in
theorem mw_320 : (Jvm.Cond.code ({ cls := "WordBreaker", name := "clear", desc := "(Z)I" } : Jvm.MethodName) prog_1_method_7_code (4 : Nat) (Option.some Jvm.ClassFile.FieldType.int)) ∈ bigW := List.mem_filter.mpr ⟨List.mem_append_right _ (List.mem_of_getElem? (i := 320) rfl), rfl⟩
set_option maxRecDepth 20000 in
theorem mw_321 : (Jvm.Cond.methodLink "WordBreakerLaw" (43 : Nat) ({ cls := "WordBreaker", name := "count", desc := "(Z)I" } : Jvm.MethodName)) ∈ bigW := List.mem_filter.mpr ⟨List.mem_append_right _ (List.mem_of_getElem? (i := 321) rfl), rfl⟩
set_option maxRecDepth 20000 in
theorem mw_322 : (Jvm.Cond.instanceMethod ({ cls := "WordBreaker", name := "count", desc := "(Z)I" } : Jvm.MethodName)) ∈ bigW := List.mem_filter.mpr ⟨List.mem_append_right _ (List.mem_of_getElem? (i := 322) rfl), rfl⟩
set_option maxRecDepth 20000 in
theorem mw_323 : (Jvm.Cond.selects "WordBreaker" ({ cls := "WordBreaker", name := "count", desc := "(Z)I" } : Jvm.MethodName) ({ cls := "WordBreaker", name := "count", desc := "(Z)I" } : Jvm.MethodName)) ∈ bigW := List.mem_filter.mpr ⟨List.mem_append_right _ (List.mem_of_getElem? (i := 323) rfl), rfl⟩
set_option maxRecDepth 20000 in
theorem mw_324 : (Jvm.Cond.code ({ cls := "WordBreaker", name := "count", desc := "(Z)I" } : Jvm.MethodName) prog_1_method_8_code (2 : Nat) (Option.some Jvm.ClassFile.FieldType.int)) ∈ bigW := List.mem_filter.mpr ⟨List.mem_append_right _ (List.mem_of_getElem? (i := 324) rfl), rfl⟩
set_option maxRecDepth 20000 in
theorem mw_325 : (Jvm.Cond.methodLink "WordBreakerLaw" (47 : Nat) ({ cls := "WordBreaker", name := "word", desc := "()I" } : Jvm.MethodName)) ∈ bigW := List.mem_filter.mpr ⟨List.mem_append_right _ (List.mem_of_getElem? (i := 325) rfl), rfl⟩
set_option maxRecDepth 20000 in
theorem mw_326 : (Jvm.Cond.instanceMethod ({ cls := "WordBreaker", name := "word", desc := "()I" } : Jvm.MethodName)) ∈ bigW := List.mem_filter.mpr ⟨List.mem_append_right _ (List.mem_of_getElem? (i := 326) rfl), rfl⟩
set_option maxRecDepth 20000 in
theorem mw_327 : (Jvm.Cond.selects "WordBreaker" ({ cls := "WordBreaker", name := "word", desc := "()I" } : Jvm.MethodName) ({ cls := "WordBreaker", name := "word", desc := "()I" } : Jvm.MethodName)) ∈ bigW := List.mem_filter.mpr ⟨List.mem_append_right _ (List.mem_of_getElem? (i := 327) rfl), rfl⟩
set_option maxRecDepth 20000 in
theorem mw_328 : (Jvm.Cond.code ({ cls := "WordBreaker", name := "word", desc := "()I" } : Jvm.MethodName) prog_1_method_9_code (2 : Nat) (Option.some Jvm.ClassFile.FieldType.int)) ∈ bigW := List.mem_filter.mpr ⟨List.mem_append_right _ (List.mem_of_getElem? (i := 328) rfl), rfl⟩
set_option maxRecDepth 20000 in
theorem mw_368 : (Jvm.Cond.methodLink "WordBreakerLaw" (51 : Nat) ({ cls := "WordBreaker", name := "place", desc := "(I)I" } : Jvm.MethodName)) ∈ bigW := List.mem_filter.mpr ⟨List.mem_append_right _ (List.mem_of_getElem? (i := 368) rfl), rfl⟩
set_option maxRecDepth 20000 in
theorem mw_369 : (Jvm.Cond.instanceMethod ({ cls := "WordBreaker", name := "place", desc := "(I)I" } : Jvm.MethodName)) ∈ bigW := List.mem_filter.mpr ⟨List.mem_append_right _ (List.mem_of_getElem? (i := 369) rfl), rfl⟩
set_option maxRecDepth 20000 in
theorem mw_370 : (Jvm.Cond.selects "WordBreaker" ({ cls := "WordBreaker", name := "place", desc := "(I)I" } : Jvm.MethodName) ({ cls := "WordBreaker", name := "place", desc := "(I)I" } : Jvm.MethodName)) ∈ bigW := List.mem_filter.mpr ⟨List.mem_append_right _ (List.mem_of_getElem? (i := 370) rfl), rfl⟩
set_option maxRecDepth 20000 in
theorem mw_371 : (Jvm.Cond.code ({ cls := "WordBreaker", name := "place", desc := "(I)I" } : Jvm.MethodName) prog_1_method_10_code (2 : Nat) (Option.some Jvm.ClassFile.FieldType.int)) ∈ bigW := List.mem_filter.mpr ⟨List.mem_append_right _ (List.mem_of_getElem? (i := 371) rfl), rfl⟩
set_option maxRecDepth 20000 in
theorem mw_372 : (Jvm.Cond.methodLink "WordBreakerLaw" (56 : Nat) ({ cls := "WordBreaker", name := "value", desc := "(I)I" } : Jvm.MethodName)) ∈ bigW := List.mem_filter.mpr ⟨List.mem_append_right _ (List.mem_of_getElem? (i := 372) rfl), rfl⟩
set_option maxRecDepth 20000 in
theorem mw_373 : (Jvm.Cond.instanceMethod ({ cls := "WordBreaker", name := "value", desc := "(I)I" } : Jvm.MethodName)) ∈ bigW := List.mem_filter.mpr ⟨List.mem_append_right _ (List.mem_of_getElem? (i := 373) rfl), rfl⟩
set_option maxRecDepth 20000 in
theorem mw_374 : (Jvm.Cond.selects "WordBreaker" ({ cls := "WordBreaker", name := "value", desc := "(I)I" } : Jvm.MethodName) ({ cls := "WordBreaker", name := "value", desc := "(I)I" } : Jvm.MethodName)) ∈ bigW := List.mem_filter.mpr ⟨List.mem_append_right _ (List.mem_of_getElem? (i := 374) rfl), rfl⟩
set_option maxRecDepth 20000 in
theorem mw_375 : (Jvm.Cond.code ({ cls := "WordBreaker", name := "value", desc := "(I)I" } : Jvm.MethodName) prog_1_method_11_code (2 : Nat) (Option.some Jvm.ClassFile.FieldType.int)) ∈ bigW := List.mem_filter.mpr ⟨List.mem_append_right _ (List.mem_of_getElem? (i := 375) rfl), rfl⟩
set_option maxRecDepth 20000 in
theorem mw_376 : (Jvm.Cond.methodLink "WordBreakerLaw" (60 : Nat) ({ cls := "WordBreaker", name := "text", desc := "()I" } : Jvm.MethodName)) ∈ bigW := List.mem_filter.mpr ⟨List.mem_append_right _ (List.mem_of_getElem? (i := 376) rfl), rfl⟩
set_option maxRecDepth 20000 in
theorem mw_377 : (Jvm.Cond.instanceMethod ({ cls := "WordBreaker", name := "text", desc := "()I" } : Jvm.MethodName)) ∈ bigW := List.mem_filter.mpr ⟨List.mem_append_right _ (List.mem_of_getElem? (i := 377) rfl), rfl⟩
set_option maxRecDepth 20000 in
theorem mw_378 : (Jvm.Cond.selects "WordBreaker" ({ cls := "WordBreaker", name := "text", desc := "()I" } : Jvm.MethodName) ({ cls := "WordBreaker", name := "text", desc := "()I" } : Jvm.MethodName)) ∈ bigW := List.mem_filter.mpr ⟨List.mem_append_right _ (List.mem_of_getElem? (i := 378) rfl), rfl⟩
set_option maxRecDepth 20000 in
theorem mw_379 : (Jvm.Cond.code ({ cls := "WordBreaker", name := "text", desc := "()I" } : Jvm.MethodName) prog_1_method_12_code (4 : Nat) (Option.some Jvm.ClassFile.FieldType.int)) ∈ bigW := List.mem_filter.mpr ⟨List.mem_append_right _ (List.mem_of_getElem? (i := 379) rfl), rfl⟩
set_option maxRecDepth 20000 in
theorem mw_388 : (Jvm.Cond.methodLink "WordBreakerLaw" (64 : Nat) ({ cls := "WordBreaker", name := "size", desc := "()I" } : Jvm.MethodName)) ∈ bigW := List.mem_filter.mpr ⟨List.mem_append_right _ (List.mem_of_getElem? (i := 388) rfl), rfl⟩
set_option maxRecDepth 20000 in
theorem mw_389 : (Jvm.Cond.instanceMethod ({ cls := "WordBreaker", name := "size", desc := "()I" } : Jvm.MethodName)) ∈ bigW := List.mem_filter.mpr ⟨List.mem_append_right _ (List.mem_of_getElem? (i := 389) rfl), rfl⟩
set_option maxRecDepth 20000 in
theorem mw_390 : (Jvm.Cond.selects "WordBreaker" ({ cls := "WordBreaker", name := "size", desc := "()I" } : Jvm.MethodName) ({ cls := "WordBreaker", name := "size", desc := "()I" } : Jvm.MethodName)) ∈ bigW := List.mem_filter.mpr ⟨List.mem_append_right _ (List.mem_of_getElem? (i := 390) rfl), rfl⟩
set_option maxRecDepth 20000 in
theorem mw_391 : (Jvm.Cond.code ({ cls := "WordBreaker", name := "size", desc := "()I" } : Jvm.MethodName) prog_1_method_13_code (1 : Nat) (Option.some Jvm.ClassFile.FieldType.int)) ∈ bigW := List.mem_filter.mpr ⟨List.mem_append_right _ (List.mem_of_getElem? (i := 391) rfl), rfl⟩
set_option maxRecDepth 20000 in
theorem mw_392 : (Jvm.Cond.methodLink "WordBreakerLaw" (68 : Nat) ({ cls := "WordBreaker", name := "out", desc := "(I)I" } : Jvm.MethodName)) ∈ bigW := List.mem_filter.mpr ⟨List.mem_append_right _ (List.mem_of_getElem? (i := 392) rfl), rfl⟩
set_option maxRecDepth 20000 in
theorem mw_393 : (Jvm.Cond.instanceMethod ({ cls := "WordBreaker", name := "out", desc := "(I)I" } : Jvm.MethodName)) ∈ bigW := List.mem_filter.mpr ⟨List.mem_append_right _ (List.mem_of_getElem? (i := 393) rfl), rfl⟩
set_option maxRecDepth 20000 in
theorem mw_394 : (Jvm.Cond.selects "WordBreaker" ({ cls := "WordBreaker", name := "out", desc := "(I)I" } : Jvm.MethodName) ({ cls := "WordBreaker", name := "out", desc := "(I)I" } : Jvm.MethodName)) ∈ bigW := List.mem_filter.mpr ⟨List.mem_append_right _ (List.mem_of_getElem? (i := 394) rfl), rfl⟩
set_option maxRecDepth 20000 in
theorem mw_395 : (Jvm.Cond.code ({ cls := "WordBreaker", name := "out", desc := "(I)I" } : Jvm.MethodName) prog_1_method_14_code (2 : Nat) (Option.some Jvm.ClassFile.FieldType.int)) ∈ bigW := List.mem_filter.mpr ⟨List.mem_append_right _ (List.mem_of_getElem? (i := 395) rfl), rfl⟩
set_option maxRecDepth 20000 in
theorem mw_396 : (Jvm.Cond.classLink "WordBreakerLaw" (10 : Nat) "WordBreakerModel") ∈ bigW := List.mem_filter.mpr ⟨List.mem_append_right _ (List.mem_of_getElem? (i := 396) rfl), rfl⟩
set_option maxRecDepth 20000 in
theorem mw_397 : (Jvm.Cond.instantiable "WordBreakerModel" (35 : Nat)) ∈ bigW := List.mem_filter.mpr ⟨List.mem_append_right _ (List.mem_of_getElem? (i := 397) rfl), rfl⟩
set_option maxRecDepth 20000 in
theorem mw_398 : (Jvm.Cond.methodLink "WordBreakerLaw" (12 : Nat) ({ cls := "WordBreakerModel", name := "<init>", desc := "()V" } : Jvm.MethodName)) ∈ bigW := List.mem_filter.mpr ⟨List.mem_append_right _ (List.mem_of_getElem? (i := 398) rfl), rfl⟩
set_option maxRecDepth 20000 in
theorem mw_399 : (Jvm.Cond.instanceMethod ({ cls := "WordBreakerModel", name := "<init>", desc := "()V" } : Jvm.MethodName)) ∈ bigW := List.mem_filter.mpr ⟨List.mem_append_right _ (List.mem_of_getElem? (i := 399) rfl), rfl⟩
set_option maxRecDepth 20000 in
theorem mw_400 : (Jvm.Cond.code ({ cls := "WordBreakerModel", name := "<init>", desc := "()V" } : Jvm.MethodName) prog_7_method_1_code (2 : Nat) (Option.none : Option Jvm.ClassFile.FieldType)) ∈ bigW := List.mem_filter.mpr ⟨List.mem_append_right _ (List.mem_of_getElem? (i := 400) rfl), rfl⟩
set_option maxRecDepth 20000 in
theorem mw_509 : (Jvm.Cond.methodLink "WordBreakerLaw" (19 : Nat) ({ cls := "WordBreakerModel", name := "type", desc := "(JI)Z" } : Jvm.MethodName)) ∈ bigW := List.mem_filter.mpr ⟨List.mem_append_right _ (List.mem_of_getElem? (i := 509) rfl), rfl⟩
set_option maxRecDepth 20000 in
theorem mw_510 : (Jvm.Cond.instanceMethod ({ cls := "WordBreakerModel", name := "type", desc := "(JI)Z" } : Jvm.MethodName)) ∈ bigW := List.mem_filter.mpr ⟨List.mem_append_right _ (List.mem_of_getElem? (i := 510) rfl), rfl⟩
set_option maxRecDepth 20000 in
theorem mw_511 : (Jvm.Cond.selects "WordBreakerModel" ({ cls := "WordBreakerModel", name := "type", desc := "(JI)Z" } : Jvm.MethodName) ({ cls := "WordBreakerModel", name := "type", desc := "(JI)Z" } : Jvm.MethodName)) ∈ bigW := List.mem_filter.mpr ⟨List.mem_append_right _ (List.mem_of_getElem? (i := 511) rfl), rfl⟩
set_option maxRecDepth 20000 in
theorem mw_512 : (Jvm.Cond.code ({ cls := "WordBreakerModel", name := "type", desc := "(JI)Z" } : Jvm.MethodName) prog_7_method_2_code (5 : Nat) (Option.some Jvm.ClassFile.FieldType.boolean)) ∈ bigW := List.mem_filter.mpr ⟨List.mem_append_right _ (List.mem_of_getElem? (i := 512) rfl), rfl⟩
set_option maxRecDepth 20000 in
theorem mw_514 : (Jvm.Cond.methodLink "WordBreakerLaw" (24 : Nat) ({ cls := "WordBreakerModel", name := "letter", desc := "(II)Z" } : Jvm.MethodName)) ∈ bigW := List.mem_filter.mpr ⟨List.mem_append_right _ (List.mem_of_getElem? (i := 514) rfl), rfl⟩
set_option maxRecDepth 20000 in
theorem mw_515 : (Jvm.Cond.instanceMethod ({ cls := "WordBreakerModel", name := "letter", desc := "(II)Z" } : Jvm.MethodName)) ∈ bigW := List.mem_filter.mpr ⟨List.mem_append_right _ (List.mem_of_getElem? (i := 515) rfl), rfl⟩
set_option maxRecDepth 20000 in
theorem mw_516 : (Jvm.Cond.selects "WordBreakerModel" ({ cls := "WordBreakerModel", name := "letter", desc := "(II)Z" } : Jvm.MethodName) ({ cls := "WordBreakerModel", name := "letter", desc := "(II)Z" } : Jvm.MethodName)) ∈ bigW := List.mem_filter.mpr ⟨List.mem_append_right _ (List.mem_of_getElem? (i := 516) rfl), rfl⟩
set_option maxRecDepth 20000 in
theorem mw_517 : (Jvm.Cond.code ({ cls := "WordBreakerModel", name := "letter", desc := "(II)Z" } : Jvm.MethodName) prog_7_method_4_code (3 : Nat) (Option.some Jvm.ClassFile.FieldType.boolean)) ∈ bigW := List.mem_filter.mpr ⟨List.mem_append_right _ (List.mem_of_getElem? (i := 517) rfl), rfl⟩
set_option maxRecDepth 20000 in
theorem mw_521 : (Jvm.Cond.methodLink "WordBreakerLaw" (28 : Nat) ({ cls := "WordBreakerModel", name := "least", desc := "(II)Z" } : Jvm.MethodName)) ∈ bigW := List.mem_filter.mpr ⟨List.mem_append_right _ (List.mem_of_getElem? (i := 521) rfl), rfl⟩
set_option maxRecDepth 20000 in
theorem mw_522 : (Jvm.Cond.instanceMethod ({ cls := "WordBreakerModel", name := "least", desc := "(II)Z" } : Jvm.MethodName)) ∈ bigW := List.mem_filter.mpr ⟨List.mem_append_right _ (List.mem_of_getElem? (i := 522) rfl), rfl⟩
set_option maxRecDepth 20000 in
theorem mw_523 : (Jvm.Cond.selects "WordBreakerModel" ({ cls := "WordBreakerModel", name := "least", desc := "(II)Z" } : Jvm.MethodName) ({ cls := "WordBreakerModel", name := "least", desc := "(II)Z" } : Jvm.MethodName)) ∈ bigW := List.mem_filter.mpr ⟨List.mem_append_right _ (List.mem_of_getElem? (i := 523) rfl), rfl⟩
set_option maxRecDepth 20000 in
theorem mw_524 : (Jvm.Cond.code ({ cls := "WordBreakerModel", name := "least", desc := "(II)Z" } : Jvm.MethodName) prog_7_method_5_code (3 : Nat) (Option.some Jvm.ClassFile.FieldType.boolean)) ∈ bigW := List.mem_filter.mpr ⟨List.mem_append_right _ (List.mem_of_getElem? (i := 524) rfl), rfl⟩
set_option maxRecDepth 20000 in
theorem mw_525 : (Jvm.Cond.methodLink "WordBreakerLaw" (33 : Nat) ({ cls := "WordBreakerModel", name := "patterns", desc := "()I" } : Jvm.MethodName)) ∈ bigW := List.mem_filter.mpr ⟨List.mem_append_right _ (List.mem_of_getElem? (i := 525) rfl), rfl⟩
set_option maxRecDepth 20000 in
theorem mw_526 : (Jvm.Cond.instanceMethod ({ cls := "WordBreakerModel", name := "patterns", desc := "()I" } : Jvm.MethodName)) ∈ bigW := List.mem_filter.mpr ⟨List.mem_append_right _ (List.mem_of_getElem? (i := 526) rfl), rfl⟩
set_option maxRecDepth 20000 in
theorem mw_527 : (Jvm.Cond.selects "WordBreakerModel" ({ cls := "WordBreakerModel", name := "patterns", desc := "()I" } : Jvm.MethodName) ({ cls := "WordBreakerModel", name := "patterns", desc := "()I" } : Jvm.MethodName)) ∈ bigW := List.mem_filter.mpr ⟨List.mem_append_right _ (List.mem_of_getElem? (i := 527) rfl), rfl⟩
set_option maxRecDepth 20000 in
theorem mw_528 : (Jvm.Cond.code ({ cls := "WordBreakerModel", name := "patterns", desc := "()I" } : Jvm.MethodName) prog_7_method_15_code (3 : Nat) (Option.some Jvm.ClassFile.FieldType.int)) ∈ bigW := List.mem_filter.mpr ⟨List.mem_append_right _ (List.mem_of_getElem? (i := 528) rfl), rfl⟩
set_option maxRecDepth 20000 in
theorem mw_564 : (Jvm.Cond.methodLink "WordBreakerLaw" (37 : Nat) ({ cls := "WordBreakerModel", name := "words", desc := "()I" } : Jvm.MethodName)) ∈ bigW := List.mem_filter.mpr ⟨List.mem_append_right _ (List.mem_of_getElem? (i := 564) rfl), rfl⟩
set_option maxRecDepth 20000 in
theorem mw_565 : (Jvm.Cond.instanceMethod ({ cls := "WordBreakerModel", name := "words", desc := "()I" } : Jvm.MethodName)) ∈ bigW := List.mem_filter.mpr ⟨List.mem_append_right _ (List.mem_of_getElem? (i := 565) rfl), rfl⟩
set_option maxRecDepth 20000 in
theorem mw_566 : (Jvm.Cond.selects "WordBreakerModel" ({ cls := "WordBreakerModel", name := "words", desc := "()I" } : Jvm.MethodName) ({ cls := "WordBreakerModel", name := "words", desc := "()I" } : Jvm.MethodName)) ∈ bigW := List.mem_filter.mpr ⟨List.mem_append_right _ (List.mem_of_getElem? (i := 566) rfl), rfl⟩
set_option maxRecDepth 20000 in
theorem mw_567 : (Jvm.Cond.code ({ cls := "WordBreakerModel", name := "words", desc := "()I" } : Jvm.MethodName) prog_7_method_19_code (3 : Nat) (Option.some Jvm.ClassFile.FieldType.int)) ∈ bigW := List.mem_filter.mpr ⟨List.mem_append_right _ (List.mem_of_getElem? (i := 567) rfl), rfl⟩
set_option maxRecDepth 20000 in
theorem mw_580 : (Jvm.Cond.methodLink "WordBreakerLaw" (42 : Nat) ({ cls := "WordBreakerModel", name := "clear", desc := "(Z)I" } : Jvm.MethodName)) ∈ bigW := List.mem_filter.mpr ⟨List.mem_append_right _ (List.mem_of_getElem? (i := 580) rfl), rfl⟩
set_option maxRecDepth 20000 in
theorem mw_581 : (Jvm.Cond.instanceMethod ({ cls := "WordBreakerModel", name := "clear", desc := "(Z)I" } : Jvm.MethodName)) ∈ bigW := List.mem_filter.mpr ⟨List.mem_append_right _ (List.mem_of_getElem? (i := 581) rfl), rfl⟩
set_option maxRecDepth 20000 in
theorem mw_582 : (Jvm.Cond.selects "WordBreakerModel" ({ cls := "WordBreakerModel", name := "clear", desc := "(Z)I" } : Jvm.MethodName) ({ cls := "WordBreakerModel", name := "clear", desc := "(Z)I" } : Jvm.MethodName)) ∈ bigW := List.mem_filter.mpr ⟨List.mem_append_right _ (List.mem_of_getElem? (i := 582) rfl), rfl⟩
set_option maxRecDepth 20000 in
theorem mw_583 : (Jvm.Cond.code ({ cls := "WordBreakerModel", name := "clear", desc := "(Z)I" } : Jvm.MethodName) prog_7_method_20_code (3 : Nat) (Option.some Jvm.ClassFile.FieldType.int)) ∈ bigW := List.mem_filter.mpr ⟨List.mem_append_right _ (List.mem_of_getElem? (i := 583) rfl), rfl⟩
set_option maxRecDepth 20000 in
theorem mw_584 : (Jvm.Cond.methodLink "WordBreakerLaw" (46 : Nat) ({ cls := "WordBreakerModel", name := "count", desc := "(Z)I" } : Jvm.MethodName)) ∈ bigW := List.mem_filter.mpr ⟨List.mem_append_right _ (List.mem_of_getElem? (i := 584) rfl), rfl⟩
set_option maxRecDepth 20000 in
theorem mw_585 : (Jvm.Cond.instanceMethod ({ cls := "WordBreakerModel", name := "count", desc := "(Z)I" } : Jvm.MethodName)) ∈ bigW := List.mem_filter.mpr ⟨List.mem_append_right _ (List.mem_of_getElem? (i := 585) rfl), rfl⟩
set_option maxRecDepth 20000 in
theorem mw_586 : (Jvm.Cond.selects "WordBreakerModel" ({ cls := "WordBreakerModel", name := "count", desc := "(Z)I" } : Jvm.MethodName) ({ cls := "WordBreakerModel", name := "count", desc := "(Z)I" } : Jvm.MethodName)) ∈ bigW := List.mem_filter.mpr ⟨List.mem_append_right _ (List.mem_of_getElem? (i := 586) rfl), rfl⟩
set_option maxRecDepth 20000 in
theorem mw_587 : (Jvm.Cond.code ({ cls := "WordBreakerModel", name := "count", desc := "(Z)I" } : Jvm.MethodName) prog_7_method_21_code (2 : Nat) (Option.some Jvm.ClassFile.FieldType.int)) ∈ bigW := List.mem_filter.mpr ⟨List.mem_append_right _ (List.mem_of_getElem? (i := 587) rfl), rfl⟩
set_option maxRecDepth 20000 in
theorem mw_588 : (Jvm.Cond.methodLink "WordBreakerLaw" (50 : Nat) ({ cls := "WordBreakerModel", name := "word", desc := "()I" } : Jvm.MethodName)) ∈ bigW := List.mem_filter.mpr ⟨List.mem_append_right _ (List.mem_of_getElem? (i := 588) rfl), rfl⟩
set_option maxRecDepth 20000 in
theorem mw_589 : (Jvm.Cond.instanceMethod ({ cls := "WordBreakerModel", name := "word", desc := "()I" } : Jvm.MethodName)) ∈ bigW := List.mem_filter.mpr ⟨List.mem_append_right _ (List.mem_of_getElem? (i := 589) rfl), rfl⟩
set_option maxRecDepth 20000 in
theorem mw_590 : (Jvm.Cond.selects "WordBreakerModel" ({ cls := "WordBreakerModel", name := "word", desc := "()I" } : Jvm.MethodName) ({ cls := "WordBreakerModel", name := "word", desc := "()I" } : Jvm.MethodName)) ∈ bigW := List.mem_filter.mpr ⟨List.mem_append_right _ (List.mem_of_getElem? (i := 590) rfl), rfl⟩
set_option maxRecDepth 20000 in
theorem mw_591 : (Jvm.Cond.code ({ cls := "WordBreakerModel", name := "word", desc := "()I" } : Jvm.MethodName) prog_7_method_24_code (3 : Nat) (Option.some Jvm.ClassFile.FieldType.int)) ∈ bigW := List.mem_filter.mpr ⟨List.mem_append_right _ (List.mem_of_getElem? (i := 591) rfl), rfl⟩
set_option maxRecDepth 20000 in
theorem mw_600 : (Jvm.Cond.methodLink "WordBreakerLaw" (55 : Nat) ({ cls := "WordBreakerModel", name := "place", desc := "(I)I" } : Jvm.MethodName)) ∈ bigW := List.mem_filter.mpr ⟨List.mem_append_right _ (List.mem_of_getElem? (i := 600) rfl), rfl⟩
set_option maxRecDepth 20000 in
theorem mw_601 : (Jvm.Cond.instanceMethod ({ cls := "WordBreakerModel", name := "place", desc := "(I)I" } : Jvm.MethodName)) ∈ bigW := List.mem_filter.mpr ⟨List.mem_append_right _ (List.mem_of_getElem? (i := 601) rfl), rfl⟩
set_option maxRecDepth 20000 in
theorem mw_602 : (Jvm.Cond.selects "WordBreakerModel" ({ cls := "WordBreakerModel", name := "place", desc := "(I)I" } : Jvm.MethodName) ({ cls := "WordBreakerModel", name := "place", desc := "(I)I" } : Jvm.MethodName)) ∈ bigW := List.mem_filter.mpr ⟨List.mem_append_right _ (List.mem_of_getElem? (i := 602) rfl), rfl⟩
set_option maxRecDepth 20000 in
theorem mw_603 : (Jvm.Cond.code ({ cls := "WordBreakerModel", name := "place", desc := "(I)I" } : Jvm.MethodName) prog_7_method_25_code (2 : Nat) (Option.some Jvm.ClassFile.FieldType.int)) ∈ bigW := List.mem_filter.mpr ⟨List.mem_append_right _ (List.mem_of_getElem? (i := 603) rfl), rfl⟩
set_option maxRecDepth 20000 in
theorem mw_604 : (Jvm.Cond.methodLink "WordBreakerLaw" (59 : Nat) ({ cls := "WordBreakerModel", name := "value", desc := "(I)I" } : Jvm.MethodName)) ∈ bigW := List.mem_filter.mpr ⟨List.mem_append_right _ (List.mem_of_getElem? (i := 604) rfl), rfl⟩
set_option maxRecDepth 20000 in
theorem mw_605 : (Jvm.Cond.instanceMethod ({ cls := "WordBreakerModel", name := "value", desc := "(I)I" } : Jvm.MethodName)) ∈ bigW := List.mem_filter.mpr ⟨List.mem_append_right _ (List.mem_of_getElem? (i := 605) rfl), rfl⟩
set_option maxRecDepth 20000 in
theorem mw_606 : (Jvm.Cond.selects "WordBreakerModel" ({ cls := "WordBreakerModel", name := "value", desc := "(I)I" } : Jvm.MethodName) ({ cls := "WordBreakerModel", name := "value", desc := "(I)I" } : Jvm.MethodName)) ∈ bigW := List.mem_filter.mpr ⟨List.mem_append_right _ (List.mem_of_getElem? (i := 606) rfl), rfl⟩
set_option maxRecDepth 20000 in
theorem mw_607 : (Jvm.Cond.code ({ cls := "WordBreakerModel", name := "value", desc := "(I)I" } : Jvm.MethodName) prog_7_method_26_code (2 : Nat) (Option.some Jvm.ClassFile.FieldType.int)) ∈ bigW := List.mem_filter.mpr ⟨List.mem_append_right _ (List.mem_of_getElem? (i := 607) rfl), rfl⟩
set_option maxRecDepth 20000 in
theorem mw_608 : (Jvm.Cond.methodLink "WordBreakerLaw" (63 : Nat) ({ cls := "WordBreakerModel", name := "text", desc := "()I" } : Jvm.MethodName)) ∈ bigW := List.mem_filter.mpr ⟨List.mem_append_right _ (List.mem_of_getElem? (i := 608) rfl), rfl⟩
set_option maxRecDepth 20000 in
theorem mw_609 : (Jvm.Cond.instanceMethod ({ cls := "WordBreakerModel", name := "text", desc := "()I" } : Jvm.MethodName)) ∈ bigW := List.mem_filter.mpr ⟨List.mem_append_right _ (List.mem_of_getElem? (i := 609) rfl), rfl⟩
set_option maxRecDepth 20000 in
theorem mw_610 : (Jvm.Cond.selects "WordBreakerModel" ({ cls := "WordBreakerModel", name := "text", desc := "()I" } : Jvm.MethodName) ({ cls := "WordBreakerModel", name := "text", desc := "()I" } : Jvm.MethodName)) ∈ bigW := List.mem_filter.mpr ⟨List.mem_append_right _ (List.mem_of_getElem? (i := 610) rfl), rfl⟩
set_option maxRecDepth 20000 in
theorem mw_611 : (Jvm.Cond.code ({ cls := "WordBreakerModel", name := "text", desc := "()I" } : Jvm.MethodName) prog_7_method_31_code (4 : Nat) (Option.some Jvm.ClassFile.FieldType.int)) ∈ bigW := List.mem_filter.mpr ⟨List.mem_append_right _ (List.mem_of_getElem? (i := 611) rfl), rfl⟩
set_option maxRecDepth 20000 in
theorem mw_628 : (Jvm.Cond.methodLink "WordBreakerLaw" (67 : Nat) ({ cls := "WordBreakerModel", name := "size", desc := "()I" } : Jvm.MethodName)) ∈ bigW := List.mem_filter.mpr ⟨List.mem_append_right _ (List.mem_of_getElem? (i := 628) rfl), rfl⟩
set_option maxRecDepth 20000 in
theorem mw_629 : (Jvm.Cond.instanceMethod ({ cls := "WordBreakerModel", name := "size", desc := "()I" } : Jvm.MethodName)) ∈ bigW := List.mem_filter.mpr ⟨List.mem_append_right _ (List.mem_of_getElem? (i := 629) rfl), rfl⟩
set_option maxRecDepth 20000 in
theorem mw_630 : (Jvm.Cond.selects "WordBreakerModel" ({ cls := "WordBreakerModel", name := "size", desc := "()I" } : Jvm.MethodName) ({ cls := "WordBreakerModel", name := "size", desc := "()I" } : Jvm.MethodName)) ∈ bigW := List.mem_filter.mpr ⟨List.mem_append_right _ (List.mem_of_getElem? (i := 630) rfl), rfl⟩
set_option maxRecDepth 20000 in
theorem mw_631 : (Jvm.Cond.code ({ cls := "WordBreakerModel", name := "size", desc := "()I" } : Jvm.MethodName) prog_7_method_32_code (1 : Nat) (Option.some Jvm.ClassFile.FieldType.int)) ∈ bigW := List.mem_filter.mpr ⟨List.mem_append_right _ (List.mem_of_getElem? (i := 631) rfl), rfl⟩
set_option maxRecDepth 20000 in
theorem mw_632 : (Jvm.Cond.methodLink "WordBreakerLaw" (71 : Nat) ({ cls := "WordBreakerModel", name := "out", desc := "(I)I" } : Jvm.MethodName)) ∈ bigW := List.mem_filter.mpr ⟨List.mem_append_right _ (List.mem_of_getElem? (i := 632) rfl), rfl⟩
set_option maxRecDepth 20000 in
theorem mw_633 : (Jvm.Cond.instanceMethod ({ cls := "WordBreakerModel", name := "out", desc := "(I)I" } : Jvm.MethodName)) ∈ bigW := List.mem_filter.mpr ⟨List.mem_append_right _ (List.mem_of_getElem? (i := 633) rfl), rfl⟩
set_option maxRecDepth 20000 in
theorem mw_634 : (Jvm.Cond.selects "WordBreakerModel" ({ cls := "WordBreakerModel", name := "out", desc := "(I)I" } : Jvm.MethodName) ({ cls := "WordBreakerModel", name := "out", desc := "(I)I" } : Jvm.MethodName)) ∈ bigW := List.mem_filter.mpr ⟨List.mem_append_right _ (List.mem_of_getElem? (i := 634) rfl), rfl⟩
set_option maxRecDepth 20000 in
theorem mw_635 : (Jvm.Cond.code ({ cls := "WordBreakerModel", name := "out", desc := "(I)I" } : Jvm.MethodName) prog_7_method_33_code (2 : Nat) (Option.some Jvm.ClassFile.FieldType.int)) ∈ bigW := List.mem_filter.mpr ⟨List.mem_append_right _ (List.mem_of_getElem? (i := 635) rfl), rfl⟩
set_option maxRecDepth 20000 in
theorem mw_636 : (Jvm.Cond.constantLong "WordBreakerLaw" (13 : Nat) (4294967295 : Int64)) ∈ bigW := List.mem_filter.mpr ⟨List.mem_append_right _ (List.mem_of_getElem? (i := 636) rfl), rfl⟩
set_option maxRecDepth 20000 in
theorem cw_WordBreakerLaw_12 : CWI "WordBreakerLaw" 12 y_M_init b_M_init 2 0 := ⟨mw_400, mw_398, mw_399, mw_9, rfl, by decide +kernel⟩
set_option maxRecDepth 20000 in
theorem cw_WordBreakerLaw_15 : CWV "WordBreakerLaw" 15 y_type b_type 5 (some .boolean) 2 := ⟨mw_190, mw_187, mw_188, mw_189, mw_1, by decide +kernel⟩
set_option maxRecDepth 20000 in
theorem cw_WordBreakerLaw_19 : CWV "WordBreakerLaw" 19 y_M_type b_M_type 5 (some .boolean) 2 := ⟨mw_512, mw_509, mw_510, mw_511, mw_9, by decide +kernel⟩
set_option maxRecDepth 20000 in
theorem cw_WordBreakerLaw_20 : CWV "WordBreakerLaw" 20 y_letter b_letter 3 (some .boolean) 2 := ⟨mw_200, mw_197, mw_198, mw_199, mw_1, by decide +kernel⟩
set_option maxRecDepth 20000 in
theorem cw_WordBreakerLaw_24 : CWV "WordBreakerLaw" 24 y_M_letter b_M_letter 3 (some .boolean) 2 := ⟨mw_517, mw_514, mw_515, mw_516, mw_9, by decide +kernel⟩
set_option maxRecDepth 20000 in
theorem cw_WordBreakerLaw_25 : CWV "WordBreakerLaw" 25 y_least b_least 3 (some .boolean) 2 := ⟨mw_214, mw_211, mw_212, mw_213, mw_1, by decide +kernel⟩
set_option maxRecDepth 20000 in
theorem cw_WordBreakerLaw_28 : CWV "WordBreakerLaw" 28 y_M_least b_M_least 3 (some .boolean) 2 := ⟨mw_524, mw_521, mw_522, mw_523, mw_9, by decide +kernel⟩
set_option maxRecDepth 20000 in
theorem cw_WordBreakerLaw_29 : CWV "WordBreakerLaw" 29 y_patterns b_patterns 2 (some .int) 0 := ⟨mw_218, mw_215, mw_216, mw_217, mw_1, by decide +kernel⟩
set_option maxRecDepth 20000 in
theorem cw_WordBreakerLaw_33 : CWV "WordBreakerLaw" 33 y_M_patterns b_M_patterns 3 (some .int) 0 := ⟨mw_528, mw_525, mw_526, mw_527, mw_9, by decide +kernel⟩
set_option maxRecDepth 20000 in
theorem cw_WordBreakerLaw_34 : CWV "WordBreakerLaw" 34 y_words b_words 2 (some .int) 0 := ⟨mw_308, mw_305, mw_306, mw_307, mw_1, by decide +kernel⟩
set_option maxRecDepth 20000 in
theorem cw_WordBreakerLaw_37 : CWV "WordBreakerLaw" 37 y_M_words b_M_words 3 (some .int) 0 := ⟨mw_567, mw_564, mw_565, mw_566, mw_9, by decide +kernel⟩
set_option maxRecDepth 20000 in
theorem cw_WordBreakerLaw_38 : CWV "WordBreakerLaw" 38 y_clear b_clear 4 (some .int) 1 := ⟨mw_320, mw_317, mw_318, mw_319, mw_1, by decide +kernel⟩
set_option maxRecDepth 20000 in
theorem cw_WordBreakerLaw_42 : CWV "WordBreakerLaw" 42 y_M_clear b_M_clear 3 (some .int) 1 := ⟨mw_583, mw_580, mw_581, mw_582, mw_9, by decide +kernel⟩
set_option maxRecDepth 20000 in
theorem cw_WordBreakerLaw_43 : CWV "WordBreakerLaw" 43 y_count b_count 2 (some .int) 1 := ⟨mw_324, mw_321, mw_322, mw_323, mw_1, by decide +kernel⟩
set_option maxRecDepth 20000 in
theorem cw_WordBreakerLaw_46 : CWV "WordBreakerLaw" 46 y_M_count b_M_count 2 (some .int) 1 := ⟨mw_587, mw_584, mw_585, mw_586, mw_9, by decide +kernel⟩
set_option maxRecDepth 20000 in
theorem cw_WordBreakerLaw_47 : CWV "WordBreakerLaw" 47 y_word b_word 2 (some .int) 0 := ⟨mw_328, mw_325, mw_326, mw_327, mw_1, by decide +kernel⟩
set_option maxRecDepth 20000 in
theorem cw_WordBreakerLaw_50 : CWV "WordBreakerLaw" 50 y_M_word b_M_word 3 (some .int) 0 := ⟨mw_591, mw_588, mw_589, mw_590, mw_9, by decide +kernel⟩
set_option maxRecDepth 20000 in
theorem cw_WordBreakerLaw_51 : CWV "WordBreakerLaw" 51 y_place b_place 2 (some .int) 1 := ⟨mw_371, mw_368, mw_369, mw_370, mw_1, by decide +kernel⟩
set_option maxRecDepth 20000 in
theorem cw_WordBreakerLaw_55 : CWV "WordBreakerLaw" 55 y_M_place b_M_place 2 (some .int) 1 := ⟨mw_603, mw_600, mw_601, mw_602, mw_9, by decide +kernel⟩
set_option maxRecDepth 20000 in
theorem cw_WordBreakerLaw_56 : CWV "WordBreakerLaw" 56 y_value b_value 2 (some .int) 1 := ⟨mw_375, mw_372, mw_373, mw_374, mw_1, by decide +kernel⟩
set_option maxRecDepth 20000 in
theorem cw_WordBreakerLaw_59 : CWV "WordBreakerLaw" 59 y_M_value b_M_value 2 (some .int) 1 := ⟨mw_607, mw_604, mw_605, mw_606, mw_9, by decide +kernel⟩
set_option maxRecDepth 20000 in
theorem cw_WordBreakerLaw_60 : CWV "WordBreakerLaw" 60 y_text b_text 4 (some .int) 0 := ⟨mw_379, mw_376, mw_377, mw_378, mw_1, by decide +kernel⟩
set_option maxRecDepth 20000 in
theorem cw_WordBreakerLaw_63 : CWV "WordBreakerLaw" 63 y_M_text b_M_text 4 (some .int) 0 := ⟨mw_611, mw_608, mw_609, mw_610, mw_9, by decide +kernel⟩
set_option maxRecDepth 20000 in
theorem cw_WordBreakerLaw_64 : CWV "WordBreakerLaw" 64 y_size b_size 1 (some .int) 0 := ⟨mw_391, mw_388, mw_389, mw_390, mw_1, by decide +kernel⟩
set_option maxRecDepth 20000 in
theorem cw_WordBreakerLaw_67 : CWV "WordBreakerLaw" 67 y_M_size b_M_size 1 (some .int) 0 := ⟨mw_631, mw_628, mw_629, mw_630, mw_9, by decide +kernel⟩
set_option maxRecDepth 20000 in
theorem cw_WordBreakerLaw_68 : CWV "WordBreakerLaw" 68 y_out b_out 2 (some .int) 1 := ⟨mw_395, mw_392, mw_393, mw_394, mw_1, by decide +kernel⟩
set_option maxRecDepth 20000 in
theorem cw_WordBreakerLaw_71 : CWV "WordBreakerLaw" 71 y_M_out b_M_out 2 (some .int) 1 := ⟨mw_635, mw_632, mw_633, mw_634, mw_9, by decide +kernel⟩
set_option maxRecDepth 20000 in
theorem cw_WordBreakerLaw_9 : CWI "WordBreakerLaw" 9 y_Wb_init b_Wb_init 1 0 := ⟨mw_14, mw_12, mw_13, mw_1, rfl, by decide +kernel⟩
theorem law_hts {s : State} {args : Array Value} (h : ∀ w ∈ lw_tbl, w.before args s = true) : ∀ w ∈ (Jvm.Cond.initialized "WordBreaker") :: bigW, w.before args s = true := by
  intro w hw
  rcases List.mem_cons.mp hw with rfl | hw
  · exact h _ (List.mem_filter.mp mw_1).1
  · exact h _ (List.mem_filter.mp hw).1
theorem law_nF : (nestF.all fun q => decide (Cond.fieldLinkNest q.1 q.2.1 q.2.2.1 q.2.2.2.1 q.2.2.2.2.1 q.2.2.2.2.2 ∈ lw_tbl)) = true := by decide +kernel
theorem law_nM : (nestM.all fun q => decide (Cond.methodLinkNest q.1 q.2.1 q.2.2.1 q.2.2.2 ∈ lw_tbl)) = true := by decide +kernel
theorem law_nw {s : State} {args : Array Value} (h : ∀ w ∈ lw_tbl, w.before args s = true) : nwOk s := ⟨fun q hq => va_Nw.of rfl (h _ (of_decide_eq_true (List.all_eq_true.mp law_nF q hq))), fun q hq => va_Nw.of rfl (h _ (of_decide_eq_true (List.all_eq_true.mp law_nM q hq)))⟩
theorem law_ge {L i : Nat} (hL : L ≤ 2048) (hi : i < 10000) (h : ¬ nI L - (4 : Int32) < nI i) : i + 4 ≤ L := by
  rcases Nat.lt_or_ge L 4 with q | q
  · exact absurd (Int32.lt_of_lt_of_le (show nI L - nI 4 < 0 from pk_sneg (by decide) q) (nI_pos' (by omega))) h
  · rcases Nat.lt_or_ge L (i + 4) with r | r
    · exact absurd (show nI L - nI 4 < nI i by rw [pk_sub q]; exact nI_lt (by omega) (by omega)) h
    · exact r
