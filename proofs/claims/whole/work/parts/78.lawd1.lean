theorem d_LA_law_0 : decode code 0 = .ok (.new 7, 3) := by decide +kernel
theorem d_LA_law_3 : decode code 3 = .ok (.dup, 1) := by decide +kernel
theorem d_LA_law_4 : decode code 4 = .ok (.invokespecial 9, 3) := by decide +kernel
theorem d_LA_law_7 : decode code 7 = .ok (.astore_n 1, 1) := by decide +kernel
theorem d_LA_law_8 : decode code 8 = .ok (.new 10, 3) := by decide +kernel
theorem d_LA_law_11 : decode code 11 = .ok (.dup, 1) := by decide +kernel
theorem d_LA_law_12 : decode code 12 = .ok (.invokespecial 12, 3) := by decide +kernel
theorem d_LA_law_15 : decode code 15 = .ok (.astore_n 2, 1) := by decide +kernel
theorem d_LA_law_16 : decode code 16 = .ok (.iconst 0, 1) := by decide +kernel
theorem d_LA_law_17 : decode code 17 = .ok (.istore_n 3, 1) := by decide +kernel
theorem d_LA_law_18 : decode code 18 = .ok (.iload_n 3, 1) := by decide +kernel
theorem d_LA_law_19 : decode code 19 = .ok (.aload_n 0, 1) := by decide +kernel
theorem d_LA_law_20 : decode code 20 = .ok (.arraylength, 1) := by decide +kernel
theorem d_LA_law_21 : decode code 21 = .ok (.bipush 9, 2) := by decide +kernel
theorem d_LA_law_23 : decode code 23 = .ok (.isub, 1) := by decide +kernel
theorem d_LA_law_24 : decode code 24 = .ok (.if_icmp .gt 841, 3) := by decide +kernel
theorem d_LA_law_27 : decode code 27 = .ok (.aload_n 0, 1) := by decide +kernel
theorem d_LA_law_28 : decode code 28 = .ok (.iload_n 3, 1) := by decide +kernel
theorem d_LA_law_29 : decode code 29 = .ok (.iaload, 1) := by decide +kernel
theorem d_LA_law_30 : decode code 30 = .ok (.bipush 15, 2) := by decide +kernel
theorem d_LA_law_32 : decode code 32 = .ok (.iand, 1) := by decide +kernel
theorem d_LA_law_33 : decode code 33 = .ok (.tableswitch 826 0 13 #[71, 94, 107, 160, 319, 392, 508, 531, 574, 608, 631, 665, 729, 752], 71) := by decide +kernel
theorem d_LA_law_104 : decode code 104 = .ok (.aload_n 1, 1) := by decide +kernel
theorem d_LA_law_105 : decode code 105 = .ok (.aload_n 0, 1) := by decide +kernel
theorem d_LA_law_106 : decode code 106 = .ok (.iload_n 3, 1) := by decide +kernel
theorem d_LA_law_107 : decode code 107 = .ok (.iconst 1, 1) := by decide +kernel
theorem d_LA_law_108 : decode code 108 = .ok (.iadd, 1) := by decide +kernel
theorem d_LA_law_109 : decode code 109 = .ok (.iaload, 1) := by decide +kernel
theorem d_LA_law_110 : decode code 110 = .ok (.invokevirtual 13, 3) := by decide +kernel
theorem d_LA_law_113 : decode code 113 = .ok (.aload_n 2, 1) := by decide +kernel
theorem d_LA_law_114 : decode code 114 = .ok (.aload_n 0, 1) := by decide +kernel
theorem d_LA_law_115 : decode code 115 = .ok (.iload_n 3, 1) := by decide +kernel
theorem d_LA_law_116 : decode code 116 = .ok (.iconst 1, 1) := by decide +kernel
theorem d_LA_law_117 : decode code 117 = .ok (.iadd, 1) := by decide +kernel
theorem d_LA_law_118 : decode code 118 = .ok (.iaload, 1) := by decide +kernel
theorem d_LA_law_119 : decode code 119 = .ok (.invokevirtual 17, 3) := by decide +kernel
theorem d_LA_law_122 : decode code 122 = .ok (.if_icmp .eq 737, 3) := by decide +kernel
theorem d_LA_law_125 : decode code 125 = .ok (.iconst 0, 1) := by decide +kernel
theorem d_LA_law_126 : decode code 126 = .ok (.ireturn, 1) := by decide +kernel
theorem d_LA_law_127 : decode code 127 = .ok (.aload_n 1, 1) := by decide +kernel
theorem d_LA_law_128 : decode code 128 = .ok (.invokevirtual 18, 3) := by decide +kernel
theorem d_LA_law_131 : decode code 131 = .ok (.aload_n 2, 1) := by decide +kernel
theorem d_LA_law_132 : decode code 132 = .ok (.invokevirtual 22, 3) := by decide +kernel
theorem d_LA_law_135 : decode code 135 = .ok (.if_icmp .eq 724, 3) := by decide +kernel
theorem d_LA_law_138 : decode code 138 = .ok (.iconst 0, 1) := by decide +kernel
theorem d_LA_law_139 : decode code 139 = .ok (.ireturn, 1) := by decide +kernel
theorem d_LA_law_140 : decode code 140 = .ok (.aload_n 1, 1) := by decide +kernel
theorem d_LA_law_141 : decode code 141 = .ok (.aload_n 0, 1) := by decide +kernel
theorem d_LA_law_142 : decode code 142 = .ok (.iload_n 3, 1) := by decide +kernel
theorem d_LA_law_143 : decode code 143 = .ok (.iconst 1, 1) := by decide +kernel
theorem d_LA_law_144 : decode code 144 = .ok (.iadd, 1) := by decide +kernel
theorem d_LA_law_145 : decode code 145 = .ok (.iaload, 1) := by decide +kernel
theorem d_LA_law_146 : decode code 146 = .ok (.i2l, 1) := by decide +kernel
theorem d_LA_law_147 : decode code 147 = .ok (.bipush 32, 2) := by decide +kernel
theorem d_LA_law_149 : decode code 149 = .ok (.lshl, 1) := by decide +kernel
theorem d_LA_law_150 : decode code 150 = .ok (.aload_n 0, 1) := by decide +kernel
theorem d_LA_law_151 : decode code 151 = .ok (.iload_n 3, 1) := by decide +kernel
theorem d_LA_law_152 : decode code 152 = .ok (.iconst 2, 1) := by decide +kernel
theorem d_LA_law_153 : decode code 153 = .ok (.iadd, 1) := by decide +kernel
theorem d_LA_law_154 : decode code 154 = .ok (.iaload, 1) := by decide +kernel
theorem d_LA_law_155 : decode code 155 = .ok (.i2l, 1) := by decide +kernel
theorem d_LA_law_156 : decode code 156 = .ok (.ldc2_w 23, 3) := by decide +kernel
theorem d_LA_law_159 : decode code 159 = .ok (.land, 1) := by decide +kernel
theorem d_LA_law_160 : decode code 160 = .ok (.lor, 1) := by decide +kernel
theorem d_LA_law_161 : decode code 161 = .ok (.invokevirtual 25, 3) := by decide +kernel
theorem d_LA_law_164 : decode code 164 = .ok (.aload_n 2, 1) := by decide +kernel
theorem d_LA_law_165 : decode code 165 = .ok (.aload_n 0, 1) := by decide +kernel
theorem d_LA_law_166 : decode code 166 = .ok (.iload_n 3, 1) := by decide +kernel
theorem d_LA_law_167 : decode code 167 = .ok (.iconst 1, 1) := by decide +kernel
theorem d_LA_law_168 : decode code 168 = .ok (.iadd, 1) := by decide +kernel
theorem d_LA_law_169 : decode code 169 = .ok (.iaload, 1) := by decide +kernel
theorem d_LA_law_170 : decode code 170 = .ok (.i2l, 1) := by decide +kernel
theorem d_LA_law_171 : decode code 171 = .ok (.bipush 32, 2) := by decide +kernel
theorem d_LA_law_173 : decode code 173 = .ok (.lshl, 1) := by decide +kernel
theorem d_LA_law_174 : decode code 174 = .ok (.aload_n 0, 1) := by decide +kernel
theorem d_LA_law_175 : decode code 175 = .ok (.iload_n 3, 1) := by decide +kernel
theorem d_LA_law_176 : decode code 176 = .ok (.iconst 2, 1) := by decide +kernel
theorem d_LA_law_177 : decode code 177 = .ok (.iadd, 1) := by decide +kernel
theorem d_LA_law_178 : decode code 178 = .ok (.iaload, 1) := by decide +kernel
theorem d_LA_law_179 : decode code 179 = .ok (.i2l, 1) := by decide +kernel
theorem d_LA_law_180 : decode code 180 = .ok (.ldc2_w 23, 3) := by decide +kernel
theorem d_LA_law_183 : decode code 183 = .ok (.land, 1) := by decide +kernel
theorem d_LA_law_184 : decode code 184 = .ok (.lor, 1) := by decide +kernel
theorem d_LA_law_185 : decode code 185 = .ok (.invokevirtual 29, 3) := by decide +kernel
theorem d_LA_law_188 : decode code 188 = .ok (.if_icmp .eq 671, 3) := by decide +kernel
theorem d_LA_law_191 : decode code 191 = .ok (.iconst 0, 1) := by decide +kernel
theorem d_LA_law_192 : decode code 192 = .ok (.ireturn, 1) := by decide +kernel
theorem d_LA_law_193 : decode code 193 = .ok (.aload_n 1, 1) := by decide +kernel
theorem d_LA_law_194 : decode code 194 = .ok (.aload_n 0, 1) := by decide +kernel
theorem d_LA_law_195 : decode code 195 = .ok (.iload_n 3, 1) := by decide +kernel
theorem d_LA_law_196 : decode code 196 = .ok (.iconst 1, 1) := by decide +kernel
theorem d_LA_law_197 : decode code 197 = .ok (.iadd, 1) := by decide +kernel
theorem d_LA_law_198 : decode code 198 = .ok (.iaload, 1) := by decide +kernel
theorem d_LA_law_199 : decode code 199 = .ok (.aload_n 0, 1) := by decide +kernel
theorem d_LA_law_200 : decode code 200 = .ok (.iload_n 3, 1) := by decide +kernel
theorem d_LA_law_201 : decode code 201 = .ok (.iconst 2, 1) := by decide +kernel
theorem d_LA_law_202 : decode code 202 = .ok (.iadd, 1) := by decide +kernel
theorem d_LA_law_203 : decode code 203 = .ok (.iaload, 1) := by decide +kernel
theorem d_LA_law_204 : decode code 204 = .ok (.aload_n 0, 1) := by decide +kernel
theorem d_LA_law_205 : decode code 205 = .ok (.iload_n 3, 1) := by decide +kernel
theorem d_LA_law_206 : decode code 206 = .ok (.iconst 3, 1) := by decide +kernel
theorem d_LA_law_207 : decode code 207 = .ok (.iadd, 1) := by decide +kernel
theorem d_LA_law_208 : decode code 208 = .ok (.iaload, 1) := by decide +kernel
theorem d_LA_law_209 : decode code 209 = .ok (.i2l, 1) := by decide +kernel
theorem d_LA_law_210 : decode code 210 = .ok (.bipush 32, 2) := by decide +kernel
theorem d_LA_law_212 : decode code 212 = .ok (.lshl, 1) := by decide +kernel
theorem d_LA_law_213 : decode code 213 = .ok (.aload_n 0, 1) := by decide +kernel
theorem d_LA_law_214 : decode code 214 = .ok (.iload_n 3, 1) := by decide +kernel
theorem d_LA_law_215 : decode code 215 = .ok (.iconst 4, 1) := by decide +kernel
theorem d_LA_law_216 : decode code 216 = .ok (.iadd, 1) := by decide +kernel
theorem d_LA_law_217 : decode code 217 = .ok (.iaload, 1) := by decide +kernel
theorem d_LA_law_218 : decode code 218 = .ok (.i2l, 1) := by decide +kernel
theorem d_LA_law_219 : decode code 219 = .ok (.ldc2_w 23, 3) := by decide +kernel
theorem d_LA_law_222 : decode code 222 = .ok (.land, 1) := by decide +kernel
theorem d_LA_law_223 : decode code 223 = .ok (.lor, 1) := by decide +kernel
theorem d_LA_law_224 : decode code 224 = .ok (.aload_n 0, 1) := by decide +kernel
theorem d_LA_law_225 : decode code 225 = .ok (.iload_n 3, 1) := by decide +kernel
theorem d_LA_law_226 : decode code 226 = .ok (.iconst 5, 1) := by decide +kernel
theorem d_LA_law_227 : decode code 227 = .ok (.iadd, 1) := by decide +kernel
theorem d_LA_law_228 : decode code 228 = .ok (.iaload, 1) := by decide +kernel
theorem d_LA_law_229 : decode code 229 = .ok (.i2l, 1) := by decide +kernel
theorem d_LA_law_230 : decode code 230 = .ok (.bipush 32, 2) := by decide +kernel
theorem d_LA_law_232 : decode code 232 = .ok (.lshl, 1) := by decide +kernel
theorem d_LA_law_233 : decode code 233 = .ok (.aload_n 0, 1) := by decide +kernel
theorem d_LA_law_234 : decode code 234 = .ok (.iload_n 3, 1) := by decide +kernel
theorem d_LA_law_235 : decode code 235 = .ok (.bipush 6, 2) := by decide +kernel
theorem d_LA_law_237 : decode code 237 = .ok (.iadd, 1) := by decide +kernel
theorem d_LA_law_238 : decode code 238 = .ok (.iaload, 1) := by decide +kernel
theorem d_LA_law_239 : decode code 239 = .ok (.i2l, 1) := by decide +kernel
theorem d_LA_law_240 : decode code 240 = .ok (.ldc2_w 23, 3) := by decide +kernel
theorem d_LA_law_243 : decode code 243 = .ok (.land, 1) := by decide +kernel
theorem d_LA_law_244 : decode code 244 = .ok (.lor, 1) := by decide +kernel
theorem d_LA_law_245 : decode code 245 = .ok (.aload_n 0, 1) := by decide +kernel
theorem d_LA_law_246 : decode code 246 = .ok (.iload_n 3, 1) := by decide +kernel
theorem d_LA_law_247 : decode code 247 = .ok (.bipush 7, 2) := by decide +kernel
theorem d_LA_law_249 : decode code 249 = .ok (.iadd, 1) := by decide +kernel
theorem d_LA_law_250 : decode code 250 = .ok (.iaload, 1) := by decide +kernel
theorem d_LA_law_251 : decode code 251 = .ok (.i2l, 1) := by decide +kernel
theorem d_LA_law_252 : decode code 252 = .ok (.bipush 32, 2) := by decide +kernel
theorem d_LA_law_254 : decode code 254 = .ok (.lshl, 1) := by decide +kernel
theorem d_LA_law_255 : decode code 255 = .ok (.aload_n 0, 1) := by decide +kernel
theorem d_LA_law_256 : decode code 256 = .ok (.iload_n 3, 1) := by decide +kernel
theorem d_LA_law_257 : decode code 257 = .ok (.bipush 8, 2) := by decide +kernel
theorem d_LA_law_259 : decode code 259 = .ok (.iadd, 1) := by decide +kernel
theorem d_LA_law_260 : decode code 260 = .ok (.iaload, 1) := by decide +kernel
theorem d_LA_law_261 : decode code 261 = .ok (.i2l, 1) := by decide +kernel
theorem d_LA_law_262 : decode code 262 = .ok (.ldc2_w 23, 3) := by decide +kernel
theorem d_LA_law_265 : decode code 265 = .ok (.land, 1) := by decide +kernel
theorem d_LA_law_266 : decode code 266 = .ok (.lor, 1) := by decide +kernel
theorem d_LA_law_267 : decode code 267 = .ok (.invokevirtual 30, 3) := by decide +kernel
theorem d_LA_law_270 : decode code 270 = .ok (.aload_n 2, 1) := by decide +kernel
theorem d_LA_law_271 : decode code 271 = .ok (.aload_n 0, 1) := by decide +kernel
theorem d_LA_law_272 : decode code 272 = .ok (.iload_n 3, 1) := by decide +kernel
theorem d_LA_law_273 : decode code 273 = .ok (.iconst 1, 1) := by decide +kernel
theorem d_LA_law_274 : decode code 274 = .ok (.iadd, 1) := by decide +kernel
theorem d_LA_law_275 : decode code 275 = .ok (.iaload, 1) := by decide +kernel
theorem d_LA_law_276 : decode code 276 = .ok (.aload_n 0, 1) := by decide +kernel
theorem d_LA_law_277 : decode code 277 = .ok (.iload_n 3, 1) := by decide +kernel
theorem d_LA_law_278 : decode code 278 = .ok (.iconst 2, 1) := by decide +kernel
theorem d_LA_law_279 : decode code 279 = .ok (.iadd, 1) := by decide +kernel
theorem d_LA_law_280 : decode code 280 = .ok (.iaload, 1) := by decide +kernel
theorem d_LA_law_281 : decode code 281 = .ok (.aload_n 0, 1) := by decide +kernel
theorem d_LA_law_282 : decode code 282 = .ok (.iload_n 3, 1) := by decide +kernel
theorem d_LA_law_283 : decode code 283 = .ok (.iconst 3, 1) := by decide +kernel
theorem d_LA_law_284 : decode code 284 = .ok (.iadd, 1) := by decide +kernel
theorem d_LA_law_285 : decode code 285 = .ok (.iaload, 1) := by decide +kernel
theorem d_LA_law_286 : decode code 286 = .ok (.i2l, 1) := by decide +kernel
theorem d_LA_law_287 : decode code 287 = .ok (.bipush 32, 2) := by decide +kernel
theorem d_LA_law_289 : decode code 289 = .ok (.lshl, 1) := by decide +kernel
theorem d_LA_law_290 : decode code 290 = .ok (.aload_n 0, 1) := by decide +kernel
theorem d_LA_law_291 : decode code 291 = .ok (.iload_n 3, 1) := by decide +kernel
theorem d_LA_law_292 : decode code 292 = .ok (.iconst 4, 1) := by decide +kernel
theorem d_LA_law_293 : decode code 293 = .ok (.iadd, 1) := by decide +kernel
theorem d_LA_law_294 : decode code 294 = .ok (.iaload, 1) := by decide +kernel
theorem d_LA_law_295 : decode code 295 = .ok (.i2l, 1) := by decide +kernel
theorem d_LA_law_296 : decode code 296 = .ok (.ldc2_w 23, 3) := by decide +kernel
theorem d_LA_law_299 : decode code 299 = .ok (.land, 1) := by decide +kernel
theorem d_LA_law_300 : decode code 300 = .ok (.lor, 1) := by decide +kernel
theorem d_LA_law_301 : decode code 301 = .ok (.aload_n 0, 1) := by decide +kernel
theorem d_LA_law_302 : decode code 302 = .ok (.iload_n 3, 1) := by decide +kernel
theorem d_LA_law_303 : decode code 303 = .ok (.iconst 5, 1) := by decide +kernel
theorem d_LA_law_304 : decode code 304 = .ok (.iadd, 1) := by decide +kernel
theorem d_LA_law_305 : decode code 305 = .ok (.iaload, 1) := by decide +kernel
theorem d_LA_law_306 : decode code 306 = .ok (.i2l, 1) := by decide +kernel
theorem d_LA_law_307 : decode code 307 = .ok (.bipush 32, 2) := by decide +kernel
theorem d_LA_law_309 : decode code 309 = .ok (.lshl, 1) := by decide +kernel
theorem d_LA_law_310 : decode code 310 = .ok (.aload_n 0, 1) := by decide +kernel
theorem d_LA_law_311 : decode code 311 = .ok (.iload_n 3, 1) := by decide +kernel
theorem d_LA_law_312 : decode code 312 = .ok (.bipush 6, 2) := by decide +kernel
theorem d_LA_law_314 : decode code 314 = .ok (.iadd, 1) := by decide +kernel
theorem d_LA_law_315 : decode code 315 = .ok (.iaload, 1) := by decide +kernel
theorem d_LA_law_316 : decode code 316 = .ok (.i2l, 1) := by decide +kernel
theorem d_LA_law_317 : decode code 317 = .ok (.ldc2_w 23, 3) := by decide +kernel
theorem d_LA_law_320 : decode code 320 = .ok (.land, 1) := by decide +kernel
theorem d_LA_law_321 : decode code 321 = .ok (.lor, 1) := by decide +kernel
theorem d_LA_law_322 : decode code 322 = .ok (.aload_n 0, 1) := by decide +kernel
theorem d_LA_law_323 : decode code 323 = .ok (.iload_n 3, 1) := by decide +kernel
theorem d_LA_law_324 : decode code 324 = .ok (.bipush 7, 2) := by decide +kernel
theorem d_LA_law_326 : decode code 326 = .ok (.iadd, 1) := by decide +kernel
theorem d_LA_law_327 : decode code 327 = .ok (.iaload, 1) := by decide +kernel
theorem d_LA_law_328 : decode code 328 = .ok (.i2l, 1) := by decide +kernel
theorem d_LA_law_329 : decode code 329 = .ok (.bipush 32, 2) := by decide +kernel
theorem d_LA_law_331 : decode code 331 = .ok (.lshl, 1) := by decide +kernel
theorem d_LA_law_332 : decode code 332 = .ok (.aload_n 0, 1) := by decide +kernel
theorem d_LA_law_333 : decode code 333 = .ok (.iload_n 3, 1) := by decide +kernel
theorem d_LA_law_334 : decode code 334 = .ok (.bipush 8, 2) := by decide +kernel
theorem d_LA_law_336 : decode code 336 = .ok (.iadd, 1) := by decide +kernel
theorem d_LA_law_337 : decode code 337 = .ok (.iaload, 1) := by decide +kernel
theorem d_LA_law_338 : decode code 338 = .ok (.i2l, 1) := by decide +kernel
theorem d_LA_law_339 : decode code 339 = .ok (.ldc2_w 23, 3) := by decide +kernel
theorem d_LA_law_342 : decode code 342 = .ok (.land, 1) := by decide +kernel
theorem d_LA_law_343 : decode code 343 = .ok (.lor, 1) := by decide +kernel
theorem d_LA_law_344 : decode code 344 = .ok (.invokevirtual 34, 3) := by decide +kernel
theorem d_LA_law_347 : decode code 347 = .ok (.if_icmp .eq 512, 3) := by decide +kernel
theorem d_LA_law_350 : decode code 350 = .ok (.iconst 0, 1) := by decide +kernel
theorem d_LA_law_351 : decode code 351 = .ok (.ireturn, 1) := by decide +kernel
theorem d_LA_law_352 : decode code 352 = .ok (.aload_n 1, 1) := by decide +kernel
theorem d_LA_law_353 : decode code 353 = .ok (.aload_n 0, 1) := by decide +kernel
theorem d_LA_law_354 : decode code 354 = .ok (.iload_n 3, 1) := by decide +kernel
theorem d_LA_law_355 : decode code 355 = .ok (.iconst 1, 1) := by decide +kernel
theorem d_LA_law_356 : decode code 356 = .ok (.iadd, 1) := by decide +kernel
theorem d_LA_law_357 : decode code 357 = .ok (.iaload, 1) := by decide +kernel
theorem d_LA_law_358 : decode code 358 = .ok (.aload_n 0, 1) := by decide +kernel
theorem d_LA_law_359 : decode code 359 = .ok (.iload_n 3, 1) := by decide +kernel
theorem d_LA_law_360 : decode code 360 = .ok (.iconst 2, 1) := by decide +kernel
theorem d_LA_law_361 : decode code 361 = .ok (.iadd, 1) := by decide +kernel
theorem d_LA_law_362 : decode code 362 = .ok (.iaload, 1) := by decide +kernel
theorem d_LA_law_363 : decode code 363 = .ok (.aload_n 0, 1) := by decide +kernel
theorem d_LA_law_364 : decode code 364 = .ok (.iload_n 3, 1) := by decide +kernel
theorem d_LA_law_365 : decode code 365 = .ok (.iconst 3, 1) := by decide +kernel
theorem d_LA_law_366 : decode code 366 = .ok (.iadd, 1) := by decide +kernel
theorem d_LA_law_367 : decode code 367 = .ok (.iaload, 1) := by decide +kernel
theorem d_LA_law_368 : decode code 368 = .ok (.i2l, 1) := by decide +kernel
theorem d_LA_law_369 : decode code 369 = .ok (.bipush 32, 2) := by decide +kernel
theorem d_LA_law_371 : decode code 371 = .ok (.lshl, 1) := by decide +kernel
theorem d_LA_law_372 : decode code 372 = .ok (.aload_n 0, 1) := by decide +kernel
theorem d_LA_law_373 : decode code 373 = .ok (.iload_n 3, 1) := by decide +kernel
theorem d_LA_law_374 : decode code 374 = .ok (.iconst 4, 1) := by decide +kernel
theorem d_LA_law_375 : decode code 375 = .ok (.iadd, 1) := by decide +kernel
theorem d_LA_law_376 : decode code 376 = .ok (.iaload, 1) := by decide +kernel
theorem d_LA_law_377 : decode code 377 = .ok (.i2l, 1) := by decide +kernel
theorem d_LA_law_378 : decode code 378 = .ok (.ldc2_w 23, 3) := by decide +kernel
theorem d_LA_law_381 : decode code 381 = .ok (.land, 1) := by decide +kernel
theorem d_LA_law_382 : decode code 382 = .ok (.lor, 1) := by decide +kernel
theorem d_LA_law_383 : decode code 383 = .ok (.invokevirtual 35, 3) := by decide +kernel
theorem d_LA_law_386 : decode code 386 = .ok (.aload_n 2, 1) := by decide +kernel
theorem d_LA_law_387 : decode code 387 = .ok (.aload_n 0, 1) := by decide +kernel
theorem d_LA_law_388 : decode code 388 = .ok (.iload_n 3, 1) := by decide +kernel
theorem d_LA_law_389 : decode code 389 = .ok (.iconst 1, 1) := by decide +kernel
theorem d_LA_law_390 : decode code 390 = .ok (.iadd, 1) := by decide +kernel
theorem d_LA_law_391 : decode code 391 = .ok (.iaload, 1) := by decide +kernel
theorem d_LA_law_392 : decode code 392 = .ok (.aload_n 0, 1) := by decide +kernel
theorem d_LA_law_393 : decode code 393 = .ok (.iload_n 3, 1) := by decide +kernel
theorem d_LA_law_394 : decode code 394 = .ok (.iconst 2, 1) := by decide +kernel
theorem d_LA_law_395 : decode code 395 = .ok (.iadd, 1) := by decide +kernel
theorem d_LA_law_396 : decode code 396 = .ok (.iaload, 1) := by decide +kernel
theorem d_LA_law_397 : decode code 397 = .ok (.aload_n 0, 1) := by decide +kernel
theorem d_LA_law_398 : decode code 398 = .ok (.iload_n 3, 1) := by decide +kernel
theorem d_LA_law_399 : decode code 399 = .ok (.iconst 3, 1) := by decide +kernel
theorem d_LA_law_400 : decode code 400 = .ok (.iadd, 1) := by decide +kernel
theorem d_LA_law_401 : decode code 401 = .ok (.iaload, 1) := by decide +kernel
theorem d_LA_law_402 : decode code 402 = .ok (.i2l, 1) := by decide +kernel
theorem d_LA_law_403 : decode code 403 = .ok (.bipush 32, 2) := by decide +kernel
theorem d_LA_law_405 : decode code 405 = .ok (.lshl, 1) := by decide +kernel
theorem d_LA_law_406 : decode code 406 = .ok (.aload_n 0, 1) := by decide +kernel
theorem d_LA_law_407 : decode code 407 = .ok (.iload_n 3, 1) := by decide +kernel
theorem d_LA_law_408 : decode code 408 = .ok (.iconst 4, 1) := by decide +kernel
theorem d_LA_law_409 : decode code 409 = .ok (.iadd, 1) := by decide +kernel
theorem d_LA_law_410 : decode code 410 = .ok (.iaload, 1) := by decide +kernel
theorem d_LA_law_411 : decode code 411 = .ok (.i2l, 1) := by decide +kernel
theorem d_LA_law_412 : decode code 412 = .ok (.ldc2_w 23, 3) := by decide +kernel
theorem d_LA_law_415 : decode code 415 = .ok (.land, 1) := by decide +kernel
theorem d_LA_law_416 : decode code 416 = .ok (.lor, 1) := by decide +kernel
theorem d_LA_law_417 : decode code 417 = .ok (.invokevirtual 39, 3) := by decide +kernel
theorem d_LA_law_420 : decode code 420 = .ok (.if_icmp .eq 439, 3) := by decide +kernel
theorem d_LA_law_423 : decode code 423 = .ok (.iconst 0, 1) := by decide +kernel
theorem d_LA_law_424 : decode code 424 = .ok (.ireturn, 1) := by decide +kernel
theorem d_LA_law_425 : decode code 425 = .ok (.aload_n 1, 1) := by decide +kernel
theorem d_LA_law_426 : decode code 426 = .ok (.aload_n 0, 1) := by decide +kernel
theorem d_LA_law_427 : decode code 427 = .ok (.iload_n 3, 1) := by decide +kernel
theorem d_LA_law_428 : decode code 428 = .ok (.iconst 1, 1) := by decide +kernel
theorem d_LA_law_429 : decode code 429 = .ok (.iadd, 1) := by decide +kernel
theorem d_LA_law_430 : decode code 430 = .ok (.iaload, 1) := by decide +kernel
theorem d_LA_law_431 : decode code 431 = .ok (.aload_n 0, 1) := by decide +kernel
theorem d_LA_law_432 : decode code 432 = .ok (.iload_n 3, 1) := by decide +kernel
theorem d_LA_law_433 : decode code 433 = .ok (.iconst 2, 1) := by decide +kernel
theorem d_LA_law_434 : decode code 434 = .ok (.iadd, 1) := by decide +kernel
theorem d_LA_law_435 : decode code 435 = .ok (.iaload, 1) := by decide +kernel
theorem d_LA_law_436 : decode code 436 = .ok (.i2l, 1) := by decide +kernel
theorem d_LA_law_437 : decode code 437 = .ok (.bipush 32, 2) := by decide +kernel
theorem d_LA_law_439 : decode code 439 = .ok (.lshl, 1) := by decide +kernel
theorem d_LA_law_440 : decode code 440 = .ok (.aload_n 0, 1) := by decide +kernel
theorem d_LA_law_441 : decode code 441 = .ok (.iload_n 3, 1) := by decide +kernel
theorem d_LA_law_442 : decode code 442 = .ok (.iconst 3, 1) := by decide +kernel
theorem d_LA_law_443 : decode code 443 = .ok (.iadd, 1) := by decide +kernel
theorem d_LA_law_444 : decode code 444 = .ok (.iaload, 1) := by decide +kernel
theorem d_LA_law_445 : decode code 445 = .ok (.i2l, 1) := by decide +kernel
theorem d_LA_law_446 : decode code 446 = .ok (.ldc2_w 23, 3) := by decide +kernel
theorem d_LA_law_449 : decode code 449 = .ok (.land, 1) := by decide +kernel
theorem d_LA_law_450 : decode code 450 = .ok (.lor, 1) := by decide +kernel
theorem d_LA_law_451 : decode code 451 = .ok (.aload_n 0, 1) := by decide +kernel
theorem d_LA_law_452 : decode code 452 = .ok (.iload_n 3, 1) := by decide +kernel
theorem d_LA_law_453 : decode code 453 = .ok (.iconst 4, 1) := by decide +kernel
theorem d_LA_law_454 : decode code 454 = .ok (.iadd, 1) := by decide +kernel
theorem d_LA_law_455 : decode code 455 = .ok (.iaload, 1) := by decide +kernel
theorem d_LA_law_456 : decode code 456 = .ok (.i2l, 1) := by decide +kernel
theorem d_LA_law_457 : decode code 457 = .ok (.bipush 32, 2) := by decide +kernel
theorem d_LA_law_459 : decode code 459 = .ok (.lshl, 1) := by decide +kernel
theorem d_LA_law_460 : decode code 460 = .ok (.aload_n 0, 1) := by decide +kernel
theorem d_LA_law_461 : decode code 461 = .ok (.iload_n 3, 1) := by decide +kernel
theorem d_LA_law_462 : decode code 462 = .ok (.iconst 5, 1) := by decide +kernel
theorem d_LA_law_463 : decode code 463 = .ok (.iadd, 1) := by decide +kernel
theorem d_LA_law_464 : decode code 464 = .ok (.iaload, 1) := by decide +kernel
theorem d_LA_law_465 : decode code 465 = .ok (.i2l, 1) := by decide +kernel
theorem d_LA_law_466 : decode code 466 = .ok (.ldc2_w 23, 3) := by decide +kernel
theorem d_LA_law_469 : decode code 469 = .ok (.land, 1) := by decide +kernel
theorem d_LA_law_470 : decode code 470 = .ok (.lor, 1) := by decide +kernel
