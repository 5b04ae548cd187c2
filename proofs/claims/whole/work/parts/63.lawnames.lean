abbrev b_Law : ByteArray := code
theorem d_Law_0 : decode b_Law 0 = .ok (.new 8, 3) := by decide +kernel
theorem d_Law_3 : decode b_Law 3 = .ok (.dup, 1) := by decide +kernel
theorem d_Law_4 : decode b_Law 4 = .ok (.invokespecial 28, 3) := by decide +kernel
theorem d_Law_7 : decode b_Law 7 = .ok (.astore_n 1, 1) := by decide +kernel
theorem d_Law_8 : decode b_Law 8 = .ok (.new 29, 3) := by decide +kernel
theorem d_Law_11 : decode b_Law 11 = .ok (.dup, 1) := by decide +kernel
theorem d_Law_12 : decode b_Law 12 = .ok (.invokespecial 31, 3) := by decide +kernel
theorem d_Law_15 : decode b_Law 15 = .ok (.astore_n 2, 1) := by decide +kernel
theorem d_Law_16 : decode b_Law 16 = .ok (.iconst 1, 1) := by decide +kernel
theorem d_Law_17 : decode b_Law 17 = .ok (.newarray .long, 2) := by decide +kernel
theorem d_Law_19 : decode b_Law 19 = .ok (.astore_n 3, 1) := by decide +kernel
theorem d_Law_20 : decode b_Law 20 = .ok (.iconst 0, 1) := by decide +kernel
theorem d_Law_21 : decode b_Law 21 = .ok (.istore 4, 2) := by decide +kernel
theorem d_Law_23 : decode b_Law 23 = .ok (.iload 4, 2) := by decide +kernel
theorem d_Law_25 : decode b_Law 25 = .ok (.aload_n 0, 1) := by decide +kernel
theorem d_Law_26 : decode b_Law 26 = .ok (.arraylength, 1) := by decide +kernel
theorem d_Law_27 : decode b_Law 27 = .ok (.bipush 6, 2) := by decide +kernel
theorem d_Law_29 : decode b_Law 29 = .ok (.isub, 1) := by decide +kernel
theorem d_Law_30 : decode b_Law 30 = .ok (.if_icmp .gt 444, 3) := by decide +kernel
theorem d_Law_33 : decode b_Law 33 = .ok (.aload_n 0, 1) := by decide +kernel
theorem d_Law_34 : decode b_Law 34 = .ok (.iload 4, 2) := by decide +kernel
theorem d_Law_36 : decode b_Law 36 = .ok (.iaload, 1) := by decide +kernel
theorem d_Law_37 : decode b_Law 37 = .ok (.bipush 7, 2) := by decide +kernel
theorem d_Law_39 : decode b_Law 39 = .ok (.iand, 1) := by decide +kernel
theorem d_Law_40 : decode b_Law 40 = .ok (.tableswitch 428 0 4 #[36, 179, 278, 377, 391], 36) := by decide +kernel
theorem d_Law_76 : decode b_Law 76 = .ok (.aload_n 1, 1) := by decide +kernel
theorem d_Law_77 : decode b_Law 77 = .ok (.aload_n 0, 1) := by decide +kernel
theorem d_Law_78 : decode b_Law 78 = .ok (.iload 4, 2) := by decide +kernel
theorem d_Law_80 : decode b_Law 80 = .ok (.iconst 1, 1) := by decide +kernel
theorem d_Law_81 : decode b_Law 81 = .ok (.iadd, 1) := by decide +kernel
theorem d_Law_82 : decode b_Law 82 = .ok (.iaload, 1) := by decide +kernel
theorem d_Law_83 : decode b_Law 83 = .ok (.aload_n 0, 1) := by decide +kernel
theorem d_Law_84 : decode b_Law 84 = .ok (.iload 4, 2) := by decide +kernel
theorem d_Law_86 : decode b_Law 86 = .ok (.iconst 2, 1) := by decide +kernel
theorem d_Law_87 : decode b_Law 87 = .ok (.iadd, 1) := by decide +kernel
theorem d_Law_88 : decode b_Law 88 = .ok (.iaload, 1) := by decide +kernel
theorem d_Law_89 : decode b_Law 89 = .ok (.i2l, 1) := by decide +kernel
theorem d_Law_90 : decode b_Law 90 = .ok (.bipush 32, 2) := by decide +kernel
theorem d_Law_92 : decode b_Law 92 = .ok (.lshl, 1) := by decide +kernel
theorem d_Law_93 : decode b_Law 93 = .ok (.aload_n 0, 1) := by decide +kernel
theorem d_Law_94 : decode b_Law 94 = .ok (.iload 4, 2) := by decide +kernel
theorem d_Law_96 : decode b_Law 96 = .ok (.iconst 3, 1) := by decide +kernel
theorem d_Law_97 : decode b_Law 97 = .ok (.iadd, 1) := by decide +kernel
theorem d_Law_98 : decode b_Law 98 = .ok (.iaload, 1) := by decide +kernel
theorem d_Law_99 : decode b_Law 99 = .ok (.i2l, 1) := by decide +kernel
theorem d_Law_100 : decode b_Law 100 = .ok (.ldc2_w 32, 3) := by decide +kernel
theorem d_Law_103 : decode b_Law 103 = .ok (.land, 1) := by decide +kernel
theorem d_Law_104 : decode b_Law 104 = .ok (.lor, 1) := by decide +kernel
theorem d_Law_105 : decode b_Law 105 = .ok (.aload_n 0, 1) := by decide +kernel
theorem d_Law_106 : decode b_Law 106 = .ok (.iload 4, 2) := by decide +kernel
theorem d_Law_108 : decode b_Law 108 = .ok (.iconst 4, 1) := by decide +kernel
theorem d_Law_109 : decode b_Law 109 = .ok (.iadd, 1) := by decide +kernel
theorem d_Law_110 : decode b_Law 110 = .ok (.iaload, 1) := by decide +kernel
theorem d_Law_111 : decode b_Law 111 = .ok (.i2l, 1) := by decide +kernel
theorem d_Law_112 : decode b_Law 112 = .ok (.bipush 32, 2) := by decide +kernel
theorem d_Law_114 : decode b_Law 114 = .ok (.lshl, 1) := by decide +kernel
theorem d_Law_115 : decode b_Law 115 = .ok (.aload_n 0, 1) := by decide +kernel
theorem d_Law_116 : decode b_Law 116 = .ok (.iload 4, 2) := by decide +kernel
theorem d_Law_118 : decode b_Law 118 = .ok (.iconst 5, 1) := by decide +kernel
theorem d_Law_119 : decode b_Law 119 = .ok (.iadd, 1) := by decide +kernel
theorem d_Law_120 : decode b_Law 120 = .ok (.iaload, 1) := by decide +kernel
theorem d_Law_121 : decode b_Law 121 = .ok (.i2l, 1) := by decide +kernel
theorem d_Law_122 : decode b_Law 122 = .ok (.ldc2_w 32, 3) := by decide +kernel
theorem d_Law_125 : decode b_Law 125 = .ok (.land, 1) := by decide +kernel
theorem d_Law_126 : decode b_Law 126 = .ok (.lor, 1) := by decide +kernel
theorem d_Law_127 : decode b_Law 127 = .ok (.aload_n 3, 1) := by decide +kernel
theorem d_Law_128 : decode b_Law 128 = .ok (.invokestatic 34, 3) := by decide +kernel
theorem d_Law_131 : decode b_Law 131 = .ok (.istore 5, 2) := by decide +kernel
theorem d_Law_133 : decode b_Law 133 = .ok (.aload_n 2, 1) := by decide +kernel
theorem d_Law_134 : decode b_Law 134 = .ok (.aload_n 0, 1) := by decide +kernel
theorem d_Law_135 : decode b_Law 135 = .ok (.iload 4, 2) := by decide +kernel
theorem d_Law_137 : decode b_Law 137 = .ok (.iconst 1, 1) := by decide +kernel
theorem d_Law_138 : decode b_Law 138 = .ok (.iadd, 1) := by decide +kernel
theorem d_Law_139 : decode b_Law 139 = .ok (.iaload, 1) := by decide +kernel
theorem d_Law_140 : decode b_Law 140 = .ok (.aload_n 0, 1) := by decide +kernel
theorem d_Law_141 : decode b_Law 141 = .ok (.iload 4, 2) := by decide +kernel
theorem d_Law_143 : decode b_Law 143 = .ok (.iconst 2, 1) := by decide +kernel
theorem d_Law_144 : decode b_Law 144 = .ok (.iadd, 1) := by decide +kernel
theorem d_Law_145 : decode b_Law 145 = .ok (.iaload, 1) := by decide +kernel
theorem d_Law_146 : decode b_Law 146 = .ok (.i2l, 1) := by decide +kernel
theorem d_Law_147 : decode b_Law 147 = .ok (.bipush 32, 2) := by decide +kernel
theorem d_Law_149 : decode b_Law 149 = .ok (.lshl, 1) := by decide +kernel
theorem d_Law_150 : decode b_Law 150 = .ok (.aload_n 0, 1) := by decide +kernel
theorem d_Law_151 : decode b_Law 151 = .ok (.iload 4, 2) := by decide +kernel
theorem d_Law_153 : decode b_Law 153 = .ok (.iconst 3, 1) := by decide +kernel
theorem d_Law_154 : decode b_Law 154 = .ok (.iadd, 1) := by decide +kernel
theorem d_Law_155 : decode b_Law 155 = .ok (.iaload, 1) := by decide +kernel
theorem d_Law_156 : decode b_Law 156 = .ok (.i2l, 1) := by decide +kernel
theorem d_Law_157 : decode b_Law 157 = .ok (.ldc2_w 32, 3) := by decide +kernel
theorem d_Law_160 : decode b_Law 160 = .ok (.land, 1) := by decide +kernel
theorem d_Law_161 : decode b_Law 161 = .ok (.lor, 1) := by decide +kernel
theorem d_Law_162 : decode b_Law 162 = .ok (.aload_n 0, 1) := by decide +kernel
theorem d_Law_163 : decode b_Law 163 = .ok (.iload 4, 2) := by decide +kernel
theorem d_Law_165 : decode b_Law 165 = .ok (.iconst 4, 1) := by decide +kernel
theorem d_Law_166 : decode b_Law 166 = .ok (.iadd, 1) := by decide +kernel
theorem d_Law_167 : decode b_Law 167 = .ok (.iaload, 1) := by decide +kernel
theorem d_Law_168 : decode b_Law 168 = .ok (.i2l, 1) := by decide +kernel
theorem d_Law_169 : decode b_Law 169 = .ok (.bipush 32, 2) := by decide +kernel
theorem d_Law_171 : decode b_Law 171 = .ok (.lshl, 1) := by decide +kernel
theorem d_Law_172 : decode b_Law 172 = .ok (.aload_n 0, 1) := by decide +kernel
theorem d_Law_173 : decode b_Law 173 = .ok (.iload 4, 2) := by decide +kernel
theorem d_Law_175 : decode b_Law 175 = .ok (.iconst 5, 1) := by decide +kernel
theorem d_Law_176 : decode b_Law 176 = .ok (.iadd, 1) := by decide +kernel
theorem d_Law_177 : decode b_Law 177 = .ok (.iaload, 1) := by decide +kernel
theorem d_Law_178 : decode b_Law 178 = .ok (.i2l, 1) := by decide +kernel
theorem d_Law_179 : decode b_Law 179 = .ok (.ldc2_w 32, 3) := by decide +kernel
theorem d_Law_182 : decode b_Law 182 = .ok (.land, 1) := by decide +kernel
theorem d_Law_183 : decode b_Law 183 = .ok (.lor, 1) := by decide +kernel
theorem d_Law_184 : decode b_Law 184 = .ok (.invokevirtual 39, 3) := by decide +kernel
theorem d_Law_187 : decode b_Law 187 = .ok (.lstore 6, 2) := by decide +kernel
theorem d_Law_189 : decode b_Law 189 = .ok (.aload_n 2, 1) := by decide +kernel
theorem d_Law_190 : decode b_Law 190 = .ok (.invokevirtual 40, 3) := by decide +kernel
theorem d_Law_193 : decode b_Law 193 = .ok (.iload 5, 2) := by decide +kernel
theorem d_Law_195 : decode b_Law 195 = .ok (.if_icmp .eq 5, 3) := by decide +kernel
theorem d_Law_198 : decode b_Law 198 = .ok (.iconst 0, 1) := by decide +kernel
theorem d_Law_199 : decode b_Law 199 = .ok (.ireturn, 1) := by decide +kernel
theorem d_Law_200 : decode b_Law 200 = .ok (.iload 5, 2) := by decide +kernel
theorem d_Law_202 : decode b_Law 202 = .ok (.ifCond .ne 14, 3) := by decide +kernel
theorem d_Law_205 : decode b_Law 205 = .ok (.aload_n 3, 1) := by decide +kernel
theorem d_Law_206 : decode b_Law 206 = .ok (.iconst 0, 1) := by decide +kernel
theorem d_Law_207 : decode b_Law 207 = .ok (.laload, 1) := by decide +kernel
theorem d_Law_208 : decode b_Law 208 = .ok (.lload 6, 2) := by decide +kernel
theorem d_Law_210 : decode b_Law 210 = .ok (.lcmp, 1) := by decide +kernel
theorem d_Law_211 : decode b_Law 211 = .ok (.ifCond .eq 5, 3) := by decide +kernel
theorem d_Law_214 : decode b_Law 214 = .ok (.iconst 0, 1) := by decide +kernel
theorem d_Law_215 : decode b_Law 215 = .ok (.ireturn, 1) := by decide +kernel
theorem d_Law_216 : decode b_Law 216 = .ok (.goto 252, 3) := by decide +kernel
theorem d_Law_219 : decode b_Law 219 = .ok (.aload_n 1, 1) := by decide +kernel
theorem d_Law_220 : decode b_Law 220 = .ok (.aload_n 0, 1) := by decide +kernel
theorem d_Law_221 : decode b_Law 221 = .ok (.iload 4, 2) := by decide +kernel
theorem d_Law_223 : decode b_Law 223 = .ok (.iconst 1, 1) := by decide +kernel
theorem d_Law_224 : decode b_Law 224 = .ok (.iadd, 1) := by decide +kernel
theorem d_Law_225 : decode b_Law 225 = .ok (.iaload, 1) := by decide +kernel
theorem d_Law_226 : decode b_Law 226 = .ok (.aload_n 0, 1) := by decide +kernel
theorem d_Law_227 : decode b_Law 227 = .ok (.iload 4, 2) := by decide +kernel
theorem d_Law_229 : decode b_Law 229 = .ok (.iconst 2, 1) := by decide +kernel
theorem d_Law_230 : decode b_Law 230 = .ok (.iadd, 1) := by decide +kernel
theorem d_Law_231 : decode b_Law 231 = .ok (.iaload, 1) := by decide +kernel
theorem d_Law_232 : decode b_Law 232 = .ok (.i2l, 1) := by decide +kernel
theorem d_Law_233 : decode b_Law 233 = .ok (.bipush 32, 2) := by decide +kernel
theorem d_Law_235 : decode b_Law 235 = .ok (.lshl, 1) := by decide +kernel
theorem d_Law_236 : decode b_Law 236 = .ok (.aload_n 0, 1) := by decide +kernel
theorem d_Law_237 : decode b_Law 237 = .ok (.iload 4, 2) := by decide +kernel
theorem d_Law_239 : decode b_Law 239 = .ok (.iconst 3, 1) := by decide +kernel
theorem d_Law_240 : decode b_Law 240 = .ok (.iadd, 1) := by decide +kernel
theorem d_Law_241 : decode b_Law 241 = .ok (.iaload, 1) := by decide +kernel
theorem d_Law_242 : decode b_Law 242 = .ok (.i2l, 1) := by decide +kernel
theorem d_Law_243 : decode b_Law 243 = .ok (.ldc2_w 32, 3) := by decide +kernel
theorem d_Law_246 : decode b_Law 246 = .ok (.land, 1) := by decide +kernel
theorem d_Law_247 : decode b_Law 247 = .ok (.lor, 1) := by decide +kernel
theorem d_Law_248 : decode b_Law 248 = .ok (.aload_n 3, 1) := by decide +kernel
theorem d_Law_249 : decode b_Law 249 = .ok (.invokestatic 44, 3) := by decide +kernel
theorem d_Law_252 : decode b_Law 252 = .ok (.istore 5, 2) := by decide +kernel
theorem d_Law_254 : decode b_Law 254 = .ok (.aload_n 2, 1) := by decide +kernel
theorem d_Law_255 : decode b_Law 255 = .ok (.aload_n 0, 1) := by decide +kernel
theorem d_Law_256 : decode b_Law 256 = .ok (.iload 4, 2) := by decide +kernel
theorem d_Law_258 : decode b_Law 258 = .ok (.iconst 1, 1) := by decide +kernel
theorem d_Law_259 : decode b_Law 259 = .ok (.iadd, 1) := by decide +kernel
theorem d_Law_260 : decode b_Law 260 = .ok (.iaload, 1) := by decide +kernel
theorem d_Law_261 : decode b_Law 261 = .ok (.aload_n 0, 1) := by decide +kernel
theorem d_Law_262 : decode b_Law 262 = .ok (.iload 4, 2) := by decide +kernel
theorem d_Law_264 : decode b_Law 264 = .ok (.iconst 2, 1) := by decide +kernel
theorem d_Law_265 : decode b_Law 265 = .ok (.iadd, 1) := by decide +kernel
theorem d_Law_266 : decode b_Law 266 = .ok (.iaload, 1) := by decide +kernel
theorem d_Law_267 : decode b_Law 267 = .ok (.i2l, 1) := by decide +kernel
theorem d_Law_268 : decode b_Law 268 = .ok (.bipush 32, 2) := by decide +kernel
theorem d_Law_270 : decode b_Law 270 = .ok (.lshl, 1) := by decide +kernel
theorem d_Law_271 : decode b_Law 271 = .ok (.aload_n 0, 1) := by decide +kernel
theorem d_Law_272 : decode b_Law 272 = .ok (.iload 4, 2) := by decide +kernel
theorem d_Law_274 : decode b_Law 274 = .ok (.iconst 3, 1) := by decide +kernel
theorem d_Law_275 : decode b_Law 275 = .ok (.iadd, 1) := by decide +kernel
theorem d_Law_276 : decode b_Law 276 = .ok (.iaload, 1) := by decide +kernel
theorem d_Law_277 : decode b_Law 277 = .ok (.i2l, 1) := by decide +kernel
theorem d_Law_278 : decode b_Law 278 = .ok (.ldc2_w 32, 3) := by decide +kernel
theorem d_Law_281 : decode b_Law 281 = .ok (.land, 1) := by decide +kernel
theorem d_Law_282 : decode b_Law 282 = .ok (.lor, 1) := by decide +kernel
theorem d_Law_283 : decode b_Law 283 = .ok (.invokevirtual 47, 3) := by decide +kernel
theorem d_Law_286 : decode b_Law 286 = .ok (.lstore 6, 2) := by decide +kernel
theorem d_Law_288 : decode b_Law 288 = .ok (.aload_n 2, 1) := by decide +kernel
theorem d_Law_289 : decode b_Law 289 = .ok (.invokevirtual 40, 3) := by decide +kernel
theorem d_Law_292 : decode b_Law 292 = .ok (.iload 5, 2) := by decide +kernel
theorem d_Law_294 : decode b_Law 294 = .ok (.if_icmp .eq 5, 3) := by decide +kernel
theorem d_Law_297 : decode b_Law 297 = .ok (.iconst 0, 1) := by decide +kernel
theorem d_Law_298 : decode b_Law 298 = .ok (.ireturn, 1) := by decide +kernel
theorem d_Law_299 : decode b_Law 299 = .ok (.iload 5, 2) := by decide +kernel
theorem d_Law_301 : decode b_Law 301 = .ok (.ifCond .ne 14, 3) := by decide +kernel
theorem d_Law_304 : decode b_Law 304 = .ok (.aload_n 3, 1) := by decide +kernel
theorem d_Law_305 : decode b_Law 305 = .ok (.iconst 0, 1) := by decide +kernel
theorem d_Law_306 : decode b_Law 306 = .ok (.laload, 1) := by decide +kernel
theorem d_Law_307 : decode b_Law 307 = .ok (.lload 6, 2) := by decide +kernel
theorem d_Law_309 : decode b_Law 309 = .ok (.lcmp, 1) := by decide +kernel
theorem d_Law_310 : decode b_Law 310 = .ok (.ifCond .eq 5, 3) := by decide +kernel
theorem d_Law_313 : decode b_Law 313 = .ok (.iconst 0, 1) := by decide +kernel
theorem d_Law_314 : decode b_Law 314 = .ok (.ireturn, 1) := by decide +kernel
theorem d_Law_315 : decode b_Law 315 = .ok (.goto 153, 3) := by decide +kernel
theorem d_Law_318 : decode b_Law 318 = .ok (.aload_n 1, 1) := by decide +kernel
theorem d_Law_319 : decode b_Law 319 = .ok (.aload_n 0, 1) := by decide +kernel
theorem d_Law_320 : decode b_Law 320 = .ok (.iload 4, 2) := by decide +kernel
theorem d_Law_322 : decode b_Law 322 = .ok (.iconst 1, 1) := by decide +kernel
theorem d_Law_323 : decode b_Law 323 = .ok (.iadd, 1) := by decide +kernel
theorem d_Law_324 : decode b_Law 324 = .ok (.iaload, 1) := by decide +kernel
theorem d_Law_325 : decode b_Law 325 = .ok (.aload_n 0, 1) := by decide +kernel
theorem d_Law_326 : decode b_Law 326 = .ok (.iload 4, 2) := by decide +kernel
theorem d_Law_328 : decode b_Law 328 = .ok (.iconst 2, 1) := by decide +kernel
theorem d_Law_329 : decode b_Law 329 = .ok (.iadd, 1) := by decide +kernel
theorem d_Law_330 : decode b_Law 330 = .ok (.iaload, 1) := by decide +kernel
theorem d_Law_331 : decode b_Law 331 = .ok (.i2l, 1) := by decide +kernel
theorem d_Law_332 : decode b_Law 332 = .ok (.bipush 32, 2) := by decide +kernel
theorem d_Law_334 : decode b_Law 334 = .ok (.lshl, 1) := by decide +kernel
theorem d_Law_335 : decode b_Law 335 = .ok (.aload_n 0, 1) := by decide +kernel
theorem d_Law_336 : decode b_Law 336 = .ok (.iload 4, 2) := by decide +kernel
theorem d_Law_338 : decode b_Law 338 = .ok (.iconst 3, 1) := by decide +kernel
theorem d_Law_339 : decode b_Law 339 = .ok (.iadd, 1) := by decide +kernel
theorem d_Law_340 : decode b_Law 340 = .ok (.iaload, 1) := by decide +kernel
theorem d_Law_341 : decode b_Law 341 = .ok (.i2l, 1) := by decide +kernel
theorem d_Law_342 : decode b_Law 342 = .ok (.ldc2_w 32, 3) := by decide +kernel
theorem d_Law_345 : decode b_Law 345 = .ok (.land, 1) := by decide +kernel
theorem d_Law_346 : decode b_Law 346 = .ok (.lor, 1) := by decide +kernel
theorem d_Law_347 : decode b_Law 347 = .ok (.aload_n 3, 1) := by decide +kernel
theorem d_Law_348 : decode b_Law 348 = .ok (.invokestatic 48, 3) := by decide +kernel
theorem d_Law_351 : decode b_Law 351 = .ok (.istore 5, 2) := by decide +kernel
theorem d_Law_353 : decode b_Law 353 = .ok (.aload_n 2, 1) := by decide +kernel
theorem d_Law_354 : decode b_Law 354 = .ok (.aload_n 0, 1) := by decide +kernel
theorem d_Law_355 : decode b_Law 355 = .ok (.iload 4, 2) := by decide +kernel
theorem d_Law_357 : decode b_Law 357 = .ok (.iconst 1, 1) := by decide +kernel
theorem d_Law_358 : decode b_Law 358 = .ok (.iadd, 1) := by decide +kernel
theorem d_Law_359 : decode b_Law 359 = .ok (.iaload, 1) := by decide +kernel
theorem d_Law_360 : decode b_Law 360 = .ok (.aload_n 0, 1) := by decide +kernel
theorem d_Law_361 : decode b_Law 361 = .ok (.iload 4, 2) := by decide +kernel
theorem d_Law_363 : decode b_Law 363 = .ok (.iconst 2, 1) := by decide +kernel
theorem d_Law_364 : decode b_Law 364 = .ok (.iadd, 1) := by decide +kernel
theorem d_Law_365 : decode b_Law 365 = .ok (.iaload, 1) := by decide +kernel
theorem d_Law_366 : decode b_Law 366 = .ok (.i2l, 1) := by decide +kernel
theorem d_Law_367 : decode b_Law 367 = .ok (.bipush 32, 2) := by decide +kernel
theorem d_Law_369 : decode b_Law 369 = .ok (.lshl, 1) := by decide +kernel
theorem d_Law_370 : decode b_Law 370 = .ok (.aload_n 0, 1) := by decide +kernel
theorem d_Law_371 : decode b_Law 371 = .ok (.iload 4, 2) := by decide +kernel
theorem d_Law_373 : decode b_Law 373 = .ok (.iconst 3, 1) := by decide +kernel
theorem d_Law_374 : decode b_Law 374 = .ok (.iadd, 1) := by decide +kernel
theorem d_Law_375 : decode b_Law 375 = .ok (.iaload, 1) := by decide +kernel
theorem d_Law_376 : decode b_Law 376 = .ok (.i2l, 1) := by decide +kernel
theorem d_Law_377 : decode b_Law 377 = .ok (.ldc2_w 32, 3) := by decide +kernel
theorem d_Law_380 : decode b_Law 380 = .ok (.land, 1) := by decide +kernel
theorem d_Law_381 : decode b_Law 381 = .ok (.lor, 1) := by decide +kernel
theorem d_Law_382 : decode b_Law 382 = .ok (.invokevirtual 50, 3) := by decide +kernel
theorem d_Law_385 : decode b_Law 385 = .ok (.lstore 6, 2) := by decide +kernel
theorem d_Law_387 : decode b_Law 387 = .ok (.aload_n 2, 1) := by decide +kernel
theorem d_Law_388 : decode b_Law 388 = .ok (.invokevirtual 40, 3) := by decide +kernel
theorem d_Law_391 : decode b_Law 391 = .ok (.iload 5, 2) := by decide +kernel
theorem d_Law_393 : decode b_Law 393 = .ok (.if_icmp .eq 5, 3) := by decide +kernel
theorem d_Law_396 : decode b_Law 396 = .ok (.iconst 0, 1) := by decide +kernel
theorem d_Law_397 : decode b_Law 397 = .ok (.ireturn, 1) := by decide +kernel
theorem d_Law_398 : decode b_Law 398 = .ok (.iload 5, 2) := by decide +kernel
theorem d_Law_400 : decode b_Law 400 = .ok (.ifCond .ne 14, 3) := by decide +kernel
theorem d_Law_403 : decode b_Law 403 = .ok (.aload_n 3, 1) := by decide +kernel
theorem d_Law_404 : decode b_Law 404 = .ok (.iconst 0, 1) := by decide +kernel
theorem d_Law_405 : decode b_Law 405 = .ok (.laload, 1) := by decide +kernel
theorem d_Law_406 : decode b_Law 406 = .ok (.lload 6, 2) := by decide +kernel
theorem d_Law_408 : decode b_Law 408 = .ok (.lcmp, 1) := by decide +kernel
theorem d_Law_409 : decode b_Law 409 = .ok (.ifCond .eq 5, 3) := by decide +kernel
theorem d_Law_412 : decode b_Law 412 = .ok (.iconst 0, 1) := by decide +kernel
theorem d_Law_413 : decode b_Law 413 = .ok (.ireturn, 1) := by decide +kernel
theorem d_Law_414 : decode b_Law 414 = .ok (.goto 54, 3) := by decide +kernel
theorem d_Law_417 : decode b_Law 417 = .ok (.aload_n 1, 1) := by decide +kernel
theorem d_Law_418 : decode b_Law 418 = .ok (.invokevirtual 51, 3) := by decide +kernel
theorem d_Law_421 : decode b_Law 421 = .ok (.aload_n 2, 1) := by decide +kernel
theorem d_Law_422 : decode b_Law 422 = .ok (.invokevirtual 55, 3) := by decide +kernel
theorem d_Law_425 : decode b_Law 425 = .ok (.lcmp, 1) := by decide +kernel
theorem d_Law_426 : decode b_Law 426 = .ok (.ifCond .eq 42, 3) := by decide +kernel
theorem d_Law_429 : decode b_Law 429 = .ok (.iconst 0, 1) := by decide +kernel
theorem d_Law_430 : decode b_Law 430 = .ok (.ireturn, 1) := by decide +kernel
theorem d_Law_431 : decode b_Law 431 = .ok (.aload_n 1, 1) := by decide +kernel
theorem d_Law_432 : decode b_Law 432 = .ok (.aload_n 0, 1) := by decide +kernel
theorem d_Law_433 : decode b_Law 433 = .ok (.iload 4, 2) := by decide +kernel
theorem d_Law_435 : decode b_Law 435 = .ok (.iconst 1, 1) := by decide +kernel
theorem d_Law_436 : decode b_Law 436 = .ok (.iadd, 1) := by decide +kernel
theorem d_Law_437 : decode b_Law 437 = .ok (.iaload, 1) := by decide +kernel
theorem d_Law_438 : decode b_Law 438 = .ok (.aload_n 0, 1) := by decide +kernel
theorem d_Law_439 : decode b_Law 439 = .ok (.iload 4, 2) := by decide +kernel
theorem d_Law_441 : decode b_Law 441 = .ok (.iconst 2, 1) := by decide +kernel
theorem d_Law_442 : decode b_Law 442 = .ok (.iadd, 1) := by decide +kernel
theorem d_Law_443 : decode b_Law 443 = .ok (.iaload, 1) := by decide +kernel
theorem d_Law_444 : decode b_Law 444 = .ok (.invokevirtual 56, 3) := by decide +kernel
theorem d_Law_447 : decode b_Law 447 = .ok (.aload_n 2, 1) := by decide +kernel
theorem d_Law_448 : decode b_Law 448 = .ok (.aload_n 0, 1) := by decide +kernel
theorem d_Law_449 : decode b_Law 449 = .ok (.iload 4, 2) := by decide +kernel
theorem d_Law_451 : decode b_Law 451 = .ok (.iconst 1, 1) := by decide +kernel
theorem d_Law_452 : decode b_Law 452 = .ok (.iadd, 1) := by decide +kernel
theorem d_Law_453 : decode b_Law 453 = .ok (.iaload, 1) := by decide +kernel
theorem d_Law_454 : decode b_Law 454 = .ok (.aload_n 0, 1) := by decide +kernel
theorem d_Law_455 : decode b_Law 455 = .ok (.iload 4, 2) := by decide +kernel
theorem d_Law_457 : decode b_Law 457 = .ok (.iconst 2, 1) := by decide +kernel
theorem d_Law_458 : decode b_Law 458 = .ok (.iadd, 1) := by decide +kernel
theorem d_Law_459 : decode b_Law 459 = .ok (.iaload, 1) := by decide +kernel
theorem d_Law_460 : decode b_Law 460 = .ok (.invokevirtual 60, 3) := by decide +kernel
theorem d_Law_463 : decode b_Law 463 = .ok (.if_icmp .eq 5, 3) := by decide +kernel
theorem d_Law_466 : decode b_Law 466 = .ok (.iconst 0, 1) := by decide +kernel
theorem d_Law_467 : decode b_Law 467 = .ok (.ireturn, 1) := by decide +kernel
theorem d_Law_468 : decode b_Law 468 = .ok (.iinc 4 6, 3) := by decide +kernel
theorem d_Law_471 : decode b_Law 471 = .ok (.goto (-448), 3) := by decide +kernel
theorem d_Law_474 : decode b_Law 474 = .ok (.iconst 1, 1) := by decide +kernel
theorem d_Law_475 : decode b_Law 475 = .ok (.ireturn, 1) := by decide +kernel
