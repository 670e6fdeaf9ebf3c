theorem d_La_law_0 : decode code 0 = .ok (.new 7, 3) := by decide +kernel
theorem d_La_law_3 : decode code 3 = .ok (.dup, 1) := by decide +kernel
theorem d_La_law_4 : decode code 4 = .ok (.invokespecial 9, 3) := by decide +kernel
theorem d_La_law_7 : decode code 7 = .ok (.astore_n 1, 1) := by decide +kernel
theorem d_La_law_8 : decode code 8 = .ok (.new 10, 3) := by decide +kernel
theorem d_La_law_11 : decode code 11 = .ok (.dup, 1) := by decide +kernel
theorem d_La_law_12 : decode code 12 = .ok (.invokespecial 12, 3) := by decide +kernel
theorem d_La_law_15 : decode code 15 = .ok (.astore_n 2, 1) := by decide +kernel
theorem d_La_law_16 : decode code 16 = .ok (.iconst 0, 1) := by decide +kernel
theorem d_La_law_17 : decode code 17 = .ok (.istore_n 3, 1) := by decide +kernel
theorem d_La_law_18 : decode code 18 = .ok (.iload_n 3, 1) := by decide +kernel
theorem d_La_law_19 : decode code 19 = .ok (.aload_n 0, 1) := by decide +kernel
theorem d_La_law_20 : decode code 20 = .ok (.arraylength, 1) := by decide +kernel
theorem d_La_law_21 : decode code 21 = .ok (.bipush 6, 2) := by decide +kernel
theorem d_La_law_23 : decode code 23 = .ok (.isub, 1) := by decide +kernel
theorem d_La_law_24 : decode code 24 = .ok (.if_icmp .gt 453, 3) := by decide +kernel
theorem d_La_law_27 : decode code 27 = .ok (.aload_n 0, 1) := by decide +kernel
theorem d_La_law_28 : decode code 28 = .ok (.iload_n 3, 1) := by decide +kernel
theorem d_La_law_29 : decode code 29 = .ok (.iaload, 1) := by decide +kernel
theorem d_La_law_30 : decode code 30 = .ok (.bipush 15, 2) := by decide +kernel
theorem d_La_law_32 : decode code 32 = .ok (.iand, 1) := by decide +kernel
theorem d_La_law_33 : decode code 33 = .ok (.tableswitch 438 0 12 #[67, 90, 123, 156, 169, 182, 235, 249, 262, 275, 298, 321, 355], 67) := by decide +kernel
theorem d_La_law_100 : decode code 100 = .ok (.aload_n 1, 1) := by decide +kernel
theorem d_La_law_101 : decode code 101 = .ok (.aload_n 0, 1) := by decide +kernel
theorem d_La_law_102 : decode code 102 = .ok (.iload_n 3, 1) := by decide +kernel
theorem d_La_law_103 : decode code 103 = .ok (.iconst 1, 1) := by decide +kernel
theorem d_La_law_104 : decode code 104 = .ok (.iadd, 1) := by decide +kernel
theorem d_La_law_105 : decode code 105 = .ok (.iaload, 1) := by decide +kernel
theorem d_La_law_106 : decode code 106 = .ok (.invokevirtual 13, 3) := by decide +kernel
theorem d_La_law_109 : decode code 109 = .ok (.aload_n 2, 1) := by decide +kernel
theorem d_La_law_110 : decode code 110 = .ok (.aload_n 0, 1) := by decide +kernel
theorem d_La_law_111 : decode code 111 = .ok (.iload_n 3, 1) := by decide +kernel
theorem d_La_law_112 : decode code 112 = .ok (.iconst 1, 1) := by decide +kernel
theorem d_La_law_113 : decode code 113 = .ok (.iadd, 1) := by decide +kernel
theorem d_La_law_114 : decode code 114 = .ok (.iaload, 1) := by decide +kernel
theorem d_La_law_115 : decode code 115 = .ok (.invokevirtual 17, 3) := by decide +kernel
theorem d_La_law_118 : decode code 118 = .ok (.if_icmp .eq 353, 3) := by decide +kernel
theorem d_La_law_121 : decode code 121 = .ok (.iconst 0, 1) := by decide +kernel
theorem d_La_law_122 : decode code 122 = .ok (.ireturn, 1) := by decide +kernel
theorem d_La_law_123 : decode code 123 = .ok (.aload_n 1, 1) := by decide +kernel
theorem d_La_law_124 : decode code 124 = .ok (.aload_n 0, 1) := by decide +kernel
theorem d_La_law_125 : decode code 125 = .ok (.iload_n 3, 1) := by decide +kernel
theorem d_La_law_126 : decode code 126 = .ok (.iconst 1, 1) := by decide +kernel
theorem d_La_law_127 : decode code 127 = .ok (.iadd, 1) := by decide +kernel
theorem d_La_law_128 : decode code 128 = .ok (.iaload, 1) := by decide +kernel
theorem d_La_law_129 : decode code 129 = .ok (.aload_n 0, 1) := by decide +kernel
theorem d_La_law_130 : decode code 130 = .ok (.iload_n 3, 1) := by decide +kernel
theorem d_La_law_131 : decode code 131 = .ok (.iconst 2, 1) := by decide +kernel
theorem d_La_law_132 : decode code 132 = .ok (.iadd, 1) := by decide +kernel
theorem d_La_law_133 : decode code 133 = .ok (.iaload, 1) := by decide +kernel
theorem d_La_law_134 : decode code 134 = .ok (.invokevirtual 18, 3) := by decide +kernel
theorem d_La_law_137 : decode code 137 = .ok (.aload_n 2, 1) := by decide +kernel
theorem d_La_law_138 : decode code 138 = .ok (.aload_n 0, 1) := by decide +kernel
theorem d_La_law_139 : decode code 139 = .ok (.iload_n 3, 1) := by decide +kernel
theorem d_La_law_140 : decode code 140 = .ok (.iconst 1, 1) := by decide +kernel
theorem d_La_law_141 : decode code 141 = .ok (.iadd, 1) := by decide +kernel
theorem d_La_law_142 : decode code 142 = .ok (.iaload, 1) := by decide +kernel
theorem d_La_law_143 : decode code 143 = .ok (.aload_n 0, 1) := by decide +kernel
theorem d_La_law_144 : decode code 144 = .ok (.iload_n 3, 1) := by decide +kernel
theorem d_La_law_145 : decode code 145 = .ok (.iconst 2, 1) := by decide +kernel
theorem d_La_law_146 : decode code 146 = .ok (.iadd, 1) := by decide +kernel
theorem d_La_law_147 : decode code 147 = .ok (.iaload, 1) := by decide +kernel
theorem d_La_law_148 : decode code 148 = .ok (.invokevirtual 22, 3) := by decide +kernel
theorem d_La_law_151 : decode code 151 = .ok (.if_icmp .eq 320, 3) := by decide +kernel
theorem d_La_law_154 : decode code 154 = .ok (.iconst 0, 1) := by decide +kernel
theorem d_La_law_155 : decode code 155 = .ok (.ireturn, 1) := by decide +kernel
theorem d_La_law_156 : decode code 156 = .ok (.aload_n 1, 1) := by decide +kernel
theorem d_La_law_157 : decode code 157 = .ok (.aload_n 0, 1) := by decide +kernel
theorem d_La_law_158 : decode code 158 = .ok (.iload_n 3, 1) := by decide +kernel
theorem d_La_law_159 : decode code 159 = .ok (.iconst 1, 1) := by decide +kernel
theorem d_La_law_160 : decode code 160 = .ok (.iadd, 1) := by decide +kernel
theorem d_La_law_161 : decode code 161 = .ok (.iaload, 1) := by decide +kernel
theorem d_La_law_162 : decode code 162 = .ok (.aload_n 0, 1) := by decide +kernel
theorem d_La_law_163 : decode code 163 = .ok (.iload_n 3, 1) := by decide +kernel
theorem d_La_law_164 : decode code 164 = .ok (.iconst 2, 1) := by decide +kernel
theorem d_La_law_165 : decode code 165 = .ok (.iadd, 1) := by decide +kernel
theorem d_La_law_166 : decode code 166 = .ok (.iaload, 1) := by decide +kernel
theorem d_La_law_167 : decode code 167 = .ok (.invokevirtual 23, 3) := by decide +kernel
theorem d_La_law_170 : decode code 170 = .ok (.aload_n 2, 1) := by decide +kernel
theorem d_La_law_171 : decode code 171 = .ok (.aload_n 0, 1) := by decide +kernel
theorem d_La_law_172 : decode code 172 = .ok (.iload_n 3, 1) := by decide +kernel
theorem d_La_law_173 : decode code 173 = .ok (.iconst 1, 1) := by decide +kernel
theorem d_La_law_174 : decode code 174 = .ok (.iadd, 1) := by decide +kernel
theorem d_La_law_175 : decode code 175 = .ok (.iaload, 1) := by decide +kernel
theorem d_La_law_176 : decode code 176 = .ok (.aload_n 0, 1) := by decide +kernel
theorem d_La_law_177 : decode code 177 = .ok (.iload_n 3, 1) := by decide +kernel
theorem d_La_law_178 : decode code 178 = .ok (.iconst 2, 1) := by decide +kernel
theorem d_La_law_179 : decode code 179 = .ok (.iadd, 1) := by decide +kernel
theorem d_La_law_180 : decode code 180 = .ok (.iaload, 1) := by decide +kernel
theorem d_La_law_181 : decode code 181 = .ok (.invokevirtual 27, 3) := by decide +kernel
theorem d_La_law_184 : decode code 184 = .ok (.if_icmp .eq 287, 3) := by decide +kernel
theorem d_La_law_187 : decode code 187 = .ok (.iconst 0, 1) := by decide +kernel
theorem d_La_law_188 : decode code 188 = .ok (.ireturn, 1) := by decide +kernel
theorem d_La_law_189 : decode code 189 = .ok (.aload_n 1, 1) := by decide +kernel
theorem d_La_law_190 : decode code 190 = .ok (.invokevirtual 28, 3) := by decide +kernel
theorem d_La_law_193 : decode code 193 = .ok (.aload_n 2, 1) := by decide +kernel
theorem d_La_law_194 : decode code 194 = .ok (.invokevirtual 32, 3) := by decide +kernel
theorem d_La_law_197 : decode code 197 = .ok (.if_icmp .eq 274, 3) := by decide +kernel
theorem d_La_law_200 : decode code 200 = .ok (.iconst 0, 1) := by decide +kernel
theorem d_La_law_201 : decode code 201 = .ok (.ireturn, 1) := by decide +kernel
theorem d_La_law_202 : decode code 202 = .ok (.aload_n 1, 1) := by decide +kernel
theorem d_La_law_203 : decode code 203 = .ok (.invokevirtual 33, 3) := by decide +kernel
theorem d_La_law_206 : decode code 206 = .ok (.aload_n 2, 1) := by decide +kernel
theorem d_La_law_207 : decode code 207 = .ok (.invokevirtual 36, 3) := by decide +kernel
theorem d_La_law_210 : decode code 210 = .ok (.if_icmp .eq 261, 3) := by decide +kernel
theorem d_La_law_213 : decode code 213 = .ok (.iconst 0, 1) := by decide +kernel
theorem d_La_law_214 : decode code 214 = .ok (.ireturn, 1) := by decide +kernel
theorem d_La_law_215 : decode code 215 = .ok (.aload_n 1, 1) := by decide +kernel
theorem d_La_law_216 : decode code 216 = .ok (.aload_n 0, 1) := by decide +kernel
theorem d_La_law_217 : decode code 217 = .ok (.iload_n 3, 1) := by decide +kernel
theorem d_La_law_218 : decode code 218 = .ok (.iconst 1, 1) := by decide +kernel
theorem d_La_law_219 : decode code 219 = .ok (.iadd, 1) := by decide +kernel
theorem d_La_law_220 : decode code 220 = .ok (.iaload, 1) := by decide +kernel
theorem d_La_law_221 : decode code 221 = .ok (.aload_n 0, 1) := by decide +kernel
theorem d_La_law_222 : decode code 222 = .ok (.iload_n 3, 1) := by decide +kernel
theorem d_La_law_223 : decode code 223 = .ok (.iconst 2, 1) := by decide +kernel
theorem d_La_law_224 : decode code 224 = .ok (.iadd, 1) := by decide +kernel
theorem d_La_law_225 : decode code 225 = .ok (.iaload, 1) := by decide +kernel
theorem d_La_law_226 : decode code 226 = .ok (.aload_n 0, 1) := by decide +kernel
theorem d_La_law_227 : decode code 227 = .ok (.iload_n 3, 1) := by decide +kernel
theorem d_La_law_228 : decode code 228 = .ok (.iconst 3, 1) := by decide +kernel
theorem d_La_law_229 : decode code 229 = .ok (.iadd, 1) := by decide +kernel
theorem d_La_law_230 : decode code 230 = .ok (.iaload, 1) := by decide +kernel
theorem d_La_law_231 : decode code 231 = .ok (.aload_n 0, 1) := by decide +kernel
theorem d_La_law_232 : decode code 232 = .ok (.iload_n 3, 1) := by decide +kernel
theorem d_La_law_233 : decode code 233 = .ok (.iconst 4, 1) := by decide +kernel
theorem d_La_law_234 : decode code 234 = .ok (.iadd, 1) := by decide +kernel
theorem d_La_law_235 : decode code 235 = .ok (.iaload, 1) := by decide +kernel
theorem d_La_law_236 : decode code 236 = .ok (.invokevirtual 37, 3) := by decide +kernel
theorem d_La_law_239 : decode code 239 = .ok (.aload_n 2, 1) := by decide +kernel
theorem d_La_law_240 : decode code 240 = .ok (.aload_n 0, 1) := by decide +kernel
theorem d_La_law_241 : decode code 241 = .ok (.iload_n 3, 1) := by decide +kernel
theorem d_La_law_242 : decode code 242 = .ok (.iconst 1, 1) := by decide +kernel
theorem d_La_law_243 : decode code 243 = .ok (.iadd, 1) := by decide +kernel
theorem d_La_law_244 : decode code 244 = .ok (.iaload, 1) := by decide +kernel
theorem d_La_law_245 : decode code 245 = .ok (.aload_n 0, 1) := by decide +kernel
theorem d_La_law_246 : decode code 246 = .ok (.iload_n 3, 1) := by decide +kernel
theorem d_La_law_247 : decode code 247 = .ok (.iconst 2, 1) := by decide +kernel
theorem d_La_law_248 : decode code 248 = .ok (.iadd, 1) := by decide +kernel
theorem d_La_law_249 : decode code 249 = .ok (.iaload, 1) := by decide +kernel
theorem d_La_law_250 : decode code 250 = .ok (.aload_n 0, 1) := by decide +kernel
theorem d_La_law_251 : decode code 251 = .ok (.iload_n 3, 1) := by decide +kernel
theorem d_La_law_252 : decode code 252 = .ok (.iconst 3, 1) := by decide +kernel
theorem d_La_law_253 : decode code 253 = .ok (.iadd, 1) := by decide +kernel
theorem d_La_law_254 : decode code 254 = .ok (.iaload, 1) := by decide +kernel
theorem d_La_law_255 : decode code 255 = .ok (.aload_n 0, 1) := by decide +kernel
theorem d_La_law_256 : decode code 256 = .ok (.iload_n 3, 1) := by decide +kernel
theorem d_La_law_257 : decode code 257 = .ok (.iconst 4, 1) := by decide +kernel
theorem d_La_law_258 : decode code 258 = .ok (.iadd, 1) := by decide +kernel
theorem d_La_law_259 : decode code 259 = .ok (.iaload, 1) := by decide +kernel
theorem d_La_law_260 : decode code 260 = .ok (.invokevirtual 41, 3) := by decide +kernel
theorem d_La_law_263 : decode code 263 = .ok (.if_icmp .eq 208, 3) := by decide +kernel
theorem d_La_law_266 : decode code 266 = .ok (.iconst 0, 1) := by decide +kernel
theorem d_La_law_267 : decode code 267 = .ok (.ireturn, 1) := by decide +kernel
theorem d_La_law_268 : decode code 268 = .ok (.aload_n 1, 1) := by decide +kernel
theorem d_La_law_269 : decode code 269 = .ok (.invokevirtual 42, 3) := by decide +kernel
theorem d_La_law_272 : decode code 272 = .ok (.aload_n 2, 1) := by decide +kernel
theorem d_La_law_273 : decode code 273 = .ok (.invokevirtual 46, 3) := by decide +kernel
theorem d_La_law_276 : decode code 276 = .ok (.lcmp, 1) := by decide +kernel
theorem d_La_law_277 : decode code 277 = .ok (.ifCond .eq 194, 3) := by decide +kernel
theorem d_La_law_280 : decode code 280 = .ok (.iconst 0, 1) := by decide +kernel
theorem d_La_law_281 : decode code 281 = .ok (.ireturn, 1) := by decide +kernel
theorem d_La_law_282 : decode code 282 = .ok (.aload_n 1, 1) := by decide +kernel
theorem d_La_law_283 : decode code 283 = .ok (.invokevirtual 47, 3) := by decide +kernel
theorem d_La_law_286 : decode code 286 = .ok (.aload_n 2, 1) := by decide +kernel
theorem d_La_law_287 : decode code 287 = .ok (.invokevirtual 50, 3) := by decide +kernel
theorem d_La_law_290 : decode code 290 = .ok (.if_icmp .eq 181, 3) := by decide +kernel
theorem d_La_law_293 : decode code 293 = .ok (.iconst 0, 1) := by decide +kernel
theorem d_La_law_294 : decode code 294 = .ok (.ireturn, 1) := by decide +kernel
theorem d_La_law_295 : decode code 295 = .ok (.aload_n 1, 1) := by decide +kernel
theorem d_La_law_296 : decode code 296 = .ok (.invokevirtual 51, 3) := by decide +kernel
theorem d_La_law_299 : decode code 299 = .ok (.aload_n 2, 1) := by decide +kernel
theorem d_La_law_300 : decode code 300 = .ok (.invokevirtual 54, 3) := by decide +kernel
theorem d_La_law_303 : decode code 303 = .ok (.if_icmp .eq 168, 3) := by decide +kernel
theorem d_La_law_306 : decode code 306 = .ok (.iconst 0, 1) := by decide +kernel
theorem d_La_law_307 : decode code 307 = .ok (.ireturn, 1) := by decide +kernel
theorem d_La_law_308 : decode code 308 = .ok (.aload_n 1, 1) := by decide +kernel
theorem d_La_law_309 : decode code 309 = .ok (.aload_n 0, 1) := by decide +kernel
theorem d_La_law_310 : decode code 310 = .ok (.iload_n 3, 1) := by decide +kernel
theorem d_La_law_311 : decode code 311 = .ok (.iconst 1, 1) := by decide +kernel
theorem d_La_law_312 : decode code 312 = .ok (.iadd, 1) := by decide +kernel
theorem d_La_law_313 : decode code 313 = .ok (.iaload, 1) := by decide +kernel
theorem d_La_law_314 : decode code 314 = .ok (.invokevirtual 55, 3) := by decide +kernel
theorem d_La_law_317 : decode code 317 = .ok (.aload_n 2, 1) := by decide +kernel
theorem d_La_law_318 : decode code 318 = .ok (.aload_n 0, 1) := by decide +kernel
theorem d_La_law_319 : decode code 319 = .ok (.iload_n 3, 1) := by decide +kernel
theorem d_La_law_320 : decode code 320 = .ok (.iconst 1, 1) := by decide +kernel
theorem d_La_law_321 : decode code 321 = .ok (.iadd, 1) := by decide +kernel
theorem d_La_law_322 : decode code 322 = .ok (.iaload, 1) := by decide +kernel
theorem d_La_law_323 : decode code 323 = .ok (.invokevirtual 58, 3) := by decide +kernel
theorem d_La_law_326 : decode code 326 = .ok (.if_icmp .eq 145, 3) := by decide +kernel
theorem d_La_law_329 : decode code 329 = .ok (.iconst 0, 1) := by decide +kernel
theorem d_La_law_330 : decode code 330 = .ok (.ireturn, 1) := by decide +kernel
theorem d_La_law_331 : decode code 331 = .ok (.aload_n 1, 1) := by decide +kernel
theorem d_La_law_332 : decode code 332 = .ok (.aload_n 0, 1) := by decide +kernel
theorem d_La_law_333 : decode code 333 = .ok (.iload_n 3, 1) := by decide +kernel
theorem d_La_law_334 : decode code 334 = .ok (.iconst 1, 1) := by decide +kernel
theorem d_La_law_335 : decode code 335 = .ok (.iadd, 1) := by decide +kernel
theorem d_La_law_336 : decode code 336 = .ok (.iaload, 1) := by decide +kernel
theorem d_La_law_337 : decode code 337 = .ok (.invokevirtual 59, 3) := by decide +kernel
theorem d_La_law_340 : decode code 340 = .ok (.aload_n 2, 1) := by decide +kernel
theorem d_La_law_341 : decode code 341 = .ok (.aload_n 0, 1) := by decide +kernel
theorem d_La_law_342 : decode code 342 = .ok (.iload_n 3, 1) := by decide +kernel
theorem d_La_law_343 : decode code 343 = .ok (.iconst 1, 1) := by decide +kernel
theorem d_La_law_344 : decode code 344 = .ok (.iadd, 1) := by decide +kernel
theorem d_La_law_345 : decode code 345 = .ok (.iaload, 1) := by decide +kernel
theorem d_La_law_346 : decode code 346 = .ok (.invokevirtual 62, 3) := by decide +kernel
theorem d_La_law_349 : decode code 349 = .ok (.if_icmp .eq 122, 3) := by decide +kernel
theorem d_La_law_352 : decode code 352 = .ok (.iconst 0, 1) := by decide +kernel
theorem d_La_law_353 : decode code 353 = .ok (.ireturn, 1) := by decide +kernel
theorem d_La_law_354 : decode code 354 = .ok (.aload_n 1, 1) := by decide +kernel
theorem d_La_law_355 : decode code 355 = .ok (.aload_n 0, 1) := by decide +kernel
theorem d_La_law_356 : decode code 356 = .ok (.iload_n 3, 1) := by decide +kernel
theorem d_La_law_357 : decode code 357 = .ok (.iconst 1, 1) := by decide +kernel
theorem d_La_law_358 : decode code 358 = .ok (.iadd, 1) := by decide +kernel
theorem d_La_law_359 : decode code 359 = .ok (.iaload, 1) := by decide +kernel
theorem d_La_law_360 : decode code 360 = .ok (.aload_n 0, 1) := by decide +kernel
theorem d_La_law_361 : decode code 361 = .ok (.iload_n 3, 1) := by decide +kernel
theorem d_La_law_362 : decode code 362 = .ok (.iconst 2, 1) := by decide +kernel
theorem d_La_law_363 : decode code 363 = .ok (.iadd, 1) := by decide +kernel
theorem d_La_law_364 : decode code 364 = .ok (.iaload, 1) := by decide +kernel
theorem d_La_law_365 : decode code 365 = .ok (.invokevirtual 63, 3) := by decide +kernel
theorem d_La_law_368 : decode code 368 = .ok (.aload_n 2, 1) := by decide +kernel
theorem d_La_law_369 : decode code 369 = .ok (.aload_n 0, 1) := by decide +kernel
theorem d_La_law_370 : decode code 370 = .ok (.iload_n 3, 1) := by decide +kernel
theorem d_La_law_371 : decode code 371 = .ok (.iconst 1, 1) := by decide +kernel
theorem d_La_law_372 : decode code 372 = .ok (.iadd, 1) := by decide +kernel
theorem d_La_law_373 : decode code 373 = .ok (.iaload, 1) := by decide +kernel
theorem d_La_law_374 : decode code 374 = .ok (.aload_n 0, 1) := by decide +kernel
theorem d_La_law_375 : decode code 375 = .ok (.iload_n 3, 1) := by decide +kernel
theorem d_La_law_376 : decode code 376 = .ok (.iconst 2, 1) := by decide +kernel
theorem d_La_law_377 : decode code 377 = .ok (.iadd, 1) := by decide +kernel
theorem d_La_law_378 : decode code 378 = .ok (.iaload, 1) := by decide +kernel
theorem d_La_law_379 : decode code 379 = .ok (.invokevirtual 67, 3) := by decide +kernel
theorem d_La_law_382 : decode code 382 = .ok (.lcmp, 1) := by decide +kernel
theorem d_La_law_383 : decode code 383 = .ok (.ifCond .eq 88, 3) := by decide +kernel
theorem d_La_law_386 : decode code 386 = .ok (.iconst 0, 1) := by decide +kernel
theorem d_La_law_387 : decode code 387 = .ok (.ireturn, 1) := by decide +kernel
theorem d_La_law_388 : decode code 388 = .ok (.aload_n 1, 1) := by decide +kernel
theorem d_La_law_389 : decode code 389 = .ok (.aload_n 0, 1) := by decide +kernel
theorem d_La_law_390 : decode code 390 = .ok (.iload_n 3, 1) := by decide +kernel
theorem d_La_law_391 : decode code 391 = .ok (.iconst 1, 1) := by decide +kernel
theorem d_La_law_392 : decode code 392 = .ok (.iadd, 1) := by decide +kernel
theorem d_La_law_393 : decode code 393 = .ok (.iaload, 1) := by decide +kernel
theorem d_La_law_394 : decode code 394 = .ok (.aload_n 0, 1) := by decide +kernel
theorem d_La_law_395 : decode code 395 = .ok (.iload_n 3, 1) := by decide +kernel
theorem d_La_law_396 : decode code 396 = .ok (.iconst 2, 1) := by decide +kernel
theorem d_La_law_397 : decode code 397 = .ok (.iadd, 1) := by decide +kernel
theorem d_La_law_398 : decode code 398 = .ok (.iaload, 1) := by decide +kernel
theorem d_La_law_399 : decode code 399 = .ok (.aload_n 0, 1) := by decide +kernel
theorem d_La_law_400 : decode code 400 = .ok (.iload_n 3, 1) := by decide +kernel
theorem d_La_law_401 : decode code 401 = .ok (.iconst 3, 1) := by decide +kernel
theorem d_La_law_402 : decode code 402 = .ok (.iadd, 1) := by decide +kernel
theorem d_La_law_403 : decode code 403 = .ok (.iaload, 1) := by decide +kernel
theorem d_La_law_404 : decode code 404 = .ok (.aload_n 0, 1) := by decide +kernel
theorem d_La_law_405 : decode code 405 = .ok (.iload_n 3, 1) := by decide +kernel
theorem d_La_law_406 : decode code 406 = .ok (.iconst 4, 1) := by decide +kernel
theorem d_La_law_407 : decode code 407 = .ok (.iadd, 1) := by decide +kernel
theorem d_La_law_408 : decode code 408 = .ok (.iaload, 1) := by decide +kernel
theorem d_La_law_409 : decode code 409 = .ok (.i2l, 1) := by decide +kernel
theorem d_La_law_410 : decode code 410 = .ok (.bipush 32, 2) := by decide +kernel
theorem d_La_law_412 : decode code 412 = .ok (.lshl, 1) := by decide +kernel
theorem d_La_law_413 : decode code 413 = .ok (.aload_n 0, 1) := by decide +kernel
theorem d_La_law_414 : decode code 414 = .ok (.iload_n 3, 1) := by decide +kernel
theorem d_La_law_415 : decode code 415 = .ok (.iconst 5, 1) := by decide +kernel
theorem d_La_law_416 : decode code 416 = .ok (.iadd, 1) := by decide +kernel
theorem d_La_law_417 : decode code 417 = .ok (.iaload, 1) := by decide +kernel
theorem d_La_law_418 : decode code 418 = .ok (.i2l, 1) := by decide +kernel
theorem d_La_law_419 : decode code 419 = .ok (.ldc2_w 68, 3) := by decide +kernel
theorem d_La_law_422 : decode code 422 = .ok (.land, 1) := by decide +kernel
theorem d_La_law_423 : decode code 423 = .ok (.lor, 1) := by decide +kernel
theorem d_La_law_424 : decode code 424 = .ok (.invokevirtual 70, 3) := by decide +kernel
theorem d_La_law_427 : decode code 427 = .ok (.aload_n 2, 1) := by decide +kernel
theorem d_La_law_428 : decode code 428 = .ok (.aload_n 0, 1) := by decide +kernel
theorem d_La_law_429 : decode code 429 = .ok (.iload_n 3, 1) := by decide +kernel
theorem d_La_law_430 : decode code 430 = .ok (.iconst 1, 1) := by decide +kernel
theorem d_La_law_431 : decode code 431 = .ok (.iadd, 1) := by decide +kernel
theorem d_La_law_432 : decode code 432 = .ok (.iaload, 1) := by decide +kernel
theorem d_La_law_433 : decode code 433 = .ok (.aload_n 0, 1) := by decide +kernel
theorem d_La_law_434 : decode code 434 = .ok (.iload_n 3, 1) := by decide +kernel
theorem d_La_law_435 : decode code 435 = .ok (.iconst 2, 1) := by decide +kernel
theorem d_La_law_436 : decode code 436 = .ok (.iadd, 1) := by decide +kernel
theorem d_La_law_437 : decode code 437 = .ok (.iaload, 1) := by decide +kernel
theorem d_La_law_438 : decode code 438 = .ok (.aload_n 0, 1) := by decide +kernel
theorem d_La_law_439 : decode code 439 = .ok (.iload_n 3, 1) := by decide +kernel
theorem d_La_law_440 : decode code 440 = .ok (.iconst 3, 1) := by decide +kernel
theorem d_La_law_441 : decode code 441 = .ok (.iadd, 1) := by decide +kernel
theorem d_La_law_442 : decode code 442 = .ok (.iaload, 1) := by decide +kernel
theorem d_La_law_443 : decode code 443 = .ok (.aload_n 0, 1) := by decide +kernel
theorem d_La_law_444 : decode code 444 = .ok (.iload_n 3, 1) := by decide +kernel
theorem d_La_law_445 : decode code 445 = .ok (.iconst 4, 1) := by decide +kernel
theorem d_La_law_446 : decode code 446 = .ok (.iadd, 1) := by decide +kernel
theorem d_La_law_447 : decode code 447 = .ok (.iaload, 1) := by decide +kernel
theorem d_La_law_448 : decode code 448 = .ok (.i2l, 1) := by decide +kernel
theorem d_La_law_449 : decode code 449 = .ok (.bipush 32, 2) := by decide +kernel
theorem d_La_law_451 : decode code 451 = .ok (.lshl, 1) := by decide +kernel
theorem d_La_law_452 : decode code 452 = .ok (.aload_n 0, 1) := by decide +kernel
theorem d_La_law_453 : decode code 453 = .ok (.iload_n 3, 1) := by decide +kernel
theorem d_La_law_454 : decode code 454 = .ok (.iconst 5, 1) := by decide +kernel
theorem d_La_law_455 : decode code 455 = .ok (.iadd, 1) := by decide +kernel
theorem d_La_law_456 : decode code 456 = .ok (.iaload, 1) := by decide +kernel
theorem d_La_law_457 : decode code 457 = .ok (.i2l, 1) := by decide +kernel
theorem d_La_law_458 : decode code 458 = .ok (.ldc2_w 68, 3) := by decide +kernel
theorem d_La_law_461 : decode code 461 = .ok (.land, 1) := by decide +kernel
theorem d_La_law_462 : decode code 462 = .ok (.lor, 1) := by decide +kernel
theorem d_La_law_463 : decode code 463 = .ok (.invokevirtual 74, 3) := by decide +kernel
theorem d_La_law_466 : decode code 466 = .ok (.if_icmp .eq 5, 3) := by decide +kernel
theorem d_La_law_469 : decode code 469 = .ok (.iconst 0, 1) := by decide +kernel
theorem d_La_law_470 : decode code 470 = .ok (.ireturn, 1) := by decide +kernel
theorem d_La_law_471 : decode code 471 = .ok (.iinc 3 6, 3) := by decide +kernel
theorem d_La_law_474 : decode code 474 = .ok (.goto (-456), 3) := by decide +kernel
theorem d_La_law_477 : decode code 477 = .ok (.iconst 1, 1) := by decide +kernel
theorem d_La_law_478 : decode code 478 = .ok (.ireturn, 1) := by decide +kernel
set_option maxRecDepth 100000 in
set_option maxHeartbeats 4000000 in
/-- behind the call: the script is at its end -/
theorem law_end {p : Program} {l : Launch} {e : Env} {s : State} {m : MethodId} {below : List Frame} {meth : Method} {c : Code} {G : va_G} {k : Nat → ClassId} {b : Nat} {xs : Nat → Int32} {A : Nat → Prop} (C : Cx p s m #[Value.ref b] meth c code "PotentialBenchLaw" 4 ret meth.name) (K : Kn G k s) (hX : va_X b 6 xs s s.heap) (hbl : b < s.heap.size) (hA : ∀ q, s.heap.size ≤ q → A q) (hA2 : ∀ q, A q → s.heap.size ≤ q) {H : Heap} {locs : List Loc} {cells slots : Nat} (hc : cells ≤ 600000) (hs : slots ≤ 7302250) {ws : va_W} (S : Sw G A s.heap H locs ws) {r2 r1 : Nat} (ls : Array Slot) (hl : lv_has ls 4 [(3, .int 0), (2, .ref r2), (1, .ref r1), (0, .ref b)]) : W p l e room_1 s m #[Value.ref b] below meth c H locs cells slots (lw_Z below #[Value.ref b] s) (F0 m 471 ls []) := by
  have hx := C.1
  have hb := C.2.1
  have hbA : ¬ A b := fun h => absurd (hA2 b h) (Nat.not_le.mpr hbl)
  refine lv_iinc (v := 6) (lv' := [(3, .int 6), (2, .ref r2), (1, .ref r1), (0, .ref b)]) hx hb d_La_law_471 hl (k := 0) rfl (by decide) (by decide) rfl (fun ls hl => ?_)
  refine lv_goto (tgt := 18) hx hb d_La_law_474 (by decide) ?_
  refine lv_iload_n hx hb d_La_law_18 rfl (lv_at hl 0 rfl) ?_
  refine lv_aload_n hx hb d_La_law_19 rfl (lv_at hl 3 rfl) ?_
  refine va_slen hx hb hX hbl hbA S.2.2 d_La_law_20 ?_
  refine lv_bipush (v := 6) hx hb d_La_law_21 (by decide) ?_
  refine lv_isub hx hb d_La_law_23 ?_
  refine lv_icmp_gt (tgt := 477) hx hb d_La_law_24 (by decide) (fun _ => ?_) (fun hq => absurd (by decide) hq)
  refine lv_iconst (v := 1) hx hb d_La_law_477 (by decide) ?_
  refine va_forget (fun q hq => hA2 _ (S.2.2.2.2 q hq)) ?_
  refine W.widen (k := 600000) (n := 7302250) hc hs ?_
  exact lw_ret hx hb C.2.2.2.2.2.1 C.2.2.2.2.2.2.1 d_La_law_478
set_option maxRecDepth 100000 in
set_option maxHeartbeats 4000000 in
theorem law_c0 {p : Program} {l : Launch} {e : Env} {s : State} {m : MethodId} {below : List Frame} {meth : Method} {c : Code} {G : va_G} {k : Nat → ClassId} {b : Nat} {xs : Nat → Int32} {A : Nat → Prop} (C : Cx p s m #[Value.ref b] meth c code "PotentialBenchLaw" 4 ret meth.name) (K : Kn G k s) (hX : va_X b 6 xs s s.heap) (hbl : b < s.heap.size) (hA : ∀ q, s.heap.size ≤ q → A q) (hA2 : ∀ q, A q → s.heap.size ≤ q) {H : Heap} {locs : List Loc} {pb mo : Nat} {u v : Nat → Nat} (S : Sw G A s.heap H locs [(pb, .inr (0, [.ref (u 0), .ref (u 29), .ref (u 30), .ref (u 35), .ref (u 43), .ref (u 59), .int 0, .int (-2), .int 0])), ((u 0), .inl (k 3, 4, .inr (.inr (.inr (.inr (va_up (va_up (va_up (va_up (fun _ => none) 0 (some (u 1))) 1 (some (u 8))) 2 (some (u 15))) 3 (some (u 22)))))))), ((u 1), .inr (4, [.ref (u 2), .ref (u 3), .ref (u 4), .ref (u 5), .ref (u 6), .ref (u 7), .int 0, .int 0, .int 0])), ((u 30), .inr (6, [.ref (u 0), .ref (u 31), .ref (u 32), .ref (u 33), .ref (u 34), .int 0, .int 0, .int 0, .int 0, .int 0, .long 0, .int (-2)])), ((u 59), .inr (3, [.ref (u 60), .ref (u 61), .ref (u 63), .ref (u 65), .ref (u 67), .ref (u 69), .int 0, .int 0])), (mo, .inr (8, [.int 0, .ref (v 0), .ref (v 1), .ref (v 2), .int (-2), .ref (v 3), .ref (v 4), .ref (v 5), .ref (v 6), .int 0, .long 0, .int (-2), .int 0, .ref (v 7), .ref (v 8), .ref (v 9), .ref (v 10), .ref (v 11), .int 0, .ref (v 12), .int 0, .int 0, .int 0, .int 0, .int 0, .int 0, .int 0, .ref (v 13), .int 0, .int 0, .int 0, .int 0, .ref (v 14), .ref (v 15), .int 0, .ref (v 16), .ref (v 17), .ref (v 18), .ref (v 19), .ref (v 20), .int 0, .ref (v 21), .ref (v 22), .ref (v 23), .ref (v 24), .ref (v 25), .ref (v 26), .ref (v 27), .int 0, .int 0, .int 0, .int 0, .int 0, .int 0, .int 0, .ref (v 28), .ref (v 29), .int 0, .int 0, .int 0, .int 0])), ((v 0), .inl (k 0, 4, .inl (fun _ => 0))), ((v 2), .inl (k 0, 4, .inl (fun _ => 0)))]) (ls : Array Slot) (hl : lv_has ls 4 [(3, .int 0), (2, .ref mo), (1, .ref pb), (0, .ref b)]) : W p l e room_1 s m #[Value.ref b] below meth c H locs 541 404588 (lw_Z below #[Value.ref b] s) (F0 m 100 ls []) := by
  have hx := C.1
  have hb := C.2.1
  have hbA : ¬ A b := fun h => absurd (hA2 b h) (Nat.not_le.mpr hbl)
  refine lv_aload_n hx hb d_La_law_100 rfl (lv_at hl 2 rfl) ?_
  refine lv_aload_n hx hb d_La_law_101 rfl (lv_at hl 3 rfl) ?_
  refine lv_iload_n hx hb d_La_law_102 rfl (lv_at hl 0 rfl) ?_
  refine lv_iconst (v := 1) hx hb d_La_law_103 (by decide) ?_
  refine lv_iadd hx hb d_La_law_104 ?_
  rw [show (0 : Int32) + 1 = 1 from by decide]
  refine va_sld hx hb hX hbl hbA S.2.2 (i := 1) (by unfold vp_in; decide) d_La_law_105 ?_
  refine r_backi (wi := [(pb, .inr (0, [.ref (u 0), .ref (u 29), .ref (u 30), .ref (u 35), .ref (u 43), .ref (u 59), .int 0, .int (-2), .int 0])), ((u 0), .inl (k 3, 4, .inr (.inr (.inr (.inr (va_up (va_up (va_up (va_up (fun _ => none) 0 (some (u 1))) 1 (some (u 8))) 2 (some (u 15))) 3 (some (u 22)))))))), ((u 1), .inr (4, [.ref (u 2), .ref (u 3), .ref (u 4), .ref (u 5), .ref (u 6), .ref (u 7), .int 0, .int 0, .int 0]))]) (wr := [((u 30), .inr (6, [.ref (u 0), .ref (u 31), .ref (u 32), .ref (u 33), .ref (u 34), .int 0, .int 0, .int 0, .int 0, .int 0, .long 0, .int (-2)])), ((u 59), .inr (3, [.ref (u 60), .ref (u 61), .ref (u 63), .ref (u 65), .ref (u 67), .ref (u 69), .int 0, .int 0])), (mo, .inr (8, [.int 0, .ref (v 0), .ref (v 1), .ref (v 2), .int (-2), .ref (v 3), .ref (v 4), .ref (v 5), .ref (v 6), .int 0, .long 0, .int (-2), .int 0, .ref (v 7), .ref (v 8), .ref (v 9), .ref (v 10), .ref (v 11), .int 0, .ref (v 12), .int 0, .int 0, .int 0, .int 0, .int 0, .int 0, .int 0, .ref (v 13), .int 0, .int 0, .int 0, .int 0, .ref (v 14), .ref (v 15), .int 0, .ref (v 16), .ref (v 17), .ref (v 18), .ref (v 19), .ref (v 20), .int 0, .ref (v 21), .ref (v 22), .ref (v 23), .ref (v 24), .ref (v 25), .ref (v 26), .ref (v 27), .int 0, .int 0, .int 0, .int 0, .int 0, .int 0, .int 0, .ref (v 28), .ref (v 29), .int 0, .int 0, .int 0, .int 0])), ((v 0), .inl (k 0, 4, .inl (fun _ => 0))), ((v 2), .inl (k 0, 4, .inl (fun _ => 0)))]) S hA [0, 1, 2] [3, 4, 5, 6, 7] rfl rfl (by decide) (by decide) (va_runV (As := [.int (xs (Int32.toNatClampNeg 1))]) (rest := []) ⟨hx, hb, C.2.2.1, C.2.2.2.1, C.2.2.2.2.1⟩ (f_PB_function l G k pb _ (u 0) (u 29) (u 30) (u 35) (u 43) (u 59) (u 1) (u 2) (u 3) (u 4) (u 5) (u 6) (u 7) (va_up (va_up (va_up (va_up (fun _ => none) 0 (some (u 1))) 1 (some (u 8))) 2 (some (u 15))) 3 (some (u 22))) rfl (xs (Int32.toNatClampNeg 1))) (k_virt (n := 1) C wc_PB_function rfl rfl wz_PB wm_La_13 wn_PB_function ws_PB_function (by decide +kernel) ⟨(Nat.le_of_ble_eq_true rfl), (Nat.le_of_ble_eq_true rfl)⟩) (pr_nowV K S [0, 1, 2] (by decide) rfl 0 rfl rfl) rfl rfl hl.1 rfl (lv_room (Nat.le_of_ble_eq_true rfl)) d_La_law_106 ⟨(Nat.le_of_ble_eq_true rfl), (Nat.le_of_ble_eq_true rfl)⟩) (fun r4 u2 H locs hw3 S => ?_)
  have S : Sw G A s.heap _ _ [((u 30), .inr (6, [.ref (u 0), .ref (u 31), .ref (u 32), .ref (u 33), .ref (u 34), .int 0, .int 0, .int 0, .int 0, .int 0, .long 0, .int (-2)])), ((u 59), .inr (3, [.ref (u 60), .ref (u 61), .ref (u 63), .ref (u 65), .ref (u 67), .ref (u 69), .int 0, .int 0])), (mo, .inr (8, [.int 0, .ref (v 0), .ref (v 1), .ref (v 2), .int (-2), .ref (v 3), .ref (v 4), .ref (v 5), .ref (v 6), .int 0, .long 0, .int (-2), .int 0, .ref (v 7), .ref (v 8), .ref (v 9), .ref (v 10), .ref (v 11), .int 0, .ref (v 12), .int 0, .int 0, .int 0, .int 0, .int 0, .int 0, .int 0, .ref (v 13), .int 0, .int 0, .int 0, .int 0, .ref (v 14), .ref (v 15), .int 0, .ref (v 16), .ref (v 17), .ref (v 18), .ref (v 19), .ref (v 20), .int 0, .ref (v 21), .ref (v 22), .ref (v 23), .ref (v 24), .ref (v 25), .ref (v 26), .ref (v 27), .int 0, .int 0, .int 0, .int 0, .int 0, .int 0, .int 0, .ref (v 28), .ref (v 29), .int 0, .int 0, .int 0, .int 0])), ((v 0), .inl (k 0, 4, .inl (fun _ => 0))), ((v 2), .inl (k 0, 4, .inl (fun _ => 0)))] := S
  refine lv_aload_n hx hb d_La_law_109 rfl (lv_at hl 1 rfl) ?_
  refine lv_aload_n hx hb d_La_law_110 rfl (lv_at hl 3 rfl) ?_
  refine lv_iload_n hx hb d_La_law_111 rfl (lv_at hl 0 rfl) ?_
  refine lv_iconst (v := 1) hx hb d_La_law_112 (by decide) ?_
  refine lv_iadd hx hb d_La_law_113 ?_
  rw [show (0 : Int32) + 1 = 1 from by decide]
  refine va_sld hx hb hX hbl hbA S.2.2 (i := 1) (by unfold vp_in; decide) d_La_law_114 ?_
  refine r_backi (wi := [(mo, .inr (8, [.int 0, .ref (v 0), .ref (v 1), .ref (v 2), .int (-2), .ref (v 3), .ref (v 4), .ref (v 5), .ref (v 6), .int 0, .long 0, .int (-2), .int 0, .ref (v 7), .ref (v 8), .ref (v 9), .ref (v 10), .ref (v 11), .int 0, .ref (v 12), .int 0, .int 0, .int 0, .int 0, .int 0, .int 0, .int 0, .ref (v 13), .int 0, .int 0, .int 0, .int 0, .ref (v 14), .ref (v 15), .int 0, .ref (v 16), .ref (v 17), .ref (v 18), .ref (v 19), .ref (v 20), .int 0, .ref (v 21), .ref (v 22), .ref (v 23), .ref (v 24), .ref (v 25), .ref (v 26), .ref (v 27), .int 0, .int 0, .int 0, .int 0, .int 0, .int 0, .int 0, .ref (v 28), .ref (v 29), .int 0, .int 0, .int 0, .int 0])), ((v 0), .inl (k 0, 4, .inl (fun _ => 0))), ((v 2), .inl (k 0, 4, .inl (fun _ => 0)))]) (wr := [((u 30), .inr (6, [.ref (u 0), .ref (u 31), .ref (u 32), .ref (u 33), .ref (u 34), .int 0, .int 0, .int 0, .int 0, .int 0, .long 0, .int (-2)])), ((u 59), .inr (3, [.ref (u 60), .ref (u 61), .ref (u 63), .ref (u 65), .ref (u 67), .ref (u 69), .int 0, .int 0]))]) S hA [2, 3, 4] [0, 1] rfl rfl (by decide) (by decide) (va_runV (As := [.int (xs (Int32.toNatClampNeg 1))]) (rest := [.int r4]) ⟨hx, hb, C.2.2.1, C.2.2.2.1, C.2.2.2.2.1⟩ (f_Mo_function l G k mo _ v (xs (Int32.toNatClampNeg 1))) (k_virt (n := 1) C wc_Mo_function rfl rfl wz_Mo wm_La_17 wn_Mo_function ws_Mo_function (by decide +kernel) ⟨(Nat.le_of_ble_eq_true rfl), (Nat.le_of_ble_eq_true rfl)⟩) (pr_nowV K S [2, 3, 4] (by decide) rfl 2 rfl rfl) rfl rfl hl.1 rfl (lv_room (Nat.le_of_ble_eq_true rfl)) d_La_law_115 ⟨(Nat.le_of_ble_eq_true rfl), (Nat.le_of_ble_eq_true rfl)⟩) (fun r8 u6 H locs hw7 S => ?_)
  have S : Sw G A s.heap _ _ [((u 30), .inr (6, [.ref (u 0), .ref (u 31), .ref (u 32), .ref (u 33), .ref (u 34), .int 0, .int 0, .int 0, .int 0, .int 0, .long 0, .int (-2)])), ((u 59), .inr (3, [.ref (u 60), .ref (u 61), .ref (u 63), .ref (u 65), .ref (u 67), .ref (u 69), .int 0, .int 0]))] := S
  refine lv_icmp_eq (tgt := 471) hx hb d_La_law_118 (by decide) (fun _ => ?_) (fun hq => absurd (hw3.trans hw7.symm) hq)
  exact law_end C K hX hbl hA hA2 (Nat.le_of_ble_eq_true rfl) (Nat.le_of_ble_eq_true rfl) S ls hl
set_option maxRecDepth 100000 in
set_option maxHeartbeats 4000000 in
theorem law_c1 {p : Program} {l : Launch} {e : Env} {s : State} {m : MethodId} {below : List Frame} {meth : Method} {c : Code} {G : va_G} {k : Nat → ClassId} {b : Nat} {xs : Nat → Int32} {A : Nat → Prop} (C : Cx p s m #[Value.ref b] meth c code "PotentialBenchLaw" 4 ret meth.name) (K : Kn G k s) (hX : va_X b 6 xs s s.heap) (hbl : b < s.heap.size) (hA : ∀ q, s.heap.size ≤ q → A q) (hA2 : ∀ q, A q → s.heap.size ≤ q) {H : Heap} {locs : List Loc} {pb mo : Nat} {u v : Nat → Nat} (S : Sw G A s.heap H locs [(pb, .inr (0, [.ref (u 0), .ref (u 29), .ref (u 30), .ref (u 35), .ref (u 43), .ref (u 59), .int 0, .int (-2), .int 0])), ((u 0), .inl (k 3, 4, .inr (.inr (.inr (.inr (va_up (va_up (va_up (va_up (fun _ => none) 0 (some (u 1))) 1 (some (u 8))) 2 (some (u 15))) 3 (some (u 22)))))))), ((u 1), .inr (4, [.ref (u 2), .ref (u 3), .ref (u 4), .ref (u 5), .ref (u 6), .ref (u 7), .int 0, .int 0, .int 0])), ((u 30), .inr (6, [.ref (u 0), .ref (u 31), .ref (u 32), .ref (u 33), .ref (u 34), .int 0, .int 0, .int 0, .int 0, .int 0, .long 0, .int (-2)])), ((u 59), .inr (3, [.ref (u 60), .ref (u 61), .ref (u 63), .ref (u 65), .ref (u 67), .ref (u 69), .int 0, .int 0])), (mo, .inr (8, [.int 0, .ref (v 0), .ref (v 1), .ref (v 2), .int (-2), .ref (v 3), .ref (v 4), .ref (v 5), .ref (v 6), .int 0, .long 0, .int (-2), .int 0, .ref (v 7), .ref (v 8), .ref (v 9), .ref (v 10), .ref (v 11), .int 0, .ref (v 12), .int 0, .int 0, .int 0, .int 0, .int 0, .int 0, .int 0, .ref (v 13), .int 0, .int 0, .int 0, .int 0, .ref (v 14), .ref (v 15), .int 0, .ref (v 16), .ref (v 17), .ref (v 18), .ref (v 19), .ref (v 20), .int 0, .ref (v 21), .ref (v 22), .ref (v 23), .ref (v 24), .ref (v 25), .ref (v 26), .ref (v 27), .int 0, .int 0, .int 0, .int 0, .int 0, .int 0, .int 0, .ref (v 28), .ref (v 29), .int 0, .int 0, .int 0, .int 0])), ((v 0), .inl (k 0, 4, .inl (fun _ => 0))), ((v 2), .inl (k 0, 4, .inl (fun _ => 0)))]) (ls : Array Slot) (hl : lv_has ls 4 [(3, .int 0), (2, .ref mo), (1, .ref pb), (0, .ref b)]) : W p l e room_1 s m #[Value.ref b] below meth c H locs 541 404588 (lw_Z below #[Value.ref b] s) (F0 m 123 ls []) := by
  have hx := C.1
  have hb := C.2.1
  have hbA : ¬ A b := fun h => absurd (hA2 b h) (Nat.not_le.mpr hbl)
  refine lv_aload_n hx hb d_La_law_123 rfl (lv_at hl 2 rfl) ?_
  refine lv_aload_n hx hb d_La_law_124 rfl (lv_at hl 3 rfl) ?_
  refine lv_iload_n hx hb d_La_law_125 rfl (lv_at hl 0 rfl) ?_
  refine lv_iconst (v := 1) hx hb d_La_law_126 (by decide) ?_
  refine lv_iadd hx hb d_La_law_127 ?_
  rw [show (0 : Int32) + 1 = 1 from by decide]
  refine va_sld hx hb hX hbl hbA S.2.2 (i := 1) (by unfold vp_in; decide) d_La_law_128 ?_
  refine lv_aload_n hx hb d_La_law_129 rfl (lv_at hl 3 rfl) ?_
  refine lv_iload_n hx hb d_La_law_130 rfl (lv_at hl 0 rfl) ?_
  refine lv_iconst (v := 2) hx hb d_La_law_131 (by decide) ?_
  refine lv_iadd hx hb d_La_law_132 ?_
  rw [show (0 : Int32) + 2 = 2 from by decide]
  refine va_sld hx hb hX hbl hbA S.2.2 (i := 2) (by unfold vp_in; decide) d_La_law_133 ?_
  refine r_backi (wi := [(pb, .inr (0, [.ref (u 0), .ref (u 29), .ref (u 30), .ref (u 35), .ref (u 43), .ref (u 59), .int 0, .int (-2), .int 0]))]) (wr := [((u 0), .inl (k 3, 4, .inr (.inr (.inr (.inr (va_up (va_up (va_up (va_up (fun _ => none) 0 (some (u 1))) 1 (some (u 8))) 2 (some (u 15))) 3 (some (u 22)))))))), ((u 1), .inr (4, [.ref (u 2), .ref (u 3), .ref (u 4), .ref (u 5), .ref (u 6), .ref (u 7), .int 0, .int 0, .int 0])), ((u 30), .inr (6, [.ref (u 0), .ref (u 31), .ref (u 32), .ref (u 33), .ref (u 34), .int 0, .int 0, .int 0, .int 0, .int 0, .long 0, .int (-2)])), ((u 59), .inr (3, [.ref (u 60), .ref (u 61), .ref (u 63), .ref (u 65), .ref (u 67), .ref (u 69), .int 0, .int 0])), (mo, .inr (8, [.int 0, .ref (v 0), .ref (v 1), .ref (v 2), .int (-2), .ref (v 3), .ref (v 4), .ref (v 5), .ref (v 6), .int 0, .long 0, .int (-2), .int 0, .ref (v 7), .ref (v 8), .ref (v 9), .ref (v 10), .ref (v 11), .int 0, .ref (v 12), .int 0, .int 0, .int 0, .int 0, .int 0, .int 0, .int 0, .ref (v 13), .int 0, .int 0, .int 0, .int 0, .ref (v 14), .ref (v 15), .int 0, .ref (v 16), .ref (v 17), .ref (v 18), .ref (v 19), .ref (v 20), .int 0, .ref (v 21), .ref (v 22), .ref (v 23), .ref (v 24), .ref (v 25), .ref (v 26), .ref (v 27), .int 0, .int 0, .int 0, .int 0, .int 0, .int 0, .int 0, .ref (v 28), .ref (v 29), .int 0, .int 0, .int 0, .int 0])), ((v 0), .inl (k 0, 4, .inl (fun _ => 0))), ((v 2), .inl (k 0, 4, .inl (fun _ => 0)))]) S hA [0] [1, 2, 3, 4, 5, 6, 7] rfl rfl (by decide) (by decide) (va_runV (As := [.int (xs (Int32.toNatClampNeg 1)), .int (xs (Int32.toNatClampNeg 2))]) (rest := []) ⟨hx, hb, C.2.2.1, C.2.2.2.1, C.2.2.2.2.1⟩ (f_PB_word l G k pb _ (u 0) (u 29) (u 30) (u 35) (u 43) (u 59) (xs (Int32.toNatClampNeg 1)) (xs (Int32.toNatClampNeg 2))) (k_virt (n := 2) C wc_PB_word rfl rfl wz_PB wm_La_18 wn_PB_word ws_PB_word (by decide +kernel) ⟨(Nat.le_of_ble_eq_true rfl), (Nat.le_of_ble_eq_true rfl)⟩) (pr_nowV K S [0] (by decide) rfl 0 rfl rfl) rfl rfl hl.1 rfl (lv_room (Nat.le_of_ble_eq_true rfl)) d_La_law_134 ⟨(Nat.le_of_ble_eq_true rfl), (Nat.le_of_ble_eq_true rfl)⟩) (fun r5 u3 H locs hw4 S => ?_)
  have S : Sw G A s.heap _ _ [((u 0), .inl (k 3, 4, .inr (.inr (.inr (.inr (va_up (va_up (va_up (va_up (fun _ => none) 0 (some (u 1))) 1 (some (u 8))) 2 (some (u 15))) 3 (some (u 22)))))))), ((u 1), .inr (4, [.ref (u 2), .ref (u 3), .ref (u 4), .ref (u 5), .ref (u 6), .ref (u 7), .int 0, .int 0, .int 0])), ((u 30), .inr (6, [.ref (u 0), .ref (u 31), .ref (u 32), .ref (u 33), .ref (u 34), .int 0, .int 0, .int 0, .int 0, .int 0, .long 0, .int (-2)])), ((u 59), .inr (3, [.ref (u 60), .ref (u 61), .ref (u 63), .ref (u 65), .ref (u 67), .ref (u 69), .int 0, .int 0])), (mo, .inr (8, [.int 0, .ref (v 0), .ref (v 1), .ref (v 2), .int (-2), .ref (v 3), .ref (v 4), .ref (v 5), .ref (v 6), .int 0, .long 0, .int (-2), .int 0, .ref (v 7), .ref (v 8), .ref (v 9), .ref (v 10), .ref (v 11), .int 0, .ref (v 12), .int 0, .int 0, .int 0, .int 0, .int 0, .int 0, .int 0, .ref (v 13), .int 0, .int 0, .int 0, .int 0, .ref (v 14), .ref (v 15), .int 0, .ref (v 16), .ref (v 17), .ref (v 18), .ref (v 19), .ref (v 20), .int 0, .ref (v 21), .ref (v 22), .ref (v 23), .ref (v 24), .ref (v 25), .ref (v 26), .ref (v 27), .int 0, .int 0, .int 0, .int 0, .int 0, .int 0, .int 0, .ref (v 28), .ref (v 29), .int 0, .int 0, .int 0, .int 0])), ((v 0), .inl (k 0, 4, .inl (fun _ => 0))), ((v 2), .inl (k 0, 4, .inl (fun _ => 0)))] := S
  have hw4 : r5 = (-1) := hw4
  subst hw4
  refine lv_aload_n hx hb d_La_law_137 rfl (lv_at hl 1 rfl) ?_
  refine lv_aload_n hx hb d_La_law_138 rfl (lv_at hl 3 rfl) ?_
  refine lv_iload_n hx hb d_La_law_139 rfl (lv_at hl 0 rfl) ?_
  refine lv_iconst (v := 1) hx hb d_La_law_140 (by decide) ?_
  refine lv_iadd hx hb d_La_law_141 ?_
  rw [show (0 : Int32) + 1 = 1 from by decide]
  refine va_sld hx hb hX hbl hbA S.2.2 (i := 1) (by unfold vp_in; decide) d_La_law_142 ?_
  refine lv_aload_n hx hb d_La_law_143 rfl (lv_at hl 3 rfl) ?_
  refine lv_iload_n hx hb d_La_law_144 rfl (lv_at hl 0 rfl) ?_
  refine lv_iconst (v := 2) hx hb d_La_law_145 (by decide) ?_
  refine lv_iadd hx hb d_La_law_146 ?_
  rw [show (0 : Int32) + 2 = 2 from by decide]
  refine va_sld hx hb hX hbl hbA S.2.2 (i := 2) (by unfold vp_in; decide) d_La_law_147 ?_
  refine r_backi (wi := [(mo, .inr (8, [.int 0, .ref (v 0), .ref (v 1), .ref (v 2), .int (-2), .ref (v 3), .ref (v 4), .ref (v 5), .ref (v 6), .int 0, .long 0, .int (-2), .int 0, .ref (v 7), .ref (v 8), .ref (v 9), .ref (v 10), .ref (v 11), .int 0, .ref (v 12), .int 0, .int 0, .int 0, .int 0, .int 0, .int 0, .int 0, .ref (v 13), .int 0, .int 0, .int 0, .int 0, .ref (v 14), .ref (v 15), .int 0, .ref (v 16), .ref (v 17), .ref (v 18), .ref (v 19), .ref (v 20), .int 0, .ref (v 21), .ref (v 22), .ref (v 23), .ref (v 24), .ref (v 25), .ref (v 26), .ref (v 27), .int 0, .int 0, .int 0, .int 0, .int 0, .int 0, .int 0, .ref (v 28), .ref (v 29), .int 0, .int 0, .int 0, .int 0]))]) (wr := [((u 0), .inl (k 3, 4, .inr (.inr (.inr (.inr (va_up (va_up (va_up (va_up (fun _ => none) 0 (some (u 1))) 1 (some (u 8))) 2 (some (u 15))) 3 (some (u 22)))))))), ((u 1), .inr (4, [.ref (u 2), .ref (u 3), .ref (u 4), .ref (u 5), .ref (u 6), .ref (u 7), .int 0, .int 0, .int 0])), ((u 30), .inr (6, [.ref (u 0), .ref (u 31), .ref (u 32), .ref (u 33), .ref (u 34), .int 0, .int 0, .int 0, .int 0, .int 0, .long 0, .int (-2)])), ((u 59), .inr (3, [.ref (u 60), .ref (u 61), .ref (u 63), .ref (u 65), .ref (u 67), .ref (u 69), .int 0, .int 0])), ((v 0), .inl (k 0, 4, .inl (fun _ => 0))), ((v 2), .inl (k 0, 4, .inl (fun _ => 0)))]) S hA [4] [0, 1, 2, 3, 5, 6] rfl rfl (by decide) (by decide) (va_runV (As := [.int (xs (Int32.toNatClampNeg 1)), .int (xs (Int32.toNatClampNeg 2))]) (rest := [.int (-1)]) ⟨hx, hb, C.2.2.1, C.2.2.2.1, C.2.2.2.2.1⟩ (f_Mo_word l G k mo _ v (xs (Int32.toNatClampNeg 1)) (xs (Int32.toNatClampNeg 2))) (k_virt (n := 2) C wc_Mo_word rfl rfl wz_Mo wm_La_22 wn_Mo_word ws_Mo_word (by decide +kernel) ⟨(Nat.le_of_ble_eq_true rfl), (Nat.le_of_ble_eq_true rfl)⟩) (pr_nowV K S [4] (by decide) rfl 4 rfl rfl) rfl rfl hl.1 rfl (lv_room (Nat.le_of_ble_eq_true rfl)) d_La_law_148 ⟨(Nat.le_of_ble_eq_true rfl), (Nat.le_of_ble_eq_true rfl)⟩) (fun r10 u8 H locs hw9 S => ?_)
  have S : Sw G A s.heap _ _ [((u 0), .inl (k 3, 4, .inr (.inr (.inr (.inr (va_up (va_up (va_up (va_up (fun _ => none) 0 (some (u 1))) 1 (some (u 8))) 2 (some (u 15))) 3 (some (u 22)))))))), ((u 1), .inr (4, [.ref (u 2), .ref (u 3), .ref (u 4), .ref (u 5), .ref (u 6), .ref (u 7), .int 0, .int 0, .int 0])), ((u 30), .inr (6, [.ref (u 0), .ref (u 31), .ref (u 32), .ref (u 33), .ref (u 34), .int 0, .int 0, .int 0, .int 0, .int 0, .long 0, .int (-2)])), ((u 59), .inr (3, [.ref (u 60), .ref (u 61), .ref (u 63), .ref (u 65), .ref (u 67), .ref (u 69), .int 0, .int 0])), ((v 0), .inl (k 0, 4, .inl (fun _ => 0))), ((v 2), .inl (k 0, 4, .inl (fun _ => 0)))] := S
  have hw9 : r10 = (-1) := hw9
  subst hw9
  refine lv_icmp_eq (tgt := 471) hx hb d_La_law_151 (by decide) (fun _ => ?_) (fun hq => absurd (by decide) hq)
  exact law_end C K hX hbl hA hA2 (Nat.le_of_ble_eq_true rfl) (Nat.le_of_ble_eq_true rfl) S ls hl
set_option maxRecDepth 100000 in
set_option maxHeartbeats 4000000 in
theorem law_c2 {p : Program} {l : Launch} {e : Env} {s : State} {m : MethodId} {below : List Frame} {meth : Method} {c : Code} {G : va_G} {k : Nat → ClassId} {b : Nat} {xs : Nat → Int32} {A : Nat → Prop} (C : Cx p s m #[Value.ref b] meth c code "PotentialBenchLaw" 4 ret meth.name) (K : Kn G k s) (hX : va_X b 6 xs s s.heap) (hbl : b < s.heap.size) (hA : ∀ q, s.heap.size ≤ q → A q) (hA2 : ∀ q, A q → s.heap.size ≤ q) {H : Heap} {locs : List Loc} {pb mo : Nat} {u v : Nat → Nat} (S : Sw G A s.heap H locs [(pb, .inr (0, [.ref (u 0), .ref (u 29), .ref (u 30), .ref (u 35), .ref (u 43), .ref (u 59), .int 0, .int (-2), .int 0])), ((u 0), .inl (k 3, 4, .inr (.inr (.inr (.inr (va_up (va_up (va_up (va_up (fun _ => none) 0 (some (u 1))) 1 (some (u 8))) 2 (some (u 15))) 3 (some (u 22)))))))), ((u 1), .inr (4, [.ref (u 2), .ref (u 3), .ref (u 4), .ref (u 5), .ref (u 6), .ref (u 7), .int 0, .int 0, .int 0])), ((u 30), .inr (6, [.ref (u 0), .ref (u 31), .ref (u 32), .ref (u 33), .ref (u 34), .int 0, .int 0, .int 0, .int 0, .int 0, .long 0, .int (-2)])), ((u 59), .inr (3, [.ref (u 60), .ref (u 61), .ref (u 63), .ref (u 65), .ref (u 67), .ref (u 69), .int 0, .int 0])), (mo, .inr (8, [.int 0, .ref (v 0), .ref (v 1), .ref (v 2), .int (-2), .ref (v 3), .ref (v 4), .ref (v 5), .ref (v 6), .int 0, .long 0, .int (-2), .int 0, .ref (v 7), .ref (v 8), .ref (v 9), .ref (v 10), .ref (v 11), .int 0, .ref (v 12), .int 0, .int 0, .int 0, .int 0, .int 0, .int 0, .int 0, .ref (v 13), .int 0, .int 0, .int 0, .int 0, .ref (v 14), .ref (v 15), .int 0, .ref (v 16), .ref (v 17), .ref (v 18), .ref (v 19), .ref (v 20), .int 0, .ref (v 21), .ref (v 22), .ref (v 23), .ref (v 24), .ref (v 25), .ref (v 26), .ref (v 27), .int 0, .int 0, .int 0, .int 0, .int 0, .int 0, .int 0, .ref (v 28), .ref (v 29), .int 0, .int 0, .int 0, .int 0])), ((v 0), .inl (k 0, 4, .inl (fun _ => 0))), ((v 2), .inl (k 0, 4, .inl (fun _ => 0)))]) (ls : Array Slot) (hl : lv_has ls 4 [(3, .int 0), (2, .ref mo), (1, .ref pb), (0, .ref b)]) : W p l e room_1 s m #[Value.ref b] below meth c H locs 541 404588 (lw_Z below #[Value.ref b] s) (F0 m 156 ls []) := by
  have hx := C.1
  have hb := C.2.1
  have hbA : ¬ A b := fun h => absurd (hA2 b h) (Nat.not_le.mpr hbl)
  refine lv_aload_n hx hb d_La_law_156 rfl (lv_at hl 2 rfl) ?_
  refine lv_aload_n hx hb d_La_law_157 rfl (lv_at hl 3 rfl) ?_
  refine lv_iload_n hx hb d_La_law_158 rfl (lv_at hl 0 rfl) ?_
  refine lv_iconst (v := 1) hx hb d_La_law_159 (by decide) ?_
  refine lv_iadd hx hb d_La_law_160 ?_
  rw [show (0 : Int32) + 1 = 1 from by decide]
  refine va_sld hx hb hX hbl hbA S.2.2 (i := 1) (by unfold vp_in; decide) d_La_law_161 ?_
  refine lv_aload_n hx hb d_La_law_162 rfl (lv_at hl 3 rfl) ?_
  refine lv_iload_n hx hb d_La_law_163 rfl (lv_at hl 0 rfl) ?_
  refine lv_iconst (v := 2) hx hb d_La_law_164 (by decide) ?_
  refine lv_iadd hx hb d_La_law_165 ?_
  rw [show (0 : Int32) + 2 = 2 from by decide]
  refine va_sld hx hb hX hbl hbA S.2.2 (i := 2) (by unfold vp_in; decide) d_La_law_166 ?_
  refine r_backi (wi := [(pb, .inr (0, [.ref (u 0), .ref (u 29), .ref (u 30), .ref (u 35), .ref (u 43), .ref (u 59), .int 0, .int (-2), .int 0]))]) (wr := [((u 0), .inl (k 3, 4, .inr (.inr (.inr (.inr (va_up (va_up (va_up (va_up (fun _ => none) 0 (some (u 1))) 1 (some (u 8))) 2 (some (u 15))) 3 (some (u 22)))))))), ((u 1), .inr (4, [.ref (u 2), .ref (u 3), .ref (u 4), .ref (u 5), .ref (u 6), .ref (u 7), .int 0, .int 0, .int 0])), ((u 30), .inr (6, [.ref (u 0), .ref (u 31), .ref (u 32), .ref (u 33), .ref (u 34), .int 0, .int 0, .int 0, .int 0, .int 0, .long 0, .int (-2)])), ((u 59), .inr (3, [.ref (u 60), .ref (u 61), .ref (u 63), .ref (u 65), .ref (u 67), .ref (u 69), .int 0, .int 0])), (mo, .inr (8, [.int 0, .ref (v 0), .ref (v 1), .ref (v 2), .int (-2), .ref (v 3), .ref (v 4), .ref (v 5), .ref (v 6), .int 0, .long 0, .int (-2), .int 0, .ref (v 7), .ref (v 8), .ref (v 9), .ref (v 10), .ref (v 11), .int 0, .ref (v 12), .int 0, .int 0, .int 0, .int 0, .int 0, .int 0, .int 0, .ref (v 13), .int 0, .int 0, .int 0, .int 0, .ref (v 14), .ref (v 15), .int 0, .ref (v 16), .ref (v 17), .ref (v 18), .ref (v 19), .ref (v 20), .int 0, .ref (v 21), .ref (v 22), .ref (v 23), .ref (v 24), .ref (v 25), .ref (v 26), .ref (v 27), .int 0, .int 0, .int 0, .int 0, .int 0, .int 0, .int 0, .ref (v 28), .ref (v 29), .int 0, .int 0, .int 0, .int 0])), ((v 0), .inl (k 0, 4, .inl (fun _ => 0))), ((v 2), .inl (k 0, 4, .inl (fun _ => 0)))]) S hA [0] [1, 2, 3, 4, 5, 6, 7] rfl rfl (by decide) (by decide) (va_runV (As := [.int (xs (Int32.toNatClampNeg 1)), .int (xs (Int32.toNatClampNeg 2))]) (rest := []) ⟨hx, hb, C.2.2.1, C.2.2.2.1, C.2.2.2.2.1⟩ (f_PB_cut l G k pb _ (u 0) (u 29) (u 30) (u 35) (u 43) (u 59) (xs (Int32.toNatClampNeg 1)) (xs (Int32.toNatClampNeg 2))) (k_virt (n := 2) C wc_PB_cut rfl rfl wz_PB wm_La_23 wn_PB_cut ws_PB_cut (by decide +kernel) ⟨(Nat.le_of_ble_eq_true rfl), (Nat.le_of_ble_eq_true rfl)⟩) (pr_nowV K S [0] (by decide) rfl 0 rfl rfl) rfl rfl hl.1 rfl (lv_room (Nat.le_of_ble_eq_true rfl)) d_La_law_167 ⟨(Nat.le_of_ble_eq_true rfl), (Nat.le_of_ble_eq_true rfl)⟩) (fun r5 u3 H locs hw4 S => ?_)
  have S : Sw G A s.heap _ _ [((u 0), .inl (k 3, 4, .inr (.inr (.inr (.inr (va_up (va_up (va_up (va_up (fun _ => none) 0 (some (u 1))) 1 (some (u 8))) 2 (some (u 15))) 3 (some (u 22)))))))), ((u 1), .inr (4, [.ref (u 2), .ref (u 3), .ref (u 4), .ref (u 5), .ref (u 6), .ref (u 7), .int 0, .int 0, .int 0])), ((u 30), .inr (6, [.ref (u 0), .ref (u 31), .ref (u 32), .ref (u 33), .ref (u 34), .int 0, .int 0, .int 0, .int 0, .int 0, .long 0, .int (-2)])), ((u 59), .inr (3, [.ref (u 60), .ref (u 61), .ref (u 63), .ref (u 65), .ref (u 67), .ref (u 69), .int 0, .int 0])), (mo, .inr (8, [.int 0, .ref (v 0), .ref (v 1), .ref (v 2), .int (-2), .ref (v 3), .ref (v 4), .ref (v 5), .ref (v 6), .int 0, .long 0, .int (-2), .int 0, .ref (v 7), .ref (v 8), .ref (v 9), .ref (v 10), .ref (v 11), .int 0, .ref (v 12), .int 0, .int 0, .int 0, .int 0, .int 0, .int 0, .int 0, .ref (v 13), .int 0, .int 0, .int 0, .int 0, .ref (v 14), .ref (v 15), .int 0, .ref (v 16), .ref (v 17), .ref (v 18), .ref (v 19), .ref (v 20), .int 0, .ref (v 21), .ref (v 22), .ref (v 23), .ref (v 24), .ref (v 25), .ref (v 26), .ref (v 27), .int 0, .int 0, .int 0, .int 0, .int 0, .int 0, .int 0, .ref (v 28), .ref (v 29), .int 0, .int 0, .int 0, .int 0])), ((v 0), .inl (k 0, 4, .inl (fun _ => 0))), ((v 2), .inl (k 0, 4, .inl (fun _ => 0)))] := S
  have hw4 : r5 = 0 := hw4
  subst hw4
  refine lv_aload_n hx hb d_La_law_170 rfl (lv_at hl 1 rfl) ?_
  refine lv_aload_n hx hb d_La_law_171 rfl (lv_at hl 3 rfl) ?_
  refine lv_iload_n hx hb d_La_law_172 rfl (lv_at hl 0 rfl) ?_
  refine lv_iconst (v := 1) hx hb d_La_law_173 (by decide) ?_
  refine lv_iadd hx hb d_La_law_174 ?_
  rw [show (0 : Int32) + 1 = 1 from by decide]
  refine va_sld hx hb hX hbl hbA S.2.2 (i := 1) (by unfold vp_in; decide) d_La_law_175 ?_
  refine lv_aload_n hx hb d_La_law_176 rfl (lv_at hl 3 rfl) ?_
  refine lv_iload_n hx hb d_La_law_177 rfl (lv_at hl 0 rfl) ?_
  refine lv_iconst (v := 2) hx hb d_La_law_178 (by decide) ?_
  refine lv_iadd hx hb d_La_law_179 ?_
  rw [show (0 : Int32) + 2 = 2 from by decide]
  refine va_sld hx hb hX hbl hbA S.2.2 (i := 2) (by unfold vp_in; decide) d_La_law_180 ?_
  refine r_backi (wi := [(mo, .inr (8, [.int 0, .ref (v 0), .ref (v 1), .ref (v 2), .int (-2), .ref (v 3), .ref (v 4), .ref (v 5), .ref (v 6), .int 0, .long 0, .int (-2), .int 0, .ref (v 7), .ref (v 8), .ref (v 9), .ref (v 10), .ref (v 11), .int 0, .ref (v 12), .int 0, .int 0, .int 0, .int 0, .int 0, .int 0, .int 0, .ref (v 13), .int 0, .int 0, .int 0, .int 0, .ref (v 14), .ref (v 15), .int 0, .ref (v 16), .ref (v 17), .ref (v 18), .ref (v 19), .ref (v 20), .int 0, .ref (v 21), .ref (v 22), .ref (v 23), .ref (v 24), .ref (v 25), .ref (v 26), .ref (v 27), .int 0, .int 0, .int 0, .int 0, .int 0, .int 0, .int 0, .ref (v 28), .ref (v 29), .int 0, .int 0, .int 0, .int 0]))]) (wr := [((u 0), .inl (k 3, 4, .inr (.inr (.inr (.inr (va_up (va_up (va_up (va_up (fun _ => none) 0 (some (u 1))) 1 (some (u 8))) 2 (some (u 15))) 3 (some (u 22)))))))), ((u 1), .inr (4, [.ref (u 2), .ref (u 3), .ref (u 4), .ref (u 5), .ref (u 6), .ref (u 7), .int 0, .int 0, .int 0])), ((u 30), .inr (6, [.ref (u 0), .ref (u 31), .ref (u 32), .ref (u 33), .ref (u 34), .int 0, .int 0, .int 0, .int 0, .int 0, .long 0, .int (-2)])), ((u 59), .inr (3, [.ref (u 60), .ref (u 61), .ref (u 63), .ref (u 65), .ref (u 67), .ref (u 69), .int 0, .int 0])), ((v 0), .inl (k 0, 4, .inl (fun _ => 0))), ((v 2), .inl (k 0, 4, .inl (fun _ => 0)))]) S hA [4] [0, 1, 2, 3, 5, 6] rfl rfl (by decide) (by decide) (va_runV (As := [.int (xs (Int32.toNatClampNeg 1)), .int (xs (Int32.toNatClampNeg 2))]) (rest := [.int 0]) ⟨hx, hb, C.2.2.1, C.2.2.2.1, C.2.2.2.2.1⟩ (f_Mo_cut l G k mo _ v (xs (Int32.toNatClampNeg 1)) (xs (Int32.toNatClampNeg 2))) (k_virt (n := 2) C wc_Mo_cut rfl rfl wz_Mo wm_La_27 wn_Mo_cut ws_Mo_cut (by decide +kernel) ⟨(Nat.le_of_ble_eq_true rfl), (Nat.le_of_ble_eq_true rfl)⟩) (pr_nowV K S [4] (by decide) rfl 4 rfl rfl) rfl rfl hl.1 rfl (lv_room (Nat.le_of_ble_eq_true rfl)) d_La_law_181 ⟨(Nat.le_of_ble_eq_true rfl), (Nat.le_of_ble_eq_true rfl)⟩) (fun r10 u8 H locs hw9 S => ?_)
  have S : Sw G A s.heap _ _ [((u 0), .inl (k 3, 4, .inr (.inr (.inr (.inr (va_up (va_up (va_up (va_up (fun _ => none) 0 (some (u 1))) 1 (some (u 8))) 2 (some (u 15))) 3 (some (u 22)))))))), ((u 1), .inr (4, [.ref (u 2), .ref (u 3), .ref (u 4), .ref (u 5), .ref (u 6), .ref (u 7), .int 0, .int 0, .int 0])), ((u 30), .inr (6, [.ref (u 0), .ref (u 31), .ref (u 32), .ref (u 33), .ref (u 34), .int 0, .int 0, .int 0, .int 0, .int 0, .long 0, .int (-2)])), ((u 59), .inr (3, [.ref (u 60), .ref (u 61), .ref (u 63), .ref (u 65), .ref (u 67), .ref (u 69), .int 0, .int 0])), ((v 0), .inl (k 0, 4, .inl (fun _ => 0))), ((v 2), .inl (k 0, 4, .inl (fun _ => 0)))] := S
  have hw9 : r10 = 0 := hw9
  subst hw9
  refine lv_icmp_eq (tgt := 471) hx hb d_La_law_184 (by decide) (fun _ => ?_) (fun hq => absurd (by decide) hq)
  exact law_end C K hX hbl hA hA2 (Nat.le_of_ble_eq_true rfl) (Nat.le_of_ble_eq_true rfl) S ls hl
set_option maxRecDepth 100000 in
set_option maxHeartbeats 4000000 in
theorem law_c3 {p : Program} {l : Launch} {e : Env} {s : State} {m : MethodId} {below : List Frame} {meth : Method} {c : Code} {G : va_G} {k : Nat → ClassId} {b : Nat} {xs : Nat → Int32} {A : Nat → Prop} (C : Cx p s m #[Value.ref b] meth c code "PotentialBenchLaw" 4 ret meth.name) (K : Kn G k s) (hX : va_X b 6 xs s s.heap) (hbl : b < s.heap.size) (hA : ∀ q, s.heap.size ≤ q → A q) (hA2 : ∀ q, A q → s.heap.size ≤ q) {H : Heap} {locs : List Loc} {pb mo : Nat} {u v : Nat → Nat} (S : Sw G A s.heap H locs [(pb, .inr (0, [.ref (u 0), .ref (u 29), .ref (u 30), .ref (u 35), .ref (u 43), .ref (u 59), .int 0, .int (-2), .int 0])), ((u 0), .inl (k 3, 4, .inr (.inr (.inr (.inr (va_up (va_up (va_up (va_up (fun _ => none) 0 (some (u 1))) 1 (some (u 8))) 2 (some (u 15))) 3 (some (u 22)))))))), ((u 1), .inr (4, [.ref (u 2), .ref (u 3), .ref (u 4), .ref (u 5), .ref (u 6), .ref (u 7), .int 0, .int 0, .int 0])), ((u 30), .inr (6, [.ref (u 0), .ref (u 31), .ref (u 32), .ref (u 33), .ref (u 34), .int 0, .int 0, .int 0, .int 0, .int 0, .long 0, .int (-2)])), ((u 59), .inr (3, [.ref (u 60), .ref (u 61), .ref (u 63), .ref (u 65), .ref (u 67), .ref (u 69), .int 0, .int 0])), (mo, .inr (8, [.int 0, .ref (v 0), .ref (v 1), .ref (v 2), .int (-2), .ref (v 3), .ref (v 4), .ref (v 5), .ref (v 6), .int 0, .long 0, .int (-2), .int 0, .ref (v 7), .ref (v 8), .ref (v 9), .ref (v 10), .ref (v 11), .int 0, .ref (v 12), .int 0, .int 0, .int 0, .int 0, .int 0, .int 0, .int 0, .ref (v 13), .int 0, .int 0, .int 0, .int 0, .ref (v 14), .ref (v 15), .int 0, .ref (v 16), .ref (v 17), .ref (v 18), .ref (v 19), .ref (v 20), .int 0, .ref (v 21), .ref (v 22), .ref (v 23), .ref (v 24), .ref (v 25), .ref (v 26), .ref (v 27), .int 0, .int 0, .int 0, .int 0, .int 0, .int 0, .int 0, .ref (v 28), .ref (v 29), .int 0, .int 0, .int 0, .int 0])), ((v 0), .inl (k 0, 4, .inl (fun _ => 0))), ((v 2), .inl (k 0, 4, .inl (fun _ => 0)))]) (ls : Array Slot) (hl : lv_has ls 4 [(3, .int 0), (2, .ref mo), (1, .ref pb), (0, .ref b)]) : W p l e room_1 s m #[Value.ref b] below meth c H locs 541 404588 (lw_Z below #[Value.ref b] s) (F0 m 189 ls []) := by
  have hx := C.1
  have hb := C.2.1
  have hbA : ¬ A b := fun h => absurd (hA2 b h) (Nat.not_le.mpr hbl)
  refine lv_aload_n hx hb d_La_law_189 rfl (lv_at hl 2 rfl) ?_
  refine r_backi (wi := [(pb, .inr (0, [.ref (u 0), .ref (u 29), .ref (u 30), .ref (u 35), .ref (u 43), .ref (u 59), .int 0, .int (-2), .int 0]))]) (wr := [((u 0), .inl (k 3, 4, .inr (.inr (.inr (.inr (va_up (va_up (va_up (va_up (fun _ => none) 0 (some (u 1))) 1 (some (u 8))) 2 (some (u 15))) 3 (some (u 22)))))))), ((u 1), .inr (4, [.ref (u 2), .ref (u 3), .ref (u 4), .ref (u 5), .ref (u 6), .ref (u 7), .int 0, .int 0, .int 0])), ((u 30), .inr (6, [.ref (u 0), .ref (u 31), .ref (u 32), .ref (u 33), .ref (u 34), .int 0, .int 0, .int 0, .int 0, .int 0, .long 0, .int (-2)])), ((u 59), .inr (3, [.ref (u 60), .ref (u 61), .ref (u 63), .ref (u 65), .ref (u 67), .ref (u 69), .int 0, .int 0])), (mo, .inr (8, [.int 0, .ref (v 0), .ref (v 1), .ref (v 2), .int (-2), .ref (v 3), .ref (v 4), .ref (v 5), .ref (v 6), .int 0, .long 0, .int (-2), .int 0, .ref (v 7), .ref (v 8), .ref (v 9), .ref (v 10), .ref (v 11), .int 0, .ref (v 12), .int 0, .int 0, .int 0, .int 0, .int 0, .int 0, .int 0, .ref (v 13), .int 0, .int 0, .int 0, .int 0, .ref (v 14), .ref (v 15), .int 0, .ref (v 16), .ref (v 17), .ref (v 18), .ref (v 19), .ref (v 20), .int 0, .ref (v 21), .ref (v 22), .ref (v 23), .ref (v 24), .ref (v 25), .ref (v 26), .ref (v 27), .int 0, .int 0, .int 0, .int 0, .int 0, .int 0, .int 0, .ref (v 28), .ref (v 29), .int 0, .int 0, .int 0, .int 0])), ((v 0), .inl (k 0, 4, .inl (fun _ => 0))), ((v 2), .inl (k 0, 4, .inl (fun _ => 0)))]) S hA [0] [1, 2, 3, 4, 5, 6, 7] rfl rfl (by decide) (by decide) (va_runV (As := []) (rest := []) ⟨hx, hb, C.2.2.1, C.2.2.2.1, C.2.2.2.2.1⟩ (f_PB_look l G k pb _ (u 0) (u 29) (u 30) (u 35) (u 43) (u 59)) (k_virt (n := 0) C wc_PB_look rfl rfl wz_PB wm_La_28 wn_PB_look ws_PB_look (by decide +kernel) ⟨(Nat.le_of_ble_eq_true rfl), (Nat.le_of_ble_eq_true rfl)⟩) (pr_nowV K S [0] (by decide) rfl 0 rfl rfl) rfl rfl hl.1 rfl (lv_room (Nat.le_of_ble_eq_true rfl)) d_La_law_190 ⟨(Nat.le_of_ble_eq_true rfl), (Nat.le_of_ble_eq_true rfl)⟩) (fun r3 u1 H locs hw2 S => ?_)
  have S : Sw G A s.heap _ _ [((u 0), .inl (k 3, 4, .inr (.inr (.inr (.inr (va_up (va_up (va_up (va_up (fun _ => none) 0 (some (u 1))) 1 (some (u 8))) 2 (some (u 15))) 3 (some (u 22)))))))), ((u 1), .inr (4, [.ref (u 2), .ref (u 3), .ref (u 4), .ref (u 5), .ref (u 6), .ref (u 7), .int 0, .int 0, .int 0])), ((u 30), .inr (6, [.ref (u 0), .ref (u 31), .ref (u 32), .ref (u 33), .ref (u 34), .int 0, .int 0, .int 0, .int 0, .int 0, .long 0, .int (-2)])), ((u 59), .inr (3, [.ref (u 60), .ref (u 61), .ref (u 63), .ref (u 65), .ref (u 67), .ref (u 69), .int 0, .int 0])), (mo, .inr (8, [.int 0, .ref (v 0), .ref (v 1), .ref (v 2), .int (-2), .ref (v 3), .ref (v 4), .ref (v 5), .ref (v 6), .int 0, .long 0, .int (-2), .int 0, .ref (v 7), .ref (v 8), .ref (v 9), .ref (v 10), .ref (v 11), .int 0, .ref (v 12), .int 0, .int 0, .int 0, .int 0, .int 0, .int 0, .int 0, .ref (v 13), .int 0, .int 0, .int 0, .int 0, .ref (v 14), .ref (v 15), .int 0, .ref (v 16), .ref (v 17), .ref (v 18), .ref (v 19), .ref (v 20), .int 0, .ref (v 21), .ref (v 22), .ref (v 23), .ref (v 24), .ref (v 25), .ref (v 26), .ref (v 27), .int 0, .int 0, .int 0, .int 0, .int 0, .int 0, .int 0, .ref (v 28), .ref (v 29), .int 0, .int 0, .int 0, .int 0])), ((v 0), .inl (k 0, 4, .inl (fun _ => 0))), ((v 2), .inl (k 0, 4, .inl (fun _ => 0)))] := S
  have hw2 : r3 = 0 := hw2
  subst hw2
  refine lv_aload_n hx hb d_La_law_193 rfl (lv_at hl 1 rfl) ?_
  refine r_backi (wi := [(mo, .inr (8, [.int 0, .ref (v 0), .ref (v 1), .ref (v 2), .int (-2), .ref (v 3), .ref (v 4), .ref (v 5), .ref (v 6), .int 0, .long 0, .int (-2), .int 0, .ref (v 7), .ref (v 8), .ref (v 9), .ref (v 10), .ref (v 11), .int 0, .ref (v 12), .int 0, .int 0, .int 0, .int 0, .int 0, .int 0, .int 0, .ref (v 13), .int 0, .int 0, .int 0, .int 0, .ref (v 14), .ref (v 15), .int 0, .ref (v 16), .ref (v 17), .ref (v 18), .ref (v 19), .ref (v 20), .int 0, .ref (v 21), .ref (v 22), .ref (v 23), .ref (v 24), .ref (v 25), .ref (v 26), .ref (v 27), .int 0, .int 0, .int 0, .int 0, .int 0, .int 0, .int 0, .ref (v 28), .ref (v 29), .int 0, .int 0, .int 0, .int 0]))]) (wr := [((u 0), .inl (k 3, 4, .inr (.inr (.inr (.inr (va_up (va_up (va_up (va_up (fun _ => none) 0 (some (u 1))) 1 (some (u 8))) 2 (some (u 15))) 3 (some (u 22)))))))), ((u 1), .inr (4, [.ref (u 2), .ref (u 3), .ref (u 4), .ref (u 5), .ref (u 6), .ref (u 7), .int 0, .int 0, .int 0])), ((u 30), .inr (6, [.ref (u 0), .ref (u 31), .ref (u 32), .ref (u 33), .ref (u 34), .int 0, .int 0, .int 0, .int 0, .int 0, .long 0, .int (-2)])), ((u 59), .inr (3, [.ref (u 60), .ref (u 61), .ref (u 63), .ref (u 65), .ref (u 67), .ref (u 69), .int 0, .int 0])), ((v 0), .inl (k 0, 4, .inl (fun _ => 0))), ((v 2), .inl (k 0, 4, .inl (fun _ => 0)))]) S hA [4] [0, 1, 2, 3, 5, 6] rfl rfl (by decide) (by decide) (va_runV (As := []) (rest := [.int 0]) ⟨hx, hb, C.2.2.1, C.2.2.2.1, C.2.2.2.2.1⟩ (f_Mo_look l G k mo _ v) (k_virt (n := 0) C wc_Mo_look rfl rfl wz_Mo wm_La_32 wn_Mo_look ws_Mo_look (by decide +kernel) ⟨(Nat.le_of_ble_eq_true rfl), (Nat.le_of_ble_eq_true rfl)⟩) (pr_nowV K S [4] (by decide) rfl 4 rfl rfl) rfl rfl hl.1 rfl (lv_room (Nat.le_of_ble_eq_true rfl)) d_La_law_194 ⟨(Nat.le_of_ble_eq_true rfl), (Nat.le_of_ble_eq_true rfl)⟩) (fun r6 u4 H locs hw5 S => ?_)
  have S : Sw G A s.heap _ _ [((u 0), .inl (k 3, 4, .inr (.inr (.inr (.inr (va_up (va_up (va_up (va_up (fun _ => none) 0 (some (u 1))) 1 (some (u 8))) 2 (some (u 15))) 3 (some (u 22)))))))), ((u 1), .inr (4, [.ref (u 2), .ref (u 3), .ref (u 4), .ref (u 5), .ref (u 6), .ref (u 7), .int 0, .int 0, .int 0])), ((u 30), .inr (6, [.ref (u 0), .ref (u 31), .ref (u 32), .ref (u 33), .ref (u 34), .int 0, .int 0, .int 0, .int 0, .int 0, .long 0, .int (-2)])), ((u 59), .inr (3, [.ref (u 60), .ref (u 61), .ref (u 63), .ref (u 65), .ref (u 67), .ref (u 69), .int 0, .int 0])), ((v 0), .inl (k 0, 4, .inl (fun _ => 0))), ((v 2), .inl (k 0, 4, .inl (fun _ => 0)))] := S
  have hw5 : r6 = 0 := hw5
  subst hw5
  refine lv_icmp_eq (tgt := 471) hx hb d_La_law_197 (by decide) (fun _ => ?_) (fun hq => absurd (by decide) hq)
  exact law_end C K hX hbl hA hA2 (Nat.le_of_ble_eq_true rfl) (Nat.le_of_ble_eq_true rfl) S ls hl
set_option maxRecDepth 100000 in
set_option maxHeartbeats 4000000 in
theorem law_c4 {p : Program} {l : Launch} {e : Env} {s : State} {m : MethodId} {below : List Frame} {meth : Method} {c : Code} {G : va_G} {k : Nat → ClassId} {b : Nat} {xs : Nat → Int32} {A : Nat → Prop} (C : Cx p s m #[Value.ref b] meth c code "PotentialBenchLaw" 4 ret meth.name) (K : Kn G k s) (hX : va_X b 6 xs s s.heap) (hbl : b < s.heap.size) (hA : ∀ q, s.heap.size ≤ q → A q) (hA2 : ∀ q, A q → s.heap.size ≤ q) {H : Heap} {locs : List Loc} {pb mo : Nat} {u v : Nat → Nat} (S : Sw G A s.heap H locs [(pb, .inr (0, [.ref (u 0), .ref (u 29), .ref (u 30), .ref (u 35), .ref (u 43), .ref (u 59), .int 0, .int (-2), .int 0])), ((u 0), .inl (k 3, 4, .inr (.inr (.inr (.inr (va_up (va_up (va_up (va_up (fun _ => none) 0 (some (u 1))) 1 (some (u 8))) 2 (some (u 15))) 3 (some (u 22)))))))), ((u 1), .inr (4, [.ref (u 2), .ref (u 3), .ref (u 4), .ref (u 5), .ref (u 6), .ref (u 7), .int 0, .int 0, .int 0])), ((u 30), .inr (6, [.ref (u 0), .ref (u 31), .ref (u 32), .ref (u 33), .ref (u 34), .int 0, .int 0, .int 0, .int 0, .int 0, .long 0, .int (-2)])), ((u 59), .inr (3, [.ref (u 60), .ref (u 61), .ref (u 63), .ref (u 65), .ref (u 67), .ref (u 69), .int 0, .int 0])), (mo, .inr (8, [.int 0, .ref (v 0), .ref (v 1), .ref (v 2), .int (-2), .ref (v 3), .ref (v 4), .ref (v 5), .ref (v 6), .int 0, .long 0, .int (-2), .int 0, .ref (v 7), .ref (v 8), .ref (v 9), .ref (v 10), .ref (v 11), .int 0, .ref (v 12), .int 0, .int 0, .int 0, .int 0, .int 0, .int 0, .int 0, .ref (v 13), .int 0, .int 0, .int 0, .int 0, .ref (v 14), .ref (v 15), .int 0, .ref (v 16), .ref (v 17), .ref (v 18), .ref (v 19), .ref (v 20), .int 0, .ref (v 21), .ref (v 22), .ref (v 23), .ref (v 24), .ref (v 25), .ref (v 26), .ref (v 27), .int 0, .int 0, .int 0, .int 0, .int 0, .int 0, .int 0, .ref (v 28), .ref (v 29), .int 0, .int 0, .int 0, .int 0])), ((v 0), .inl (k 0, 4, .inl (fun _ => 0))), ((v 2), .inl (k 0, 4, .inl (fun _ => 0)))]) (ls : Array Slot) (hl : lv_has ls 4 [(3, .int 0), (2, .ref mo), (1, .ref pb), (0, .ref b)]) : W p l e room_1 s m #[Value.ref b] below meth c H locs 541 404588 (lw_Z below #[Value.ref b] s) (F0 m 202 ls []) := by
  have hx := C.1
  have hb := C.2.1
  have hbA : ¬ A b := fun h => absurd (hA2 b h) (Nat.not_le.mpr hbl)
  refine lv_aload_n hx hb d_La_law_202 rfl (lv_at hl 2 rfl) ?_
  refine r_backi (wi := [(pb, .inr (0, [.ref (u 0), .ref (u 29), .ref (u 30), .ref (u 35), .ref (u 43), .ref (u 59), .int 0, .int (-2), .int 0]))]) (wr := [((u 0), .inl (k 3, 4, .inr (.inr (.inr (.inr (va_up (va_up (va_up (va_up (fun _ => none) 0 (some (u 1))) 1 (some (u 8))) 2 (some (u 15))) 3 (some (u 22)))))))), ((u 1), .inr (4, [.ref (u 2), .ref (u 3), .ref (u 4), .ref (u 5), .ref (u 6), .ref (u 7), .int 0, .int 0, .int 0])), ((u 30), .inr (6, [.ref (u 0), .ref (u 31), .ref (u 32), .ref (u 33), .ref (u 34), .int 0, .int 0, .int 0, .int 0, .int 0, .long 0, .int (-2)])), ((u 59), .inr (3, [.ref (u 60), .ref (u 61), .ref (u 63), .ref (u 65), .ref (u 67), .ref (u 69), .int 0, .int 0])), (mo, .inr (8, [.int 0, .ref (v 0), .ref (v 1), .ref (v 2), .int (-2), .ref (v 3), .ref (v 4), .ref (v 5), .ref (v 6), .int 0, .long 0, .int (-2), .int 0, .ref (v 7), .ref (v 8), .ref (v 9), .ref (v 10), .ref (v 11), .int 0, .ref (v 12), .int 0, .int 0, .int 0, .int 0, .int 0, .int 0, .int 0, .ref (v 13), .int 0, .int 0, .int 0, .int 0, .ref (v 14), .ref (v 15), .int 0, .ref (v 16), .ref (v 17), .ref (v 18), .ref (v 19), .ref (v 20), .int 0, .ref (v 21), .ref (v 22), .ref (v 23), .ref (v 24), .ref (v 25), .ref (v 26), .ref (v 27), .int 0, .int 0, .int 0, .int 0, .int 0, .int 0, .int 0, .ref (v 28), .ref (v 29), .int 0, .int 0, .int 0, .int 0])), ((v 0), .inl (k 0, 4, .inl (fun _ => 0))), ((v 2), .inl (k 0, 4, .inl (fun _ => 0)))]) S hA [0] [1, 2, 3, 4, 5, 6, 7] rfl rfl (by decide) (by decide) (va_runV (As := []) (rest := []) ⟨hx, hb, C.2.2.1, C.2.2.2.1, C.2.2.2.2.1⟩ (f_PB_place l G k pb _ (u 0) (u 29) (u 30) (u 35) (u 43) (u 59)) (k_virt (n := 0) C wc_PB_place rfl rfl wz_PB wm_La_33 wn_PB_place ws_PB_place (by decide +kernel) ⟨(Nat.le_of_ble_eq_true rfl), (Nat.le_of_ble_eq_true rfl)⟩) (pr_nowV K S [0] (by decide) rfl 0 rfl rfl) rfl rfl hl.1 rfl (lv_room (Nat.le_of_ble_eq_true rfl)) d_La_law_203 ⟨(Nat.le_of_ble_eq_true rfl), (Nat.le_of_ble_eq_true rfl)⟩) (fun r3 u1 H locs hw2 S => ?_)
  have S : Sw G A s.heap _ _ [((u 0), .inl (k 3, 4, .inr (.inr (.inr (.inr (va_up (va_up (va_up (va_up (fun _ => none) 0 (some (u 1))) 1 (some (u 8))) 2 (some (u 15))) 3 (some (u 22)))))))), ((u 1), .inr (4, [.ref (u 2), .ref (u 3), .ref (u 4), .ref (u 5), .ref (u 6), .ref (u 7), .int 0, .int 0, .int 0])), ((u 30), .inr (6, [.ref (u 0), .ref (u 31), .ref (u 32), .ref (u 33), .ref (u 34), .int 0, .int 0, .int 0, .int 0, .int 0, .long 0, .int (-2)])), ((u 59), .inr (3, [.ref (u 60), .ref (u 61), .ref (u 63), .ref (u 65), .ref (u 67), .ref (u 69), .int 0, .int 0])), (mo, .inr (8, [.int 0, .ref (v 0), .ref (v 1), .ref (v 2), .int (-2), .ref (v 3), .ref (v 4), .ref (v 5), .ref (v 6), .int 0, .long 0, .int (-2), .int 0, .ref (v 7), .ref (v 8), .ref (v 9), .ref (v 10), .ref (v 11), .int 0, .ref (v 12), .int 0, .int 0, .int 0, .int 0, .int 0, .int 0, .int 0, .ref (v 13), .int 0, .int 0, .int 0, .int 0, .ref (v 14), .ref (v 15), .int 0, .ref (v 16), .ref (v 17), .ref (v 18), .ref (v 19), .ref (v 20), .int 0, .ref (v 21), .ref (v 22), .ref (v 23), .ref (v 24), .ref (v 25), .ref (v 26), .ref (v 27), .int 0, .int 0, .int 0, .int 0, .int 0, .int 0, .int 0, .ref (v 28), .ref (v 29), .int 0, .int 0, .int 0, .int 0])), ((v 0), .inl (k 0, 4, .inl (fun _ => 0))), ((v 2), .inl (k 0, 4, .inl (fun _ => 0)))] := S
  have hw2 : r3 = (-2) := hw2
  subst hw2
  refine lv_aload_n hx hb d_La_law_206 rfl (lv_at hl 1 rfl) ?_
  refine r_backi (wi := [(mo, .inr (8, [.int 0, .ref (v 0), .ref (v 1), .ref (v 2), .int (-2), .ref (v 3), .ref (v 4), .ref (v 5), .ref (v 6), .int 0, .long 0, .int (-2), .int 0, .ref (v 7), .ref (v 8), .ref (v 9), .ref (v 10), .ref (v 11), .int 0, .ref (v 12), .int 0, .int 0, .int 0, .int 0, .int 0, .int 0, .int 0, .ref (v 13), .int 0, .int 0, .int 0, .int 0, .ref (v 14), .ref (v 15), .int 0, .ref (v 16), .ref (v 17), .ref (v 18), .ref (v 19), .ref (v 20), .int 0, .ref (v 21), .ref (v 22), .ref (v 23), .ref (v 24), .ref (v 25), .ref (v 26), .ref (v 27), .int 0, .int 0, .int 0, .int 0, .int 0, .int 0, .int 0, .ref (v 28), .ref (v 29), .int 0, .int 0, .int 0, .int 0]))]) (wr := [((u 0), .inl (k 3, 4, .inr (.inr (.inr (.inr (va_up (va_up (va_up (va_up (fun _ => none) 0 (some (u 1))) 1 (some (u 8))) 2 (some (u 15))) 3 (some (u 22)))))))), ((u 1), .inr (4, [.ref (u 2), .ref (u 3), .ref (u 4), .ref (u 5), .ref (u 6), .ref (u 7), .int 0, .int 0, .int 0])), ((u 30), .inr (6, [.ref (u 0), .ref (u 31), .ref (u 32), .ref (u 33), .ref (u 34), .int 0, .int 0, .int 0, .int 0, .int 0, .long 0, .int (-2)])), ((u 59), .inr (3, [.ref (u 60), .ref (u 61), .ref (u 63), .ref (u 65), .ref (u 67), .ref (u 69), .int 0, .int 0])), ((v 0), .inl (k 0, 4, .inl (fun _ => 0))), ((v 2), .inl (k 0, 4, .inl (fun _ => 0)))]) S hA [4] [0, 1, 2, 3, 5, 6] rfl rfl (by decide) (by decide) (va_runV (As := []) (rest := [.int (-2)]) ⟨hx, hb, C.2.2.1, C.2.2.2.1, C.2.2.2.2.1⟩ (f_Mo_place l G k mo _ v) (k_virt (n := 0) C wc_Mo_place rfl rfl wz_Mo wm_La_36 wn_Mo_place ws_Mo_place (by decide +kernel) ⟨(Nat.le_of_ble_eq_true rfl), (Nat.le_of_ble_eq_true rfl)⟩) (pr_nowV K S [4] (by decide) rfl 4 rfl rfl) rfl rfl hl.1 rfl (lv_room (Nat.le_of_ble_eq_true rfl)) d_La_law_207 ⟨(Nat.le_of_ble_eq_true rfl), (Nat.le_of_ble_eq_true rfl)⟩) (fun r6 u4 H locs hw5 S => ?_)
  have S : Sw G A s.heap _ _ [((u 0), .inl (k 3, 4, .inr (.inr (.inr (.inr (va_up (va_up (va_up (va_up (fun _ => none) 0 (some (u 1))) 1 (some (u 8))) 2 (some (u 15))) 3 (some (u 22)))))))), ((u 1), .inr (4, [.ref (u 2), .ref (u 3), .ref (u 4), .ref (u 5), .ref (u 6), .ref (u 7), .int 0, .int 0, .int 0])), ((u 30), .inr (6, [.ref (u 0), .ref (u 31), .ref (u 32), .ref (u 33), .ref (u 34), .int 0, .int 0, .int 0, .int 0, .int 0, .long 0, .int (-2)])), ((u 59), .inr (3, [.ref (u 60), .ref (u 61), .ref (u 63), .ref (u 65), .ref (u 67), .ref (u 69), .int 0, .int 0])), ((v 0), .inl (k 0, 4, .inl (fun _ => 0))), ((v 2), .inl (k 0, 4, .inl (fun _ => 0)))] := S
  have hw5 : r6 = (-2) := hw5
  subst hw5
  refine lv_icmp_eq (tgt := 471) hx hb d_La_law_210 (by decide) (fun _ => ?_) (fun hq => absurd (by decide) hq)
  exact law_end C K hX hbl hA hA2 (Nat.le_of_ble_eq_true rfl) (Nat.le_of_ble_eq_true rfl) S ls hl
set_option maxRecDepth 100000 in
set_option maxHeartbeats 4000000 in
theorem law_c5 {p : Program} {l : Launch} {e : Env} {s : State} {m : MethodId} {below : List Frame} {meth : Method} {c : Code} {G : va_G} {k : Nat → ClassId} {b : Nat} {xs : Nat → Int32} {A : Nat → Prop} (C : Cx p s m #[Value.ref b] meth c code "PotentialBenchLaw" 4 ret meth.name) (K : Kn G k s) (hX : va_X b 6 xs s s.heap) (hbl : b < s.heap.size) (hA : ∀ q, s.heap.size ≤ q → A q) (hA2 : ∀ q, A q → s.heap.size ≤ q) {H : Heap} {locs : List Loc} {pb mo : Nat} {u v : Nat → Nat} (S : Sw G A s.heap H locs [(pb, .inr (0, [.ref (u 0), .ref (u 29), .ref (u 30), .ref (u 35), .ref (u 43), .ref (u 59), .int 0, .int (-2), .int 0])), ((u 0), .inl (k 3, 4, .inr (.inr (.inr (.inr (va_up (va_up (va_up (va_up (fun _ => none) 0 (some (u 1))) 1 (some (u 8))) 2 (some (u 15))) 3 (some (u 22)))))))), ((u 1), .inr (4, [.ref (u 2), .ref (u 3), .ref (u 4), .ref (u 5), .ref (u 6), .ref (u 7), .int 0, .int 0, .int 0])), ((u 30), .inr (6, [.ref (u 0), .ref (u 31), .ref (u 32), .ref (u 33), .ref (u 34), .int 0, .int 0, .int 0, .int 0, .int 0, .long 0, .int (-2)])), ((u 59), .inr (3, [.ref (u 60), .ref (u 61), .ref (u 63), .ref (u 65), .ref (u 67), .ref (u 69), .int 0, .int 0])), (mo, .inr (8, [.int 0, .ref (v 0), .ref (v 1), .ref (v 2), .int (-2), .ref (v 3), .ref (v 4), .ref (v 5), .ref (v 6), .int 0, .long 0, .int (-2), .int 0, .ref (v 7), .ref (v 8), .ref (v 9), .ref (v 10), .ref (v 11), .int 0, .ref (v 12), .int 0, .int 0, .int 0, .int 0, .int 0, .int 0, .int 0, .ref (v 13), .int 0, .int 0, .int 0, .int 0, .ref (v 14), .ref (v 15), .int 0, .ref (v 16), .ref (v 17), .ref (v 18), .ref (v 19), .ref (v 20), .int 0, .ref (v 21), .ref (v 22), .ref (v 23), .ref (v 24), .ref (v 25), .ref (v 26), .ref (v 27), .int 0, .int 0, .int 0, .int 0, .int 0, .int 0, .int 0, .ref (v 28), .ref (v 29), .int 0, .int 0, .int 0, .int 0])), ((v 0), .inl (k 0, 4, .inl (fun _ => 0))), ((v 2), .inl (k 0, 4, .inl (fun _ => 0)))]) (ls : Array Slot) (hl : lv_has ls 4 [(3, .int 0), (2, .ref mo), (1, .ref pb), (0, .ref b)]) : W p l e room_1 s m #[Value.ref b] below meth c H locs 541 404588 (lw_Z below #[Value.ref b] s) (F0 m 215 ls []) := by
  have hx := C.1
  have hb := C.2.1
  have hbA : ¬ A b := fun h => absurd (hA2 b h) (Nat.not_le.mpr hbl)
  refine lv_aload_n hx hb d_La_law_215 rfl (lv_at hl 2 rfl) ?_
  refine lv_aload_n hx hb d_La_law_216 rfl (lv_at hl 3 rfl) ?_
  refine lv_iload_n hx hb d_La_law_217 rfl (lv_at hl 0 rfl) ?_
  refine lv_iconst (v := 1) hx hb d_La_law_218 (by decide) ?_
  refine lv_iadd hx hb d_La_law_219 ?_
  rw [show (0 : Int32) + 1 = 1 from by decide]
  refine va_sld hx hb hX hbl hbA S.2.2 (i := 1) (by unfold vp_in; decide) d_La_law_220 ?_
  refine lv_aload_n hx hb d_La_law_221 rfl (lv_at hl 3 rfl) ?_
  refine lv_iload_n hx hb d_La_law_222 rfl (lv_at hl 0 rfl) ?_
  refine lv_iconst (v := 2) hx hb d_La_law_223 (by decide) ?_
  refine lv_iadd hx hb d_La_law_224 ?_
  rw [show (0 : Int32) + 2 = 2 from by decide]
  refine va_sld hx hb hX hbl hbA S.2.2 (i := 2) (by unfold vp_in; decide) d_La_law_225 ?_
  refine lv_aload_n hx hb d_La_law_226 rfl (lv_at hl 3 rfl) ?_
  refine lv_iload_n hx hb d_La_law_227 rfl (lv_at hl 0 rfl) ?_
  refine lv_iconst (v := 3) hx hb d_La_law_228 (by decide) ?_
  refine lv_iadd hx hb d_La_law_229 ?_
  rw [show (0 : Int32) + 3 = 3 from by decide]
  refine va_sld hx hb hX hbl hbA S.2.2 (i := 3) (by unfold vp_in; decide) d_La_law_230 ?_
  refine lv_aload_n hx hb d_La_law_231 rfl (lv_at hl 3 rfl) ?_
  refine lv_iload_n hx hb d_La_law_232 rfl (lv_at hl 0 rfl) ?_
  refine lv_iconst (v := 4) hx hb d_La_law_233 (by decide) ?_
  refine lv_iadd hx hb d_La_law_234 ?_
  rw [show (0 : Int32) + 4 = 4 from by decide]
  refine va_sld hx hb hX hbl hbA S.2.2 (i := 4) (by unfold vp_in; decide) d_La_law_235 ?_
  refine r_backi (wi := [(pb, .inr (0, [.ref (u 0), .ref (u 29), .ref (u 30), .ref (u 35), .ref (u 43), .ref (u 59), .int 0, .int (-2), .int 0]))]) (wr := [((u 0), .inl (k 3, 4, .inr (.inr (.inr (.inr (va_up (va_up (va_up (va_up (fun _ => none) 0 (some (u 1))) 1 (some (u 8))) 2 (some (u 15))) 3 (some (u 22)))))))), ((u 1), .inr (4, [.ref (u 2), .ref (u 3), .ref (u 4), .ref (u 5), .ref (u 6), .ref (u 7), .int 0, .int 0, .int 0])), ((u 30), .inr (6, [.ref (u 0), .ref (u 31), .ref (u 32), .ref (u 33), .ref (u 34), .int 0, .int 0, .int 0, .int 0, .int 0, .long 0, .int (-2)])), ((u 59), .inr (3, [.ref (u 60), .ref (u 61), .ref (u 63), .ref (u 65), .ref (u 67), .ref (u 69), .int 0, .int 0])), (mo, .inr (8, [.int 0, .ref (v 0), .ref (v 1), .ref (v 2), .int (-2), .ref (v 3), .ref (v 4), .ref (v 5), .ref (v 6), .int 0, .long 0, .int (-2), .int 0, .ref (v 7), .ref (v 8), .ref (v 9), .ref (v 10), .ref (v 11), .int 0, .ref (v 12), .int 0, .int 0, .int 0, .int 0, .int 0, .int 0, .int 0, .ref (v 13), .int 0, .int 0, .int 0, .int 0, .ref (v 14), .ref (v 15), .int 0, .ref (v 16), .ref (v 17), .ref (v 18), .ref (v 19), .ref (v 20), .int 0, .ref (v 21), .ref (v 22), .ref (v 23), .ref (v 24), .ref (v 25), .ref (v 26), .ref (v 27), .int 0, .int 0, .int 0, .int 0, .int 0, .int 0, .int 0, .ref (v 28), .ref (v 29), .int 0, .int 0, .int 0, .int 0])), ((v 0), .inl (k 0, 4, .inl (fun _ => 0))), ((v 2), .inl (k 0, 4, .inl (fun _ => 0)))]) S hA [0] [1, 2, 3, 4, 5, 6, 7] rfl rfl (by decide) (by decide) (va_runV (As := [.int (xs (Int32.toNatClampNeg 1)), .int (xs (Int32.toNatClampNeg 2)), .int (xs (Int32.toNatClampNeg 3)), .int (xs (Int32.toNatClampNeg 4))]) (rest := []) ⟨hx, hb, C.2.2.1, C.2.2.2.1, C.2.2.2.2.1⟩ (f_PB_run l G k pb _ (u 0) (u 29) (u 30) (u 35) (u 43) (u 59) (xs (Int32.toNatClampNeg 1)) (xs (Int32.toNatClampNeg 2)) (xs (Int32.toNatClampNeg 3)) (xs (Int32.toNatClampNeg 4))) (k_virt (n := 4) C wc_PB_run rfl rfl wz_PB wm_La_37 wn_PB_run ws_PB_run (by decide +kernel) ⟨(Nat.le_of_ble_eq_true rfl), (Nat.le_of_ble_eq_true rfl)⟩) (pr_nowV K S [0] (by decide) rfl 0 rfl rfl) rfl rfl hl.1 rfl (lv_room (Nat.le_of_ble_eq_true rfl)) d_La_law_236 ⟨(Nat.le_of_ble_eq_true rfl), (Nat.le_of_ble_eq_true rfl)⟩) (fun r7 u5 H locs hw6 S => ?_)
  have S : Sw G A s.heap _ _ [((u 0), .inl (k 3, 4, .inr (.inr (.inr (.inr (va_up (va_up (va_up (va_up (fun _ => none) 0 (some (u 1))) 1 (some (u 8))) 2 (some (u 15))) 3 (some (u 22)))))))), ((u 1), .inr (4, [.ref (u 2), .ref (u 3), .ref (u 4), .ref (u 5), .ref (u 6), .ref (u 7), .int 0, .int 0, .int 0])), ((u 30), .inr (6, [.ref (u 0), .ref (u 31), .ref (u 32), .ref (u 33), .ref (u 34), .int 0, .int 0, .int 0, .int 0, .int 0, .long 0, .int (-2)])), ((u 59), .inr (3, [.ref (u 60), .ref (u 61), .ref (u 63), .ref (u 65), .ref (u 67), .ref (u 69), .int 0, .int 0])), (mo, .inr (8, [.int 0, .ref (v 0), .ref (v 1), .ref (v 2), .int (-2), .ref (v 3), .ref (v 4), .ref (v 5), .ref (v 6), .int 0, .long 0, .int (-2), .int 0, .ref (v 7), .ref (v 8), .ref (v 9), .ref (v 10), .ref (v 11), .int 0, .ref (v 12), .int 0, .int 0, .int 0, .int 0, .int 0, .int 0, .int 0, .ref (v 13), .int 0, .int 0, .int 0, .int 0, .ref (v 14), .ref (v 15), .int 0, .ref (v 16), .ref (v 17), .ref (v 18), .ref (v 19), .ref (v 20), .int 0, .ref (v 21), .ref (v 22), .ref (v 23), .ref (v 24), .ref (v 25), .ref (v 26), .ref (v 27), .int 0, .int 0, .int 0, .int 0, .int 0, .int 0, .int 0, .ref (v 28), .ref (v 29), .int 0, .int 0, .int 0, .int 0])), ((v 0), .inl (k 0, 4, .inl (fun _ => 0))), ((v 2), .inl (k 0, 4, .inl (fun _ => 0)))] := S
  have hw6 : r7 = (-1) := hw6
  subst hw6
  refine lv_aload_n hx hb d_La_law_239 rfl (lv_at hl 1 rfl) ?_
  refine lv_aload_n hx hb d_La_law_240 rfl (lv_at hl 3 rfl) ?_
  refine lv_iload_n hx hb d_La_law_241 rfl (lv_at hl 0 rfl) ?_
  refine lv_iconst (v := 1) hx hb d_La_law_242 (by decide) ?_
  refine lv_iadd hx hb d_La_law_243 ?_
  rw [show (0 : Int32) + 1 = 1 from by decide]
  refine va_sld hx hb hX hbl hbA S.2.2 (i := 1) (by unfold vp_in; decide) d_La_law_244 ?_
  refine lv_aload_n hx hb d_La_law_245 rfl (lv_at hl 3 rfl) ?_
  refine lv_iload_n hx hb d_La_law_246 rfl (lv_at hl 0 rfl) ?_
  refine lv_iconst (v := 2) hx hb d_La_law_247 (by decide) ?_
  refine lv_iadd hx hb d_La_law_248 ?_
  rw [show (0 : Int32) + 2 = 2 from by decide]
  refine va_sld hx hb hX hbl hbA S.2.2 (i := 2) (by unfold vp_in; decide) d_La_law_249 ?_
  refine lv_aload_n hx hb d_La_law_250 rfl (lv_at hl 3 rfl) ?_
  refine lv_iload_n hx hb d_La_law_251 rfl (lv_at hl 0 rfl) ?_
  refine lv_iconst (v := 3) hx hb d_La_law_252 (by decide) ?_
  refine lv_iadd hx hb d_La_law_253 ?_
  rw [show (0 : Int32) + 3 = 3 from by decide]
  refine va_sld hx hb hX hbl hbA S.2.2 (i := 3) (by unfold vp_in; decide) d_La_law_254 ?_
  refine lv_aload_n hx hb d_La_law_255 rfl (lv_at hl 3 rfl) ?_
  refine lv_iload_n hx hb d_La_law_256 rfl (lv_at hl 0 rfl) ?_
  refine lv_iconst (v := 4) hx hb d_La_law_257 (by decide) ?_
  refine lv_iadd hx hb d_La_law_258 ?_
  rw [show (0 : Int32) + 4 = 4 from by decide]
  refine va_sld hx hb hX hbl hbA S.2.2 (i := 4) (by unfold vp_in; decide) d_La_law_259 ?_
  refine r_backi (wi := [(mo, .inr (8, [.int 0, .ref (v 0), .ref (v 1), .ref (v 2), .int (-2), .ref (v 3), .ref (v 4), .ref (v 5), .ref (v 6), .int 0, .long 0, .int (-2), .int 0, .ref (v 7), .ref (v 8), .ref (v 9), .ref (v 10), .ref (v 11), .int 0, .ref (v 12), .int 0, .int 0, .int 0, .int 0, .int 0, .int 0, .int 0, .ref (v 13), .int 0, .int 0, .int 0, .int 0, .ref (v 14), .ref (v 15), .int 0, .ref (v 16), .ref (v 17), .ref (v 18), .ref (v 19), .ref (v 20), .int 0, .ref (v 21), .ref (v 22), .ref (v 23), .ref (v 24), .ref (v 25), .ref (v 26), .ref (v 27), .int 0, .int 0, .int 0, .int 0, .int 0, .int 0, .int 0, .ref (v 28), .ref (v 29), .int 0, .int 0, .int 0, .int 0]))]) (wr := [((u 0), .inl (k 3, 4, .inr (.inr (.inr (.inr (va_up (va_up (va_up (va_up (fun _ => none) 0 (some (u 1))) 1 (some (u 8))) 2 (some (u 15))) 3 (some (u 22)))))))), ((u 1), .inr (4, [.ref (u 2), .ref (u 3), .ref (u 4), .ref (u 5), .ref (u 6), .ref (u 7), .int 0, .int 0, .int 0])), ((u 30), .inr (6, [.ref (u 0), .ref (u 31), .ref (u 32), .ref (u 33), .ref (u 34), .int 0, .int 0, .int 0, .int 0, .int 0, .long 0, .int (-2)])), ((u 59), .inr (3, [.ref (u 60), .ref (u 61), .ref (u 63), .ref (u 65), .ref (u 67), .ref (u 69), .int 0, .int 0])), ((v 0), .inl (k 0, 4, .inl (fun _ => 0))), ((v 2), .inl (k 0, 4, .inl (fun _ => 0)))]) S hA [4] [0, 1, 2, 3, 5, 6] rfl rfl (by decide) (by decide) (va_runV (As := [.int (xs (Int32.toNatClampNeg 1)), .int (xs (Int32.toNatClampNeg 2)), .int (xs (Int32.toNatClampNeg 3)), .int (xs (Int32.toNatClampNeg 4))]) (rest := [.int (-1)]) ⟨hx, hb, C.2.2.1, C.2.2.2.1, C.2.2.2.2.1⟩ (f_Mo_run l G k mo _ v (xs (Int32.toNatClampNeg 1)) (xs (Int32.toNatClampNeg 2)) (xs (Int32.toNatClampNeg 3)) (xs (Int32.toNatClampNeg 4))) (k_virt (n := 4) C wc_Mo_run rfl rfl wz_Mo wm_La_41 wn_Mo_run ws_Mo_run (by decide +kernel) ⟨(Nat.le_of_ble_eq_true rfl), (Nat.le_of_ble_eq_true rfl)⟩) (pr_nowV K S [4] (by decide) rfl 4 rfl rfl) rfl rfl hl.1 rfl (lv_room (Nat.le_of_ble_eq_true rfl)) d_La_law_260 ⟨(Nat.le_of_ble_eq_true rfl), (Nat.le_of_ble_eq_true rfl)⟩) (fun r14 u12 H locs hw13 S => ?_)
  have S : Sw G A s.heap _ _ [((u 0), .inl (k 3, 4, .inr (.inr (.inr (.inr (va_up (va_up (va_up (va_up (fun _ => none) 0 (some (u 1))) 1 (some (u 8))) 2 (some (u 15))) 3 (some (u 22)))))))), ((u 1), .inr (4, [.ref (u 2), .ref (u 3), .ref (u 4), .ref (u 5), .ref (u 6), .ref (u 7), .int 0, .int 0, .int 0])), ((u 30), .inr (6, [.ref (u 0), .ref (u 31), .ref (u 32), .ref (u 33), .ref (u 34), .int 0, .int 0, .int 0, .int 0, .int 0, .long 0, .int (-2)])), ((u 59), .inr (3, [.ref (u 60), .ref (u 61), .ref (u 63), .ref (u 65), .ref (u 67), .ref (u 69), .int 0, .int 0])), ((v 0), .inl (k 0, 4, .inl (fun _ => 0))), ((v 2), .inl (k 0, 4, .inl (fun _ => 0)))] := S
  have hw13 : r14 = (-1) := hw13
  subst hw13
  refine lv_icmp_eq (tgt := 471) hx hb d_La_law_263 (by decide) (fun _ => ?_) (fun hq => absurd (by decide) hq)
  exact law_end C K hX hbl hA hA2 (Nat.le_of_ble_eq_true rfl) (Nat.le_of_ble_eq_true rfl) S ls hl
set_option maxRecDepth 100000 in
set_option maxHeartbeats 4000000 in
theorem law_c6 {p : Program} {l : Launch} {e : Env} {s : State} {m : MethodId} {below : List Frame} {meth : Method} {c : Code} {G : va_G} {k : Nat → ClassId} {b : Nat} {xs : Nat → Int32} {A : Nat → Prop} (C : Cx p s m #[Value.ref b] meth c code "PotentialBenchLaw" 4 ret meth.name) (K : Kn G k s) (hX : va_X b 6 xs s s.heap) (hbl : b < s.heap.size) (hA : ∀ q, s.heap.size ≤ q → A q) (hA2 : ∀ q, A q → s.heap.size ≤ q) {H : Heap} {locs : List Loc} {pb mo : Nat} {u v : Nat → Nat} (S : Sw G A s.heap H locs [(pb, .inr (0, [.ref (u 0), .ref (u 29), .ref (u 30), .ref (u 35), .ref (u 43), .ref (u 59), .int 0, .int (-2), .int 0])), ((u 0), .inl (k 3, 4, .inr (.inr (.inr (.inr (va_up (va_up (va_up (va_up (fun _ => none) 0 (some (u 1))) 1 (some (u 8))) 2 (some (u 15))) 3 (some (u 22)))))))), ((u 1), .inr (4, [.ref (u 2), .ref (u 3), .ref (u 4), .ref (u 5), .ref (u 6), .ref (u 7), .int 0, .int 0, .int 0])), ((u 30), .inr (6, [.ref (u 0), .ref (u 31), .ref (u 32), .ref (u 33), .ref (u 34), .int 0, .int 0, .int 0, .int 0, .int 0, .long 0, .int (-2)])), ((u 59), .inr (3, [.ref (u 60), .ref (u 61), .ref (u 63), .ref (u 65), .ref (u 67), .ref (u 69), .int 0, .int 0])), (mo, .inr (8, [.int 0, .ref (v 0), .ref (v 1), .ref (v 2), .int (-2), .ref (v 3), .ref (v 4), .ref (v 5), .ref (v 6), .int 0, .long 0, .int (-2), .int 0, .ref (v 7), .ref (v 8), .ref (v 9), .ref (v 10), .ref (v 11), .int 0, .ref (v 12), .int 0, .int 0, .int 0, .int 0, .int 0, .int 0, .int 0, .ref (v 13), .int 0, .int 0, .int 0, .int 0, .ref (v 14), .ref (v 15), .int 0, .ref (v 16), .ref (v 17), .ref (v 18), .ref (v 19), .ref (v 20), .int 0, .ref (v 21), .ref (v 22), .ref (v 23), .ref (v 24), .ref (v 25), .ref (v 26), .ref (v 27), .int 0, .int 0, .int 0, .int 0, .int 0, .int 0, .int 0, .ref (v 28), .ref (v 29), .int 0, .int 0, .int 0, .int 0])), ((v 0), .inl (k 0, 4, .inl (fun _ => 0))), ((v 2), .inl (k 0, 4, .inl (fun _ => 0)))]) (ls : Array Slot) (hl : lv_has ls 4 [(3, .int 0), (2, .ref mo), (1, .ref pb), (0, .ref b)]) : W p l e room_1 s m #[Value.ref b] below meth c H locs 541 404588 (lw_Z below #[Value.ref b] s) (F0 m 268 ls []) := by
  have hx := C.1
  have hb := C.2.1
  have hbA : ¬ A b := fun h => absurd (hA2 b h) (Nat.not_le.mpr hbl)
  refine lv_aload_n hx hb d_La_law_268 rfl (lv_at hl 2 rfl) ?_
  refine r_backl (wi := [(pb, .inr (0, [.ref (u 0), .ref (u 29), .ref (u 30), .ref (u 35), .ref (u 43), .ref (u 59), .int 0, .int (-2), .int 0])), ((u 30), .inr (6, [.ref (u 0), .ref (u 31), .ref (u 32), .ref (u 33), .ref (u 34), .int 0, .int 0, .int 0, .int 0, .int 0, .long 0, .int (-2)]))]) (wr := [((u 0), .inl (k 3, 4, .inr (.inr (.inr (.inr (va_up (va_up (va_up (va_up (fun _ => none) 0 (some (u 1))) 1 (some (u 8))) 2 (some (u 15))) 3 (some (u 22)))))))), ((u 1), .inr (4, [.ref (u 2), .ref (u 3), .ref (u 4), .ref (u 5), .ref (u 6), .ref (u 7), .int 0, .int 0, .int 0])), ((u 59), .inr (3, [.ref (u 60), .ref (u 61), .ref (u 63), .ref (u 65), .ref (u 67), .ref (u 69), .int 0, .int 0])), (mo, .inr (8, [.int 0, .ref (v 0), .ref (v 1), .ref (v 2), .int (-2), .ref (v 3), .ref (v 4), .ref (v 5), .ref (v 6), .int 0, .long 0, .int (-2), .int 0, .ref (v 7), .ref (v 8), .ref (v 9), .ref (v 10), .ref (v 11), .int 0, .ref (v 12), .int 0, .int 0, .int 0, .int 0, .int 0, .int 0, .int 0, .ref (v 13), .int 0, .int 0, .int 0, .int 0, .ref (v 14), .ref (v 15), .int 0, .ref (v 16), .ref (v 17), .ref (v 18), .ref (v 19), .ref (v 20), .int 0, .ref (v 21), .ref (v 22), .ref (v 23), .ref (v 24), .ref (v 25), .ref (v 26), .ref (v 27), .int 0, .int 0, .int 0, .int 0, .int 0, .int 0, .int 0, .ref (v 28), .ref (v 29), .int 0, .int 0, .int 0, .int 0])), ((v 0), .inl (k 0, 4, .inl (fun _ => 0))), ((v 2), .inl (k 0, 4, .inl (fun _ => 0)))]) S hA [0, 3] [1, 2, 4, 5, 6, 7] rfl rfl (by decide) (by decide) (va_runV (As := []) (rest := []) ⟨hx, hb, C.2.2.1, C.2.2.2.1, C.2.2.2.2.1⟩ (f_PB_cost l G k pb _ (u 0) (u 29) (u 30) (u 35) (u 43) (u 59) (u 0) (u 31) (u 32) (u 33) (u 34)) (k_virt (n := 0) C wc_PB_cost rfl rfl wz_PB wm_La_42 wn_PB_cost ws_PB_cost (by decide +kernel) ⟨(Nat.le_of_ble_eq_true rfl), (Nat.le_of_ble_eq_true rfl)⟩) (pr_nowV K S [0, 3] (by decide) rfl 0 rfl rfl) rfl rfl hl.1 rfl (lv_room (Nat.le_of_ble_eq_true rfl)) d_La_law_269 ⟨(Nat.le_of_ble_eq_true rfl), (Nat.le_of_ble_eq_true rfl)⟩) (fun r3 u1 H locs hw2 S => ?_)
  have S : Sw G A s.heap _ _ [((u 0), .inl (k 3, 4, .inr (.inr (.inr (.inr (va_up (va_up (va_up (va_up (fun _ => none) 0 (some (u 1))) 1 (some (u 8))) 2 (some (u 15))) 3 (some (u 22)))))))), ((u 1), .inr (4, [.ref (u 2), .ref (u 3), .ref (u 4), .ref (u 5), .ref (u 6), .ref (u 7), .int 0, .int 0, .int 0])), ((u 59), .inr (3, [.ref (u 60), .ref (u 61), .ref (u 63), .ref (u 65), .ref (u 67), .ref (u 69), .int 0, .int 0])), (mo, .inr (8, [.int 0, .ref (v 0), .ref (v 1), .ref (v 2), .int (-2), .ref (v 3), .ref (v 4), .ref (v 5), .ref (v 6), .int 0, .long 0, .int (-2), .int 0, .ref (v 7), .ref (v 8), .ref (v 9), .ref (v 10), .ref (v 11), .int 0, .ref (v 12), .int 0, .int 0, .int 0, .int 0, .int 0, .int 0, .int 0, .ref (v 13), .int 0, .int 0, .int 0, .int 0, .ref (v 14), .ref (v 15), .int 0, .ref (v 16), .ref (v 17), .ref (v 18), .ref (v 19), .ref (v 20), .int 0, .ref (v 21), .ref (v 22), .ref (v 23), .ref (v 24), .ref (v 25), .ref (v 26), .ref (v 27), .int 0, .int 0, .int 0, .int 0, .int 0, .int 0, .int 0, .ref (v 28), .ref (v 29), .int 0, .int 0, .int 0, .int 0])), ((v 0), .inl (k 0, 4, .inl (fun _ => 0))), ((v 2), .inl (k 0, 4, .inl (fun _ => 0)))] := S
  have hw2 : r3 = 0 := hw2
  subst hw2
  refine lv_aload_n hx hb d_La_law_272 rfl (lv_at hl 1 rfl) ?_
  refine r_backl (wi := [(mo, .inr (8, [.int 0, .ref (v 0), .ref (v 1), .ref (v 2), .int (-2), .ref (v 3), .ref (v 4), .ref (v 5), .ref (v 6), .int 0, .long 0, .int (-2), .int 0, .ref (v 7), .ref (v 8), .ref (v 9), .ref (v 10), .ref (v 11), .int 0, .ref (v 12), .int 0, .int 0, .int 0, .int 0, .int 0, .int 0, .int 0, .ref (v 13), .int 0, .int 0, .int 0, .int 0, .ref (v 14), .ref (v 15), .int 0, .ref (v 16), .ref (v 17), .ref (v 18), .ref (v 19), .ref (v 20), .int 0, .ref (v 21), .ref (v 22), .ref (v 23), .ref (v 24), .ref (v 25), .ref (v 26), .ref (v 27), .int 0, .int 0, .int 0, .int 0, .int 0, .int 0, .int 0, .ref (v 28), .ref (v 29), .int 0, .int 0, .int 0, .int 0]))]) (wr := [((u 0), .inl (k 3, 4, .inr (.inr (.inr (.inr (va_up (va_up (va_up (va_up (fun _ => none) 0 (some (u 1))) 1 (some (u 8))) 2 (some (u 15))) 3 (some (u 22)))))))), ((u 1), .inr (4, [.ref (u 2), .ref (u 3), .ref (u 4), .ref (u 5), .ref (u 6), .ref (u 7), .int 0, .int 0, .int 0])), ((u 59), .inr (3, [.ref (u 60), .ref (u 61), .ref (u 63), .ref (u 65), .ref (u 67), .ref (u 69), .int 0, .int 0])), ((v 0), .inl (k 0, 4, .inl (fun _ => 0))), ((v 2), .inl (k 0, 4, .inl (fun _ => 0)))]) S hA [3] [0, 1, 2, 4, 5] rfl rfl (by decide) (by decide) (va_runV (As := []) (rest := [.long 0]) ⟨hx, hb, C.2.2.1, C.2.2.2.1, C.2.2.2.2.1⟩ (f_Mo_cost l G k mo _ v) (k_virt (n := 0) C wc_Mo_cost rfl rfl wz_Mo wm_La_46 wn_Mo_cost ws_Mo_cost (by decide +kernel) ⟨(Nat.le_of_ble_eq_true rfl), (Nat.le_of_ble_eq_true rfl)⟩) (pr_nowV K S [3] (by decide) rfl 3 rfl rfl) rfl rfl hl.1 rfl (lv_room (Nat.le_of_ble_eq_true rfl)) d_La_law_273 ⟨(Nat.le_of_ble_eq_true rfl), (Nat.le_of_ble_eq_true rfl)⟩) (fun r6 u4 H locs hw5 S => ?_)
  have S : Sw G A s.heap _ _ [((u 0), .inl (k 3, 4, .inr (.inr (.inr (.inr (va_up (va_up (va_up (va_up (fun _ => none) 0 (some (u 1))) 1 (some (u 8))) 2 (some (u 15))) 3 (some (u 22)))))))), ((u 1), .inr (4, [.ref (u 2), .ref (u 3), .ref (u 4), .ref (u 5), .ref (u 6), .ref (u 7), .int 0, .int 0, .int 0])), ((u 59), .inr (3, [.ref (u 60), .ref (u 61), .ref (u 63), .ref (u 65), .ref (u 67), .ref (u 69), .int 0, .int 0])), ((v 0), .inl (k 0, 4, .inl (fun _ => 0))), ((v 2), .inl (k 0, 4, .inl (fun _ => 0)))] := S
  have hw5 : r6 = 0 := hw5
  subst hw5
  refine W.lcmp hx hb d_La_law_276 ?_
  rw [show lg_cmp (0 : Int64) 0 = 0 from by decide]
  refine lv_if_eq (tgt := 471) hx hb d_La_law_277 (by decide) (fun _ => ?_) (fun hq => absurd (by decide) hq)
  exact law_end C K hX hbl hA hA2 (Nat.le_of_ble_eq_true rfl) (Nat.le_of_ble_eq_true rfl) S ls hl
set_option maxRecDepth 100000 in
set_option maxHeartbeats 4000000 in
theorem law_c7 {p : Program} {l : Launch} {e : Env} {s : State} {m : MethodId} {below : List Frame} {meth : Method} {c : Code} {G : va_G} {k : Nat → ClassId} {b : Nat} {xs : Nat → Int32} {A : Nat → Prop} (C : Cx p s m #[Value.ref b] meth c code "PotentialBenchLaw" 4 ret meth.name) (K : Kn G k s) (hX : va_X b 6 xs s s.heap) (hbl : b < s.heap.size) (hA : ∀ q, s.heap.size ≤ q → A q) (hA2 : ∀ q, A q → s.heap.size ≤ q) {H : Heap} {locs : List Loc} {pb mo : Nat} {u v : Nat → Nat} (S : Sw G A s.heap H locs [(pb, .inr (0, [.ref (u 0), .ref (u 29), .ref (u 30), .ref (u 35), .ref (u 43), .ref (u 59), .int 0, .int (-2), .int 0])), ((u 0), .inl (k 3, 4, .inr (.inr (.inr (.inr (va_up (va_up (va_up (va_up (fun _ => none) 0 (some (u 1))) 1 (some (u 8))) 2 (some (u 15))) 3 (some (u 22)))))))), ((u 1), .inr (4, [.ref (u 2), .ref (u 3), .ref (u 4), .ref (u 5), .ref (u 6), .ref (u 7), .int 0, .int 0, .int 0])), ((u 30), .inr (6, [.ref (u 0), .ref (u 31), .ref (u 32), .ref (u 33), .ref (u 34), .int 0, .int 0, .int 0, .int 0, .int 0, .long 0, .int (-2)])), ((u 59), .inr (3, [.ref (u 60), .ref (u 61), .ref (u 63), .ref (u 65), .ref (u 67), .ref (u 69), .int 0, .int 0])), (mo, .inr (8, [.int 0, .ref (v 0), .ref (v 1), .ref (v 2), .int (-2), .ref (v 3), .ref (v 4), .ref (v 5), .ref (v 6), .int 0, .long 0, .int (-2), .int 0, .ref (v 7), .ref (v 8), .ref (v 9), .ref (v 10), .ref (v 11), .int 0, .ref (v 12), .int 0, .int 0, .int 0, .int 0, .int 0, .int 0, .int 0, .ref (v 13), .int 0, .int 0, .int 0, .int 0, .ref (v 14), .ref (v 15), .int 0, .ref (v 16), .ref (v 17), .ref (v 18), .ref (v 19), .ref (v 20), .int 0, .ref (v 21), .ref (v 22), .ref (v 23), .ref (v 24), .ref (v 25), .ref (v 26), .ref (v 27), .int 0, .int 0, .int 0, .int 0, .int 0, .int 0, .int 0, .ref (v 28), .ref (v 29), .int 0, .int 0, .int 0, .int 0])), ((v 0), .inl (k 0, 4, .inl (fun _ => 0))), ((v 2), .inl (k 0, 4, .inl (fun _ => 0)))]) (ls : Array Slot) (hl : lv_has ls 4 [(3, .int 0), (2, .ref mo), (1, .ref pb), (0, .ref b)]) : W p l e room_1 s m #[Value.ref b] below meth c H locs 541 404588 (lw_Z below #[Value.ref b] s) (F0 m 282 ls []) := by
  have hx := C.1
  have hb := C.2.1
  have hbA : ¬ A b := fun h => absurd (hA2 b h) (Nat.not_le.mpr hbl)
  refine lv_aload_n hx hb d_La_law_282 rfl (lv_at hl 2 rfl) ?_
  refine r_backi (wi := [(pb, .inr (0, [.ref (u 0), .ref (u 29), .ref (u 30), .ref (u 35), .ref (u 43), .ref (u 59), .int 0, .int (-2), .int 0])), ((u 30), .inr (6, [.ref (u 0), .ref (u 31), .ref (u 32), .ref (u 33), .ref (u 34), .int 0, .int 0, .int 0, .int 0, .int 0, .long 0, .int (-2)]))]) (wr := [((u 0), .inl (k 3, 4, .inr (.inr (.inr (.inr (va_up (va_up (va_up (va_up (fun _ => none) 0 (some (u 1))) 1 (some (u 8))) 2 (some (u 15))) 3 (some (u 22)))))))), ((u 1), .inr (4, [.ref (u 2), .ref (u 3), .ref (u 4), .ref (u 5), .ref (u 6), .ref (u 7), .int 0, .int 0, .int 0])), ((u 59), .inr (3, [.ref (u 60), .ref (u 61), .ref (u 63), .ref (u 65), .ref (u 67), .ref (u 69), .int 0, .int 0])), (mo, .inr (8, [.int 0, .ref (v 0), .ref (v 1), .ref (v 2), .int (-2), .ref (v 3), .ref (v 4), .ref (v 5), .ref (v 6), .int 0, .long 0, .int (-2), .int 0, .ref (v 7), .ref (v 8), .ref (v 9), .ref (v 10), .ref (v 11), .int 0, .ref (v 12), .int 0, .int 0, .int 0, .int 0, .int 0, .int 0, .int 0, .ref (v 13), .int 0, .int 0, .int 0, .int 0, .ref (v 14), .ref (v 15), .int 0, .ref (v 16), .ref (v 17), .ref (v 18), .ref (v 19), .ref (v 20), .int 0, .ref (v 21), .ref (v 22), .ref (v 23), .ref (v 24), .ref (v 25), .ref (v 26), .ref (v 27), .int 0, .int 0, .int 0, .int 0, .int 0, .int 0, .int 0, .ref (v 28), .ref (v 29), .int 0, .int 0, .int 0, .int 0])), ((v 0), .inl (k 0, 4, .inl (fun _ => 0))), ((v 2), .inl (k 0, 4, .inl (fun _ => 0)))]) S hA [0, 3] [1, 2, 4, 5, 6, 7] rfl rfl (by decide) (by decide) (va_runV (As := []) (rest := []) ⟨hx, hb, C.2.2.1, C.2.2.2.1, C.2.2.2.2.1⟩ (f_PB_given l G k pb _ (u 0) (u 29) (u 30) (u 35) (u 43) (u 59) (u 0) (u 31) (u 32) (u 33) (u 34)) (k_virt (n := 0) C wc_PB_given rfl rfl wz_PB wm_La_47 wn_PB_given ws_PB_given (by decide +kernel) ⟨(Nat.le_of_ble_eq_true rfl), (Nat.le_of_ble_eq_true rfl)⟩) (pr_nowV K S [0, 3] (by decide) rfl 0 rfl rfl) rfl rfl hl.1 rfl (lv_room (Nat.le_of_ble_eq_true rfl)) d_La_law_283 ⟨(Nat.le_of_ble_eq_true rfl), (Nat.le_of_ble_eq_true rfl)⟩) (fun r3 u1 H locs hw2 S => ?_)
  have S : Sw G A s.heap _ _ [((u 0), .inl (k 3, 4, .inr (.inr (.inr (.inr (va_up (va_up (va_up (va_up (fun _ => none) 0 (some (u 1))) 1 (some (u 8))) 2 (some (u 15))) 3 (some (u 22)))))))), ((u 1), .inr (4, [.ref (u 2), .ref (u 3), .ref (u 4), .ref (u 5), .ref (u 6), .ref (u 7), .int 0, .int 0, .int 0])), ((u 59), .inr (3, [.ref (u 60), .ref (u 61), .ref (u 63), .ref (u 65), .ref (u 67), .ref (u 69), .int 0, .int 0])), (mo, .inr (8, [.int 0, .ref (v 0), .ref (v 1), .ref (v 2), .int (-2), .ref (v 3), .ref (v 4), .ref (v 5), .ref (v 6), .int 0, .long 0, .int (-2), .int 0, .ref (v 7), .ref (v 8), .ref (v 9), .ref (v 10), .ref (v 11), .int 0, .ref (v 12), .int 0, .int 0, .int 0, .int 0, .int 0, .int 0, .int 0, .ref (v 13), .int 0, .int 0, .int 0, .int 0, .ref (v 14), .ref (v 15), .int 0, .ref (v 16), .ref (v 17), .ref (v 18), .ref (v 19), .ref (v 20), .int 0, .ref (v 21), .ref (v 22), .ref (v 23), .ref (v 24), .ref (v 25), .ref (v 26), .ref (v 27), .int 0, .int 0, .int 0, .int 0, .int 0, .int 0, .int 0, .ref (v 28), .ref (v 29), .int 0, .int 0, .int 0, .int 0])), ((v 0), .inl (k 0, 4, .inl (fun _ => 0))), ((v 2), .inl (k 0, 4, .inl (fun _ => 0)))] := S
  have hw2 : r3 = (-2) := hw2
  subst hw2
  refine lv_aload_n hx hb d_La_law_286 rfl (lv_at hl 1 rfl) ?_
  refine r_backi (wi := [(mo, .inr (8, [.int 0, .ref (v 0), .ref (v 1), .ref (v 2), .int (-2), .ref (v 3), .ref (v 4), .ref (v 5), .ref (v 6), .int 0, .long 0, .int (-2), .int 0, .ref (v 7), .ref (v 8), .ref (v 9), .ref (v 10), .ref (v 11), .int 0, .ref (v 12), .int 0, .int 0, .int 0, .int 0, .int 0, .int 0, .int 0, .ref (v 13), .int 0, .int 0, .int 0, .int 0, .ref (v 14), .ref (v 15), .int 0, .ref (v 16), .ref (v 17), .ref (v 18), .ref (v 19), .ref (v 20), .int 0, .ref (v 21), .ref (v 22), .ref (v 23), .ref (v 24), .ref (v 25), .ref (v 26), .ref (v 27), .int 0, .int 0, .int 0, .int 0, .int 0, .int 0, .int 0, .ref (v 28), .ref (v 29), .int 0, .int 0, .int 0, .int 0]))]) (wr := [((u 0), .inl (k 3, 4, .inr (.inr (.inr (.inr (va_up (va_up (va_up (va_up (fun _ => none) 0 (some (u 1))) 1 (some (u 8))) 2 (some (u 15))) 3 (some (u 22)))))))), ((u 1), .inr (4, [.ref (u 2), .ref (u 3), .ref (u 4), .ref (u 5), .ref (u 6), .ref (u 7), .int 0, .int 0, .int 0])), ((u 59), .inr (3, [.ref (u 60), .ref (u 61), .ref (u 63), .ref (u 65), .ref (u 67), .ref (u 69), .int 0, .int 0])), ((v 0), .inl (k 0, 4, .inl (fun _ => 0))), ((v 2), .inl (k 0, 4, .inl (fun _ => 0)))]) S hA [3] [0, 1, 2, 4, 5] rfl rfl (by decide) (by decide) (va_runV (As := []) (rest := [.int (-2)]) ⟨hx, hb, C.2.2.1, C.2.2.2.1, C.2.2.2.2.1⟩ (f_Mo_given l G k mo _ v) (k_virt (n := 0) C wc_Mo_given rfl rfl wz_Mo wm_La_50 wn_Mo_given ws_Mo_given (by decide +kernel) ⟨(Nat.le_of_ble_eq_true rfl), (Nat.le_of_ble_eq_true rfl)⟩) (pr_nowV K S [3] (by decide) rfl 3 rfl rfl) rfl rfl hl.1 rfl (lv_room (Nat.le_of_ble_eq_true rfl)) d_La_law_287 ⟨(Nat.le_of_ble_eq_true rfl), (Nat.le_of_ble_eq_true rfl)⟩) (fun r6 u4 H locs hw5 S => ?_)
  have S : Sw G A s.heap _ _ [((u 0), .inl (k 3, 4, .inr (.inr (.inr (.inr (va_up (va_up (va_up (va_up (fun _ => none) 0 (some (u 1))) 1 (some (u 8))) 2 (some (u 15))) 3 (some (u 22)))))))), ((u 1), .inr (4, [.ref (u 2), .ref (u 3), .ref (u 4), .ref (u 5), .ref (u 6), .ref (u 7), .int 0, .int 0, .int 0])), ((u 59), .inr (3, [.ref (u 60), .ref (u 61), .ref (u 63), .ref (u 65), .ref (u 67), .ref (u 69), .int 0, .int 0])), ((v 0), .inl (k 0, 4, .inl (fun _ => 0))), ((v 2), .inl (k 0, 4, .inl (fun _ => 0)))] := S
  have hw5 : r6 = (-2) := hw5
  subst hw5
  refine lv_icmp_eq (tgt := 471) hx hb d_La_law_290 (by decide) (fun _ => ?_) (fun hq => absurd (by decide) hq)
  exact law_end C K hX hbl hA hA2 (Nat.le_of_ble_eq_true rfl) (Nat.le_of_ble_eq_true rfl) S ls hl
set_option maxRecDepth 100000 in
set_option maxHeartbeats 4000000 in
theorem law_c8 {p : Program} {l : Launch} {e : Env} {s : State} {m : MethodId} {below : List Frame} {meth : Method} {c : Code} {G : va_G} {k : Nat → ClassId} {b : Nat} {xs : Nat → Int32} {A : Nat → Prop} (C : Cx p s m #[Value.ref b] meth c code "PotentialBenchLaw" 4 ret meth.name) (K : Kn G k s) (hX : va_X b 6 xs s s.heap) (hbl : b < s.heap.size) (hA : ∀ q, s.heap.size ≤ q → A q) (hA2 : ∀ q, A q → s.heap.size ≤ q) {H : Heap} {locs : List Loc} {pb mo : Nat} {u v : Nat → Nat} (S : Sw G A s.heap H locs [(pb, .inr (0, [.ref (u 0), .ref (u 29), .ref (u 30), .ref (u 35), .ref (u 43), .ref (u 59), .int 0, .int (-2), .int 0])), ((u 0), .inl (k 3, 4, .inr (.inr (.inr (.inr (va_up (va_up (va_up (va_up (fun _ => none) 0 (some (u 1))) 1 (some (u 8))) 2 (some (u 15))) 3 (some (u 22)))))))), ((u 1), .inr (4, [.ref (u 2), .ref (u 3), .ref (u 4), .ref (u 5), .ref (u 6), .ref (u 7), .int 0, .int 0, .int 0])), ((u 30), .inr (6, [.ref (u 0), .ref (u 31), .ref (u 32), .ref (u 33), .ref (u 34), .int 0, .int 0, .int 0, .int 0, .int 0, .long 0, .int (-2)])), ((u 59), .inr (3, [.ref (u 60), .ref (u 61), .ref (u 63), .ref (u 65), .ref (u 67), .ref (u 69), .int 0, .int 0])), (mo, .inr (8, [.int 0, .ref (v 0), .ref (v 1), .ref (v 2), .int (-2), .ref (v 3), .ref (v 4), .ref (v 5), .ref (v 6), .int 0, .long 0, .int (-2), .int 0, .ref (v 7), .ref (v 8), .ref (v 9), .ref (v 10), .ref (v 11), .int 0, .ref (v 12), .int 0, .int 0, .int 0, .int 0, .int 0, .int 0, .int 0, .ref (v 13), .int 0, .int 0, .int 0, .int 0, .ref (v 14), .ref (v 15), .int 0, .ref (v 16), .ref (v 17), .ref (v 18), .ref (v 19), .ref (v 20), .int 0, .ref (v 21), .ref (v 22), .ref (v 23), .ref (v 24), .ref (v 25), .ref (v 26), .ref (v 27), .int 0, .int 0, .int 0, .int 0, .int 0, .int 0, .int 0, .ref (v 28), .ref (v 29), .int 0, .int 0, .int 0, .int 0])), ((v 0), .inl (k 0, 4, .inl (fun _ => 0))), ((v 2), .inl (k 0, 4, .inl (fun _ => 0)))]) (ls : Array Slot) (hl : lv_has ls 4 [(3, .int 0), (2, .ref mo), (1, .ref pb), (0, .ref b)]) : W p l e room_1 s m #[Value.ref b] below meth c H locs 541 404588 (lw_Z below #[Value.ref b] s) (F0 m 295 ls []) := by
  have hx := C.1
  have hb := C.2.1
  have hbA : ¬ A b := fun h => absurd (hA2 b h) (Nat.not_le.mpr hbl)
  refine lv_aload_n hx hb d_La_law_295 rfl (lv_at hl 2 rfl) ?_
  refine r_backi (wi := [(pb, .inr (0, [.ref (u 0), .ref (u 29), .ref (u 30), .ref (u 35), .ref (u 43), .ref (u 59), .int 0, .int (-2), .int 0])), ((u 30), .inr (6, [.ref (u 0), .ref (u 31), .ref (u 32), .ref (u 33), .ref (u 34), .int 0, .int 0, .int 0, .int 0, .int 0, .long 0, .int (-2)]))]) (wr := [((u 0), .inl (k 3, 4, .inr (.inr (.inr (.inr (va_up (va_up (va_up (va_up (fun _ => none) 0 (some (u 1))) 1 (some (u 8))) 2 (some (u 15))) 3 (some (u 22)))))))), ((u 1), .inr (4, [.ref (u 2), .ref (u 3), .ref (u 4), .ref (u 5), .ref (u 6), .ref (u 7), .int 0, .int 0, .int 0])), ((u 59), .inr (3, [.ref (u 60), .ref (u 61), .ref (u 63), .ref (u 65), .ref (u 67), .ref (u 69), .int 0, .int 0])), (mo, .inr (8, [.int 0, .ref (v 0), .ref (v 1), .ref (v 2), .int (-2), .ref (v 3), .ref (v 4), .ref (v 5), .ref (v 6), .int 0, .long 0, .int (-2), .int 0, .ref (v 7), .ref (v 8), .ref (v 9), .ref (v 10), .ref (v 11), .int 0, .ref (v 12), .int 0, .int 0, .int 0, .int 0, .int 0, .int 0, .int 0, .ref (v 13), .int 0, .int 0, .int 0, .int 0, .ref (v 14), .ref (v 15), .int 0, .ref (v 16), .ref (v 17), .ref (v 18), .ref (v 19), .ref (v 20), .int 0, .ref (v 21), .ref (v 22), .ref (v 23), .ref (v 24), .ref (v 25), .ref (v 26), .ref (v 27), .int 0, .int 0, .int 0, .int 0, .int 0, .int 0, .int 0, .ref (v 28), .ref (v 29), .int 0, .int 0, .int 0, .int 0])), ((v 0), .inl (k 0, 4, .inl (fun _ => 0))), ((v 2), .inl (k 0, 4, .inl (fun _ => 0)))]) S hA [0, 3] [1, 2, 4, 5, 6, 7] rfl rfl (by decide) (by decide) (va_runV (As := []) (rest := []) ⟨hx, hb, C.2.2.1, C.2.2.2.1, C.2.2.2.2.1⟩ (f_PB_steps l G k pb _ (u 0) (u 29) (u 30) (u 35) (u 43) (u 59) (u 0) (u 31) (u 32) (u 33) (u 34)) (k_virt (n := 0) C wc_PB_steps rfl rfl wz_PB wm_La_51 wn_PB_steps ws_PB_steps (by decide +kernel) ⟨(Nat.le_of_ble_eq_true rfl), (Nat.le_of_ble_eq_true rfl)⟩) (pr_nowV K S [0, 3] (by decide) rfl 0 rfl rfl) rfl rfl hl.1 rfl (lv_room (Nat.le_of_ble_eq_true rfl)) d_La_law_296 ⟨(Nat.le_of_ble_eq_true rfl), (Nat.le_of_ble_eq_true rfl)⟩) (fun r3 u1 H locs hw2 S => ?_)
  have S : Sw G A s.heap _ _ [((u 0), .inl (k 3, 4, .inr (.inr (.inr (.inr (va_up (va_up (va_up (va_up (fun _ => none) 0 (some (u 1))) 1 (some (u 8))) 2 (some (u 15))) 3 (some (u 22)))))))), ((u 1), .inr (4, [.ref (u 2), .ref (u 3), .ref (u 4), .ref (u 5), .ref (u 6), .ref (u 7), .int 0, .int 0, .int 0])), ((u 59), .inr (3, [.ref (u 60), .ref (u 61), .ref (u 63), .ref (u 65), .ref (u 67), .ref (u 69), .int 0, .int 0])), (mo, .inr (8, [.int 0, .ref (v 0), .ref (v 1), .ref (v 2), .int (-2), .ref (v 3), .ref (v 4), .ref (v 5), .ref (v 6), .int 0, .long 0, .int (-2), .int 0, .ref (v 7), .ref (v 8), .ref (v 9), .ref (v 10), .ref (v 11), .int 0, .ref (v 12), .int 0, .int 0, .int 0, .int 0, .int 0, .int 0, .int 0, .ref (v 13), .int 0, .int 0, .int 0, .int 0, .ref (v 14), .ref (v 15), .int 0, .ref (v 16), .ref (v 17), .ref (v 18), .ref (v 19), .ref (v 20), .int 0, .ref (v 21), .ref (v 22), .ref (v 23), .ref (v 24), .ref (v 25), .ref (v 26), .ref (v 27), .int 0, .int 0, .int 0, .int 0, .int 0, .int 0, .int 0, .ref (v 28), .ref (v 29), .int 0, .int 0, .int 0, .int 0])), ((v 0), .inl (k 0, 4, .inl (fun _ => 0))), ((v 2), .inl (k 0, 4, .inl (fun _ => 0)))] := S
  have hw2 : r3 = 0 := hw2
  subst hw2
  refine lv_aload_n hx hb d_La_law_299 rfl (lv_at hl 1 rfl) ?_
  refine r_backi (wi := [(mo, .inr (8, [.int 0, .ref (v 0), .ref (v 1), .ref (v 2), .int (-2), .ref (v 3), .ref (v 4), .ref (v 5), .ref (v 6), .int 0, .long 0, .int (-2), .int 0, .ref (v 7), .ref (v 8), .ref (v 9), .ref (v 10), .ref (v 11), .int 0, .ref (v 12), .int 0, .int 0, .int 0, .int 0, .int 0, .int 0, .int 0, .ref (v 13), .int 0, .int 0, .int 0, .int 0, .ref (v 14), .ref (v 15), .int 0, .ref (v 16), .ref (v 17), .ref (v 18), .ref (v 19), .ref (v 20), .int 0, .ref (v 21), .ref (v 22), .ref (v 23), .ref (v 24), .ref (v 25), .ref (v 26), .ref (v 27), .int 0, .int 0, .int 0, .int 0, .int 0, .int 0, .int 0, .ref (v 28), .ref (v 29), .int 0, .int 0, .int 0, .int 0]))]) (wr := [((u 0), .inl (k 3, 4, .inr (.inr (.inr (.inr (va_up (va_up (va_up (va_up (fun _ => none) 0 (some (u 1))) 1 (some (u 8))) 2 (some (u 15))) 3 (some (u 22)))))))), ((u 1), .inr (4, [.ref (u 2), .ref (u 3), .ref (u 4), .ref (u 5), .ref (u 6), .ref (u 7), .int 0, .int 0, .int 0])), ((u 59), .inr (3, [.ref (u 60), .ref (u 61), .ref (u 63), .ref (u 65), .ref (u 67), .ref (u 69), .int 0, .int 0])), ((v 0), .inl (k 0, 4, .inl (fun _ => 0))), ((v 2), .inl (k 0, 4, .inl (fun _ => 0)))]) S hA [3] [0, 1, 2, 4, 5] rfl rfl (by decide) (by decide) (va_runV (As := []) (rest := [.int 0]) ⟨hx, hb, C.2.2.1, C.2.2.2.1, C.2.2.2.2.1⟩ (f_Mo_steps l G k mo _ v) (k_virt (n := 0) C wc_Mo_steps rfl rfl wz_Mo wm_La_54 wn_Mo_steps ws_Mo_steps (by decide +kernel) ⟨(Nat.le_of_ble_eq_true rfl), (Nat.le_of_ble_eq_true rfl)⟩) (pr_nowV K S [3] (by decide) rfl 3 rfl rfl) rfl rfl hl.1 rfl (lv_room (Nat.le_of_ble_eq_true rfl)) d_La_law_300 ⟨(Nat.le_of_ble_eq_true rfl), (Nat.le_of_ble_eq_true rfl)⟩) (fun r6 u4 H locs hw5 S => ?_)
  have S : Sw G A s.heap _ _ [((u 0), .inl (k 3, 4, .inr (.inr (.inr (.inr (va_up (va_up (va_up (va_up (fun _ => none) 0 (some (u 1))) 1 (some (u 8))) 2 (some (u 15))) 3 (some (u 22)))))))), ((u 1), .inr (4, [.ref (u 2), .ref (u 3), .ref (u 4), .ref (u 5), .ref (u 6), .ref (u 7), .int 0, .int 0, .int 0])), ((u 59), .inr (3, [.ref (u 60), .ref (u 61), .ref (u 63), .ref (u 65), .ref (u 67), .ref (u 69), .int 0, .int 0])), ((v 0), .inl (k 0, 4, .inl (fun _ => 0))), ((v 2), .inl (k 0, 4, .inl (fun _ => 0)))] := S
  have hw5 : r6 = 0 := hw5
  subst hw5
  refine lv_icmp_eq (tgt := 471) hx hb d_La_law_303 (by decide) (fun _ => ?_) (fun hq => absurd (by decide) hq)
  exact law_end C K hX hbl hA hA2 (Nat.le_of_ble_eq_true rfl) (Nat.le_of_ble_eq_true rfl) S ls hl
set_option maxRecDepth 100000 in
set_option maxHeartbeats 4000000 in
theorem law_c9 {p : Program} {l : Launch} {e : Env} {s : State} {m : MethodId} {below : List Frame} {meth : Method} {c : Code} {G : va_G} {k : Nat → ClassId} {b : Nat} {xs : Nat → Int32} {A : Nat → Prop} (C : Cx p s m #[Value.ref b] meth c code "PotentialBenchLaw" 4 ret meth.name) (K : Kn G k s) (hX : va_X b 6 xs s s.heap) (hbl : b < s.heap.size) (hA : ∀ q, s.heap.size ≤ q → A q) (hA2 : ∀ q, A q → s.heap.size ≤ q) {H : Heap} {locs : List Loc} {pb mo : Nat} {u v : Nat → Nat} (S : Sw G A s.heap H locs [(pb, .inr (0, [.ref (u 0), .ref (u 29), .ref (u 30), .ref (u 35), .ref (u 43), .ref (u 59), .int 0, .int (-2), .int 0])), ((u 0), .inl (k 3, 4, .inr (.inr (.inr (.inr (va_up (va_up (va_up (va_up (fun _ => none) 0 (some (u 1))) 1 (some (u 8))) 2 (some (u 15))) 3 (some (u 22)))))))), ((u 1), .inr (4, [.ref (u 2), .ref (u 3), .ref (u 4), .ref (u 5), .ref (u 6), .ref (u 7), .int 0, .int 0, .int 0])), ((u 30), .inr (6, [.ref (u 0), .ref (u 31), .ref (u 32), .ref (u 33), .ref (u 34), .int 0, .int 0, .int 0, .int 0, .int 0, .long 0, .int (-2)])), ((u 59), .inr (3, [.ref (u 60), .ref (u 61), .ref (u 63), .ref (u 65), .ref (u 67), .ref (u 69), .int 0, .int 0])), (mo, .inr (8, [.int 0, .ref (v 0), .ref (v 1), .ref (v 2), .int (-2), .ref (v 3), .ref (v 4), .ref (v 5), .ref (v 6), .int 0, .long 0, .int (-2), .int 0, .ref (v 7), .ref (v 8), .ref (v 9), .ref (v 10), .ref (v 11), .int 0, .ref (v 12), .int 0, .int 0, .int 0, .int 0, .int 0, .int 0, .int 0, .ref (v 13), .int 0, .int 0, .int 0, .int 0, .ref (v 14), .ref (v 15), .int 0, .ref (v 16), .ref (v 17), .ref (v 18), .ref (v 19), .ref (v 20), .int 0, .ref (v 21), .ref (v 22), .ref (v 23), .ref (v 24), .ref (v 25), .ref (v 26), .ref (v 27), .int 0, .int 0, .int 0, .int 0, .int 0, .int 0, .int 0, .ref (v 28), .ref (v 29), .int 0, .int 0, .int 0, .int 0])), ((v 0), .inl (k 0, 4, .inl (fun _ => 0))), ((v 2), .inl (k 0, 4, .inl (fun _ => 0)))]) (ls : Array Slot) (hl : lv_has ls 4 [(3, .int 0), (2, .ref mo), (1, .ref pb), (0, .ref b)]) : W p l e room_1 s m #[Value.ref b] below meth c H locs 541 404588 (lw_Z below #[Value.ref b] s) (F0 m 308 ls []) := by
  have hx := C.1
  have hb := C.2.1
  have hbA : ¬ A b := fun h => absurd (hA2 b h) (Nat.not_le.mpr hbl)
  refine lv_aload_n hx hb d_La_law_308 rfl (lv_at hl 2 rfl) ?_
  refine lv_aload_n hx hb d_La_law_309 rfl (lv_at hl 3 rfl) ?_
  refine lv_iload_n hx hb d_La_law_310 rfl (lv_at hl 0 rfl) ?_
  refine lv_iconst (v := 1) hx hb d_La_law_311 (by decide) ?_
  refine lv_iadd hx hb d_La_law_312 ?_
  rw [show (0 : Int32) + 1 = 1 from by decide]
  refine va_sld hx hb hX hbl hbA S.2.2 (i := 1) (by unfold vp_in; decide) d_La_law_313 ?_
  refine r_backi (wi := [(pb, .inr (0, [.ref (u 0), .ref (u 29), .ref (u 30), .ref (u 35), .ref (u 43), .ref (u 59), .int 0, .int (-2), .int 0])), ((u 59), .inr (3, [.ref (u 60), .ref (u 61), .ref (u 63), .ref (u 65), .ref (u 67), .ref (u 69), .int 0, .int 0]))]) (wr := [((u 0), .inl (k 3, 4, .inr (.inr (.inr (.inr (va_up (va_up (va_up (va_up (fun _ => none) 0 (some (u 1))) 1 (some (u 8))) 2 (some (u 15))) 3 (some (u 22)))))))), ((u 1), .inr (4, [.ref (u 2), .ref (u 3), .ref (u 4), .ref (u 5), .ref (u 6), .ref (u 7), .int 0, .int 0, .int 0])), ((u 30), .inr (6, [.ref (u 0), .ref (u 31), .ref (u 32), .ref (u 33), .ref (u 34), .int 0, .int 0, .int 0, .int 0, .int 0, .long 0, .int (-2)])), (mo, .inr (8, [.int 0, .ref (v 0), .ref (v 1), .ref (v 2), .int (-2), .ref (v 3), .ref (v 4), .ref (v 5), .ref (v 6), .int 0, .long 0, .int (-2), .int 0, .ref (v 7), .ref (v 8), .ref (v 9), .ref (v 10), .ref (v 11), .int 0, .ref (v 12), .int 0, .int 0, .int 0, .int 0, .int 0, .int 0, .int 0, .ref (v 13), .int 0, .int 0, .int 0, .int 0, .ref (v 14), .ref (v 15), .int 0, .ref (v 16), .ref (v 17), .ref (v 18), .ref (v 19), .ref (v 20), .int 0, .ref (v 21), .ref (v 22), .ref (v 23), .ref (v 24), .ref (v 25), .ref (v 26), .ref (v 27), .int 0, .int 0, .int 0, .int 0, .int 0, .int 0, .int 0, .ref (v 28), .ref (v 29), .int 0, .int 0, .int 0, .int 0])), ((v 0), .inl (k 0, 4, .inl (fun _ => 0))), ((v 2), .inl (k 0, 4, .inl (fun _ => 0)))]) S hA [0, 4] [1, 2, 3, 5, 6, 7] rfl rfl (by decide) (by decide) (va_runV (As := [.int (xs (Int32.toNatClampNeg 1))]) (rest := []) ⟨hx, hb, C.2.2.1, C.2.2.2.1, C.2.2.2.2.1⟩ (f_PB_bound l G k pb _ (u 0) (u 29) (u 30) (u 35) (u 43) (u 59) (u 60) (u 61) (u 63) (u 65) (u 67) (u 69) (xs (Int32.toNatClampNeg 1))) (k_virt (n := 1) C wc_PB_bound rfl rfl wz_PB wm_La_55 wn_PB_bound ws_PB_bound (by decide +kernel) ⟨(Nat.le_of_ble_eq_true rfl), (Nat.le_of_ble_eq_true rfl)⟩) (pr_nowV K S [0, 4] (by decide) rfl 0 rfl rfl) rfl rfl hl.1 rfl (lv_room (Nat.le_of_ble_eq_true rfl)) d_La_law_314 ⟨(Nat.le_of_ble_eq_true rfl), (Nat.le_of_ble_eq_true rfl)⟩) (fun r4 u2 H locs hw3 S => ?_)
  have S : Sw G A s.heap _ _ [((u 0), .inl (k 3, 4, .inr (.inr (.inr (.inr (va_up (va_up (va_up (va_up (fun _ => none) 0 (some (u 1))) 1 (some (u 8))) 2 (some (u 15))) 3 (some (u 22)))))))), ((u 1), .inr (4, [.ref (u 2), .ref (u 3), .ref (u 4), .ref (u 5), .ref (u 6), .ref (u 7), .int 0, .int 0, .int 0])), ((u 30), .inr (6, [.ref (u 0), .ref (u 31), .ref (u 32), .ref (u 33), .ref (u 34), .int 0, .int 0, .int 0, .int 0, .int 0, .long 0, .int (-2)])), (mo, .inr (8, [.int 0, .ref (v 0), .ref (v 1), .ref (v 2), .int (-2), .ref (v 3), .ref (v 4), .ref (v 5), .ref (v 6), .int 0, .long 0, .int (-2), .int 0, .ref (v 7), .ref (v 8), .ref (v 9), .ref (v 10), .ref (v 11), .int 0, .ref (v 12), .int 0, .int 0, .int 0, .int 0, .int 0, .int 0, .int 0, .ref (v 13), .int 0, .int 0, .int 0, .int 0, .ref (v 14), .ref (v 15), .int 0, .ref (v 16), .ref (v 17), .ref (v 18), .ref (v 19), .ref (v 20), .int 0, .ref (v 21), .ref (v 22), .ref (v 23), .ref (v 24), .ref (v 25), .ref (v 26), .ref (v 27), .int 0, .int 0, .int 0, .int 0, .int 0, .int 0, .int 0, .ref (v 28), .ref (v 29), .int 0, .int 0, .int 0, .int 0])), ((v 0), .inl (k 0, 4, .inl (fun _ => 0))), ((v 2), .inl (k 0, 4, .inl (fun _ => 0)))] := S
  have hw3 : r4 = (-1) := hw3
  subst hw3
  refine lv_aload_n hx hb d_La_law_317 rfl (lv_at hl 1 rfl) ?_
  refine lv_aload_n hx hb d_La_law_318 rfl (lv_at hl 3 rfl) ?_
  refine lv_iload_n hx hb d_La_law_319 rfl (lv_at hl 0 rfl) ?_
  refine lv_iconst (v := 1) hx hb d_La_law_320 (by decide) ?_
  refine lv_iadd hx hb d_La_law_321 ?_
  rw [show (0 : Int32) + 1 = 1 from by decide]
  refine va_sld hx hb hX hbl hbA S.2.2 (i := 1) (by unfold vp_in; decide) d_La_law_322 ?_
  refine r_backi (wi := [(mo, .inr (8, [.int 0, .ref (v 0), .ref (v 1), .ref (v 2), .int (-2), .ref (v 3), .ref (v 4), .ref (v 5), .ref (v 6), .int 0, .long 0, .int (-2), .int 0, .ref (v 7), .ref (v 8), .ref (v 9), .ref (v 10), .ref (v 11), .int 0, .ref (v 12), .int 0, .int 0, .int 0, .int 0, .int 0, .int 0, .int 0, .ref (v 13), .int 0, .int 0, .int 0, .int 0, .ref (v 14), .ref (v 15), .int 0, .ref (v 16), .ref (v 17), .ref (v 18), .ref (v 19), .ref (v 20), .int 0, .ref (v 21), .ref (v 22), .ref (v 23), .ref (v 24), .ref (v 25), .ref (v 26), .ref (v 27), .int 0, .int 0, .int 0, .int 0, .int 0, .int 0, .int 0, .ref (v 28), .ref (v 29), .int 0, .int 0, .int 0, .int 0]))]) (wr := [((u 0), .inl (k 3, 4, .inr (.inr (.inr (.inr (va_up (va_up (va_up (va_up (fun _ => none) 0 (some (u 1))) 1 (some (u 8))) 2 (some (u 15))) 3 (some (u 22)))))))), ((u 1), .inr (4, [.ref (u 2), .ref (u 3), .ref (u 4), .ref (u 5), .ref (u 6), .ref (u 7), .int 0, .int 0, .int 0])), ((u 30), .inr (6, [.ref (u 0), .ref (u 31), .ref (u 32), .ref (u 33), .ref (u 34), .int 0, .int 0, .int 0, .int 0, .int 0, .long 0, .int (-2)])), ((v 0), .inl (k 0, 4, .inl (fun _ => 0))), ((v 2), .inl (k 0, 4, .inl (fun _ => 0)))]) S hA [3] [0, 1, 2, 4, 5] rfl rfl (by decide) (by decide) (va_runV (As := [.int (xs (Int32.toNatClampNeg 1))]) (rest := [.int (-1)]) ⟨hx, hb, C.2.2.1, C.2.2.2.1, C.2.2.2.2.1⟩ (f_Mo_bound l G k mo _ v (xs (Int32.toNatClampNeg 1))) (k_virt (n := 1) C wc_Mo_bound rfl rfl wz_Mo wm_La_58 wn_Mo_bound ws_Mo_bound (by decide +kernel) ⟨(Nat.le_of_ble_eq_true rfl), (Nat.le_of_ble_eq_true rfl)⟩) (pr_nowV K S [3] (by decide) rfl 3 rfl rfl) rfl rfl hl.1 rfl (lv_room (Nat.le_of_ble_eq_true rfl)) d_La_law_323 ⟨(Nat.le_of_ble_eq_true rfl), (Nat.le_of_ble_eq_true rfl)⟩) (fun r8 u6 H locs hw7 S => ?_)
  have S : Sw G A s.heap _ _ [((u 0), .inl (k 3, 4, .inr (.inr (.inr (.inr (va_up (va_up (va_up (va_up (fun _ => none) 0 (some (u 1))) 1 (some (u 8))) 2 (some (u 15))) 3 (some (u 22)))))))), ((u 1), .inr (4, [.ref (u 2), .ref (u 3), .ref (u 4), .ref (u 5), .ref (u 6), .ref (u 7), .int 0, .int 0, .int 0])), ((u 30), .inr (6, [.ref (u 0), .ref (u 31), .ref (u 32), .ref (u 33), .ref (u 34), .int 0, .int 0, .int 0, .int 0, .int 0, .long 0, .int (-2)])), ((v 0), .inl (k 0, 4, .inl (fun _ => 0))), ((v 2), .inl (k 0, 4, .inl (fun _ => 0)))] := S
  have hw7 : r8 = (-1) := hw7
  subst hw7
  refine lv_icmp_eq (tgt := 471) hx hb d_La_law_326 (by decide) (fun _ => ?_) (fun hq => absurd (by decide) hq)
  exact law_end C K hX hbl hA hA2 (Nat.le_of_ble_eq_true rfl) (Nat.le_of_ble_eq_true rfl) S ls hl
set_option maxRecDepth 100000 in
set_option maxHeartbeats 4000000 in
theorem law_c10 {p : Program} {l : Launch} {e : Env} {s : State} {m : MethodId} {below : List Frame} {meth : Method} {c : Code} {G : va_G} {k : Nat → ClassId} {b : Nat} {xs : Nat → Int32} {A : Nat → Prop} (C : Cx p s m #[Value.ref b] meth c code "PotentialBenchLaw" 4 ret meth.name) (K : Kn G k s) (hX : va_X b 6 xs s s.heap) (hbl : b < s.heap.size) (hA : ∀ q, s.heap.size ≤ q → A q) (hA2 : ∀ q, A q → s.heap.size ≤ q) {H : Heap} {locs : List Loc} {pb mo : Nat} {u v : Nat → Nat} (S : Sw G A s.heap H locs [(pb, .inr (0, [.ref (u 0), .ref (u 29), .ref (u 30), .ref (u 35), .ref (u 43), .ref (u 59), .int 0, .int (-2), .int 0])), ((u 0), .inl (k 3, 4, .inr (.inr (.inr (.inr (va_up (va_up (va_up (va_up (fun _ => none) 0 (some (u 1))) 1 (some (u 8))) 2 (some (u 15))) 3 (some (u 22)))))))), ((u 1), .inr (4, [.ref (u 2), .ref (u 3), .ref (u 4), .ref (u 5), .ref (u 6), .ref (u 7), .int 0, .int 0, .int 0])), ((u 30), .inr (6, [.ref (u 0), .ref (u 31), .ref (u 32), .ref (u 33), .ref (u 34), .int 0, .int 0, .int 0, .int 0, .int 0, .long 0, .int (-2)])), ((u 59), .inr (3, [.ref (u 60), .ref (u 61), .ref (u 63), .ref (u 65), .ref (u 67), .ref (u 69), .int 0, .int 0])), (mo, .inr (8, [.int 0, .ref (v 0), .ref (v 1), .ref (v 2), .int (-2), .ref (v 3), .ref (v 4), .ref (v 5), .ref (v 6), .int 0, .long 0, .int (-2), .int 0, .ref (v 7), .ref (v 8), .ref (v 9), .ref (v 10), .ref (v 11), .int 0, .ref (v 12), .int 0, .int 0, .int 0, .int 0, .int 0, .int 0, .int 0, .ref (v 13), .int 0, .int 0, .int 0, .int 0, .ref (v 14), .ref (v 15), .int 0, .ref (v 16), .ref (v 17), .ref (v 18), .ref (v 19), .ref (v 20), .int 0, .ref (v 21), .ref (v 22), .ref (v 23), .ref (v 24), .ref (v 25), .ref (v 26), .ref (v 27), .int 0, .int 0, .int 0, .int 0, .int 0, .int 0, .int 0, .ref (v 28), .ref (v 29), .int 0, .int 0, .int 0, .int 0])), ((v 0), .inl (k 0, 4, .inl (fun _ => 0))), ((v 2), .inl (k 0, 4, .inl (fun _ => 0)))]) (ls : Array Slot) (hl : lv_has ls 4 [(3, .int 0), (2, .ref mo), (1, .ref pb), (0, .ref b)]) : W p l e room_1 s m #[Value.ref b] below meth c H locs 541 404588 (lw_Z below #[Value.ref b] s) (F0 m 331 ls []) := by
  have hx := C.1
  have hb := C.2.1
  have hbA : ¬ A b := fun h => absurd (hA2 b h) (Nat.not_le.mpr hbl)
  refine lv_aload_n hx hb d_La_law_331 rfl (lv_at hl 2 rfl) ?_
  refine lv_aload_n hx hb d_La_law_332 rfl (lv_at hl 3 rfl) ?_
  refine lv_iload_n hx hb d_La_law_333 rfl (lv_at hl 0 rfl) ?_
  refine lv_iconst (v := 1) hx hb d_La_law_334 (by decide) ?_
  refine lv_iadd hx hb d_La_law_335 ?_
  rw [show (0 : Int32) + 1 = 1 from by decide]
  refine va_sld hx hb hX hbl hbA S.2.2 (i := 1) (by unfold vp_in; decide) d_La_law_336 ?_
  refine r_backi (wi := [(pb, .inr (0, [.ref (u 0), .ref (u 29), .ref (u 30), .ref (u 35), .ref (u 43), .ref (u 59), .int 0, .int (-2), .int 0]))]) (wr := [((u 0), .inl (k 3, 4, .inr (.inr (.inr (.inr (va_up (va_up (va_up (va_up (fun _ => none) 0 (some (u 1))) 1 (some (u 8))) 2 (some (u 15))) 3 (some (u 22)))))))), ((u 1), .inr (4, [.ref (u 2), .ref (u 3), .ref (u 4), .ref (u 5), .ref (u 6), .ref (u 7), .int 0, .int 0, .int 0])), ((u 30), .inr (6, [.ref (u 0), .ref (u 31), .ref (u 32), .ref (u 33), .ref (u 34), .int 0, .int 0, .int 0, .int 0, .int 0, .long 0, .int (-2)])), ((u 59), .inr (3, [.ref (u 60), .ref (u 61), .ref (u 63), .ref (u 65), .ref (u 67), .ref (u 69), .int 0, .int 0])), (mo, .inr (8, [.int 0, .ref (v 0), .ref (v 1), .ref (v 2), .int (-2), .ref (v 3), .ref (v 4), .ref (v 5), .ref (v 6), .int 0, .long 0, .int (-2), .int 0, .ref (v 7), .ref (v 8), .ref (v 9), .ref (v 10), .ref (v 11), .int 0, .ref (v 12), .int 0, .int 0, .int 0, .int 0, .int 0, .int 0, .int 0, .ref (v 13), .int 0, .int 0, .int 0, .int 0, .ref (v 14), .ref (v 15), .int 0, .ref (v 16), .ref (v 17), .ref (v 18), .ref (v 19), .ref (v 20), .int 0, .ref (v 21), .ref (v 22), .ref (v 23), .ref (v 24), .ref (v 25), .ref (v 26), .ref (v 27), .int 0, .int 0, .int 0, .int 0, .int 0, .int 0, .int 0, .ref (v 28), .ref (v 29), .int 0, .int 0, .int 0, .int 0])), ((v 0), .inl (k 0, 4, .inl (fun _ => 0))), ((v 2), .inl (k 0, 4, .inl (fun _ => 0)))]) S hA [0] [1, 2, 3, 4, 5, 6, 7] rfl rfl (by decide) (by decide) (va_runV (As := [.int (xs (Int32.toNatClampNeg 1))]) (rest := []) ⟨hx, hb, C.2.2.1, C.2.2.2.1, C.2.2.2.2.1⟩ (f_PB_told l G k pb _ (u 0) (u 29) (u 30) (u 35) (u 43) (u 59) (xs (Int32.toNatClampNeg 1))) (k_virt (n := 1) C wc_PB_told rfl rfl wz_PB wm_La_59 wn_PB_told ws_PB_told (by decide +kernel) ⟨(Nat.le_of_ble_eq_true rfl), (Nat.le_of_ble_eq_true rfl)⟩) (pr_nowV K S [0] (by decide) rfl 0 rfl rfl) rfl rfl hl.1 rfl (lv_room (Nat.le_of_ble_eq_true rfl)) d_La_law_337 ⟨(Nat.le_of_ble_eq_true rfl), (Nat.le_of_ble_eq_true rfl)⟩) (fun r4 u2 H locs hw3 S => ?_)
  have S : Sw G A s.heap _ _ [((u 0), .inl (k 3, 4, .inr (.inr (.inr (.inr (va_up (va_up (va_up (va_up (fun _ => none) 0 (some (u 1))) 1 (some (u 8))) 2 (some (u 15))) 3 (some (u 22)))))))), ((u 1), .inr (4, [.ref (u 2), .ref (u 3), .ref (u 4), .ref (u 5), .ref (u 6), .ref (u 7), .int 0, .int 0, .int 0])), ((u 30), .inr (6, [.ref (u 0), .ref (u 31), .ref (u 32), .ref (u 33), .ref (u 34), .int 0, .int 0, .int 0, .int 0, .int 0, .long 0, .int (-2)])), ((u 59), .inr (3, [.ref (u 60), .ref (u 61), .ref (u 63), .ref (u 65), .ref (u 67), .ref (u 69), .int 0, .int 0])), (mo, .inr (8, [.int 0, .ref (v 0), .ref (v 1), .ref (v 2), .int (-2), .ref (v 3), .ref (v 4), .ref (v 5), .ref (v 6), .int 0, .long 0, .int (-2), .int 0, .ref (v 7), .ref (v 8), .ref (v 9), .ref (v 10), .ref (v 11), .int 0, .ref (v 12), .int 0, .int 0, .int 0, .int 0, .int 0, .int 0, .int 0, .ref (v 13), .int 0, .int 0, .int 0, .int 0, .ref (v 14), .ref (v 15), .int 0, .ref (v 16), .ref (v 17), .ref (v 18), .ref (v 19), .ref (v 20), .int 0, .ref (v 21), .ref (v 22), .ref (v 23), .ref (v 24), .ref (v 25), .ref (v 26), .ref (v 27), .int 0, .int 0, .int 0, .int 0, .int 0, .int 0, .int 0, .ref (v 28), .ref (v 29), .int 0, .int 0, .int 0, .int 0])), ((v 0), .inl (k 0, 4, .inl (fun _ => 0))), ((v 2), .inl (k 0, 4, .inl (fun _ => 0)))] := S
  have hw3 : r4 = (-2) := hw3
  subst hw3
  refine lv_aload_n hx hb d_La_law_340 rfl (lv_at hl 1 rfl) ?_
  refine lv_aload_n hx hb d_La_law_341 rfl (lv_at hl 3 rfl) ?_
  refine lv_iload_n hx hb d_La_law_342 rfl (lv_at hl 0 rfl) ?_
  refine lv_iconst (v := 1) hx hb d_La_law_343 (by decide) ?_
  refine lv_iadd hx hb d_La_law_344 ?_
  rw [show (0 : Int32) + 1 = 1 from by decide]
  refine va_sld hx hb hX hbl hbA S.2.2 (i := 1) (by unfold vp_in; decide) d_La_law_345 ?_
  refine r_backi (wi := [(mo, .inr (8, [.int 0, .ref (v 0), .ref (v 1), .ref (v 2), .int (-2), .ref (v 3), .ref (v 4), .ref (v 5), .ref (v 6), .int 0, .long 0, .int (-2), .int 0, .ref (v 7), .ref (v 8), .ref (v 9), .ref (v 10), .ref (v 11), .int 0, .ref (v 12), .int 0, .int 0, .int 0, .int 0, .int 0, .int 0, .int 0, .ref (v 13), .int 0, .int 0, .int 0, .int 0, .ref (v 14), .ref (v 15), .int 0, .ref (v 16), .ref (v 17), .ref (v 18), .ref (v 19), .ref (v 20), .int 0, .ref (v 21), .ref (v 22), .ref (v 23), .ref (v 24), .ref (v 25), .ref (v 26), .ref (v 27), .int 0, .int 0, .int 0, .int 0, .int 0, .int 0, .int 0, .ref (v 28), .ref (v 29), .int 0, .int 0, .int 0, .int 0]))]) (wr := [((u 0), .inl (k 3, 4, .inr (.inr (.inr (.inr (va_up (va_up (va_up (va_up (fun _ => none) 0 (some (u 1))) 1 (some (u 8))) 2 (some (u 15))) 3 (some (u 22)))))))), ((u 1), .inr (4, [.ref (u 2), .ref (u 3), .ref (u 4), .ref (u 5), .ref (u 6), .ref (u 7), .int 0, .int 0, .int 0])), ((u 30), .inr (6, [.ref (u 0), .ref (u 31), .ref (u 32), .ref (u 33), .ref (u 34), .int 0, .int 0, .int 0, .int 0, .int 0, .long 0, .int (-2)])), ((u 59), .inr (3, [.ref (u 60), .ref (u 61), .ref (u 63), .ref (u 65), .ref (u 67), .ref (u 69), .int 0, .int 0])), ((v 0), .inl (k 0, 4, .inl (fun _ => 0))), ((v 2), .inl (k 0, 4, .inl (fun _ => 0)))]) S hA [4] [0, 1, 2, 3, 5, 6] rfl rfl (by decide) (by decide) (va_runV (As := [.int (xs (Int32.toNatClampNeg 1))]) (rest := [.int (-2)]) ⟨hx, hb, C.2.2.1, C.2.2.2.1, C.2.2.2.2.1⟩ (f_Mo_told l G k mo _ v (xs (Int32.toNatClampNeg 1))) (k_virt (n := 1) C wc_Mo_told rfl rfl wz_Mo wm_La_62 wn_Mo_told ws_Mo_told (by decide +kernel) ⟨(Nat.le_of_ble_eq_true rfl), (Nat.le_of_ble_eq_true rfl)⟩) (pr_nowV K S [4] (by decide) rfl 4 rfl rfl) rfl rfl hl.1 rfl (lv_room (Nat.le_of_ble_eq_true rfl)) d_La_law_346 ⟨(Nat.le_of_ble_eq_true rfl), (Nat.le_of_ble_eq_true rfl)⟩) (fun r8 u6 H locs hw7 S => ?_)
  have S : Sw G A s.heap _ _ [((u 0), .inl (k 3, 4, .inr (.inr (.inr (.inr (va_up (va_up (va_up (va_up (fun _ => none) 0 (some (u 1))) 1 (some (u 8))) 2 (some (u 15))) 3 (some (u 22)))))))), ((u 1), .inr (4, [.ref (u 2), .ref (u 3), .ref (u 4), .ref (u 5), .ref (u 6), .ref (u 7), .int 0, .int 0, .int 0])), ((u 30), .inr (6, [.ref (u 0), .ref (u 31), .ref (u 32), .ref (u 33), .ref (u 34), .int 0, .int 0, .int 0, .int 0, .int 0, .long 0, .int (-2)])), ((u 59), .inr (3, [.ref (u 60), .ref (u 61), .ref (u 63), .ref (u 65), .ref (u 67), .ref (u 69), .int 0, .int 0])), ((v 0), .inl (k 0, 4, .inl (fun _ => 0))), ((v 2), .inl (k 0, 4, .inl (fun _ => 0)))] := S
  have hw7 : r8 = (-2) := hw7
  subst hw7
  refine lv_icmp_eq (tgt := 471) hx hb d_La_law_349 (by decide) (fun _ => ?_) (fun hq => absurd (by decide) hq)
  exact law_end C K hX hbl hA hA2 (Nat.le_of_ble_eq_true rfl) (Nat.le_of_ble_eq_true rfl) S ls hl
set_option maxRecDepth 100000 in
set_option maxHeartbeats 4000000 in
theorem law_c11 {p : Program} {l : Launch} {e : Env} {s : State} {m : MethodId} {below : List Frame} {meth : Method} {c : Code} {G : va_G} {k : Nat → ClassId} {b : Nat} {xs : Nat → Int32} {A : Nat → Prop} (C : Cx p s m #[Value.ref b] meth c code "PotentialBenchLaw" 4 ret meth.name) (K : Kn G k s) (hX : va_X b 6 xs s s.heap) (hbl : b < s.heap.size) (hA : ∀ q, s.heap.size ≤ q → A q) (hA2 : ∀ q, A q → s.heap.size ≤ q) {H : Heap} {locs : List Loc} {pb mo : Nat} {u v : Nat → Nat} (S : Sw G A s.heap H locs [(pb, .inr (0, [.ref (u 0), .ref (u 29), .ref (u 30), .ref (u 35), .ref (u 43), .ref (u 59), .int 0, .int (-2), .int 0])), ((u 0), .inl (k 3, 4, .inr (.inr (.inr (.inr (va_up (va_up (va_up (va_up (fun _ => none) 0 (some (u 1))) 1 (some (u 8))) 2 (some (u 15))) 3 (some (u 22)))))))), ((u 1), .inr (4, [.ref (u 2), .ref (u 3), .ref (u 4), .ref (u 5), .ref (u 6), .ref (u 7), .int 0, .int 0, .int 0])), ((u 30), .inr (6, [.ref (u 0), .ref (u 31), .ref (u 32), .ref (u 33), .ref (u 34), .int 0, .int 0, .int 0, .int 0, .int 0, .long 0, .int (-2)])), ((u 59), .inr (3, [.ref (u 60), .ref (u 61), .ref (u 63), .ref (u 65), .ref (u 67), .ref (u 69), .int 0, .int 0])), (mo, .inr (8, [.int 0, .ref (v 0), .ref (v 1), .ref (v 2), .int (-2), .ref (v 3), .ref (v 4), .ref (v 5), .ref (v 6), .int 0, .long 0, .int (-2), .int 0, .ref (v 7), .ref (v 8), .ref (v 9), .ref (v 10), .ref (v 11), .int 0, .ref (v 12), .int 0, .int 0, .int 0, .int 0, .int 0, .int 0, .int 0, .ref (v 13), .int 0, .int 0, .int 0, .int 0, .ref (v 14), .ref (v 15), .int 0, .ref (v 16), .ref (v 17), .ref (v 18), .ref (v 19), .ref (v 20), .int 0, .ref (v 21), .ref (v 22), .ref (v 23), .ref (v 24), .ref (v 25), .ref (v 26), .ref (v 27), .int 0, .int 0, .int 0, .int 0, .int 0, .int 0, .int 0, .ref (v 28), .ref (v 29), .int 0, .int 0, .int 0, .int 0])), ((v 0), .inl (k 0, 4, .inl (fun _ => 0))), ((v 2), .inl (k 0, 4, .inl (fun _ => 0)))]) (ls : Array Slot) (hl : lv_has ls 4 [(3, .int 0), (2, .ref mo), (1, .ref pb), (0, .ref b)]) : W p l e room_1 s m #[Value.ref b] below meth c H locs 541 404588 (lw_Z below #[Value.ref b] s) (F0 m 354 ls []) := by
  have hx := C.1
  have hb := C.2.1
  have hbA : ¬ A b := fun h => absurd (hA2 b h) (Nat.not_le.mpr hbl)
  refine lv_aload_n hx hb d_La_law_354 rfl (lv_at hl 2 rfl) ?_
  refine lv_aload_n hx hb d_La_law_355 rfl (lv_at hl 3 rfl) ?_
  refine lv_iload_n hx hb d_La_law_356 rfl (lv_at hl 0 rfl) ?_
  refine lv_iconst (v := 1) hx hb d_La_law_357 (by decide) ?_
  refine lv_iadd hx hb d_La_law_358 ?_
  rw [show (0 : Int32) + 1 = 1 from by decide]
  refine va_sld hx hb hX hbl hbA S.2.2 (i := 1) (by unfold vp_in; decide) d_La_law_359 ?_
  refine lv_aload_n hx hb d_La_law_360 rfl (lv_at hl 3 rfl) ?_
  refine lv_iload_n hx hb d_La_law_361 rfl (lv_at hl 0 rfl) ?_
  refine lv_iconst (v := 2) hx hb d_La_law_362 (by decide) ?_
  refine lv_iadd hx hb d_La_law_363 ?_
  rw [show (0 : Int32) + 2 = 2 from by decide]
  refine va_sld hx hb hX hbl hbA S.2.2 (i := 2) (by unfold vp_in; decide) d_La_law_364 ?_
  refine r_backl (wi := [(pb, .inr (0, [.ref (u 0), .ref (u 29), .ref (u 30), .ref (u 35), .ref (u 43), .ref (u 59), .int 0, .int (-2), .int 0])), ((u 59), .inr (3, [.ref (u 60), .ref (u 61), .ref (u 63), .ref (u 65), .ref (u 67), .ref (u 69), .int 0, .int 0]))]) (wr := [((u 0), .inl (k 3, 4, .inr (.inr (.inr (.inr (va_up (va_up (va_up (va_up (fun _ => none) 0 (some (u 1))) 1 (some (u 8))) 2 (some (u 15))) 3 (some (u 22)))))))), ((u 1), .inr (4, [.ref (u 2), .ref (u 3), .ref (u 4), .ref (u 5), .ref (u 6), .ref (u 7), .int 0, .int 0, .int 0])), ((u 30), .inr (6, [.ref (u 0), .ref (u 31), .ref (u 32), .ref (u 33), .ref (u 34), .int 0, .int 0, .int 0, .int 0, .int 0, .long 0, .int (-2)])), (mo, .inr (8, [.int 0, .ref (v 0), .ref (v 1), .ref (v 2), .int (-2), .ref (v 3), .ref (v 4), .ref (v 5), .ref (v 6), .int 0, .long 0, .int (-2), .int 0, .ref (v 7), .ref (v 8), .ref (v 9), .ref (v 10), .ref (v 11), .int 0, .ref (v 12), .int 0, .int 0, .int 0, .int 0, .int 0, .int 0, .int 0, .ref (v 13), .int 0, .int 0, .int 0, .int 0, .ref (v 14), .ref (v 15), .int 0, .ref (v 16), .ref (v 17), .ref (v 18), .ref (v 19), .ref (v 20), .int 0, .ref (v 21), .ref (v 22), .ref (v 23), .ref (v 24), .ref (v 25), .ref (v 26), .ref (v 27), .int 0, .int 0, .int 0, .int 0, .int 0, .int 0, .int 0, .ref (v 28), .ref (v 29), .int 0, .int 0, .int 0, .int 0])), ((v 0), .inl (k 0, 4, .inl (fun _ => 0))), ((v 2), .inl (k 0, 4, .inl (fun _ => 0)))]) S hA [0, 4] [1, 2, 3, 5, 6, 7] rfl rfl (by decide) (by decide) (va_runV (As := [.int (xs (Int32.toNatClampNeg 1)), .int (xs (Int32.toNatClampNeg 2))]) (rest := []) ⟨hx, hb, C.2.2.1, C.2.2.2.1, C.2.2.2.2.1⟩ (f_PB_scaled l G k pb _ (u 0) (u 29) (u 30) (u 35) (u 43) (u 59) (u 60) (u 61) (u 63) (u 65) (u 67) (u 69) (xs (Int32.toNatClampNeg 1)) (xs (Int32.toNatClampNeg 2))) (k_virt (n := 2) C wc_PB_scaled rfl rfl wz_PB wm_La_63 wn_PB_scaled ws_PB_scaled (by decide +kernel) ⟨(Nat.le_of_ble_eq_true rfl), (Nat.le_of_ble_eq_true rfl)⟩) (pr_nowV K S [0, 4] (by decide) rfl 0 rfl rfl) rfl rfl hl.1 rfl (lv_room (Nat.le_of_ble_eq_true rfl)) d_La_law_365 ⟨(Nat.le_of_ble_eq_true rfl), (Nat.le_of_ble_eq_true rfl)⟩) (fun r5 u3 H locs hw4 S => ?_)
  have S : Sw G A s.heap _ _ [((u 0), .inl (k 3, 4, .inr (.inr (.inr (.inr (va_up (va_up (va_up (va_up (fun _ => none) 0 (some (u 1))) 1 (some (u 8))) 2 (some (u 15))) 3 (some (u 22)))))))), ((u 1), .inr (4, [.ref (u 2), .ref (u 3), .ref (u 4), .ref (u 5), .ref (u 6), .ref (u 7), .int 0, .int 0, .int 0])), ((u 30), .inr (6, [.ref (u 0), .ref (u 31), .ref (u 32), .ref (u 33), .ref (u 34), .int 0, .int 0, .int 0, .int 0, .int 0, .long 0, .int (-2)])), (mo, .inr (8, [.int 0, .ref (v 0), .ref (v 1), .ref (v 2), .int (-2), .ref (v 3), .ref (v 4), .ref (v 5), .ref (v 6), .int 0, .long 0, .int (-2), .int 0, .ref (v 7), .ref (v 8), .ref (v 9), .ref (v 10), .ref (v 11), .int 0, .ref (v 12), .int 0, .int 0, .int 0, .int 0, .int 0, .int 0, .int 0, .ref (v 13), .int 0, .int 0, .int 0, .int 0, .ref (v 14), .ref (v 15), .int 0, .ref (v 16), .ref (v 17), .ref (v 18), .ref (v 19), .ref (v 20), .int 0, .ref (v 21), .ref (v 22), .ref (v 23), .ref (v 24), .ref (v 25), .ref (v 26), .ref (v 27), .int 0, .int 0, .int 0, .int 0, .int 0, .int 0, .int 0, .ref (v 28), .ref (v 29), .int 0, .int 0, .int 0, .int 0])), ((v 0), .inl (k 0, 4, .inl (fun _ => 0))), ((v 2), .inl (k 0, 4, .inl (fun _ => 0)))] := S
  have hw4 : r5 = (-2) := hw4
  subst hw4
  refine lv_aload_n hx hb d_La_law_368 rfl (lv_at hl 1 rfl) ?_
  refine lv_aload_n hx hb d_La_law_369 rfl (lv_at hl 3 rfl) ?_
  refine lv_iload_n hx hb d_La_law_370 rfl (lv_at hl 0 rfl) ?_
  refine lv_iconst (v := 1) hx hb d_La_law_371 (by decide) ?_
  refine lv_iadd hx hb d_La_law_372 ?_
  rw [show (0 : Int32) + 1 = 1 from by decide]
  refine va_sld hx hb hX hbl hbA S.2.2 (i := 1) (by unfold vp_in; decide) d_La_law_373 ?_
  refine lv_aload_n hx hb d_La_law_374 rfl (lv_at hl 3 rfl) ?_
  refine lv_iload_n hx hb d_La_law_375 rfl (lv_at hl 0 rfl) ?_
  refine lv_iconst (v := 2) hx hb d_La_law_376 (by decide) ?_
  refine lv_iadd hx hb d_La_law_377 ?_
  rw [show (0 : Int32) + 2 = 2 from by decide]
  refine va_sld hx hb hX hbl hbA S.2.2 (i := 2) (by unfold vp_in; decide) d_La_law_378 ?_
  refine r_backl (wi := [(mo, .inr (8, [.int 0, .ref (v 0), .ref (v 1), .ref (v 2), .int (-2), .ref (v 3), .ref (v 4), .ref (v 5), .ref (v 6), .int 0, .long 0, .int (-2), .int 0, .ref (v 7), .ref (v 8), .ref (v 9), .ref (v 10), .ref (v 11), .int 0, .ref (v 12), .int 0, .int 0, .int 0, .int 0, .int 0, .int 0, .int 0, .ref (v 13), .int 0, .int 0, .int 0, .int 0, .ref (v 14), .ref (v 15), .int 0, .ref (v 16), .ref (v 17), .ref (v 18), .ref (v 19), .ref (v 20), .int 0, .ref (v 21), .ref (v 22), .ref (v 23), .ref (v 24), .ref (v 25), .ref (v 26), .ref (v 27), .int 0, .int 0, .int 0, .int 0, .int 0, .int 0, .int 0, .ref (v 28), .ref (v 29), .int 0, .int 0, .int 0, .int 0]))]) (wr := [((u 0), .inl (k 3, 4, .inr (.inr (.inr (.inr (va_up (va_up (va_up (va_up (fun _ => none) 0 (some (u 1))) 1 (some (u 8))) 2 (some (u 15))) 3 (some (u 22)))))))), ((u 1), .inr (4, [.ref (u 2), .ref (u 3), .ref (u 4), .ref (u 5), .ref (u 6), .ref (u 7), .int 0, .int 0, .int 0])), ((u 30), .inr (6, [.ref (u 0), .ref (u 31), .ref (u 32), .ref (u 33), .ref (u 34), .int 0, .int 0, .int 0, .int 0, .int 0, .long 0, .int (-2)])), ((v 0), .inl (k 0, 4, .inl (fun _ => 0))), ((v 2), .inl (k 0, 4, .inl (fun _ => 0)))]) S hA [3] [0, 1, 2, 4, 5] rfl rfl (by decide) (by decide) (va_runV (As := [.int (xs (Int32.toNatClampNeg 1)), .int (xs (Int32.toNatClampNeg 2))]) (rest := [.long (-2)]) ⟨hx, hb, C.2.2.1, C.2.2.2.1, C.2.2.2.2.1⟩ (f_Mo_scaled l G k mo _ v (xs (Int32.toNatClampNeg 1)) (xs (Int32.toNatClampNeg 2))) (k_virt (n := 2) C wc_Mo_scaled rfl rfl wz_Mo wm_La_67 wn_Mo_scaled ws_Mo_scaled (by decide +kernel) ⟨(Nat.le_of_ble_eq_true rfl), (Nat.le_of_ble_eq_true rfl)⟩) (pr_nowV K S [3] (by decide) rfl 3 rfl rfl) rfl rfl hl.1 rfl (lv_room (Nat.le_of_ble_eq_true rfl)) d_La_law_379 ⟨(Nat.le_of_ble_eq_true rfl), (Nat.le_of_ble_eq_true rfl)⟩) (fun r10 u8 H locs hw9 S => ?_)
  have S : Sw G A s.heap _ _ [((u 0), .inl (k 3, 4, .inr (.inr (.inr (.inr (va_up (va_up (va_up (va_up (fun _ => none) 0 (some (u 1))) 1 (some (u 8))) 2 (some (u 15))) 3 (some (u 22)))))))), ((u 1), .inr (4, [.ref (u 2), .ref (u 3), .ref (u 4), .ref (u 5), .ref (u 6), .ref (u 7), .int 0, .int 0, .int 0])), ((u 30), .inr (6, [.ref (u 0), .ref (u 31), .ref (u 32), .ref (u 33), .ref (u 34), .int 0, .int 0, .int 0, .int 0, .int 0, .long 0, .int (-2)])), ((v 0), .inl (k 0, 4, .inl (fun _ => 0))), ((v 2), .inl (k 0, 4, .inl (fun _ => 0)))] := S
  have hw9 : r10 = (-2) := hw9
  subst hw9
  refine W.lcmp hx hb d_La_law_382 ?_
  rw [show lg_cmp ((-2) : Int64) (-2) = 0 from by decide]
  refine lv_if_eq (tgt := 471) hx hb d_La_law_383 (by decide) (fun _ => ?_) (fun hq => absurd (by decide) hq)
  exact law_end C K hX hbl hA hA2 (Nat.le_of_ble_eq_true rfl) (Nat.le_of_ble_eq_true rfl) S ls hl
set_option maxRecDepth 100000 in
set_option maxHeartbeats 4000000 in
theorem law_c12 {p : Program} {l : Launch} {e : Env} {s : State} {m : MethodId} {below : List Frame} {meth : Method} {c : Code} {G : va_G} {k : Nat → ClassId} {b : Nat} {xs : Nat → Int32} {A : Nat → Prop} (C : Cx p s m #[Value.ref b] meth c code "PotentialBenchLaw" 4 ret meth.name) (K : Kn G k s) (hX : va_X b 6 xs s s.heap) (hbl : b < s.heap.size) (hA : ∀ q, s.heap.size ≤ q → A q) (hA2 : ∀ q, A q → s.heap.size ≤ q) {H : Heap} {locs : List Loc} {pb mo : Nat} {u v : Nat → Nat} (S : Sw G A s.heap H locs [(pb, .inr (0, [.ref (u 0), .ref (u 29), .ref (u 30), .ref (u 35), .ref (u 43), .ref (u 59), .int 0, .int (-2), .int 0])), ((u 0), .inl (k 3, 4, .inr (.inr (.inr (.inr (va_up (va_up (va_up (va_up (fun _ => none) 0 (some (u 1))) 1 (some (u 8))) 2 (some (u 15))) 3 (some (u 22)))))))), ((u 1), .inr (4, [.ref (u 2), .ref (u 3), .ref (u 4), .ref (u 5), .ref (u 6), .ref (u 7), .int 0, .int 0, .int 0])), ((u 30), .inr (6, [.ref (u 0), .ref (u 31), .ref (u 32), .ref (u 33), .ref (u 34), .int 0, .int 0, .int 0, .int 0, .int 0, .long 0, .int (-2)])), ((u 59), .inr (3, [.ref (u 60), .ref (u 61), .ref (u 63), .ref (u 65), .ref (u 67), .ref (u 69), .int 0, .int 0])), (mo, .inr (8, [.int 0, .ref (v 0), .ref (v 1), .ref (v 2), .int (-2), .ref (v 3), .ref (v 4), .ref (v 5), .ref (v 6), .int 0, .long 0, .int (-2), .int 0, .ref (v 7), .ref (v 8), .ref (v 9), .ref (v 10), .ref (v 11), .int 0, .ref (v 12), .int 0, .int 0, .int 0, .int 0, .int 0, .int 0, .int 0, .ref (v 13), .int 0, .int 0, .int 0, .int 0, .ref (v 14), .ref (v 15), .int 0, .ref (v 16), .ref (v 17), .ref (v 18), .ref (v 19), .ref (v 20), .int 0, .ref (v 21), .ref (v 22), .ref (v 23), .ref (v 24), .ref (v 25), .ref (v 26), .ref (v 27), .int 0, .int 0, .int 0, .int 0, .int 0, .int 0, .int 0, .ref (v 28), .ref (v 29), .int 0, .int 0, .int 0, .int 0])), ((v 0), .inl (k 0, 4, .inl (fun _ => 0))), ((v 2), .inl (k 0, 4, .inl (fun _ => 0)))]) (ls : Array Slot) (hl : lv_has ls 4 [(3, .int 0), (2, .ref mo), (1, .ref pb), (0, .ref b)]) : W p l e room_1 s m #[Value.ref b] below meth c H locs 541 404588 (lw_Z below #[Value.ref b] s) (F0 m 388 ls []) := by
  have hx := C.1
  have hb := C.2.1
  have hbA : ¬ A b := fun h => absurd (hA2 b h) (Nat.not_le.mpr hbl)
  refine lv_aload_n hx hb d_La_law_388 rfl (lv_at hl 2 rfl) ?_
  refine lv_aload_n hx hb d_La_law_389 rfl (lv_at hl 3 rfl) ?_
  refine lv_iload_n hx hb d_La_law_390 rfl (lv_at hl 0 rfl) ?_
  refine lv_iconst (v := 1) hx hb d_La_law_391 (by decide) ?_
  refine lv_iadd hx hb d_La_law_392 ?_
  rw [show (0 : Int32) + 1 = 1 from by decide]
  refine va_sld hx hb hX hbl hbA S.2.2 (i := 1) (by unfold vp_in; decide) d_La_law_393 ?_
  refine lv_aload_n hx hb d_La_law_394 rfl (lv_at hl 3 rfl) ?_
  refine lv_iload_n hx hb d_La_law_395 rfl (lv_at hl 0 rfl) ?_
  refine lv_iconst (v := 2) hx hb d_La_law_396 (by decide) ?_
  refine lv_iadd hx hb d_La_law_397 ?_
  rw [show (0 : Int32) + 2 = 2 from by decide]
  refine va_sld hx hb hX hbl hbA S.2.2 (i := 2) (by unfold vp_in; decide) d_La_law_398 ?_
  refine lv_aload_n hx hb d_La_law_399 rfl (lv_at hl 3 rfl) ?_
  refine lv_iload_n hx hb d_La_law_400 rfl (lv_at hl 0 rfl) ?_
  refine lv_iconst (v := 3) hx hb d_La_law_401 (by decide) ?_
  refine lv_iadd hx hb d_La_law_402 ?_
  rw [show (0 : Int32) + 3 = 3 from by decide]
  refine va_sld hx hb hX hbl hbA S.2.2 (i := 3) (by unfold vp_in; decide) d_La_law_403 ?_
  refine lv_aload_n hx hb d_La_law_404 rfl (lv_at hl 3 rfl) ?_
  refine lv_iload_n hx hb d_La_law_405 rfl (lv_at hl 0 rfl) ?_
  refine lv_iconst (v := 4) hx hb d_La_law_406 (by decide) ?_
  refine lv_iadd hx hb d_La_law_407 ?_
  rw [show (0 : Int32) + 4 = 4 from by decide]
  refine va_sld hx hb hX hbl hbA S.2.2 (i := 4) (by unfold vp_in; decide) d_La_law_408 ?_
  refine lv_i2l (v := ((xs (Int32.toNatClampNeg 4))).toInt64) hx hb d_La_law_409 rfl ?_
  refine lv_bipush (v := 32) hx hb d_La_law_410 (by decide) ?_
  refine lv_lshl (v := ((xs (Int32.toNatClampNeg 4))).toInt64 <<< ((32 : Int32).toInt64 &&& 63)) hx hb d_La_law_412 rfl ?_
  refine lv_topl (fun n5 _ => ?_)
  refine lv_aload_n hx hb d_La_law_413 rfl (lv_at hl 3 rfl) ?_
  refine lv_iload_n hx hb d_La_law_414 rfl (lv_at hl 0 rfl) ?_
  refine lv_iconst (v := 5) hx hb d_La_law_415 (by decide) ?_
  refine lv_iadd hx hb d_La_law_416 ?_
  rw [show (0 : Int32) + 5 = 5 from by decide]
  refine va_sld hx hb hX hbl hbA S.2.2 (i := 5) (by unfold vp_in; decide) d_La_law_417 ?_
  refine lv_i2l (v := ((xs (Int32.toNatClampNeg 5))).toInt64) hx hb d_La_law_418 rfl ?_
  refine lv_ldc2 (v := 4294967295) hx hb C.2.2.2.1 (C.2.2.2.2.1 _ wk_La_68) d_La_law_419 ?_
  refine lv_land hx hb d_La_law_422 ?_
  refine lv_topl (fun n7 _ => ?_)
  refine lv_lor hx hb d_La_law_423 ?_
  refine lv_topl (fun n8 _ => ?_)
  refine r_backi (wi := [(pb, .inr (0, [.ref (u 0), .ref (u 29), .ref (u 30), .ref (u 35), .ref (u 43), .ref (u 59), .int 0, .int (-2), .int 0])), ((u 59), .inr (3, [.ref (u 60), .ref (u 61), .ref (u 63), .ref (u 65), .ref (u 67), .ref (u 69), .int 0, .int 0]))]) (wr := [((u 0), .inl (k 3, 4, .inr (.inr (.inr (.inr (va_up (va_up (va_up (va_up (fun _ => none) 0 (some (u 1))) 1 (some (u 8))) 2 (some (u 15))) 3 (some (u 22)))))))), ((u 1), .inr (4, [.ref (u 2), .ref (u 3), .ref (u 4), .ref (u 5), .ref (u 6), .ref (u 7), .int 0, .int 0, .int 0])), ((u 30), .inr (6, [.ref (u 0), .ref (u 31), .ref (u 32), .ref (u 33), .ref (u 34), .int 0, .int 0, .int 0, .int 0, .int 0, .long 0, .int (-2)])), (mo, .inr (8, [.int 0, .ref (v 0), .ref (v 1), .ref (v 2), .int (-2), .ref (v 3), .ref (v 4), .ref (v 5), .ref (v 6), .int 0, .long 0, .int (-2), .int 0, .ref (v 7), .ref (v 8), .ref (v 9), .ref (v 10), .ref (v 11), .int 0, .ref (v 12), .int 0, .int 0, .int 0, .int 0, .int 0, .int 0, .int 0, .ref (v 13), .int 0, .int 0, .int 0, .int 0, .ref (v 14), .ref (v 15), .int 0, .ref (v 16), .ref (v 17), .ref (v 18), .ref (v 19), .ref (v 20), .int 0, .ref (v 21), .ref (v 22), .ref (v 23), .ref (v 24), .ref (v 25), .ref (v 26), .ref (v 27), .int 0, .int 0, .int 0, .int 0, .int 0, .int 0, .int 0, .ref (v 28), .ref (v 29), .int 0, .int 0, .int 0, .int 0])), ((v 0), .inl (k 0, 4, .inl (fun _ => 0))), ((v 2), .inl (k 0, 4, .inl (fun _ => 0)))]) S hA [0, 4] [1, 2, 3, 5, 6, 7] rfl rfl (by decide) (by decide) (va_runV (As := [.int (xs (Int32.toNatClampNeg 1)), .int (xs (Int32.toNatClampNeg 2)), .int (xs (Int32.toNatClampNeg 3)), .long n8]) (rest := []) ⟨hx, hb, C.2.2.1, C.2.2.2.1, C.2.2.2.2.1⟩ (f_PB_covers l G k pb _ (u 0) (u 29) (u 30) (u 35) (u 43) (u 59) (u 60) (u 61) (u 63) (u 65) (u 67) (u 69) (xs (Int32.toNatClampNeg 1)) (xs (Int32.toNatClampNeg 2)) (xs (Int32.toNatClampNeg 3)) n8) (k_virt (n := 4) C wc_PB_covers rfl rfl wz_PB wm_La_70 wn_PB_covers ws_PB_covers (by decide +kernel) ⟨(Nat.le_of_ble_eq_true rfl), (Nat.le_of_ble_eq_true rfl)⟩) (pr_nowV K S [0, 4] (by decide) rfl 0 rfl rfl) rfl rfl hl.1 rfl (lv_room (Nat.le_of_ble_eq_true rfl)) d_La_law_424 ⟨(Nat.le_of_ble_eq_true rfl), (Nat.le_of_ble_eq_true rfl)⟩) (fun r11 u9 H locs hw10 S => ?_)
  have S : Sw G A s.heap _ _ [((u 0), .inl (k 3, 4, .inr (.inr (.inr (.inr (va_up (va_up (va_up (va_up (fun _ => none) 0 (some (u 1))) 1 (some (u 8))) 2 (some (u 15))) 3 (some (u 22)))))))), ((u 1), .inr (4, [.ref (u 2), .ref (u 3), .ref (u 4), .ref (u 5), .ref (u 6), .ref (u 7), .int 0, .int 0, .int 0])), ((u 30), .inr (6, [.ref (u 0), .ref (u 31), .ref (u 32), .ref (u 33), .ref (u 34), .int 0, .int 0, .int 0, .int 0, .int 0, .long 0, .int (-2)])), (mo, .inr (8, [.int 0, .ref (v 0), .ref (v 1), .ref (v 2), .int (-2), .ref (v 3), .ref (v 4), .ref (v 5), .ref (v 6), .int 0, .long 0, .int (-2), .int 0, .ref (v 7), .ref (v 8), .ref (v 9), .ref (v 10), .ref (v 11), .int 0, .ref (v 12), .int 0, .int 0, .int 0, .int 0, .int 0, .int 0, .int 0, .ref (v 13), .int 0, .int 0, .int 0, .int 0, .ref (v 14), .ref (v 15), .int 0, .ref (v 16), .ref (v 17), .ref (v 18), .ref (v 19), .ref (v 20), .int 0, .ref (v 21), .ref (v 22), .ref (v 23), .ref (v 24), .ref (v 25), .ref (v 26), .ref (v 27), .int 0, .int 0, .int 0, .int 0, .int 0, .int 0, .int 0, .ref (v 28), .ref (v 29), .int 0, .int 0, .int 0, .int 0])), ((v 0), .inl (k 0, 4, .inl (fun _ => 0))), ((v 2), .inl (k 0, 4, .inl (fun _ => 0)))] := S
  have hw10 : r11 = (-2) := hw10
  subst hw10
  refine lv_aload_n hx hb d_La_law_427 rfl (lv_at hl 1 rfl) ?_
  refine lv_aload_n hx hb d_La_law_428 rfl (lv_at hl 3 rfl) ?_
  refine lv_iload_n hx hb d_La_law_429 rfl (lv_at hl 0 rfl) ?_
  refine lv_iconst (v := 1) hx hb d_La_law_430 (by decide) ?_
  refine lv_iadd hx hb d_La_law_431 ?_
  rw [show (0 : Int32) + 1 = 1 from by decide]
  refine va_sld hx hb hX hbl hbA S.2.2 (i := 1) (by unfold vp_in; decide) d_La_law_432 ?_
  refine lv_aload_n hx hb d_La_law_433 rfl (lv_at hl 3 rfl) ?_
  refine lv_iload_n hx hb d_La_law_434 rfl (lv_at hl 0 rfl) ?_
  refine lv_iconst (v := 2) hx hb d_La_law_435 (by decide) ?_
  refine lv_iadd hx hb d_La_law_436 ?_
  rw [show (0 : Int32) + 2 = 2 from by decide]
  refine va_sld hx hb hX hbl hbA S.2.2 (i := 2) (by unfold vp_in; decide) d_La_law_437 ?_
  refine lv_aload_n hx hb d_La_law_438 rfl (lv_at hl 3 rfl) ?_
  refine lv_iload_n hx hb d_La_law_439 rfl (lv_at hl 0 rfl) ?_
  refine lv_iconst (v := 3) hx hb d_La_law_440 (by decide) ?_
  refine lv_iadd hx hb d_La_law_441 ?_
  rw [show (0 : Int32) + 3 = 3 from by decide]
  refine va_sld hx hb hX hbl hbA S.2.2 (i := 3) (by unfold vp_in; decide) d_La_law_442 ?_
  refine lv_aload_n hx hb d_La_law_443 rfl (lv_at hl 3 rfl) ?_
  refine lv_iload_n hx hb d_La_law_444 rfl (lv_at hl 0 rfl) ?_
  refine lv_iconst (v := 4) hx hb d_La_law_445 (by decide) ?_
  refine lv_iadd hx hb d_La_law_446 ?_
  rw [show (0 : Int32) + 4 = 4 from by decide]
  refine va_sld hx hb hX hbl hbA S.2.2 (i := 4) (by unfold vp_in; decide) d_La_law_447 ?_
  refine lv_i2l (v := ((xs (Int32.toNatClampNeg 4))).toInt64) hx hb d_La_law_448 rfl ?_
  refine lv_bipush (v := 32) hx hb d_La_law_449 (by decide) ?_
  refine lv_lshl (v := ((xs (Int32.toNatClampNeg 4))).toInt64 <<< ((32 : Int32).toInt64 &&& 63)) hx hb d_La_law_451 rfl ?_
  refine lv_topl (fun n16 _ => ?_)
  refine lv_aload_n hx hb d_La_law_452 rfl (lv_at hl 3 rfl) ?_
  refine lv_iload_n hx hb d_La_law_453 rfl (lv_at hl 0 rfl) ?_
  refine lv_iconst (v := 5) hx hb d_La_law_454 (by decide) ?_
  refine lv_iadd hx hb d_La_law_455 ?_
  rw [show (0 : Int32) + 5 = 5 from by decide]
  refine va_sld hx hb hX hbl hbA S.2.2 (i := 5) (by unfold vp_in; decide) d_La_law_456 ?_
  refine lv_i2l (v := ((xs (Int32.toNatClampNeg 5))).toInt64) hx hb d_La_law_457 rfl ?_
  refine lv_ldc2 (v := 4294967295) hx hb C.2.2.2.1 (C.2.2.2.2.1 _ wk_La_68) d_La_law_458 ?_
  refine lv_land hx hb d_La_law_461 ?_
  refine lv_topl (fun n18 _ => ?_)
  refine lv_lor hx hb d_La_law_462 ?_
  refine lv_topl (fun n19 _ => ?_)
  refine r_backi (wi := [(mo, .inr (8, [.int 0, .ref (v 0), .ref (v 1), .ref (v 2), .int (-2), .ref (v 3), .ref (v 4), .ref (v 5), .ref (v 6), .int 0, .long 0, .int (-2), .int 0, .ref (v 7), .ref (v 8), .ref (v 9), .ref (v 10), .ref (v 11), .int 0, .ref (v 12), .int 0, .int 0, .int 0, .int 0, .int 0, .int 0, .int 0, .ref (v 13), .int 0, .int 0, .int 0, .int 0, .ref (v 14), .ref (v 15), .int 0, .ref (v 16), .ref (v 17), .ref (v 18), .ref (v 19), .ref (v 20), .int 0, .ref (v 21), .ref (v 22), .ref (v 23), .ref (v 24), .ref (v 25), .ref (v 26), .ref (v 27), .int 0, .int 0, .int 0, .int 0, .int 0, .int 0, .int 0, .ref (v 28), .ref (v 29), .int 0, .int 0, .int 0, .int 0]))]) (wr := [((u 0), .inl (k 3, 4, .inr (.inr (.inr (.inr (va_up (va_up (va_up (va_up (fun _ => none) 0 (some (u 1))) 1 (some (u 8))) 2 (some (u 15))) 3 (some (u 22)))))))), ((u 1), .inr (4, [.ref (u 2), .ref (u 3), .ref (u 4), .ref (u 5), .ref (u 6), .ref (u 7), .int 0, .int 0, .int 0])), ((u 30), .inr (6, [.ref (u 0), .ref (u 31), .ref (u 32), .ref (u 33), .ref (u 34), .int 0, .int 0, .int 0, .int 0, .int 0, .long 0, .int (-2)])), ((v 0), .inl (k 0, 4, .inl (fun _ => 0))), ((v 2), .inl (k 0, 4, .inl (fun _ => 0)))]) S hA [3] [0, 1, 2, 4, 5] rfl rfl (by decide) (by decide) (va_runV (As := [.int (xs (Int32.toNatClampNeg 1)), .int (xs (Int32.toNatClampNeg 2)), .int (xs (Int32.toNatClampNeg 3)), .long n19]) (rest := [.int (-2)]) ⟨hx, hb, C.2.2.1, C.2.2.2.1, C.2.2.2.2.1⟩ (f_Mo_covers l G k mo _ v (xs (Int32.toNatClampNeg 1)) (xs (Int32.toNatClampNeg 2)) (xs (Int32.toNatClampNeg 3)) n19) (k_virt (n := 4) C wc_Mo_covers rfl rfl wz_Mo wm_La_74 wn_Mo_covers ws_Mo_covers (by decide +kernel) ⟨(Nat.le_of_ble_eq_true rfl), (Nat.le_of_ble_eq_true rfl)⟩) (pr_nowV K S [3] (by decide) rfl 3 rfl rfl) rfl rfl hl.1 rfl (lv_room (Nat.le_of_ble_eq_true rfl)) d_La_law_463 ⟨(Nat.le_of_ble_eq_true rfl), (Nat.le_of_ble_eq_true rfl)⟩) (fun r22 u20 H locs hw21 S => ?_)
  have S : Sw G A s.heap _ _ [((u 0), .inl (k 3, 4, .inr (.inr (.inr (.inr (va_up (va_up (va_up (va_up (fun _ => none) 0 (some (u 1))) 1 (some (u 8))) 2 (some (u 15))) 3 (some (u 22)))))))), ((u 1), .inr (4, [.ref (u 2), .ref (u 3), .ref (u 4), .ref (u 5), .ref (u 6), .ref (u 7), .int 0, .int 0, .int 0])), ((u 30), .inr (6, [.ref (u 0), .ref (u 31), .ref (u 32), .ref (u 33), .ref (u 34), .int 0, .int 0, .int 0, .int 0, .int 0, .long 0, .int (-2)])), ((v 0), .inl (k 0, 4, .inl (fun _ => 0))), ((v 2), .inl (k 0, 4, .inl (fun _ => 0)))] := S
  have hw21 : r22 = (-2) := hw21
  subst hw21
  refine lv_icmp_eq (tgt := 471) hx hb d_La_law_466 (by decide) (fun _ => ?_) (fun hq => absurd (by decide) hq)
  exact law_end C K hX hbl hA hA2 (Nat.le_of_ble_eq_true rfl) (Nat.le_of_ble_eq_true rfl) S ls hl
