/-! decode rows: printed by gen.py -/
theorem ed_86_0 : decode (ex_cod 86) 0 = .ok (.iload_n 1, 1) := by decide +kernel
theorem ed_86_1 : decode (ex_cod 86) 1 = .ok (.aload_n 0, 1) := by decide +kernel
theorem ed_86_2 : decode (ex_cod 86) 2 = .ok (.arraylength, 1) := by decide +kernel
theorem ed_86_3 : decode (ex_cod 86) 3 = .ok (.if_icmp .ge 9, 3) := by decide +kernel
theorem ed_86_6 : decode (ex_cod 86) 6 = .ok (.aload_n 0, 1) := by decide +kernel
theorem ed_86_7 : decode (ex_cod 86) 7 = .ok (.iload_n 1, 1) := by decide +kernel
theorem ed_86_8 : decode (ex_cod 86) 8 = .ok (.iaload, 1) := by decide +kernel
theorem ed_86_9 : decode (ex_cod 86) 9 = .ok (.goto 4, 3) := by decide +kernel
theorem ed_86_12 : decode (ex_cod 86) 12 = .ok (.iconst 0, 1) := by decide +kernel
theorem ed_86_13 : decode (ex_cod 86) 13 = .ok (.ireturn, 1) := by decide +kernel
theorem ed_87_0 : decode (ex_cod 87) 0 = .ok (.new 7, 3) := by decide +kernel
theorem ed_87_3 : decode (ex_cod 87) 3 = .ok (.dup, 1) := by decide +kernel
theorem ed_87_4 : decode (ex_cod 87) 4 = .ok (.aload_n 0, 1) := by decide +kernel
theorem ed_87_5 : decode (ex_cod 87) 5 = .ok (.iconst 0, 1) := by decide +kernel
theorem ed_87_6 : decode (ex_cod 87) 6 = .ok (.invokestatic 9, 3) := by decide +kernel
theorem ed_87_9 : decode (ex_cod 87) 9 = .ok (.invokespecial 15, 3) := by decide +kernel
theorem ed_87_12 : decode (ex_cod 87) 12 = .ok (.astore_n 1, 1) := by decide +kernel
theorem ed_87_13 : decode (ex_cod 87) 13 = .ok (.new 18, 3) := by decide +kernel
theorem ed_87_16 : decode (ex_cod 87) 16 = .ok (.dup, 1) := by decide +kernel
theorem ed_87_17 : decode (ex_cod 87) 17 = .ok (.aload_n 0, 1) := by decide +kernel
theorem ed_87_18 : decode (ex_cod 87) 18 = .ok (.iconst 0, 1) := by decide +kernel
theorem ed_87_19 : decode (ex_cod 87) 19 = .ok (.invokestatic 9, 3) := by decide +kernel
theorem ed_87_22 : decode (ex_cod 87) 22 = .ok (.invokespecial 20, 3) := by decide +kernel
theorem ed_87_25 : decode (ex_cod 87) 25 = .ok (.astore_n 2, 1) := by decide +kernel
theorem ed_87_26 : decode (ex_cod 87) 26 = .ok (.iconst 1, 1) := by decide +kernel
theorem ed_87_27 : decode (ex_cod 87) 27 = .ok (.istore_n 3, 1) := by decide +kernel
theorem ed_87_28 : decode (ex_cod 87) 28 = .ok (.iload_n 3, 1) := by decide +kernel
theorem ed_87_29 : decode (ex_cod 87) 29 = .ok (.aload_n 0, 1) := by decide +kernel
theorem ed_87_30 : decode (ex_cod 87) 30 = .ok (.arraylength, 1) := by decide +kernel
theorem ed_87_31 : decode (ex_cod 87) 31 = .ok (.iconst 3, 1) := by decide +kernel
theorem ed_87_32 : decode (ex_cod 87) 32 = .ok (.isub, 1) := by decide +kernel
theorem ed_87_33 : decode (ex_cod 87) 33 = .ok (.if_icmp .gt 445, 3) := by decide +kernel
theorem ed_87_36 : decode (ex_cod 87) 36 = .ok (.aload_n 0, 1) := by decide +kernel
theorem ed_87_37 : decode (ex_cod 87) 37 = .ok (.iload_n 3, 1) := by decide +kernel
theorem ed_87_38 : decode (ex_cod 87) 38 = .ok (.iaload, 1) := by decide +kernel
theorem ed_87_39 : decode (ex_cod 87) 39 = .ok (.bipush 31, 2) := by decide +kernel
theorem ed_87_41 : decode (ex_cod 87) 41 = .ok (.iand, 1) := by decide +kernel
theorem ed_87_42 : decode (ex_cod 87) 42 = .ok (.tableswitch 430 0 17 #[86, 109, 142, 155, 168, 181, 194, 207, 220, 243, 266, 289, 312, 335, 358, 391, 404, 417], 86) := by decide +kernel
theorem ed_87_128 : decode (ex_cod 87) 128 = .ok (.aload_n 1, 1) := by decide +kernel
theorem ed_87_129 : decode (ex_cod 87) 129 = .ok (.aload_n 0, 1) := by decide +kernel
theorem ed_87_130 : decode (ex_cod 87) 130 = .ok (.iload_n 3, 1) := by decide +kernel
theorem ed_87_131 : decode (ex_cod 87) 131 = .ok (.iconst 1, 1) := by decide +kernel
theorem ed_87_132 : decode (ex_cod 87) 132 = .ok (.iadd, 1) := by decide +kernel
theorem ed_87_133 : decode (ex_cod 87) 133 = .ok (.iaload, 1) := by decide +kernel
theorem ed_87_134 : decode (ex_cod 87) 134 = .ok (.invokevirtual 21, 3) := by decide +kernel
theorem ed_87_137 : decode (ex_cod 87) 137 = .ok (.aload_n 2, 1) := by decide +kernel
theorem ed_87_138 : decode (ex_cod 87) 138 = .ok (.aload_n 0, 1) := by decide +kernel
theorem ed_87_139 : decode (ex_cod 87) 139 = .ok (.iload_n 3, 1) := by decide +kernel
theorem ed_87_140 : decode (ex_cod 87) 140 = .ok (.iconst 1, 1) := by decide +kernel
theorem ed_87_141 : decode (ex_cod 87) 141 = .ok (.iadd, 1) := by decide +kernel
theorem ed_87_142 : decode (ex_cod 87) 142 = .ok (.iaload, 1) := by decide +kernel
theorem ed_87_143 : decode (ex_cod 87) 143 = .ok (.invokevirtual 25, 3) := by decide +kernel
theorem ed_87_146 : decode (ex_cod 87) 146 = .ok (.if_icmp .eq 326, 3) := by decide +kernel
theorem ed_87_149 : decode (ex_cod 87) 149 = .ok (.iconst 0, 1) := by decide +kernel
theorem ed_87_150 : decode (ex_cod 87) 150 = .ok (.ireturn, 1) := by decide +kernel
theorem ed_87_151 : decode (ex_cod 87) 151 = .ok (.aload_n 1, 1) := by decide +kernel
theorem ed_87_152 : decode (ex_cod 87) 152 = .ok (.aload_n 0, 1) := by decide +kernel
theorem ed_87_153 : decode (ex_cod 87) 153 = .ok (.iload_n 3, 1) := by decide +kernel
theorem ed_87_154 : decode (ex_cod 87) 154 = .ok (.iconst 1, 1) := by decide +kernel
theorem ed_87_155 : decode (ex_cod 87) 155 = .ok (.iadd, 1) := by decide +kernel
theorem ed_87_156 : decode (ex_cod 87) 156 = .ok (.iaload, 1) := by decide +kernel
theorem ed_87_157 : decode (ex_cod 87) 157 = .ok (.aload_n 0, 1) := by decide +kernel
theorem ed_87_158 : decode (ex_cod 87) 158 = .ok (.iload_n 3, 1) := by decide +kernel
theorem ed_87_159 : decode (ex_cod 87) 159 = .ok (.iconst 2, 1) := by decide +kernel
theorem ed_87_160 : decode (ex_cod 87) 160 = .ok (.iadd, 1) := by decide +kernel
theorem ed_87_161 : decode (ex_cod 87) 161 = .ok (.iaload, 1) := by decide +kernel
theorem ed_87_162 : decode (ex_cod 87) 162 = .ok (.invokevirtual 26, 3) := by decide +kernel
theorem ed_87_165 : decode (ex_cod 87) 165 = .ok (.aload_n 2, 1) := by decide +kernel
theorem ed_87_166 : decode (ex_cod 87) 166 = .ok (.aload_n 0, 1) := by decide +kernel
theorem ed_87_167 : decode (ex_cod 87) 167 = .ok (.iload_n 3, 1) := by decide +kernel
theorem ed_87_168 : decode (ex_cod 87) 168 = .ok (.iconst 1, 1) := by decide +kernel
theorem ed_87_169 : decode (ex_cod 87) 169 = .ok (.iadd, 1) := by decide +kernel
theorem ed_87_170 : decode (ex_cod 87) 170 = .ok (.iaload, 1) := by decide +kernel
theorem ed_87_171 : decode (ex_cod 87) 171 = .ok (.aload_n 0, 1) := by decide +kernel
theorem ed_87_172 : decode (ex_cod 87) 172 = .ok (.iload_n 3, 1) := by decide +kernel
theorem ed_87_173 : decode (ex_cod 87) 173 = .ok (.iconst 2, 1) := by decide +kernel
theorem ed_87_174 : decode (ex_cod 87) 174 = .ok (.iadd, 1) := by decide +kernel
theorem ed_87_175 : decode (ex_cod 87) 175 = .ok (.iaload, 1) := by decide +kernel
theorem ed_87_176 : decode (ex_cod 87) 176 = .ok (.invokevirtual 30, 3) := by decide +kernel
theorem ed_87_179 : decode (ex_cod 87) 179 = .ok (.if_icmp .eq 293, 3) := by decide +kernel
theorem ed_87_182 : decode (ex_cod 87) 182 = .ok (.iconst 0, 1) := by decide +kernel
theorem ed_87_183 : decode (ex_cod 87) 183 = .ok (.ireturn, 1) := by decide +kernel
theorem ed_87_184 : decode (ex_cod 87) 184 = .ok (.aload_n 1, 1) := by decide +kernel
theorem ed_87_185 : decode (ex_cod 87) 185 = .ok (.invokevirtual 31, 3) := by decide +kernel
theorem ed_87_188 : decode (ex_cod 87) 188 = .ok (.aload_n 2, 1) := by decide +kernel
theorem ed_87_189 : decode (ex_cod 87) 189 = .ok (.invokevirtual 35, 3) := by decide +kernel
theorem ed_87_192 : decode (ex_cod 87) 192 = .ok (.if_icmp .eq 280, 3) := by decide +kernel
theorem ed_87_195 : decode (ex_cod 87) 195 = .ok (.iconst 0, 1) := by decide +kernel
theorem ed_87_196 : decode (ex_cod 87) 196 = .ok (.ireturn, 1) := by decide +kernel
theorem ed_87_197 : decode (ex_cod 87) 197 = .ok (.aload_n 1, 1) := by decide +kernel
theorem ed_87_198 : decode (ex_cod 87) 198 = .ok (.invokevirtual 36, 3) := by decide +kernel
theorem ed_87_201 : decode (ex_cod 87) 201 = .ok (.aload_n 2, 1) := by decide +kernel
theorem ed_87_202 : decode (ex_cod 87) 202 = .ok (.invokevirtual 39, 3) := by decide +kernel
theorem ed_87_205 : decode (ex_cod 87) 205 = .ok (.if_icmp .eq 267, 3) := by decide +kernel
theorem ed_87_208 : decode (ex_cod 87) 208 = .ok (.iconst 0, 1) := by decide +kernel
theorem ed_87_209 : decode (ex_cod 87) 209 = .ok (.ireturn, 1) := by decide +kernel
theorem ed_87_210 : decode (ex_cod 87) 210 = .ok (.aload_n 1, 1) := by decide +kernel
theorem ed_87_211 : decode (ex_cod 87) 211 = .ok (.invokevirtual 40, 3) := by decide +kernel
theorem ed_87_214 : decode (ex_cod 87) 214 = .ok (.aload_n 2, 1) := by decide +kernel
theorem ed_87_215 : decode (ex_cod 87) 215 = .ok (.invokevirtual 43, 3) := by decide +kernel
theorem ed_87_218 : decode (ex_cod 87) 218 = .ok (.if_icmp .eq 254, 3) := by decide +kernel
theorem ed_87_221 : decode (ex_cod 87) 221 = .ok (.iconst 0, 1) := by decide +kernel
theorem ed_87_222 : decode (ex_cod 87) 222 = .ok (.ireturn, 1) := by decide +kernel
theorem ed_87_223 : decode (ex_cod 87) 223 = .ok (.aload_n 1, 1) := by decide +kernel
theorem ed_87_224 : decode (ex_cod 87) 224 = .ok (.invokevirtual 44, 3) := by decide +kernel
theorem ed_87_227 : decode (ex_cod 87) 227 = .ok (.aload_n 2, 1) := by decide +kernel
theorem ed_87_228 : decode (ex_cod 87) 228 = .ok (.invokevirtual 47, 3) := by decide +kernel
theorem ed_87_231 : decode (ex_cod 87) 231 = .ok (.if_icmp .eq 241, 3) := by decide +kernel
theorem ed_87_234 : decode (ex_cod 87) 234 = .ok (.iconst 0, 1) := by decide +kernel
theorem ed_87_235 : decode (ex_cod 87) 235 = .ok (.ireturn, 1) := by decide +kernel
theorem ed_87_236 : decode (ex_cod 87) 236 = .ok (.aload_n 1, 1) := by decide +kernel
theorem ed_87_237 : decode (ex_cod 87) 237 = .ok (.invokevirtual 48, 3) := by decide +kernel
theorem ed_87_240 : decode (ex_cod 87) 240 = .ok (.aload_n 2, 1) := by decide +kernel
theorem ed_87_241 : decode (ex_cod 87) 241 = .ok (.invokevirtual 51, 3) := by decide +kernel
theorem ed_87_244 : decode (ex_cod 87) 244 = .ok (.if_icmp .eq 228, 3) := by decide +kernel
theorem ed_87_247 : decode (ex_cod 87) 247 = .ok (.iconst 0, 1) := by decide +kernel
theorem ed_87_248 : decode (ex_cod 87) 248 = .ok (.ireturn, 1) := by decide +kernel
theorem ed_87_249 : decode (ex_cod 87) 249 = .ok (.aload_n 1, 1) := by decide +kernel
theorem ed_87_250 : decode (ex_cod 87) 250 = .ok (.invokevirtual 52, 3) := by decide +kernel
theorem ed_87_253 : decode (ex_cod 87) 253 = .ok (.aload_n 2, 1) := by decide +kernel
theorem ed_87_254 : decode (ex_cod 87) 254 = .ok (.invokevirtual 56, 3) := by decide +kernel
theorem ed_87_257 : decode (ex_cod 87) 257 = .ok (.if_icmp .eq 215, 3) := by decide +kernel
theorem ed_87_260 : decode (ex_cod 87) 260 = .ok (.iconst 0, 1) := by decide +kernel
theorem ed_87_261 : decode (ex_cod 87) 261 = .ok (.ireturn, 1) := by decide +kernel
theorem ed_87_262 : decode (ex_cod 87) 262 = .ok (.aload_n 1, 1) := by decide +kernel
theorem ed_87_263 : decode (ex_cod 87) 263 = .ok (.aload_n 0, 1) := by decide +kernel
theorem ed_87_264 : decode (ex_cod 87) 264 = .ok (.iload_n 3, 1) := by decide +kernel
theorem ed_87_265 : decode (ex_cod 87) 265 = .ok (.iconst 1, 1) := by decide +kernel
theorem ed_87_266 : decode (ex_cod 87) 266 = .ok (.iadd, 1) := by decide +kernel
theorem ed_87_267 : decode (ex_cod 87) 267 = .ok (.iaload, 1) := by decide +kernel
theorem ed_87_268 : decode (ex_cod 87) 268 = .ok (.invokevirtual 57, 3) := by decide +kernel
theorem ed_87_271 : decode (ex_cod 87) 271 = .ok (.aload_n 2, 1) := by decide +kernel
theorem ed_87_272 : decode (ex_cod 87) 272 = .ok (.aload_n 0, 1) := by decide +kernel
theorem ed_87_273 : decode (ex_cod 87) 273 = .ok (.iload_n 3, 1) := by decide +kernel
theorem ed_87_274 : decode (ex_cod 87) 274 = .ok (.iconst 1, 1) := by decide +kernel
theorem ed_87_275 : decode (ex_cod 87) 275 = .ok (.iadd, 1) := by decide +kernel
theorem ed_87_276 : decode (ex_cod 87) 276 = .ok (.iaload, 1) := by decide +kernel
theorem ed_87_277 : decode (ex_cod 87) 277 = .ok (.invokevirtual 60, 3) := by decide +kernel
theorem ed_87_280 : decode (ex_cod 87) 280 = .ok (.if_icmp .eq 192, 3) := by decide +kernel
theorem ed_87_283 : decode (ex_cod 87) 283 = .ok (.iconst 0, 1) := by decide +kernel
theorem ed_87_284 : decode (ex_cod 87) 284 = .ok (.ireturn, 1) := by decide +kernel
theorem ed_87_285 : decode (ex_cod 87) 285 = .ok (.aload_n 1, 1) := by decide +kernel
theorem ed_87_286 : decode (ex_cod 87) 286 = .ok (.aload_n 0, 1) := by decide +kernel
theorem ed_87_287 : decode (ex_cod 87) 287 = .ok (.iload_n 3, 1) := by decide +kernel
theorem ed_87_288 : decode (ex_cod 87) 288 = .ok (.iconst 1, 1) := by decide +kernel
theorem ed_87_289 : decode (ex_cod 87) 289 = .ok (.iadd, 1) := by decide +kernel
theorem ed_87_290 : decode (ex_cod 87) 290 = .ok (.iaload, 1) := by decide +kernel
theorem ed_87_291 : decode (ex_cod 87) 291 = .ok (.invokevirtual 61, 3) := by decide +kernel
theorem ed_87_294 : decode (ex_cod 87) 294 = .ok (.aload_n 2, 1) := by decide +kernel
theorem ed_87_295 : decode (ex_cod 87) 295 = .ok (.aload_n 0, 1) := by decide +kernel
theorem ed_87_296 : decode (ex_cod 87) 296 = .ok (.iload_n 3, 1) := by decide +kernel
theorem ed_87_297 : decode (ex_cod 87) 297 = .ok (.iconst 1, 1) := by decide +kernel
theorem ed_87_298 : decode (ex_cod 87) 298 = .ok (.iadd, 1) := by decide +kernel
theorem ed_87_299 : decode (ex_cod 87) 299 = .ok (.iaload, 1) := by decide +kernel
theorem ed_87_300 : decode (ex_cod 87) 300 = .ok (.invokevirtual 64, 3) := by decide +kernel
theorem ed_87_303 : decode (ex_cod 87) 303 = .ok (.if_icmp .eq 169, 3) := by decide +kernel
theorem ed_87_306 : decode (ex_cod 87) 306 = .ok (.iconst 0, 1) := by decide +kernel
theorem ed_87_307 : decode (ex_cod 87) 307 = .ok (.ireturn, 1) := by decide +kernel
theorem ed_87_308 : decode (ex_cod 87) 308 = .ok (.aload_n 1, 1) := by decide +kernel
theorem ed_87_309 : decode (ex_cod 87) 309 = .ok (.aload_n 0, 1) := by decide +kernel
theorem ed_87_310 : decode (ex_cod 87) 310 = .ok (.iload_n 3, 1) := by decide +kernel
theorem ed_87_311 : decode (ex_cod 87) 311 = .ok (.iconst 1, 1) := by decide +kernel
theorem ed_87_312 : decode (ex_cod 87) 312 = .ok (.iadd, 1) := by decide +kernel
theorem ed_87_313 : decode (ex_cod 87) 313 = .ok (.iaload, 1) := by decide +kernel
theorem ed_87_314 : decode (ex_cod 87) 314 = .ok (.invokevirtual 65, 3) := by decide +kernel
theorem ed_87_317 : decode (ex_cod 87) 317 = .ok (.aload_n 2, 1) := by decide +kernel
theorem ed_87_318 : decode (ex_cod 87) 318 = .ok (.aload_n 0, 1) := by decide +kernel
theorem ed_87_319 : decode (ex_cod 87) 319 = .ok (.iload_n 3, 1) := by decide +kernel
theorem ed_87_320 : decode (ex_cod 87) 320 = .ok (.iconst 1, 1) := by decide +kernel
theorem ed_87_321 : decode (ex_cod 87) 321 = .ok (.iadd, 1) := by decide +kernel
theorem ed_87_322 : decode (ex_cod 87) 322 = .ok (.iaload, 1) := by decide +kernel
theorem ed_87_323 : decode (ex_cod 87) 323 = .ok (.invokevirtual 68, 3) := by decide +kernel
theorem ed_87_326 : decode (ex_cod 87) 326 = .ok (.if_icmp .eq 146, 3) := by decide +kernel
theorem ed_87_329 : decode (ex_cod 87) 329 = .ok (.iconst 0, 1) := by decide +kernel
theorem ed_87_330 : decode (ex_cod 87) 330 = .ok (.ireturn, 1) := by decide +kernel
theorem ed_87_331 : decode (ex_cod 87) 331 = .ok (.aload_n 1, 1) := by decide +kernel
theorem ed_87_332 : decode (ex_cod 87) 332 = .ok (.aload_n 0, 1) := by decide +kernel
theorem ed_87_333 : decode (ex_cod 87) 333 = .ok (.iload_n 3, 1) := by decide +kernel
theorem ed_87_334 : decode (ex_cod 87) 334 = .ok (.iconst 1, 1) := by decide +kernel
theorem ed_87_335 : decode (ex_cod 87) 335 = .ok (.iadd, 1) := by decide +kernel
theorem ed_87_336 : decode (ex_cod 87) 336 = .ok (.iaload, 1) := by decide +kernel
theorem ed_87_337 : decode (ex_cod 87) 337 = .ok (.invokevirtual 69, 3) := by decide +kernel
theorem ed_87_340 : decode (ex_cod 87) 340 = .ok (.aload_n 2, 1) := by decide +kernel
theorem ed_87_341 : decode (ex_cod 87) 341 = .ok (.aload_n 0, 1) := by decide +kernel
theorem ed_87_342 : decode (ex_cod 87) 342 = .ok (.iload_n 3, 1) := by decide +kernel
theorem ed_87_343 : decode (ex_cod 87) 343 = .ok (.iconst 1, 1) := by decide +kernel
theorem ed_87_344 : decode (ex_cod 87) 344 = .ok (.iadd, 1) := by decide +kernel
theorem ed_87_345 : decode (ex_cod 87) 345 = .ok (.iaload, 1) := by decide +kernel
theorem ed_87_346 : decode (ex_cod 87) 346 = .ok (.invokevirtual 72, 3) := by decide +kernel
theorem ed_87_349 : decode (ex_cod 87) 349 = .ok (.if_icmp .eq 123, 3) := by decide +kernel
theorem ed_87_352 : decode (ex_cod 87) 352 = .ok (.iconst 0, 1) := by decide +kernel
theorem ed_87_353 : decode (ex_cod 87) 353 = .ok (.ireturn, 1) := by decide +kernel
theorem ed_87_354 : decode (ex_cod 87) 354 = .ok (.aload_n 1, 1) := by decide +kernel
theorem ed_87_355 : decode (ex_cod 87) 355 = .ok (.aload_n 0, 1) := by decide +kernel
theorem ed_87_356 : decode (ex_cod 87) 356 = .ok (.iload_n 3, 1) := by decide +kernel
theorem ed_87_357 : decode (ex_cod 87) 357 = .ok (.iconst 1, 1) := by decide +kernel
theorem ed_87_358 : decode (ex_cod 87) 358 = .ok (.iadd, 1) := by decide +kernel
theorem ed_87_359 : decode (ex_cod 87) 359 = .ok (.iaload, 1) := by decide +kernel
theorem ed_87_360 : decode (ex_cod 87) 360 = .ok (.invokevirtual 73, 3) := by decide +kernel
theorem ed_87_363 : decode (ex_cod 87) 363 = .ok (.aload_n 2, 1) := by decide +kernel
theorem ed_87_364 : decode (ex_cod 87) 364 = .ok (.aload_n 0, 1) := by decide +kernel
theorem ed_87_365 : decode (ex_cod 87) 365 = .ok (.iload_n 3, 1) := by decide +kernel
theorem ed_87_366 : decode (ex_cod 87) 366 = .ok (.iconst 1, 1) := by decide +kernel
theorem ed_87_367 : decode (ex_cod 87) 367 = .ok (.iadd, 1) := by decide +kernel
theorem ed_87_368 : decode (ex_cod 87) 368 = .ok (.iaload, 1) := by decide +kernel
theorem ed_87_369 : decode (ex_cod 87) 369 = .ok (.invokevirtual 76, 3) := by decide +kernel
theorem ed_87_372 : decode (ex_cod 87) 372 = .ok (.if_icmp .eq 100, 3) := by decide +kernel
theorem ed_87_375 : decode (ex_cod 87) 375 = .ok (.iconst 0, 1) := by decide +kernel
theorem ed_87_376 : decode (ex_cod 87) 376 = .ok (.ireturn, 1) := by decide +kernel
theorem ed_87_377 : decode (ex_cod 87) 377 = .ok (.aload_n 1, 1) := by decide +kernel
theorem ed_87_378 : decode (ex_cod 87) 378 = .ok (.aload_n 0, 1) := by decide +kernel
theorem ed_87_379 : decode (ex_cod 87) 379 = .ok (.iload_n 3, 1) := by decide +kernel
theorem ed_87_380 : decode (ex_cod 87) 380 = .ok (.iconst 1, 1) := by decide +kernel
theorem ed_87_381 : decode (ex_cod 87) 381 = .ok (.iadd, 1) := by decide +kernel
theorem ed_87_382 : decode (ex_cod 87) 382 = .ok (.iaload, 1) := by decide +kernel
theorem ed_87_383 : decode (ex_cod 87) 383 = .ok (.invokevirtual 77, 3) := by decide +kernel
theorem ed_87_386 : decode (ex_cod 87) 386 = .ok (.aload_n 2, 1) := by decide +kernel
theorem ed_87_387 : decode (ex_cod 87) 387 = .ok (.aload_n 0, 1) := by decide +kernel
theorem ed_87_388 : decode (ex_cod 87) 388 = .ok (.iload_n 3, 1) := by decide +kernel
theorem ed_87_389 : decode (ex_cod 87) 389 = .ok (.iconst 1, 1) := by decide +kernel
theorem ed_87_390 : decode (ex_cod 87) 390 = .ok (.iadd, 1) := by decide +kernel
theorem ed_87_391 : decode (ex_cod 87) 391 = .ok (.iaload, 1) := by decide +kernel
theorem ed_87_392 : decode (ex_cod 87) 392 = .ok (.invokevirtual 80, 3) := by decide +kernel
theorem ed_87_395 : decode (ex_cod 87) 395 = .ok (.if_icmp .eq 77, 3) := by decide +kernel
theorem ed_87_398 : decode (ex_cod 87) 398 = .ok (.iconst 0, 1) := by decide +kernel
theorem ed_87_399 : decode (ex_cod 87) 399 = .ok (.ireturn, 1) := by decide +kernel
theorem ed_87_400 : decode (ex_cod 87) 400 = .ok (.aload_n 1, 1) := by decide +kernel
theorem ed_87_401 : decode (ex_cod 87) 401 = .ok (.aload_n 0, 1) := by decide +kernel
theorem ed_87_402 : decode (ex_cod 87) 402 = .ok (.iload_n 3, 1) := by decide +kernel
theorem ed_87_403 : decode (ex_cod 87) 403 = .ok (.iconst 1, 1) := by decide +kernel
theorem ed_87_404 : decode (ex_cod 87) 404 = .ok (.iadd, 1) := by decide +kernel
theorem ed_87_405 : decode (ex_cod 87) 405 = .ok (.iaload, 1) := by decide +kernel
theorem ed_87_406 : decode (ex_cod 87) 406 = .ok (.aload_n 0, 1) := by decide +kernel
theorem ed_87_407 : decode (ex_cod 87) 407 = .ok (.iload_n 3, 1) := by decide +kernel
theorem ed_87_408 : decode (ex_cod 87) 408 = .ok (.iconst 2, 1) := by decide +kernel
theorem ed_87_409 : decode (ex_cod 87) 409 = .ok (.iadd, 1) := by decide +kernel
theorem ed_87_410 : decode (ex_cod 87) 410 = .ok (.iaload, 1) := by decide +kernel
theorem ed_87_411 : decode (ex_cod 87) 411 = .ok (.invokevirtual 81, 3) := by decide +kernel
theorem ed_87_414 : decode (ex_cod 87) 414 = .ok (.aload_n 2, 1) := by decide +kernel
theorem ed_87_415 : decode (ex_cod 87) 415 = .ok (.aload_n 0, 1) := by decide +kernel
theorem ed_87_416 : decode (ex_cod 87) 416 = .ok (.iload_n 3, 1) := by decide +kernel
theorem ed_87_417 : decode (ex_cod 87) 417 = .ok (.iconst 1, 1) := by decide +kernel
theorem ed_87_418 : decode (ex_cod 87) 418 = .ok (.iadd, 1) := by decide +kernel
theorem ed_87_419 : decode (ex_cod 87) 419 = .ok (.iaload, 1) := by decide +kernel
theorem ed_87_420 : decode (ex_cod 87) 420 = .ok (.aload_n 0, 1) := by decide +kernel
theorem ed_87_421 : decode (ex_cod 87) 421 = .ok (.iload_n 3, 1) := by decide +kernel
theorem ed_87_422 : decode (ex_cod 87) 422 = .ok (.iconst 2, 1) := by decide +kernel
theorem ed_87_423 : decode (ex_cod 87) 423 = .ok (.iadd, 1) := by decide +kernel
theorem ed_87_424 : decode (ex_cod 87) 424 = .ok (.iaload, 1) := by decide +kernel
theorem ed_87_425 : decode (ex_cod 87) 425 = .ok (.invokevirtual 84, 3) := by decide +kernel
theorem ed_87_428 : decode (ex_cod 87) 428 = .ok (.if_icmp .eq 44, 3) := by decide +kernel
theorem ed_87_431 : decode (ex_cod 87) 431 = .ok (.iconst 0, 1) := by decide +kernel
theorem ed_87_432 : decode (ex_cod 87) 432 = .ok (.ireturn, 1) := by decide +kernel
theorem ed_87_433 : decode (ex_cod 87) 433 = .ok (.aload_n 1, 1) := by decide +kernel
theorem ed_87_434 : decode (ex_cod 87) 434 = .ok (.invokevirtual 85, 3) := by decide +kernel
theorem ed_87_437 : decode (ex_cod 87) 437 = .ok (.aload_n 2, 1) := by decide +kernel
theorem ed_87_438 : decode (ex_cod 87) 438 = .ok (.invokevirtual 88, 3) := by decide +kernel
theorem ed_87_441 : decode (ex_cod 87) 441 = .ok (.if_icmp .eq 31, 3) := by decide +kernel
theorem ed_87_444 : decode (ex_cod 87) 444 = .ok (.iconst 0, 1) := by decide +kernel
theorem ed_87_445 : decode (ex_cod 87) 445 = .ok (.ireturn, 1) := by decide +kernel
theorem ed_87_446 : decode (ex_cod 87) 446 = .ok (.aload_n 1, 1) := by decide +kernel
theorem ed_87_447 : decode (ex_cod 87) 447 = .ok (.invokevirtual 89, 3) := by decide +kernel
theorem ed_87_450 : decode (ex_cod 87) 450 = .ok (.aload_n 2, 1) := by decide +kernel
theorem ed_87_451 : decode (ex_cod 87) 451 = .ok (.invokevirtual 92, 3) := by decide +kernel
theorem ed_87_454 : decode (ex_cod 87) 454 = .ok (.if_icmp .eq 18, 3) := by decide +kernel
theorem ed_87_457 : decode (ex_cod 87) 457 = .ok (.iconst 0, 1) := by decide +kernel
theorem ed_87_458 : decode (ex_cod 87) 458 = .ok (.ireturn, 1) := by decide +kernel
theorem ed_87_459 : decode (ex_cod 87) 459 = .ok (.aload_n 1, 1) := by decide +kernel
theorem ed_87_460 : decode (ex_cod 87) 460 = .ok (.invokevirtual 93, 3) := by decide +kernel
theorem ed_87_463 : decode (ex_cod 87) 463 = .ok (.aload_n 2, 1) := by decide +kernel
theorem ed_87_464 : decode (ex_cod 87) 464 = .ok (.invokevirtual 96, 3) := by decide +kernel
theorem ed_87_467 : decode (ex_cod 87) 467 = .ok (.if_icmp .eq 5, 3) := by decide +kernel
theorem ed_87_470 : decode (ex_cod 87) 470 = .ok (.iconst 0, 1) := by decide +kernel
theorem ed_87_471 : decode (ex_cod 87) 471 = .ok (.ireturn, 1) := by decide +kernel
theorem ed_87_472 : decode (ex_cod 87) 472 = .ok (.iinc 3 3, 3) := by decide +kernel
theorem ed_87_475 : decode (ex_cod 87) 475 = .ok (.goto (-447), 3) := by decide +kernel
theorem ed_87_478 : decode (ex_cod 87) 478 = .ok (.iconst 1, 1) := by decide +kernel
theorem ed_87_479 : decode (ex_cod 87) 479 = .ok (.ireturn, 1) := by decide +kernel
