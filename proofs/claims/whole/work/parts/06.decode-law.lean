theorem dW_cell_0 : decode cW_cell 0 = .ok (.iload_n 1, 1) := by decide +kernel
theorem dW_cell_1 : decode cW_cell 1 = .ok (.aload_n 0, 1) := by decide +kernel
theorem dW_cell_2 : decode cW_cell 2 = .ok (.arraylength, 1) := by decide +kernel
theorem dW_cell_3 : decode cW_cell 3 = .ok (.if_icmp .ge 9, 3) := by decide +kernel
theorem dW_cell_6 : decode cW_cell 6 = .ok (.aload_n 0, 1) := by decide +kernel
theorem dW_cell_7 : decode cW_cell 7 = .ok (.iload_n 1, 1) := by decide +kernel
theorem dW_cell_8 : decode cW_cell 8 = .ok (.iaload, 1) := by decide +kernel
theorem dW_cell_9 : decode cW_cell 9 = .ok (.goto 4, 3) := by decide +kernel
theorem dW_cell_12 : decode cW_cell 12 = .ok (.iconst 0, 1) := by decide +kernel
theorem dW_cell_13 : decode cW_cell 13 = .ok (.ireturn, 1) := by decide +kernel
theorem dW_get_0 : decode cW_get 0 = .ok (.aload_n 2, 1) := by decide +kernel
theorem dW_get_1 : decode cW_get 1 = .ok (.iconst 0, 1) := by decide +kernel
theorem dW_get_2 : decode cW_get 2 = .ok (.aload_n 0, 1) := by decide +kernel
theorem dW_get_3 : decode cW_get 3 = .ok (.iload_n 1, 1) := by decide +kernel
theorem dW_get_4 : decode cW_get 4 = .ok (.invokevirtual 7, 3) := by decide +kernel
theorem dW_get_7 : decode cW_get 7 = .ok (.lastore, 1) := by decide +kernel
theorem dW_get_8 : decode cW_get 8 = .ok (.goto 6, 3) := by decide +kernel
theorem dW_get_11 : decode cW_get 11 = .ok (.astore_n 3, 1) := by decide +kernel
theorem dW_get_12 : decode cW_get 12 = .ok (.iconst 1, 1) := by decide +kernel
theorem dW_get_13 : decode cW_get 13 = .ok (.ireturn, 1) := by decide +kernel
theorem dW_get_14 : decode cW_get 14 = .ok (.iconst 0, 1) := by decide +kernel
theorem dW_get_15 : decode cW_get 15 = .ok (.ireturn, 1) := by decide +kernel
theorem dW_law_0 : decode code 0 = .ok (.new 8, 3) := by decide +kernel
theorem dW_law_3 : decode code 3 = .ok (.dup, 1) := by decide +kernel
theorem dW_law_4 : decode code 4 = .ok (.aload_n 0, 1) := by decide +kernel
theorem dW_law_5 : decode code 5 = .ok (.iconst 0, 1) := by decide +kernel
theorem dW_law_6 : decode code 6 = .ok (.invokestatic 15, 3) := by decide +kernel
theorem dW_law_9 : decode code 9 = .ok (.invokespecial 21, 3) := by decide +kernel
theorem dW_law_12 : decode code 12 = .ok (.astore_n 1, 1) := by decide +kernel
theorem dW_law_13 : decode code 13 = .ok (.new 24, 3) := by decide +kernel
theorem dW_law_16 : decode code 16 = .ok (.dup, 1) := by decide +kernel
theorem dW_law_17 : decode code 17 = .ok (.aload_n 0, 1) := by decide +kernel
theorem dW_law_18 : decode code 18 = .ok (.iconst 0, 1) := by decide +kernel
theorem dW_law_19 : decode code 19 = .ok (.invokestatic 15, 3) := by decide +kernel
theorem dW_law_22 : decode code 22 = .ok (.invokespecial 26, 3) := by decide +kernel
theorem dW_law_25 : decode code 25 = .ok (.astore_n 2, 1) := by decide +kernel
theorem dW_law_26 : decode code 26 = .ok (.iconst 1, 1) := by decide +kernel
theorem dW_law_27 : decode code 27 = .ok (.newarray .long, 2) := by decide +kernel
theorem dW_law_29 : decode code 29 = .ok (.astore_n 3, 1) := by decide +kernel
theorem dW_law_30 : decode code 30 = .ok (.iconst 1, 1) := by decide +kernel
theorem dW_law_31 : decode code 31 = .ok (.istore 4, 2) := by decide +kernel
theorem dW_law_33 : decode code 33 = .ok (.iload 4, 2) := by decide +kernel
theorem dW_law_35 : decode code 35 = .ok (.aload_n 0, 1) := by decide +kernel
theorem dW_law_36 : decode code 36 = .ok (.arraylength, 1) := by decide +kernel
theorem dW_law_37 : decode code 37 = .ok (.iconst 4, 1) := by decide +kernel
theorem dW_law_38 : decode code 38 = .ok (.isub, 1) := by decide +kernel
theorem dW_law_39 : decode code 39 = .ok (.if_icmp .gt 648, 3) := by decide +kernel
theorem dW_law_42 : decode code 42 = .ok (.aload_n 0, 1) := by decide +kernel
theorem dW_law_43 : decode code 43 = .ok (.iload 4, 2) := by decide +kernel
theorem dW_law_45 : decode code 45 = .ok (.iaload, 1) := by decide +kernel
theorem dW_law_46 : decode code 46 = .ok (.bipush 15, 2) := by decide +kernel
theorem dW_law_48 : decode code 48 = .ok (.iand, 1) := by decide +kernel
theorem dW_law_49 : decode code 49 = .ok (.tableswitch 632 0 13 #[71, 120, 189, 238, 275, 312, 325, 394, 451, 506, 543, 568, 593, 607], 71) := by decide +kernel
theorem dW_law_120 : decode code 120 = .ok (.aload_n 1, 1) := by decide +kernel
theorem dW_law_121 : decode code 121 = .ok (.aload_n 0, 1) := by decide +kernel
theorem dW_law_122 : decode code 122 = .ok (.iload 4, 2) := by decide +kernel
theorem dW_law_124 : decode code 124 = .ok (.iconst 1, 1) := by decide +kernel
theorem dW_law_125 : decode code 125 = .ok (.iadd, 1) := by decide +kernel
theorem dW_law_126 : decode code 126 = .ok (.iaload, 1) := by decide +kernel
theorem dW_law_127 : decode code 127 = .ok (.aload_n 0, 1) := by decide +kernel
theorem dW_law_128 : decode code 128 = .ok (.iload 4, 2) := by decide +kernel
theorem dW_law_130 : decode code 130 = .ok (.iconst 2, 1) := by decide +kernel
theorem dW_law_131 : decode code 131 = .ok (.iadd, 1) := by decide +kernel
theorem dW_law_132 : decode code 132 = .ok (.iaload, 1) := by decide +kernel
theorem dW_law_133 : decode code 133 = .ok (.aload_n 0, 1) := by decide +kernel
theorem dW_law_134 : decode code 134 = .ok (.iload 4, 2) := by decide +kernel
theorem dW_law_136 : decode code 136 = .ok (.iconst 3, 1) := by decide +kernel
theorem dW_law_137 : decode code 137 = .ok (.iadd, 1) := by decide +kernel
theorem dW_law_138 : decode code 138 = .ok (.iaload, 1) := by decide +kernel
theorem dW_law_139 : decode code 139 = .ok (.invokevirtual 27, 3) := by decide +kernel
theorem dW_law_142 : decode code 142 = .ok (.aload_n 2, 1) := by decide +kernel
theorem dW_law_143 : decode code 143 = .ok (.aload_n 0, 1) := by decide +kernel
theorem dW_law_144 : decode code 144 = .ok (.iload 4, 2) := by decide +kernel
theorem dW_law_146 : decode code 146 = .ok (.iconst 1, 1) := by decide +kernel
theorem dW_law_147 : decode code 147 = .ok (.iadd, 1) := by decide +kernel
theorem dW_law_148 : decode code 148 = .ok (.iaload, 1) := by decide +kernel
theorem dW_law_149 : decode code 149 = .ok (.aload_n 0, 1) := by decide +kernel
theorem dW_law_150 : decode code 150 = .ok (.iload 4, 2) := by decide +kernel
theorem dW_law_152 : decode code 152 = .ok (.iconst 2, 1) := by decide +kernel
theorem dW_law_153 : decode code 153 = .ok (.iadd, 1) := by decide +kernel
theorem dW_law_154 : decode code 154 = .ok (.iaload, 1) := by decide +kernel
theorem dW_law_155 : decode code 155 = .ok (.aload_n 0, 1) := by decide +kernel
theorem dW_law_156 : decode code 156 = .ok (.iload 4, 2) := by decide +kernel
theorem dW_law_158 : decode code 158 = .ok (.iconst 3, 1) := by decide +kernel
theorem dW_law_159 : decode code 159 = .ok (.iadd, 1) := by decide +kernel
theorem dW_law_160 : decode code 160 = .ok (.iaload, 1) := by decide +kernel
theorem dW_law_161 : decode code 161 = .ok (.invokevirtual 31, 3) := by decide +kernel
theorem dW_law_164 : decode code 164 = .ok (.if_icmp .eq 517, 3) := by decide +kernel
theorem dW_law_167 : decode code 167 = .ok (.iconst 0, 1) := by decide +kernel
theorem dW_law_168 : decode code 168 = .ok (.ireturn, 1) := by decide +kernel
theorem dW_law_169 : decode code 169 = .ok (.aload_n 1, 1) := by decide +kernel
theorem dW_law_170 : decode code 170 = .ok (.aload_n 0, 1) := by decide +kernel
theorem dW_law_171 : decode code 171 = .ok (.iload 4, 2) := by decide +kernel
theorem dW_law_173 : decode code 173 = .ok (.iconst 1, 1) := by decide +kernel
theorem dW_law_174 : decode code 174 = .ok (.iadd, 1) := by decide +kernel
theorem dW_law_175 : decode code 175 = .ok (.iaload, 1) := by decide +kernel
theorem dW_law_176 : decode code 176 = .ok (.aload_n 0, 1) := by decide +kernel
theorem dW_law_177 : decode code 177 = .ok (.iload 4, 2) := by decide +kernel
theorem dW_law_179 : decode code 179 = .ok (.iconst 2, 1) := by decide +kernel
theorem dW_law_180 : decode code 180 = .ok (.iadd, 1) := by decide +kernel
theorem dW_law_181 : decode code 181 = .ok (.iaload, 1) := by decide +kernel
theorem dW_law_182 : decode code 182 = .ok (.i2l, 1) := by decide +kernel
theorem dW_law_183 : decode code 183 = .ok (.bipush 32, 2) := by decide +kernel
theorem dW_law_185 : decode code 185 = .ok (.lshl, 1) := by decide +kernel
theorem dW_law_186 : decode code 186 = .ok (.aload_n 0, 1) := by decide +kernel
theorem dW_law_187 : decode code 187 = .ok (.iload 4, 2) := by decide +kernel
theorem dW_law_189 : decode code 189 = .ok (.iconst 3, 1) := by decide +kernel
theorem dW_law_190 : decode code 190 = .ok (.iadd, 1) := by decide +kernel
theorem dW_law_191 : decode code 191 = .ok (.iaload, 1) := by decide +kernel
theorem dW_law_192 : decode code 192 = .ok (.i2l, 1) := by decide +kernel
theorem dW_law_193 : decode code 193 = .ok (.ldc2_w 32, 3) := by decide +kernel
theorem dW_law_196 : decode code 196 = .ok (.land, 1) := by decide +kernel
theorem dW_law_197 : decode code 197 = .ok (.lor, 1) := by decide +kernel
theorem dW_law_198 : decode code 198 = .ok (.invokevirtual 34, 3) := by decide +kernel
theorem dW_law_201 : decode code 201 = .ok (.aload_n 2, 1) := by decide +kernel
theorem dW_law_202 : decode code 202 = .ok (.aload_n 0, 1) := by decide +kernel
theorem dW_law_203 : decode code 203 = .ok (.iload 4, 2) := by decide +kernel
theorem dW_law_205 : decode code 205 = .ok (.iconst 1, 1) := by decide +kernel
theorem dW_law_206 : decode code 206 = .ok (.iadd, 1) := by decide +kernel
theorem dW_law_207 : decode code 207 = .ok (.iaload, 1) := by decide +kernel
theorem dW_law_208 : decode code 208 = .ok (.aload_n 0, 1) := by decide +kernel
theorem dW_law_209 : decode code 209 = .ok (.iload 4, 2) := by decide +kernel
theorem dW_law_211 : decode code 211 = .ok (.iconst 2, 1) := by decide +kernel
theorem dW_law_212 : decode code 212 = .ok (.iadd, 1) := by decide +kernel
theorem dW_law_213 : decode code 213 = .ok (.iaload, 1) := by decide +kernel
theorem dW_law_214 : decode code 214 = .ok (.i2l, 1) := by decide +kernel
theorem dW_law_215 : decode code 215 = .ok (.bipush 32, 2) := by decide +kernel
theorem dW_law_217 : decode code 217 = .ok (.lshl, 1) := by decide +kernel
theorem dW_law_218 : decode code 218 = .ok (.aload_n 0, 1) := by decide +kernel
theorem dW_law_219 : decode code 219 = .ok (.iload 4, 2) := by decide +kernel
theorem dW_law_221 : decode code 221 = .ok (.iconst 3, 1) := by decide +kernel
theorem dW_law_222 : decode code 222 = .ok (.iadd, 1) := by decide +kernel
theorem dW_law_223 : decode code 223 = .ok (.iaload, 1) := by decide +kernel
theorem dW_law_224 : decode code 224 = .ok (.i2l, 1) := by decide +kernel
theorem dW_law_225 : decode code 225 = .ok (.ldc2_w 32, 3) := by decide +kernel
theorem dW_law_228 : decode code 228 = .ok (.land, 1) := by decide +kernel
theorem dW_law_229 : decode code 229 = .ok (.lor, 1) := by decide +kernel
theorem dW_law_230 : decode code 230 = .ok (.invokevirtual 37, 3) := by decide +kernel
theorem dW_law_233 : decode code 233 = .ok (.if_icmp .eq 448, 3) := by decide +kernel
theorem dW_law_236 : decode code 236 = .ok (.iconst 0, 1) := by decide +kernel
theorem dW_law_237 : decode code 237 = .ok (.ireturn, 1) := by decide +kernel
theorem dW_law_238 : decode code 238 = .ok (.aload_n 1, 1) := by decide +kernel
theorem dW_law_239 : decode code 239 = .ok (.aload_n 0, 1) := by decide +kernel
theorem dW_law_240 : decode code 240 = .ok (.iload 4, 2) := by decide +kernel
theorem dW_law_242 : decode code 242 = .ok (.iconst 1, 1) := by decide +kernel
theorem dW_law_243 : decode code 243 = .ok (.iadd, 1) := by decide +kernel
theorem dW_law_244 : decode code 244 = .ok (.iaload, 1) := by decide +kernel
theorem dW_law_245 : decode code 245 = .ok (.aload_n 0, 1) := by decide +kernel
theorem dW_law_246 : decode code 246 = .ok (.iload 4, 2) := by decide +kernel
theorem dW_law_248 : decode code 248 = .ok (.iconst 2, 1) := by decide +kernel
theorem dW_law_249 : decode code 249 = .ok (.iadd, 1) := by decide +kernel
theorem dW_law_250 : decode code 250 = .ok (.iaload, 1) := by decide +kernel
theorem dW_law_251 : decode code 251 = .ok (.aload_n 0, 1) := by decide +kernel
theorem dW_law_252 : decode code 252 = .ok (.iload 4, 2) := by decide +kernel
theorem dW_law_254 : decode code 254 = .ok (.iconst 3, 1) := by decide +kernel
theorem dW_law_255 : decode code 255 = .ok (.iadd, 1) := by decide +kernel
theorem dW_law_256 : decode code 256 = .ok (.iaload, 1) := by decide +kernel
theorem dW_law_257 : decode code 257 = .ok (.invokevirtual 38, 3) := by decide +kernel
theorem dW_law_260 : decode code 260 = .ok (.aload_n 2, 1) := by decide +kernel
theorem dW_law_261 : decode code 261 = .ok (.aload_n 0, 1) := by decide +kernel
theorem dW_law_262 : decode code 262 = .ok (.iload 4, 2) := by decide +kernel
theorem dW_law_264 : decode code 264 = .ok (.iconst 1, 1) := by decide +kernel
theorem dW_law_265 : decode code 265 = .ok (.iadd, 1) := by decide +kernel
theorem dW_law_266 : decode code 266 = .ok (.iaload, 1) := by decide +kernel
theorem dW_law_267 : decode code 267 = .ok (.aload_n 0, 1) := by decide +kernel
theorem dW_law_268 : decode code 268 = .ok (.iload 4, 2) := by decide +kernel
theorem dW_law_270 : decode code 270 = .ok (.iconst 2, 1) := by decide +kernel
theorem dW_law_271 : decode code 271 = .ok (.iadd, 1) := by decide +kernel
theorem dW_law_272 : decode code 272 = .ok (.iaload, 1) := by decide +kernel
theorem dW_law_273 : decode code 273 = .ok (.aload_n 0, 1) := by decide +kernel
theorem dW_law_274 : decode code 274 = .ok (.iload 4, 2) := by decide +kernel
theorem dW_law_276 : decode code 276 = .ok (.iconst 3, 1) := by decide +kernel
theorem dW_law_277 : decode code 277 = .ok (.iadd, 1) := by decide +kernel
theorem dW_law_278 : decode code 278 = .ok (.iaload, 1) := by decide +kernel
theorem dW_law_279 : decode code 279 = .ok (.invokevirtual 41, 3) := by decide +kernel
theorem dW_law_282 : decode code 282 = .ok (.if_icmp .eq 399, 3) := by decide +kernel
theorem dW_law_285 : decode code 285 = .ok (.iconst 0, 1) := by decide +kernel
theorem dW_law_286 : decode code 286 = .ok (.ireturn, 1) := by decide +kernel
theorem dW_law_287 : decode code 287 = .ok (.aload_n 1, 1) := by decide +kernel
theorem dW_law_288 : decode code 288 = .ok (.aload_n 0, 1) := by decide +kernel
theorem dW_law_289 : decode code 289 = .ok (.iload 4, 2) := by decide +kernel
theorem dW_law_291 : decode code 291 = .ok (.iconst 1, 1) := by decide +kernel
theorem dW_law_292 : decode code 292 = .ok (.iadd, 1) := by decide +kernel
theorem dW_law_293 : decode code 293 = .ok (.iaload, 1) := by decide +kernel
theorem dW_law_294 : decode code 294 = .ok (.aload_n 0, 1) := by decide +kernel
theorem dW_law_295 : decode code 295 = .ok (.iload 4, 2) := by decide +kernel
theorem dW_law_297 : decode code 297 = .ok (.iconst 2, 1) := by decide +kernel
theorem dW_law_298 : decode code 298 = .ok (.iadd, 1) := by decide +kernel
theorem dW_law_299 : decode code 299 = .ok (.iaload, 1) := by decide +kernel
theorem dW_law_300 : decode code 300 = .ok (.invokevirtual 42, 3) := by decide +kernel
theorem dW_law_303 : decode code 303 = .ok (.aload_n 2, 1) := by decide +kernel
theorem dW_law_304 : decode code 304 = .ok (.aload_n 0, 1) := by decide +kernel
theorem dW_law_305 : decode code 305 = .ok (.iload 4, 2) := by decide +kernel
theorem dW_law_307 : decode code 307 = .ok (.iconst 1, 1) := by decide +kernel
theorem dW_law_308 : decode code 308 = .ok (.iadd, 1) := by decide +kernel
theorem dW_law_309 : decode code 309 = .ok (.iaload, 1) := by decide +kernel
theorem dW_law_310 : decode code 310 = .ok (.aload_n 0, 1) := by decide +kernel
theorem dW_law_311 : decode code 311 = .ok (.iload 4, 2) := by decide +kernel
theorem dW_law_313 : decode code 313 = .ok (.iconst 2, 1) := by decide +kernel
theorem dW_law_314 : decode code 314 = .ok (.iadd, 1) := by decide +kernel
theorem dW_law_315 : decode code 315 = .ok (.iaload, 1) := by decide +kernel
theorem dW_law_316 : decode code 316 = .ok (.invokevirtual 46, 3) := by decide +kernel
theorem dW_law_319 : decode code 319 = .ok (.if_icmp .eq 362, 3) := by decide +kernel
theorem dW_law_322 : decode code 322 = .ok (.iconst 0, 1) := by decide +kernel
theorem dW_law_323 : decode code 323 = .ok (.ireturn, 1) := by decide +kernel
theorem dW_law_324 : decode code 324 = .ok (.aload_n 1, 1) := by decide +kernel
theorem dW_law_325 : decode code 325 = .ok (.aload_n 0, 1) := by decide +kernel
theorem dW_law_326 : decode code 326 = .ok (.iload 4, 2) := by decide +kernel
theorem dW_law_328 : decode code 328 = .ok (.iconst 1, 1) := by decide +kernel
theorem dW_law_329 : decode code 329 = .ok (.iadd, 1) := by decide +kernel
theorem dW_law_330 : decode code 330 = .ok (.iaload, 1) := by decide +kernel
theorem dW_law_331 : decode code 331 = .ok (.aload_n 0, 1) := by decide +kernel
theorem dW_law_332 : decode code 332 = .ok (.iload 4, 2) := by decide +kernel
theorem dW_law_334 : decode code 334 = .ok (.iconst 2, 1) := by decide +kernel
theorem dW_law_335 : decode code 335 = .ok (.iadd, 1) := by decide +kernel
theorem dW_law_336 : decode code 336 = .ok (.iaload, 1) := by decide +kernel
theorem dW_law_337 : decode code 337 = .ok (.invokevirtual 47, 3) := by decide +kernel
theorem dW_law_340 : decode code 340 = .ok (.aload_n 2, 1) := by decide +kernel
theorem dW_law_341 : decode code 341 = .ok (.aload_n 0, 1) := by decide +kernel
theorem dW_law_342 : decode code 342 = .ok (.iload 4, 2) := by decide +kernel
theorem dW_law_344 : decode code 344 = .ok (.iconst 1, 1) := by decide +kernel
theorem dW_law_345 : decode code 345 = .ok (.iadd, 1) := by decide +kernel
theorem dW_law_346 : decode code 346 = .ok (.iaload, 1) := by decide +kernel
theorem dW_law_347 : decode code 347 = .ok (.aload_n 0, 1) := by decide +kernel
theorem dW_law_348 : decode code 348 = .ok (.iload 4, 2) := by decide +kernel
theorem dW_law_350 : decode code 350 = .ok (.iconst 2, 1) := by decide +kernel
theorem dW_law_351 : decode code 351 = .ok (.iadd, 1) := by decide +kernel
theorem dW_law_352 : decode code 352 = .ok (.iaload, 1) := by decide +kernel
theorem dW_law_353 : decode code 353 = .ok (.invokevirtual 50, 3) := by decide +kernel
theorem dW_law_356 : decode code 356 = .ok (.if_icmp .eq 325, 3) := by decide +kernel
theorem dW_law_359 : decode code 359 = .ok (.iconst 0, 1) := by decide +kernel
theorem dW_law_360 : decode code 360 = .ok (.ireturn, 1) := by decide +kernel
theorem dW_law_361 : decode code 361 = .ok (.aload_n 1, 1) := by decide +kernel
theorem dW_law_362 : decode code 362 = .ok (.invokevirtual 51, 3) := by decide +kernel
theorem dW_law_365 : decode code 365 = .ok (.aload_n 2, 1) := by decide +kernel
theorem dW_law_366 : decode code 366 = .ok (.invokevirtual 55, 3) := by decide +kernel
theorem dW_law_369 : decode code 369 = .ok (.if_icmp .eq 312, 3) := by decide +kernel
theorem dW_law_372 : decode code 372 = .ok (.iconst 0, 1) := by decide +kernel
theorem dW_law_373 : decode code 373 = .ok (.ireturn, 1) := by decide +kernel
theorem dW_law_374 : decode code 374 = .ok (.aload_n 1, 1) := by decide +kernel
theorem dW_law_375 : decode code 375 = .ok (.aload_n 0, 1) := by decide +kernel
theorem dW_law_376 : decode code 376 = .ok (.iload 4, 2) := by decide +kernel
theorem dW_law_378 : decode code 378 = .ok (.iconst 1, 1) := by decide +kernel
theorem dW_law_379 : decode code 379 = .ok (.iadd, 1) := by decide +kernel
theorem dW_law_380 : decode code 380 = .ok (.iaload, 1) := by decide +kernel
theorem dW_law_381 : decode code 381 = .ok (.aload_n 0, 1) := by decide +kernel
theorem dW_law_382 : decode code 382 = .ok (.iload 4, 2) := by decide +kernel
theorem dW_law_384 : decode code 384 = .ok (.iconst 2, 1) := by decide +kernel
theorem dW_law_385 : decode code 385 = .ok (.iadd, 1) := by decide +kernel
theorem dW_law_386 : decode code 386 = .ok (.iaload, 1) := by decide +kernel
theorem dW_law_387 : decode code 387 = .ok (.i2l, 1) := by decide +kernel
theorem dW_law_388 : decode code 388 = .ok (.bipush 32, 2) := by decide +kernel
theorem dW_law_390 : decode code 390 = .ok (.lshl, 1) := by decide +kernel
theorem dW_law_391 : decode code 391 = .ok (.aload_n 0, 1) := by decide +kernel
theorem dW_law_392 : decode code 392 = .ok (.iload 4, 2) := by decide +kernel
theorem dW_law_394 : decode code 394 = .ok (.iconst 3, 1) := by decide +kernel
theorem dW_law_395 : decode code 395 = .ok (.iadd, 1) := by decide +kernel
theorem dW_law_396 : decode code 396 = .ok (.iaload, 1) := by decide +kernel
theorem dW_law_397 : decode code 397 = .ok (.i2l, 1) := by decide +kernel
theorem dW_law_398 : decode code 398 = .ok (.ldc2_w 32, 3) := by decide +kernel
theorem dW_law_401 : decode code 401 = .ok (.land, 1) := by decide +kernel
theorem dW_law_402 : decode code 402 = .ok (.lor, 1) := by decide +kernel
theorem dW_law_403 : decode code 403 = .ok (.invokevirtual 56, 3) := by decide +kernel
theorem dW_law_406 : decode code 406 = .ok (.aload_n 2, 1) := by decide +kernel
theorem dW_law_407 : decode code 407 = .ok (.aload_n 0, 1) := by decide +kernel
theorem dW_law_408 : decode code 408 = .ok (.iload 4, 2) := by decide +kernel
theorem dW_law_410 : decode code 410 = .ok (.iconst 1, 1) := by decide +kernel
theorem dW_law_411 : decode code 411 = .ok (.iadd, 1) := by decide +kernel
theorem dW_law_412 : decode code 412 = .ok (.iaload, 1) := by decide +kernel
theorem dW_law_413 : decode code 413 = .ok (.aload_n 0, 1) := by decide +kernel
theorem dW_law_414 : decode code 414 = .ok (.iload 4, 2) := by decide +kernel
theorem dW_law_416 : decode code 416 = .ok (.iconst 2, 1) := by decide +kernel
theorem dW_law_417 : decode code 417 = .ok (.iadd, 1) := by decide +kernel
theorem dW_law_418 : decode code 418 = .ok (.iaload, 1) := by decide +kernel
theorem dW_law_419 : decode code 419 = .ok (.i2l, 1) := by decide +kernel
theorem dW_law_420 : decode code 420 = .ok (.bipush 32, 2) := by decide +kernel
theorem dW_law_422 : decode code 422 = .ok (.lshl, 1) := by decide +kernel
theorem dW_law_423 : decode code 423 = .ok (.aload_n 0, 1) := by decide +kernel
theorem dW_law_424 : decode code 424 = .ok (.iload 4, 2) := by decide +kernel
theorem dW_law_426 : decode code 426 = .ok (.iconst 3, 1) := by decide +kernel
theorem dW_law_427 : decode code 427 = .ok (.iadd, 1) := by decide +kernel
theorem dW_law_428 : decode code 428 = .ok (.iaload, 1) := by decide +kernel
theorem dW_law_429 : decode code 429 = .ok (.i2l, 1) := by decide +kernel
theorem dW_law_430 : decode code 430 = .ok (.ldc2_w 32, 3) := by decide +kernel
theorem dW_law_433 : decode code 433 = .ok (.land, 1) := by decide +kernel
theorem dW_law_434 : decode code 434 = .ok (.lor, 1) := by decide +kernel
theorem dW_law_435 : decode code 435 = .ok (.invokevirtual 59, 3) := by decide +kernel
theorem dW_law_438 : decode code 438 = .ok (.if_icmp .eq 243, 3) := by decide +kernel
theorem dW_law_441 : decode code 441 = .ok (.iconst 0, 1) := by decide +kernel
theorem dW_law_442 : decode code 442 = .ok (.ireturn, 1) := by decide +kernel
theorem dW_law_443 : decode code 443 = .ok (.aload_n 1, 1) := by decide +kernel
theorem dW_law_444 : decode code 444 = .ok (.aload_n 0, 1) := by decide +kernel
theorem dW_law_445 : decode code 445 = .ok (.iload 4, 2) := by decide +kernel
theorem dW_law_447 : decode code 447 = .ok (.iconst 1, 1) := by decide +kernel
theorem dW_law_448 : decode code 448 = .ok (.iadd, 1) := by decide +kernel
theorem dW_law_449 : decode code 449 = .ok (.iaload, 1) := by decide +kernel
theorem dW_law_450 : decode code 450 = .ok (.i2l, 1) := by decide +kernel
theorem dW_law_451 : decode code 451 = .ok (.bipush 32, 2) := by decide +kernel
theorem dW_law_453 : decode code 453 = .ok (.lshl, 1) := by decide +kernel
theorem dW_law_454 : decode code 454 = .ok (.aload_n 0, 1) := by decide +kernel
theorem dW_law_455 : decode code 455 = .ok (.iload 4, 2) := by decide +kernel
theorem dW_law_457 : decode code 457 = .ok (.iconst 2, 1) := by decide +kernel
theorem dW_law_458 : decode code 458 = .ok (.iadd, 1) := by decide +kernel
theorem dW_law_459 : decode code 459 = .ok (.iaload, 1) := by decide +kernel
theorem dW_law_460 : decode code 460 = .ok (.i2l, 1) := by decide +kernel
theorem dW_law_461 : decode code 461 = .ok (.ldc2_w 32, 3) := by decide +kernel
theorem dW_law_464 : decode code 464 = .ok (.land, 1) := by decide +kernel
theorem dW_law_465 : decode code 465 = .ok (.lor, 1) := by decide +kernel
theorem dW_law_466 : decode code 466 = .ok (.invokevirtual 60, 3) := by decide +kernel
theorem dW_law_469 : decode code 469 = .ok (.aload_n 2, 1) := by decide +kernel
theorem dW_law_470 : decode code 470 = .ok (.aload_n 0, 1) := by decide +kernel
theorem dW_law_471 : decode code 471 = .ok (.iload 4, 2) := by decide +kernel
theorem dW_law_473 : decode code 473 = .ok (.iconst 1, 1) := by decide +kernel
theorem dW_law_474 : decode code 474 = .ok (.iadd, 1) := by decide +kernel
theorem dW_law_475 : decode code 475 = .ok (.iaload, 1) := by decide +kernel
theorem dW_law_476 : decode code 476 = .ok (.i2l, 1) := by decide +kernel
theorem dW_law_477 : decode code 477 = .ok (.bipush 32, 2) := by decide +kernel
theorem dW_law_479 : decode code 479 = .ok (.lshl, 1) := by decide +kernel
theorem dW_law_480 : decode code 480 = .ok (.aload_n 0, 1) := by decide +kernel
theorem dW_law_481 : decode code 481 = .ok (.iload 4, 2) := by decide +kernel
theorem dW_law_483 : decode code 483 = .ok (.iconst 2, 1) := by decide +kernel
theorem dW_law_484 : decode code 484 = .ok (.iadd, 1) := by decide +kernel
theorem dW_law_485 : decode code 485 = .ok (.iaload, 1) := by decide +kernel
theorem dW_law_486 : decode code 486 = .ok (.i2l, 1) := by decide +kernel
theorem dW_law_487 : decode code 487 = .ok (.ldc2_w 32, 3) := by decide +kernel
theorem dW_law_490 : decode code 490 = .ok (.land, 1) := by decide +kernel
theorem dW_law_491 : decode code 491 = .ok (.lor, 1) := by decide +kernel
theorem dW_law_492 : decode code 492 = .ok (.invokevirtual 64, 3) := by decide +kernel
theorem dW_law_495 : decode code 495 = .ok (.if_icmp .eq 186, 3) := by decide +kernel
theorem dW_law_498 : decode code 498 = .ok (.iconst 0, 1) := by decide +kernel
theorem dW_law_499 : decode code 499 = .ok (.ireturn, 1) := by decide +kernel
theorem dW_law_500 : decode code 500 = .ok (.aload_n 1, 1) := by decide +kernel
theorem dW_law_501 : decode code 501 = .ok (.aload_n 0, 1) := by decide +kernel
theorem dW_law_502 : decode code 502 = .ok (.iload 4, 2) := by decide +kernel
theorem dW_law_504 : decode code 504 = .ok (.iconst 1, 1) := by decide +kernel
theorem dW_law_505 : decode code 505 = .ok (.iadd, 1) := by decide +kernel
theorem dW_law_506 : decode code 506 = .ok (.iaload, 1) := by decide +kernel
theorem dW_law_507 : decode code 507 = .ok (.aload_n 3, 1) := by decide +kernel
theorem dW_law_508 : decode code 508 = .ok (.invokestatic 65, 3) := by decide +kernel
theorem dW_law_511 : decode code 511 = .ok (.istore 5, 2) := by decide +kernel
theorem dW_law_513 : decode code 513 = .ok (.aload_n 2, 1) := by decide +kernel
theorem dW_law_514 : decode code 514 = .ok (.aload_n 0, 1) := by decide +kernel
theorem dW_law_515 : decode code 515 = .ok (.iload 4, 2) := by decide +kernel
theorem dW_law_517 : decode code 517 = .ok (.iconst 1, 1) := by decide +kernel
theorem dW_law_518 : decode code 518 = .ok (.iadd, 1) := by decide +kernel
theorem dW_law_519 : decode code 519 = .ok (.iaload, 1) := by decide +kernel
theorem dW_law_520 : decode code 520 = .ok (.invokevirtual 68, 3) := by decide +kernel
theorem dW_law_523 : decode code 523 = .ok (.lstore 6, 2) := by decide +kernel
theorem dW_law_525 : decode code 525 = .ok (.aload_n 2, 1) := by decide +kernel
theorem dW_law_526 : decode code 526 = .ok (.invokevirtual 69, 3) := by decide +kernel
theorem dW_law_529 : decode code 529 = .ok (.iload 5, 2) := by decide +kernel
theorem dW_law_531 : decode code 531 = .ok (.if_icmp .eq 5, 3) := by decide +kernel
theorem dW_law_534 : decode code 534 = .ok (.iconst 0, 1) := by decide +kernel
theorem dW_law_535 : decode code 535 = .ok (.ireturn, 1) := by decide +kernel
theorem dW_law_536 : decode code 536 = .ok (.iload 5, 2) := by decide +kernel
theorem dW_law_538 : decode code 538 = .ok (.ifCond .ne 14, 3) := by decide +kernel
theorem dW_law_541 : decode code 541 = .ok (.aload_n 3, 1) := by decide +kernel
theorem dW_law_542 : decode code 542 = .ok (.iconst 0, 1) := by decide +kernel
theorem dW_law_543 : decode code 543 = .ok (.laload, 1) := by decide +kernel
theorem dW_law_544 : decode code 544 = .ok (.lload 6, 2) := by decide +kernel
theorem dW_law_546 : decode code 546 = .ok (.lcmp, 1) := by decide +kernel
theorem dW_law_547 : decode code 547 = .ok (.ifCond .eq 5, 3) := by decide +kernel
theorem dW_law_550 : decode code 550 = .ok (.iconst 0, 1) := by decide +kernel
theorem dW_law_551 : decode code 551 = .ok (.ireturn, 1) := by decide +kernel
theorem dW_law_552 : decode code 552 = .ok (.goto 129, 3) := by decide +kernel
theorem dW_law_555 : decode code 555 = .ok (.aload_n 1, 1) := by decide +kernel
theorem dW_law_556 : decode code 556 = .ok (.aload_n 0, 1) := by decide +kernel
theorem dW_law_557 : decode code 557 = .ok (.iload 4, 2) := by decide +kernel
theorem dW_law_559 : decode code 559 = .ok (.iconst 1, 1) := by decide +kernel
theorem dW_law_560 : decode code 560 = .ok (.iadd, 1) := by decide +kernel
theorem dW_law_561 : decode code 561 = .ok (.iaload, 1) := by decide +kernel
theorem dW_law_562 : decode code 562 = .ok (.aload_n 0, 1) := by decide +kernel
theorem dW_law_563 : decode code 563 = .ok (.iload 4, 2) := by decide +kernel
theorem dW_law_565 : decode code 565 = .ok (.iconst 2, 1) := by decide +kernel
theorem dW_law_566 : decode code 566 = .ok (.iadd, 1) := by decide +kernel
theorem dW_law_567 : decode code 567 = .ok (.iaload, 1) := by decide +kernel
theorem dW_law_568 : decode code 568 = .ok (.invokevirtual 72, 3) := by decide +kernel
theorem dW_law_571 : decode code 571 = .ok (.aload_n 2, 1) := by decide +kernel
theorem dW_law_572 : decode code 572 = .ok (.aload_n 0, 1) := by decide +kernel
theorem dW_law_573 : decode code 573 = .ok (.iload 4, 2) := by decide +kernel
theorem dW_law_575 : decode code 575 = .ok (.iconst 1, 1) := by decide +kernel
theorem dW_law_576 : decode code 576 = .ok (.iadd, 1) := by decide +kernel
theorem dW_law_577 : decode code 577 = .ok (.iaload, 1) := by decide +kernel
theorem dW_law_578 : decode code 578 = .ok (.aload_n 0, 1) := by decide +kernel
theorem dW_law_579 : decode code 579 = .ok (.iload 4, 2) := by decide +kernel
theorem dW_law_581 : decode code 581 = .ok (.iconst 2, 1) := by decide +kernel
theorem dW_law_582 : decode code 582 = .ok (.iadd, 1) := by decide +kernel
theorem dW_law_583 : decode code 583 = .ok (.iaload, 1) := by decide +kernel
theorem dW_law_584 : decode code 584 = .ok (.invokevirtual 75, 3) := by decide +kernel
theorem dW_law_587 : decode code 587 = .ok (.if_icmp .eq 94, 3) := by decide +kernel
theorem dW_law_590 : decode code 590 = .ok (.iconst 0, 1) := by decide +kernel
theorem dW_law_591 : decode code 591 = .ok (.ireturn, 1) := by decide +kernel
theorem dW_law_592 : decode code 592 = .ok (.aload_n 1, 1) := by decide +kernel
theorem dW_law_593 : decode code 593 = .ok (.aload_n 0, 1) := by decide +kernel
theorem dW_law_594 : decode code 594 = .ok (.iload 4, 2) := by decide +kernel
theorem dW_law_596 : decode code 596 = .ok (.iconst 1, 1) := by decide +kernel
theorem dW_law_597 : decode code 597 = .ok (.iadd, 1) := by decide +kernel
theorem dW_law_598 : decode code 598 = .ok (.iaload, 1) := by decide +kernel
theorem dW_law_599 : decode code 599 = .ok (.invokevirtual 76, 3) := by decide +kernel
theorem dW_law_602 : decode code 602 = .ok (.aload_n 2, 1) := by decide +kernel
theorem dW_law_603 : decode code 603 = .ok (.aload_n 0, 1) := by decide +kernel
theorem dW_law_604 : decode code 604 = .ok (.iload 4, 2) := by decide +kernel
theorem dW_law_606 : decode code 606 = .ok (.iconst 1, 1) := by decide +kernel
theorem dW_law_607 : decode code 607 = .ok (.iadd, 1) := by decide +kernel
theorem dW_law_608 : decode code 608 = .ok (.iaload, 1) := by decide +kernel
theorem dW_law_609 : decode code 609 = .ok (.invokevirtual 80, 3) := by decide +kernel
theorem dW_law_612 : decode code 612 = .ok (.if_icmp .eq 69, 3) := by decide +kernel
theorem dW_law_615 : decode code 615 = .ok (.iconst 0, 1) := by decide +kernel
theorem dW_law_616 : decode code 616 = .ok (.ireturn, 1) := by decide +kernel
theorem dW_law_617 : decode code 617 = .ok (.aload_n 1, 1) := by decide +kernel
theorem dW_law_618 : decode code 618 = .ok (.aload_n 0, 1) := by decide +kernel
theorem dW_law_619 : decode code 619 = .ok (.iload 4, 2) := by decide +kernel
theorem dW_law_621 : decode code 621 = .ok (.iconst 1, 1) := by decide +kernel
theorem dW_law_622 : decode code 622 = .ok (.iadd, 1) := by decide +kernel
theorem dW_law_623 : decode code 623 = .ok (.iaload, 1) := by decide +kernel
theorem dW_law_624 : decode code 624 = .ok (.invokevirtual 81, 3) := by decide +kernel
theorem dW_law_627 : decode code 627 = .ok (.aload_n 2, 1) := by decide +kernel
theorem dW_law_628 : decode code 628 = .ok (.aload_n 0, 1) := by decide +kernel
theorem dW_law_629 : decode code 629 = .ok (.iload 4, 2) := by decide +kernel
theorem dW_law_631 : decode code 631 = .ok (.iconst 1, 1) := by decide +kernel
theorem dW_law_632 : decode code 632 = .ok (.iadd, 1) := by decide +kernel
theorem dW_law_633 : decode code 633 = .ok (.iaload, 1) := by decide +kernel
theorem dW_law_634 : decode code 634 = .ok (.invokevirtual 84, 3) := by decide +kernel
theorem dW_law_637 : decode code 637 = .ok (.if_icmp .eq 44, 3) := by decide +kernel
theorem dW_law_640 : decode code 640 = .ok (.iconst 0, 1) := by decide +kernel
theorem dW_law_641 : decode code 641 = .ok (.ireturn, 1) := by decide +kernel
theorem dW_law_642 : decode code 642 = .ok (.aload_n 1, 1) := by decide +kernel
theorem dW_law_643 : decode code 643 = .ok (.invokevirtual 85, 3) := by decide +kernel
theorem dW_law_646 : decode code 646 = .ok (.aload_n 2, 1) := by decide +kernel
theorem dW_law_647 : decode code 647 = .ok (.invokevirtual 89, 3) := by decide +kernel
theorem dW_law_650 : decode code 650 = .ok (.lcmp, 1) := by decide +kernel
theorem dW_law_651 : decode code 651 = .ok (.ifCond .eq 30, 3) := by decide +kernel
theorem dW_law_654 : decode code 654 = .ok (.iconst 0, 1) := by decide +kernel
theorem dW_law_655 : decode code 655 = .ok (.ireturn, 1) := by decide +kernel
theorem dW_law_656 : decode code 656 = .ok (.aload_n 1, 1) := by decide +kernel
theorem dW_law_657 : decode code 657 = .ok (.aload_n 0, 1) := by decide +kernel
theorem dW_law_658 : decode code 658 = .ok (.iload 4, 2) := by decide +kernel
theorem dW_law_660 : decode code 660 = .ok (.iconst 1, 1) := by decide +kernel
theorem dW_law_661 : decode code 661 = .ok (.iadd, 1) := by decide +kernel
theorem dW_law_662 : decode code 662 = .ok (.iaload, 1) := by decide +kernel
theorem dW_law_663 : decode code 663 = .ok (.invokevirtual 90, 3) := by decide +kernel
theorem dW_law_666 : decode code 666 = .ok (.aload_n 2, 1) := by decide +kernel
theorem dW_law_667 : decode code 667 = .ok (.aload_n 0, 1) := by decide +kernel
theorem dW_law_668 : decode code 668 = .ok (.iload 4, 2) := by decide +kernel
theorem dW_law_670 : decode code 670 = .ok (.iconst 1, 1) := by decide +kernel
theorem dW_law_671 : decode code 671 = .ok (.iadd, 1) := by decide +kernel
theorem dW_law_672 : decode code 672 = .ok (.iaload, 1) := by decide +kernel
theorem dW_law_673 : decode code 673 = .ok (.invokevirtual 93, 3) := by decide +kernel
theorem dW_law_676 : decode code 676 = .ok (.if_icmp .eq 5, 3) := by decide +kernel
theorem dW_law_679 : decode code 679 = .ok (.iconst 0, 1) := by decide +kernel
theorem dW_law_680 : decode code 680 = .ok (.ireturn, 1) := by decide +kernel
theorem dW_law_681 : decode code 681 = .ok (.iinc 4 4, 3) := by decide +kernel
theorem dW_law_684 : decode code 684 = .ok (.goto (-651), 3) := by decide +kernel
theorem dW_law_687 : decode code 687 = .ok (.iconst 1, 1) := by decide +kernel
theorem dW_law_688 : decode code 688 = .ok (.ireturn, 1) := by decide +kernel
