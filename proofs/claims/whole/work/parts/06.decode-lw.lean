/-! Decode rows of the law. -/
theorem d_Lw_law_0 : decode code 0 = .ok (.new 7, 3) := by decide +kernel
theorem d_Lw_law_3 : decode code 3 = .ok (.dup, 1) := by decide +kernel
theorem d_Lw_law_4 : decode code 4 = .ok (.invokespecial 9, 3) := by decide +kernel
theorem d_Lw_law_7 : decode code 7 = .ok (.astore_n 1, 1) := by decide +kernel
theorem d_Lw_law_8 : decode code 8 = .ok (.new 10, 3) := by decide +kernel
theorem d_Lw_law_11 : decode code 11 = .ok (.dup, 1) := by decide +kernel
theorem d_Lw_law_12 : decode code 12 = .ok (.invokespecial 12, 3) := by decide +kernel
theorem d_Lw_law_15 : decode code 15 = .ok (.astore_n 2, 1) := by decide +kernel
theorem d_Lw_law_16 : decode code 16 = .ok (.iconst 0, 1) := by decide +kernel
theorem d_Lw_law_17 : decode code 17 = .ok (.istore_n 3, 1) := by decide +kernel
theorem d_Lw_law_18 : decode code 18 = .ok (.iload_n 3, 1) := by decide +kernel
theorem d_Lw_law_19 : decode code 19 = .ok (.aload_n 0, 1) := by decide +kernel
theorem d_Lw_law_20 : decode code 20 = .ok (.arraylength, 1) := by decide +kernel
theorem d_Lw_law_21 : decode code 21 = .ok (.iconst 5, 1) := by decide +kernel
theorem d_Lw_law_22 : decode code 22 = .ok (.isub, 1) := by decide +kernel
theorem d_Lw_law_23 : decode code 23 = .ok (.if_icmp .gt 685, 3) := by decide +kernel
theorem d_Lw_law_26 : decode code 26 = .ok (.aload_n 0, 1) := by decide +kernel
theorem d_Lw_law_27 : decode code 27 = .ok (.iload_n 3, 1) := by decide +kernel
theorem d_Lw_law_28 : decode code 28 = .ok (.iaload, 1) := by decide +kernel
theorem d_Lw_law_29 : decode code 29 = .ok (.bipush 31, 2) := by decide +kernel
theorem d_Lw_law_31 : decode code 31 = .ok (.iand, 1) := by decide +kernel
theorem d_Lw_law_32 : decode code 32 = .ok (.tableswitch 670 0 19 #[96, 107, 130, 163, 186, 229, 262, 285, 328, 341, 410, 433, 456, 469, 492, 535, 568, 601, 624, 647], 96) := by decide +kernel
theorem d_Lw_law_128 : decode code 128 = .ok (.aload_n 1, 1) := by decide +kernel
theorem d_Lw_law_129 : decode code 129 = .ok (.invokevirtual 13, 3) := by decide +kernel
theorem d_Lw_law_132 : decode code 132 = .ok (.aload_n 2, 1) := by decide +kernel
theorem d_Lw_law_133 : decode code 133 = .ok (.invokevirtual 16, 3) := by decide +kernel
theorem d_Lw_law_136 : decode code 136 = .ok (.goto 566, 3) := by decide +kernel
theorem d_Lw_law_139 : decode code 139 = .ok (.aload_n 1, 1) := by decide +kernel
theorem d_Lw_law_140 : decode code 140 = .ok (.aload_n 0, 1) := by decide +kernel
theorem d_Lw_law_141 : decode code 141 = .ok (.iload_n 3, 1) := by decide +kernel
theorem d_Lw_law_142 : decode code 142 = .ok (.iconst 1, 1) := by decide +kernel
theorem d_Lw_law_143 : decode code 143 = .ok (.iadd, 1) := by decide +kernel
theorem d_Lw_law_144 : decode code 144 = .ok (.iaload, 1) := by decide +kernel
theorem d_Lw_law_145 : decode code 145 = .ok (.invokevirtual 17, 3) := by decide +kernel
theorem d_Lw_law_148 : decode code 148 = .ok (.aload_n 2, 1) := by decide +kernel
theorem d_Lw_law_149 : decode code 149 = .ok (.aload_n 0, 1) := by decide +kernel
theorem d_Lw_law_150 : decode code 150 = .ok (.iload_n 3, 1) := by decide +kernel
theorem d_Lw_law_151 : decode code 151 = .ok (.iconst 1, 1) := by decide +kernel
theorem d_Lw_law_152 : decode code 152 = .ok (.iadd, 1) := by decide +kernel
theorem d_Lw_law_153 : decode code 153 = .ok (.iaload, 1) := by decide +kernel
theorem d_Lw_law_154 : decode code 154 = .ok (.invokevirtual 21, 3) := by decide +kernel
theorem d_Lw_law_157 : decode code 157 = .ok (.if_icmp .eq 545, 3) := by decide +kernel
theorem d_Lw_law_160 : decode code 160 = .ok (.iconst 0, 1) := by decide +kernel
theorem d_Lw_law_161 : decode code 161 = .ok (.ireturn, 1) := by decide +kernel
theorem d_Lw_law_162 : decode code 162 = .ok (.aload_n 1, 1) := by decide +kernel
theorem d_Lw_law_163 : decode code 163 = .ok (.aload_n 0, 1) := by decide +kernel
theorem d_Lw_law_164 : decode code 164 = .ok (.iload_n 3, 1) := by decide +kernel
theorem d_Lw_law_165 : decode code 165 = .ok (.iconst 1, 1) := by decide +kernel
theorem d_Lw_law_166 : decode code 166 = .ok (.iadd, 1) := by decide +kernel
theorem d_Lw_law_167 : decode code 167 = .ok (.iaload, 1) := by decide +kernel
theorem d_Lw_law_168 : decode code 168 = .ok (.aload_n 0, 1) := by decide +kernel
theorem d_Lw_law_169 : decode code 169 = .ok (.iload_n 3, 1) := by decide +kernel
theorem d_Lw_law_170 : decode code 170 = .ok (.iconst 2, 1) := by decide +kernel
theorem d_Lw_law_171 : decode code 171 = .ok (.iadd, 1) := by decide +kernel
theorem d_Lw_law_172 : decode code 172 = .ok (.iaload, 1) := by decide +kernel
theorem d_Lw_law_173 : decode code 173 = .ok (.invokevirtual 22, 3) := by decide +kernel
theorem d_Lw_law_176 : decode code 176 = .ok (.aload_n 2, 1) := by decide +kernel
theorem d_Lw_law_177 : decode code 177 = .ok (.aload_n 0, 1) := by decide +kernel
theorem d_Lw_law_178 : decode code 178 = .ok (.iload_n 3, 1) := by decide +kernel
theorem d_Lw_law_179 : decode code 179 = .ok (.iconst 1, 1) := by decide +kernel
theorem d_Lw_law_180 : decode code 180 = .ok (.iadd, 1) := by decide +kernel
theorem d_Lw_law_181 : decode code 181 = .ok (.iaload, 1) := by decide +kernel
theorem d_Lw_law_182 : decode code 182 = .ok (.aload_n 0, 1) := by decide +kernel
theorem d_Lw_law_183 : decode code 183 = .ok (.iload_n 3, 1) := by decide +kernel
theorem d_Lw_law_184 : decode code 184 = .ok (.iconst 2, 1) := by decide +kernel
theorem d_Lw_law_185 : decode code 185 = .ok (.iadd, 1) := by decide +kernel
theorem d_Lw_law_186 : decode code 186 = .ok (.iaload, 1) := by decide +kernel
theorem d_Lw_law_187 : decode code 187 = .ok (.invokevirtual 26, 3) := by decide +kernel
theorem d_Lw_law_190 : decode code 190 = .ok (.if_icmp .eq 512, 3) := by decide +kernel
theorem d_Lw_law_193 : decode code 193 = .ok (.iconst 0, 1) := by decide +kernel
theorem d_Lw_law_194 : decode code 194 = .ok (.ireturn, 1) := by decide +kernel
theorem d_Lw_law_195 : decode code 195 = .ok (.aload_n 1, 1) := by decide +kernel
theorem d_Lw_law_196 : decode code 196 = .ok (.aload_n 0, 1) := by decide +kernel
theorem d_Lw_law_197 : decode code 197 = .ok (.iload_n 3, 1) := by decide +kernel
theorem d_Lw_law_198 : decode code 198 = .ok (.iconst 1, 1) := by decide +kernel
theorem d_Lw_law_199 : decode code 199 = .ok (.iadd, 1) := by decide +kernel
theorem d_Lw_law_200 : decode code 200 = .ok (.iaload, 1) := by decide +kernel
theorem d_Lw_law_201 : decode code 201 = .ok (.invokevirtual 27, 3) := by decide +kernel
theorem d_Lw_law_204 : decode code 204 = .ok (.aload_n 2, 1) := by decide +kernel
theorem d_Lw_law_205 : decode code 205 = .ok (.aload_n 0, 1) := by decide +kernel
theorem d_Lw_law_206 : decode code 206 = .ok (.iload_n 3, 1) := by decide +kernel
theorem d_Lw_law_207 : decode code 207 = .ok (.iconst 1, 1) := by decide +kernel
theorem d_Lw_law_208 : decode code 208 = .ok (.iadd, 1) := by decide +kernel
theorem d_Lw_law_209 : decode code 209 = .ok (.iaload, 1) := by decide +kernel
theorem d_Lw_law_210 : decode code 210 = .ok (.invokevirtual 30, 3) := by decide +kernel
theorem d_Lw_law_213 : decode code 213 = .ok (.if_icmp .eq 489, 3) := by decide +kernel
theorem d_Lw_law_216 : decode code 216 = .ok (.iconst 0, 1) := by decide +kernel
theorem d_Lw_law_217 : decode code 217 = .ok (.ireturn, 1) := by decide +kernel
theorem d_Lw_law_218 : decode code 218 = .ok (.aload_n 1, 1) := by decide +kernel
theorem d_Lw_law_219 : decode code 219 = .ok (.aload_n 0, 1) := by decide +kernel
theorem d_Lw_law_220 : decode code 220 = .ok (.iload_n 3, 1) := by decide +kernel
theorem d_Lw_law_221 : decode code 221 = .ok (.iconst 1, 1) := by decide +kernel
theorem d_Lw_law_222 : decode code 222 = .ok (.iadd, 1) := by decide +kernel
theorem d_Lw_law_223 : decode code 223 = .ok (.iaload, 1) := by decide +kernel
theorem d_Lw_law_224 : decode code 224 = .ok (.aload_n 0, 1) := by decide +kernel
theorem d_Lw_law_225 : decode code 225 = .ok (.iload_n 3, 1) := by decide +kernel
theorem d_Lw_law_226 : decode code 226 = .ok (.iconst 2, 1) := by decide +kernel
theorem d_Lw_law_227 : decode code 227 = .ok (.iadd, 1) := by decide +kernel
theorem d_Lw_law_228 : decode code 228 = .ok (.iaload, 1) := by decide +kernel
theorem d_Lw_law_229 : decode code 229 = .ok (.aload_n 0, 1) := by decide +kernel
theorem d_Lw_law_230 : decode code 230 = .ok (.iload_n 3, 1) := by decide +kernel
theorem d_Lw_law_231 : decode code 231 = .ok (.iconst 3, 1) := by decide +kernel
theorem d_Lw_law_232 : decode code 232 = .ok (.iadd, 1) := by decide +kernel
theorem d_Lw_law_233 : decode code 233 = .ok (.iaload, 1) := by decide +kernel
theorem d_Lw_law_234 : decode code 234 = .ok (.invokevirtual 31, 3) := by decide +kernel
theorem d_Lw_law_237 : decode code 237 = .ok (.aload_n 2, 1) := by decide +kernel
theorem d_Lw_law_238 : decode code 238 = .ok (.aload_n 0, 1) := by decide +kernel
theorem d_Lw_law_239 : decode code 239 = .ok (.iload_n 3, 1) := by decide +kernel
theorem d_Lw_law_240 : decode code 240 = .ok (.iconst 1, 1) := by decide +kernel
theorem d_Lw_law_241 : decode code 241 = .ok (.iadd, 1) := by decide +kernel
theorem d_Lw_law_242 : decode code 242 = .ok (.iaload, 1) := by decide +kernel
theorem d_Lw_law_243 : decode code 243 = .ok (.aload_n 0, 1) := by decide +kernel
theorem d_Lw_law_244 : decode code 244 = .ok (.iload_n 3, 1) := by decide +kernel
theorem d_Lw_law_245 : decode code 245 = .ok (.iconst 2, 1) := by decide +kernel
theorem d_Lw_law_246 : decode code 246 = .ok (.iadd, 1) := by decide +kernel
theorem d_Lw_law_247 : decode code 247 = .ok (.iaload, 1) := by decide +kernel
theorem d_Lw_law_248 : decode code 248 = .ok (.aload_n 0, 1) := by decide +kernel
theorem d_Lw_law_249 : decode code 249 = .ok (.iload_n 3, 1) := by decide +kernel
theorem d_Lw_law_250 : decode code 250 = .ok (.iconst 3, 1) := by decide +kernel
theorem d_Lw_law_251 : decode code 251 = .ok (.iadd, 1) := by decide +kernel
theorem d_Lw_law_252 : decode code 252 = .ok (.iaload, 1) := by decide +kernel
theorem d_Lw_law_253 : decode code 253 = .ok (.invokevirtual 35, 3) := by decide +kernel
theorem d_Lw_law_256 : decode code 256 = .ok (.if_icmp .eq 446, 3) := by decide +kernel
theorem d_Lw_law_259 : decode code 259 = .ok (.iconst 0, 1) := by decide +kernel
theorem d_Lw_law_260 : decode code 260 = .ok (.ireturn, 1) := by decide +kernel
theorem d_Lw_law_261 : decode code 261 = .ok (.aload_n 1, 1) := by decide +kernel
theorem d_Lw_law_262 : decode code 262 = .ok (.aload_n 0, 1) := by decide +kernel
theorem d_Lw_law_263 : decode code 263 = .ok (.iload_n 3, 1) := by decide +kernel
theorem d_Lw_law_264 : decode code 264 = .ok (.iconst 1, 1) := by decide +kernel
theorem d_Lw_law_265 : decode code 265 = .ok (.iadd, 1) := by decide +kernel
theorem d_Lw_law_266 : decode code 266 = .ok (.iaload, 1) := by decide +kernel
theorem d_Lw_law_267 : decode code 267 = .ok (.aload_n 0, 1) := by decide +kernel
theorem d_Lw_law_268 : decode code 268 = .ok (.iload_n 3, 1) := by decide +kernel
theorem d_Lw_law_269 : decode code 269 = .ok (.iconst 2, 1) := by decide +kernel
theorem d_Lw_law_270 : decode code 270 = .ok (.iadd, 1) := by decide +kernel
theorem d_Lw_law_271 : decode code 271 = .ok (.iaload, 1) := by decide +kernel
theorem d_Lw_law_272 : decode code 272 = .ok (.invokevirtual 36, 3) := by decide +kernel
theorem d_Lw_law_275 : decode code 275 = .ok (.aload_n 2, 1) := by decide +kernel
theorem d_Lw_law_276 : decode code 276 = .ok (.aload_n 0, 1) := by decide +kernel
theorem d_Lw_law_277 : decode code 277 = .ok (.iload_n 3, 1) := by decide +kernel
theorem d_Lw_law_278 : decode code 278 = .ok (.iconst 1, 1) := by decide +kernel
theorem d_Lw_law_279 : decode code 279 = .ok (.iadd, 1) := by decide +kernel
theorem d_Lw_law_280 : decode code 280 = .ok (.iaload, 1) := by decide +kernel
theorem d_Lw_law_281 : decode code 281 = .ok (.aload_n 0, 1) := by decide +kernel
theorem d_Lw_law_282 : decode code 282 = .ok (.iload_n 3, 1) := by decide +kernel
theorem d_Lw_law_283 : decode code 283 = .ok (.iconst 2, 1) := by decide +kernel
theorem d_Lw_law_284 : decode code 284 = .ok (.iadd, 1) := by decide +kernel
theorem d_Lw_law_285 : decode code 285 = .ok (.iaload, 1) := by decide +kernel
theorem d_Lw_law_286 : decode code 286 = .ok (.invokevirtual 39, 3) := by decide +kernel
theorem d_Lw_law_289 : decode code 289 = .ok (.if_icmp .eq 413, 3) := by decide +kernel
theorem d_Lw_law_292 : decode code 292 = .ok (.iconst 0, 1) := by decide +kernel
theorem d_Lw_law_293 : decode code 293 = .ok (.ireturn, 1) := by decide +kernel
theorem d_Lw_law_294 : decode code 294 = .ok (.aload_n 1, 1) := by decide +kernel
theorem d_Lw_law_295 : decode code 295 = .ok (.aload_n 0, 1) := by decide +kernel
theorem d_Lw_law_296 : decode code 296 = .ok (.iload_n 3, 1) := by decide +kernel
theorem d_Lw_law_297 : decode code 297 = .ok (.iconst 1, 1) := by decide +kernel
theorem d_Lw_law_298 : decode code 298 = .ok (.iadd, 1) := by decide +kernel
theorem d_Lw_law_299 : decode code 299 = .ok (.iaload, 1) := by decide +kernel
theorem d_Lw_law_300 : decode code 300 = .ok (.invokevirtual 40, 3) := by decide +kernel
theorem d_Lw_law_303 : decode code 303 = .ok (.aload_n 2, 1) := by decide +kernel
theorem d_Lw_law_304 : decode code 304 = .ok (.aload_n 0, 1) := by decide +kernel
theorem d_Lw_law_305 : decode code 305 = .ok (.iload_n 3, 1) := by decide +kernel
theorem d_Lw_law_306 : decode code 306 = .ok (.iconst 1, 1) := by decide +kernel
theorem d_Lw_law_307 : decode code 307 = .ok (.iadd, 1) := by decide +kernel
theorem d_Lw_law_308 : decode code 308 = .ok (.iaload, 1) := by decide +kernel
theorem d_Lw_law_309 : decode code 309 = .ok (.invokevirtual 43, 3) := by decide +kernel
theorem d_Lw_law_312 : decode code 312 = .ok (.if_icmp .eq 390, 3) := by decide +kernel
theorem d_Lw_law_315 : decode code 315 = .ok (.iconst 0, 1) := by decide +kernel
theorem d_Lw_law_316 : decode code 316 = .ok (.ireturn, 1) := by decide +kernel
theorem d_Lw_law_317 : decode code 317 = .ok (.aload_n 1, 1) := by decide +kernel
theorem d_Lw_law_318 : decode code 318 = .ok (.aload_n 0, 1) := by decide +kernel
theorem d_Lw_law_319 : decode code 319 = .ok (.iload_n 3, 1) := by decide +kernel
theorem d_Lw_law_320 : decode code 320 = .ok (.iconst 1, 1) := by decide +kernel
theorem d_Lw_law_321 : decode code 321 = .ok (.iadd, 1) := by decide +kernel
theorem d_Lw_law_322 : decode code 322 = .ok (.iaload, 1) := by decide +kernel
theorem d_Lw_law_323 : decode code 323 = .ok (.aload_n 0, 1) := by decide +kernel
theorem d_Lw_law_324 : decode code 324 = .ok (.iload_n 3, 1) := by decide +kernel
theorem d_Lw_law_325 : decode code 325 = .ok (.iconst 2, 1) := by decide +kernel
theorem d_Lw_law_326 : decode code 326 = .ok (.iadd, 1) := by decide +kernel
theorem d_Lw_law_327 : decode code 327 = .ok (.iaload, 1) := by decide +kernel
theorem d_Lw_law_328 : decode code 328 = .ok (.aload_n 0, 1) := by decide +kernel
theorem d_Lw_law_329 : decode code 329 = .ok (.iload_n 3, 1) := by decide +kernel
theorem d_Lw_law_330 : decode code 330 = .ok (.iconst 3, 1) := by decide +kernel
theorem d_Lw_law_331 : decode code 331 = .ok (.iadd, 1) := by decide +kernel
theorem d_Lw_law_332 : decode code 332 = .ok (.iaload, 1) := by decide +kernel
theorem d_Lw_law_333 : decode code 333 = .ok (.invokevirtual 44, 3) := by decide +kernel
theorem d_Lw_law_336 : decode code 336 = .ok (.aload_n 2, 1) := by decide +kernel
theorem d_Lw_law_337 : decode code 337 = .ok (.aload_n 0, 1) := by decide +kernel
theorem d_Lw_law_338 : decode code 338 = .ok (.iload_n 3, 1) := by decide +kernel
theorem d_Lw_law_339 : decode code 339 = .ok (.iconst 1, 1) := by decide +kernel
theorem d_Lw_law_340 : decode code 340 = .ok (.iadd, 1) := by decide +kernel
theorem d_Lw_law_341 : decode code 341 = .ok (.iaload, 1) := by decide +kernel
theorem d_Lw_law_342 : decode code 342 = .ok (.aload_n 0, 1) := by decide +kernel
theorem d_Lw_law_343 : decode code 343 = .ok (.iload_n 3, 1) := by decide +kernel
theorem d_Lw_law_344 : decode code 344 = .ok (.iconst 2, 1) := by decide +kernel
theorem d_Lw_law_345 : decode code 345 = .ok (.iadd, 1) := by decide +kernel
theorem d_Lw_law_346 : decode code 346 = .ok (.iaload, 1) := by decide +kernel
theorem d_Lw_law_347 : decode code 347 = .ok (.aload_n 0, 1) := by decide +kernel
theorem d_Lw_law_348 : decode code 348 = .ok (.iload_n 3, 1) := by decide +kernel
theorem d_Lw_law_349 : decode code 349 = .ok (.iconst 3, 1) := by decide +kernel
theorem d_Lw_law_350 : decode code 350 = .ok (.iadd, 1) := by decide +kernel
theorem d_Lw_law_351 : decode code 351 = .ok (.iaload, 1) := by decide +kernel
theorem d_Lw_law_352 : decode code 352 = .ok (.invokevirtual 47, 3) := by decide +kernel
theorem d_Lw_law_355 : decode code 355 = .ok (.if_icmp .eq 347, 3) := by decide +kernel
theorem d_Lw_law_358 : decode code 358 = .ok (.iconst 0, 1) := by decide +kernel
theorem d_Lw_law_359 : decode code 359 = .ok (.ireturn, 1) := by decide +kernel
theorem d_Lw_law_360 : decode code 360 = .ok (.aload_n 1, 1) := by decide +kernel
theorem d_Lw_law_361 : decode code 361 = .ok (.invokevirtual 48, 3) := by decide +kernel
theorem d_Lw_law_364 : decode code 364 = .ok (.aload_n 2, 1) := by decide +kernel
theorem d_Lw_law_365 : decode code 365 = .ok (.invokevirtual 52, 3) := by decide +kernel
theorem d_Lw_law_368 : decode code 368 = .ok (.if_icmp .eq 334, 3) := by decide +kernel
theorem d_Lw_law_371 : decode code 371 = .ok (.iconst 0, 1) := by decide +kernel
theorem d_Lw_law_372 : decode code 372 = .ok (.ireturn, 1) := by decide +kernel
theorem d_Lw_law_373 : decode code 373 = .ok (.aload_n 1, 1) := by decide +kernel
theorem d_Lw_law_374 : decode code 374 = .ok (.aload_n 0, 1) := by decide +kernel
theorem d_Lw_law_375 : decode code 375 = .ok (.iload_n 3, 1) := by decide +kernel
theorem d_Lw_law_376 : decode code 376 = .ok (.iconst 1, 1) := by decide +kernel
theorem d_Lw_law_377 : decode code 377 = .ok (.iadd, 1) := by decide +kernel
theorem d_Lw_law_378 : decode code 378 = .ok (.iaload, 1) := by decide +kernel
theorem d_Lw_law_379 : decode code 379 = .ok (.aload_n 0, 1) := by decide +kernel
theorem d_Lw_law_380 : decode code 380 = .ok (.iload_n 3, 1) := by decide +kernel
theorem d_Lw_law_381 : decode code 381 = .ok (.iconst 2, 1) := by decide +kernel
theorem d_Lw_law_382 : decode code 382 = .ok (.iadd, 1) := by decide +kernel
theorem d_Lw_law_383 : decode code 383 = .ok (.iaload, 1) := by decide +kernel
theorem d_Lw_law_384 : decode code 384 = .ok (.aload_n 0, 1) := by decide +kernel
theorem d_Lw_law_385 : decode code 385 = .ok (.iload_n 3, 1) := by decide +kernel
theorem d_Lw_law_386 : decode code 386 = .ok (.iconst 3, 1) := by decide +kernel
theorem d_Lw_law_387 : decode code 387 = .ok (.iadd, 1) := by decide +kernel
theorem d_Lw_law_388 : decode code 388 = .ok (.iaload, 1) := by decide +kernel
theorem d_Lw_law_389 : decode code 389 = .ok (.aload_n 0, 1) := by decide +kernel
theorem d_Lw_law_390 : decode code 390 = .ok (.iload_n 3, 1) := by decide +kernel
theorem d_Lw_law_391 : decode code 391 = .ok (.iconst 4, 1) := by decide +kernel
theorem d_Lw_law_392 : decode code 392 = .ok (.iadd, 1) := by decide +kernel
theorem d_Lw_law_393 : decode code 393 = .ok (.iaload, 1) := by decide +kernel
theorem d_Lw_law_394 : decode code 394 = .ok (.ifCond .eq 7, 3) := by decide +kernel
theorem d_Lw_law_397 : decode code 397 = .ok (.iconst 1, 1) := by decide +kernel
theorem d_Lw_law_398 : decode code 398 = .ok (.goto 4, 3) := by decide +kernel
theorem d_Lw_law_401 : decode code 401 = .ok (.iconst 0, 1) := by decide +kernel
theorem d_Lw_law_402 : decode code 402 = .ok (.invokevirtual 53, 3) := by decide +kernel
theorem d_Lw_law_405 : decode code 405 = .ok (.aload_n 2, 1) := by decide +kernel
theorem d_Lw_law_406 : decode code 406 = .ok (.aload_n 0, 1) := by decide +kernel
theorem d_Lw_law_407 : decode code 407 = .ok (.iload_n 3, 1) := by decide +kernel
theorem d_Lw_law_408 : decode code 408 = .ok (.iconst 1, 1) := by decide +kernel
theorem d_Lw_law_409 : decode code 409 = .ok (.iadd, 1) := by decide +kernel
theorem d_Lw_law_410 : decode code 410 = .ok (.iaload, 1) := by decide +kernel
theorem d_Lw_law_411 : decode code 411 = .ok (.aload_n 0, 1) := by decide +kernel
theorem d_Lw_law_412 : decode code 412 = .ok (.iload_n 3, 1) := by decide +kernel
theorem d_Lw_law_413 : decode code 413 = .ok (.iconst 2, 1) := by decide +kernel
theorem d_Lw_law_414 : decode code 414 = .ok (.iadd, 1) := by decide +kernel
theorem d_Lw_law_415 : decode code 415 = .ok (.iaload, 1) := by decide +kernel
theorem d_Lw_law_416 : decode code 416 = .ok (.aload_n 0, 1) := by decide +kernel
theorem d_Lw_law_417 : decode code 417 = .ok (.iload_n 3, 1) := by decide +kernel
theorem d_Lw_law_418 : decode code 418 = .ok (.iconst 3, 1) := by decide +kernel
theorem d_Lw_law_419 : decode code 419 = .ok (.iadd, 1) := by decide +kernel
theorem d_Lw_law_420 : decode code 420 = .ok (.iaload, 1) := by decide +kernel
theorem d_Lw_law_421 : decode code 421 = .ok (.aload_n 0, 1) := by decide +kernel
theorem d_Lw_law_422 : decode code 422 = .ok (.iload_n 3, 1) := by decide +kernel
theorem d_Lw_law_423 : decode code 423 = .ok (.iconst 4, 1) := by decide +kernel
theorem d_Lw_law_424 : decode code 424 = .ok (.iadd, 1) := by decide +kernel
theorem d_Lw_law_425 : decode code 425 = .ok (.iaload, 1) := by decide +kernel
theorem d_Lw_law_426 : decode code 426 = .ok (.ifCond .eq 7, 3) := by decide +kernel
theorem d_Lw_law_429 : decode code 429 = .ok (.iconst 1, 1) := by decide +kernel
theorem d_Lw_law_430 : decode code 430 = .ok (.goto 4, 3) := by decide +kernel
theorem d_Lw_law_433 : decode code 433 = .ok (.iconst 0, 1) := by decide +kernel
theorem d_Lw_law_434 : decode code 434 = .ok (.invokevirtual 57, 3) := by decide +kernel
theorem d_Lw_law_437 : decode code 437 = .ok (.if_icmp .eq 265, 3) := by decide +kernel
theorem d_Lw_law_440 : decode code 440 = .ok (.iconst 0, 1) := by decide +kernel
theorem d_Lw_law_441 : decode code 441 = .ok (.ireturn, 1) := by decide +kernel
theorem d_Lw_law_442 : decode code 442 = .ok (.aload_n 1, 1) := by decide +kernel
theorem d_Lw_law_443 : decode code 443 = .ok (.aload_n 0, 1) := by decide +kernel
theorem d_Lw_law_444 : decode code 444 = .ok (.iload_n 3, 1) := by decide +kernel
theorem d_Lw_law_445 : decode code 445 = .ok (.iconst 1, 1) := by decide +kernel
theorem d_Lw_law_446 : decode code 446 = .ok (.iadd, 1) := by decide +kernel
theorem d_Lw_law_447 : decode code 447 = .ok (.iaload, 1) := by decide +kernel
theorem d_Lw_law_448 : decode code 448 = .ok (.invokevirtual 58, 3) := by decide +kernel
theorem d_Lw_law_451 : decode code 451 = .ok (.aload_n 2, 1) := by decide +kernel
theorem d_Lw_law_452 : decode code 452 = .ok (.aload_n 0, 1) := by decide +kernel
theorem d_Lw_law_453 : decode code 453 = .ok (.iload_n 3, 1) := by decide +kernel
theorem d_Lw_law_454 : decode code 454 = .ok (.iconst 1, 1) := by decide +kernel
theorem d_Lw_law_455 : decode code 455 = .ok (.iadd, 1) := by decide +kernel
theorem d_Lw_law_456 : decode code 456 = .ok (.iaload, 1) := by decide +kernel
theorem d_Lw_law_457 : decode code 457 = .ok (.invokevirtual 61, 3) := by decide +kernel
theorem d_Lw_law_460 : decode code 460 = .ok (.if_icmp .eq 242, 3) := by decide +kernel
theorem d_Lw_law_463 : decode code 463 = .ok (.iconst 0, 1) := by decide +kernel
theorem d_Lw_law_464 : decode code 464 = .ok (.ireturn, 1) := by decide +kernel
theorem d_Lw_law_465 : decode code 465 = .ok (.aload_n 1, 1) := by decide +kernel
theorem d_Lw_law_466 : decode code 466 = .ok (.aload_n 0, 1) := by decide +kernel
theorem d_Lw_law_467 : decode code 467 = .ok (.iload_n 3, 1) := by decide +kernel
theorem d_Lw_law_468 : decode code 468 = .ok (.iconst 1, 1) := by decide +kernel
theorem d_Lw_law_469 : decode code 469 = .ok (.iadd, 1) := by decide +kernel
theorem d_Lw_law_470 : decode code 470 = .ok (.iaload, 1) := by decide +kernel
theorem d_Lw_law_471 : decode code 471 = .ok (.invokevirtual 62, 3) := by decide +kernel
theorem d_Lw_law_474 : decode code 474 = .ok (.aload_n 2, 1) := by decide +kernel
theorem d_Lw_law_475 : decode code 475 = .ok (.aload_n 0, 1) := by decide +kernel
theorem d_Lw_law_476 : decode code 476 = .ok (.iload_n 3, 1) := by decide +kernel
theorem d_Lw_law_477 : decode code 477 = .ok (.iconst 1, 1) := by decide +kernel
theorem d_Lw_law_478 : decode code 478 = .ok (.iadd, 1) := by decide +kernel
theorem d_Lw_law_479 : decode code 479 = .ok (.iaload, 1) := by decide +kernel
theorem d_Lw_law_480 : decode code 480 = .ok (.invokevirtual 65, 3) := by decide +kernel
theorem d_Lw_law_483 : decode code 483 = .ok (.if_icmp .eq 219, 3) := by decide +kernel
theorem d_Lw_law_486 : decode code 486 = .ok (.iconst 0, 1) := by decide +kernel
theorem d_Lw_law_487 : decode code 487 = .ok (.ireturn, 1) := by decide +kernel
theorem d_Lw_law_488 : decode code 488 = .ok (.aload_n 1, 1) := by decide +kernel
theorem d_Lw_law_489 : decode code 489 = .ok (.invokevirtual 66, 3) := by decide +kernel
theorem d_Lw_law_492 : decode code 492 = .ok (.aload_n 2, 1) := by decide +kernel
theorem d_Lw_law_493 : decode code 493 = .ok (.invokevirtual 69, 3) := by decide +kernel
theorem d_Lw_law_496 : decode code 496 = .ok (.if_icmp .eq 206, 3) := by decide +kernel
theorem d_Lw_law_499 : decode code 499 = .ok (.iconst 0, 1) := by decide +kernel
theorem d_Lw_law_500 : decode code 500 = .ok (.ireturn, 1) := by decide +kernel
theorem d_Lw_law_501 : decode code 501 = .ok (.aload_n 1, 1) := by decide +kernel
theorem d_Lw_law_502 : decode code 502 = .ok (.aload_n 0, 1) := by decide +kernel
theorem d_Lw_law_503 : decode code 503 = .ok (.iload_n 3, 1) := by decide +kernel
theorem d_Lw_law_504 : decode code 504 = .ok (.iconst 1, 1) := by decide +kernel
theorem d_Lw_law_505 : decode code 505 = .ok (.iadd, 1) := by decide +kernel
theorem d_Lw_law_506 : decode code 506 = .ok (.iaload, 1) := by decide +kernel
theorem d_Lw_law_507 : decode code 507 = .ok (.invokevirtual 70, 3) := by decide +kernel
theorem d_Lw_law_510 : decode code 510 = .ok (.aload_n 2, 1) := by decide +kernel
theorem d_Lw_law_511 : decode code 511 = .ok (.aload_n 0, 1) := by decide +kernel
theorem d_Lw_law_512 : decode code 512 = .ok (.iload_n 3, 1) := by decide +kernel
theorem d_Lw_law_513 : decode code 513 = .ok (.iconst 1, 1) := by decide +kernel
theorem d_Lw_law_514 : decode code 514 = .ok (.iadd, 1) := by decide +kernel
theorem d_Lw_law_515 : decode code 515 = .ok (.iaload, 1) := by decide +kernel
theorem d_Lw_law_516 : decode code 516 = .ok (.invokevirtual 74, 3) := by decide +kernel
theorem d_Lw_law_519 : decode code 519 = .ok (.if_icmp .eq 183, 3) := by decide +kernel
theorem d_Lw_law_522 : decode code 522 = .ok (.iconst 0, 1) := by decide +kernel
theorem d_Lw_law_523 : decode code 523 = .ok (.ireturn, 1) := by decide +kernel
theorem d_Lw_law_524 : decode code 524 = .ok (.aload_n 1, 1) := by decide +kernel
theorem d_Lw_law_525 : decode code 525 = .ok (.aload_n 0, 1) := by decide +kernel
theorem d_Lw_law_526 : decode code 526 = .ok (.iload_n 3, 1) := by decide +kernel
theorem d_Lw_law_527 : decode code 527 = .ok (.iconst 1, 1) := by decide +kernel
theorem d_Lw_law_528 : decode code 528 = .ok (.iadd, 1) := by decide +kernel
theorem d_Lw_law_529 : decode code 529 = .ok (.iaload, 1) := by decide +kernel
theorem d_Lw_law_530 : decode code 530 = .ok (.aload_n 0, 1) := by decide +kernel
theorem d_Lw_law_531 : decode code 531 = .ok (.iload_n 3, 1) := by decide +kernel
theorem d_Lw_law_532 : decode code 532 = .ok (.iconst 2, 1) := by decide +kernel
theorem d_Lw_law_533 : decode code 533 = .ok (.iadd, 1) := by decide +kernel
theorem d_Lw_law_534 : decode code 534 = .ok (.iaload, 1) := by decide +kernel
theorem d_Lw_law_535 : decode code 535 = .ok (.aload_n 0, 1) := by decide +kernel
theorem d_Lw_law_536 : decode code 536 = .ok (.iload_n 3, 1) := by decide +kernel
theorem d_Lw_law_537 : decode code 537 = .ok (.iconst 3, 1) := by decide +kernel
theorem d_Lw_law_538 : decode code 538 = .ok (.iadd, 1) := by decide +kernel
theorem d_Lw_law_539 : decode code 539 = .ok (.iaload, 1) := by decide +kernel
theorem d_Lw_law_540 : decode code 540 = .ok (.invokevirtual 75, 3) := by decide +kernel
theorem d_Lw_law_543 : decode code 543 = .ok (.aload_n 2, 1) := by decide +kernel
theorem d_Lw_law_544 : decode code 544 = .ok (.aload_n 0, 1) := by decide +kernel
theorem d_Lw_law_545 : decode code 545 = .ok (.iload_n 3, 1) := by decide +kernel
theorem d_Lw_law_546 : decode code 546 = .ok (.iconst 1, 1) := by decide +kernel
theorem d_Lw_law_547 : decode code 547 = .ok (.iadd, 1) := by decide +kernel
theorem d_Lw_law_548 : decode code 548 = .ok (.iaload, 1) := by decide +kernel
theorem d_Lw_law_549 : decode code 549 = .ok (.aload_n 0, 1) := by decide +kernel
theorem d_Lw_law_550 : decode code 550 = .ok (.iload_n 3, 1) := by decide +kernel
theorem d_Lw_law_551 : decode code 551 = .ok (.iconst 2, 1) := by decide +kernel
theorem d_Lw_law_552 : decode code 552 = .ok (.iadd, 1) := by decide +kernel
theorem d_Lw_law_553 : decode code 553 = .ok (.iaload, 1) := by decide +kernel
theorem d_Lw_law_554 : decode code 554 = .ok (.aload_n 0, 1) := by decide +kernel
theorem d_Lw_law_555 : decode code 555 = .ok (.iload_n 3, 1) := by decide +kernel
theorem d_Lw_law_556 : decode code 556 = .ok (.iconst 3, 1) := by decide +kernel
theorem d_Lw_law_557 : decode code 557 = .ok (.iadd, 1) := by decide +kernel
theorem d_Lw_law_558 : decode code 558 = .ok (.iaload, 1) := by decide +kernel
theorem d_Lw_law_559 : decode code 559 = .ok (.invokevirtual 78, 3) := by decide +kernel
theorem d_Lw_law_562 : decode code 562 = .ok (.if_icmp .eq 140, 3) := by decide +kernel
theorem d_Lw_law_565 : decode code 565 = .ok (.iconst 0, 1) := by decide +kernel
theorem d_Lw_law_566 : decode code 566 = .ok (.ireturn, 1) := by decide +kernel
theorem d_Lw_law_567 : decode code 567 = .ok (.aload_n 1, 1) := by decide +kernel
theorem d_Lw_law_568 : decode code 568 = .ok (.aload_n 0, 1) := by decide +kernel
theorem d_Lw_law_569 : decode code 569 = .ok (.iload_n 3, 1) := by decide +kernel
theorem d_Lw_law_570 : decode code 570 = .ok (.iconst 1, 1) := by decide +kernel
theorem d_Lw_law_571 : decode code 571 = .ok (.iadd, 1) := by decide +kernel
theorem d_Lw_law_572 : decode code 572 = .ok (.iaload, 1) := by decide +kernel
theorem d_Lw_law_573 : decode code 573 = .ok (.aload_n 0, 1) := by decide +kernel
theorem d_Lw_law_574 : decode code 574 = .ok (.iload_n 3, 1) := by decide +kernel
theorem d_Lw_law_575 : decode code 575 = .ok (.iconst 2, 1) := by decide +kernel
theorem d_Lw_law_576 : decode code 576 = .ok (.iadd, 1) := by decide +kernel
theorem d_Lw_law_577 : decode code 577 = .ok (.iaload, 1) := by decide +kernel
theorem d_Lw_law_578 : decode code 578 = .ok (.invokevirtual 79, 3) := by decide +kernel
theorem d_Lw_law_581 : decode code 581 = .ok (.aload_n 2, 1) := by decide +kernel
theorem d_Lw_law_582 : decode code 582 = .ok (.aload_n 0, 1) := by decide +kernel
theorem d_Lw_law_583 : decode code 583 = .ok (.iload_n 3, 1) := by decide +kernel
theorem d_Lw_law_584 : decode code 584 = .ok (.iconst 1, 1) := by decide +kernel
theorem d_Lw_law_585 : decode code 585 = .ok (.iadd, 1) := by decide +kernel
theorem d_Lw_law_586 : decode code 586 = .ok (.iaload, 1) := by decide +kernel
theorem d_Lw_law_587 : decode code 587 = .ok (.aload_n 0, 1) := by decide +kernel
theorem d_Lw_law_588 : decode code 588 = .ok (.iload_n 3, 1) := by decide +kernel
theorem d_Lw_law_589 : decode code 589 = .ok (.iconst 2, 1) := by decide +kernel
theorem d_Lw_law_590 : decode code 590 = .ok (.iadd, 1) := by decide +kernel
theorem d_Lw_law_591 : decode code 591 = .ok (.iaload, 1) := by decide +kernel
theorem d_Lw_law_592 : decode code 592 = .ok (.invokevirtual 83, 3) := by decide +kernel
theorem d_Lw_law_595 : decode code 595 = .ok (.if_icmp .eq 107, 3) := by decide +kernel
theorem d_Lw_law_598 : decode code 598 = .ok (.iconst 0, 1) := by decide +kernel
theorem d_Lw_law_599 : decode code 599 = .ok (.ireturn, 1) := by decide +kernel
theorem d_Lw_law_600 : decode code 600 = .ok (.aload_n 1, 1) := by decide +kernel
theorem d_Lw_law_601 : decode code 601 = .ok (.aload_n 0, 1) := by decide +kernel
theorem d_Lw_law_602 : decode code 602 = .ok (.iload_n 3, 1) := by decide +kernel
theorem d_Lw_law_603 : decode code 603 = .ok (.iconst 1, 1) := by decide +kernel
theorem d_Lw_law_604 : decode code 604 = .ok (.iadd, 1) := by decide +kernel
theorem d_Lw_law_605 : decode code 605 = .ok (.iaload, 1) := by decide +kernel
theorem d_Lw_law_606 : decode code 606 = .ok (.aload_n 0, 1) := by decide +kernel
theorem d_Lw_law_607 : decode code 607 = .ok (.iload_n 3, 1) := by decide +kernel
theorem d_Lw_law_608 : decode code 608 = .ok (.iconst 2, 1) := by decide +kernel
theorem d_Lw_law_609 : decode code 609 = .ok (.iadd, 1) := by decide +kernel
theorem d_Lw_law_610 : decode code 610 = .ok (.iaload, 1) := by decide +kernel
theorem d_Lw_law_611 : decode code 611 = .ok (.invokevirtual 84, 3) := by decide +kernel
theorem d_Lw_law_614 : decode code 614 = .ok (.aload_n 2, 1) := by decide +kernel
theorem d_Lw_law_615 : decode code 615 = .ok (.aload_n 0, 1) := by decide +kernel
theorem d_Lw_law_616 : decode code 616 = .ok (.iload_n 3, 1) := by decide +kernel
theorem d_Lw_law_617 : decode code 617 = .ok (.iconst 1, 1) := by decide +kernel
theorem d_Lw_law_618 : decode code 618 = .ok (.iadd, 1) := by decide +kernel
theorem d_Lw_law_619 : decode code 619 = .ok (.iaload, 1) := by decide +kernel
theorem d_Lw_law_620 : decode code 620 = .ok (.aload_n 0, 1) := by decide +kernel
theorem d_Lw_law_621 : decode code 621 = .ok (.iload_n 3, 1) := by decide +kernel
theorem d_Lw_law_622 : decode code 622 = .ok (.iconst 2, 1) := by decide +kernel
theorem d_Lw_law_623 : decode code 623 = .ok (.iadd, 1) := by decide +kernel
theorem d_Lw_law_624 : decode code 624 = .ok (.iaload, 1) := by decide +kernel
theorem d_Lw_law_625 : decode code 625 = .ok (.invokevirtual 87, 3) := by decide +kernel
theorem d_Lw_law_628 : decode code 628 = .ok (.if_icmp .eq 74, 3) := by decide +kernel
theorem d_Lw_law_631 : decode code 631 = .ok (.iconst 0, 1) := by decide +kernel
theorem d_Lw_law_632 : decode code 632 = .ok (.ireturn, 1) := by decide +kernel
theorem d_Lw_law_633 : decode code 633 = .ok (.aload_n 1, 1) := by decide +kernel
theorem d_Lw_law_634 : decode code 634 = .ok (.aload_n 0, 1) := by decide +kernel
theorem d_Lw_law_635 : decode code 635 = .ok (.iload_n 3, 1) := by decide +kernel
theorem d_Lw_law_636 : decode code 636 = .ok (.iconst 1, 1) := by decide +kernel
theorem d_Lw_law_637 : decode code 637 = .ok (.iadd, 1) := by decide +kernel
theorem d_Lw_law_638 : decode code 638 = .ok (.iaload, 1) := by decide +kernel
theorem d_Lw_law_639 : decode code 639 = .ok (.invokevirtual 88, 3) := by decide +kernel
theorem d_Lw_law_642 : decode code 642 = .ok (.aload_n 2, 1) := by decide +kernel
theorem d_Lw_law_643 : decode code 643 = .ok (.aload_n 0, 1) := by decide +kernel
theorem d_Lw_law_644 : decode code 644 = .ok (.iload_n 3, 1) := by decide +kernel
theorem d_Lw_law_645 : decode code 645 = .ok (.iconst 1, 1) := by decide +kernel
theorem d_Lw_law_646 : decode code 646 = .ok (.iadd, 1) := by decide +kernel
theorem d_Lw_law_647 : decode code 647 = .ok (.iaload, 1) := by decide +kernel
theorem d_Lw_law_648 : decode code 648 = .ok (.invokevirtual 91, 3) := by decide +kernel
theorem d_Lw_law_651 : decode code 651 = .ok (.if_icmp .eq 51, 3) := by decide +kernel
theorem d_Lw_law_654 : decode code 654 = .ok (.iconst 0, 1) := by decide +kernel
theorem d_Lw_law_655 : decode code 655 = .ok (.ireturn, 1) := by decide +kernel
theorem d_Lw_law_656 : decode code 656 = .ok (.aload_n 1, 1) := by decide +kernel
theorem d_Lw_law_657 : decode code 657 = .ok (.aload_n 0, 1) := by decide +kernel
theorem d_Lw_law_658 : decode code 658 = .ok (.iload_n 3, 1) := by decide +kernel
theorem d_Lw_law_659 : decode code 659 = .ok (.iconst 1, 1) := by decide +kernel
theorem d_Lw_law_660 : decode code 660 = .ok (.iadd, 1) := by decide +kernel
theorem d_Lw_law_661 : decode code 661 = .ok (.iaload, 1) := by decide +kernel
theorem d_Lw_law_662 : decode code 662 = .ok (.invokevirtual 92, 3) := by decide +kernel
theorem d_Lw_law_665 : decode code 665 = .ok (.aload_n 2, 1) := by decide +kernel
theorem d_Lw_law_666 : decode code 666 = .ok (.aload_n 0, 1) := by decide +kernel
theorem d_Lw_law_667 : decode code 667 = .ok (.iload_n 3, 1) := by decide +kernel
theorem d_Lw_law_668 : decode code 668 = .ok (.iconst 1, 1) := by decide +kernel
theorem d_Lw_law_669 : decode code 669 = .ok (.iadd, 1) := by decide +kernel
theorem d_Lw_law_670 : decode code 670 = .ok (.iaload, 1) := by decide +kernel
theorem d_Lw_law_671 : decode code 671 = .ok (.invokevirtual 95, 3) := by decide +kernel
theorem d_Lw_law_674 : decode code 674 = .ok (.if_icmp .eq 28, 3) := by decide +kernel
theorem d_Lw_law_677 : decode code 677 = .ok (.iconst 0, 1) := by decide +kernel
theorem d_Lw_law_678 : decode code 678 = .ok (.ireturn, 1) := by decide +kernel
theorem d_Lw_law_679 : decode code 679 = .ok (.aload_n 1, 1) := by decide +kernel
theorem d_Lw_law_680 : decode code 680 = .ok (.aload_n 0, 1) := by decide +kernel
theorem d_Lw_law_681 : decode code 681 = .ok (.iload_n 3, 1) := by decide +kernel
theorem d_Lw_law_682 : decode code 682 = .ok (.iconst 1, 1) := by decide +kernel
theorem d_Lw_law_683 : decode code 683 = .ok (.iadd, 1) := by decide +kernel
theorem d_Lw_law_684 : decode code 684 = .ok (.iaload, 1) := by decide +kernel
theorem d_Lw_law_685 : decode code 685 = .ok (.invokevirtual 96, 3) := by decide +kernel
theorem d_Lw_law_688 : decode code 688 = .ok (.aload_n 2, 1) := by decide +kernel
theorem d_Lw_law_689 : decode code 689 = .ok (.aload_n 0, 1) := by decide +kernel
theorem d_Lw_law_690 : decode code 690 = .ok (.iload_n 3, 1) := by decide +kernel
theorem d_Lw_law_691 : decode code 691 = .ok (.iconst 1, 1) := by decide +kernel
theorem d_Lw_law_692 : decode code 692 = .ok (.iadd, 1) := by decide +kernel
theorem d_Lw_law_693 : decode code 693 = .ok (.iaload, 1) := by decide +kernel
theorem d_Lw_law_694 : decode code 694 = .ok (.invokevirtual 99, 3) := by decide +kernel
theorem d_Lw_law_697 : decode code 697 = .ok (.if_icmp .eq 5, 3) := by decide +kernel
theorem d_Lw_law_700 : decode code 700 = .ok (.iconst 0, 1) := by decide +kernel
theorem d_Lw_law_701 : decode code 701 = .ok (.ireturn, 1) := by decide +kernel
theorem d_Lw_law_702 : decode code 702 = .ok (.iinc 3 5, 3) := by decide +kernel
theorem d_Lw_law_705 : decode code 705 = .ok (.goto (-687), 3) := by decide +kernel
theorem d_Lw_law_708 : decode code 708 = .ok (.iconst 1, 1) := by decide +kernel
theorem d_Lw_law_709 : decode code 709 = .ok (.ireturn, 1) := by decide +kernel
