theorem d_La_law_0 : decode M_La_law.2.1 0 = .ok (.new 7, 3) := by decide +kernel
theorem d_La_law_3 : decode M_La_law.2.1 3 = .ok (.dup, 1) := by decide +kernel
theorem d_La_law_4 : decode M_La_law.2.1 4 = .ok (.invokespecial 9, 3) := by decide +kernel
theorem d_La_law_7 : decode M_La_law.2.1 7 = .ok (.astore_n 1, 1) := by decide +kernel
theorem d_La_law_8 : decode M_La_law.2.1 8 = .ok (.new 10, 3) := by decide +kernel
theorem d_La_law_11 : decode M_La_law.2.1 11 = .ok (.dup, 1) := by decide +kernel
theorem d_La_law_12 : decode M_La_law.2.1 12 = .ok (.invokespecial 12, 3) := by decide +kernel
theorem d_La_law_15 : decode M_La_law.2.1 15 = .ok (.astore_n 2, 1) := by decide +kernel
theorem d_La_law_16 : decode M_La_law.2.1 16 = .ok (.iconst 0, 1) := by decide +kernel
theorem d_La_law_17 : decode M_La_law.2.1 17 = .ok (.istore_n 3, 1) := by decide +kernel
theorem d_La_law_18 : decode M_La_law.2.1 18 = .ok (.iload_n 3, 1) := by decide +kernel
theorem d_La_law_19 : decode M_La_law.2.1 19 = .ok (.aload_n 0, 1) := by decide +kernel
theorem d_La_law_20 : decode M_La_law.2.1 20 = .ok (.arraylength, 1) := by decide +kernel
theorem d_La_law_21 : decode M_La_law.2.1 21 = .ok (.bipush 6, 2) := by decide +kernel
theorem d_La_law_23 : decode M_La_law.2.1 23 = .ok (.isub, 1) := by decide +kernel
theorem d_La_law_24 : decode M_La_law.2.1 24 = .ok (.if_icmp .gt 867, 3) := by decide +kernel
theorem d_La_law_27 : decode M_La_law.2.1 27 = .ok (.aload_n 0, 1) := by decide +kernel
theorem d_La_law_28 : decode M_La_law.2.1 28 = .ok (.iload_n 3, 1) := by decide +kernel
theorem d_La_law_29 : decode M_La_law.2.1 29 = .ok (.iaload, 1) := by decide +kernel
theorem d_La_law_30 : decode M_La_law.2.1 30 = .ok (.bipush 31, 2) := by decide +kernel
theorem d_La_law_32 : decode M_La_law.2.1 32 = .ok (.iand, 1) := by decide +kernel
theorem d_La_law_33 : decode M_La_law.2.1 33 = .ok (.tableswitch 852 0 27 #[127, 150, 163, 176, 199, 232, 265, 298, 321, 344, 367, 380, 403, 436, 449, 492, 515, 578, 621, 644, 667, 700, 723, 736, 769, 792, 815, 838], 127) := by decide +kernel
theorem d_La_law_160 : decode M_La_law.2.1 160 = .ok (.aload_n 1, 1) := by decide +kernel
theorem d_La_law_161 : decode M_La_law.2.1 161 = .ok (.aload_n 0, 1) := by decide +kernel
theorem d_La_law_162 : decode M_La_law.2.1 162 = .ok (.iload_n 3, 1) := by decide +kernel
theorem d_La_law_163 : decode M_La_law.2.1 163 = .ok (.iconst 1, 1) := by decide +kernel
theorem d_La_law_164 : decode M_La_law.2.1 164 = .ok (.iadd, 1) := by decide +kernel
theorem d_La_law_165 : decode M_La_law.2.1 165 = .ok (.iaload, 1) := by decide +kernel
theorem d_La_law_166 : decode M_La_law.2.1 166 = .ok (.invokevirtual 13, 3) := by decide +kernel
theorem d_La_law_169 : decode M_La_law.2.1 169 = .ok (.aload_n 2, 1) := by decide +kernel
theorem d_La_law_170 : decode M_La_law.2.1 170 = .ok (.aload_n 0, 1) := by decide +kernel
theorem d_La_law_171 : decode M_La_law.2.1 171 = .ok (.iload_n 3, 1) := by decide +kernel
theorem d_La_law_172 : decode M_La_law.2.1 172 = .ok (.iconst 1, 1) := by decide +kernel
theorem d_La_law_173 : decode M_La_law.2.1 173 = .ok (.iadd, 1) := by decide +kernel
theorem d_La_law_174 : decode M_La_law.2.1 174 = .ok (.iaload, 1) := by decide +kernel
theorem d_La_law_175 : decode M_La_law.2.1 175 = .ok (.invokevirtual 17, 3) := by decide +kernel
theorem d_La_law_178 : decode M_La_law.2.1 178 = .ok (.if_icmp .eq 707, 3) := by decide +kernel
theorem d_La_law_181 : decode M_La_law.2.1 181 = .ok (.iconst 0, 1) := by decide +kernel
theorem d_La_law_182 : decode M_La_law.2.1 182 = .ok (.ireturn, 1) := by decide +kernel
theorem d_La_law_183 : decode M_La_law.2.1 183 = .ok (.aload_n 1, 1) := by decide +kernel
theorem d_La_law_184 : decode M_La_law.2.1 184 = .ok (.invokevirtual 18, 3) := by decide +kernel
theorem d_La_law_187 : decode M_La_law.2.1 187 = .ok (.aload_n 2, 1) := by decide +kernel
theorem d_La_law_188 : decode M_La_law.2.1 188 = .ok (.invokevirtual 22, 3) := by decide +kernel
theorem d_La_law_191 : decode M_La_law.2.1 191 = .ok (.if_icmp .eq 694, 3) := by decide +kernel
theorem d_La_law_194 : decode M_La_law.2.1 194 = .ok (.iconst 0, 1) := by decide +kernel
theorem d_La_law_195 : decode M_La_law.2.1 195 = .ok (.ireturn, 1) := by decide +kernel
theorem d_La_law_196 : decode M_La_law.2.1 196 = .ok (.aload_n 1, 1) := by decide +kernel
theorem d_La_law_197 : decode M_La_law.2.1 197 = .ok (.invokevirtual 23, 3) := by decide +kernel
theorem d_La_law_200 : decode M_La_law.2.1 200 = .ok (.aload_n 2, 1) := by decide +kernel
theorem d_La_law_201 : decode M_La_law.2.1 201 = .ok (.invokevirtual 26, 3) := by decide +kernel
theorem d_La_law_204 : decode M_La_law.2.1 204 = .ok (.if_icmp .eq 681, 3) := by decide +kernel
theorem d_La_law_207 : decode M_La_law.2.1 207 = .ok (.iconst 0, 1) := by decide +kernel
theorem d_La_law_208 : decode M_La_law.2.1 208 = .ok (.ireturn, 1) := by decide +kernel
theorem d_La_law_209 : decode M_La_law.2.1 209 = .ok (.aload_n 1, 1) := by decide +kernel
theorem d_La_law_210 : decode M_La_law.2.1 210 = .ok (.aload_n 0, 1) := by decide +kernel
theorem d_La_law_211 : decode M_La_law.2.1 211 = .ok (.iload_n 3, 1) := by decide +kernel
theorem d_La_law_212 : decode M_La_law.2.1 212 = .ok (.iconst 1, 1) := by decide +kernel
theorem d_La_law_213 : decode M_La_law.2.1 213 = .ok (.iadd, 1) := by decide +kernel
theorem d_La_law_214 : decode M_La_law.2.1 214 = .ok (.iaload, 1) := by decide +kernel
theorem d_La_law_215 : decode M_La_law.2.1 215 = .ok (.invokevirtual 27, 3) := by decide +kernel
theorem d_La_law_218 : decode M_La_law.2.1 218 = .ok (.aload_n 2, 1) := by decide +kernel
theorem d_La_law_219 : decode M_La_law.2.1 219 = .ok (.aload_n 0, 1) := by decide +kernel
theorem d_La_law_220 : decode M_La_law.2.1 220 = .ok (.iload_n 3, 1) := by decide +kernel
theorem d_La_law_221 : decode M_La_law.2.1 221 = .ok (.iconst 1, 1) := by decide +kernel
theorem d_La_law_222 : decode M_La_law.2.1 222 = .ok (.iadd, 1) := by decide +kernel
theorem d_La_law_223 : decode M_La_law.2.1 223 = .ok (.iaload, 1) := by decide +kernel
theorem d_La_law_224 : decode M_La_law.2.1 224 = .ok (.invokevirtual 30, 3) := by decide +kernel
theorem d_La_law_227 : decode M_La_law.2.1 227 = .ok (.if_icmp .eq 658, 3) := by decide +kernel
theorem d_La_law_230 : decode M_La_law.2.1 230 = .ok (.iconst 0, 1) := by decide +kernel
theorem d_La_law_231 : decode M_La_law.2.1 231 = .ok (.ireturn, 1) := by decide +kernel
theorem d_La_law_232 : decode M_La_law.2.1 232 = .ok (.aload_n 1, 1) := by decide +kernel
theorem d_La_law_233 : decode M_La_law.2.1 233 = .ok (.aload_n 0, 1) := by decide +kernel
theorem d_La_law_234 : decode M_La_law.2.1 234 = .ok (.iload_n 3, 1) := by decide +kernel
theorem d_La_law_235 : decode M_La_law.2.1 235 = .ok (.iconst 1, 1) := by decide +kernel
theorem d_La_law_236 : decode M_La_law.2.1 236 = .ok (.iadd, 1) := by decide +kernel
theorem d_La_law_237 : decode M_La_law.2.1 237 = .ok (.iaload, 1) := by decide +kernel
theorem d_La_law_238 : decode M_La_law.2.1 238 = .ok (.aload_n 0, 1) := by decide +kernel
theorem d_La_law_239 : decode M_La_law.2.1 239 = .ok (.iload_n 3, 1) := by decide +kernel
theorem d_La_law_240 : decode M_La_law.2.1 240 = .ok (.iconst 2, 1) := by decide +kernel
theorem d_La_law_241 : decode M_La_law.2.1 241 = .ok (.iadd, 1) := by decide +kernel
theorem d_La_law_242 : decode M_La_law.2.1 242 = .ok (.iaload, 1) := by decide +kernel
theorem d_La_law_243 : decode M_La_law.2.1 243 = .ok (.invokevirtual 31, 3) := by decide +kernel
theorem d_La_law_246 : decode M_La_law.2.1 246 = .ok (.aload_n 2, 1) := by decide +kernel
theorem d_La_law_247 : decode M_La_law.2.1 247 = .ok (.aload_n 0, 1) := by decide +kernel
theorem d_La_law_248 : decode M_La_law.2.1 248 = .ok (.iload_n 3, 1) := by decide +kernel
theorem d_La_law_249 : decode M_La_law.2.1 249 = .ok (.iconst 1, 1) := by decide +kernel
theorem d_La_law_250 : decode M_La_law.2.1 250 = .ok (.iadd, 1) := by decide +kernel
theorem d_La_law_251 : decode M_La_law.2.1 251 = .ok (.iaload, 1) := by decide +kernel
theorem d_La_law_252 : decode M_La_law.2.1 252 = .ok (.aload_n 0, 1) := by decide +kernel
theorem d_La_law_253 : decode M_La_law.2.1 253 = .ok (.iload_n 3, 1) := by decide +kernel
theorem d_La_law_254 : decode M_La_law.2.1 254 = .ok (.iconst 2, 1) := by decide +kernel
theorem d_La_law_255 : decode M_La_law.2.1 255 = .ok (.iadd, 1) := by decide +kernel
theorem d_La_law_256 : decode M_La_law.2.1 256 = .ok (.iaload, 1) := by decide +kernel
theorem d_La_law_257 : decode M_La_law.2.1 257 = .ok (.invokevirtual 35, 3) := by decide +kernel
theorem d_La_law_260 : decode M_La_law.2.1 260 = .ok (.if_icmp .eq 625, 3) := by decide +kernel
theorem d_La_law_263 : decode M_La_law.2.1 263 = .ok (.iconst 0, 1) := by decide +kernel
theorem d_La_law_264 : decode M_La_law.2.1 264 = .ok (.ireturn, 1) := by decide +kernel
theorem d_La_law_265 : decode M_La_law.2.1 265 = .ok (.aload_n 1, 1) := by decide +kernel
theorem d_La_law_266 : decode M_La_law.2.1 266 = .ok (.aload_n 0, 1) := by decide +kernel
theorem d_La_law_267 : decode M_La_law.2.1 267 = .ok (.iload_n 3, 1) := by decide +kernel
theorem d_La_law_268 : decode M_La_law.2.1 268 = .ok (.iconst 1, 1) := by decide +kernel
theorem d_La_law_269 : decode M_La_law.2.1 269 = .ok (.iadd, 1) := by decide +kernel
theorem d_La_law_270 : decode M_La_law.2.1 270 = .ok (.iaload, 1) := by decide +kernel
theorem d_La_law_271 : decode M_La_law.2.1 271 = .ok (.aload_n 0, 1) := by decide +kernel
theorem d_La_law_272 : decode M_La_law.2.1 272 = .ok (.iload_n 3, 1) := by decide +kernel
theorem d_La_law_273 : decode M_La_law.2.1 273 = .ok (.iconst 2, 1) := by decide +kernel
theorem d_La_law_274 : decode M_La_law.2.1 274 = .ok (.iadd, 1) := by decide +kernel
theorem d_La_law_275 : decode M_La_law.2.1 275 = .ok (.iaload, 1) := by decide +kernel
theorem d_La_law_276 : decode M_La_law.2.1 276 = .ok (.invokevirtual 36, 3) := by decide +kernel
theorem d_La_law_279 : decode M_La_law.2.1 279 = .ok (.aload_n 2, 1) := by decide +kernel
theorem d_La_law_280 : decode M_La_law.2.1 280 = .ok (.aload_n 0, 1) := by decide +kernel
theorem d_La_law_281 : decode M_La_law.2.1 281 = .ok (.iload_n 3, 1) := by decide +kernel
theorem d_La_law_282 : decode M_La_law.2.1 282 = .ok (.iconst 1, 1) := by decide +kernel
theorem d_La_law_283 : decode M_La_law.2.1 283 = .ok (.iadd, 1) := by decide +kernel
theorem d_La_law_284 : decode M_La_law.2.1 284 = .ok (.iaload, 1) := by decide +kernel
theorem d_La_law_285 : decode M_La_law.2.1 285 = .ok (.aload_n 0, 1) := by decide +kernel
theorem d_La_law_286 : decode M_La_law.2.1 286 = .ok (.iload_n 3, 1) := by decide +kernel
theorem d_La_law_287 : decode M_La_law.2.1 287 = .ok (.iconst 2, 1) := by decide +kernel
theorem d_La_law_288 : decode M_La_law.2.1 288 = .ok (.iadd, 1) := by decide +kernel
theorem d_La_law_289 : decode M_La_law.2.1 289 = .ok (.iaload, 1) := by decide +kernel
theorem d_La_law_290 : decode M_La_law.2.1 290 = .ok (.invokevirtual 39, 3) := by decide +kernel
theorem d_La_law_293 : decode M_La_law.2.1 293 = .ok (.if_icmp .eq 592, 3) := by decide +kernel
theorem d_La_law_296 : decode M_La_law.2.1 296 = .ok (.iconst 0, 1) := by decide +kernel
theorem d_La_law_297 : decode M_La_law.2.1 297 = .ok (.ireturn, 1) := by decide +kernel
theorem d_La_law_298 : decode M_La_law.2.1 298 = .ok (.aload_n 1, 1) := by decide +kernel
theorem d_La_law_299 : decode M_La_law.2.1 299 = .ok (.aload_n 0, 1) := by decide +kernel
theorem d_La_law_300 : decode M_La_law.2.1 300 = .ok (.iload_n 3, 1) := by decide +kernel
theorem d_La_law_301 : decode M_La_law.2.1 301 = .ok (.iconst 1, 1) := by decide +kernel
theorem d_La_law_302 : decode M_La_law.2.1 302 = .ok (.iadd, 1) := by decide +kernel
theorem d_La_law_303 : decode M_La_law.2.1 303 = .ok (.iaload, 1) := by decide +kernel
theorem d_La_law_304 : decode M_La_law.2.1 304 = .ok (.aload_n 0, 1) := by decide +kernel
theorem d_La_law_305 : decode M_La_law.2.1 305 = .ok (.iload_n 3, 1) := by decide +kernel
theorem d_La_law_306 : decode M_La_law.2.1 306 = .ok (.iconst 2, 1) := by decide +kernel
theorem d_La_law_307 : decode M_La_law.2.1 307 = .ok (.iadd, 1) := by decide +kernel
theorem d_La_law_308 : decode M_La_law.2.1 308 = .ok (.iaload, 1) := by decide +kernel
theorem d_La_law_309 : decode M_La_law.2.1 309 = .ok (.invokevirtual 40, 3) := by decide +kernel
theorem d_La_law_312 : decode M_La_law.2.1 312 = .ok (.aload_n 2, 1) := by decide +kernel
theorem d_La_law_313 : decode M_La_law.2.1 313 = .ok (.aload_n 0, 1) := by decide +kernel
theorem d_La_law_314 : decode M_La_law.2.1 314 = .ok (.iload_n 3, 1) := by decide +kernel
theorem d_La_law_315 : decode M_La_law.2.1 315 = .ok (.iconst 1, 1) := by decide +kernel
theorem d_La_law_316 : decode M_La_law.2.1 316 = .ok (.iadd, 1) := by decide +kernel
theorem d_La_law_317 : decode M_La_law.2.1 317 = .ok (.iaload, 1) := by decide +kernel
theorem d_La_law_318 : decode M_La_law.2.1 318 = .ok (.aload_n 0, 1) := by decide +kernel
theorem d_La_law_319 : decode M_La_law.2.1 319 = .ok (.iload_n 3, 1) := by decide +kernel
theorem d_La_law_320 : decode M_La_law.2.1 320 = .ok (.iconst 2, 1) := by decide +kernel
theorem d_La_law_321 : decode M_La_law.2.1 321 = .ok (.iadd, 1) := by decide +kernel
theorem d_La_law_322 : decode M_La_law.2.1 322 = .ok (.iaload, 1) := by decide +kernel
theorem d_La_law_323 : decode M_La_law.2.1 323 = .ok (.invokevirtual 43, 3) := by decide +kernel
theorem d_La_law_326 : decode M_La_law.2.1 326 = .ok (.if_icmp .eq 559, 3) := by decide +kernel
theorem d_La_law_329 : decode M_La_law.2.1 329 = .ok (.iconst 0, 1) := by decide +kernel
theorem d_La_law_330 : decode M_La_law.2.1 330 = .ok (.ireturn, 1) := by decide +kernel
theorem d_La_law_331 : decode M_La_law.2.1 331 = .ok (.aload_n 1, 1) := by decide +kernel
theorem d_La_law_332 : decode M_La_law.2.1 332 = .ok (.aload_n 0, 1) := by decide +kernel
theorem d_La_law_333 : decode M_La_law.2.1 333 = .ok (.iload_n 3, 1) := by decide +kernel
theorem d_La_law_334 : decode M_La_law.2.1 334 = .ok (.iconst 1, 1) := by decide +kernel
theorem d_La_law_335 : decode M_La_law.2.1 335 = .ok (.iadd, 1) := by decide +kernel
theorem d_La_law_336 : decode M_La_law.2.1 336 = .ok (.iaload, 1) := by decide +kernel
theorem d_La_law_337 : decode M_La_law.2.1 337 = .ok (.invokevirtual 44, 3) := by decide +kernel
theorem d_La_law_340 : decode M_La_law.2.1 340 = .ok (.aload_n 2, 1) := by decide +kernel
theorem d_La_law_341 : decode M_La_law.2.1 341 = .ok (.aload_n 0, 1) := by decide +kernel
theorem d_La_law_342 : decode M_La_law.2.1 342 = .ok (.iload_n 3, 1) := by decide +kernel
theorem d_La_law_343 : decode M_La_law.2.1 343 = .ok (.iconst 1, 1) := by decide +kernel
theorem d_La_law_344 : decode M_La_law.2.1 344 = .ok (.iadd, 1) := by decide +kernel
theorem d_La_law_345 : decode M_La_law.2.1 345 = .ok (.iaload, 1) := by decide +kernel
theorem d_La_law_346 : decode M_La_law.2.1 346 = .ok (.invokevirtual 47, 3) := by decide +kernel
theorem d_La_law_349 : decode M_La_law.2.1 349 = .ok (.if_icmp .eq 536, 3) := by decide +kernel
theorem d_La_law_352 : decode M_La_law.2.1 352 = .ok (.iconst 0, 1) := by decide +kernel
theorem d_La_law_353 : decode M_La_law.2.1 353 = .ok (.ireturn, 1) := by decide +kernel
theorem d_La_law_354 : decode M_La_law.2.1 354 = .ok (.aload_n 1, 1) := by decide +kernel
theorem d_La_law_355 : decode M_La_law.2.1 355 = .ok (.aload_n 0, 1) := by decide +kernel
theorem d_La_law_356 : decode M_La_law.2.1 356 = .ok (.iload_n 3, 1) := by decide +kernel
theorem d_La_law_357 : decode M_La_law.2.1 357 = .ok (.iconst 1, 1) := by decide +kernel
theorem d_La_law_358 : decode M_La_law.2.1 358 = .ok (.iadd, 1) := by decide +kernel
theorem d_La_law_359 : decode M_La_law.2.1 359 = .ok (.iaload, 1) := by decide +kernel
theorem d_La_law_360 : decode M_La_law.2.1 360 = .ok (.invokevirtual 48, 3) := by decide +kernel
theorem d_La_law_363 : decode M_La_law.2.1 363 = .ok (.aload_n 2, 1) := by decide +kernel
theorem d_La_law_364 : decode M_La_law.2.1 364 = .ok (.aload_n 0, 1) := by decide +kernel
theorem d_La_law_365 : decode M_La_law.2.1 365 = .ok (.iload_n 3, 1) := by decide +kernel
theorem d_La_law_366 : decode M_La_law.2.1 366 = .ok (.iconst 1, 1) := by decide +kernel
theorem d_La_law_367 : decode M_La_law.2.1 367 = .ok (.iadd, 1) := by decide +kernel
theorem d_La_law_368 : decode M_La_law.2.1 368 = .ok (.iaload, 1) := by decide +kernel
theorem d_La_law_369 : decode M_La_law.2.1 369 = .ok (.invokevirtual 51, 3) := by decide +kernel
theorem d_La_law_372 : decode M_La_law.2.1 372 = .ok (.if_icmp .eq 513, 3) := by decide +kernel
theorem d_La_law_375 : decode M_La_law.2.1 375 = .ok (.iconst 0, 1) := by decide +kernel
theorem d_La_law_376 : decode M_La_law.2.1 376 = .ok (.ireturn, 1) := by decide +kernel
theorem d_La_law_377 : decode M_La_law.2.1 377 = .ok (.aload_n 1, 1) := by decide +kernel
theorem d_La_law_378 : decode M_La_law.2.1 378 = .ok (.aload_n 0, 1) := by decide +kernel
theorem d_La_law_379 : decode M_La_law.2.1 379 = .ok (.iload_n 3, 1) := by decide +kernel
theorem d_La_law_380 : decode M_La_law.2.1 380 = .ok (.iconst 1, 1) := by decide +kernel
theorem d_La_law_381 : decode M_La_law.2.1 381 = .ok (.iadd, 1) := by decide +kernel
theorem d_La_law_382 : decode M_La_law.2.1 382 = .ok (.iaload, 1) := by decide +kernel
theorem d_La_law_383 : decode M_La_law.2.1 383 = .ok (.invokevirtual 52, 3) := by decide +kernel
theorem d_La_law_386 : decode M_La_law.2.1 386 = .ok (.aload_n 2, 1) := by decide +kernel
theorem d_La_law_387 : decode M_La_law.2.1 387 = .ok (.aload_n 0, 1) := by decide +kernel
theorem d_La_law_388 : decode M_La_law.2.1 388 = .ok (.iload_n 3, 1) := by decide +kernel
theorem d_La_law_389 : decode M_La_law.2.1 389 = .ok (.iconst 1, 1) := by decide +kernel
theorem d_La_law_390 : decode M_La_law.2.1 390 = .ok (.iadd, 1) := by decide +kernel
theorem d_La_law_391 : decode M_La_law.2.1 391 = .ok (.iaload, 1) := by decide +kernel
theorem d_La_law_392 : decode M_La_law.2.1 392 = .ok (.invokevirtual 55, 3) := by decide +kernel
theorem d_La_law_395 : decode M_La_law.2.1 395 = .ok (.if_icmp .eq 490, 3) := by decide +kernel
theorem d_La_law_398 : decode M_La_law.2.1 398 = .ok (.iconst 0, 1) := by decide +kernel
theorem d_La_law_399 : decode M_La_law.2.1 399 = .ok (.ireturn, 1) := by decide +kernel
theorem d_La_law_400 : decode M_La_law.2.1 400 = .ok (.aload_n 1, 1) := by decide +kernel
theorem d_La_law_401 : decode M_La_law.2.1 401 = .ok (.invokevirtual 56, 3) := by decide +kernel
theorem d_La_law_404 : decode M_La_law.2.1 404 = .ok (.aload_n 2, 1) := by decide +kernel
theorem d_La_law_405 : decode M_La_law.2.1 405 = .ok (.invokevirtual 59, 3) := by decide +kernel
theorem d_La_law_408 : decode M_La_law.2.1 408 = .ok (.if_icmp .eq 477, 3) := by decide +kernel
theorem d_La_law_411 : decode M_La_law.2.1 411 = .ok (.iconst 0, 1) := by decide +kernel
theorem d_La_law_412 : decode M_La_law.2.1 412 = .ok (.ireturn, 1) := by decide +kernel
theorem d_La_law_413 : decode M_La_law.2.1 413 = .ok (.aload_n 1, 1) := by decide +kernel
theorem d_La_law_414 : decode M_La_law.2.1 414 = .ok (.aload_n 0, 1) := by decide +kernel
theorem d_La_law_415 : decode M_La_law.2.1 415 = .ok (.iload_n 3, 1) := by decide +kernel
theorem d_La_law_416 : decode M_La_law.2.1 416 = .ok (.iconst 1, 1) := by decide +kernel
theorem d_La_law_417 : decode M_La_law.2.1 417 = .ok (.iadd, 1) := by decide +kernel
theorem d_La_law_418 : decode M_La_law.2.1 418 = .ok (.iaload, 1) := by decide +kernel
theorem d_La_law_419 : decode M_La_law.2.1 419 = .ok (.invokevirtual 60, 3) := by decide +kernel
theorem d_La_law_422 : decode M_La_law.2.1 422 = .ok (.aload_n 2, 1) := by decide +kernel
theorem d_La_law_423 : decode M_La_law.2.1 423 = .ok (.aload_n 0, 1) := by decide +kernel
theorem d_La_law_424 : decode M_La_law.2.1 424 = .ok (.iload_n 3, 1) := by decide +kernel
theorem d_La_law_425 : decode M_La_law.2.1 425 = .ok (.iconst 1, 1) := by decide +kernel
theorem d_La_law_426 : decode M_La_law.2.1 426 = .ok (.iadd, 1) := by decide +kernel
theorem d_La_law_427 : decode M_La_law.2.1 427 = .ok (.iaload, 1) := by decide +kernel
theorem d_La_law_428 : decode M_La_law.2.1 428 = .ok (.invokevirtual 63, 3) := by decide +kernel
theorem d_La_law_431 : decode M_La_law.2.1 431 = .ok (.if_icmp .eq 454, 3) := by decide +kernel
theorem d_La_law_434 : decode M_La_law.2.1 434 = .ok (.iconst 0, 1) := by decide +kernel
theorem d_La_law_435 : decode M_La_law.2.1 435 = .ok (.ireturn, 1) := by decide +kernel
theorem d_La_law_436 : decode M_La_law.2.1 436 = .ok (.aload_n 1, 1) := by decide +kernel
theorem d_La_law_437 : decode M_La_law.2.1 437 = .ok (.aload_n 0, 1) := by decide +kernel
theorem d_La_law_438 : decode M_La_law.2.1 438 = .ok (.iload_n 3, 1) := by decide +kernel
theorem d_La_law_439 : decode M_La_law.2.1 439 = .ok (.iconst 1, 1) := by decide +kernel
theorem d_La_law_440 : decode M_La_law.2.1 440 = .ok (.iadd, 1) := by decide +kernel
theorem d_La_law_441 : decode M_La_law.2.1 441 = .ok (.iaload, 1) := by decide +kernel
theorem d_La_law_442 : decode M_La_law.2.1 442 = .ok (.aload_n 0, 1) := by decide +kernel
theorem d_La_law_443 : decode M_La_law.2.1 443 = .ok (.iload_n 3, 1) := by decide +kernel
theorem d_La_law_444 : decode M_La_law.2.1 444 = .ok (.iconst 2, 1) := by decide +kernel
theorem d_La_law_445 : decode M_La_law.2.1 445 = .ok (.iadd, 1) := by decide +kernel
theorem d_La_law_446 : decode M_La_law.2.1 446 = .ok (.iaload, 1) := by decide +kernel
theorem d_La_law_447 : decode M_La_law.2.1 447 = .ok (.invokevirtual 64, 3) := by decide +kernel
theorem d_La_law_450 : decode M_La_law.2.1 450 = .ok (.aload_n 2, 1) := by decide +kernel
theorem d_La_law_451 : decode M_La_law.2.1 451 = .ok (.aload_n 0, 1) := by decide +kernel
theorem d_La_law_452 : decode M_La_law.2.1 452 = .ok (.iload_n 3, 1) := by decide +kernel
theorem d_La_law_453 : decode M_La_law.2.1 453 = .ok (.iconst 1, 1) := by decide +kernel
theorem d_La_law_454 : decode M_La_law.2.1 454 = .ok (.iadd, 1) := by decide +kernel
theorem d_La_law_455 : decode M_La_law.2.1 455 = .ok (.iaload, 1) := by decide +kernel
theorem d_La_law_456 : decode M_La_law.2.1 456 = .ok (.aload_n 0, 1) := by decide +kernel
theorem d_La_law_457 : decode M_La_law.2.1 457 = .ok (.iload_n 3, 1) := by decide +kernel
theorem d_La_law_458 : decode M_La_law.2.1 458 = .ok (.iconst 2, 1) := by decide +kernel
theorem d_La_law_459 : decode M_La_law.2.1 459 = .ok (.iadd, 1) := by decide +kernel
theorem d_La_law_460 : decode M_La_law.2.1 460 = .ok (.iaload, 1) := by decide +kernel
theorem d_La_law_461 : decode M_La_law.2.1 461 = .ok (.invokevirtual 67, 3) := by decide +kernel
theorem d_La_law_464 : decode M_La_law.2.1 464 = .ok (.if_icmp .eq 421, 3) := by decide +kernel
theorem d_La_law_467 : decode M_La_law.2.1 467 = .ok (.iconst 0, 1) := by decide +kernel
theorem d_La_law_468 : decode M_La_law.2.1 468 = .ok (.ireturn, 1) := by decide +kernel
theorem d_La_law_469 : decode M_La_law.2.1 469 = .ok (.aload_n 1, 1) := by decide +kernel
theorem d_La_law_470 : decode M_La_law.2.1 470 = .ok (.invokevirtual 68, 3) := by decide +kernel
theorem d_La_law_473 : decode M_La_law.2.1 473 = .ok (.aload_n 2, 1) := by decide +kernel
theorem d_La_law_474 : decode M_La_law.2.1 474 = .ok (.invokevirtual 71, 3) := by decide +kernel
theorem d_La_law_477 : decode M_La_law.2.1 477 = .ok (.if_icmp .eq 408, 3) := by decide +kernel
theorem d_La_law_480 : decode M_La_law.2.1 480 = .ok (.iconst 0, 1) := by decide +kernel
theorem d_La_law_481 : decode M_La_law.2.1 481 = .ok (.ireturn, 1) := by decide +kernel
theorem d_La_law_482 : decode M_La_law.2.1 482 = .ok (.aload_n 1, 1) := by decide +kernel
theorem d_La_law_483 : decode M_La_law.2.1 483 = .ok (.aload_n 0, 1) := by decide +kernel
theorem d_La_law_484 : decode M_La_law.2.1 484 = .ok (.iload_n 3, 1) := by decide +kernel
theorem d_La_law_485 : decode M_La_law.2.1 485 = .ok (.iconst 1, 1) := by decide +kernel
theorem d_La_law_486 : decode M_La_law.2.1 486 = .ok (.iadd, 1) := by decide +kernel
theorem d_La_law_487 : decode M_La_law.2.1 487 = .ok (.iaload, 1) := by decide +kernel
theorem d_La_law_488 : decode M_La_law.2.1 488 = .ok (.aload_n 0, 1) := by decide +kernel
theorem d_La_law_489 : decode M_La_law.2.1 489 = .ok (.iload_n 3, 1) := by decide +kernel
theorem d_La_law_490 : decode M_La_law.2.1 490 = .ok (.iconst 2, 1) := by decide +kernel
theorem d_La_law_491 : decode M_La_law.2.1 491 = .ok (.iadd, 1) := by decide +kernel
theorem d_La_law_492 : decode M_La_law.2.1 492 = .ok (.iaload, 1) := by decide +kernel
theorem d_La_law_493 : decode M_La_law.2.1 493 = .ok (.aload_n 0, 1) := by decide +kernel
theorem d_La_law_494 : decode M_La_law.2.1 494 = .ok (.iload_n 3, 1) := by decide +kernel
theorem d_La_law_495 : decode M_La_law.2.1 495 = .ok (.iconst 3, 1) := by decide +kernel
theorem d_La_law_496 : decode M_La_law.2.1 496 = .ok (.iadd, 1) := by decide +kernel
theorem d_La_law_497 : decode M_La_law.2.1 497 = .ok (.iaload, 1) := by decide +kernel
theorem d_La_law_498 : decode M_La_law.2.1 498 = .ok (.invokevirtual 72, 3) := by decide +kernel
theorem d_La_law_501 : decode M_La_law.2.1 501 = .ok (.aload_n 2, 1) := by decide +kernel
theorem d_La_law_502 : decode M_La_law.2.1 502 = .ok (.aload_n 0, 1) := by decide +kernel
theorem d_La_law_503 : decode M_La_law.2.1 503 = .ok (.iload_n 3, 1) := by decide +kernel
theorem d_La_law_504 : decode M_La_law.2.1 504 = .ok (.iconst 1, 1) := by decide +kernel
theorem d_La_law_505 : decode M_La_law.2.1 505 = .ok (.iadd, 1) := by decide +kernel
theorem d_La_law_506 : decode M_La_law.2.1 506 = .ok (.iaload, 1) := by decide +kernel
theorem d_La_law_507 : decode M_La_law.2.1 507 = .ok (.aload_n 0, 1) := by decide +kernel
theorem d_La_law_508 : decode M_La_law.2.1 508 = .ok (.iload_n 3, 1) := by decide +kernel
theorem d_La_law_509 : decode M_La_law.2.1 509 = .ok (.iconst 2, 1) := by decide +kernel
theorem d_La_law_510 : decode M_La_law.2.1 510 = .ok (.iadd, 1) := by decide +kernel
theorem d_La_law_511 : decode M_La_law.2.1 511 = .ok (.iaload, 1) := by decide +kernel
theorem d_La_law_512 : decode M_La_law.2.1 512 = .ok (.aload_n 0, 1) := by decide +kernel
theorem d_La_law_513 : decode M_La_law.2.1 513 = .ok (.iload_n 3, 1) := by decide +kernel
theorem d_La_law_514 : decode M_La_law.2.1 514 = .ok (.iconst 3, 1) := by decide +kernel
theorem d_La_law_515 : decode M_La_law.2.1 515 = .ok (.iadd, 1) := by decide +kernel
theorem d_La_law_516 : decode M_La_law.2.1 516 = .ok (.iaload, 1) := by decide +kernel
theorem d_La_law_517 : decode M_La_law.2.1 517 = .ok (.invokevirtual 76, 3) := by decide +kernel
theorem d_La_law_520 : decode M_La_law.2.1 520 = .ok (.if_icmp .eq 365, 3) := by decide +kernel
theorem d_La_law_523 : decode M_La_law.2.1 523 = .ok (.iconst 0, 1) := by decide +kernel
theorem d_La_law_524 : decode M_La_law.2.1 524 = .ok (.ireturn, 1) := by decide +kernel
theorem d_La_law_525 : decode M_La_law.2.1 525 = .ok (.aload_n 1, 1) := by decide +kernel
theorem d_La_law_526 : decode M_La_law.2.1 526 = .ok (.aload_n 0, 1) := by decide +kernel
theorem d_La_law_527 : decode M_La_law.2.1 527 = .ok (.iload_n 3, 1) := by decide +kernel
theorem d_La_law_528 : decode M_La_law.2.1 528 = .ok (.iconst 1, 1) := by decide +kernel
theorem d_La_law_529 : decode M_La_law.2.1 529 = .ok (.iadd, 1) := by decide +kernel
theorem d_La_law_530 : decode M_La_law.2.1 530 = .ok (.iaload, 1) := by decide +kernel
theorem d_La_law_531 : decode M_La_law.2.1 531 = .ok (.invokevirtual 77, 3) := by decide +kernel
theorem d_La_law_534 : decode M_La_law.2.1 534 = .ok (.aload_n 2, 1) := by decide +kernel
theorem d_La_law_535 : decode M_La_law.2.1 535 = .ok (.aload_n 0, 1) := by decide +kernel
theorem d_La_law_536 : decode M_La_law.2.1 536 = .ok (.iload_n 3, 1) := by decide +kernel
theorem d_La_law_537 : decode M_La_law.2.1 537 = .ok (.iconst 1, 1) := by decide +kernel
theorem d_La_law_538 : decode M_La_law.2.1 538 = .ok (.iadd, 1) := by decide +kernel
theorem d_La_law_539 : decode M_La_law.2.1 539 = .ok (.iaload, 1) := by decide +kernel
theorem d_La_law_540 : decode M_La_law.2.1 540 = .ok (.invokevirtual 80, 3) := by decide +kernel
theorem d_La_law_543 : decode M_La_law.2.1 543 = .ok (.if_icmp .eq 342, 3) := by decide +kernel
theorem d_La_law_546 : decode M_La_law.2.1 546 = .ok (.iconst 0, 1) := by decide +kernel
theorem d_La_law_547 : decode M_La_law.2.1 547 = .ok (.ireturn, 1) := by decide +kernel
theorem d_La_law_548 : decode M_La_law.2.1 548 = .ok (.aload_n 1, 1) := by decide +kernel
theorem d_La_law_549 : decode M_La_law.2.1 549 = .ok (.aload_n 0, 1) := by decide +kernel
theorem d_La_law_550 : decode M_La_law.2.1 550 = .ok (.iload_n 3, 1) := by decide +kernel
theorem d_La_law_551 : decode M_La_law.2.1 551 = .ok (.iconst 1, 1) := by decide +kernel
theorem d_La_law_552 : decode M_La_law.2.1 552 = .ok (.iadd, 1) := by decide +kernel
theorem d_La_law_553 : decode M_La_law.2.1 553 = .ok (.iaload, 1) := by decide +kernel
theorem d_La_law_554 : decode M_La_law.2.1 554 = .ok (.aload_n 0, 1) := by decide +kernel
theorem d_La_law_555 : decode M_La_law.2.1 555 = .ok (.iload_n 3, 1) := by decide +kernel
theorem d_La_law_556 : decode M_La_law.2.1 556 = .ok (.iconst 2, 1) := by decide +kernel
theorem d_La_law_557 : decode M_La_law.2.1 557 = .ok (.iadd, 1) := by decide +kernel
theorem d_La_law_558 : decode M_La_law.2.1 558 = .ok (.iaload, 1) := by decide +kernel
theorem d_La_law_559 : decode M_La_law.2.1 559 = .ok (.aload_n 0, 1) := by decide +kernel
theorem d_La_law_560 : decode M_La_law.2.1 560 = .ok (.iload_n 3, 1) := by decide +kernel
theorem d_La_law_561 : decode M_La_law.2.1 561 = .ok (.iconst 3, 1) := by decide +kernel
theorem d_La_law_562 : decode M_La_law.2.1 562 = .ok (.iadd, 1) := by decide +kernel
theorem d_La_law_563 : decode M_La_law.2.1 563 = .ok (.iaload, 1) := by decide +kernel
theorem d_La_law_564 : decode M_La_law.2.1 564 = .ok (.aload_n 0, 1) := by decide +kernel
theorem d_La_law_565 : decode M_La_law.2.1 565 = .ok (.iload_n 3, 1) := by decide +kernel
theorem d_La_law_566 : decode M_La_law.2.1 566 = .ok (.iconst 4, 1) := by decide +kernel
theorem d_La_law_567 : decode M_La_law.2.1 567 = .ok (.iadd, 1) := by decide +kernel
theorem d_La_law_568 : decode M_La_law.2.1 568 = .ok (.iaload, 1) := by decide +kernel
theorem d_La_law_569 : decode M_La_law.2.1 569 = .ok (.aload_n 0, 1) := by decide +kernel
theorem d_La_law_570 : decode M_La_law.2.1 570 = .ok (.iload_n 3, 1) := by decide +kernel
theorem d_La_law_571 : decode M_La_law.2.1 571 = .ok (.iconst 5, 1) := by decide +kernel
theorem d_La_law_572 : decode M_La_law.2.1 572 = .ok (.iadd, 1) := by decide +kernel
theorem d_La_law_573 : decode M_La_law.2.1 573 = .ok (.iaload, 1) := by decide +kernel
theorem d_La_law_574 : decode M_La_law.2.1 574 = .ok (.invokevirtual 81, 3) := by decide +kernel
theorem d_La_law_577 : decode M_La_law.2.1 577 = .ok (.aload_n 2, 1) := by decide +kernel
theorem d_La_law_578 : decode M_La_law.2.1 578 = .ok (.aload_n 0, 1) := by decide +kernel
theorem d_La_law_579 : decode M_La_law.2.1 579 = .ok (.iload_n 3, 1) := by decide +kernel
theorem d_La_law_580 : decode M_La_law.2.1 580 = .ok (.iconst 1, 1) := by decide +kernel
theorem d_La_law_581 : decode M_La_law.2.1 581 = .ok (.iadd, 1) := by decide +kernel
theorem d_La_law_582 : decode M_La_law.2.1 582 = .ok (.iaload, 1) := by decide +kernel
theorem d_La_law_583 : decode M_La_law.2.1 583 = .ok (.aload_n 0, 1) := by decide +kernel
theorem d_La_law_584 : decode M_La_law.2.1 584 = .ok (.iload_n 3, 1) := by decide +kernel
theorem d_La_law_585 : decode M_La_law.2.1 585 = .ok (.iconst 2, 1) := by decide +kernel
theorem d_La_law_586 : decode M_La_law.2.1 586 = .ok (.iadd, 1) := by decide +kernel
theorem d_La_law_587 : decode M_La_law.2.1 587 = .ok (.iaload, 1) := by decide +kernel
theorem d_La_law_588 : decode M_La_law.2.1 588 = .ok (.aload_n 0, 1) := by decide +kernel
theorem d_La_law_589 : decode M_La_law.2.1 589 = .ok (.iload_n 3, 1) := by decide +kernel
theorem d_La_law_590 : decode M_La_law.2.1 590 = .ok (.iconst 3, 1) := by decide +kernel
theorem d_La_law_591 : decode M_La_law.2.1 591 = .ok (.iadd, 1) := by decide +kernel
theorem d_La_law_592 : decode M_La_law.2.1 592 = .ok (.iaload, 1) := by decide +kernel
theorem d_La_law_593 : decode M_La_law.2.1 593 = .ok (.aload_n 0, 1) := by decide +kernel
theorem d_La_law_594 : decode M_La_law.2.1 594 = .ok (.iload_n 3, 1) := by decide +kernel
theorem d_La_law_595 : decode M_La_law.2.1 595 = .ok (.iconst 4, 1) := by decide +kernel
theorem d_La_law_596 : decode M_La_law.2.1 596 = .ok (.iadd, 1) := by decide +kernel
theorem d_La_law_597 : decode M_La_law.2.1 597 = .ok (.iaload, 1) := by decide +kernel
theorem d_La_law_598 : decode M_La_law.2.1 598 = .ok (.aload_n 0, 1) := by decide +kernel
theorem d_La_law_599 : decode M_La_law.2.1 599 = .ok (.iload_n 3, 1) := by decide +kernel
theorem d_La_law_600 : decode M_La_law.2.1 600 = .ok (.iconst 5, 1) := by decide +kernel
theorem d_La_law_601 : decode M_La_law.2.1 601 = .ok (.iadd, 1) := by decide +kernel
theorem d_La_law_602 : decode M_La_law.2.1 602 = .ok (.iaload, 1) := by decide +kernel
theorem d_La_law_603 : decode M_La_law.2.1 603 = .ok (.invokevirtual 85, 3) := by decide +kernel
theorem d_La_law_606 : decode M_La_law.2.1 606 = .ok (.if_icmp .eq 279, 3) := by decide +kernel
theorem d_La_law_609 : decode M_La_law.2.1 609 = .ok (.iconst 0, 1) := by decide +kernel
theorem d_La_law_610 : decode M_La_law.2.1 610 = .ok (.ireturn, 1) := by decide +kernel
theorem d_La_law_611 : decode M_La_law.2.1 611 = .ok (.aload_n 1, 1) := by decide +kernel
theorem d_La_law_612 : decode M_La_law.2.1 612 = .ok (.aload_n 0, 1) := by decide +kernel
theorem d_La_law_613 : decode M_La_law.2.1 613 = .ok (.iload_n 3, 1) := by decide +kernel
theorem d_La_law_614 : decode M_La_law.2.1 614 = .ok (.iconst 1, 1) := by decide +kernel
theorem d_La_law_615 : decode M_La_law.2.1 615 = .ok (.iadd, 1) := by decide +kernel
theorem d_La_law_616 : decode M_La_law.2.1 616 = .ok (.iaload, 1) := by decide +kernel
theorem d_La_law_617 : decode M_La_law.2.1 617 = .ok (.aload_n 0, 1) := by decide +kernel
theorem d_La_law_618 : decode M_La_law.2.1 618 = .ok (.iload_n 3, 1) := by decide +kernel
theorem d_La_law_619 : decode M_La_law.2.1 619 = .ok (.iconst 2, 1) := by decide +kernel
theorem d_La_law_620 : decode M_La_law.2.1 620 = .ok (.iadd, 1) := by decide +kernel
theorem d_La_law_621 : decode M_La_law.2.1 621 = .ok (.iaload, 1) := by decide +kernel
theorem d_La_law_622 : decode M_La_law.2.1 622 = .ok (.aload_n 0, 1) := by decide +kernel
theorem d_La_law_623 : decode M_La_law.2.1 623 = .ok (.iload_n 3, 1) := by decide +kernel
theorem d_La_law_624 : decode M_La_law.2.1 624 = .ok (.iconst 3, 1) := by decide +kernel
theorem d_La_law_625 : decode M_La_law.2.1 625 = .ok (.iadd, 1) := by decide +kernel
theorem d_La_law_626 : decode M_La_law.2.1 626 = .ok (.iaload, 1) := by decide +kernel
theorem d_La_law_627 : decode M_La_law.2.1 627 = .ok (.invokevirtual 86, 3) := by decide +kernel
theorem d_La_law_630 : decode M_La_law.2.1 630 = .ok (.aload_n 2, 1) := by decide +kernel
theorem d_La_law_631 : decode M_La_law.2.1 631 = .ok (.aload_n 0, 1) := by decide +kernel
theorem d_La_law_632 : decode M_La_law.2.1 632 = .ok (.iload_n 3, 1) := by decide +kernel
theorem d_La_law_633 : decode M_La_law.2.1 633 = .ok (.iconst 1, 1) := by decide +kernel
theorem d_La_law_634 : decode M_La_law.2.1 634 = .ok (.iadd, 1) := by decide +kernel
theorem d_La_law_635 : decode M_La_law.2.1 635 = .ok (.iaload, 1) := by decide +kernel
theorem d_La_law_636 : decode M_La_law.2.1 636 = .ok (.aload_n 0, 1) := by decide +kernel
theorem d_La_law_637 : decode M_La_law.2.1 637 = .ok (.iload_n 3, 1) := by decide +kernel
theorem d_La_law_638 : decode M_La_law.2.1 638 = .ok (.iconst 2, 1) := by decide +kernel
theorem d_La_law_639 : decode M_La_law.2.1 639 = .ok (.iadd, 1) := by decide +kernel
theorem d_La_law_640 : decode M_La_law.2.1 640 = .ok (.iaload, 1) := by decide +kernel
theorem d_La_law_641 : decode M_La_law.2.1 641 = .ok (.aload_n 0, 1) := by decide +kernel
theorem d_La_law_642 : decode M_La_law.2.1 642 = .ok (.iload_n 3, 1) := by decide +kernel
theorem d_La_law_643 : decode M_La_law.2.1 643 = .ok (.iconst 3, 1) := by decide +kernel
theorem d_La_law_644 : decode M_La_law.2.1 644 = .ok (.iadd, 1) := by decide +kernel
theorem d_La_law_645 : decode M_La_law.2.1 645 = .ok (.iaload, 1) := by decide +kernel
theorem d_La_law_646 : decode M_La_law.2.1 646 = .ok (.invokevirtual 89, 3) := by decide +kernel
theorem d_La_law_649 : decode M_La_law.2.1 649 = .ok (.if_icmp .eq 236, 3) := by decide +kernel
theorem d_La_law_652 : decode M_La_law.2.1 652 = .ok (.iconst 0, 1) := by decide +kernel
theorem d_La_law_653 : decode M_La_law.2.1 653 = .ok (.ireturn, 1) := by decide +kernel
theorem d_La_law_654 : decode M_La_law.2.1 654 = .ok (.aload_n 1, 1) := by decide +kernel
theorem d_La_law_655 : decode M_La_law.2.1 655 = .ok (.aload_n 0, 1) := by decide +kernel
theorem d_La_law_656 : decode M_La_law.2.1 656 = .ok (.iload_n 3, 1) := by decide +kernel
theorem d_La_law_657 : decode M_La_law.2.1 657 = .ok (.iconst 1, 1) := by decide +kernel
theorem d_La_law_658 : decode M_La_law.2.1 658 = .ok (.iadd, 1) := by decide +kernel
theorem d_La_law_659 : decode M_La_law.2.1 659 = .ok (.iaload, 1) := by decide +kernel
theorem d_La_law_660 : decode M_La_law.2.1 660 = .ok (.invokevirtual 90, 3) := by decide +kernel
theorem d_La_law_663 : decode M_La_law.2.1 663 = .ok (.aload_n 2, 1) := by decide +kernel
theorem d_La_law_664 : decode M_La_law.2.1 664 = .ok (.aload_n 0, 1) := by decide +kernel
theorem d_La_law_665 : decode M_La_law.2.1 665 = .ok (.iload_n 3, 1) := by decide +kernel
theorem d_La_law_666 : decode M_La_law.2.1 666 = .ok (.iconst 1, 1) := by decide +kernel
theorem d_La_law_667 : decode M_La_law.2.1 667 = .ok (.iadd, 1) := by decide +kernel
theorem d_La_law_668 : decode M_La_law.2.1 668 = .ok (.iaload, 1) := by decide +kernel
theorem d_La_law_669 : decode M_La_law.2.1 669 = .ok (.invokevirtual 93, 3) := by decide +kernel
theorem d_La_law_672 : decode M_La_law.2.1 672 = .ok (.if_icmp .eq 213, 3) := by decide +kernel
theorem d_La_law_675 : decode M_La_law.2.1 675 = .ok (.iconst 0, 1) := by decide +kernel
theorem d_La_law_676 : decode M_La_law.2.1 676 = .ok (.ireturn, 1) := by decide +kernel
theorem d_La_law_677 : decode M_La_law.2.1 677 = .ok (.aload_n 1, 1) := by decide +kernel
theorem d_La_law_678 : decode M_La_law.2.1 678 = .ok (.aload_n 0, 1) := by decide +kernel
theorem d_La_law_679 : decode M_La_law.2.1 679 = .ok (.iload_n 3, 1) := by decide +kernel
theorem d_La_law_680 : decode M_La_law.2.1 680 = .ok (.iconst 1, 1) := by decide +kernel
theorem d_La_law_681 : decode M_La_law.2.1 681 = .ok (.iadd, 1) := by decide +kernel
theorem d_La_law_682 : decode M_La_law.2.1 682 = .ok (.iaload, 1) := by decide +kernel
theorem d_La_law_683 : decode M_La_law.2.1 683 = .ok (.invokevirtual 94, 3) := by decide +kernel
theorem d_La_law_686 : decode M_La_law.2.1 686 = .ok (.aload_n 2, 1) := by decide +kernel
theorem d_La_law_687 : decode M_La_law.2.1 687 = .ok (.aload_n 0, 1) := by decide +kernel
theorem d_La_law_688 : decode M_La_law.2.1 688 = .ok (.iload_n 3, 1) := by decide +kernel
theorem d_La_law_689 : decode M_La_law.2.1 689 = .ok (.iconst 1, 1) := by decide +kernel
theorem d_La_law_690 : decode M_La_law.2.1 690 = .ok (.iadd, 1) := by decide +kernel
theorem d_La_law_691 : decode M_La_law.2.1 691 = .ok (.iaload, 1) := by decide +kernel
theorem d_La_law_692 : decode M_La_law.2.1 692 = .ok (.invokevirtual 97, 3) := by decide +kernel
theorem d_La_law_695 : decode M_La_law.2.1 695 = .ok (.if_icmp .eq 190, 3) := by decide +kernel
theorem d_La_law_698 : decode M_La_law.2.1 698 = .ok (.iconst 0, 1) := by decide +kernel
theorem d_La_law_699 : decode M_La_law.2.1 699 = .ok (.ireturn, 1) := by decide +kernel
theorem d_La_law_700 : decode M_La_law.2.1 700 = .ok (.aload_n 1, 1) := by decide +kernel
theorem d_La_law_701 : decode M_La_law.2.1 701 = .ok (.aload_n 0, 1) := by decide +kernel
theorem d_La_law_702 : decode M_La_law.2.1 702 = .ok (.iload_n 3, 1) := by decide +kernel
theorem d_La_law_703 : decode M_La_law.2.1 703 = .ok (.iconst 1, 1) := by decide +kernel
theorem d_La_law_704 : decode M_La_law.2.1 704 = .ok (.iadd, 1) := by decide +kernel
theorem d_La_law_705 : decode M_La_law.2.1 705 = .ok (.iaload, 1) := by decide +kernel
theorem d_La_law_706 : decode M_La_law.2.1 706 = .ok (.aload_n 0, 1) := by decide +kernel
theorem d_La_law_707 : decode M_La_law.2.1 707 = .ok (.iload_n 3, 1) := by decide +kernel
theorem d_La_law_708 : decode M_La_law.2.1 708 = .ok (.iconst 2, 1) := by decide +kernel
theorem d_La_law_709 : decode M_La_law.2.1 709 = .ok (.iadd, 1) := by decide +kernel
theorem d_La_law_710 : decode M_La_law.2.1 710 = .ok (.iaload, 1) := by decide +kernel
theorem d_La_law_711 : decode M_La_law.2.1 711 = .ok (.invokevirtual 98, 3) := by decide +kernel
theorem d_La_law_714 : decode M_La_law.2.1 714 = .ok (.aload_n 2, 1) := by decide +kernel
theorem d_La_law_715 : decode M_La_law.2.1 715 = .ok (.aload_n 0, 1) := by decide +kernel
theorem d_La_law_716 : decode M_La_law.2.1 716 = .ok (.iload_n 3, 1) := by decide +kernel
theorem d_La_law_717 : decode M_La_law.2.1 717 = .ok (.iconst 1, 1) := by decide +kernel
theorem d_La_law_718 : decode M_La_law.2.1 718 = .ok (.iadd, 1) := by decide +kernel
theorem d_La_law_719 : decode M_La_law.2.1 719 = .ok (.iaload, 1) := by decide +kernel
theorem d_La_law_720 : decode M_La_law.2.1 720 = .ok (.aload_n 0, 1) := by decide +kernel
theorem d_La_law_721 : decode M_La_law.2.1 721 = .ok (.iload_n 3, 1) := by decide +kernel
theorem d_La_law_722 : decode M_La_law.2.1 722 = .ok (.iconst 2, 1) := by decide +kernel
theorem d_La_law_723 : decode M_La_law.2.1 723 = .ok (.iadd, 1) := by decide +kernel
theorem d_La_law_724 : decode M_La_law.2.1 724 = .ok (.iaload, 1) := by decide +kernel
theorem d_La_law_725 : decode M_La_law.2.1 725 = .ok (.invokevirtual 101, 3) := by decide +kernel
theorem d_La_law_728 : decode M_La_law.2.1 728 = .ok (.if_icmp .eq 157, 3) := by decide +kernel
theorem d_La_law_731 : decode M_La_law.2.1 731 = .ok (.iconst 0, 1) := by decide +kernel
theorem d_La_law_732 : decode M_La_law.2.1 732 = .ok (.ireturn, 1) := by decide +kernel
theorem d_La_law_733 : decode M_La_law.2.1 733 = .ok (.aload_n 1, 1) := by decide +kernel
theorem d_La_law_734 : decode M_La_law.2.1 734 = .ok (.aload_n 0, 1) := by decide +kernel
theorem d_La_law_735 : decode M_La_law.2.1 735 = .ok (.iload_n 3, 1) := by decide +kernel
theorem d_La_law_736 : decode M_La_law.2.1 736 = .ok (.iconst 1, 1) := by decide +kernel
theorem d_La_law_737 : decode M_La_law.2.1 737 = .ok (.iadd, 1) := by decide +kernel
theorem d_La_law_738 : decode M_La_law.2.1 738 = .ok (.iaload, 1) := by decide +kernel
theorem d_La_law_739 : decode M_La_law.2.1 739 = .ok (.invokevirtual 102, 3) := by decide +kernel
theorem d_La_law_742 : decode M_La_law.2.1 742 = .ok (.aload_n 2, 1) := by decide +kernel
theorem d_La_law_743 : decode M_La_law.2.1 743 = .ok (.aload_n 0, 1) := by decide +kernel
theorem d_La_law_744 : decode M_La_law.2.1 744 = .ok (.iload_n 3, 1) := by decide +kernel
theorem d_La_law_745 : decode M_La_law.2.1 745 = .ok (.iconst 1, 1) := by decide +kernel
theorem d_La_law_746 : decode M_La_law.2.1 746 = .ok (.iadd, 1) := by decide +kernel
theorem d_La_law_747 : decode M_La_law.2.1 747 = .ok (.iaload, 1) := by decide +kernel
theorem d_La_law_748 : decode M_La_law.2.1 748 = .ok (.invokevirtual 105, 3) := by decide +kernel
theorem d_La_law_751 : decode M_La_law.2.1 751 = .ok (.if_icmp .eq 134, 3) := by decide +kernel
theorem d_La_law_754 : decode M_La_law.2.1 754 = .ok (.iconst 0, 1) := by decide +kernel
theorem d_La_law_755 : decode M_La_law.2.1 755 = .ok (.ireturn, 1) := by decide +kernel
theorem d_La_law_756 : decode M_La_law.2.1 756 = .ok (.aload_n 1, 1) := by decide +kernel
theorem d_La_law_757 : decode M_La_law.2.1 757 = .ok (.invokevirtual 106, 3) := by decide +kernel
theorem d_La_law_760 : decode M_La_law.2.1 760 = .ok (.aload_n 2, 1) := by decide +kernel
theorem d_La_law_761 : decode M_La_law.2.1 761 = .ok (.invokevirtual 109, 3) := by decide +kernel
theorem d_La_law_764 : decode M_La_law.2.1 764 = .ok (.if_icmp .eq 121, 3) := by decide +kernel
theorem d_La_law_767 : decode M_La_law.2.1 767 = .ok (.iconst 0, 1) := by decide +kernel
theorem d_La_law_768 : decode M_La_law.2.1 768 = .ok (.ireturn, 1) := by decide +kernel
theorem d_La_law_769 : decode M_La_law.2.1 769 = .ok (.aload_n 1, 1) := by decide +kernel
theorem d_La_law_770 : decode M_La_law.2.1 770 = .ok (.aload_n 0, 1) := by decide +kernel
theorem d_La_law_771 : decode M_La_law.2.1 771 = .ok (.iload_n 3, 1) := by decide +kernel
theorem d_La_law_772 : decode M_La_law.2.1 772 = .ok (.iconst 1, 1) := by decide +kernel
theorem d_La_law_773 : decode M_La_law.2.1 773 = .ok (.iadd, 1) := by decide +kernel
theorem d_La_law_774 : decode M_La_law.2.1 774 = .ok (.iaload, 1) := by decide +kernel
theorem d_La_law_775 : decode M_La_law.2.1 775 = .ok (.aload_n 0, 1) := by decide +kernel
theorem d_La_law_776 : decode M_La_law.2.1 776 = .ok (.iload_n 3, 1) := by decide +kernel
theorem d_La_law_777 : decode M_La_law.2.1 777 = .ok (.iconst 2, 1) := by decide +kernel
theorem d_La_law_778 : decode M_La_law.2.1 778 = .ok (.iadd, 1) := by decide +kernel
theorem d_La_law_779 : decode M_La_law.2.1 779 = .ok (.iaload, 1) := by decide +kernel
theorem d_La_law_780 : decode M_La_law.2.1 780 = .ok (.invokevirtual 110, 3) := by decide +kernel
theorem d_La_law_783 : decode M_La_law.2.1 783 = .ok (.aload_n 2, 1) := by decide +kernel
theorem d_La_law_784 : decode M_La_law.2.1 784 = .ok (.aload_n 0, 1) := by decide +kernel
theorem d_La_law_785 : decode M_La_law.2.1 785 = .ok (.iload_n 3, 1) := by decide +kernel
theorem d_La_law_786 : decode M_La_law.2.1 786 = .ok (.iconst 1, 1) := by decide +kernel
theorem d_La_law_787 : decode M_La_law.2.1 787 = .ok (.iadd, 1) := by decide +kernel
theorem d_La_law_788 : decode M_La_law.2.1 788 = .ok (.iaload, 1) := by decide +kernel
theorem d_La_law_789 : decode M_La_law.2.1 789 = .ok (.aload_n 0, 1) := by decide +kernel
theorem d_La_law_790 : decode M_La_law.2.1 790 = .ok (.iload_n 3, 1) := by decide +kernel
theorem d_La_law_791 : decode M_La_law.2.1 791 = .ok (.iconst 2, 1) := by decide +kernel
theorem d_La_law_792 : decode M_La_law.2.1 792 = .ok (.iadd, 1) := by decide +kernel
theorem d_La_law_793 : decode M_La_law.2.1 793 = .ok (.iaload, 1) := by decide +kernel
theorem d_La_law_794 : decode M_La_law.2.1 794 = .ok (.invokevirtual 113, 3) := by decide +kernel
theorem d_La_law_797 : decode M_La_law.2.1 797 = .ok (.if_icmp .eq 88, 3) := by decide +kernel
theorem d_La_law_800 : decode M_La_law.2.1 800 = .ok (.iconst 0, 1) := by decide +kernel
theorem d_La_law_801 : decode M_La_law.2.1 801 = .ok (.ireturn, 1) := by decide +kernel
theorem d_La_law_802 : decode M_La_law.2.1 802 = .ok (.aload_n 1, 1) := by decide +kernel
theorem d_La_law_803 : decode M_La_law.2.1 803 = .ok (.aload_n 0, 1) := by decide +kernel
theorem d_La_law_804 : decode M_La_law.2.1 804 = .ok (.iload_n 3, 1) := by decide +kernel
theorem d_La_law_805 : decode M_La_law.2.1 805 = .ok (.iconst 1, 1) := by decide +kernel
theorem d_La_law_806 : decode M_La_law.2.1 806 = .ok (.iadd, 1) := by decide +kernel
theorem d_La_law_807 : decode M_La_law.2.1 807 = .ok (.iaload, 1) := by decide +kernel
theorem d_La_law_808 : decode M_La_law.2.1 808 = .ok (.invokevirtual 114, 3) := by decide +kernel
theorem d_La_law_811 : decode M_La_law.2.1 811 = .ok (.aload_n 2, 1) := by decide +kernel
theorem d_La_law_812 : decode M_La_law.2.1 812 = .ok (.aload_n 0, 1) := by decide +kernel
theorem d_La_law_813 : decode M_La_law.2.1 813 = .ok (.iload_n 3, 1) := by decide +kernel
theorem d_La_law_814 : decode M_La_law.2.1 814 = .ok (.iconst 1, 1) := by decide +kernel
theorem d_La_law_815 : decode M_La_law.2.1 815 = .ok (.iadd, 1) := by decide +kernel
theorem d_La_law_816 : decode M_La_law.2.1 816 = .ok (.iaload, 1) := by decide +kernel
theorem d_La_law_817 : decode M_La_law.2.1 817 = .ok (.invokevirtual 117, 3) := by decide +kernel
theorem d_La_law_820 : decode M_La_law.2.1 820 = .ok (.if_icmp .eq 65, 3) := by decide +kernel
theorem d_La_law_823 : decode M_La_law.2.1 823 = .ok (.iconst 0, 1) := by decide +kernel
theorem d_La_law_824 : decode M_La_law.2.1 824 = .ok (.ireturn, 1) := by decide +kernel
theorem d_La_law_825 : decode M_La_law.2.1 825 = .ok (.aload_n 1, 1) := by decide +kernel
theorem d_La_law_826 : decode M_La_law.2.1 826 = .ok (.aload_n 0, 1) := by decide +kernel
theorem d_La_law_827 : decode M_La_law.2.1 827 = .ok (.iload_n 3, 1) := by decide +kernel
theorem d_La_law_828 : decode M_La_law.2.1 828 = .ok (.iconst 1, 1) := by decide +kernel
theorem d_La_law_829 : decode M_La_law.2.1 829 = .ok (.iadd, 1) := by decide +kernel
theorem d_La_law_830 : decode M_La_law.2.1 830 = .ok (.iaload, 1) := by decide +kernel
theorem d_La_law_831 : decode M_La_law.2.1 831 = .ok (.invokevirtual 118, 3) := by decide +kernel
theorem d_La_law_834 : decode M_La_law.2.1 834 = .ok (.aload_n 2, 1) := by decide +kernel
theorem d_La_law_835 : decode M_La_law.2.1 835 = .ok (.aload_n 0, 1) := by decide +kernel
theorem d_La_law_836 : decode M_La_law.2.1 836 = .ok (.iload_n 3, 1) := by decide +kernel
theorem d_La_law_837 : decode M_La_law.2.1 837 = .ok (.iconst 1, 1) := by decide +kernel
theorem d_La_law_838 : decode M_La_law.2.1 838 = .ok (.iadd, 1) := by decide +kernel
theorem d_La_law_839 : decode M_La_law.2.1 839 = .ok (.iaload, 1) := by decide +kernel
theorem d_La_law_840 : decode M_La_law.2.1 840 = .ok (.invokevirtual 121, 3) := by decide +kernel
theorem d_La_law_843 : decode M_La_law.2.1 843 = .ok (.if_icmp .eq 42, 3) := by decide +kernel
theorem d_La_law_846 : decode M_La_law.2.1 846 = .ok (.iconst 0, 1) := by decide +kernel
theorem d_La_law_847 : decode M_La_law.2.1 847 = .ok (.ireturn, 1) := by decide +kernel
theorem d_La_law_848 : decode M_La_law.2.1 848 = .ok (.aload_n 1, 1) := by decide +kernel
theorem d_La_law_849 : decode M_La_law.2.1 849 = .ok (.aload_n 0, 1) := by decide +kernel
theorem d_La_law_850 : decode M_La_law.2.1 850 = .ok (.iload_n 3, 1) := by decide +kernel
theorem d_La_law_851 : decode M_La_law.2.1 851 = .ok (.iconst 1, 1) := by decide +kernel
theorem d_La_law_852 : decode M_La_law.2.1 852 = .ok (.iadd, 1) := by decide +kernel
theorem d_La_law_853 : decode M_La_law.2.1 853 = .ok (.iaload, 1) := by decide +kernel
theorem d_La_law_854 : decode M_La_law.2.1 854 = .ok (.invokevirtual 122, 3) := by decide +kernel
theorem d_La_law_857 : decode M_La_law.2.1 857 = .ok (.aload_n 2, 1) := by decide +kernel
theorem d_La_law_858 : decode M_La_law.2.1 858 = .ok (.aload_n 0, 1) := by decide +kernel
theorem d_La_law_859 : decode M_La_law.2.1 859 = .ok (.iload_n 3, 1) := by decide +kernel
theorem d_La_law_860 : decode M_La_law.2.1 860 = .ok (.iconst 1, 1) := by decide +kernel
theorem d_La_law_861 : decode M_La_law.2.1 861 = .ok (.iadd, 1) := by decide +kernel
theorem d_La_law_862 : decode M_La_law.2.1 862 = .ok (.iaload, 1) := by decide +kernel
theorem d_La_law_863 : decode M_La_law.2.1 863 = .ok (.invokevirtual 125, 3) := by decide +kernel
theorem d_La_law_866 : decode M_La_law.2.1 866 = .ok (.if_icmp .eq 19, 3) := by decide +kernel
theorem d_La_law_869 : decode M_La_law.2.1 869 = .ok (.iconst 0, 1) := by decide +kernel
theorem d_La_law_870 : decode M_La_law.2.1 870 = .ok (.ireturn, 1) := by decide +kernel
theorem d_La_law_871 : decode M_La_law.2.1 871 = .ok (.aload_n 1, 1) := by decide +kernel
theorem d_La_law_872 : decode M_La_law.2.1 872 = .ok (.invokevirtual 126, 3) := by decide +kernel
theorem d_La_law_875 : decode M_La_law.2.1 875 = .ok (.aload_n 2, 1) := by decide +kernel
theorem d_La_law_876 : decode M_La_law.2.1 876 = .ok (.invokevirtual 130, 3) := by decide +kernel
theorem d_La_law_879 : decode M_La_law.2.1 879 = .ok (.lcmp, 1) := by decide +kernel
theorem d_La_law_880 : decode M_La_law.2.1 880 = .ok (.ifCond .eq 5, 3) := by decide +kernel
theorem d_La_law_883 : decode M_La_law.2.1 883 = .ok (.iconst 0, 1) := by decide +kernel
theorem d_La_law_884 : decode M_La_law.2.1 884 = .ok (.ireturn, 1) := by decide +kernel
theorem d_La_law_885 : decode M_La_law.2.1 885 = .ok (.iinc 3 6, 3) := by decide +kernel
theorem d_La_law_888 : decode M_La_law.2.1 888 = .ok (.goto (-870), 3) := by decide +kernel
theorem d_La_law_891 : decode M_La_law.2.1 891 = .ok (.iconst 1, 1) := by decide +kernel
theorem d_La_law_892 : decode M_La_law.2.1 892 = .ok (.ireturn, 1) := by decide +kernel
