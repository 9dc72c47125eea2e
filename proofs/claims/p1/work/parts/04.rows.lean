theorem dJ6_bitCount_0f7a4_0 : decode cJ6_bitCount_0f7a4 0 = .ok (.iload_n 0, 1) := by decide +kernel
theorem dJ6_bitCount_0f7a4_1 : decode cJ6_bitCount_0f7a4 1 = .ok (.iload_n 0, 1) := by decide +kernel
theorem dJ6_bitCount_0f7a4_2 : decode cJ6_bitCount_0f7a4 2 = .ok (.iconst 1, 1) := by decide +kernel
theorem dJ6_bitCount_0f7a4_3 : decode cJ6_bitCount_0f7a4 3 = .ok (.iushr, 1) := by decide +kernel
theorem dJ6_bitCount_0f7a4_4 : decode cJ6_bitCount_0f7a4 4 = .ok (.ldc_w 265, 3) := by decide +kernel
theorem dJ6_bitCount_0f7a4_7 : decode cJ6_bitCount_0f7a4 7 = .ok (.iand, 1) := by decide +kernel
theorem dJ6_bitCount_0f7a4_8 : decode cJ6_bitCount_0f7a4 8 = .ok (.isub, 1) := by decide +kernel
theorem dJ6_bitCount_0f7a4_9 : decode cJ6_bitCount_0f7a4 9 = .ok (.istore_n 0, 1) := by decide +kernel
theorem dJ6_bitCount_0f7a4_10 : decode cJ6_bitCount_0f7a4 10 = .ok (.iload_n 0, 1) := by decide +kernel
theorem dJ6_bitCount_0f7a4_11 : decode cJ6_bitCount_0f7a4 11 = .ok (.ldc_w 266, 3) := by decide +kernel
theorem dJ6_bitCount_0f7a4_14 : decode cJ6_bitCount_0f7a4 14 = .ok (.iand, 1) := by decide +kernel
theorem dJ6_bitCount_0f7a4_15 : decode cJ6_bitCount_0f7a4 15 = .ok (.iload_n 0, 1) := by decide +kernel
theorem dJ6_bitCount_0f7a4_16 : decode cJ6_bitCount_0f7a4 16 = .ok (.iconst 2, 1) := by decide +kernel
theorem dJ6_bitCount_0f7a4_17 : decode cJ6_bitCount_0f7a4 17 = .ok (.iushr, 1) := by decide +kernel
theorem dJ6_bitCount_0f7a4_18 : decode cJ6_bitCount_0f7a4 18 = .ok (.ldc_w 266, 3) := by decide +kernel
theorem dJ6_bitCount_0f7a4_21 : decode cJ6_bitCount_0f7a4 21 = .ok (.iand, 1) := by decide +kernel
theorem dJ6_bitCount_0f7a4_22 : decode cJ6_bitCount_0f7a4 22 = .ok (.iadd, 1) := by decide +kernel
theorem dJ6_bitCount_0f7a4_23 : decode cJ6_bitCount_0f7a4 23 = .ok (.istore_n 0, 1) := by decide +kernel
theorem dJ6_bitCount_0f7a4_24 : decode cJ6_bitCount_0f7a4 24 = .ok (.iload_n 0, 1) := by decide +kernel
theorem dJ6_bitCount_0f7a4_25 : decode cJ6_bitCount_0f7a4 25 = .ok (.iload_n 0, 1) := by decide +kernel
theorem dJ6_bitCount_0f7a4_26 : decode cJ6_bitCount_0f7a4 26 = .ok (.iconst 4, 1) := by decide +kernel
theorem dJ6_bitCount_0f7a4_27 : decode cJ6_bitCount_0f7a4 27 = .ok (.iushr, 1) := by decide +kernel
theorem dJ6_bitCount_0f7a4_28 : decode cJ6_bitCount_0f7a4 28 = .ok (.iadd, 1) := by decide +kernel
theorem dJ6_bitCount_0f7a4_29 : decode cJ6_bitCount_0f7a4 29 = .ok (.ldc_w 267, 3) := by decide +kernel
theorem dJ6_bitCount_0f7a4_32 : decode cJ6_bitCount_0f7a4 32 = .ok (.iand, 1) := by decide +kernel
theorem dJ6_bitCount_0f7a4_33 : decode cJ6_bitCount_0f7a4 33 = .ok (.istore_n 0, 1) := by decide +kernel
theorem dJ6_bitCount_0f7a4_34 : decode cJ6_bitCount_0f7a4 34 = .ok (.iload_n 0, 1) := by decide +kernel
theorem dJ6_bitCount_0f7a4_35 : decode cJ6_bitCount_0f7a4 35 = .ok (.iload_n 0, 1) := by decide +kernel
theorem dJ6_bitCount_0f7a4_36 : decode cJ6_bitCount_0f7a4 36 = .ok (.bipush 8, 2) := by decide +kernel
theorem dJ6_bitCount_0f7a4_38 : decode cJ6_bitCount_0f7a4 38 = .ok (.iushr, 1) := by decide +kernel
theorem dJ6_bitCount_0f7a4_39 : decode cJ6_bitCount_0f7a4 39 = .ok (.iadd, 1) := by decide +kernel
theorem dJ6_bitCount_0f7a4_40 : decode cJ6_bitCount_0f7a4 40 = .ok (.istore_n 0, 1) := by decide +kernel
theorem dJ6_bitCount_0f7a4_41 : decode cJ6_bitCount_0f7a4 41 = .ok (.iload_n 0, 1) := by decide +kernel
theorem dJ6_bitCount_0f7a4_42 : decode cJ6_bitCount_0f7a4 42 = .ok (.iload_n 0, 1) := by decide +kernel
theorem dJ6_bitCount_0f7a4_43 : decode cJ6_bitCount_0f7a4 43 = .ok (.bipush 16, 2) := by decide +kernel
theorem dJ6_bitCount_0f7a4_45 : decode cJ6_bitCount_0f7a4 45 = .ok (.iushr, 1) := by decide +kernel
theorem dJ6_bitCount_0f7a4_46 : decode cJ6_bitCount_0f7a4 46 = .ok (.iadd, 1) := by decide +kernel
theorem dJ6_bitCount_0f7a4_47 : decode cJ6_bitCount_0f7a4 47 = .ok (.istore_n 0, 1) := by decide +kernel
theorem dJ6_bitCount_0f7a4_48 : decode cJ6_bitCount_0f7a4 48 = .ok (.iload_n 0, 1) := by decide +kernel
theorem dJ6_bitCount_0f7a4_49 : decode cJ6_bitCount_0f7a4 49 = .ok (.bipush 63, 2) := by decide +kernel
theorem dJ6_bitCount_0f7a4_51 : decode cJ6_bitCount_0f7a4 51 = .ok (.iand, 1) := by decide +kernel
theorem dJ6_bitCount_0f7a4_52 : decode cJ6_bitCount_0f7a4 52 = .ok (.ireturn, 1) := by decide +kernel
theorem dJ7_fill_d0a16_0 : decode cJ7_fill_d0a16 0 = .ok (.iconst 0, 1) := by decide +kernel
theorem dJ7_fill_d0a16_1 : decode cJ7_fill_d0a16 1 = .ok (.istore_n 3, 1) := by decide +kernel
theorem dJ7_fill_d0a16_2 : decode cJ7_fill_d0a16 2 = .ok (.aload_n 0, 1) := by decide +kernel
theorem dJ7_fill_d0a16_3 : decode cJ7_fill_d0a16 3 = .ok (.arraylength, 1) := by decide +kernel
theorem dJ7_fill_d0a16_4 : decode cJ7_fill_d0a16 4 = .ok (.istore 4, 2) := by decide +kernel
theorem dJ7_fill_d0a16_6 : decode cJ7_fill_d0a16 6 = .ok (.iload_n 3, 1) := by decide +kernel
theorem dJ7_fill_d0a16_7 : decode cJ7_fill_d0a16 7 = .ok (.iload 4, 2) := by decide +kernel
theorem dJ7_fill_d0a16_9 : decode cJ7_fill_d0a16 9 = .ok (.if_icmp .ge 13, 3) := by decide +kernel
theorem dJ7_fill_d0a16_12 : decode cJ7_fill_d0a16 12 = .ok (.aload_n 0, 1) := by decide +kernel
theorem dJ7_fill_d0a16_13 : decode cJ7_fill_d0a16 13 = .ok (.iload_n 3, 1) := by decide +kernel
theorem dJ7_fill_d0a16_14 : decode cJ7_fill_d0a16 14 = .ok (.lload_n 1, 1) := by decide +kernel
theorem dJ7_fill_d0a16_15 : decode cJ7_fill_d0a16 15 = .ok (.lastore, 1) := by decide +kernel
theorem dJ7_fill_d0a16_16 : decode cJ7_fill_d0a16 16 = .ok (.iinc 3 1, 3) := by decide +kernel
theorem dJ7_fill_d0a16_19 : decode cJ7_fill_d0a16 19 = .ok (.goto (-13), 3) := by decide +kernel
theorem dJ7_fill_d0a16_22 : decode cJ7_fill_d0a16 22 = .ok (.return_, 1) := by decide +kernel
theorem dL_law_0 : decode cL_law 0 = .ok (.new 7, 3) := by decide +kernel
theorem dL_law_3 : decode cL_law 3 = .ok (.dup, 1) := by decide +kernel
theorem dL_law_4 : decode cL_law 4 = .ok (.invokespecial 9, 3) := by decide +kernel
theorem dL_law_7 : decode cL_law 7 = .ok (.astore_n 1, 1) := by decide +kernel
theorem dL_law_8 : decode cL_law 8 = .ok (.new 10, 3) := by decide +kernel
theorem dL_law_11 : decode cL_law 11 = .ok (.dup, 1) := by decide +kernel
theorem dL_law_12 : decode cL_law 12 = .ok (.invokespecial 12, 3) := by decide +kernel
theorem dL_law_15 : decode cL_law 15 = .ok (.astore_n 2, 1) := by decide +kernel
theorem dL_law_16 : decode cL_law 16 = .ok (.iconst 0, 1) := by decide +kernel
theorem dL_law_17 : decode cL_law 17 = .ok (.istore_n 3, 1) := by decide +kernel
theorem dL_law_18 : decode cL_law 18 = .ok (.iload_n 3, 1) := by decide +kernel
theorem dL_law_19 : decode cL_law 19 = .ok (.aload_n 0, 1) := by decide +kernel
theorem dL_law_20 : decode cL_law 20 = .ok (.arraylength, 1) := by decide +kernel
theorem dL_law_21 : decode cL_law 21 = .ok (.bipush 6, 2) := by decide +kernel
theorem dL_law_23 : decode cL_law 23 = .ok (.isub, 1) := by decide +kernel
theorem dL_law_24 : decode cL_law 24 = .ok (.if_icmp .gt 1165, 3) := by decide +kernel
theorem dL_law_27 : decode cL_law 27 = .ok (.aload_n 0, 1) := by decide +kernel
theorem dL_law_28 : decode cL_law 28 = .ok (.iload_n 3, 1) := by decide +kernel
theorem dL_law_29 : decode cL_law 29 = .ok (.iaload, 1) := by decide +kernel
theorem dL_law_30 : decode cL_law 30 = .ok (.bipush 63, 2) := by decide +kernel
theorem dL_law_32 : decode cL_law 32 = .ok (.iand, 1) := by decide +kernel
theorem dL_law_33 : decode cL_law 33 = .ok (.tableswitch 1150 0 38 #[171, 204, 237, 280, 323, 356, 389, 452, 475, 488, 501, 514, 527, 540, 553, 576, 599, 622, 645, 658, 671, 724, 757, 770, 783, 806, 829, 842, 865, 888, 922, 935, 969, 1002, 1035, 1068, 1091, 1114, 1137], 171) := by decide +kernel
theorem dL_law_204 : decode cL_law 204 = .ok (.aload_n 1, 1) := by decide +kernel
theorem dL_law_205 : decode cL_law 205 = .ok (.aload_n 0, 1) := by decide +kernel
theorem dL_law_206 : decode cL_law 206 = .ok (.iload_n 3, 1) := by decide +kernel
theorem dL_law_207 : decode cL_law 207 = .ok (.iconst 1, 1) := by decide +kernel
theorem dL_law_208 : decode cL_law 208 = .ok (.iadd, 1) := by decide +kernel
theorem dL_law_209 : decode cL_law 209 = .ok (.iaload, 1) := by decide +kernel
theorem dL_law_210 : decode cL_law 210 = .ok (.aload_n 0, 1) := by decide +kernel
theorem dL_law_211 : decode cL_law 211 = .ok (.iload_n 3, 1) := by decide +kernel
theorem dL_law_212 : decode cL_law 212 = .ok (.iconst 2, 1) := by decide +kernel
theorem dL_law_213 : decode cL_law 213 = .ok (.iadd, 1) := by decide +kernel
theorem dL_law_214 : decode cL_law 214 = .ok (.iaload, 1) := by decide +kernel
theorem dL_law_215 : decode cL_law 215 = .ok (.invokevirtual 13, 3) := by decide +kernel
theorem dL_law_218 : decode cL_law 218 = .ok (.aload_n 2, 1) := by decide +kernel
theorem dL_law_219 : decode cL_law 219 = .ok (.aload_n 0, 1) := by decide +kernel
theorem dL_law_220 : decode cL_law 220 = .ok (.iload_n 3, 1) := by decide +kernel
theorem dL_law_221 : decode cL_law 221 = .ok (.iconst 1, 1) := by decide +kernel
theorem dL_law_222 : decode cL_law 222 = .ok (.iadd, 1) := by decide +kernel
theorem dL_law_223 : decode cL_law 223 = .ok (.iaload, 1) := by decide +kernel
theorem dL_law_224 : decode cL_law 224 = .ok (.aload_n 0, 1) := by decide +kernel
theorem dL_law_225 : decode cL_law 225 = .ok (.iload_n 3, 1) := by decide +kernel
theorem dL_law_226 : decode cL_law 226 = .ok (.iconst 2, 1) := by decide +kernel
theorem dL_law_227 : decode cL_law 227 = .ok (.iadd, 1) := by decide +kernel
theorem dL_law_228 : decode cL_law 228 = .ok (.iaload, 1) := by decide +kernel
theorem dL_law_229 : decode cL_law 229 = .ok (.invokevirtual 17, 3) := by decide +kernel
theorem dL_law_232 : decode cL_law 232 = .ok (.if_icmp .eq 951, 3) := by decide +kernel
theorem dL_law_235 : decode cL_law 235 = .ok (.iconst 0, 1) := by decide +kernel
theorem dL_law_236 : decode cL_law 236 = .ok (.ireturn, 1) := by decide +kernel
theorem dL_law_237 : decode cL_law 237 = .ok (.aload_n 1, 1) := by decide +kernel
theorem dL_law_238 : decode cL_law 238 = .ok (.aload_n 0, 1) := by decide +kernel
theorem dL_law_239 : decode cL_law 239 = .ok (.iload_n 3, 1) := by decide +kernel
theorem dL_law_240 : decode cL_law 240 = .ok (.iconst 1, 1) := by decide +kernel
theorem dL_law_241 : decode cL_law 241 = .ok (.iadd, 1) := by decide +kernel
theorem dL_law_242 : decode cL_law 242 = .ok (.iaload, 1) := by decide +kernel
theorem dL_law_243 : decode cL_law 243 = .ok (.aload_n 0, 1) := by decide +kernel
theorem dL_law_244 : decode cL_law 244 = .ok (.iload_n 3, 1) := by decide +kernel
theorem dL_law_245 : decode cL_law 245 = .ok (.iconst 2, 1) := by decide +kernel
theorem dL_law_246 : decode cL_law 246 = .ok (.iadd, 1) := by decide +kernel
theorem dL_law_247 : decode cL_law 247 = .ok (.iaload, 1) := by decide +kernel
theorem dL_law_248 : decode cL_law 248 = .ok (.invokevirtual 18, 3) := by decide +kernel
theorem dL_law_251 : decode cL_law 251 = .ok (.aload_n 2, 1) := by decide +kernel
theorem dL_law_252 : decode cL_law 252 = .ok (.aload_n 0, 1) := by decide +kernel
theorem dL_law_253 : decode cL_law 253 = .ok (.iload_n 3, 1) := by decide +kernel
theorem dL_law_254 : decode cL_law 254 = .ok (.iconst 1, 1) := by decide +kernel
theorem dL_law_255 : decode cL_law 255 = .ok (.iadd, 1) := by decide +kernel
theorem dL_law_256 : decode cL_law 256 = .ok (.iaload, 1) := by decide +kernel
theorem dL_law_257 : decode cL_law 257 = .ok (.aload_n 0, 1) := by decide +kernel
theorem dL_law_258 : decode cL_law 258 = .ok (.iload_n 3, 1) := by decide +kernel
theorem dL_law_259 : decode cL_law 259 = .ok (.iconst 2, 1) := by decide +kernel
theorem dL_law_260 : decode cL_law 260 = .ok (.iadd, 1) := by decide +kernel
theorem dL_law_261 : decode cL_law 261 = .ok (.iaload, 1) := by decide +kernel
theorem dL_law_262 : decode cL_law 262 = .ok (.invokevirtual 21, 3) := by decide +kernel
theorem dL_law_265 : decode cL_law 265 = .ok (.if_icmp .eq 918, 3) := by decide +kernel
theorem dL_law_268 : decode cL_law 268 = .ok (.iconst 0, 1) := by decide +kernel
theorem dL_law_269 : decode cL_law 269 = .ok (.ireturn, 1) := by decide +kernel
theorem dL_law_270 : decode cL_law 270 = .ok (.aload_n 1, 1) := by decide +kernel
theorem dL_law_271 : decode cL_law 271 = .ok (.aload_n 0, 1) := by decide +kernel
theorem dL_law_272 : decode cL_law 272 = .ok (.iload_n 3, 1) := by decide +kernel
theorem dL_law_273 : decode cL_law 273 = .ok (.iconst 1, 1) := by decide +kernel
theorem dL_law_274 : decode cL_law 274 = .ok (.iadd, 1) := by decide +kernel
theorem dL_law_275 : decode cL_law 275 = .ok (.iaload, 1) := by decide +kernel
theorem dL_law_276 : decode cL_law 276 = .ok (.aload_n 0, 1) := by decide +kernel
theorem dL_law_277 : decode cL_law 277 = .ok (.iload_n 3, 1) := by decide +kernel
theorem dL_law_278 : decode cL_law 278 = .ok (.iconst 2, 1) := by decide +kernel
theorem dL_law_279 : decode cL_law 279 = .ok (.iadd, 1) := by decide +kernel
theorem dL_law_280 : decode cL_law 280 = .ok (.iaload, 1) := by decide +kernel
theorem dL_law_281 : decode cL_law 281 = .ok (.aload_n 0, 1) := by decide +kernel
theorem dL_law_282 : decode cL_law 282 = .ok (.iload_n 3, 1) := by decide +kernel
theorem dL_law_283 : decode cL_law 283 = .ok (.iconst 3, 1) := by decide +kernel
theorem dL_law_284 : decode cL_law 284 = .ok (.iadd, 1) := by decide +kernel
theorem dL_law_285 : decode cL_law 285 = .ok (.iaload, 1) := by decide +kernel
theorem dL_law_286 : decode cL_law 286 = .ok (.invokevirtual 22, 3) := by decide +kernel
theorem dL_law_289 : decode cL_law 289 = .ok (.aload_n 2, 1) := by decide +kernel
theorem dL_law_290 : decode cL_law 290 = .ok (.aload_n 0, 1) := by decide +kernel
theorem dL_law_291 : decode cL_law 291 = .ok (.iload_n 3, 1) := by decide +kernel
theorem dL_law_292 : decode cL_law 292 = .ok (.iconst 1, 1) := by decide +kernel
theorem dL_law_293 : decode cL_law 293 = .ok (.iadd, 1) := by decide +kernel
theorem dL_law_294 : decode cL_law 294 = .ok (.iaload, 1) := by decide +kernel
theorem dL_law_295 : decode cL_law 295 = .ok (.aload_n 0, 1) := by decide +kernel
theorem dL_law_296 : decode cL_law 296 = .ok (.iload_n 3, 1) := by decide +kernel
theorem dL_law_297 : decode cL_law 297 = .ok (.iconst 2, 1) := by decide +kernel
theorem dL_law_298 : decode cL_law 298 = .ok (.iadd, 1) := by decide +kernel
theorem dL_law_299 : decode cL_law 299 = .ok (.iaload, 1) := by decide +kernel
theorem dL_law_300 : decode cL_law 300 = .ok (.aload_n 0, 1) := by decide +kernel
theorem dL_law_301 : decode cL_law 301 = .ok (.iload_n 3, 1) := by decide +kernel
theorem dL_law_302 : decode cL_law 302 = .ok (.iconst 3, 1) := by decide +kernel
theorem dL_law_303 : decode cL_law 303 = .ok (.iadd, 1) := by decide +kernel
theorem dL_law_304 : decode cL_law 304 = .ok (.iaload, 1) := by decide +kernel
theorem dL_law_305 : decode cL_law 305 = .ok (.invokevirtual 26, 3) := by decide +kernel
theorem dL_law_308 : decode cL_law 308 = .ok (.if_icmp .eq 875, 3) := by decide +kernel
theorem dL_law_311 : decode cL_law 311 = .ok (.iconst 0, 1) := by decide +kernel
theorem dL_law_312 : decode cL_law 312 = .ok (.ireturn, 1) := by decide +kernel
theorem dL_law_313 : decode cL_law 313 = .ok (.aload_n 1, 1) := by decide +kernel
theorem dL_law_314 : decode cL_law 314 = .ok (.aload_n 0, 1) := by decide +kernel
theorem dL_law_315 : decode cL_law 315 = .ok (.iload_n 3, 1) := by decide +kernel
theorem dL_law_316 : decode cL_law 316 = .ok (.iconst 1, 1) := by decide +kernel
theorem dL_law_317 : decode cL_law 317 = .ok (.iadd, 1) := by decide +kernel
theorem dL_law_318 : decode cL_law 318 = .ok (.iaload, 1) := by decide +kernel
theorem dL_law_319 : decode cL_law 319 = .ok (.aload_n 0, 1) := by decide +kernel
theorem dL_law_320 : decode cL_law 320 = .ok (.iload_n 3, 1) := by decide +kernel
theorem dL_law_321 : decode cL_law 321 = .ok (.iconst 2, 1) := by decide +kernel
theorem dL_law_322 : decode cL_law 322 = .ok (.iadd, 1) := by decide +kernel
theorem dL_law_323 : decode cL_law 323 = .ok (.iaload, 1) := by decide +kernel
theorem dL_law_324 : decode cL_law 324 = .ok (.aload_n 0, 1) := by decide +kernel
theorem dL_law_325 : decode cL_law 325 = .ok (.iload_n 3, 1) := by decide +kernel
theorem dL_law_326 : decode cL_law 326 = .ok (.iconst 3, 1) := by decide +kernel
theorem dL_law_327 : decode cL_law 327 = .ok (.iadd, 1) := by decide +kernel
theorem dL_law_328 : decode cL_law 328 = .ok (.iaload, 1) := by decide +kernel
theorem dL_law_329 : decode cL_law 329 = .ok (.invokevirtual 27, 3) := by decide +kernel
theorem dL_law_332 : decode cL_law 332 = .ok (.aload_n 2, 1) := by decide +kernel
theorem dL_law_333 : decode cL_law 333 = .ok (.aload_n 0, 1) := by decide +kernel
theorem dL_law_334 : decode cL_law 334 = .ok (.iload_n 3, 1) := by decide +kernel
theorem dL_law_335 : decode cL_law 335 = .ok (.iconst 1, 1) := by decide +kernel
theorem dL_law_336 : decode cL_law 336 = .ok (.iadd, 1) := by decide +kernel
theorem dL_law_337 : decode cL_law 337 = .ok (.iaload, 1) := by decide +kernel
theorem dL_law_338 : decode cL_law 338 = .ok (.aload_n 0, 1) := by decide +kernel
theorem dL_law_339 : decode cL_law 339 = .ok (.iload_n 3, 1) := by decide +kernel
theorem dL_law_340 : decode cL_law 340 = .ok (.iconst 2, 1) := by decide +kernel
theorem dL_law_341 : decode cL_law 341 = .ok (.iadd, 1) := by decide +kernel
theorem dL_law_342 : decode cL_law 342 = .ok (.iaload, 1) := by decide +kernel
theorem dL_law_343 : decode cL_law 343 = .ok (.aload_n 0, 1) := by decide +kernel
theorem dL_law_344 : decode cL_law 344 = .ok (.iload_n 3, 1) := by decide +kernel
theorem dL_law_345 : decode cL_law 345 = .ok (.iconst 3, 1) := by decide +kernel
theorem dL_law_346 : decode cL_law 346 = .ok (.iadd, 1) := by decide +kernel
theorem dL_law_347 : decode cL_law 347 = .ok (.iaload, 1) := by decide +kernel
theorem dL_law_348 : decode cL_law 348 = .ok (.invokevirtual 30, 3) := by decide +kernel
theorem dL_law_351 : decode cL_law 351 = .ok (.if_icmp .eq 832, 3) := by decide +kernel
theorem dL_law_354 : decode cL_law 354 = .ok (.iconst 0, 1) := by decide +kernel
theorem dL_law_355 : decode cL_law 355 = .ok (.ireturn, 1) := by decide +kernel
theorem dL_law_356 : decode cL_law 356 = .ok (.aload_n 1, 1) := by decide +kernel
theorem dL_law_357 : decode cL_law 357 = .ok (.aload_n 0, 1) := by decide +kernel
theorem dL_law_358 : decode cL_law 358 = .ok (.iload_n 3, 1) := by decide +kernel
theorem dL_law_359 : decode cL_law 359 = .ok (.iconst 1, 1) := by decide +kernel
theorem dL_law_360 : decode cL_law 360 = .ok (.iadd, 1) := by decide +kernel
theorem dL_law_361 : decode cL_law 361 = .ok (.iaload, 1) := by decide +kernel
theorem dL_law_362 : decode cL_law 362 = .ok (.aload_n 0, 1) := by decide +kernel
theorem dL_law_363 : decode cL_law 363 = .ok (.iload_n 3, 1) := by decide +kernel
theorem dL_law_364 : decode cL_law 364 = .ok (.iconst 2, 1) := by decide +kernel
theorem dL_law_365 : decode cL_law 365 = .ok (.iadd, 1) := by decide +kernel
theorem dL_law_366 : decode cL_law 366 = .ok (.iaload, 1) := by decide +kernel
theorem dL_law_367 : decode cL_law 367 = .ok (.invokevirtual 31, 3) := by decide +kernel
theorem dL_law_370 : decode cL_law 370 = .ok (.aload_n 2, 1) := by decide +kernel
theorem dL_law_371 : decode cL_law 371 = .ok (.aload_n 0, 1) := by decide +kernel
theorem dL_law_372 : decode cL_law 372 = .ok (.iload_n 3, 1) := by decide +kernel
theorem dL_law_373 : decode cL_law 373 = .ok (.iconst 1, 1) := by decide +kernel
theorem dL_law_374 : decode cL_law 374 = .ok (.iadd, 1) := by decide +kernel
theorem dL_law_375 : decode cL_law 375 = .ok (.iaload, 1) := by decide +kernel
theorem dL_law_376 : decode cL_law 376 = .ok (.aload_n 0, 1) := by decide +kernel
theorem dL_law_377 : decode cL_law 377 = .ok (.iload_n 3, 1) := by decide +kernel
theorem dL_law_378 : decode cL_law 378 = .ok (.iconst 2, 1) := by decide +kernel
theorem dL_law_379 : decode cL_law 379 = .ok (.iadd, 1) := by decide +kernel
theorem dL_law_380 : decode cL_law 380 = .ok (.iaload, 1) := by decide +kernel
theorem dL_law_381 : decode cL_law 381 = .ok (.invokevirtual 34, 3) := by decide +kernel
theorem dL_law_384 : decode cL_law 384 = .ok (.if_icmp .eq 799, 3) := by decide +kernel
theorem dL_law_387 : decode cL_law 387 = .ok (.iconst 0, 1) := by decide +kernel
theorem dL_law_388 : decode cL_law 388 = .ok (.ireturn, 1) := by decide +kernel
theorem dL_law_389 : decode cL_law 389 = .ok (.aload_n 1, 1) := by decide +kernel
theorem dL_law_390 : decode cL_law 390 = .ok (.aload_n 0, 1) := by decide +kernel
theorem dL_law_391 : decode cL_law 391 = .ok (.iload_n 3, 1) := by decide +kernel
theorem dL_law_392 : decode cL_law 392 = .ok (.iconst 1, 1) := by decide +kernel
theorem dL_law_393 : decode cL_law 393 = .ok (.iadd, 1) := by decide +kernel
theorem dL_law_394 : decode cL_law 394 = .ok (.iaload, 1) := by decide +kernel
theorem dL_law_395 : decode cL_law 395 = .ok (.aload_n 0, 1) := by decide +kernel
theorem dL_law_396 : decode cL_law 396 = .ok (.iload_n 3, 1) := by decide +kernel
theorem dL_law_397 : decode cL_law 397 = .ok (.iconst 2, 1) := by decide +kernel
theorem dL_law_398 : decode cL_law 398 = .ok (.iadd, 1) := by decide +kernel
theorem dL_law_399 : decode cL_law 399 = .ok (.iaload, 1) := by decide +kernel
theorem dL_law_400 : decode cL_law 400 = .ok (.invokevirtual 35, 3) := by decide +kernel
theorem dL_law_403 : decode cL_law 403 = .ok (.aload_n 2, 1) := by decide +kernel
theorem dL_law_404 : decode cL_law 404 = .ok (.aload_n 0, 1) := by decide +kernel
theorem dL_law_405 : decode cL_law 405 = .ok (.iload_n 3, 1) := by decide +kernel
theorem dL_law_406 : decode cL_law 406 = .ok (.iconst 1, 1) := by decide +kernel
theorem dL_law_407 : decode cL_law 407 = .ok (.iadd, 1) := by decide +kernel
theorem dL_law_408 : decode cL_law 408 = .ok (.iaload, 1) := by decide +kernel
theorem dL_law_409 : decode cL_law 409 = .ok (.aload_n 0, 1) := by decide +kernel
theorem dL_law_410 : decode cL_law 410 = .ok (.iload_n 3, 1) := by decide +kernel
theorem dL_law_411 : decode cL_law 411 = .ok (.iconst 2, 1) := by decide +kernel
theorem dL_law_412 : decode cL_law 412 = .ok (.iadd, 1) := by decide +kernel
theorem dL_law_413 : decode cL_law 413 = .ok (.iaload, 1) := by decide +kernel
theorem dL_law_414 : decode cL_law 414 = .ok (.invokevirtual 38, 3) := by decide +kernel
theorem dL_law_417 : decode cL_law 417 = .ok (.if_icmp .eq 766, 3) := by decide +kernel
theorem dL_law_420 : decode cL_law 420 = .ok (.iconst 0, 1) := by decide +kernel
theorem dL_law_421 : decode cL_law 421 = .ok (.ireturn, 1) := by decide +kernel
theorem dL_law_422 : decode cL_law 422 = .ok (.aload_n 1, 1) := by decide +kernel
theorem dL_law_423 : decode cL_law 423 = .ok (.aload_n 0, 1) := by decide +kernel
theorem dL_law_424 : decode cL_law 424 = .ok (.iload_n 3, 1) := by decide +kernel
theorem dL_law_425 : decode cL_law 425 = .ok (.iconst 1, 1) := by decide +kernel
theorem dL_law_426 : decode cL_law 426 = .ok (.iadd, 1) := by decide +kernel
theorem dL_law_427 : decode cL_law 427 = .ok (.iaload, 1) := by decide +kernel
theorem dL_law_428 : decode cL_law 428 = .ok (.aload_n 0, 1) := by decide +kernel
theorem dL_law_429 : decode cL_law 429 = .ok (.iload_n 3, 1) := by decide +kernel
theorem dL_law_430 : decode cL_law 430 = .ok (.iconst 2, 1) := by decide +kernel
theorem dL_law_431 : decode cL_law 431 = .ok (.iadd, 1) := by decide +kernel
theorem dL_law_432 : decode cL_law 432 = .ok (.iaload, 1) := by decide +kernel
theorem dL_law_433 : decode cL_law 433 = .ok (.aload_n 0, 1) := by decide +kernel
theorem dL_law_434 : decode cL_law 434 = .ok (.iload_n 3, 1) := by decide +kernel
theorem dL_law_435 : decode cL_law 435 = .ok (.iconst 3, 1) := by decide +kernel
theorem dL_law_436 : decode cL_law 436 = .ok (.iadd, 1) := by decide +kernel
theorem dL_law_437 : decode cL_law 437 = .ok (.iaload, 1) := by decide +kernel
theorem dL_law_438 : decode cL_law 438 = .ok (.aload_n 0, 1) := by decide +kernel
theorem dL_law_439 : decode cL_law 439 = .ok (.iload_n 3, 1) := by decide +kernel
theorem dL_law_440 : decode cL_law 440 = .ok (.iconst 4, 1) := by decide +kernel
theorem dL_law_441 : decode cL_law 441 = .ok (.iadd, 1) := by decide +kernel
theorem dL_law_442 : decode cL_law 442 = .ok (.iaload, 1) := by decide +kernel
theorem dL_law_443 : decode cL_law 443 = .ok (.aload_n 0, 1) := by decide +kernel
theorem dL_law_444 : decode cL_law 444 = .ok (.iload_n 3, 1) := by decide +kernel
theorem dL_law_445 : decode cL_law 445 = .ok (.iconst 5, 1) := by decide +kernel
theorem dL_law_446 : decode cL_law 446 = .ok (.iadd, 1) := by decide +kernel
theorem dL_law_447 : decode cL_law 447 = .ok (.iaload, 1) := by decide +kernel
theorem dL_law_448 : decode cL_law 448 = .ok (.invokevirtual 39, 3) := by decide +kernel
theorem dL_law_451 : decode cL_law 451 = .ok (.aload_n 2, 1) := by decide +kernel
theorem dL_law_452 : decode cL_law 452 = .ok (.aload_n 0, 1) := by decide +kernel
theorem dL_law_453 : decode cL_law 453 = .ok (.iload_n 3, 1) := by decide +kernel
theorem dL_law_454 : decode cL_law 454 = .ok (.iconst 1, 1) := by decide +kernel
theorem dL_law_455 : decode cL_law 455 = .ok (.iadd, 1) := by decide +kernel
theorem dL_law_456 : decode cL_law 456 = .ok (.iaload, 1) := by decide +kernel
theorem dL_law_457 : decode cL_law 457 = .ok (.aload_n 0, 1) := by decide +kernel
theorem dL_law_458 : decode cL_law 458 = .ok (.iload_n 3, 1) := by decide +kernel
theorem dL_law_459 : decode cL_law 459 = .ok (.iconst 2, 1) := by decide +kernel
theorem dL_law_460 : decode cL_law 460 = .ok (.iadd, 1) := by decide +kernel
theorem dL_law_461 : decode cL_law 461 = .ok (.iaload, 1) := by decide +kernel
theorem dL_law_462 : decode cL_law 462 = .ok (.aload_n 0, 1) := by decide +kernel
theorem dL_law_463 : decode cL_law 463 = .ok (.iload_n 3, 1) := by decide +kernel
theorem dL_law_464 : decode cL_law 464 = .ok (.iconst 3, 1) := by decide +kernel
theorem dL_law_465 : decode cL_law 465 = .ok (.iadd, 1) := by decide +kernel
theorem dL_law_466 : decode cL_law 466 = .ok (.iaload, 1) := by decide +kernel
theorem dL_law_467 : decode cL_law 467 = .ok (.aload_n 0, 1) := by decide +kernel
theorem dL_law_468 : decode cL_law 468 = .ok (.iload_n 3, 1) := by decide +kernel
theorem dL_law_469 : decode cL_law 469 = .ok (.iconst 4, 1) := by decide +kernel
theorem dL_law_470 : decode cL_law 470 = .ok (.iadd, 1) := by decide +kernel
theorem dL_law_471 : decode cL_law 471 = .ok (.iaload, 1) := by decide +kernel
theorem dL_law_472 : decode cL_law 472 = .ok (.aload_n 0, 1) := by decide +kernel
theorem dL_law_473 : decode cL_law 473 = .ok (.iload_n 3, 1) := by decide +kernel
theorem dL_law_474 : decode cL_law 474 = .ok (.iconst 5, 1) := by decide +kernel
theorem dL_law_475 : decode cL_law 475 = .ok (.iadd, 1) := by decide +kernel
theorem dL_law_476 : decode cL_law 476 = .ok (.iaload, 1) := by decide +kernel
theorem dL_law_477 : decode cL_law 477 = .ok (.invokevirtual 43, 3) := by decide +kernel
theorem dL_law_480 : decode cL_law 480 = .ok (.if_icmp .eq 703, 3) := by decide +kernel
theorem dL_law_483 : decode cL_law 483 = .ok (.iconst 0, 1) := by decide +kernel
theorem dL_law_484 : decode cL_law 484 = .ok (.ireturn, 1) := by decide +kernel
theorem dL_law_485 : decode cL_law 485 = .ok (.aload_n 1, 1) := by decide +kernel
theorem dL_law_486 : decode cL_law 486 = .ok (.aload_n 0, 1) := by decide +kernel
theorem dL_law_487 : decode cL_law 487 = .ok (.iload_n 3, 1) := by decide +kernel
theorem dL_law_488 : decode cL_law 488 = .ok (.iconst 1, 1) := by decide +kernel
theorem dL_law_489 : decode cL_law 489 = .ok (.iadd, 1) := by decide +kernel
theorem dL_law_490 : decode cL_law 490 = .ok (.iaload, 1) := by decide +kernel
theorem dL_law_491 : decode cL_law 491 = .ok (.invokevirtual 44, 3) := by decide +kernel
theorem dL_law_494 : decode cL_law 494 = .ok (.aload_n 2, 1) := by decide +kernel
theorem dL_law_495 : decode cL_law 495 = .ok (.aload_n 0, 1) := by decide +kernel
theorem dL_law_496 : decode cL_law 496 = .ok (.iload_n 3, 1) := by decide +kernel
theorem dL_law_497 : decode cL_law 497 = .ok (.iconst 1, 1) := by decide +kernel
theorem dL_law_498 : decode cL_law 498 = .ok (.iadd, 1) := by decide +kernel
theorem dL_law_499 : decode cL_law 499 = .ok (.iaload, 1) := by decide +kernel
theorem dL_law_500 : decode cL_law 500 = .ok (.invokevirtual 48, 3) := by decide +kernel
theorem dL_law_503 : decode cL_law 503 = .ok (.if_icmp .eq 680, 3) := by decide +kernel
theorem dL_law_506 : decode cL_law 506 = .ok (.iconst 0, 1) := by decide +kernel
theorem dL_law_507 : decode cL_law 507 = .ok (.ireturn, 1) := by decide +kernel
theorem dL_law_508 : decode cL_law 508 = .ok (.aload_n 1, 1) := by decide +kernel
theorem dL_law_509 : decode cL_law 509 = .ok (.invokevirtual 49, 3) := by decide +kernel
theorem dL_law_512 : decode cL_law 512 = .ok (.aload_n 2, 1) := by decide +kernel
theorem dL_law_513 : decode cL_law 513 = .ok (.invokevirtual 53, 3) := by decide +kernel
theorem dL_law_516 : decode cL_law 516 = .ok (.if_icmp .eq 667, 3) := by decide +kernel
theorem dL_law_519 : decode cL_law 519 = .ok (.iconst 0, 1) := by decide +kernel
theorem dL_law_520 : decode cL_law 520 = .ok (.ireturn, 1) := by decide +kernel
theorem dL_law_521 : decode cL_law 521 = .ok (.aload_n 1, 1) := by decide +kernel
theorem dL_law_522 : decode cL_law 522 = .ok (.invokevirtual 54, 3) := by decide +kernel
theorem dL_law_525 : decode cL_law 525 = .ok (.aload_n 2, 1) := by decide +kernel
theorem dL_law_526 : decode cL_law 526 = .ok (.invokevirtual 57, 3) := by decide +kernel
theorem dL_law_529 : decode cL_law 529 = .ok (.if_icmp .eq 654, 3) := by decide +kernel
theorem dL_law_532 : decode cL_law 532 = .ok (.iconst 0, 1) := by decide +kernel
theorem dL_law_533 : decode cL_law 533 = .ok (.ireturn, 1) := by decide +kernel
theorem dL_law_534 : decode cL_law 534 = .ok (.aload_n 1, 1) := by decide +kernel
theorem dL_law_535 : decode cL_law 535 = .ok (.invokevirtual 58, 3) := by decide +kernel
theorem dL_law_538 : decode cL_law 538 = .ok (.aload_n 2, 1) := by decide +kernel
theorem dL_law_539 : decode cL_law 539 = .ok (.invokevirtual 61, 3) := by decide +kernel
theorem dL_law_542 : decode cL_law 542 = .ok (.if_icmp .eq 641, 3) := by decide +kernel
theorem dL_law_545 : decode cL_law 545 = .ok (.iconst 0, 1) := by decide +kernel
theorem dL_law_546 : decode cL_law 546 = .ok (.ireturn, 1) := by decide +kernel
theorem dL_law_547 : decode cL_law 547 = .ok (.aload_n 1, 1) := by decide +kernel
theorem dL_law_548 : decode cL_law 548 = .ok (.invokevirtual 62, 3) := by decide +kernel
theorem dL_law_551 : decode cL_law 551 = .ok (.aload_n 2, 1) := by decide +kernel
theorem dL_law_552 : decode cL_law 552 = .ok (.invokevirtual 65, 3) := by decide +kernel
theorem dL_law_555 : decode cL_law 555 = .ok (.if_icmp .eq 628, 3) := by decide +kernel
theorem dL_law_558 : decode cL_law 558 = .ok (.iconst 0, 1) := by decide +kernel
theorem dL_law_559 : decode cL_law 559 = .ok (.ireturn, 1) := by decide +kernel
theorem dL_law_560 : decode cL_law 560 = .ok (.aload_n 1, 1) := by decide +kernel
theorem dL_law_561 : decode cL_law 561 = .ok (.invokevirtual 66, 3) := by decide +kernel
theorem dL_law_564 : decode cL_law 564 = .ok (.aload_n 2, 1) := by decide +kernel
theorem dL_law_565 : decode cL_law 565 = .ok (.invokevirtual 69, 3) := by decide +kernel
theorem dL_law_568 : decode cL_law 568 = .ok (.if_icmp .eq 615, 3) := by decide +kernel
theorem dL_law_571 : decode cL_law 571 = .ok (.iconst 0, 1) := by decide +kernel
theorem dL_law_572 : decode cL_law 572 = .ok (.ireturn, 1) := by decide +kernel
theorem dL_law_573 : decode cL_law 573 = .ok (.aload_n 1, 1) := by decide +kernel
theorem dL_law_574 : decode cL_law 574 = .ok (.invokevirtual 70, 3) := by decide +kernel
theorem dL_law_577 : decode cL_law 577 = .ok (.aload_n 2, 1) := by decide +kernel
theorem dL_law_578 : decode cL_law 578 = .ok (.invokevirtual 73, 3) := by decide +kernel
theorem dL_law_581 : decode cL_law 581 = .ok (.if_icmp .eq 602, 3) := by decide +kernel
theorem dL_law_584 : decode cL_law 584 = .ok (.iconst 0, 1) := by decide +kernel
theorem dL_law_585 : decode cL_law 585 = .ok (.ireturn, 1) := by decide +kernel
theorem dL_law_586 : decode cL_law 586 = .ok (.aload_n 1, 1) := by decide +kernel
theorem dL_law_587 : decode cL_law 587 = .ok (.aload_n 0, 1) := by decide +kernel
theorem dL_law_588 : decode cL_law 588 = .ok (.iload_n 3, 1) := by decide +kernel
theorem dL_law_589 : decode cL_law 589 = .ok (.iconst 1, 1) := by decide +kernel
theorem dL_law_590 : decode cL_law 590 = .ok (.iadd, 1) := by decide +kernel
theorem dL_law_591 : decode cL_law 591 = .ok (.iaload, 1) := by decide +kernel
theorem dL_law_592 : decode cL_law 592 = .ok (.invokevirtual 74, 3) := by decide +kernel
theorem dL_law_595 : decode cL_law 595 = .ok (.aload_n 2, 1) := by decide +kernel
theorem dL_law_596 : decode cL_law 596 = .ok (.aload_n 0, 1) := by decide +kernel
theorem dL_law_597 : decode cL_law 597 = .ok (.iload_n 3, 1) := by decide +kernel
theorem dL_law_598 : decode cL_law 598 = .ok (.iconst 1, 1) := by decide +kernel
theorem dL_law_599 : decode cL_law 599 = .ok (.iadd, 1) := by decide +kernel
theorem dL_law_600 : decode cL_law 600 = .ok (.iaload, 1) := by decide +kernel
theorem dL_law_601 : decode cL_law 601 = .ok (.invokevirtual 77, 3) := by decide +kernel
theorem dL_law_604 : decode cL_law 604 = .ok (.if_icmp .eq 579, 3) := by decide +kernel
theorem dL_law_607 : decode cL_law 607 = .ok (.iconst 0, 1) := by decide +kernel
theorem dL_law_608 : decode cL_law 608 = .ok (.ireturn, 1) := by decide +kernel
theorem dL_law_609 : decode cL_law 609 = .ok (.aload_n 1, 1) := by decide +kernel
theorem dL_law_610 : decode cL_law 610 = .ok (.aload_n 0, 1) := by decide +kernel
theorem dL_law_611 : decode cL_law 611 = .ok (.iload_n 3, 1) := by decide +kernel
theorem dL_law_612 : decode cL_law 612 = .ok (.iconst 1, 1) := by decide +kernel
theorem dL_law_613 : decode cL_law 613 = .ok (.iadd, 1) := by decide +kernel
theorem dL_law_614 : decode cL_law 614 = .ok (.iaload, 1) := by decide +kernel
theorem dL_law_615 : decode cL_law 615 = .ok (.invokevirtual 78, 3) := by decide +kernel
theorem dL_law_618 : decode cL_law 618 = .ok (.aload_n 2, 1) := by decide +kernel
theorem dL_law_619 : decode cL_law 619 = .ok (.aload_n 0, 1) := by decide +kernel
theorem dL_law_620 : decode cL_law 620 = .ok (.iload_n 3, 1) := by decide +kernel
theorem dL_law_621 : decode cL_law 621 = .ok (.iconst 1, 1) := by decide +kernel
theorem dL_law_622 : decode cL_law 622 = .ok (.iadd, 1) := by decide +kernel
theorem dL_law_623 : decode cL_law 623 = .ok (.iaload, 1) := by decide +kernel
theorem dL_law_624 : decode cL_law 624 = .ok (.invokevirtual 81, 3) := by decide +kernel
theorem dL_law_627 : decode cL_law 627 = .ok (.if_icmp .eq 556, 3) := by decide +kernel
theorem dL_law_630 : decode cL_law 630 = .ok (.iconst 0, 1) := by decide +kernel
theorem dL_law_631 : decode cL_law 631 = .ok (.ireturn, 1) := by decide +kernel
theorem dL_law_632 : decode cL_law 632 = .ok (.aload_n 1, 1) := by decide +kernel
theorem dL_law_633 : decode cL_law 633 = .ok (.aload_n 0, 1) := by decide +kernel
theorem dL_law_634 : decode cL_law 634 = .ok (.iload_n 3, 1) := by decide +kernel
theorem dL_law_635 : decode cL_law 635 = .ok (.iconst 1, 1) := by decide +kernel
theorem dL_law_636 : decode cL_law 636 = .ok (.iadd, 1) := by decide +kernel
theorem dL_law_637 : decode cL_law 637 = .ok (.iaload, 1) := by decide +kernel
theorem dL_law_638 : decode cL_law 638 = .ok (.invokevirtual 82, 3) := by decide +kernel
theorem dL_law_641 : decode cL_law 641 = .ok (.aload_n 2, 1) := by decide +kernel
theorem dL_law_642 : decode cL_law 642 = .ok (.aload_n 0, 1) := by decide +kernel
theorem dL_law_643 : decode cL_law 643 = .ok (.iload_n 3, 1) := by decide +kernel
theorem dL_law_644 : decode cL_law 644 = .ok (.iconst 1, 1) := by decide +kernel
theorem dL_law_645 : decode cL_law 645 = .ok (.iadd, 1) := by decide +kernel
theorem dL_law_646 : decode cL_law 646 = .ok (.iaload, 1) := by decide +kernel
theorem dL_law_647 : decode cL_law 647 = .ok (.invokevirtual 85, 3) := by decide +kernel
theorem dL_law_650 : decode cL_law 650 = .ok (.if_icmp .eq 533, 3) := by decide +kernel
theorem dL_law_653 : decode cL_law 653 = .ok (.iconst 0, 1) := by decide +kernel
theorem dL_law_654 : decode cL_law 654 = .ok (.ireturn, 1) := by decide +kernel
theorem dL_law_655 : decode cL_law 655 = .ok (.aload_n 1, 1) := by decide +kernel
theorem dL_law_656 : decode cL_law 656 = .ok (.aload_n 0, 1) := by decide +kernel
theorem dL_law_657 : decode cL_law 657 = .ok (.iload_n 3, 1) := by decide +kernel
theorem dL_law_658 : decode cL_law 658 = .ok (.iconst 1, 1) := by decide +kernel
theorem dL_law_659 : decode cL_law 659 = .ok (.iadd, 1) := by decide +kernel
theorem dL_law_660 : decode cL_law 660 = .ok (.iaload, 1) := by decide +kernel
theorem dL_law_661 : decode cL_law 661 = .ok (.invokevirtual 86, 3) := by decide +kernel
theorem dL_law_664 : decode cL_law 664 = .ok (.aload_n 2, 1) := by decide +kernel
theorem dL_law_665 : decode cL_law 665 = .ok (.aload_n 0, 1) := by decide +kernel
theorem dL_law_666 : decode cL_law 666 = .ok (.iload_n 3, 1) := by decide +kernel
theorem dL_law_667 : decode cL_law 667 = .ok (.iconst 1, 1) := by decide +kernel
theorem dL_law_668 : decode cL_law 668 = .ok (.iadd, 1) := by decide +kernel
theorem dL_law_669 : decode cL_law 669 = .ok (.iaload, 1) := by decide +kernel
theorem dL_law_670 : decode cL_law 670 = .ok (.invokevirtual 89, 3) := by decide +kernel
theorem dL_law_673 : decode cL_law 673 = .ok (.if_icmp .eq 510, 3) := by decide +kernel
theorem dL_law_676 : decode cL_law 676 = .ok (.iconst 0, 1) := by decide +kernel
theorem dL_law_677 : decode cL_law 677 = .ok (.ireturn, 1) := by decide +kernel
theorem dL_law_678 : decode cL_law 678 = .ok (.aload_n 1, 1) := by decide +kernel
theorem dL_law_679 : decode cL_law 679 = .ok (.invokevirtual 90, 3) := by decide +kernel
theorem dL_law_682 : decode cL_law 682 = .ok (.aload_n 2, 1) := by decide +kernel
theorem dL_law_683 : decode cL_law 683 = .ok (.invokevirtual 93, 3) := by decide +kernel
theorem dL_law_686 : decode cL_law 686 = .ok (.if_icmp .eq 497, 3) := by decide +kernel
theorem dL_law_689 : decode cL_law 689 = .ok (.iconst 0, 1) := by decide +kernel
theorem dL_law_690 : decode cL_law 690 = .ok (.ireturn, 1) := by decide +kernel
theorem dL_law_691 : decode cL_law 691 = .ok (.aload_n 1, 1) := by decide +kernel
theorem dL_law_692 : decode cL_law 692 = .ok (.invokevirtual 94, 3) := by decide +kernel
theorem dL_law_695 : decode cL_law 695 = .ok (.aload_n 2, 1) := by decide +kernel
theorem dL_law_696 : decode cL_law 696 = .ok (.invokevirtual 97, 3) := by decide +kernel
theorem dL_law_699 : decode cL_law 699 = .ok (.if_icmp .eq 484, 3) := by decide +kernel
theorem dL_law_702 : decode cL_law 702 = .ok (.iconst 0, 1) := by decide +kernel
theorem dL_law_703 : decode cL_law 703 = .ok (.ireturn, 1) := by decide +kernel
theorem dL_law_704 : decode cL_law 704 = .ok (.aload_n 1, 1) := by decide +kernel
theorem dL_law_705 : decode cL_law 705 = .ok (.aload_n 0, 1) := by decide +kernel
theorem dL_law_706 : decode cL_law 706 = .ok (.iload_n 3, 1) := by decide +kernel
theorem dL_law_707 : decode cL_law 707 = .ok (.iconst 1, 1) := by decide +kernel
theorem dL_law_708 : decode cL_law 708 = .ok (.iadd, 1) := by decide +kernel
theorem dL_law_709 : decode cL_law 709 = .ok (.iaload, 1) := by decide +kernel
theorem dL_law_710 : decode cL_law 710 = .ok (.aload_n 0, 1) := by decide +kernel
theorem dL_law_711 : decode cL_law 711 = .ok (.iload_n 3, 1) := by decide +kernel
theorem dL_law_712 : decode cL_law 712 = .ok (.iconst 2, 1) := by decide +kernel
theorem dL_law_713 : decode cL_law 713 = .ok (.iadd, 1) := by decide +kernel
theorem dL_law_714 : decode cL_law 714 = .ok (.iaload, 1) := by decide +kernel
theorem dL_law_715 : decode cL_law 715 = .ok (.aload_n 0, 1) := by decide +kernel
theorem dL_law_716 : decode cL_law 716 = .ok (.iload_n 3, 1) := by decide +kernel
theorem dL_law_717 : decode cL_law 717 = .ok (.iconst 3, 1) := by decide +kernel
theorem dL_law_718 : decode cL_law 718 = .ok (.iadd, 1) := by decide +kernel
theorem dL_law_719 : decode cL_law 719 = .ok (.iaload, 1) := by decide +kernel
theorem dL_law_720 : decode cL_law 720 = .ok (.aload_n 0, 1) := by decide +kernel
theorem dL_law_721 : decode cL_law 721 = .ok (.iload_n 3, 1) := by decide +kernel
theorem dL_law_722 : decode cL_law 722 = .ok (.iconst 4, 1) := by decide +kernel
theorem dL_law_723 : decode cL_law 723 = .ok (.iadd, 1) := by decide +kernel
theorem dL_law_724 : decode cL_law 724 = .ok (.iaload, 1) := by decide +kernel
theorem dL_law_725 : decode cL_law 725 = .ok (.invokevirtual 98, 3) := by decide +kernel
theorem dL_law_728 : decode cL_law 728 = .ok (.aload_n 2, 1) := by decide +kernel
theorem dL_law_729 : decode cL_law 729 = .ok (.aload_n 0, 1) := by decide +kernel
theorem dL_law_730 : decode cL_law 730 = .ok (.iload_n 3, 1) := by decide +kernel
theorem dL_law_731 : decode cL_law 731 = .ok (.iconst 1, 1) := by decide +kernel
theorem dL_law_732 : decode cL_law 732 = .ok (.iadd, 1) := by decide +kernel
theorem dL_law_733 : decode cL_law 733 = .ok (.iaload, 1) := by decide +kernel
theorem dL_law_734 : decode cL_law 734 = .ok (.aload_n 0, 1) := by decide +kernel
theorem dL_law_735 : decode cL_law 735 = .ok (.iload_n 3, 1) := by decide +kernel
theorem dL_law_736 : decode cL_law 736 = .ok (.iconst 2, 1) := by decide +kernel
theorem dL_law_737 : decode cL_law 737 = .ok (.iadd, 1) := by decide +kernel
theorem dL_law_738 : decode cL_law 738 = .ok (.iaload, 1) := by decide +kernel
theorem dL_law_739 : decode cL_law 739 = .ok (.aload_n 0, 1) := by decide +kernel
theorem dL_law_740 : decode cL_law 740 = .ok (.iload_n 3, 1) := by decide +kernel
theorem dL_law_741 : decode cL_law 741 = .ok (.iconst 3, 1) := by decide +kernel
theorem dL_law_742 : decode cL_law 742 = .ok (.iadd, 1) := by decide +kernel
theorem dL_law_743 : decode cL_law 743 = .ok (.iaload, 1) := by decide +kernel
theorem dL_law_744 : decode cL_law 744 = .ok (.aload_n 0, 1) := by decide +kernel
theorem dL_law_745 : decode cL_law 745 = .ok (.iload_n 3, 1) := by decide +kernel
theorem dL_law_746 : decode cL_law 746 = .ok (.iconst 4, 1) := by decide +kernel
theorem dL_law_747 : decode cL_law 747 = .ok (.iadd, 1) := by decide +kernel
theorem dL_law_748 : decode cL_law 748 = .ok (.iaload, 1) := by decide +kernel
theorem dL_law_749 : decode cL_law 749 = .ok (.invokevirtual 102, 3) := by decide +kernel
theorem dL_law_752 : decode cL_law 752 = .ok (.if_icmp .eq 431, 3) := by decide +kernel
theorem dL_law_755 : decode cL_law 755 = .ok (.iconst 0, 1) := by decide +kernel
theorem dL_law_756 : decode cL_law 756 = .ok (.ireturn, 1) := by decide +kernel
theorem dL_law_757 : decode cL_law 757 = .ok (.aload_n 1, 1) := by decide +kernel
theorem dL_law_758 : decode cL_law 758 = .ok (.aload_n 0, 1) := by decide +kernel
theorem dL_law_759 : decode cL_law 759 = .ok (.iload_n 3, 1) := by decide +kernel
theorem dL_law_760 : decode cL_law 760 = .ok (.iconst 1, 1) := by decide +kernel
theorem dL_law_761 : decode cL_law 761 = .ok (.iadd, 1) := by decide +kernel
theorem dL_law_762 : decode cL_law 762 = .ok (.iaload, 1) := by decide +kernel
theorem dL_law_763 : decode cL_law 763 = .ok (.aload_n 0, 1) := by decide +kernel
theorem dL_law_764 : decode cL_law 764 = .ok (.iload_n 3, 1) := by decide +kernel
theorem dL_law_765 : decode cL_law 765 = .ok (.iconst 2, 1) := by decide +kernel
theorem dL_law_766 : decode cL_law 766 = .ok (.iadd, 1) := by decide +kernel
theorem dL_law_767 : decode cL_law 767 = .ok (.iaload, 1) := by decide +kernel
theorem dL_law_768 : decode cL_law 768 = .ok (.invokevirtual 103, 3) := by decide +kernel
theorem dL_law_771 : decode cL_law 771 = .ok (.aload_n 2, 1) := by decide +kernel
theorem dL_law_772 : decode cL_law 772 = .ok (.aload_n 0, 1) := by decide +kernel
theorem dL_law_773 : decode cL_law 773 = .ok (.iload_n 3, 1) := by decide +kernel
theorem dL_law_774 : decode cL_law 774 = .ok (.iconst 1, 1) := by decide +kernel
theorem dL_law_775 : decode cL_law 775 = .ok (.iadd, 1) := by decide +kernel
theorem dL_law_776 : decode cL_law 776 = .ok (.iaload, 1) := by decide +kernel
theorem dL_law_777 : decode cL_law 777 = .ok (.aload_n 0, 1) := by decide +kernel
theorem dL_law_778 : decode cL_law 778 = .ok (.iload_n 3, 1) := by decide +kernel
theorem dL_law_779 : decode cL_law 779 = .ok (.iconst 2, 1) := by decide +kernel
theorem dL_law_780 : decode cL_law 780 = .ok (.iadd, 1) := by decide +kernel
theorem dL_law_781 : decode cL_law 781 = .ok (.iaload, 1) := by decide +kernel
theorem dL_law_782 : decode cL_law 782 = .ok (.invokevirtual 106, 3) := by decide +kernel
theorem dL_law_785 : decode cL_law 785 = .ok (.if_icmp .eq 398, 3) := by decide +kernel
theorem dL_law_788 : decode cL_law 788 = .ok (.iconst 0, 1) := by decide +kernel
theorem dL_law_789 : decode cL_law 789 = .ok (.ireturn, 1) := by decide +kernel
theorem dL_law_790 : decode cL_law 790 = .ok (.aload_n 1, 1) := by decide +kernel
theorem dL_law_791 : decode cL_law 791 = .ok (.invokevirtual 107, 3) := by decide +kernel
theorem dL_law_794 : decode cL_law 794 = .ok (.aload_n 2, 1) := by decide +kernel
theorem dL_law_795 : decode cL_law 795 = .ok (.invokevirtual 110, 3) := by decide +kernel
theorem dL_law_798 : decode cL_law 798 = .ok (.if_icmp .eq 385, 3) := by decide +kernel
theorem dL_law_801 : decode cL_law 801 = .ok (.iconst 0, 1) := by decide +kernel
theorem dL_law_802 : decode cL_law 802 = .ok (.ireturn, 1) := by decide +kernel
theorem dL_law_803 : decode cL_law 803 = .ok (.aload_n 1, 1) := by decide +kernel
theorem dL_law_804 : decode cL_law 804 = .ok (.invokevirtual 111, 3) := by decide +kernel
theorem dL_law_807 : decode cL_law 807 = .ok (.aload_n 2, 1) := by decide +kernel
theorem dL_law_808 : decode cL_law 808 = .ok (.invokevirtual 114, 3) := by decide +kernel
theorem dL_law_811 : decode cL_law 811 = .ok (.if_icmp .eq 372, 3) := by decide +kernel
theorem dL_law_814 : decode cL_law 814 = .ok (.iconst 0, 1) := by decide +kernel
theorem dL_law_815 : decode cL_law 815 = .ok (.ireturn, 1) := by decide +kernel
theorem dL_law_816 : decode cL_law 816 = .ok (.aload_n 1, 1) := by decide +kernel
theorem dL_law_817 : decode cL_law 817 = .ok (.aload_n 0, 1) := by decide +kernel
theorem dL_law_818 : decode cL_law 818 = .ok (.iload_n 3, 1) := by decide +kernel
theorem dL_law_819 : decode cL_law 819 = .ok (.iconst 1, 1) := by decide +kernel
theorem dL_law_820 : decode cL_law 820 = .ok (.iadd, 1) := by decide +kernel
theorem dL_law_821 : decode cL_law 821 = .ok (.iaload, 1) := by decide +kernel
theorem dL_law_822 : decode cL_law 822 = .ok (.invokevirtual 115, 3) := by decide +kernel
theorem dL_law_825 : decode cL_law 825 = .ok (.aload_n 2, 1) := by decide +kernel
theorem dL_law_826 : decode cL_law 826 = .ok (.aload_n 0, 1) := by decide +kernel
theorem dL_law_827 : decode cL_law 827 = .ok (.iload_n 3, 1) := by decide +kernel
theorem dL_law_828 : decode cL_law 828 = .ok (.iconst 1, 1) := by decide +kernel
theorem dL_law_829 : decode cL_law 829 = .ok (.iadd, 1) := by decide +kernel
theorem dL_law_830 : decode cL_law 830 = .ok (.iaload, 1) := by decide +kernel
theorem dL_law_831 : decode cL_law 831 = .ok (.invokevirtual 118, 3) := by decide +kernel
theorem dL_law_834 : decode cL_law 834 = .ok (.if_icmp .eq 349, 3) := by decide +kernel
theorem dL_law_837 : decode cL_law 837 = .ok (.iconst 0, 1) := by decide +kernel
theorem dL_law_838 : decode cL_law 838 = .ok (.ireturn, 1) := by decide +kernel
theorem dL_law_839 : decode cL_law 839 = .ok (.aload_n 1, 1) := by decide +kernel
theorem dL_law_840 : decode cL_law 840 = .ok (.aload_n 0, 1) := by decide +kernel
theorem dL_law_841 : decode cL_law 841 = .ok (.iload_n 3, 1) := by decide +kernel
theorem dL_law_842 : decode cL_law 842 = .ok (.iconst 1, 1) := by decide +kernel
theorem dL_law_843 : decode cL_law 843 = .ok (.iadd, 1) := by decide +kernel
theorem dL_law_844 : decode cL_law 844 = .ok (.iaload, 1) := by decide +kernel
theorem dL_law_845 : decode cL_law 845 = .ok (.invokevirtual 119, 3) := by decide +kernel
theorem dL_law_848 : decode cL_law 848 = .ok (.aload_n 2, 1) := by decide +kernel
theorem dL_law_849 : decode cL_law 849 = .ok (.aload_n 0, 1) := by decide +kernel
theorem dL_law_850 : decode cL_law 850 = .ok (.iload_n 3, 1) := by decide +kernel
theorem dL_law_851 : decode cL_law 851 = .ok (.iconst 1, 1) := by decide +kernel
theorem dL_law_852 : decode cL_law 852 = .ok (.iadd, 1) := by decide +kernel
theorem dL_law_853 : decode cL_law 853 = .ok (.iaload, 1) := by decide +kernel
theorem dL_law_854 : decode cL_law 854 = .ok (.invokevirtual 122, 3) := by decide +kernel
theorem dL_law_857 : decode cL_law 857 = .ok (.if_icmp .eq 326, 3) := by decide +kernel
theorem dL_law_860 : decode cL_law 860 = .ok (.iconst 0, 1) := by decide +kernel
theorem dL_law_861 : decode cL_law 861 = .ok (.ireturn, 1) := by decide +kernel
theorem dL_law_862 : decode cL_law 862 = .ok (.aload_n 1, 1) := by decide +kernel
theorem dL_law_863 : decode cL_law 863 = .ok (.invokevirtual 123, 3) := by decide +kernel
theorem dL_law_866 : decode cL_law 866 = .ok (.aload_n 2, 1) := by decide +kernel
theorem dL_law_867 : decode cL_law 867 = .ok (.invokevirtual 126, 3) := by decide +kernel
theorem dL_law_870 : decode cL_law 870 = .ok (.if_icmp .eq 313, 3) := by decide +kernel
theorem dL_law_873 : decode cL_law 873 = .ok (.iconst 0, 1) := by decide +kernel
theorem dL_law_874 : decode cL_law 874 = .ok (.ireturn, 1) := by decide +kernel
theorem dL_law_875 : decode cL_law 875 = .ok (.aload_n 1, 1) := by decide +kernel
theorem dL_law_876 : decode cL_law 876 = .ok (.aload_n 0, 1) := by decide +kernel
theorem dL_law_877 : decode cL_law 877 = .ok (.iload_n 3, 1) := by decide +kernel
theorem dL_law_878 : decode cL_law 878 = .ok (.iconst 1, 1) := by decide +kernel
theorem dL_law_879 : decode cL_law 879 = .ok (.iadd, 1) := by decide +kernel
theorem dL_law_880 : decode cL_law 880 = .ok (.iaload, 1) := by decide +kernel
theorem dL_law_881 : decode cL_law 881 = .ok (.invokevirtual 127, 3) := by decide +kernel
theorem dL_law_884 : decode cL_law 884 = .ok (.aload_n 2, 1) := by decide +kernel
theorem dL_law_885 : decode cL_law 885 = .ok (.aload_n 0, 1) := by decide +kernel
theorem dL_law_886 : decode cL_law 886 = .ok (.iload_n 3, 1) := by decide +kernel
theorem dL_law_887 : decode cL_law 887 = .ok (.iconst 1, 1) := by decide +kernel
theorem dL_law_888 : decode cL_law 888 = .ok (.iadd, 1) := by decide +kernel
theorem dL_law_889 : decode cL_law 889 = .ok (.iaload, 1) := by decide +kernel
theorem dL_law_890 : decode cL_law 890 = .ok (.invokevirtual 130, 3) := by decide +kernel
theorem dL_law_893 : decode cL_law 893 = .ok (.if_icmp .eq 290, 3) := by decide +kernel
theorem dL_law_896 : decode cL_law 896 = .ok (.iconst 0, 1) := by decide +kernel
theorem dL_law_897 : decode cL_law 897 = .ok (.ireturn, 1) := by decide +kernel
theorem dL_law_898 : decode cL_law 898 = .ok (.aload_n 1, 1) := by decide +kernel
theorem dL_law_899 : decode cL_law 899 = .ok (.aload_n 0, 1) := by decide +kernel
theorem dL_law_900 : decode cL_law 900 = .ok (.iload_n 3, 1) := by decide +kernel
theorem dL_law_901 : decode cL_law 901 = .ok (.iconst 1, 1) := by decide +kernel
theorem dL_law_902 : decode cL_law 902 = .ok (.iadd, 1) := by decide +kernel
theorem dL_law_903 : decode cL_law 903 = .ok (.iaload, 1) := by decide +kernel
theorem dL_law_904 : decode cL_law 904 = .ok (.invokevirtual 131, 3) := by decide +kernel
theorem dL_law_907 : decode cL_law 907 = .ok (.aload_n 2, 1) := by decide +kernel
theorem dL_law_908 : decode cL_law 908 = .ok (.aload_n 0, 1) := by decide +kernel
theorem dL_law_909 : decode cL_law 909 = .ok (.iload_n 3, 1) := by decide +kernel
theorem dL_law_910 : decode cL_law 910 = .ok (.iconst 1, 1) := by decide +kernel
theorem dL_law_911 : decode cL_law 911 = .ok (.iadd, 1) := by decide +kernel
theorem dL_law_912 : decode cL_law 912 = .ok (.iaload, 1) := by decide +kernel
theorem dL_law_913 : decode cL_law 913 = .ok (.invokevirtual 134, 3) := by decide +kernel
theorem dL_law_916 : decode cL_law 916 = .ok (.if_icmp .eq 267, 3) := by decide +kernel
theorem dL_law_919 : decode cL_law 919 = .ok (.iconst 0, 1) := by decide +kernel
theorem dL_law_920 : decode cL_law 920 = .ok (.ireturn, 1) := by decide +kernel
theorem dL_law_921 : decode cL_law 921 = .ok (.aload_n 1, 1) := by decide +kernel
theorem dL_law_922 : decode cL_law 922 = .ok (.aload_n 0, 1) := by decide +kernel
theorem dL_law_923 : decode cL_law 923 = .ok (.iload_n 3, 1) := by decide +kernel
theorem dL_law_924 : decode cL_law 924 = .ok (.iconst 1, 1) := by decide +kernel
theorem dL_law_925 : decode cL_law 925 = .ok (.iadd, 1) := by decide +kernel
theorem dL_law_926 : decode cL_law 926 = .ok (.iaload, 1) := by decide +kernel
theorem dL_law_927 : decode cL_law 927 = .ok (.aload_n 0, 1) := by decide +kernel
theorem dL_law_928 : decode cL_law 928 = .ok (.iload_n 3, 1) := by decide +kernel
theorem dL_law_929 : decode cL_law 929 = .ok (.iconst 2, 1) := by decide +kernel
theorem dL_law_930 : decode cL_law 930 = .ok (.iadd, 1) := by decide +kernel
theorem dL_law_931 : decode cL_law 931 = .ok (.iaload, 1) := by decide +kernel
theorem dL_law_932 : decode cL_law 932 = .ok (.invokevirtual 135, 3) := by decide +kernel
theorem dL_law_935 : decode cL_law 935 = .ok (.aload_n 2, 1) := by decide +kernel
theorem dL_law_936 : decode cL_law 936 = .ok (.aload_n 0, 1) := by decide +kernel
theorem dL_law_937 : decode cL_law 937 = .ok (.iload_n 3, 1) := by decide +kernel
theorem dL_law_938 : decode cL_law 938 = .ok (.iconst 1, 1) := by decide +kernel
theorem dL_law_939 : decode cL_law 939 = .ok (.iadd, 1) := by decide +kernel
theorem dL_law_940 : decode cL_law 940 = .ok (.iaload, 1) := by decide +kernel
theorem dL_law_941 : decode cL_law 941 = .ok (.aload_n 0, 1) := by decide +kernel
theorem dL_law_942 : decode cL_law 942 = .ok (.iload_n 3, 1) := by decide +kernel
theorem dL_law_943 : decode cL_law 943 = .ok (.iconst 2, 1) := by decide +kernel
theorem dL_law_944 : decode cL_law 944 = .ok (.iadd, 1) := by decide +kernel
theorem dL_law_945 : decode cL_law 945 = .ok (.iaload, 1) := by decide +kernel
theorem dL_law_946 : decode cL_law 946 = .ok (.invokevirtual 139, 3) := by decide +kernel
theorem dL_law_949 : decode cL_law 949 = .ok (.lcmp, 1) := by decide +kernel
theorem dL_law_950 : decode cL_law 950 = .ok (.ifCond .eq 233, 3) := by decide +kernel
theorem dL_law_953 : decode cL_law 953 = .ok (.iconst 0, 1) := by decide +kernel
theorem dL_law_954 : decode cL_law 954 = .ok (.ireturn, 1) := by decide +kernel
theorem dL_law_955 : decode cL_law 955 = .ok (.aload_n 1, 1) := by decide +kernel
theorem dL_law_956 : decode cL_law 956 = .ok (.invokevirtual 140, 3) := by decide +kernel
theorem dL_law_959 : decode cL_law 959 = .ok (.aload_n 2, 1) := by decide +kernel
theorem dL_law_960 : decode cL_law 960 = .ok (.invokevirtual 143, 3) := by decide +kernel
theorem dL_law_963 : decode cL_law 963 = .ok (.if_icmp .eq 220, 3) := by decide +kernel
theorem dL_law_966 : decode cL_law 966 = .ok (.iconst 0, 1) := by decide +kernel
theorem dL_law_967 : decode cL_law 967 = .ok (.ireturn, 1) := by decide +kernel
theorem dL_law_968 : decode cL_law 968 = .ok (.aload_n 1, 1) := by decide +kernel
theorem dL_law_969 : decode cL_law 969 = .ok (.aload_n 0, 1) := by decide +kernel
theorem dL_law_970 : decode cL_law 970 = .ok (.iload_n 3, 1) := by decide +kernel
theorem dL_law_971 : decode cL_law 971 = .ok (.iconst 1, 1) := by decide +kernel
theorem dL_law_972 : decode cL_law 972 = .ok (.iadd, 1) := by decide +kernel
theorem dL_law_973 : decode cL_law 973 = .ok (.iaload, 1) := by decide +kernel
theorem dL_law_974 : decode cL_law 974 = .ok (.aload_n 0, 1) := by decide +kernel
theorem dL_law_975 : decode cL_law 975 = .ok (.iload_n 3, 1) := by decide +kernel
theorem dL_law_976 : decode cL_law 976 = .ok (.iconst 2, 1) := by decide +kernel
theorem dL_law_977 : decode cL_law 977 = .ok (.iadd, 1) := by decide +kernel
theorem dL_law_978 : decode cL_law 978 = .ok (.iaload, 1) := by decide +kernel
theorem dL_law_979 : decode cL_law 979 = .ok (.invokevirtual 144, 3) := by decide +kernel
theorem dL_law_982 : decode cL_law 982 = .ok (.aload_n 2, 1) := by decide +kernel
theorem dL_law_983 : decode cL_law 983 = .ok (.aload_n 0, 1) := by decide +kernel
theorem dL_law_984 : decode cL_law 984 = .ok (.iload_n 3, 1) := by decide +kernel
theorem dL_law_985 : decode cL_law 985 = .ok (.iconst 1, 1) := by decide +kernel
theorem dL_law_986 : decode cL_law 986 = .ok (.iadd, 1) := by decide +kernel
theorem dL_law_987 : decode cL_law 987 = .ok (.iaload, 1) := by decide +kernel
theorem dL_law_988 : decode cL_law 988 = .ok (.aload_n 0, 1) := by decide +kernel
theorem dL_law_989 : decode cL_law 989 = .ok (.iload_n 3, 1) := by decide +kernel
theorem dL_law_990 : decode cL_law 990 = .ok (.iconst 2, 1) := by decide +kernel
theorem dL_law_991 : decode cL_law 991 = .ok (.iadd, 1) := by decide +kernel
theorem dL_law_992 : decode cL_law 992 = .ok (.iaload, 1) := by decide +kernel
theorem dL_law_993 : decode cL_law 993 = .ok (.invokevirtual 147, 3) := by decide +kernel
theorem dL_law_996 : decode cL_law 996 = .ok (.lcmp, 1) := by decide +kernel
theorem dL_law_997 : decode cL_law 997 = .ok (.ifCond .eq 186, 3) := by decide +kernel
theorem dL_law_1000 : decode cL_law 1000 = .ok (.iconst 0, 1) := by decide +kernel
theorem dL_law_1001 : decode cL_law 1001 = .ok (.ireturn, 1) := by decide +kernel
theorem dL_law_1002 : decode cL_law 1002 = .ok (.aload_n 1, 1) := by decide +kernel
theorem dL_law_1003 : decode cL_law 1003 = .ok (.aload_n 0, 1) := by decide +kernel
theorem dL_law_1004 : decode cL_law 1004 = .ok (.iload_n 3, 1) := by decide +kernel
theorem dL_law_1005 : decode cL_law 1005 = .ok (.iconst 1, 1) := by decide +kernel
theorem dL_law_1006 : decode cL_law 1006 = .ok (.iadd, 1) := by decide +kernel
theorem dL_law_1007 : decode cL_law 1007 = .ok (.iaload, 1) := by decide +kernel
theorem dL_law_1008 : decode cL_law 1008 = .ok (.aload_n 0, 1) := by decide +kernel
theorem dL_law_1009 : decode cL_law 1009 = .ok (.iload_n 3, 1) := by decide +kernel
theorem dL_law_1010 : decode cL_law 1010 = .ok (.iconst 2, 1) := by decide +kernel
theorem dL_law_1011 : decode cL_law 1011 = .ok (.iadd, 1) := by decide +kernel
theorem dL_law_1012 : decode cL_law 1012 = .ok (.iaload, 1) := by decide +kernel
theorem dL_law_1013 : decode cL_law 1013 = .ok (.invokevirtual 148, 3) := by decide +kernel
theorem dL_law_1016 : decode cL_law 1016 = .ok (.aload_n 2, 1) := by decide +kernel
theorem dL_law_1017 : decode cL_law 1017 = .ok (.aload_n 0, 1) := by decide +kernel
theorem dL_law_1018 : decode cL_law 1018 = .ok (.iload_n 3, 1) := by decide +kernel
theorem dL_law_1019 : decode cL_law 1019 = .ok (.iconst 1, 1) := by decide +kernel
theorem dL_law_1020 : decode cL_law 1020 = .ok (.iadd, 1) := by decide +kernel
theorem dL_law_1021 : decode cL_law 1021 = .ok (.iaload, 1) := by decide +kernel
theorem dL_law_1022 : decode cL_law 1022 = .ok (.aload_n 0, 1) := by decide +kernel
theorem dL_law_1023 : decode cL_law 1023 = .ok (.iload_n 3, 1) := by decide +kernel
theorem dL_law_1024 : decode cL_law 1024 = .ok (.iconst 2, 1) := by decide +kernel
theorem dL_law_1025 : decode cL_law 1025 = .ok (.iadd, 1) := by decide +kernel
theorem dL_law_1026 : decode cL_law 1026 = .ok (.iaload, 1) := by decide +kernel
theorem dL_law_1027 : decode cL_law 1027 = .ok (.invokevirtual 151, 3) := by decide +kernel
theorem dL_law_1030 : decode cL_law 1030 = .ok (.if_icmp .eq 153, 3) := by decide +kernel
theorem dL_law_1033 : decode cL_law 1033 = .ok (.iconst 0, 1) := by decide +kernel
theorem dL_law_1034 : decode cL_law 1034 = .ok (.ireturn, 1) := by decide +kernel
theorem dL_law_1035 : decode cL_law 1035 = .ok (.aload_n 1, 1) := by decide +kernel
theorem dL_law_1036 : decode cL_law 1036 = .ok (.aload_n 0, 1) := by decide +kernel
theorem dL_law_1037 : decode cL_law 1037 = .ok (.iload_n 3, 1) := by decide +kernel
theorem dL_law_1038 : decode cL_law 1038 = .ok (.iconst 1, 1) := by decide +kernel
theorem dL_law_1039 : decode cL_law 1039 = .ok (.iadd, 1) := by decide +kernel
theorem dL_law_1040 : decode cL_law 1040 = .ok (.iaload, 1) := by decide +kernel
theorem dL_law_1041 : decode cL_law 1041 = .ok (.aload_n 0, 1) := by decide +kernel
theorem dL_law_1042 : decode cL_law 1042 = .ok (.iload_n 3, 1) := by decide +kernel
theorem dL_law_1043 : decode cL_law 1043 = .ok (.iconst 2, 1) := by decide +kernel
theorem dL_law_1044 : decode cL_law 1044 = .ok (.iadd, 1) := by decide +kernel
theorem dL_law_1045 : decode cL_law 1045 = .ok (.iaload, 1) := by decide +kernel
theorem dL_law_1046 : decode cL_law 1046 = .ok (.invokevirtual 152, 3) := by decide +kernel
theorem dL_law_1049 : decode cL_law 1049 = .ok (.aload_n 2, 1) := by decide +kernel
theorem dL_law_1050 : decode cL_law 1050 = .ok (.aload_n 0, 1) := by decide +kernel
theorem dL_law_1051 : decode cL_law 1051 = .ok (.iload_n 3, 1) := by decide +kernel
theorem dL_law_1052 : decode cL_law 1052 = .ok (.iconst 1, 1) := by decide +kernel
theorem dL_law_1053 : decode cL_law 1053 = .ok (.iadd, 1) := by decide +kernel
theorem dL_law_1054 : decode cL_law 1054 = .ok (.iaload, 1) := by decide +kernel
theorem dL_law_1055 : decode cL_law 1055 = .ok (.aload_n 0, 1) := by decide +kernel
theorem dL_law_1056 : decode cL_law 1056 = .ok (.iload_n 3, 1) := by decide +kernel
theorem dL_law_1057 : decode cL_law 1057 = .ok (.iconst 2, 1) := by decide +kernel
theorem dL_law_1058 : decode cL_law 1058 = .ok (.iadd, 1) := by decide +kernel
theorem dL_law_1059 : decode cL_law 1059 = .ok (.iaload, 1) := by decide +kernel
theorem dL_law_1060 : decode cL_law 1060 = .ok (.invokevirtual 155, 3) := by decide +kernel
theorem dL_law_1063 : decode cL_law 1063 = .ok (.if_icmp .eq 120, 3) := by decide +kernel
theorem dL_law_1066 : decode cL_law 1066 = .ok (.iconst 0, 1) := by decide +kernel
theorem dL_law_1067 : decode cL_law 1067 = .ok (.ireturn, 1) := by decide +kernel
theorem dL_law_1068 : decode cL_law 1068 = .ok (.aload_n 1, 1) := by decide +kernel
theorem dL_law_1069 : decode cL_law 1069 = .ok (.aload_n 0, 1) := by decide +kernel
theorem dL_law_1070 : decode cL_law 1070 = .ok (.iload_n 3, 1) := by decide +kernel
theorem dL_law_1071 : decode cL_law 1071 = .ok (.iconst 1, 1) := by decide +kernel
theorem dL_law_1072 : decode cL_law 1072 = .ok (.iadd, 1) := by decide +kernel
theorem dL_law_1073 : decode cL_law 1073 = .ok (.iaload, 1) := by decide +kernel
theorem dL_law_1074 : decode cL_law 1074 = .ok (.aload_n 0, 1) := by decide +kernel
theorem dL_law_1075 : decode cL_law 1075 = .ok (.iload_n 3, 1) := by decide +kernel
theorem dL_law_1076 : decode cL_law 1076 = .ok (.iconst 2, 1) := by decide +kernel
theorem dL_law_1077 : decode cL_law 1077 = .ok (.iadd, 1) := by decide +kernel
theorem dL_law_1078 : decode cL_law 1078 = .ok (.iaload, 1) := by decide +kernel
theorem dL_law_1079 : decode cL_law 1079 = .ok (.invokevirtual 156, 3) := by decide +kernel
theorem dL_law_1082 : decode cL_law 1082 = .ok (.aload_n 2, 1) := by decide +kernel
theorem dL_law_1083 : decode cL_law 1083 = .ok (.aload_n 0, 1) := by decide +kernel
theorem dL_law_1084 : decode cL_law 1084 = .ok (.iload_n 3, 1) := by decide +kernel
theorem dL_law_1085 : decode cL_law 1085 = .ok (.iconst 1, 1) := by decide +kernel
theorem dL_law_1086 : decode cL_law 1086 = .ok (.iadd, 1) := by decide +kernel
theorem dL_law_1087 : decode cL_law 1087 = .ok (.iaload, 1) := by decide +kernel
theorem dL_law_1088 : decode cL_law 1088 = .ok (.aload_n 0, 1) := by decide +kernel
theorem dL_law_1089 : decode cL_law 1089 = .ok (.iload_n 3, 1) := by decide +kernel
theorem dL_law_1090 : decode cL_law 1090 = .ok (.iconst 2, 1) := by decide +kernel
theorem dL_law_1091 : decode cL_law 1091 = .ok (.iadd, 1) := by decide +kernel
theorem dL_law_1092 : decode cL_law 1092 = .ok (.iaload, 1) := by decide +kernel
theorem dL_law_1093 : decode cL_law 1093 = .ok (.invokevirtual 159, 3) := by decide +kernel
theorem dL_law_1096 : decode cL_law 1096 = .ok (.if_icmp .eq 87, 3) := by decide +kernel
theorem dL_law_1099 : decode cL_law 1099 = .ok (.iconst 0, 1) := by decide +kernel
theorem dL_law_1100 : decode cL_law 1100 = .ok (.ireturn, 1) := by decide +kernel
theorem dL_law_1101 : decode cL_law 1101 = .ok (.aload_n 1, 1) := by decide +kernel
theorem dL_law_1102 : decode cL_law 1102 = .ok (.aload_n 0, 1) := by decide +kernel
theorem dL_law_1103 : decode cL_law 1103 = .ok (.iload_n 3, 1) := by decide +kernel
theorem dL_law_1104 : decode cL_law 1104 = .ok (.iconst 1, 1) := by decide +kernel
theorem dL_law_1105 : decode cL_law 1105 = .ok (.iadd, 1) := by decide +kernel
theorem dL_law_1106 : decode cL_law 1106 = .ok (.iaload, 1) := by decide +kernel
theorem dL_law_1107 : decode cL_law 1107 = .ok (.invokevirtual 160, 3) := by decide +kernel
theorem dL_law_1110 : decode cL_law 1110 = .ok (.aload_n 2, 1) := by decide +kernel
theorem dL_law_1111 : decode cL_law 1111 = .ok (.aload_n 0, 1) := by decide +kernel
theorem dL_law_1112 : decode cL_law 1112 = .ok (.iload_n 3, 1) := by decide +kernel
theorem dL_law_1113 : decode cL_law 1113 = .ok (.iconst 1, 1) := by decide +kernel
theorem dL_law_1114 : decode cL_law 1114 = .ok (.iadd, 1) := by decide +kernel
theorem dL_law_1115 : decode cL_law 1115 = .ok (.iaload, 1) := by decide +kernel
theorem dL_law_1116 : decode cL_law 1116 = .ok (.invokevirtual 163, 3) := by decide +kernel
theorem dL_law_1119 : decode cL_law 1119 = .ok (.if_icmp .eq 64, 3) := by decide +kernel
theorem dL_law_1122 : decode cL_law 1122 = .ok (.iconst 0, 1) := by decide +kernel
theorem dL_law_1123 : decode cL_law 1123 = .ok (.ireturn, 1) := by decide +kernel
theorem dL_law_1124 : decode cL_law 1124 = .ok (.aload_n 1, 1) := by decide +kernel
theorem dL_law_1125 : decode cL_law 1125 = .ok (.aload_n 0, 1) := by decide +kernel
theorem dL_law_1126 : decode cL_law 1126 = .ok (.iload_n 3, 1) := by decide +kernel
theorem dL_law_1127 : decode cL_law 1127 = .ok (.iconst 1, 1) := by decide +kernel
theorem dL_law_1128 : decode cL_law 1128 = .ok (.iadd, 1) := by decide +kernel
theorem dL_law_1129 : decode cL_law 1129 = .ok (.iaload, 1) := by decide +kernel
theorem dL_law_1130 : decode cL_law 1130 = .ok (.invokevirtual 164, 3) := by decide +kernel
theorem dL_law_1133 : decode cL_law 1133 = .ok (.aload_n 2, 1) := by decide +kernel
theorem dL_law_1134 : decode cL_law 1134 = .ok (.aload_n 0, 1) := by decide +kernel
theorem dL_law_1135 : decode cL_law 1135 = .ok (.iload_n 3, 1) := by decide +kernel
theorem dL_law_1136 : decode cL_law 1136 = .ok (.iconst 1, 1) := by decide +kernel
theorem dL_law_1137 : decode cL_law 1137 = .ok (.iadd, 1) := by decide +kernel
theorem dL_law_1138 : decode cL_law 1138 = .ok (.iaload, 1) := by decide +kernel
theorem dL_law_1139 : decode cL_law 1139 = .ok (.invokevirtual 167, 3) := by decide +kernel
theorem dL_law_1142 : decode cL_law 1142 = .ok (.if_icmp .eq 41, 3) := by decide +kernel
theorem dL_law_1145 : decode cL_law 1145 = .ok (.iconst 0, 1) := by decide +kernel
theorem dL_law_1146 : decode cL_law 1146 = .ok (.ireturn, 1) := by decide +kernel
theorem dL_law_1147 : decode cL_law 1147 = .ok (.aload_n 1, 1) := by decide +kernel
theorem dL_law_1148 : decode cL_law 1148 = .ok (.aload_n 0, 1) := by decide +kernel
theorem dL_law_1149 : decode cL_law 1149 = .ok (.iload_n 3, 1) := by decide +kernel
theorem dL_law_1150 : decode cL_law 1150 = .ok (.iconst 1, 1) := by decide +kernel
theorem dL_law_1151 : decode cL_law 1151 = .ok (.iadd, 1) := by decide +kernel
theorem dL_law_1152 : decode cL_law 1152 = .ok (.iaload, 1) := by decide +kernel
theorem dL_law_1153 : decode cL_law 1153 = .ok (.invokevirtual 168, 3) := by decide +kernel
theorem dL_law_1156 : decode cL_law 1156 = .ok (.aload_n 2, 1) := by decide +kernel
theorem dL_law_1157 : decode cL_law 1157 = .ok (.aload_n 0, 1) := by decide +kernel
theorem dL_law_1158 : decode cL_law 1158 = .ok (.iload_n 3, 1) := by decide +kernel
theorem dL_law_1159 : decode cL_law 1159 = .ok (.iconst 1, 1) := by decide +kernel
theorem dL_law_1160 : decode cL_law 1160 = .ok (.iadd, 1) := by decide +kernel
theorem dL_law_1161 : decode cL_law 1161 = .ok (.iaload, 1) := by decide +kernel
theorem dL_law_1162 : decode cL_law 1162 = .ok (.invokevirtual 171, 3) := by decide +kernel
theorem dL_law_1165 : decode cL_law 1165 = .ok (.if_icmp .eq 18, 3) := by decide +kernel
theorem dL_law_1168 : decode cL_law 1168 = .ok (.iconst 0, 1) := by decide +kernel
theorem dL_law_1169 : decode cL_law 1169 = .ok (.ireturn, 1) := by decide +kernel
theorem dL_law_1170 : decode cL_law 1170 = .ok (.aload_n 1, 1) := by decide +kernel
theorem dL_law_1171 : decode cL_law 1171 = .ok (.invokevirtual 172, 3) := by decide +kernel
theorem dL_law_1174 : decode cL_law 1174 = .ok (.aload_n 2, 1) := by decide +kernel
theorem dL_law_1175 : decode cL_law 1175 = .ok (.invokevirtual 175, 3) := by decide +kernel
theorem dL_law_1178 : decode cL_law 1178 = .ok (.if_icmp .eq 5, 3) := by decide +kernel
theorem dL_law_1181 : decode cL_law 1181 = .ok (.iconst 0, 1) := by decide +kernel
theorem dL_law_1182 : decode cL_law 1182 = .ok (.ireturn, 1) := by decide +kernel
theorem dL_law_1183 : decode cL_law 1183 = .ok (.iinc 3 6, 3) := by decide +kernel
theorem dL_law_1186 : decode cL_law 1186 = .ok (.goto (-1168), 3) := by decide +kernel
theorem dL_law_1189 : decode cL_law 1189 = .ok (.iconst 1, 1) := by decide +kernel
theorem dL_law_1190 : decode cL_law 1190 = .ok (.ireturn, 1) := by decide +kernel
theorem dX0_clear_0 : decode cX0_clear 0 = .ok (.aload_n 0, 1) := by decide +kernel
theorem dX0_clear_1 : decode cX0_clear 1 = .ok (.iconst 0, 1) := by decide +kernel
theorem dX0_clear_2 : decode cX0_clear 2 = .ok (.putfield 9, 3) := by decide +kernel
theorem dX0_clear_5 : decode cX0_clear 5 = .ok (.aload_n 0, 1) := by decide +kernel
theorem dX0_clear_6 : decode cX0_clear 6 = .ok (.iconst 0, 1) := by decide +kernel
theorem dX0_clear_7 : decode cX0_clear 7 = .ok (.putfield 15, 3) := by decide +kernel
theorem dX0_clear_10 : decode cX0_clear 10 = .ok (.return_, 1) := by decide +kernel
theorem dX0_init_0 : decode cX0_init 0 = .ok (.aload_n 0, 1) := by decide +kernel
theorem dX0_init_1 : decode cX0_init 1 = .ok (.invokespecial 3, 3) := by decide +kernel
theorem dX0_init_4 : decode cX0_init 4 = .ok (.aload_n 0, 1) := by decide +kernel
theorem dX0_init_5 : decode cX0_init 5 = .ok (.iconst 0, 1) := by decide +kernel
theorem dX0_init_6 : decode cX0_init 6 = .ok (.putfield 9, 3) := by decide +kernel
theorem dX0_init_9 : decode cX0_init 9 = .ok (.aload_n 0, 1) := by decide +kernel
theorem dX0_init_10 : decode cX0_init 10 = .ok (.iconst 0, 1) := by decide +kernel
theorem dX0_init_11 : decode cX0_init 11 = .ok (.putfield 15, 3) := by decide +kernel
theorem dX0_init_14 : decode cX0_init 14 = .ok (.iconst 0, 1) := by decide +kernel
theorem dX0_init_15 : decode cX0_init 15 = .ok (.iload_n 1, 1) := by decide +kernel
theorem dX0_init_16 : decode cX0_init 16 = .ok (.invokestatic 18, 3) := by decide +kernel
theorem dX0_init_19 : decode cX0_init 19 = .ok (.istore_n 3, 1) := by decide +kernel
theorem dX0_init_20 : decode cX0_init 20 = .ok (.iconst 0, 1) := by decide +kernel
theorem dX0_init_21 : decode cX0_init 21 = .ok (.iload_n 2, 1) := by decide +kernel
theorem dX0_init_22 : decode cX0_init 22 = .ok (.invokestatic 18, 3) := by decide +kernel
theorem dX0_init_25 : decode cX0_init 25 = .ok (.istore 4, 2) := by decide +kernel
theorem dX0_init_27 : decode cX0_init 27 = .ok (.aload_n 0, 1) := by decide +kernel
theorem dX0_init_28 : decode cX0_init 28 = .ok (.iload_n 3, 1) := by decide +kernel
theorem dX0_init_29 : decode cX0_init 29 = .ok (.newarray .int, 2) := by decide +kernel
theorem dX0_init_31 : decode cX0_init 31 = .ok (.putfield 24, 3) := by decide +kernel
theorem dX0_init_34 : decode cX0_init 34 = .ok (.aload_n 0, 1) := by decide +kernel
theorem dX0_init_35 : decode cX0_init 35 = .ok (.iload_n 3, 1) := by decide +kernel
theorem dX0_init_36 : decode cX0_init 36 = .ok (.newarray .int, 2) := by decide +kernel
theorem dX0_init_38 : decode cX0_init 38 = .ok (.putfield 28, 3) := by decide +kernel
theorem dX0_init_41 : decode cX0_init 41 = .ok (.aload_n 0, 1) := by decide +kernel
theorem dX0_init_42 : decode cX0_init 42 = .ok (.iload_n 3, 1) := by decide +kernel
theorem dX0_init_43 : decode cX0_init 43 = .ok (.newarray .int, 2) := by decide +kernel
theorem dX0_init_45 : decode cX0_init 45 = .ok (.putfield 31, 3) := by decide +kernel
theorem dX0_init_48 : decode cX0_init 48 = .ok (.aload_n 0, 1) := by decide +kernel
theorem dX0_init_49 : decode cX0_init 49 = .ok (.iload_n 3, 1) := by decide +kernel
theorem dX0_init_50 : decode cX0_init 50 = .ok (.newarray .int, 2) := by decide +kernel
theorem dX0_init_52 : decode cX0_init 52 = .ok (.putfield 34, 3) := by decide +kernel
theorem dX0_init_55 : decode cX0_init 55 = .ok (.aload_n 0, 1) := by decide +kernel
theorem dX0_init_56 : decode cX0_init 56 = .ok (.iload_n 3, 1) := by decide +kernel
theorem dX0_init_57 : decode cX0_init 57 = .ok (.newarray .int, 2) := by decide +kernel
theorem dX0_init_59 : decode cX0_init 59 = .ok (.putfield 37, 3) := by decide +kernel
theorem dX0_init_62 : decode cX0_init 62 = .ok (.aload_n 0, 1) := by decide +kernel
theorem dX0_init_63 : decode cX0_init 63 = .ok (.iload 4, 2) := by decide +kernel
theorem dX0_init_65 : decode cX0_init 65 = .ok (.newarray .int, 2) := by decide +kernel
theorem dX0_init_67 : decode cX0_init 67 = .ok (.putfield 40, 3) := by decide +kernel
theorem dX0_init_70 : decode cX0_init 70 = .ok (.aload_n 0, 1) := by decide +kernel
theorem dX0_init_71 : decode cX0_init 71 = .ok (.iload 4, 2) := by decide +kernel
theorem dX0_init_73 : decode cX0_init 73 = .ok (.newarray .int, 2) := by decide +kernel
theorem dX0_init_75 : decode cX0_init 75 = .ok (.putfield 43, 3) := by decide +kernel
theorem dX0_init_78 : decode cX0_init 78 = .ok (.return_, 1) := by decide +kernel
theorem dX1_at_0 : decode cX1_at 0 = .ok (.iload_n 1, 1) := by decide +kernel
theorem dX1_at_1 : decode cX1_at 1 = .ok (.iconst 1, 1) := by decide +kernel
theorem dX1_at_2 : decode cX1_at 2 = .ok (.if_icmp .lt 22, 3) := by decide +kernel
theorem dX1_at_5 : decode cX1_at 5 = .ok (.iload_n 1, 1) := by decide +kernel
theorem dX1_at_6 : decode cX1_at 6 = .ok (.aload_n 0, 1) := by decide +kernel
theorem dX1_at_7 : decode cX1_at 7 = .ok (.getfield 18, 3) := by decide +kernel
theorem dX1_at_10 : decode cX1_at 10 = .ok (.if_icmp .gt 14, 3) := by decide +kernel
theorem dX1_at_13 : decode cX1_at 13 = .ok (.aload_n 0, 1) := by decide +kernel
theorem dX1_at_14 : decode cX1_at 14 = .ok (.getfield 9, 3) := by decide +kernel
theorem dX1_at_17 : decode cX1_at 17 = .ok (.iload_n 1, 1) := by decide +kernel
theorem dX1_at_18 : decode cX1_at 18 = .ok (.iconst 1, 1) := by decide +kernel
theorem dX1_at_19 : decode cX1_at 19 = .ok (.isub, 1) := by decide +kernel
theorem dX1_at_20 : decode cX1_at 20 = .ok (.iaload, 1) := by decide +kernel
theorem dX1_at_21 : decode cX1_at 21 = .ok (.goto 4, 3) := by decide +kernel
theorem dX1_at_24 : decode cX1_at 24 = .ok (.iconst (-1), 1) := by decide +kernel
theorem dX1_at_25 : decode cX1_at 25 = .ok (.ireturn, 1) := by decide +kernel
theorem dX1_init_0 : decode cX1_init 0 = .ok (.aload_n 0, 1) := by decide +kernel
theorem dX1_init_1 : decode cX1_init 1 = .ok (.invokespecial 3, 3) := by decide +kernel
theorem dX1_init_4 : decode cX1_init 4 = .ok (.aload_n 0, 1) := by decide +kernel
theorem dX1_init_5 : decode cX1_init 5 = .ok (.bipush 7, 2) := by decide +kernel
theorem dX1_init_7 : decode cX1_init 7 = .ok (.newarray .int, 2) := by decide +kernel
theorem dX1_init_9 : decode cX1_init 9 = .ok (.putfield 9, 3) := by decide +kernel
theorem dX1_init_12 : decode cX1_init 12 = .ok (.aload_n 0, 1) := by decide +kernel
theorem dX1_init_13 : decode cX1_init 13 = .ok (.bipush 7, 2) := by decide +kernel
theorem dX1_init_15 : decode cX1_init 15 = .ok (.newarray .int, 2) := by decide +kernel
theorem dX1_init_17 : decode cX1_init 17 = .ok (.putfield 15, 3) := by decide +kernel
theorem dX1_init_20 : decode cX1_init 20 = .ok (.aload_n 0, 1) := by decide +kernel
theorem dX1_init_21 : decode cX1_init 21 = .ok (.iconst 0, 1) := by decide +kernel
theorem dX1_init_22 : decode cX1_init 22 = .ok (.putfield 18, 3) := by decide +kernel
theorem dX1_init_25 : decode cX1_init 25 = .ok (.aload_n 0, 1) := by decide +kernel
theorem dX1_init_26 : decode cX1_init 26 = .ok (.aload_n 1, 1) := by decide +kernel
theorem dX1_init_27 : decode cX1_init 27 = .ok (.putfield 22, 3) := by decide +kernel
theorem dX1_init_30 : decode cX1_init 30 = .ok (.aload_n 0, 1) := by decide +kernel
theorem dX1_init_31 : decode cX1_init 31 = .ok (.aload_n 2, 1) := by decide +kernel
theorem dX1_init_32 : decode cX1_init 32 = .ok (.putfield 26, 3) := by decide +kernel
theorem dX1_init_35 : decode cX1_init 35 = .ok (.return_, 1) := by decide +kernel
theorem dX1_lineUp_0 : decode cX1_lineUp 0 = .ok (.aload_n 0, 1) := by decide +kernel
theorem dX1_lineUp_1 : decode cX1_lineUp 1 = .ok (.iconst 0, 1) := by decide +kernel
theorem dX1_lineUp_2 : decode cX1_lineUp 2 = .ok (.putfield 18, 3) := by decide +kernel
theorem dX1_lineUp_5 : decode cX1_lineUp 5 = .ok (.iconst 0, 1) := by decide +kernel
theorem dX1_lineUp_6 : decode cX1_lineUp 6 = .ok (.istore_n 3, 1) := by decide +kernel
theorem dX1_lineUp_7 : decode cX1_lineUp 7 = .ok (.iload_n 3, 1) := by decide +kernel
theorem dX1_lineUp_8 : decode cX1_lineUp 8 = .ok (.aload_n 0, 1) := by decide +kernel
theorem dX1_lineUp_9 : decode cX1_lineUp 9 = .ok (.getfield 22, 3) := by decide +kernel
theorem dX1_lineUp_12 : decode cX1_lineUp 12 = .ok (.getfield 97, 3) := by decide +kernel
theorem dX1_lineUp_15 : decode cX1_lineUp 15 = .ok (.if_icmp .ge 120, 3) := by decide +kernel
theorem dX1_lineUp_18 : decode cX1_lineUp 18 = .ok (.aload_n 0, 1) := by decide +kernel
theorem dX1_lineUp_19 : decode cX1_lineUp 19 = .ok (.getfield 22, 3) := by decide +kernel
theorem dX1_lineUp_22 : decode cX1_lineUp 22 = .ok (.getfield 79, 3) := by decide +kernel
theorem dX1_lineUp_25 : decode cX1_lineUp 25 = .ok (.iload_n 3, 1) := by decide +kernel
theorem dX1_lineUp_26 : decode cX1_lineUp 26 = .ok (.invokevirtual 100, 3) := by decide +kernel
theorem dX1_lineUp_29 : decode cX1_lineUp 29 = .ok (.ifCond .eq 100, 3) := by decide +kernel
theorem dX1_lineUp_32 : decode cX1_lineUp 32 = .ok (.aload_n 0, 1) := by decide +kernel
theorem dX1_lineUp_33 : decode cX1_lineUp 33 = .ok (.aload_n 1, 1) := by decide +kernel
theorem dX1_lineUp_34 : decode cX1_lineUp 34 = .ok (.iload_n 3, 1) := by decide +kernel
theorem dX1_lineUp_35 : decode cX1_lineUp 35 = .ok (.iload_n 2, 1) := by decide +kernel
theorem dX1_lineUp_36 : decode cX1_lineUp 36 = .ok (.invokevirtual 103, 3) := by decide +kernel
theorem dX1_lineUp_39 : decode cX1_lineUp 39 = .ok (.ifCond .ne 90, 3) := by decide +kernel
theorem dX1_lineUp_42 : decode cX1_lineUp 42 = .ok (.aload_n 0, 1) := by decide +kernel
theorem dX1_lineUp_43 : decode cX1_lineUp 43 = .ok (.getfield 15, 3) := by decide +kernel
theorem dX1_lineUp_46 : decode cX1_lineUp 46 = .ok (.iload_n 3, 1) := by decide +kernel
theorem dX1_lineUp_47 : decode cX1_lineUp 47 = .ok (.aload_n 0, 1) := by decide +kernel
theorem dX1_lineUp_48 : decode cX1_lineUp 48 = .ok (.aload_n 1, 1) := by decide +kernel
theorem dX1_lineUp_49 : decode cX1_lineUp 49 = .ok (.iload_n 3, 1) := by decide +kernel
theorem dX1_lineUp_50 : decode cX1_lineUp 50 = .ok (.iload_n 2, 1) := by decide +kernel
theorem dX1_lineUp_51 : decode cX1_lineUp 51 = .ok (.invokevirtual 107, 3) := by decide +kernel
theorem dX1_lineUp_54 : decode cX1_lineUp 54 = .ok (.iastore, 1) := by decide +kernel
theorem dX1_lineUp_55 : decode cX1_lineUp 55 = .ok (.aload_n 0, 1) := by decide +kernel
theorem dX1_lineUp_56 : decode cX1_lineUp 56 = .ok (.getfield 18, 3) := by decide +kernel
theorem dX1_lineUp_59 : decode cX1_lineUp 59 = .ok (.istore 4, 2) := by decide +kernel
theorem dX1_lineUp_61 : decode cX1_lineUp 61 = .ok (.iload 4, 2) := by decide +kernel
theorem dX1_lineUp_63 : decode cX1_lineUp 63 = .ok (.ifCond .le 48, 3) := by decide +kernel
theorem dX1_lineUp_66 : decode cX1_lineUp 66 = .ok (.aload_n 0, 1) := by decide +kernel
theorem dX1_lineUp_67 : decode cX1_lineUp 67 = .ok (.getfield 15, 3) := by decide +kernel
theorem dX1_lineUp_70 : decode cX1_lineUp 70 = .ok (.aload_n 0, 1) := by decide +kernel
theorem dX1_lineUp_71 : decode cX1_lineUp 71 = .ok (.getfield 9, 3) := by decide +kernel
theorem dX1_lineUp_74 : decode cX1_lineUp 74 = .ok (.iload 4, 2) := by decide +kernel
theorem dX1_lineUp_76 : decode cX1_lineUp 76 = .ok (.iconst 1, 1) := by decide +kernel
theorem dX1_lineUp_77 : decode cX1_lineUp 77 = .ok (.isub, 1) := by decide +kernel
theorem dX1_lineUp_78 : decode cX1_lineUp 78 = .ok (.iaload, 1) := by decide +kernel
theorem dX1_lineUp_79 : decode cX1_lineUp 79 = .ok (.iaload, 1) := by decide +kernel
theorem dX1_lineUp_80 : decode cX1_lineUp 80 = .ok (.aload_n 0, 1) := by decide +kernel
theorem dX1_lineUp_81 : decode cX1_lineUp 81 = .ok (.getfield 15, 3) := by decide +kernel
theorem dX1_lineUp_84 : decode cX1_lineUp 84 = .ok (.iload_n 3, 1) := by decide +kernel
theorem dX1_lineUp_85 : decode cX1_lineUp 85 = .ok (.iaload, 1) := by decide +kernel
theorem dX1_lineUp_86 : decode cX1_lineUp 86 = .ok (.if_icmp .ge 25, 3) := by decide +kernel
theorem dX1_lineUp_89 : decode cX1_lineUp 89 = .ok (.aload_n 0, 1) := by decide +kernel
theorem dX1_lineUp_90 : decode cX1_lineUp 90 = .ok (.getfield 9, 3) := by decide +kernel
theorem dX1_lineUp_93 : decode cX1_lineUp 93 = .ok (.iload 4, 2) := by decide +kernel
theorem dX1_lineUp_95 : decode cX1_lineUp 95 = .ok (.aload_n 0, 1) := by decide +kernel
theorem dX1_lineUp_96 : decode cX1_lineUp 96 = .ok (.getfield 9, 3) := by decide +kernel
theorem dX1_lineUp_99 : decode cX1_lineUp 99 = .ok (.iload 4, 2) := by decide +kernel
theorem dX1_lineUp_101 : decode cX1_lineUp 101 = .ok (.iconst 1, 1) := by decide +kernel
theorem dX1_lineUp_102 : decode cX1_lineUp 102 = .ok (.isub, 1) := by decide +kernel
theorem dX1_lineUp_103 : decode cX1_lineUp 103 = .ok (.iaload, 1) := by decide +kernel
theorem dX1_lineUp_104 : decode cX1_lineUp 104 = .ok (.iastore, 1) := by decide +kernel
theorem dX1_lineUp_105 : decode cX1_lineUp 105 = .ok (.iinc 4 (-1), 3) := by decide +kernel
theorem dX1_lineUp_108 : decode cX1_lineUp 108 = .ok (.goto (-47), 3) := by decide +kernel
theorem dX1_lineUp_111 : decode cX1_lineUp 111 = .ok (.aload_n 0, 1) := by decide +kernel
theorem dX1_lineUp_112 : decode cX1_lineUp 112 = .ok (.getfield 9, 3) := by decide +kernel
theorem dX1_lineUp_115 : decode cX1_lineUp 115 = .ok (.iload 4, 2) := by decide +kernel
theorem dX1_lineUp_117 : decode cX1_lineUp 117 = .ok (.iload_n 3, 1) := by decide +kernel
theorem dX1_lineUp_118 : decode cX1_lineUp 118 = .ok (.iastore, 1) := by decide +kernel
theorem dX1_lineUp_119 : decode cX1_lineUp 119 = .ok (.aload_n 0, 1) := by decide +kernel
theorem dX1_lineUp_120 : decode cX1_lineUp 120 = .ok (.dup, 1) := by decide +kernel
theorem dX1_lineUp_121 : decode cX1_lineUp 121 = .ok (.getfield 18, 3) := by decide +kernel
theorem dX1_lineUp_124 : decode cX1_lineUp 124 = .ok (.iconst 1, 1) := by decide +kernel
theorem dX1_lineUp_125 : decode cX1_lineUp 125 = .ok (.iadd, 1) := by decide +kernel
theorem dX1_lineUp_126 : decode cX1_lineUp 126 = .ok (.putfield 18, 3) := by decide +kernel
theorem dX1_lineUp_129 : decode cX1_lineUp 129 = .ok (.iinc 3 1, 3) := by decide +kernel
theorem dX1_lineUp_132 : decode cX1_lineUp 132 = .ok (.goto (-125), 3) := by decide +kernel
theorem dX1_lineUp_135 : decode cX1_lineUp 135 = .ok (.aload_n 0, 1) := by decide +kernel
theorem dX1_lineUp_136 : decode cX1_lineUp 136 = .ok (.getfield 18, 3) := by decide +kernel
theorem dX1_lineUp_139 : decode cX1_lineUp 139 = .ok (.ireturn, 1) := by decide +kernel
theorem dX1_moved_0 : decode cX1_moved 0 = .ok (.iconst 0, 1) := by decide +kernel
theorem dX1_moved_1 : decode cX1_moved 1 = .ok (.istore 4, 2) := by decide +kernel
theorem dX1_moved_3 : decode cX1_moved 3 = .ok (.iload_n 1, 1) := by decide +kernel
theorem dX1_moved_4 : decode cX1_moved 4 = .ok (.ifCond .ne 40, 3) := by decide +kernel
theorem dX1_moved_7 : decode cX1_moved 7 = .ok (.iload_n 2, 1) := by decide +kernel
theorem dX1_moved_8 : decode cX1_moved 8 = .ok (.invokestatic 36, 3) := by decide +kernel
theorem dX1_moved_11 : decode cX1_moved 11 = .ok (.ifCond .ne 7, 3) := by decide +kernel
theorem dX1_moved_14 : decode cX1_moved 14 = .ok (.iconst (-1), 1) := by decide +kernel
theorem dX1_moved_15 : decode cX1_moved 15 = .ok (.goto 24, 3) := by decide +kernel
theorem dX1_moved_18 : decode cX1_moved 18 = .ok (.aload_n 0, 1) := by decide +kernel
theorem dX1_moved_19 : decode cX1_moved 19 = .ok (.aload_n 0, 1) := by decide +kernel
theorem dX1_moved_20 : decode cX1_moved 20 = .ok (.getfield 22, 3) := by decide +kernel
theorem dX1_moved_23 : decode cX1_moved 23 = .ok (.invokevirtual 111, 3) := by decide +kernel
theorem dX1_moved_26 : decode cX1_moved 26 = .ok (.iload_n 2, 1) := by decide +kernel
theorem dX1_moved_27 : decode cX1_moved 27 = .ok (.invokevirtual 115, 3) := by decide +kernel
theorem dX1_moved_30 : decode cX1_moved 30 = .ok (.ifCond .ne 8, 3) := by decide +kernel
theorem dX1_moved_33 : decode cX1_moved 33 = .ok (.bipush (-3), 2) := by decide +kernel
theorem dX1_moved_35 : decode cX1_moved 35 = .ok (.goto 4, 3) := by decide +kernel
theorem dX1_moved_38 : decode cX1_moved 38 = .ok (.iconst 0, 1) := by decide +kernel
theorem dX1_moved_39 : decode cX1_moved 39 = .ok (.istore 4, 2) := by decide +kernel
theorem dX1_moved_41 : decode cX1_moved 41 = .ok (.goto 77, 3) := by decide +kernel
theorem dX1_moved_44 : decode cX1_moved 44 = .ok (.iload_n 1, 1) := by decide +kernel
theorem dX1_moved_45 : decode cX1_moved 45 = .ok (.iconst 3, 1) := by decide +kernel
theorem dX1_moved_46 : decode cX1_moved 46 = .ok (.if_icmp .ne 30, 3) := by decide +kernel
theorem dX1_moved_49 : decode cX1_moved 49 = .ok (.aload_n 0, 1) := by decide +kernel
theorem dX1_moved_50 : decode cX1_moved 50 = .ok (.getfield 22, 3) := by decide +kernel
theorem dX1_moved_53 : decode cX1_moved 53 = .ok (.getfield 79, 3) := by decide +kernel
theorem dX1_moved_56 : decode cX1_moved 56 = .ok (.getfield 119, 3) := by decide +kernel
theorem dX1_moved_59 : decode cX1_moved 59 = .ok (.sipush 999, 3) := by decide +kernel
theorem dX1_moved_62 : decode cX1_moved 62 = .ok (.if_icmp .lt 8, 3) := by decide +kernel
theorem dX1_moved_65 : decode cX1_moved 65 = .ok (.bipush (-3), 2) := by decide +kernel
theorem dX1_moved_67 : decode cX1_moved 67 = .ok (.goto 4, 3) := by decide +kernel
theorem dX1_moved_70 : decode cX1_moved 70 = .ok (.iconst 0, 1) := by decide +kernel
theorem dX1_moved_71 : decode cX1_moved 71 = .ok (.istore 4, 2) := by decide +kernel
theorem dX1_moved_73 : decode cX1_moved 73 = .ok (.goto 45, 3) := by decide +kernel
theorem dX1_moved_76 : decode cX1_moved 76 = .ok (.aload_n 0, 1) := by decide +kernel
theorem dX1_moved_77 : decode cX1_moved 77 = .ok (.getfield 22, 3) := by decide +kernel
theorem dX1_moved_80 : decode cX1_moved 80 = .ok (.iload_n 2, 1) := by decide +kernel
theorem dX1_moved_81 : decode cX1_moved 81 = .ok (.invokevirtual 30, 3) := by decide +kernel
theorem dX1_moved_84 : decode cX1_moved 84 = .ok (.ifCond .ne 8, 3) := by decide +kernel
theorem dX1_moved_87 : decode cX1_moved 87 = .ok (.bipush (-2), 2) := by decide +kernel
theorem dX1_moved_89 : decode cX1_moved 89 = .ok (.goto 27, 3) := by decide +kernel
theorem dX1_moved_92 : decode cX1_moved 92 = .ok (.iload_n 1, 1) := by decide +kernel
theorem dX1_moved_93 : decode cX1_moved 93 = .ok (.iconst 2, 1) := by decide +kernel
theorem dX1_moved_94 : decode cX1_moved 94 = .ok (.if_icmp .ne 21, 3) := by decide +kernel
theorem dX1_moved_97 : decode cX1_moved 97 = .ok (.aload_n 0, 1) := by decide +kernel
theorem dX1_moved_98 : decode cX1_moved 98 = .ok (.getfield 22, 3) := by decide +kernel
theorem dX1_moved_101 : decode cX1_moved 101 = .ok (.getfield 79, 3) := by decide +kernel
theorem dX1_moved_104 : decode cX1_moved 104 = .ok (.getfield 122, 3) := by decide +kernel
theorem dX1_moved_107 : decode cX1_moved 107 = .ok (.ifCond .ne 8, 3) := by decide +kernel
theorem dX1_moved_110 : decode cX1_moved 110 = .ok (.bipush (-3), 2) := by decide +kernel
theorem dX1_moved_112 : decode cX1_moved 112 = .ok (.goto 4, 3) := by decide +kernel
theorem dX1_moved_115 : decode cX1_moved 115 = .ok (.iconst 0, 1) := by decide +kernel
theorem dX1_moved_116 : decode cX1_moved 116 = .ok (.istore 4, 2) := by decide +kernel
theorem dX1_moved_118 : decode cX1_moved 118 = .ok (.iload 4, 2) := by decide +kernel
theorem dX1_moved_120 : decode cX1_moved 120 = .ok (.ifCond .eq 6, 3) := by decide +kernel
theorem dX1_moved_123 : decode cX1_moved 123 = .ok (.iload 4, 2) := by decide +kernel
theorem dX1_moved_125 : decode cX1_moved 125 = .ok (.ireturn, 1) := by decide +kernel
theorem dX1_moved_126 : decode cX1_moved 126 = .ok (.aload_n 3, 1) := by decide +kernel
theorem dX1_moved_127 : decode cX1_moved 127 = .ok (.ifnull 15, 3) := by decide +kernel
theorem dX1_moved_130 : decode cX1_moved 130 = .ok (.aload_n 3, 1) := by decide +kernel
theorem dX1_moved_131 : decode cX1_moved 131 = .ok (.iload_n 1, 1) := by decide +kernel
theorem dX1_moved_132 : decode cX1_moved 132 = .ok (.aload_n 0, 1) := by decide +kernel
theorem dX1_moved_133 : decode cX1_moved 133 = .ok (.getfield 22, 3) := by decide +kernel
theorem dX1_moved_136 : decode cX1_moved 136 = .ok (.getfield 79, 3) := by decide +kernel
theorem dX1_moved_139 : decode cX1_moved 139 = .ok (.invokevirtual 125, 3) := by decide +kernel
theorem dX1_moved_142 : decode cX1_moved 142 = .ok (.iload_n 1, 1) := by decide +kernel
theorem dX1_moved_143 : decode cX1_moved 143 = .ok (.tableswitch 43 0 2 #[25, 31, 37], 25) := by decide +kernel
theorem dX1_moved_168 : decode cX1_moved 168 = .ok (.aload_n 0, 1) := by decide +kernel
theorem dX1_moved_169 : decode cX1_moved 169 = .ok (.iload_n 2, 1) := by decide +kernel
theorem dX1_moved_170 : decode cX1_moved 170 = .ok (.invokevirtual 131, 3) := by decide +kernel
theorem dX1_moved_173 : decode cX1_moved 173 = .ok (.ireturn, 1) := by decide +kernel
theorem dX1_moved_174 : decode cX1_moved 174 = .ok (.aload_n 0, 1) := by decide +kernel
theorem dX1_moved_175 : decode cX1_moved 175 = .ok (.iload_n 2, 1) := by decide +kernel
theorem dX1_moved_176 : decode cX1_moved 176 = .ok (.invokevirtual 135, 3) := by decide +kernel
theorem dX1_moved_179 : decode cX1_moved 179 = .ok (.ireturn, 1) := by decide +kernel
theorem dX1_moved_180 : decode cX1_moved 180 = .ok (.aload_n 0, 1) := by decide +kernel
theorem dX1_moved_181 : decode cX1_moved 181 = .ok (.iload_n 2, 1) := by decide +kernel
theorem dX1_moved_182 : decode cX1_moved 182 = .ok (.invokevirtual 138, 3) := by decide +kernel
theorem dX1_moved_185 : decode cX1_moved 185 = .ok (.ireturn, 1) := by decide +kernel
theorem dX1_moved_186 : decode cX1_moved 186 = .ok (.aload_n 0, 1) := by decide +kernel
theorem dX1_moved_187 : decode cX1_moved 187 = .ok (.invokevirtual 141, 3) := by decide +kernel
theorem dX1_moved_190 : decode cX1_moved 190 = .ok (.ireturn, 1) := by decide +kernel
theorem dX1_passedYear_0 : decode cX1_passedYear 0 = .ok (.aload_n 0, 1) := by decide +kernel
theorem dX1_passedYear_1 : decode cX1_passedYear 1 = .ok (.getfield 22, 3) := by decide +kernel
theorem dX1_passedYear_4 : decode cX1_passedYear 4 = .ok (.invokevirtual 111, 3) := by decide +kernel
theorem dX1_passedYear_7 : decode cX1_passedYear 7 = .ok (.astore_n 1, 1) := by decide +kernel
theorem dX1_passedYear_8 : decode cX1_passedYear 8 = .ok (.iconst 0, 1) := by decide +kernel
theorem dX1_passedYear_9 : decode cX1_passedYear 9 = .ok (.istore_n 2, 1) := by decide +kernel
theorem dX1_passedYear_10 : decode cX1_passedYear 10 = .ok (.iconst 0, 1) := by decide +kernel
theorem dX1_passedYear_11 : decode cX1_passedYear 11 = .ok (.istore_n 3, 1) := by decide +kernel
theorem dX1_passedYear_12 : decode cX1_passedYear 12 = .ok (.iload_n 3, 1) := by decide +kernel
theorem dX1_passedYear_13 : decode cX1_passedYear 13 = .ok (.aload_n 0, 1) := by decide +kernel
theorem dX1_passedYear_14 : decode cX1_passedYear 14 = .ok (.getfield 22, 3) := by decide +kernel
theorem dX1_passedYear_17 : decode cX1_passedYear 17 = .ok (.getfield 97, 3) := by decide +kernel
theorem dX1_passedYear_20 : decode cX1_passedYear 20 = .ok (.if_icmp .ge 39, 3) := by decide +kernel
theorem dX1_passedYear_23 : decode cX1_passedYear 23 = .ok (.aload_n 0, 1) := by decide +kernel
theorem dX1_passedYear_24 : decode cX1_passedYear 24 = .ok (.iload_n 3, 1) := by decide +kernel
theorem dX1_passedYear_25 : decode cX1_passedYear 25 = .ok (.invokevirtual 165, 3) := by decide +kernel
theorem dX1_passedYear_28 : decode cX1_passedYear 28 = .ok (.ifCond .eq 25, 3) := by decide +kernel
theorem dX1_passedYear_31 : decode cX1_passedYear 31 = .ok (.aload_n 0, 1) := by decide +kernel
theorem dX1_passedYear_32 : decode cX1_passedYear 32 = .ok (.getfield 22, 3) := by decide +kernel
theorem dX1_passedYear_35 : decode cX1_passedYear 35 = .ok (.getfield 79, 3) := by decide +kernel
theorem dX1_passedYear_38 : decode cX1_passedYear 38 = .ok (.getfield 83, 3) := by decide +kernel
theorem dX1_passedYear_41 : decode cX1_passedYear 41 = .ok (.iload_n 3, 1) := by decide +kernel
theorem dX1_passedYear_42 : decode cX1_passedYear 42 = .ok (.aload_n 0, 1) := by decide +kernel
theorem dX1_passedYear_43 : decode cX1_passedYear 43 = .ok (.aload_n 1, 1) := by decide +kernel
theorem dX1_passedYear_44 : decode cX1_passedYear 44 = .ok (.iload_n 3, 1) := by decide +kernel
theorem dX1_passedYear_45 : decode cX1_passedYear 45 = .ok (.iconst 0, 1) := by decide +kernel
theorem dX1_passedYear_46 : decode cX1_passedYear 46 = .ok (.invokevirtual 152, 3) := by decide +kernel
theorem dX1_passedYear_49 : decode cX1_passedYear 49 = .ok (.iastore, 1) := by decide +kernel
theorem dX1_passedYear_50 : decode cX1_passedYear 50 = .ok (.iinc 2 1, 3) := by decide +kernel
theorem dX1_passedYear_53 : decode cX1_passedYear 53 = .ok (.iinc 3 1, 3) := by decide +kernel
theorem dX1_passedYear_56 : decode cX1_passedYear 56 = .ok (.goto (-44), 3) := by decide +kernel
theorem dX1_passedYear_59 : decode cX1_passedYear 59 = .ok (.aload_n 0, 1) := by decide +kernel
theorem dX1_passedYear_60 : decode cX1_passedYear 60 = .ok (.getfield 22, 3) := by decide +kernel
theorem dX1_passedYear_63 : decode cX1_passedYear 63 = .ok (.getfield 79, 3) := by decide +kernel
theorem dX1_passedYear_66 : decode cX1_passedYear 66 = .ok (.dup, 1) := by decide +kernel
theorem dX1_passedYear_67 : decode cX1_passedYear 67 = .ok (.getfield 119, 3) := by decide +kernel
theorem dX1_passedYear_70 : decode cX1_passedYear 70 = .ok (.iconst 1, 1) := by decide +kernel
theorem dX1_passedYear_71 : decode cX1_passedYear 71 = .ok (.iadd, 1) := by decide +kernel
theorem dX1_passedYear_72 : decode cX1_passedYear 72 = .ok (.putfield 119, 3) := by decide +kernel
theorem dX1_passedYear_75 : decode cX1_passedYear 75 = .ok (.iload_n 2, 1) := by decide +kernel
theorem dX1_passedYear_76 : decode cX1_passedYear 76 = .ok (.ireturn, 1) := by decide +kernel
theorem dX2_addPerson_0 : decode cX2_addPerson 0 = .ok (.aload_n 0, 1) := by decide +kernel
theorem dX2_addPerson_1 : decode cX2_addPerson 1 = .ok (.getfield 40, 3) := by decide +kernel
theorem dX2_addPerson_4 : decode cX2_addPerson 4 = .ok (.bipush 7, 2) := by decide +kernel
theorem dX2_addPerson_6 : decode cX2_addPerson 6 = .ok (.if_icmp .lt 5, 3) := by decide +kernel
theorem dX2_addPerson_9 : decode cX2_addPerson 9 = .ok (.iconst (-1), 1) := by decide +kernel
theorem dX2_addPerson_10 : decode cX2_addPerson 10 = .ok (.ireturn, 1) := by decide +kernel
theorem dX2_addPerson_11 : decode cX2_addPerson 11 = .ok (.aload_n 0, 1) := by decide +kernel
theorem dX2_addPerson_12 : decode cX2_addPerson 12 = .ok (.getfield 12, 3) := by decide +kernel
theorem dX2_addPerson_15 : decode cX2_addPerson 15 = .ok (.getfield 77, 3) := by decide +kernel
theorem dX2_addPerson_18 : decode cX2_addPerson 18 = .ok (.aload_n 0, 1) := by decide +kernel
theorem dX2_addPerson_19 : decode cX2_addPerson 19 = .ok (.getfield 40, 3) := by decide +kernel
theorem dX2_addPerson_22 : decode cX2_addPerson 22 = .ok (.iload_n 1, 1) := by decide +kernel
theorem dX2_addPerson_23 : decode cX2_addPerson 23 = .ok (.iastore, 1) := by decide +kernel
theorem dX2_addPerson_24 : decode cX2_addPerson 24 = .ok (.aload_n 0, 1) := by decide +kernel
theorem dX2_addPerson_25 : decode cX2_addPerson 25 = .ok (.getfield 18, 3) := by decide +kernel
theorem dX2_addPerson_28 : decode cX2_addPerson 28 = .ok (.aload_n 0, 1) := by decide +kernel
theorem dX2_addPerson_29 : decode cX2_addPerson 29 = .ok (.getfield 40, 3) := by decide +kernel
theorem dX2_addPerson_32 : decode cX2_addPerson 32 = .ok (.iload_n 2, 1) := by decide +kernel
theorem dX2_addPerson_33 : decode cX2_addPerson 33 = .ok (.iastore, 1) := by decide +kernel
theorem dX2_addPerson_34 : decode cX2_addPerson 34 = .ok (.aload_n 0, 1) := by decide +kernel
theorem dX2_addPerson_35 : decode cX2_addPerson 35 = .ok (.dup, 1) := by decide +kernel
theorem dX2_addPerson_36 : decode cX2_addPerson 36 = .ok (.getfield 40, 3) := by decide +kernel
theorem dX2_addPerson_39 : decode cX2_addPerson 39 = .ok (.iconst 1, 1) := by decide +kernel
theorem dX2_addPerson_40 : decode cX2_addPerson 40 = .ok (.iadd, 1) := by decide +kernel
theorem dX2_addPerson_41 : decode cX2_addPerson 41 = .ok (.putfield 40, 3) := by decide +kernel
theorem dX2_addPerson_44 : decode cX2_addPerson 44 = .ok (.aload_n 0, 1) := by decide +kernel
theorem dX2_addPerson_45 : decode cX2_addPerson 45 = .ok (.getfield 40, 3) := by decide +kernel
theorem dX2_addPerson_48 : decode cX2_addPerson 48 = .ok (.iconst 1, 1) := by decide +kernel
theorem dX2_addPerson_49 : decode cX2_addPerson 49 = .ok (.isub, 1) := by decide +kernel
theorem dX2_addPerson_50 : decode cX2_addPerson 50 = .ok (.ireturn, 1) := by decide +kernel
theorem dX2_addSeen_0 : decode cX2_addSeen 0 = .ok (.aload_n 0, 1) := by decide +kernel
theorem dX2_addSeen_1 : decode cX2_addSeen 1 = .ok (.getfield 44, 3) := by decide +kernel
theorem dX2_addSeen_4 : decode cX2_addSeen 4 = .ok (.bipush 6, 2) := by decide +kernel
theorem dX2_addSeen_6 : decode cX2_addSeen 6 = .ok (.if_icmp .ge 33, 3) := by decide +kernel
theorem dX2_addSeen_9 : decode cX2_addSeen 9 = .ok (.aload_n 0, 1) := by decide +kernel
theorem dX2_addSeen_10 : decode cX2_addSeen 10 = .ok (.getfield 28, 3) := by decide +kernel
theorem dX2_addSeen_13 : decode cX2_addSeen 13 = .ok (.aload_n 0, 1) := by decide +kernel
theorem dX2_addSeen_14 : decode cX2_addSeen 14 = .ok (.getfield 44, 3) := by decide +kernel
theorem dX2_addSeen_17 : decode cX2_addSeen 17 = .ok (.iload_n 1, 1) := by decide +kernel
theorem dX2_addSeen_18 : decode cX2_addSeen 18 = .ok (.iastore, 1) := by decide +kernel
theorem dX2_addSeen_19 : decode cX2_addSeen 19 = .ok (.aload_n 0, 1) := by decide +kernel
theorem dX2_addSeen_20 : decode cX2_addSeen 20 = .ok (.getfield 31, 3) := by decide +kernel
theorem dX2_addSeen_23 : decode cX2_addSeen 23 = .ok (.aload_n 0, 1) := by decide +kernel
theorem dX2_addSeen_24 : decode cX2_addSeen 24 = .ok (.getfield 44, 3) := by decide +kernel
theorem dX2_addSeen_27 : decode cX2_addSeen 27 = .ok (.iload_n 2, 1) := by decide +kernel
theorem dX2_addSeen_28 : decode cX2_addSeen 28 = .ok (.iastore, 1) := by decide +kernel
theorem dX2_addSeen_29 : decode cX2_addSeen 29 = .ok (.aload_n 0, 1) := by decide +kernel
theorem dX2_addSeen_30 : decode cX2_addSeen 30 = .ok (.dup, 1) := by decide +kernel
theorem dX2_addSeen_31 : decode cX2_addSeen 31 = .ok (.getfield 44, 3) := by decide +kernel
theorem dX2_addSeen_34 : decode cX2_addSeen 34 = .ok (.iconst 1, 1) := by decide +kernel
theorem dX2_addSeen_35 : decode cX2_addSeen 35 = .ok (.iadd, 1) := by decide +kernel
theorem dX2_addSeen_36 : decode cX2_addSeen 36 = .ok (.putfield 44, 3) := by decide +kernel
theorem dX2_addSeen_39 : decode cX2_addSeen 39 = .ok (.aload_n 0, 1) := by decide +kernel
theorem dX2_addSeen_40 : decode cX2_addSeen 40 = .ok (.getfield 44, 3) := by decide +kernel
theorem dX2_addSeen_43 : decode cX2_addSeen 43 = .ok (.ireturn, 1) := by decide +kernel
theorem dX2_allPrizes_0 : decode cX2_allPrizes 0 = .ok (.iconst 0, 1) := by decide +kernel
theorem dX2_allPrizes_1 : decode cX2_allPrizes 1 = .ok (.istore_n 1, 1) := by decide +kernel
theorem dX2_allPrizes_2 : decode cX2_allPrizes 2 = .ok (.iconst 0, 1) := by decide +kernel
theorem dX2_allPrizes_3 : decode cX2_allPrizes 3 = .ok (.istore_n 2, 1) := by decide +kernel
theorem dX2_allPrizes_4 : decode cX2_allPrizes 4 = .ok (.iload_n 2, 1) := by decide +kernel
theorem dX2_allPrizes_5 : decode cX2_allPrizes 5 = .ok (.aload_n 0, 1) := by decide +kernel
theorem dX2_allPrizes_6 : decode cX2_allPrizes 6 = .ok (.getfield 40, 3) := by decide +kernel
theorem dX2_allPrizes_9 : decode cX2_allPrizes 9 = .ok (.if_icmp .ge 21, 3) := by decide +kernel
theorem dX2_allPrizes_12 : decode cX2_allPrizes 12 = .ok (.iload_n 1, 1) := by decide +kernel
theorem dX2_allPrizes_13 : decode cX2_allPrizes 13 = .ok (.aload_n 0, 1) := by decide +kernel
theorem dX2_allPrizes_14 : decode cX2_allPrizes 14 = .ok (.getfield 12, 3) := by decide +kernel
theorem dX2_allPrizes_17 : decode cX2_allPrizes 17 = .ok (.getfield 83, 3) := by decide +kernel
theorem dX2_allPrizes_20 : decode cX2_allPrizes 20 = .ok (.iload_n 2, 1) := by decide +kernel
theorem dX2_allPrizes_21 : decode cX2_allPrizes 21 = .ok (.iaload, 1) := by decide +kernel
theorem dX2_allPrizes_22 : decode cX2_allPrizes 22 = .ok (.iadd, 1) := by decide +kernel
theorem dX2_allPrizes_23 : decode cX2_allPrizes 23 = .ok (.istore_n 1, 1) := by decide +kernel
theorem dX2_allPrizes_24 : decode cX2_allPrizes 24 = .ok (.iinc 2 1, 3) := by decide +kernel
theorem dX2_allPrizes_27 : decode cX2_allPrizes 27 = .ok (.goto (-23), 3) := by decide +kernel
theorem dX2_allPrizes_30 : decode cX2_allPrizes 30 = .ok (.iload_n 1, 1) := by decide +kernel
theorem dX2_allPrizes_31 : decode cX2_allPrizes 31 = .ok (.ireturn, 1) := by decide +kernel
theorem dX2_init_0 : decode cX2_init 0 = .ok (.aload_n 0, 1) := by decide +kernel
theorem dX2_init_1 : decode cX2_init 1 = .ok (.invokespecial 3, 3) := by decide +kernel
theorem dX2_init_4 : decode cX2_init 4 = .ok (.aload_n 0, 1) := by decide +kernel
theorem dX2_init_5 : decode cX2_init 5 = .ok (.new 9, 3) := by decide +kernel
theorem dX2_init_8 : decode cX2_init 8 = .ok (.dup, 1) := by decide +kernel
theorem dX2_init_9 : decode cX2_init 9 = .ok (.invokespecial 11, 3) := by decide +kernel
theorem dX2_init_12 : decode cX2_init 12 = .ok (.putfield 12, 3) := by decide +kernel
theorem dX2_init_15 : decode cX2_init 15 = .ok (.aload_n 0, 1) := by decide +kernel
theorem dX2_init_16 : decode cX2_init 16 = .ok (.bipush 7, 2) := by decide +kernel
theorem dX2_init_18 : decode cX2_init 18 = .ok (.newarray .int, 2) := by decide +kernel
theorem dX2_init_20 : decode cX2_init 20 = .ok (.putfield 18, 3) := by decide +kernel
theorem dX2_init_23 : decode cX2_init 23 = .ok (.aload_n 0, 1) := by decide +kernel
theorem dX2_init_24 : decode cX2_init 24 = .ok (.bipush 28, 2) := by decide +kernel
theorem dX2_init_26 : decode cX2_init 26 = .ok (.newarray .int, 2) := by decide +kernel
theorem dX2_init_28 : decode cX2_init 28 = .ok (.putfield 22, 3) := by decide +kernel
theorem dX2_init_31 : decode cX2_init 31 = .ok (.aload_n 0, 1) := by decide +kernel
theorem dX2_init_32 : decode cX2_init 32 = .ok (.bipush 7, 2) := by decide +kernel
theorem dX2_init_34 : decode cX2_init 34 = .ok (.newarray .int, 2) := by decide +kernel
theorem dX2_init_36 : decode cX2_init 36 = .ok (.putfield 25, 3) := by decide +kernel
theorem dX2_init_39 : decode cX2_init 39 = .ok (.aload_n 0, 1) := by decide +kernel
theorem dX2_init_40 : decode cX2_init 40 = .ok (.bipush 6, 2) := by decide +kernel
theorem dX2_init_42 : decode cX2_init 42 = .ok (.newarray .int, 2) := by decide +kernel
theorem dX2_init_44 : decode cX2_init 44 = .ok (.putfield 28, 3) := by decide +kernel
theorem dX2_init_47 : decode cX2_init 47 = .ok (.aload_n 0, 1) := by decide +kernel
theorem dX2_init_48 : decode cX2_init 48 = .ok (.bipush 6, 2) := by decide +kernel
theorem dX2_init_50 : decode cX2_init 50 = .ok (.newarray .int, 2) := by decide +kernel
theorem dX2_init_52 : decode cX2_init 52 = .ok (.putfield 31, 3) := by decide +kernel
theorem dX2_init_55 : decode cX2_init 55 = .ok (.aload_n 0, 1) := by decide +kernel
theorem dX2_init_56 : decode cX2_init 56 = .ok (.bipush 6, 2) := by decide +kernel
theorem dX2_init_58 : decode cX2_init 58 = .ok (.anewarray 34, 3) := by decide +kernel
theorem dX2_init_61 : decode cX2_init 61 = .ok (.putfield 36, 3) := by decide +kernel
theorem dX2_init_64 : decode cX2_init 64 = .ok (.aload_n 0, 1) := by decide +kernel
theorem dX2_init_65 : decode cX2_init 65 = .ok (.iconst 0, 1) := by decide +kernel
theorem dX2_init_66 : decode cX2_init 66 = .ok (.putfield 40, 3) := by decide +kernel
theorem dX2_init_69 : decode cX2_init 69 = .ok (.aload_n 0, 1) := by decide +kernel
theorem dX2_init_70 : decode cX2_init 70 = .ok (.iconst 0, 1) := by decide +kernel
theorem dX2_init_71 : decode cX2_init 71 = .ok (.putfield 44, 3) := by decide +kernel
theorem dX2_init_74 : decode cX2_init 74 = .ok (.aload_n 0, 1) := by decide +kernel
theorem dX2_init_75 : decode cX2_init 75 = .ok (.iconst 0, 1) := by decide +kernel
theorem dX2_init_76 : decode cX2_init 76 = .ok (.putfield 47, 3) := by decide +kernel
theorem dX2_init_79 : decode cX2_init 79 = .ok (.aload_n 0, 1) := by decide +kernel
theorem dX2_init_80 : decode cX2_init 80 = .ok (.iconst (-1), 1) := by decide +kernel
theorem dX2_init_81 : decode cX2_init 81 = .ok (.putfield 50, 3) := by decide +kernel
theorem dX2_init_84 : decode cX2_init 84 = .ok (.aload_n 0, 1) := by decide +kernel
theorem dX2_init_85 : decode cX2_init 85 = .ok (.iconst 1, 1) := by decide +kernel
theorem dX2_init_86 : decode cX2_init 86 = .ok (.putfield 53, 3) := by decide +kernel
theorem dX2_init_89 : decode cX2_init 89 = .ok (.aload_n 0, 1) := by decide +kernel
theorem dX2_init_90 : decode cX2_init 90 = .ok (.iconst 0, 1) := by decide +kernel
theorem dX2_init_91 : decode cX2_init 91 = .ok (.putfield 56, 3) := by decide +kernel
theorem dX2_init_94 : decode cX2_init 94 = .ok (.return_, 1) := by decide +kernel
theorem dX2_isLaw_0 : decode cX2_isLaw 0 = .ok (.iload_n 1, 1) := by decide +kernel
theorem dX2_isLaw_1 : decode cX2_isLaw 1 = .ok (.ifCond .lt 15, 3) := by decide +kernel
theorem dX2_isLaw_4 : decode cX2_isLaw 4 = .ok (.iload_n 1, 1) := by decide +kernel
theorem dX2_isLaw_5 : decode cX2_isLaw 5 = .ok (.aload_n 0, 1) := by decide +kernel
theorem dX2_isLaw_6 : decode cX2_isLaw 6 = .ok (.getfield 47, 3) := by decide +kernel
theorem dX2_isLaw_9 : decode cX2_isLaw 9 = .ok (.if_icmp .ge 7, 3) := by decide +kernel
theorem dX2_isLaw_12 : decode cX2_isLaw 12 = .ok (.iconst 1, 1) := by decide +kernel
theorem dX2_isLaw_13 : decode cX2_isLaw 13 = .ok (.goto 4, 3) := by decide +kernel
theorem dX2_isLaw_16 : decode cX2_isLaw 16 = .ok (.iconst 0, 1) := by decide +kernel
theorem dX2_isLaw_17 : decode cX2_isLaw 17 = .ok (.ireturn, 1) := by decide +kernel
theorem dX2_isPerson_0 : decode cX2_isPerson 0 = .ok (.iload_n 1, 1) := by decide +kernel
theorem dX2_isPerson_1 : decode cX2_isPerson 1 = .ok (.ifCond .lt 15, 3) := by decide +kernel
theorem dX2_isPerson_4 : decode cX2_isPerson 4 = .ok (.iload_n 1, 1) := by decide +kernel
theorem dX2_isPerson_5 : decode cX2_isPerson 5 = .ok (.aload_n 0, 1) := by decide +kernel
theorem dX2_isPerson_6 : decode cX2_isPerson 6 = .ok (.getfield 40, 3) := by decide +kernel
theorem dX2_isPerson_9 : decode cX2_isPerson 9 = .ok (.if_icmp .ge 7, 3) := by decide +kernel
theorem dX2_isPerson_12 : decode cX2_isPerson 12 = .ok (.iconst 1, 1) := by decide +kernel
theorem dX2_isPerson_13 : decode cX2_isPerson 13 = .ok (.goto 4, 3) := by decide +kernel
theorem dX2_isPerson_16 : decode cX2_isPerson 16 = .ok (.iconst 0, 1) := by decide +kernel
theorem dX2_isPerson_17 : decode cX2_isPerson 17 = .ok (.ireturn, 1) := by decide +kernel
theorem dX2_lawAt_0 : decode cX2_lawAt 0 = .ok (.aload_n 0, 1) := by decide +kernel
theorem dX2_lawAt_1 : decode cX2_lawAt 1 = .ok (.iload_n 1, 1) := by decide +kernel
theorem dX2_lawAt_2 : decode cX2_lawAt 2 = .ok (.invokevirtual 69, 3) := by decide +kernel
theorem dX2_lawAt_5 : decode cX2_lawAt 5 = .ok (.ifCond .eq 12, 3) := by decide +kernel
theorem dX2_lawAt_8 : decode cX2_lawAt 8 = .ok (.aload_n 0, 1) := by decide +kernel
theorem dX2_lawAt_9 : decode cX2_lawAt 9 = .ok (.getfield 36, 3) := by decide +kernel
theorem dX2_lawAt_12 : decode cX2_lawAt 12 = .ok (.iload_n 1, 1) := by decide +kernel
theorem dX2_lawAt_13 : decode cX2_lawAt 13 = .ok (.aaload, 1) := by decide +kernel
theorem dX2_lawAt_14 : decode cX2_lawAt 14 = .ok (.goto 4, 3) := by decide +kernel
theorem dX2_lawAt_17 : decode cX2_lawAt 17 = .ok (.aconst_null, 1) := by decide +kernel
theorem dX2_lawAt_18 : decode cX2_lawAt 18 = .ok (.areturn, 1) := by decide +kernel
theorem dX2_lawInForce_0 : decode cX2_lawInForce 0 = .ok (.aload_n 0, 1) := by decide +kernel
theorem dX2_lawInForce_1 : decode cX2_lawInForce 1 = .ok (.aload_n 0, 1) := by decide +kernel
theorem dX2_lawInForce_2 : decode cX2_lawInForce 2 = .ok (.getfield 50, 3) := by decide +kernel
theorem dX2_lawInForce_5 : decode cX2_lawInForce 5 = .ok (.invokevirtual 73, 3) := by decide +kernel
theorem dX2_lawInForce_8 : decode cX2_lawInForce 8 = .ok (.areturn, 1) := by decide +kernel
theorem dX2_set_0 : decode cX2_set 0 = .ok (.aload_n 0, 1) := by decide +kernel
theorem dX2_set_1 : decode cX2_set 1 = .ok (.getfield 12, 3) := by decide +kernel
theorem dX2_set_4 : decode cX2_set 4 = .ok (.aload_n 1, 1) := by decide +kernel
theorem dX2_set_5 : decode cX2_set 5 = .ok (.getfield 12, 3) := by decide +kernel
theorem dX2_set_8 : decode cX2_set 8 = .ok (.invokevirtual 59, 3) := by decide +kernel
theorem dX2_set_11 : decode cX2_set 11 = .ok (.aload_n 1, 1) := by decide +kernel
theorem dX2_set_12 : decode cX2_set 12 = .ok (.getfield 18, 3) := by decide +kernel
theorem dX2_set_15 : decode cX2_set 15 = .ok (.iconst 0, 1) := by decide +kernel
theorem dX2_set_16 : decode cX2_set 16 = .ok (.aload_n 0, 1) := by decide +kernel
theorem dX2_set_17 : decode cX2_set 17 = .ok (.getfield 18, 3) := by decide +kernel
theorem dX2_set_20 : decode cX2_set 20 = .ok (.iconst 0, 1) := by decide +kernel
theorem dX2_set_21 : decode cX2_set 21 = .ok (.bipush 7, 2) := by decide +kernel
theorem dX2_set_23 : decode cX2_set 23 = .ok (.invokestatic 63, 3) := by decide +kernel
theorem dX2_set_26 : decode cX2_set 26 = .ok (.aload_n 1, 1) := by decide +kernel
theorem dX2_set_27 : decode cX2_set 27 = .ok (.getfield 22, 3) := by decide +kernel
theorem dX2_set_30 : decode cX2_set 30 = .ok (.iconst 0, 1) := by decide +kernel
theorem dX2_set_31 : decode cX2_set 31 = .ok (.aload_n 0, 1) := by decide +kernel
theorem dX2_set_32 : decode cX2_set 32 = .ok (.getfield 22, 3) := by decide +kernel
theorem dX2_set_35 : decode cX2_set 35 = .ok (.iconst 0, 1) := by decide +kernel
theorem dX2_set_36 : decode cX2_set 36 = .ok (.bipush 28, 2) := by decide +kernel
theorem dX2_set_38 : decode cX2_set 38 = .ok (.invokestatic 63, 3) := by decide +kernel
theorem dX2_set_41 : decode cX2_set 41 = .ok (.aload_n 1, 1) := by decide +kernel
theorem dX2_set_42 : decode cX2_set 42 = .ok (.getfield 25, 3) := by decide +kernel
theorem dX2_set_45 : decode cX2_set 45 = .ok (.iconst 0, 1) := by decide +kernel
theorem dX2_set_46 : decode cX2_set 46 = .ok (.aload_n 0, 1) := by decide +kernel
theorem dX2_set_47 : decode cX2_set 47 = .ok (.getfield 25, 3) := by decide +kernel
theorem dX2_set_50 : decode cX2_set 50 = .ok (.iconst 0, 1) := by decide +kernel
theorem dX2_set_51 : decode cX2_set 51 = .ok (.bipush 7, 2) := by decide +kernel
theorem dX2_set_53 : decode cX2_set 53 = .ok (.invokestatic 63, 3) := by decide +kernel
theorem dX2_set_56 : decode cX2_set 56 = .ok (.aload_n 1, 1) := by decide +kernel
theorem dX2_set_57 : decode cX2_set 57 = .ok (.getfield 28, 3) := by decide +kernel
theorem dX2_set_60 : decode cX2_set 60 = .ok (.iconst 0, 1) := by decide +kernel
theorem dX2_set_61 : decode cX2_set 61 = .ok (.aload_n 0, 1) := by decide +kernel
theorem dX2_set_62 : decode cX2_set 62 = .ok (.getfield 28, 3) := by decide +kernel
theorem dX2_set_65 : decode cX2_set 65 = .ok (.iconst 0, 1) := by decide +kernel
theorem dX2_set_66 : decode cX2_set 66 = .ok (.bipush 6, 2) := by decide +kernel
theorem dX2_set_68 : decode cX2_set 68 = .ok (.invokestatic 63, 3) := by decide +kernel
theorem dX2_set_71 : decode cX2_set 71 = .ok (.aload_n 1, 1) := by decide +kernel
theorem dX2_set_72 : decode cX2_set 72 = .ok (.getfield 31, 3) := by decide +kernel
theorem dX2_set_75 : decode cX2_set 75 = .ok (.iconst 0, 1) := by decide +kernel
theorem dX2_set_76 : decode cX2_set 76 = .ok (.aload_n 0, 1) := by decide +kernel
theorem dX2_set_77 : decode cX2_set 77 = .ok (.getfield 31, 3) := by decide +kernel
theorem dX2_set_80 : decode cX2_set 80 = .ok (.iconst 0, 1) := by decide +kernel
theorem dX2_set_81 : decode cX2_set 81 = .ok (.bipush 6, 2) := by decide +kernel
theorem dX2_set_83 : decode cX2_set 83 = .ok (.invokestatic 63, 3) := by decide +kernel
theorem dX2_set_86 : decode cX2_set 86 = .ok (.iconst 0, 1) := by decide +kernel
theorem dX2_set_87 : decode cX2_set 87 = .ok (.istore_n 2, 1) := by decide +kernel
theorem dX2_set_88 : decode cX2_set 88 = .ok (.iload_n 2, 1) := by decide +kernel
theorem dX2_set_89 : decode cX2_set 89 = .ok (.bipush 6, 2) := by decide +kernel
theorem dX2_set_91 : decode cX2_set 91 = .ok (.if_icmp .ge 21, 3) := by decide +kernel
theorem dX2_set_94 : decode cX2_set 94 = .ok (.aload_n 0, 1) := by decide +kernel
theorem dX2_set_95 : decode cX2_set 95 = .ok (.getfield 36, 3) := by decide +kernel
theorem dX2_set_98 : decode cX2_set 98 = .ok (.iload_n 2, 1) := by decide +kernel
theorem dX2_set_99 : decode cX2_set 99 = .ok (.aload_n 1, 1) := by decide +kernel
theorem dX2_set_100 : decode cX2_set 100 = .ok (.getfield 36, 3) := by decide +kernel
theorem dX2_set_103 : decode cX2_set 103 = .ok (.iload_n 2, 1) := by decide +kernel
theorem dX2_set_104 : decode cX2_set 104 = .ok (.aaload, 1) := by decide +kernel
theorem dX2_set_105 : decode cX2_set 105 = .ok (.aastore, 1) := by decide +kernel
theorem dX2_set_106 : decode cX2_set 106 = .ok (.iinc 2 1, 3) := by decide +kernel
theorem dX2_set_109 : decode cX2_set 109 = .ok (.goto (-21), 3) := by decide +kernel
theorem dX2_set_112 : decode cX2_set 112 = .ok (.aload_n 0, 1) := by decide +kernel
theorem dX2_set_113 : decode cX2_set 113 = .ok (.aload_n 1, 1) := by decide +kernel
theorem dX2_set_114 : decode cX2_set 114 = .ok (.getfield 40, 3) := by decide +kernel
theorem dX2_set_117 : decode cX2_set 117 = .ok (.putfield 40, 3) := by decide +kernel
theorem dX2_set_120 : decode cX2_set 120 = .ok (.aload_n 0, 1) := by decide +kernel
theorem dX2_set_121 : decode cX2_set 121 = .ok (.aload_n 1, 1) := by decide +kernel
theorem dX2_set_122 : decode cX2_set 122 = .ok (.getfield 44, 3) := by decide +kernel
theorem dX2_set_125 : decode cX2_set 125 = .ok (.putfield 44, 3) := by decide +kernel
theorem dX2_set_128 : decode cX2_set 128 = .ok (.aload_n 0, 1) := by decide +kernel
theorem dX2_set_129 : decode cX2_set 129 = .ok (.aload_n 1, 1) := by decide +kernel
theorem dX2_set_130 : decode cX2_set 130 = .ok (.getfield 47, 3) := by decide +kernel
theorem dX2_set_133 : decode cX2_set 133 = .ok (.putfield 47, 3) := by decide +kernel
theorem dX2_set_136 : decode cX2_set 136 = .ok (.aload_n 0, 1) := by decide +kernel
theorem dX2_set_137 : decode cX2_set 137 = .ok (.aload_n 1, 1) := by decide +kernel
theorem dX2_set_138 : decode cX2_set 138 = .ok (.getfield 50, 3) := by decide +kernel
theorem dX2_set_141 : decode cX2_set 141 = .ok (.putfield 50, 3) := by decide +kernel
theorem dX2_set_144 : decode cX2_set 144 = .ok (.aload_n 0, 1) := by decide +kernel
theorem dX2_set_145 : decode cX2_set 145 = .ok (.aload_n 1, 1) := by decide +kernel
theorem dX2_set_146 : decode cX2_set 146 = .ok (.getfield 53, 3) := by decide +kernel
theorem dX2_set_149 : decode cX2_set 149 = .ok (.putfield 53, 3) := by decide +kernel
theorem dX2_set_152 : decode cX2_set 152 = .ok (.aload_n 0, 1) := by decide +kernel
theorem dX2_set_153 : decode cX2_set 153 = .ok (.aload_n 1, 1) := by decide +kernel
theorem dX2_set_154 : decode cX2_set 154 = .ok (.getfield 56, 3) := by decide +kernel
theorem dX2_set_157 : decode cX2_set 157 = .ok (.putfield 56, 3) := by decide +kernel
theorem dX2_set_160 : decode cX2_set 160 = .ok (.return_, 1) := by decide +kernel
theorem dX2_setTerm_0 : decode cX2_setTerm 0 = .ok (.iload_n 1, 1) := by decide +kernel
theorem dX2_setTerm_1 : decode cX2_setTerm 1 = .ok (.ifCond .ne 14, 3) := by decide +kernel
theorem dX2_setTerm_4 : decode cX2_setTerm 4 = .ok (.aload_n 0, 1) := by decide +kernel
theorem dX2_setTerm_5 : decode cX2_setTerm 5 = .ok (.getfield 12, 3) := by decide +kernel
theorem dX2_setTerm_8 : decode cX2_setTerm 8 = .ok (.iload_n 2, 1) := by decide +kernel
theorem dX2_setTerm_9 : decode cX2_setTerm 9 = .ok (.putfield 80, 3) := by decide +kernel
theorem dX2_setTerm_12 : decode cX2_setTerm 12 = .ok (.goto 21, 3) := by decide +kernel
theorem dX2_setTerm_15 : decode cX2_setTerm 15 = .ok (.iload_n 1, 1) := by decide +kernel
theorem dX2_setTerm_16 : decode cX2_setTerm 16 = .ok (.iconst 1, 1) := by decide +kernel
theorem dX2_setTerm_17 : decode cX2_setTerm 17 = .ok (.if_icmp .ne 11, 3) := by decide +kernel
theorem dX2_setTerm_20 : decode cX2_setTerm 20 = .ok (.aload_n 0, 1) := by decide +kernel
theorem dX2_setTerm_21 : decode cX2_setTerm 21 = .ok (.iload_n 2, 1) := by decide +kernel
theorem dX2_setTerm_22 : decode cX2_setTerm 22 = .ok (.putfield 53, 3) := by decide +kernel
theorem dX2_setTerm_25 : decode cX2_setTerm 25 = .ok (.goto 8, 3) := by decide +kernel
theorem dX2_setTerm_28 : decode cX2_setTerm 28 = .ok (.aload_n 0, 1) := by decide +kernel
theorem dX2_setTerm_29 : decode cX2_setTerm 29 = .ok (.iload_n 2, 1) := by decide +kernel
theorem dX2_setTerm_30 : decode cX2_setTerm 30 = .ok (.putfield 56, 3) := by decide +kernel
theorem dX2_setTerm_33 : decode cX2_setTerm 33 = .ok (.return_, 1) := by decide +kernel
theorem dX2_term_0 : decode cX2_term 0 = .ok (.iload_n 1, 1) := by decide +kernel
theorem dX2_term_1 : decode cX2_term 1 = .ok (.ifCond .ne 13, 3) := by decide +kernel
theorem dX2_term_4 : decode cX2_term 4 = .ok (.aload_n 0, 1) := by decide +kernel
theorem dX2_term_5 : decode cX2_term 5 = .ok (.getfield 12, 3) := by decide +kernel
theorem dX2_term_8 : decode cX2_term 8 = .ok (.getfield 80, 3) := by decide +kernel
theorem dX2_term_11 : decode cX2_term 11 = .ok (.goto 19, 3) := by decide +kernel
theorem dX2_term_14 : decode cX2_term 14 = .ok (.iload_n 1, 1) := by decide +kernel
theorem dX2_term_15 : decode cX2_term 15 = .ok (.iconst 1, 1) := by decide +kernel
theorem dX2_term_16 : decode cX2_term 16 = .ok (.if_icmp .ne 10, 3) := by decide +kernel
theorem dX2_term_19 : decode cX2_term 19 = .ok (.aload_n 0, 1) := by decide +kernel
theorem dX2_term_20 : decode cX2_term 20 = .ok (.getfield 53, 3) := by decide +kernel
theorem dX2_term_23 : decode cX2_term 23 = .ok (.goto 7, 3) := by decide +kernel
theorem dX2_term_26 : decode cX2_term 26 = .ok (.aload_n 0, 1) := by decide +kernel
theorem dX2_term_27 : decode cX2_term 27 = .ok (.getfield 56, 3) := by decide +kernel
theorem dX2_term_30 : decode cX2_term 30 = .ok (.ireturn, 1) := by decide +kernel
theorem dX3_init_0 : decode cX3_init 0 = .ok (.aload_n 0, 1) := by decide +kernel
theorem dX3_init_1 : decode cX3_init 1 = .ok (.invokespecial 5, 3) := by decide +kernel
theorem dX3_init_4 : decode cX3_init 4 = .ok (.aload_n 0, 1) := by decide +kernel
theorem dX3_init_5 : decode cX3_init 5 = .ok (.bipush 19, 2) := by decide +kernel
theorem dX3_init_7 : decode cX3_init 7 = .ok (.newarray .int, 2) := by decide +kernel
theorem dX3_init_9 : decode cX3_init 9 = .ok (.putfield 11, 3) := by decide +kernel
theorem dX3_init_12 : decode cX3_init 12 = .ok (.aload_n 0, 1) := by decide +kernel
theorem dX3_init_13 : decode cX3_init 13 = .ok (.bipush 50, 2) := by decide +kernel
theorem dX3_init_15 : decode cX3_init 15 = .ok (.newarray .long, 2) := by decide +kernel
theorem dX3_init_17 : decode cX3_init 17 = .ok (.putfield 17, 3) := by decide +kernel
theorem dX3_init_20 : decode cX3_init 20 = .ok (.return_, 1) := by decide +kernel
theorem dX4_init_0 : decode cX4_init 0 = .ok (.aload_n 0, 1) := by decide +kernel
theorem dX4_init_1 : decode cX4_init 1 = .ok (.invokespecial 3, 3) := by decide +kernel
theorem dX4_init_4 : decode cX4_init 4 = .ok (.aload_n 0, 1) := by decide +kernel
theorem dX4_init_5 : decode cX4_init 5 = .ok (.bipush 7, 2) := by decide +kernel
theorem dX4_init_7 : decode cX4_init 7 = .ok (.newarray .int, 2) := by decide +kernel
theorem dX4_init_9 : decode cX4_init 9 = .ok (.putfield 9, 3) := by decide +kernel
theorem dX4_init_12 : decode cX4_init 12 = .ok (.aload_n 0, 1) := by decide +kernel
theorem dX4_init_13 : decode cX4_init 13 = .ok (.bipush 7, 2) := by decide +kernel
theorem dX4_init_15 : decode cX4_init 15 = .ok (.newarray .int, 2) := by decide +kernel
theorem dX4_init_17 : decode cX4_init 17 = .ok (.putfield 15, 3) := by decide +kernel
theorem dX4_init_20 : decode cX4_init 20 = .ok (.aload_n 0, 1) := by decide +kernel
theorem dX4_init_21 : decode cX4_init 21 = .ok (.iconst 0, 1) := by decide +kernel
theorem dX4_init_22 : decode cX4_init 22 = .ok (.putfield 18, 3) := by decide +kernel
theorem dX4_init_25 : decode cX4_init 25 = .ok (.aload_n 0, 1) := by decide +kernel
theorem dX4_init_26 : decode cX4_init 26 = .ok (.iconst 0, 1) := by decide +kernel
theorem dX4_init_27 : decode cX4_init 27 = .ok (.putfield 22, 3) := by decide +kernel
theorem dX4_init_30 : decode cX4_init 30 = .ok (.aload_n 0, 1) := by decide +kernel
theorem dX4_init_31 : decode cX4_init 31 = .ok (.iconst 0, 1) := by decide +kernel
theorem dX4_init_32 : decode cX4_init 32 = .ok (.putfield 25, 3) := by decide +kernel
theorem dX4_init_35 : decode cX4_init 35 = .ok (.return_, 1) := by decide +kernel
theorem dX4_set_0 : decode cX4_set 0 = .ok (.aload_n 1, 1) := by decide +kernel
theorem dX4_set_1 : decode cX4_set 1 = .ok (.getfield 9, 3) := by decide +kernel
theorem dX4_set_4 : decode cX4_set 4 = .ok (.iconst 0, 1) := by decide +kernel
theorem dX4_set_5 : decode cX4_set 5 = .ok (.aload_n 0, 1) := by decide +kernel
theorem dX4_set_6 : decode cX4_set 6 = .ok (.getfield 9, 3) := by decide +kernel
theorem dX4_set_9 : decode cX4_set 9 = .ok (.iconst 0, 1) := by decide +kernel
theorem dX4_set_10 : decode cX4_set 10 = .ok (.bipush 7, 2) := by decide +kernel
theorem dX4_set_12 : decode cX4_set 12 = .ok (.invokestatic 28, 3) := by decide +kernel
theorem dX4_set_15 : decode cX4_set 15 = .ok (.aload_n 1, 1) := by decide +kernel
theorem dX4_set_16 : decode cX4_set 16 = .ok (.getfield 15, 3) := by decide +kernel
theorem dX4_set_19 : decode cX4_set 19 = .ok (.iconst 0, 1) := by decide +kernel
theorem dX4_set_20 : decode cX4_set 20 = .ok (.aload_n 0, 1) := by decide +kernel
theorem dX4_set_21 : decode cX4_set 21 = .ok (.getfield 15, 3) := by decide +kernel
theorem dX4_set_24 : decode cX4_set 24 = .ok (.iconst 0, 1) := by decide +kernel
theorem dX4_set_25 : decode cX4_set 25 = .ok (.bipush 7, 2) := by decide +kernel
theorem dX4_set_27 : decode cX4_set 27 = .ok (.invokestatic 28, 3) := by decide +kernel
theorem dX4_set_30 : decode cX4_set 30 = .ok (.aload_n 0, 1) := by decide +kernel
theorem dX4_set_31 : decode cX4_set 31 = .ok (.aload_n 1, 1) := by decide +kernel
theorem dX4_set_32 : decode cX4_set 32 = .ok (.getfield 18, 3) := by decide +kernel
theorem dX4_set_35 : decode cX4_set 35 = .ok (.putfield 18, 3) := by decide +kernel
theorem dX4_set_38 : decode cX4_set 38 = .ok (.aload_n 0, 1) := by decide +kernel
theorem dX4_set_39 : decode cX4_set 39 = .ok (.aload_n 1, 1) := by decide +kernel
theorem dX4_set_40 : decode cX4_set 40 = .ok (.getfield 22, 3) := by decide +kernel
theorem dX4_set_43 : decode cX4_set 43 = .ok (.putfield 22, 3) := by decide +kernel
theorem dX4_set_46 : decode cX4_set 46 = .ok (.aload_n 0, 1) := by decide +kernel
theorem dX4_set_47 : decode cX4_set 47 = .ok (.aload_n 1, 1) := by decide +kernel
theorem dX4_set_48 : decode cX4_set 48 = .ok (.getfield 25, 3) := by decide +kernel
theorem dX4_set_51 : decode cX4_set 51 = .ok (.putfield 25, 3) := by decide +kernel
theorem dX4_set_54 : decode cX4_set 54 = .ok (.return_, 1) := by decide +kernel
theorem dX4_writeTo_0 : decode cX4_writeTo 0 = .ok (.iload_n 2, 1) := by decide +kernel
theorem dX4_writeTo_1 : decode cX4_writeTo 1 = .ok (.ifCond .lt 12, 3) := by decide +kernel
theorem dX4_writeTo_4 : decode cX4_writeTo 4 = .ok (.iload_n 2, 1) := by decide +kernel
theorem dX4_writeTo_5 : decode cX4_writeTo 5 = .ok (.aload_n 1, 1) := by decide +kernel
theorem dX4_writeTo_6 : decode cX4_writeTo 6 = .ok (.arraylength, 1) := by decide +kernel
theorem dX4_writeTo_7 : decode cX4_writeTo 7 = .ok (.bipush 17, 2) := by decide +kernel
theorem dX4_writeTo_9 : decode cX4_writeTo 9 = .ok (.isub, 1) := by decide +kernel
theorem dX4_writeTo_10 : decode cX4_writeTo 10 = .ok (.if_icmp .le 4, 3) := by decide +kernel
theorem dX4_writeTo_13 : decode cX4_writeTo 13 = .ok (.return_, 1) := by decide +kernel
theorem dX4_writeTo_14 : decode cX4_writeTo 14 = .ok (.aload_n 0, 1) := by decide +kernel
theorem dX4_writeTo_15 : decode cX4_writeTo 15 = .ok (.getfield 9, 3) := by decide +kernel
theorem dX4_writeTo_18 : decode cX4_writeTo 18 = .ok (.iconst 0, 1) := by decide +kernel
theorem dX4_writeTo_19 : decode cX4_writeTo 19 = .ok (.aload_n 1, 1) := by decide +kernel
theorem dX4_writeTo_20 : decode cX4_writeTo 20 = .ok (.iload_n 2, 1) := by decide +kernel
theorem dX4_writeTo_21 : decode cX4_writeTo 21 = .ok (.bipush 7, 2) := by decide +kernel
theorem dX4_writeTo_23 : decode cX4_writeTo 23 = .ok (.invokestatic 28, 3) := by decide +kernel
theorem dX4_writeTo_26 : decode cX4_writeTo 26 = .ok (.aload_n 0, 1) := by decide +kernel
theorem dX4_writeTo_27 : decode cX4_writeTo 27 = .ok (.getfield 15, 3) := by decide +kernel
theorem dX4_writeTo_30 : decode cX4_writeTo 30 = .ok (.iconst 0, 1) := by decide +kernel
theorem dX4_writeTo_31 : decode cX4_writeTo 31 = .ok (.aload_n 1, 1) := by decide +kernel
theorem dX4_writeTo_32 : decode cX4_writeTo 32 = .ok (.iload_n 2, 1) := by decide +kernel
theorem dX4_writeTo_33 : decode cX4_writeTo 33 = .ok (.bipush 7, 2) := by decide +kernel
theorem dX4_writeTo_35 : decode cX4_writeTo 35 = .ok (.iadd, 1) := by decide +kernel
theorem dX4_writeTo_36 : decode cX4_writeTo 36 = .ok (.bipush 7, 2) := by decide +kernel
theorem dX4_writeTo_38 : decode cX4_writeTo 38 = .ok (.invokestatic 28, 3) := by decide +kernel
theorem dX4_writeTo_41 : decode cX4_writeTo 41 = .ok (.aload_n 1, 1) := by decide +kernel
theorem dX4_writeTo_42 : decode cX4_writeTo 42 = .ok (.iload_n 2, 1) := by decide +kernel
theorem dX4_writeTo_43 : decode cX4_writeTo 43 = .ok (.bipush 17, 2) := by decide +kernel
theorem dX4_writeTo_45 : decode cX4_writeTo 45 = .ok (.iadd, 1) := by decide +kernel
theorem dX4_writeTo_46 : decode cX4_writeTo 46 = .ok (.iconst 3, 1) := by decide +kernel
theorem dX4_writeTo_47 : decode cX4_writeTo 47 = .ok (.isub, 1) := by decide +kernel
theorem dX4_writeTo_48 : decode cX4_writeTo 48 = .ok (.aload_n 0, 1) := by decide +kernel
theorem dX4_writeTo_49 : decode cX4_writeTo 49 = .ok (.getfield 18, 3) := by decide +kernel
theorem dX4_writeTo_52 : decode cX4_writeTo 52 = .ok (.iastore, 1) := by decide +kernel
theorem dX4_writeTo_53 : decode cX4_writeTo 53 = .ok (.aload_n 1, 1) := by decide +kernel
theorem dX4_writeTo_54 : decode cX4_writeTo 54 = .ok (.iload_n 2, 1) := by decide +kernel
theorem dX4_writeTo_55 : decode cX4_writeTo 55 = .ok (.bipush 17, 2) := by decide +kernel
theorem dX4_writeTo_57 : decode cX4_writeTo 57 = .ok (.iadd, 1) := by decide +kernel
theorem dX4_writeTo_58 : decode cX4_writeTo 58 = .ok (.iconst 2, 1) := by decide +kernel
theorem dX4_writeTo_59 : decode cX4_writeTo 59 = .ok (.isub, 1) := by decide +kernel
theorem dX4_writeTo_60 : decode cX4_writeTo 60 = .ok (.aload_n 0, 1) := by decide +kernel
theorem dX4_writeTo_61 : decode cX4_writeTo 61 = .ok (.getfield 22, 3) := by decide +kernel
theorem dX4_writeTo_64 : decode cX4_writeTo 64 = .ok (.iastore, 1) := by decide +kernel
theorem dX4_writeTo_65 : decode cX4_writeTo 65 = .ok (.aload_n 1, 1) := by decide +kernel
theorem dX4_writeTo_66 : decode cX4_writeTo 66 = .ok (.iload_n 2, 1) := by decide +kernel
theorem dX4_writeTo_67 : decode cX4_writeTo 67 = .ok (.bipush 17, 2) := by decide +kernel
theorem dX4_writeTo_69 : decode cX4_writeTo 69 = .ok (.iadd, 1) := by decide +kernel
theorem dX4_writeTo_70 : decode cX4_writeTo 70 = .ok (.iconst 1, 1) := by decide +kernel
theorem dX4_writeTo_71 : decode cX4_writeTo 71 = .ok (.isub, 1) := by decide +kernel
theorem dX4_writeTo_72 : decode cX4_writeTo 72 = .ok (.aload_n 0, 1) := by decide +kernel
theorem dX4_writeTo_73 : decode cX4_writeTo 73 = .ok (.getfield 25, 3) := by decide +kernel
theorem dX4_writeTo_76 : decode cX4_writeTo 76 = .ok (.iastore, 1) := by decide +kernel
theorem dX4_writeTo_77 : decode cX4_writeTo 77 = .ok (.return_, 1) := by decide +kernel
theorem dX5_clear_0 : decode cX5_clear 0 = .ok (.aload_n 0, 1) := by decide +kernel
theorem dX5_clear_1 : decode cX5_clear 1 = .ok (.iconst 0, 1) := by decide +kernel
theorem dX5_clear_2 : decode cX5_clear 2 = .ok (.putfield 20, 3) := by decide +kernel
theorem dX5_clear_5 : decode cX5_clear 5 = .ok (.aload_n 0, 1) := by decide +kernel
theorem dX5_clear_6 : decode cX5_clear 6 = .ok (.iconst 0, 1) := by decide +kernel
theorem dX5_clear_7 : decode cX5_clear 7 = .ok (.putfield 24, 3) := by decide +kernel
theorem dX5_clear_10 : decode cX5_clear 10 = .ok (.return_, 1) := by decide +kernel
theorem dX5_init_0 : decode cX5_init 0 = .ok (.aload_n 0, 1) := by decide +kernel
theorem dX5_init_1 : decode cX5_init 1 = .ok (.invokespecial 3, 3) := by decide +kernel
theorem dX5_init_4 : decode cX5_init 4 = .ok (.aload_n 0, 1) := by decide +kernel
theorem dX5_init_5 : decode cX5_init 5 = .ok (.bipush 16, 2) := by decide +kernel
theorem dX5_init_7 : decode cX5_init 7 = .ok (.newarray .int, 2) := by decide +kernel
theorem dX5_init_9 : decode cX5_init 9 = .ok (.putfield 9, 3) := by decide +kernel
theorem dX5_init_12 : decode cX5_init 12 = .ok (.aload_n 0, 1) := by decide +kernel
theorem dX5_init_13 : decode cX5_init 13 = .ok (.sipush 272, 3) := by decide +kernel
theorem dX5_init_16 : decode cX5_init 16 = .ok (.newarray .int, 2) := by decide +kernel
theorem dX5_init_18 : decode cX5_init 18 = .ok (.putfield 17, 3) := by decide +kernel
theorem dX5_init_21 : decode cX5_init 21 = .ok (.aload_n 0, 1) := by decide +kernel
theorem dX5_init_22 : decode cX5_init 22 = .ok (.iconst 0, 1) := by decide +kernel
theorem dX5_init_23 : decode cX5_init 23 = .ok (.putfield 20, 3) := by decide +kernel
theorem dX5_init_26 : decode cX5_init 26 = .ok (.aload_n 0, 1) := by decide +kernel
theorem dX5_init_27 : decode cX5_init 27 = .ok (.iconst 0, 1) := by decide +kernel
theorem dX5_init_28 : decode cX5_init 28 = .ok (.putfield 24, 3) := by decide +kernel
theorem dX5_init_31 : decode cX5_init 31 = .ok (.return_, 1) := by decide +kernel
theorem dX5_keep_0 : decode cX5_keep 0 = .ok (.aload_n 0, 1) := by decide +kernel
theorem dX5_keep_1 : decode cX5_keep 1 = .ok (.getfield 24, 3) := by decide +kernel
theorem dX5_keep_4 : decode cX5_keep 4 = .ok (.bipush 16, 2) := by decide +kernel
theorem dX5_keep_6 : decode cX5_keep 6 = .ok (.if_icmp .ne 26, 3) := by decide +kernel
theorem dX5_keep_9 : decode cX5_keep 9 = .ok (.aload_n 0, 1) := by decide +kernel
theorem dX5_keep_10 : decode cX5_keep 10 = .ok (.aload_n 0, 1) := by decide +kernel
theorem dX5_keep_11 : decode cX5_keep 11 = .ok (.getfield 20, 3) := by decide +kernel
theorem dX5_keep_14 : decode cX5_keep 14 = .ok (.iconst 1, 1) := by decide +kernel
theorem dX5_keep_15 : decode cX5_keep 15 = .ok (.iadd, 1) := by decide +kernel
theorem dX5_keep_16 : decode cX5_keep 16 = .ok (.bipush 16, 2) := by decide +kernel
theorem dX5_keep_18 : decode cX5_keep 18 = .ok (.irem, 1) := by decide +kernel
theorem dX5_keep_19 : decode cX5_keep 19 = .ok (.putfield 20, 3) := by decide +kernel
theorem dX5_keep_22 : decode cX5_keep 22 = .ok (.aload_n 0, 1) := by decide +kernel
theorem dX5_keep_23 : decode cX5_keep 23 = .ok (.dup, 1) := by decide +kernel
theorem dX5_keep_24 : decode cX5_keep 24 = .ok (.getfield 24, 3) := by decide +kernel
theorem dX5_keep_27 : decode cX5_keep 27 = .ok (.iconst 1, 1) := by decide +kernel
theorem dX5_keep_28 : decode cX5_keep 28 = .ok (.isub, 1) := by decide +kernel
theorem dX5_keep_29 : decode cX5_keep 29 = .ok (.putfield 24, 3) := by decide +kernel
theorem dX5_keep_32 : decode cX5_keep 32 = .ok (.aload_n 0, 1) := by decide +kernel
theorem dX5_keep_33 : decode cX5_keep 33 = .ok (.getfield 20, 3) := by decide +kernel
theorem dX5_keep_36 : decode cX5_keep 36 = .ok (.aload_n 0, 1) := by decide +kernel
theorem dX5_keep_37 : decode cX5_keep 37 = .ok (.getfield 24, 3) := by decide +kernel
theorem dX5_keep_40 : decode cX5_keep 40 = .ok (.iadd, 1) := by decide +kernel
theorem dX5_keep_41 : decode cX5_keep 41 = .ok (.bipush 16, 2) := by decide +kernel
theorem dX5_keep_43 : decode cX5_keep 43 = .ok (.irem, 1) := by decide +kernel
theorem dX5_keep_44 : decode cX5_keep 44 = .ok (.istore_n 3, 1) := by decide +kernel
theorem dX5_keep_45 : decode cX5_keep 45 = .ok (.aload_n 0, 1) := by decide +kernel
theorem dX5_keep_46 : decode cX5_keep 46 = .ok (.getfield 9, 3) := by decide +kernel
theorem dX5_keep_49 : decode cX5_keep 49 = .ok (.iload_n 3, 1) := by decide +kernel
theorem dX5_keep_50 : decode cX5_keep 50 = .ok (.iload_n 1, 1) := by decide +kernel
theorem dX5_keep_51 : decode cX5_keep 51 = .ok (.iastore, 1) := by decide +kernel
theorem dX5_keep_52 : decode cX5_keep 52 = .ok (.aload_n 2, 1) := by decide +kernel
theorem dX5_keep_53 : decode cX5_keep 53 = .ok (.aload_n 0, 1) := by decide +kernel
theorem dX5_keep_54 : decode cX5_keep 54 = .ok (.getfield 17, 3) := by decide +kernel
theorem dX5_keep_57 : decode cX5_keep 57 = .ok (.iload_n 3, 1) := by decide +kernel
theorem dX5_keep_58 : decode cX5_keep 58 = .ok (.bipush 17, 2) := by decide +kernel
theorem dX5_keep_60 : decode cX5_keep 60 = .ok (.imul, 1) := by decide +kernel
theorem dX5_keep_61 : decode cX5_keep 61 = .ok (.invokevirtual 27, 3) := by decide +kernel
theorem dX5_keep_64 : decode cX5_keep 64 = .ok (.aload_n 0, 1) := by decide +kernel
theorem dX5_keep_65 : decode cX5_keep 65 = .ok (.dup, 1) := by decide +kernel
theorem dX5_keep_66 : decode cX5_keep 66 = .ok (.getfield 24, 3) := by decide +kernel
theorem dX5_keep_69 : decode cX5_keep 69 = .ok (.iconst 1, 1) := by decide +kernel
theorem dX5_keep_70 : decode cX5_keep 70 = .ok (.iadd, 1) := by decide +kernel
theorem dX5_keep_71 : decode cX5_keep 71 = .ok (.putfield 24, 3) := by decide +kernel
theorem dX5_keep_74 : decode cX5_keep 74 = .ok (.return_, 1) := by decide +kernel
theorem dX6_addNumber_0 : decode cX6_addNumber 0 = .ok (.bipush 24, 2) := by decide +kernel
theorem dX6_addNumber_2 : decode cX6_addNumber 2 = .ok (.istore_n 2, 1) := by decide +kernel
theorem dX6_addNumber_3 : decode cX6_addNumber 3 = .ok (.iload_n 2, 1) := by decide +kernel
theorem dX6_addNumber_4 : decode cX6_addNumber 4 = .ok (.ifCond .lt 45, 3) := by decide +kernel
theorem dX6_addNumber_7 : decode cX6_addNumber 7 = .ok (.aload_n 0, 1) := by decide +kernel
theorem dX6_addNumber_8 : decode cX6_addNumber 8 = .ok (.getfield 24, 3) := by decide +kernel
theorem dX6_addNumber_11 : decode cX6_addNumber 11 = .ok (.sipush 400, 3) := by decide +kernel
theorem dX6_addNumber_14 : decode cX6_addNumber 14 = .ok (.if_icmp .ge 29, 3) := by decide +kernel
theorem dX6_addNumber_17 : decode cX6_addNumber 17 = .ok (.aload_n 0, 1) := by decide +kernel
theorem dX6_addNumber_18 : decode cX6_addNumber 18 = .ok (.getfield 11, 3) := by decide +kernel
theorem dX6_addNumber_21 : decode cX6_addNumber 21 = .ok (.aload_n 0, 1) := by decide +kernel
theorem dX6_addNumber_22 : decode cX6_addNumber 22 = .ok (.getfield 24, 3) := by decide +kernel
theorem dX6_addNumber_25 : decode cX6_addNumber 25 = .ok (.iload_n 1, 1) := by decide +kernel
theorem dX6_addNumber_26 : decode cX6_addNumber 26 = .ok (.iload_n 2, 1) := by decide +kernel
theorem dX6_addNumber_27 : decode cX6_addNumber 27 = .ok (.iushr, 1) := by decide +kernel
theorem dX6_addNumber_28 : decode cX6_addNumber 28 = .ok (.sipush 255, 3) := by decide +kernel
theorem dX6_addNumber_31 : decode cX6_addNumber 31 = .ok (.iand, 1) := by decide +kernel
theorem dX6_addNumber_32 : decode cX6_addNumber 32 = .ok (.iastore, 1) := by decide +kernel
theorem dX6_addNumber_33 : decode cX6_addNumber 33 = .ok (.aload_n 0, 1) := by decide +kernel
theorem dX6_addNumber_34 : decode cX6_addNumber 34 = .ok (.dup, 1) := by decide +kernel
theorem dX6_addNumber_35 : decode cX6_addNumber 35 = .ok (.getfield 24, 3) := by decide +kernel
theorem dX6_addNumber_38 : decode cX6_addNumber 38 = .ok (.iconst 1, 1) := by decide +kernel
theorem dX6_addNumber_39 : decode cX6_addNumber 39 = .ok (.iadd, 1) := by decide +kernel
theorem dX6_addNumber_40 : decode cX6_addNumber 40 = .ok (.putfield 24, 3) := by decide +kernel
theorem dX6_addNumber_43 : decode cX6_addNumber 43 = .ok (.iinc 2 (-8), 3) := by decide +kernel
theorem dX6_addNumber_46 : decode cX6_addNumber 46 = .ok (.goto (-43), 3) := by decide +kernel
theorem dX6_addNumber_49 : decode cX6_addNumber 49 = .ok (.return_, 1) := by decide +kernel
theorem dX6_hasRoom_0 : decode cX6_hasRoom 0 = .ok (.aload_n 0, 1) := by decide +kernel
theorem dX6_hasRoom_1 : decode cX6_hasRoom 1 = .ok (.getfield 24, 3) := by decide +kernel
theorem dX6_hasRoom_4 : decode cX6_hasRoom 4 = .ok (.iload_n 1, 1) := by decide +kernel
theorem dX6_hasRoom_5 : decode cX6_hasRoom 5 = .ok (.iadd, 1) := by decide +kernel
theorem dX6_hasRoom_6 : decode cX6_hasRoom 6 = .ok (.sipush 400, 3) := by decide +kernel
theorem dX6_hasRoom_9 : decode cX6_hasRoom 9 = .ok (.if_icmp .gt 7, 3) := by decide +kernel
theorem dX6_hasRoom_12 : decode cX6_hasRoom 12 = .ok (.iconst 1, 1) := by decide +kernel
theorem dX6_hasRoom_13 : decode cX6_hasRoom 13 = .ok (.goto 4, 3) := by decide +kernel
theorem dX6_hasRoom_16 : decode cX6_hasRoom 16 = .ok (.iconst 0, 1) := by decide +kernel
theorem dX6_hasRoom_17 : decode cX6_hasRoom 17 = .ok (.ireturn, 1) := by decide +kernel
theorem dX6_init_0 : decode cX6_init 0 = .ok (.aload_n 0, 1) := by decide +kernel
theorem dX6_init_1 : decode cX6_init 1 = .ok (.invokespecial 3, 3) := by decide +kernel
theorem dX6_init_4 : decode cX6_init 4 = .ok (.aload_n 0, 1) := by decide +kernel
theorem dX6_init_5 : decode cX6_init 5 = .ok (.sipush 400, 3) := by decide +kernel
theorem dX6_init_8 : decode cX6_init 8 = .ok (.newarray .int, 2) := by decide +kernel
theorem dX6_init_10 : decode cX6_init 10 = .ok (.putfield 11, 3) := by decide +kernel
theorem dX6_init_13 : decode cX6_init 13 = .ok (.aload_n 0, 1) := by decide +kernel
theorem dX6_init_14 : decode cX6_init 14 = .ok (.new 15, 3) := by decide +kernel
theorem dX6_init_17 : decode cX6_init 17 = .ok (.dup, 1) := by decide +kernel
theorem dX6_init_18 : decode cX6_init 18 = .ok (.bipush 12, 2) := by decide +kernel
theorem dX6_init_20 : decode cX6_init 20 = .ok (.sipush 400, 3) := by decide +kernel
theorem dX6_init_23 : decode cX6_init 23 = .ok (.invokespecial 17, 3) := by decide +kernel
theorem dX6_init_26 : decode cX6_init 26 = .ok (.putfield 20, 3) := by decide +kernel
theorem dX6_init_29 : decode cX6_init 29 = .ok (.aload_n 0, 1) := by decide +kernel
theorem dX6_init_30 : decode cX6_init 30 = .ok (.iconst 0, 1) := by decide +kernel
theorem dX6_init_31 : decode cX6_init 31 = .ok (.putfield 24, 3) := by decide +kernel
theorem dX6_init_34 : decode cX6_init 34 = .ok (.aload_n 0, 1) := by decide +kernel
theorem dX6_init_35 : decode cX6_init 35 = .ok (.iconst (-1), 1) := by decide +kernel
theorem dX6_init_36 : decode cX6_init 36 = .ok (.putfield 28, 3) := by decide +kernel
theorem dX6_init_39 : decode cX6_init 39 = .ok (.aload_n 0, 1) := by decide +kernel
theorem dX6_init_40 : decode cX6_init 40 = .ok (.iconst 0, 1) := by decide +kernel
theorem dX6_init_41 : decode cX6_init 41 = .ok (.putfield 31, 3) := by decide +kernel
theorem dX6_init_44 : decode cX6_init 44 = .ok (.aload_n 0, 1) := by decide +kernel
theorem dX6_init_45 : decode cX6_init 45 = .ok (.iconst 0, 1) := by decide +kernel
theorem dX6_init_46 : decode cX6_init 46 = .ok (.putfield 35, 3) := by decide +kernel
theorem dX6_init_49 : decode cX6_init 49 = .ok (.aload_n 0, 1) := by decide +kernel
theorem dX6_init_50 : decode cX6_init 50 = .ok (.iconst 0, 1) := by decide +kernel
theorem dX6_init_51 : decode cX6_init 51 = .ok (.putfield 38, 3) := by decide +kernel
theorem dX6_init_54 : decode cX6_init 54 = .ok (.aload_n 0, 1) := by decide +kernel
theorem dX6_init_55 : decode cX6_init 55 = .ok (.iconst 0, 1) := by decide +kernel
theorem dX6_init_56 : decode cX6_init 56 = .ok (.putfield 41, 3) := by decide +kernel
theorem dX6_init_59 : decode cX6_init 59 = .ok (.aload_n 0, 1) := by decide +kernel
theorem dX6_init_60 : decode cX6_init 60 = .ok (.iconst 0, 1) := by decide +kernel
theorem dX6_init_61 : decode cX6_init 61 = .ok (.putfield 44, 3) := by decide +kernel
theorem dX6_init_64 : decode cX6_init 64 = .ok (.aload_n 0, 1) := by decide +kernel
theorem dX6_init_65 : decode cX6_init 65 = .ok (.iconst 0, 1) := by decide +kernel
theorem dX6_init_66 : decode cX6_init 66 = .ok (.putfield 47, 3) := by decide +kernel
theorem dX6_init_69 : decode cX6_init 69 = .ok (.return_, 1) := by decide +kernel
theorem dX6_readClause_0 : decode cX6_readClause 0 = .ok (.aload_n 0, 1) := by decide +kernel
theorem dX6_readClause_1 : decode cX6_readClause 1 = .ok (.aload_n 0, 1) := by decide +kernel
theorem dX6_readClause_2 : decode cX6_readClause 2 = .ok (.getfield 31, 3) := by decide +kernel
theorem dX6_readClause_5 : decode cX6_readClause 5 = .ok (.ifCond .eq 8, 3) := by decide +kernel
theorem dX6_readClause_8 : decode cX6_readClause 8 = .ok (.ldc 68, 2) := by decide +kernel
theorem dX6_readClause_10 : decode cX6_readClause 10 = .ok (.goto 5, 3) := by decide +kernel
theorem dX6_readClause_13 : decode cX6_readClause 13 = .ok (.ldc 70, 2) := by decide +kernel
theorem dX6_readClause_15 : decode cX6_readClause 15 = .ok (.invokevirtual 72, 3) := by decide +kernel
theorem dX6_readClause_18 : decode cX6_readClause 18 = .ok (.istore_n 2, 1) := by decide +kernel
theorem dX6_readClause_19 : decode cX6_readClause 19 = .ok (.iload_n 2, 1) := by decide +kernel
theorem dX6_readClause_20 : decode cX6_readClause 20 = .ok (.iconst (-1), 1) := by decide +kernel
theorem dX6_readClause_21 : decode cX6_readClause 21 = .ok (.if_icmp .eq 13, 3) := by decide +kernel
theorem dX6_readClause_24 : decode cX6_readClause 24 = .ok (.iload_n 1, 1) := by decide +kernel
theorem dX6_readClause_25 : decode cX6_readClause 25 = .ok (.ifCond .lt 9, 3) := by decide +kernel
theorem dX6_readClause_28 : decode cX6_readClause 28 = .ok (.iload_n 1, 1) := by decide +kernel
theorem dX6_readClause_29 : decode cX6_readClause 29 = .ok (.bipush 12, 2) := by decide +kernel
theorem dX6_readClause_31 : decode cX6_readClause 31 = .ok (.if_icmp .lt 8, 3) := by decide +kernel
theorem dX6_readClause_34 : decode cX6_readClause 34 = .ok (.aload_n 0, 1) := by decide +kernel
theorem dX6_readClause_35 : decode cX6_readClause 35 = .ok (.invokevirtual 64, 3) := by decide +kernel
theorem dX6_readClause_38 : decode cX6_readClause 38 = .ok (.ireturn, 1) := by decide +kernel
theorem dX6_readClause_39 : decode cX6_readClause 39 = .ok (.aload_n 0, 1) := by decide +kernel
theorem dX6_readClause_40 : decode cX6_readClause 40 = .ok (.invokevirtual 53, 3) := by decide +kernel
theorem dX6_readClause_43 : decode cX6_readClause 43 = .ok (.aload_n 0, 1) := by decide +kernel
theorem dX6_readClause_44 : decode cX6_readClause 44 = .ok (.getfield 20, 3) := by decide +kernel
theorem dX6_readClause_47 : decode cX6_readClause 47 = .ok (.getfield 76, 3) := by decide +kernel
theorem dX6_readClause_50 : decode cX6_readClause 50 = .ok (.iload_n 1, 1) := by decide +kernel
theorem dX6_readClause_51 : decode cX6_readClause 51 = .ok (.iload_n 2, 1) := by decide +kernel
theorem dX6_readClause_52 : decode cX6_readClause 52 = .ok (.iastore, 1) := by decide +kernel
theorem dX6_readClause_53 : decode cX6_readClause 53 = .ok (.aload_n 0, 1) := by decide +kernel
theorem dX6_readClause_54 : decode cX6_readClause 54 = .ok (.getfield 20, 3) := by decide +kernel
theorem dX6_readClause_57 : decode cX6_readClause 57 = .ok (.getfield 79, 3) := by decide +kernel
theorem dX6_readClause_60 : decode cX6_readClause 60 = .ok (.iload_n 1, 1) := by decide +kernel
theorem dX6_readClause_61 : decode cX6_readClause 61 = .ok (.iconst 1, 1) := by decide +kernel
theorem dX6_readClause_62 : decode cX6_readClause 62 = .ok (.iastore, 1) := by decide +kernel
theorem dX6_readClause_63 : decode cX6_readClause 63 = .ok (.aload_n 0, 1) := by decide +kernel
theorem dX6_readClause_64 : decode cX6_readClause 64 = .ok (.getfield 20, 3) := by decide +kernel
theorem dX6_readClause_67 : decode cX6_readClause 67 = .ok (.getfield 82, 3) := by decide +kernel
theorem dX6_readClause_70 : decode cX6_readClause 70 = .ok (.iload_n 1, 1) := by decide +kernel
theorem dX6_readClause_71 : decode cX6_readClause 71 = .ok (.aload_n 0, 1) := by decide +kernel
theorem dX6_readClause_72 : decode cX6_readClause 72 = .ok (.getfield 20, 3) := by decide +kernel
theorem dX6_readClause_75 : decode cX6_readClause 75 = .ok (.getfield 85, 3) := by decide +kernel
theorem dX6_readClause_78 : decode cX6_readClause 78 = .ok (.iastore, 1) := by decide +kernel
theorem dX6_readClause_79 : decode cX6_readClause 79 = .ok (.iload_n 2, 1) := by decide +kernel
theorem dX6_readClause_80 : decode cX6_readClause 80 = .ok (.iconst 3, 1) := by decide +kernel
theorem dX6_readClause_81 : decode cX6_readClause 81 = .ok (.if_icmp .eq 13, 3) := by decide +kernel
theorem dX6_readClause_84 : decode cX6_readClause 84 = .ok (.aload_n 0, 1) := by decide +kernel
theorem dX6_readClause_85 : decode cX6_readClause 85 = .ok (.iconst 0, 1) := by decide +kernel
theorem dX6_readClause_86 : decode cX6_readClause 86 = .ok (.invokevirtual 88, 3) := by decide +kernel
theorem dX6_readClause_89 : decode cX6_readClause 89 = .ok (.ifCond .ne 5, 3) := by decide +kernel
theorem dX6_readClause_92 : decode cX6_readClause 92 = .ok (.iconst 0, 1) := by decide +kernel
theorem dX6_readClause_93 : decode cX6_readClause 93 = .ok (.ireturn, 1) := by decide +kernel
theorem dX6_readClause_94 : decode cX6_readClause 94 = .ok (.aload_n 0, 1) := by decide +kernel
theorem dX6_readClause_95 : decode cX6_readClause 95 = .ok (.getfield 20, 3) := by decide +kernel
theorem dX6_readClause_98 : decode cX6_readClause 98 = .ok (.getfield 91, 3) := by decide +kernel
theorem dX6_readClause_101 : decode cX6_readClause 101 = .ok (.iload_n 1, 1) := by decide +kernel
theorem dX6_readClause_102 : decode cX6_readClause 102 = .ok (.aload_n 0, 1) := by decide +kernel
theorem dX6_readClause_103 : decode cX6_readClause 103 = .ok (.getfield 20, 3) := by decide +kernel
theorem dX6_readClause_106 : decode cX6_readClause 106 = .ok (.getfield 85, 3) := by decide +kernel
theorem dX6_readClause_109 : decode cX6_readClause 109 = .ok (.iastore, 1) := by decide +kernel
theorem dX6_readClause_110 : decode cX6_readClause 110 = .ok (.aload_n 0, 1) := by decide +kernel
theorem dX6_readClause_111 : decode cX6_readClause 111 = .ok (.getfield 31, 3) := by decide +kernel
theorem dX6_readClause_114 : decode cX6_readClause 114 = .ok (.ifCond .ne 63, 3) := by decide +kernel
theorem dX6_readClause_117 : decode cX6_readClause 117 = .ok (.aload_n 0, 1) := by decide +kernel
theorem dX6_readClause_118 : decode cX6_readClause 118 = .ok (.ldc 94, 2) := by decide +kernel
theorem dX6_readClause_120 : decode cX6_readClause 120 = .ok (.invokevirtual 95, 3) := by decide +kernel
theorem dX6_readClause_123 : decode cX6_readClause 123 = .ok (.ifCond .eq 54, 3) := by decide +kernel
theorem dX6_readClause_126 : decode cX6_readClause 126 = .ok (.aload_n 0, 1) := by decide +kernel
theorem dX6_readClause_127 : decode cX6_readClause 127 = .ok (.invokevirtual 53, 3) := by decide +kernel
theorem dX6_readClause_130 : decode cX6_readClause 130 = .ok (.aload_n 0, 1) := by decide +kernel
theorem dX6_readClause_131 : decode cX6_readClause 131 = .ok (.getfield 38, 3) := by decide +kernel
theorem dX6_readClause_134 : decode cX6_readClause 134 = .ok (.iconst 2, 1) := by decide +kernel
theorem dX6_readClause_135 : decode cX6_readClause 135 = .ok (.if_icmp .ne 20, 3) := by decide +kernel
theorem dX6_readClause_138 : decode cX6_readClause 138 = .ok (.aload_n 0, 1) := by decide +kernel
theorem dX6_readClause_139 : decode cX6_readClause 139 = .ok (.getfield 47, 3) := by decide +kernel
theorem dX6_readClause_142 : decode cX6_readClause 142 = .ok (.iconst 1, 1) := by decide +kernel
theorem dX6_readClause_143 : decode cX6_readClause 143 = .ok (.if_icmp .lt 12, 3) := by decide +kernel
theorem dX6_readClause_146 : decode cX6_readClause 146 = .ok (.aload_n 0, 1) := by decide +kernel
theorem dX6_readClause_147 : decode cX6_readClause 147 = .ok (.getfield 47, 3) := by decide +kernel
theorem dX6_readClause_150 : decode cX6_readClause 150 = .ok (.bipush 20, 2) := by decide +kernel
theorem dX6_readClause_152 : decode cX6_readClause 152 = .ok (.if_icmp .le 8, 3) := by decide +kernel
theorem dX6_readClause_155 : decode cX6_readClause 155 = .ok (.aload_n 0, 1) := by decide +kernel
theorem dX6_readClause_156 : decode cX6_readClause 156 = .ok (.invokevirtual 64, 3) := by decide +kernel
theorem dX6_readClause_159 : decode cX6_readClause 159 = .ok (.ireturn, 1) := by decide +kernel
theorem dX6_readClause_160 : decode cX6_readClause 160 = .ok (.aload_n 0, 1) := by decide +kernel
theorem dX6_readClause_161 : decode cX6_readClause 161 = .ok (.getfield 20, 3) := by decide +kernel
theorem dX6_readClause_164 : decode cX6_readClause 164 = .ok (.getfield 79, 3) := by decide +kernel
theorem dX6_readClause_167 : decode cX6_readClause 167 = .ok (.iload_n 1, 1) := by decide +kernel
theorem dX6_readClause_168 : decode cX6_readClause 168 = .ok (.aload_n 0, 1) := by decide +kernel
theorem dX6_readClause_169 : decode cX6_readClause 169 = .ok (.getfield 47, 3) := by decide +kernel
theorem dX6_readClause_172 : decode cX6_readClause 172 = .ok (.iastore, 1) := by decide +kernel
theorem dX6_readClause_173 : decode cX6_readClause 173 = .ok (.aload_n 0, 1) := by decide +kernel
theorem dX6_readClause_174 : decode cX6_readClause 174 = .ok (.invokevirtual 53, 3) := by decide +kernel
theorem dX6_readClause_177 : decode cX6_readClause 177 = .ok (.aload_n 0, 1) := by decide +kernel
theorem dX6_readClause_178 : decode cX6_readClause 178 = .ok (.ldc 99, 2) := by decide +kernel
theorem dX6_readClause_180 : decode cX6_readClause 180 = .ok (.invokevirtual 95, 3) := by decide +kernel
theorem dX6_readClause_183 : decode cX6_readClause 183 = .ok (.ifCond .eq 17, 3) := by decide +kernel
theorem dX6_readClause_186 : decode cX6_readClause 186 = .ok (.aload_n 0, 1) := by decide +kernel
theorem dX6_readClause_187 : decode cX6_readClause 187 = .ok (.invokevirtual 53, 3) := by decide +kernel
theorem dX6_readClause_190 : decode cX6_readClause 190 = .ok (.aload_n 0, 1) := by decide +kernel
theorem dX6_readClause_191 : decode cX6_readClause 191 = .ok (.iconst 0, 1) := by decide +kernel
theorem dX6_readClause_192 : decode cX6_readClause 192 = .ok (.invokevirtual 101, 3) := by decide +kernel
theorem dX6_readClause_195 : decode cX6_readClause 195 = .ok (.ifCond .ne 5, 3) := by decide +kernel
theorem dX6_readClause_198 : decode cX6_readClause 198 = .ok (.iconst 0, 1) := by decide +kernel
theorem dX6_readClause_199 : decode cX6_readClause 199 = .ok (.ireturn, 1) := by decide +kernel
theorem dX6_readClause_200 : decode cX6_readClause 200 = .ok (.aload_n 0, 1) := by decide +kernel
theorem dX6_readClause_201 : decode cX6_readClause 201 = .ok (.getfield 20, 3) := by decide +kernel
theorem dX6_readClause_204 : decode cX6_readClause 204 = .ok (.getfield 104, 3) := by decide +kernel
theorem dX6_readClause_207 : decode cX6_readClause 207 = .ok (.iload_n 1, 1) := by decide +kernel
theorem dX6_readClause_208 : decode cX6_readClause 208 = .ok (.aload_n 0, 1) := by decide +kernel
theorem dX6_readClause_209 : decode cX6_readClause 209 = .ok (.getfield 20, 3) := by decide +kernel
theorem dX6_readClause_212 : decode cX6_readClause 212 = .ok (.getfield 85, 3) := by decide +kernel
theorem dX6_readClause_215 : decode cX6_readClause 215 = .ok (.iastore, 1) := by decide +kernel
theorem dX6_readClause_216 : decode cX6_readClause 216 = .ok (.aload_n 0, 1) := by decide +kernel
theorem dX6_readClause_217 : decode cX6_readClause 217 = .ok (.getfield 20, 3) := by decide +kernel
theorem dX6_readClause_220 : decode cX6_readClause 220 = .ok (.iload_n 1, 1) := by decide +kernel
theorem dX6_readClause_221 : decode cX6_readClause 221 = .ok (.iconst 1, 1) := by decide +kernel
theorem dX6_readClause_222 : decode cX6_readClause 222 = .ok (.iadd, 1) := by decide +kernel
theorem dX6_readClause_223 : decode cX6_readClause 223 = .ok (.putfield 107, 3) := by decide +kernel
theorem dX6_readClause_226 : decode cX6_readClause 226 = .ok (.iconst 1, 1) := by decide +kernel
theorem dX6_readClause_227 : decode cX6_readClause 227 = .ok (.ireturn, 1) := by decide +kernel
theorem dX6_readText_0 : decode cX6_readText 0 = .ok (.aload_n 0, 1) := by decide +kernel
theorem dX6_readText_1 : decode cX6_readText 1 = .ok (.iload_n 1, 1) := by decide +kernel
theorem dX6_readText_2 : decode cX6_readText 2 = .ok (.putfield 31, 3) := by decide +kernel
theorem dX6_readText_5 : decode cX6_readText 5 = .ok (.aload_n 0, 1) := by decide +kernel
theorem dX6_readText_6 : decode cX6_readText 6 = .ok (.getfield 20, 3) := by decide +kernel
theorem dX6_readText_9 : decode cX6_readText 9 = .ok (.invokevirtual 50, 3) := by decide +kernel
theorem dX6_readText_12 : decode cX6_readText 12 = .ok (.aload_n 0, 1) := by decide +kernel
theorem dX6_readText_13 : decode cX6_readText 13 = .ok (.iconst 0, 1) := by decide +kernel
theorem dX6_readText_14 : decode cX6_readText 14 = .ok (.putfield 35, 3) := by decide +kernel
theorem dX6_readText_17 : decode cX6_readText 17 = .ok (.aload_n 0, 1) := by decide +kernel
theorem dX6_readText_18 : decode cX6_readText 18 = .ok (.iconst (-1), 1) := by decide +kernel
theorem dX6_readText_19 : decode cX6_readText 19 = .ok (.putfield 28, 3) := by decide +kernel
theorem dX6_readText_22 : decode cX6_readText 22 = .ok (.aload_n 0, 1) := by decide +kernel
theorem dX6_readText_23 : decode cX6_readText 23 = .ok (.iconst 0, 1) := by decide +kernel
theorem dX6_readText_24 : decode cX6_readText 24 = .ok (.putfield 44, 3) := by decide +kernel
theorem dX6_readText_27 : decode cX6_readText 27 = .ok (.aload_n 0, 1) := by decide +kernel
theorem dX6_readText_28 : decode cX6_readText 28 = .ok (.invokevirtual 53, 3) := by decide +kernel
theorem dX6_readText_31 : decode cX6_readText 31 = .ok (.iconst 0, 1) := by decide +kernel
theorem dX6_readText_32 : decode cX6_readText 32 = .ok (.istore_n 2, 1) := by decide +kernel
theorem dX6_readText_33 : decode cX6_readText 33 = .ok (.iload_n 2, 1) := by decide +kernel
theorem dX6_readText_34 : decode cX6_readText 34 = .ok (.bipush 12, 2) := by decide +kernel
theorem dX6_readText_36 : decode cX6_readText 36 = .ok (.if_icmp .ge 46, 3) := by decide +kernel
theorem dX6_readText_39 : decode cX6_readText 39 = .ok (.aload_n 0, 1) := by decide +kernel
theorem dX6_readText_40 : decode cX6_readText 40 = .ok (.iload_n 2, 1) := by decide +kernel
theorem dX6_readText_41 : decode cX6_readText 41 = .ok (.invokevirtual 56, 3) := by decide +kernel
theorem dX6_readText_44 : decode cX6_readText 44 = .ok (.ifCond .ne 5, 3) := by decide +kernel
theorem dX6_readText_47 : decode cX6_readText 47 = .ok (.iconst 0, 1) := by decide +kernel
theorem dX6_readText_48 : decode cX6_readText 48 = .ok (.ireturn, 1) := by decide +kernel
theorem dX6_readText_49 : decode cX6_readText 49 = .ok (.aload_n 0, 1) := by decide +kernel
theorem dX6_readText_50 : decode cX6_readText 50 = .ok (.getfield 38, 3) := by decide +kernel
theorem dX6_readText_53 : decode cX6_readText 53 = .ok (.ifCond .ne 5, 3) := by decide +kernel
theorem dX6_readText_56 : decode cX6_readText 56 = .ok (.iconst 1, 1) := by decide +kernel
theorem dX6_readText_57 : decode cX6_readText 57 = .ok (.ireturn, 1) := by decide +kernel
theorem dX6_readText_58 : decode cX6_readText 58 = .ok (.aload_n 0, 1) := by decide +kernel
theorem dX6_readText_59 : decode cX6_readText 59 = .ok (.bipush 59, 2) := by decide +kernel
theorem dX6_readText_61 : decode cX6_readText 61 = .ok (.invokevirtual 60, 3) := by decide +kernel
theorem dX6_readText_64 : decode cX6_readText 64 = .ok (.ifCond .ne 8, 3) := by decide +kernel
theorem dX6_readText_67 : decode cX6_readText 67 = .ok (.aload_n 0, 1) := by decide +kernel
theorem dX6_readText_68 : decode cX6_readText 68 = .ok (.invokevirtual 64, 3) := by decide +kernel
theorem dX6_readText_71 : decode cX6_readText 71 = .ok (.ireturn, 1) := by decide +kernel
theorem dX6_readText_72 : decode cX6_readText 72 = .ok (.aload_n 0, 1) := by decide +kernel
theorem dX6_readText_73 : decode cX6_readText 73 = .ok (.invokevirtual 53, 3) := by decide +kernel
theorem dX6_readText_76 : decode cX6_readText 76 = .ok (.iinc 2 1, 3) := by decide +kernel
theorem dX6_readText_79 : decode cX6_readText 79 = .ok (.goto (-46), 3) := by decide +kernel
theorem dX6_readText_82 : decode cX6_readText 82 = .ok (.aload_n 0, 1) := by decide +kernel
theorem dX6_readText_83 : decode cX6_readText 83 = .ok (.invokevirtual 64, 3) := by decide +kernel
theorem dX6_readText_86 : decode cX6_readText 86 = .ok (.ireturn, 1) := by decide +kernel
theorem dX6_step_0 : decode cX6_step 0 = .ok (.aload_n 0, 1) := by decide +kernel
theorem dX6_step_1 : decode cX6_step 1 = .ok (.getfield 44, 3) := by decide +kernel
theorem dX6_step_4 : decode cX6_step 4 = .ok (.istore_n 1, 1) := by decide +kernel
theorem dX6_step_5 : decode cX6_step 5 = .ok (.iload_n 1, 1) := by decide +kernel
theorem dX6_step_6 : decode cX6_step 6 = .ok (.aload_n 0, 1) := by decide +kernel
theorem dX6_step_7 : decode cX6_step 7 = .ok (.getfield 24, 3) := by decide +kernel
theorem dX6_step_10 : decode cX6_step 10 = .ok (.if_icmp .ge 19, 3) := by decide +kernel
theorem dX6_step_13 : decode cX6_step 13 = .ok (.aload_n 0, 1) := by decide +kernel
theorem dX6_step_14 : decode cX6_step 14 = .ok (.iload_n 1, 1) := by decide +kernel
theorem dX6_step_15 : decode cX6_step 15 = .ok (.invokevirtual 148, 3) := by decide +kernel
theorem dX6_step_18 : decode cX6_step 18 = .ok (.bipush 32, 2) := by decide +kernel
theorem dX6_step_20 : decode cX6_step 20 = .ok (.if_icmp .ne 9, 3) := by decide +kernel
theorem dX6_step_23 : decode cX6_step 23 = .ok (.iinc 1 1, 3) := by decide +kernel
theorem dX6_step_26 : decode cX6_step 26 = .ok (.goto (-21), 3) := by decide +kernel
theorem dX6_step_29 : decode cX6_step 29 = .ok (.aload_n 0, 1) := by decide +kernel
theorem dX6_step_30 : decode cX6_step 30 = .ok (.iload_n 1, 1) := by decide +kernel
theorem dX6_step_31 : decode cX6_step 31 = .ok (.putfield 41, 3) := by decide +kernel
theorem dX6_step_34 : decode cX6_step 34 = .ok (.aload_n 0, 1) := by decide +kernel
theorem dX6_step_35 : decode cX6_step 35 = .ok (.iload_n 1, 1) := by decide +kernel
theorem dX6_step_36 : decode cX6_step 36 = .ok (.iconst 1, 1) := by decide +kernel
theorem dX6_step_37 : decode cX6_step 37 = .ok (.iadd, 1) := by decide +kernel
theorem dX6_step_38 : decode cX6_step 38 = .ok (.putfield 44, 3) := by decide +kernel
theorem dX6_step_41 : decode cX6_step 41 = .ok (.aload_n 0, 1) := by decide +kernel
theorem dX6_step_42 : decode cX6_step 42 = .ok (.iconst 0, 1) := by decide +kernel
theorem dX6_step_43 : decode cX6_step 43 = .ok (.putfield 47, 3) := by decide +kernel
theorem dX6_step_46 : decode cX6_step 46 = .ok (.iload_n 1, 1) := by decide +kernel
theorem dX6_step_47 : decode cX6_step 47 = .ok (.aload_n 0, 1) := by decide +kernel
theorem dX6_step_48 : decode cX6_step 48 = .ok (.getfield 24, 3) := by decide +kernel
theorem dX6_step_51 : decode cX6_step 51 = .ok (.if_icmp .lt 16, 3) := by decide +kernel
theorem dX6_step_54 : decode cX6_step 54 = .ok (.aload_n 0, 1) := by decide +kernel
theorem dX6_step_55 : decode cX6_step 55 = .ok (.iconst 0, 1) := by decide +kernel
theorem dX6_step_56 : decode cX6_step 56 = .ok (.putfield 38, 3) := by decide +kernel
theorem dX6_step_59 : decode cX6_step 59 = .ok (.aload_n 0, 1) := by decide +kernel
theorem dX6_step_60 : decode cX6_step 60 = .ok (.iload_n 1, 1) := by decide +kernel
theorem dX6_step_61 : decode cX6_step 61 = .ok (.putfield 44, 3) := by decide +kernel
theorem dX6_step_64 : decode cX6_step 64 = .ok (.goto 157, 3) := by decide +kernel
theorem dX6_step_67 : decode cX6_step 67 = .ok (.aload_n 0, 1) := by decide +kernel
theorem dX6_step_68 : decode cX6_step 68 = .ok (.iload_n 1, 1) := by decide +kernel
theorem dX6_step_69 : decode cX6_step 69 = .ok (.invokevirtual 148, 3) := by decide +kernel
theorem dX6_step_72 : decode cX6_step 72 = .ok (.invokestatic 152, 3) := by decide +kernel
theorem dX6_step_75 : decode cX6_step 75 = .ok (.ifCond .eq 46, 3) := by decide +kernel
theorem dX6_step_78 : decode cX6_step 78 = .ok (.aload_n 0, 1) := by decide +kernel
theorem dX6_step_79 : decode cX6_step 79 = .ok (.iconst 1, 1) := by decide +kernel
theorem dX6_step_80 : decode cX6_step 80 = .ok (.putfield 38, 3) := by decide +kernel
theorem dX6_step_83 : decode cX6_step 83 = .ok (.aload_n 0, 1) := by decide +kernel
theorem dX6_step_84 : decode cX6_step 84 = .ok (.getfield 44, 3) := by decide +kernel
theorem dX6_step_87 : decode cX6_step 87 = .ok (.aload_n 0, 1) := by decide +kernel
theorem dX6_step_88 : decode cX6_step 88 = .ok (.getfield 24, 3) := by decide +kernel
theorem dX6_step_91 : decode cX6_step 91 = .ok (.if_icmp .ge 130, 3) := by decide +kernel
theorem dX6_step_94 : decode cX6_step 94 = .ok (.aload_n 0, 1) := by decide +kernel
theorem dX6_step_95 : decode cX6_step 95 = .ok (.aload_n 0, 1) := by decide +kernel
theorem dX6_step_96 : decode cX6_step 96 = .ok (.getfield 44, 3) := by decide +kernel
theorem dX6_step_99 : decode cX6_step 99 = .ok (.invokevirtual 148, 3) := by decide +kernel
theorem dX6_step_102 : decode cX6_step 102 = .ok (.invokestatic 152, 3) := by decide +kernel
theorem dX6_step_105 : decode cX6_step 105 = .ok (.ifCond .eq 116, 3) := by decide +kernel
theorem dX6_step_108 : decode cX6_step 108 = .ok (.aload_n 0, 1) := by decide +kernel
theorem dX6_step_109 : decode cX6_step 109 = .ok (.dup, 1) := by decide +kernel
theorem dX6_step_110 : decode cX6_step 110 = .ok (.getfield 44, 3) := by decide +kernel
theorem dX6_step_113 : decode cX6_step 113 = .ok (.iconst 1, 1) := by decide +kernel
theorem dX6_step_114 : decode cX6_step 114 = .ok (.iadd, 1) := by decide +kernel
theorem dX6_step_115 : decode cX6_step 115 = .ok (.putfield 44, 3) := by decide +kernel
theorem dX6_step_118 : decode cX6_step 118 = .ok (.goto (-35), 3) := by decide +kernel
theorem dX6_step_121 : decode cX6_step 121 = .ok (.aload_n 0, 1) := by decide +kernel
theorem dX6_step_122 : decode cX6_step 122 = .ok (.iload_n 1, 1) := by decide +kernel
theorem dX6_step_123 : decode cX6_step 123 = .ok (.invokevirtual 148, 3) := by decide +kernel
theorem dX6_step_126 : decode cX6_step 126 = .ok (.invokestatic 155, 3) := by decide +kernel
theorem dX6_step_129 : decode cX6_step 129 = .ok (.ifCond .eq 87, 3) := by decide +kernel
theorem dX6_step_132 : decode cX6_step 132 = .ok (.aload_n 0, 1) := by decide +kernel
theorem dX6_step_133 : decode cX6_step 133 = .ok (.iconst 2, 1) := by decide +kernel
theorem dX6_step_134 : decode cX6_step 134 = .ok (.putfield 38, 3) := by decide +kernel
theorem dX6_step_137 : decode cX6_step 137 = .ok (.aload_n 0, 1) := by decide +kernel
theorem dX6_step_138 : decode cX6_step 138 = .ok (.aload_n 0, 1) := by decide +kernel
theorem dX6_step_139 : decode cX6_step 139 = .ok (.iload_n 1, 1) := by decide +kernel
theorem dX6_step_140 : decode cX6_step 140 = .ok (.invokevirtual 148, 3) := by decide +kernel
theorem dX6_step_143 : decode cX6_step 143 = .ok (.bipush 48, 2) := by decide +kernel
theorem dX6_step_145 : decode cX6_step 145 = .ok (.isub, 1) := by decide +kernel
theorem dX6_step_146 : decode cX6_step 146 = .ok (.putfield 47, 3) := by decide +kernel
theorem dX6_step_149 : decode cX6_step 149 = .ok (.aload_n 0, 1) := by decide +kernel
theorem dX6_step_150 : decode cX6_step 150 = .ok (.getfield 44, 3) := by decide +kernel
theorem dX6_step_153 : decode cX6_step 153 = .ok (.aload_n 0, 1) := by decide +kernel
theorem dX6_step_154 : decode cX6_step 154 = .ok (.getfield 24, 3) := by decide +kernel
theorem dX6_step_157 : decode cX6_step 157 = .ok (.if_icmp .ge 64, 3) := by decide +kernel
theorem dX6_step_160 : decode cX6_step 160 = .ok (.aload_n 0, 1) := by decide +kernel
theorem dX6_step_161 : decode cX6_step 161 = .ok (.aload_n 0, 1) := by decide +kernel
theorem dX6_step_162 : decode cX6_step 162 = .ok (.getfield 44, 3) := by decide +kernel
theorem dX6_step_165 : decode cX6_step 165 = .ok (.invokevirtual 148, 3) := by decide +kernel
theorem dX6_step_168 : decode cX6_step 168 = .ok (.invokestatic 155, 3) := by decide +kernel
theorem dX6_step_171 : decode cX6_step 171 = .ok (.ifCond .eq 50, 3) := by decide +kernel
theorem dX6_step_174 : decode cX6_step 174 = .ok (.aload_n 0, 1) := by decide +kernel
theorem dX6_step_175 : decode cX6_step 175 = .ok (.sipush 1001, 3) := by decide +kernel
theorem dX6_step_178 : decode cX6_step 178 = .ok (.aload_n 0, 1) := by decide +kernel
theorem dX6_step_179 : decode cX6_step 179 = .ok (.getfield 47, 3) := by decide +kernel
theorem dX6_step_182 : decode cX6_step 182 = .ok (.bipush 10, 2) := by decide +kernel
theorem dX6_step_184 : decode cX6_step 184 = .ok (.imul, 1) := by decide +kernel
theorem dX6_step_185 : decode cX6_step 185 = .ok (.aload_n 0, 1) := by decide +kernel
theorem dX6_step_186 : decode cX6_step 186 = .ok (.aload_n 0, 1) := by decide +kernel
theorem dX6_step_187 : decode cX6_step 187 = .ok (.getfield 44, 3) := by decide +kernel
theorem dX6_step_190 : decode cX6_step 190 = .ok (.invokevirtual 148, 3) := by decide +kernel
theorem dX6_step_193 : decode cX6_step 193 = .ok (.iadd, 1) := by decide +kernel
theorem dX6_step_194 : decode cX6_step 194 = .ok (.bipush 48, 2) := by decide +kernel
theorem dX6_step_196 : decode cX6_step 196 = .ok (.isub, 1) := by decide +kernel
theorem dX6_step_197 : decode cX6_step 197 = .ok (.invokestatic 158, 3) := by decide +kernel
theorem dX6_step_200 : decode cX6_step 200 = .ok (.putfield 47, 3) := by decide +kernel
theorem dX6_step_203 : decode cX6_step 203 = .ok (.aload_n 0, 1) := by decide +kernel
theorem dX6_step_204 : decode cX6_step 204 = .ok (.dup, 1) := by decide +kernel
theorem dX6_step_205 : decode cX6_step 205 = .ok (.getfield 44, 3) := by decide +kernel
theorem dX6_step_208 : decode cX6_step 208 = .ok (.iconst 1, 1) := by decide +kernel
theorem dX6_step_209 : decode cX6_step 209 = .ok (.iadd, 1) := by decide +kernel
theorem dX6_step_210 : decode cX6_step 210 = .ok (.putfield 44, 3) := by decide +kernel
theorem dX6_step_213 : decode cX6_step 213 = .ok (.goto (-64), 3) := by decide +kernel
theorem dX6_step_216 : decode cX6_step 216 = .ok (.aload_n 0, 1) := by decide +kernel
theorem dX6_step_217 : decode cX6_step 217 = .ok (.iconst 3, 1) := by decide +kernel
theorem dX6_step_218 : decode cX6_step 218 = .ok (.putfield 38, 3) := by decide +kernel
theorem dX6_step_221 : decode cX6_step 221 = .ok (.return_, 1) := by decide +kernel
theorem dX6_stop_0 : decode cX6_stop 0 = .ok (.aload_n 0, 1) := by decide +kernel
theorem dX6_stop_1 : decode cX6_stop 1 = .ok (.aload_n 0, 1) := by decide +kernel
theorem dX6_stop_2 : decode cX6_stop 2 = .ok (.getfield 41, 3) := by decide +kernel
theorem dX6_stop_5 : decode cX6_stop 5 = .ok (.putfield 28, 3) := by decide +kernel
theorem dX6_stop_8 : decode cX6_stop 8 = .ok (.iconst 0, 1) := by decide +kernel
theorem dX6_stop_9 : decode cX6_stop 9 = .ok (.ireturn, 1) := by decide +kernel
theorem dX6_wordOf_0 : decode cX6_wordOf 0 = .ok (.aload_n 0, 1) := by decide +kernel
theorem dX6_wordOf_1 : decode cX6_wordOf 1 = .ok (.getfield 38, 3) := by decide +kernel
theorem dX6_wordOf_4 : decode cX6_wordOf 4 = .ok (.iconst 1, 1) := by decide +kernel
theorem dX6_wordOf_5 : decode cX6_wordOf 5 = .ok (.if_icmp .eq 5, 3) := by decide +kernel
theorem dX6_wordOf_8 : decode cX6_wordOf 8 = .ok (.iconst (-1), 1) := by decide +kernel
theorem dX6_wordOf_9 : decode cX6_wordOf 9 = .ok (.ireturn, 1) := by decide +kernel
theorem dX6_wordOf_10 : decode cX6_wordOf 10 = .ok (.iconst 0, 1) := by decide +kernel
theorem dX6_wordOf_11 : decode cX6_wordOf 11 = .ok (.istore_n 2, 1) := by decide +kernel
theorem dX6_wordOf_12 : decode cX6_wordOf 12 = .ok (.iconst 0, 1) := by decide +kernel
theorem dX6_wordOf_13 : decode cX6_wordOf 13 = .ok (.istore_n 3, 1) := by decide +kernel
theorem dX6_wordOf_14 : decode cX6_wordOf 14 = .ok (.iconst 0, 1) := by decide +kernel
theorem dX6_wordOf_15 : decode cX6_wordOf 15 = .ok (.istore 4, 2) := by decide +kernel
theorem dX6_wordOf_17 : decode cX6_wordOf 17 = .ok (.iload 4, 2) := by decide +kernel
theorem dX6_wordOf_19 : decode cX6_wordOf 19 = .ok (.aload_n 1, 1) := by decide +kernel
theorem dX6_wordOf_20 : decode cX6_wordOf 20 = .ok (.invokevirtual 163, 3) := by decide +kernel
theorem dX6_wordOf_23 : decode cX6_wordOf 23 = .ok (.if_icmp .gt 50, 3) := by decide +kernel
theorem dX6_wordOf_26 : decode cX6_wordOf 26 = .ok (.iload 4, 2) := by decide +kernel
theorem dX6_wordOf_28 : decode cX6_wordOf 28 = .ok (.aload_n 1, 1) := by decide +kernel
theorem dX6_wordOf_29 : decode cX6_wordOf 29 = .ok (.invokevirtual 163, 3) := by decide +kernel
theorem dX6_wordOf_32 : decode cX6_wordOf 32 = .ok (.if_icmp .eq 14, 3) := by decide +kernel
theorem dX6_wordOf_35 : decode cX6_wordOf 35 = .ok (.aload_n 1, 1) := by decide +kernel
theorem dX6_wordOf_36 : decode cX6_wordOf 36 = .ok (.iload 4, 2) := by decide +kernel
theorem dX6_wordOf_38 : decode cX6_wordOf 38 = .ok (.invokevirtual 169, 3) := by decide +kernel
theorem dX6_wordOf_41 : decode cX6_wordOf 41 = .ok (.bipush 32, 2) := by decide +kernel
theorem dX6_wordOf_43 : decode cX6_wordOf 43 = .ok (.if_icmp .ne 24, 3) := by decide +kernel
theorem dX6_wordOf_46 : decode cX6_wordOf 46 = .ok (.aload_n 0, 1) := by decide +kernel
theorem dX6_wordOf_47 : decode cX6_wordOf 47 = .ok (.aload_n 1, 1) := by decide +kernel
theorem dX6_wordOf_48 : decode cX6_wordOf 48 = .ok (.iload_n 3, 1) := by decide +kernel
theorem dX6_wordOf_49 : decode cX6_wordOf 49 = .ok (.iload 4, 2) := by decide +kernel
theorem dX6_wordOf_51 : decode cX6_wordOf 51 = .ok (.invokevirtual 173, 3) := by decide +kernel
theorem dX6_wordOf_54 : decode cX6_wordOf 54 = .ok (.ifCond .eq 5, 3) := by decide +kernel
theorem dX6_wordOf_57 : decode cX6_wordOf 57 = .ok (.iload_n 2, 1) := by decide +kernel
theorem dX6_wordOf_58 : decode cX6_wordOf 58 = .ok (.ireturn, 1) := by decide +kernel
theorem dX6_wordOf_59 : decode cX6_wordOf 59 = .ok (.iinc 2 1, 3) := by decide +kernel
theorem dX6_wordOf_62 : decode cX6_wordOf 62 = .ok (.iload 4, 2) := by decide +kernel
theorem dX6_wordOf_64 : decode cX6_wordOf 64 = .ok (.iconst 1, 1) := by decide +kernel
theorem dX6_wordOf_65 : decode cX6_wordOf 65 = .ok (.iadd, 1) := by decide +kernel
theorem dX6_wordOf_66 : decode cX6_wordOf 66 = .ok (.istore_n 3, 1) := by decide +kernel
theorem dX6_wordOf_67 : decode cX6_wordOf 67 = .ok (.iinc 4 1, 3) := by decide +kernel
theorem dX6_wordOf_70 : decode cX6_wordOf 70 = .ok (.goto (-53), 3) := by decide +kernel
theorem dX6_wordOf_73 : decode cX6_wordOf 73 = .ok (.iconst (-1), 1) := by decide +kernel
theorem dX6_wordOf_74 : decode cX6_wordOf 74 = .ok (.ireturn, 1) := by decide +kernel
theorem dX7_awaitChildren_0 : decode cX7_awaitChildren 0 = .ok (.iload_n 2, 1) := by decide +kernel
theorem dX7_awaitChildren_1 : decode cX7_awaitChildren 1 = .ok (.istore_n 3, 1) := by decide +kernel
theorem dX7_awaitChildren_2 : decode cX7_awaitChildren 2 = .ok (.aload_n 0, 1) := by decide +kernel
theorem dX7_awaitChildren_3 : decode cX7_awaitChildren 3 = .ok (.getfield 48, 3) := by decide +kernel
theorem dX7_awaitChildren_6 : decode cX7_awaitChildren 6 = .ok (.getfield 55, 3) := by decide +kernel
theorem dX7_awaitChildren_9 : decode cX7_awaitChildren 9 = .ok (.iconst 1, 1) := by decide +kernel
theorem dX7_awaitChildren_10 : decode cX7_awaitChildren 10 = .ok (.isub, 1) := by decide +kernel
theorem dX7_awaitChildren_11 : decode cX7_awaitChildren 11 = .ok (.istore 4, 2) := by decide +kernel
theorem dX7_awaitChildren_13 : decode cX7_awaitChildren 13 = .ok (.iload 4, 2) := by decide +kernel
theorem dX7_awaitChildren_15 : decode cX7_awaitChildren 15 = .ok (.ifCond .lt 40, 3) := by decide +kernel
theorem dX7_awaitChildren_18 : decode cX7_awaitChildren 18 = .ok (.aload_n 0, 1) := by decide +kernel
theorem dX7_awaitChildren_19 : decode cX7_awaitChildren 19 = .ok (.getfield 48, 3) := by decide +kernel
theorem dX7_awaitChildren_22 : decode cX7_awaitChildren 22 = .ok (.getfield 158, 3) := by decide +kernel
theorem dX7_awaitChildren_25 : decode cX7_awaitChildren 25 = .ok (.iload 4, 2) := by decide +kernel
theorem dX7_awaitChildren_27 : decode cX7_awaitChildren 27 = .ok (.iaload, 1) := by decide +kernel
theorem dX7_awaitChildren_28 : decode cX7_awaitChildren 28 = .ok (.iload_n 1, 1) := by decide +kernel
theorem dX7_awaitChildren_29 : decode cX7_awaitChildren 29 = .ok (.if_icmp .ne 20, 3) := by decide +kernel
theorem dX7_awaitChildren_32 : decode cX7_awaitChildren 32 = .ok (.iload_n 3, 1) := by decide +kernel
theorem dX7_awaitChildren_33 : decode cX7_awaitChildren 33 = .ok (.bipush 7, 2) := by decide +kernel
theorem dX7_awaitChildren_35 : decode cX7_awaitChildren 35 = .ok (.if_icmp .ge 14, 3) := by decide +kernel
theorem dX7_awaitChildren_38 : decode cX7_awaitChildren 38 = .ok (.aload_n 0, 1) := by decide +kernel
theorem dX7_awaitChildren_39 : decode cX7_awaitChildren 39 = .ok (.getfield 15, 3) := by decide +kernel
theorem dX7_awaitChildren_42 : decode cX7_awaitChildren 42 = .ok (.iload_n 3, 1) := by decide +kernel
theorem dX7_awaitChildren_43 : decode cX7_awaitChildren 43 = .ok (.iload 4, 2) := by decide +kernel
theorem dX7_awaitChildren_45 : decode cX7_awaitChildren 45 = .ok (.iastore, 1) := by decide +kernel
theorem dX7_awaitChildren_46 : decode cX7_awaitChildren 46 = .ok (.iinc 3 1, 3) := by decide +kernel
theorem dX7_awaitChildren_49 : decode cX7_awaitChildren 49 = .ok (.iinc 4 (-1), 3) := by decide +kernel
theorem dX7_awaitChildren_52 : decode cX7_awaitChildren 52 = .ok (.goto (-39), 3) := by decide +kernel
theorem dX7_awaitChildren_55 : decode cX7_awaitChildren 55 = .ok (.iload_n 3, 1) := by decide +kernel
theorem dX7_awaitChildren_56 : decode cX7_awaitChildren 56 = .ok (.ireturn, 1) := by decide +kernel
theorem dX7_bestFrom_0 : decode cX7_bestFrom 0 = .ok (.aload_n 0, 1) := by decide +kernel
theorem dX7_bestFrom_1 : decode cX7_bestFrom 1 = .ok (.getfield 18, 3) := by decide +kernel
theorem dX7_bestFrom_4 : decode cX7_bestFrom 4 = .ok (.iload_n 1, 1) := by decide +kernel
theorem dX7_bestFrom_5 : decode cX7_bestFrom 5 = .ok (.iconst 1, 1) := by decide +kernel
theorem dX7_bestFrom_6 : decode cX7_bestFrom 6 = .ok (.iadd, 1) := by decide +kernel
theorem dX7_bestFrom_7 : decode cX7_bestFrom 7 = .ok (.sipush 128, 3) := by decide +kernel
theorem dX7_bestFrom_10 : decode cX7_bestFrom 10 = .ok (.imul, 1) := by decide +kernel
theorem dX7_bestFrom_11 : decode cX7_bestFrom 11 = .ok (.iload_n 2, 1) := by decide +kernel
theorem dX7_bestFrom_12 : decode cX7_bestFrom 12 = .ok (.iadd, 1) := by decide +kernel
theorem dX7_bestFrom_13 : decode cX7_bestFrom 13 = .ok (.iaload, 1) := by decide +kernel
theorem dX7_bestFrom_14 : decode cX7_bestFrom 14 = .ok (.istore_n 3, 1) := by decide +kernel
theorem dX7_bestFrom_15 : decode cX7_bestFrom 15 = .ok (.iconst 0, 1) := by decide +kernel
theorem dX7_bestFrom_16 : decode cX7_bestFrom 16 = .ok (.istore 4, 2) := by decide +kernel
theorem dX7_bestFrom_18 : decode cX7_bestFrom 18 = .ok (.iload 4, 2) := by decide +kernel
theorem dX7_bestFrom_20 : decode cX7_bestFrom 20 = .ok (.aload_n 0, 1) := by decide +kernel
theorem dX7_bestFrom_21 : decode cX7_bestFrom 21 = .ok (.getfield 48, 3) := by decide +kernel
theorem dX7_bestFrom_24 : decode cX7_bestFrom 24 = .ok (.getfield 55, 3) := by decide +kernel
theorem dX7_bestFrom_27 : decode cX7_bestFrom 27 = .ok (.if_icmp .ge 22, 3) := by decide +kernel
theorem dX7_bestFrom_30 : decode cX7_bestFrom 30 = .ok (.iload_n 3, 1) := by decide +kernel
theorem dX7_bestFrom_31 : decode cX7_bestFrom 31 = .ok (.aload_n 0, 1) := by decide +kernel
theorem dX7_bestFrom_32 : decode cX7_bestFrom 32 = .ok (.iload 4, 2) := by decide +kernel
theorem dX7_bestFrom_34 : decode cX7_bestFrom 34 = .ok (.iload_n 1, 1) := by decide +kernel
theorem dX7_bestFrom_35 : decode cX7_bestFrom 35 = .ok (.iload_n 2, 1) := by decide +kernel
theorem dX7_bestFrom_36 : decode cX7_bestFrom 36 = .ok (.invokevirtual 148, 3) := by decide +kernel
theorem dX7_bestFrom_39 : decode cX7_bestFrom 39 = .ok (.invokestatic 121, 3) := by decide +kernel
theorem dX7_bestFrom_42 : decode cX7_bestFrom 42 = .ok (.istore_n 3, 1) := by decide +kernel
theorem dX7_bestFrom_43 : decode cX7_bestFrom 43 = .ok (.iinc 4 1, 3) := by decide +kernel
theorem dX7_bestFrom_46 : decode cX7_bestFrom 46 = .ok (.goto (-28), 3) := by decide +kernel
theorem dX7_bestFrom_49 : decode cX7_bestFrom 49 = .ok (.iload_n 3, 1) := by decide +kernel
theorem dX7_bestFrom_50 : decode cX7_bestFrom 50 = .ok (.ireturn, 1) := by decide +kernel
theorem dX7_chanceOfFewer_0 : decode cX7_chanceOfFewer 0 = .ok (.aload_n 0, 1) := by decide +kernel
theorem dX7_chanceOfFewer_1 : decode cX7_chanceOfFewer 1 = .ok (.getfield 31, 3) := by decide +kernel
theorem dX7_chanceOfFewer_4 : decode cX7_chanceOfFewer 4 = .ok (.lconst 0, 1) := by decide +kernel
theorem dX7_chanceOfFewer_5 : decode cX7_chanceOfFewer 5 = .ok (.invokestatic 163, 3) := by decide +kernel
theorem dX7_chanceOfFewer_8 : decode cX7_chanceOfFewer 8 = .ok (.aload_n 0, 1) := by decide +kernel
theorem dX7_chanceOfFewer_9 : decode cX7_chanceOfFewer 9 = .ok (.getfield 31, 3) := by decide +kernel
theorem dX7_chanceOfFewer_12 : decode cX7_chanceOfFewer 12 = .ok (.iconst 0, 1) := by decide +kernel
theorem dX7_chanceOfFewer_13 : decode cX7_chanceOfFewer 13 = .ok (.ldc2_w 166, 3) := by decide +kernel
theorem dX7_chanceOfFewer_16 : decode cX7_chanceOfFewer 16 = .ok (.lastore, 1) := by decide +kernel
theorem dX7_chanceOfFewer_17 : decode cX7_chanceOfFewer 17 = .ok (.iload_n 1, 1) := by decide +kernel
theorem dX7_chanceOfFewer_18 : decode cX7_chanceOfFewer 18 = .ok (.bipush 20, 2) := by decide +kernel
theorem dX7_chanceOfFewer_20 : decode cX7_chanceOfFewer 20 = .ok (.invokestatic 129, 3) := by decide +kernel
theorem dX7_chanceOfFewer_23 : decode cX7_chanceOfFewer 23 = .ok (.istore_n 3, 1) := by decide +kernel
theorem dX7_chanceOfFewer_24 : decode cX7_chanceOfFewer 24 = .ok (.iconst 0, 1) := by decide +kernel
theorem dX7_chanceOfFewer_25 : decode cX7_chanceOfFewer 25 = .ok (.istore 4, 2) := by decide +kernel
theorem dX7_chanceOfFewer_27 : decode cX7_chanceOfFewer 27 = .ok (.iload 4, 2) := by decide +kernel
theorem dX7_chanceOfFewer_29 : decode cX7_chanceOfFewer 29 = .ok (.iload_n 2, 1) := by decide +kernel
theorem dX7_chanceOfFewer_30 : decode cX7_chanceOfFewer 30 = .ok (.if_icmp .ge 91, 3) := by decide +kernel
theorem dX7_chanceOfFewer_33 : decode cX7_chanceOfFewer 33 = .ok (.iload_n 3, 1) := by decide +kernel
theorem dX7_chanceOfFewer_34 : decode cX7_chanceOfFewer 34 = .ok (.iconst 1, 1) := by decide +kernel
theorem dX7_chanceOfFewer_35 : decode cX7_chanceOfFewer 35 = .ok (.isub, 1) := by decide +kernel
theorem dX7_chanceOfFewer_36 : decode cX7_chanceOfFewer 36 = .ok (.istore 5, 2) := by decide +kernel
theorem dX7_chanceOfFewer_38 : decode cX7_chanceOfFewer 38 = .ok (.iload 5, 2) := by decide +kernel
theorem dX7_chanceOfFewer_40 : decode cX7_chanceOfFewer 40 = .ok (.ifCond .lt 75, 3) := by decide +kernel
theorem dX7_chanceOfFewer_43 : decode cX7_chanceOfFewer 43 = .ok (.iload 5, 2) := by decide +kernel
theorem dX7_chanceOfFewer_45 : decode cX7_chanceOfFewer 45 = .ok (.ifCond .le 28, 3) := by decide +kernel
theorem dX7_chanceOfFewer_48 : decode cX7_chanceOfFewer 48 = .ok (.aload_n 0, 1) := by decide +kernel
theorem dX7_chanceOfFewer_49 : decode cX7_chanceOfFewer 49 = .ok (.getfield 31, 3) := by decide +kernel
theorem dX7_chanceOfFewer_52 : decode cX7_chanceOfFewer 52 = .ok (.iload 5, 2) := by decide +kernel
theorem dX7_chanceOfFewer_54 : decode cX7_chanceOfFewer 54 = .ok (.iconst 1, 1) := by decide +kernel
theorem dX7_chanceOfFewer_55 : decode cX7_chanceOfFewer 55 = .ok (.isub, 1) := by decide +kernel
theorem dX7_chanceOfFewer_56 : decode cX7_chanceOfFewer 56 = .ok (.laload, 1) := by decide +kernel
theorem dX7_chanceOfFewer_57 : decode cX7_chanceOfFewer 57 = .ok (.aload_n 0, 1) := by decide +kernel
theorem dX7_chanceOfFewer_58 : decode cX7_chanceOfFewer 58 = .ok (.getfield 48, 3) := by decide +kernel
theorem dX7_chanceOfFewer_61 : decode cX7_chanceOfFewer 61 = .ok (.getfield 168, 3) := by decide +kernel
theorem dX7_chanceOfFewer_64 : decode cX7_chanceOfFewer 64 = .ok (.i2l, 1) := by decide +kernel
theorem dX7_chanceOfFewer_65 : decode cX7_chanceOfFewer 65 = .ok (.lmul, 1) := by decide +kernel
theorem dX7_chanceOfFewer_66 : decode cX7_chanceOfFewer 66 = .ok (.ldc2_w 171, 3) := by decide +kernel
theorem dX7_chanceOfFewer_69 : decode cX7_chanceOfFewer 69 = .ok (.ldiv, 1) := by decide +kernel
theorem dX7_chanceOfFewer_70 : decode cX7_chanceOfFewer 70 = .ok (.goto 4, 3) := by decide +kernel
theorem dX7_chanceOfFewer_73 : decode cX7_chanceOfFewer 73 = .ok (.lconst 0, 1) := by decide +kernel
theorem dX7_chanceOfFewer_74 : decode cX7_chanceOfFewer 74 = .ok (.lstore 6, 2) := by decide +kernel
theorem dX7_chanceOfFewer_76 : decode cX7_chanceOfFewer 76 = .ok (.aload_n 0, 1) := by decide +kernel
theorem dX7_chanceOfFewer_77 : decode cX7_chanceOfFewer 77 = .ok (.getfield 31, 3) := by decide +kernel
theorem dX7_chanceOfFewer_80 : decode cX7_chanceOfFewer 80 = .ok (.iload 5, 2) := by decide +kernel
theorem dX7_chanceOfFewer_82 : decode cX7_chanceOfFewer 82 = .ok (.aload_n 0, 1) := by decide +kernel
theorem dX7_chanceOfFewer_83 : decode cX7_chanceOfFewer 83 = .ok (.getfield 31, 3) := by decide +kernel
theorem dX7_chanceOfFewer_86 : decode cX7_chanceOfFewer 86 = .ok (.iload 5, 2) := by decide +kernel
theorem dX7_chanceOfFewer_88 : decode cX7_chanceOfFewer 88 = .ok (.laload, 1) := by decide +kernel
theorem dX7_chanceOfFewer_89 : decode cX7_chanceOfFewer 89 = .ok (.bipush 10, 2) := by decide +kernel
theorem dX7_chanceOfFewer_91 : decode cX7_chanceOfFewer 91 = .ok (.aload_n 0, 1) := by decide +kernel
theorem dX7_chanceOfFewer_92 : decode cX7_chanceOfFewer 92 = .ok (.getfield 48, 3) := by decide +kernel
theorem dX7_chanceOfFewer_95 : decode cX7_chanceOfFewer 95 = .ok (.getfield 168, 3) := by decide +kernel
theorem dX7_chanceOfFewer_98 : decode cX7_chanceOfFewer 98 = .ok (.isub, 1) := by decide +kernel
theorem dX7_chanceOfFewer_99 : decode cX7_chanceOfFewer 99 = .ok (.i2l, 1) := by decide +kernel
theorem dX7_chanceOfFewer_100 : decode cX7_chanceOfFewer 100 = .ok (.lmul, 1) := by decide +kernel
theorem dX7_chanceOfFewer_101 : decode cX7_chanceOfFewer 101 = .ok (.ldc2_w 171, 3) := by decide +kernel
theorem dX7_chanceOfFewer_104 : decode cX7_chanceOfFewer 104 = .ok (.ldiv, 1) := by decide +kernel
theorem dX7_chanceOfFewer_105 : decode cX7_chanceOfFewer 105 = .ok (.lload 6, 2) := by decide +kernel
theorem dX7_chanceOfFewer_107 : decode cX7_chanceOfFewer 107 = .ok (.ladd, 1) := by decide +kernel
theorem dX7_chanceOfFewer_108 : decode cX7_chanceOfFewer 108 = .ok (.lastore, 1) := by decide +kernel
theorem dX7_chanceOfFewer_109 : decode cX7_chanceOfFewer 109 = .ok (.iinc 5 (-1), 3) := by decide +kernel
theorem dX7_chanceOfFewer_112 : decode cX7_chanceOfFewer 112 = .ok (.goto (-74), 3) := by decide +kernel
theorem dX7_chanceOfFewer_115 : decode cX7_chanceOfFewer 115 = .ok (.iinc 4 1, 3) := by decide +kernel
theorem dX7_chanceOfFewer_118 : decode cX7_chanceOfFewer 118 = .ok (.goto (-91), 3) := by decide +kernel
theorem dX7_chanceOfFewer_121 : decode cX7_chanceOfFewer 121 = .ok (.lconst 0, 1) := by decide +kernel
theorem dX7_chanceOfFewer_122 : decode cX7_chanceOfFewer 122 = .ok (.lstore 4, 2) := by decide +kernel
theorem dX7_chanceOfFewer_124 : decode cX7_chanceOfFewer 124 = .ok (.iconst 0, 1) := by decide +kernel
theorem dX7_chanceOfFewer_125 : decode cX7_chanceOfFewer 125 = .ok (.istore 6, 2) := by decide +kernel
theorem dX7_chanceOfFewer_127 : decode cX7_chanceOfFewer 127 = .ok (.iload 6, 2) := by decide +kernel
theorem dX7_chanceOfFewer_129 : decode cX7_chanceOfFewer 129 = .ok (.iload_n 3, 1) := by decide +kernel
theorem dX7_chanceOfFewer_130 : decode cX7_chanceOfFewer 130 = .ok (.if_icmp .ge 21, 3) := by decide +kernel
theorem dX7_chanceOfFewer_133 : decode cX7_chanceOfFewer 133 = .ok (.lload 4, 2) := by decide +kernel
theorem dX7_chanceOfFewer_135 : decode cX7_chanceOfFewer 135 = .ok (.aload_n 0, 1) := by decide +kernel
theorem dX7_chanceOfFewer_136 : decode cX7_chanceOfFewer 136 = .ok (.getfield 31, 3) := by decide +kernel
theorem dX7_chanceOfFewer_139 : decode cX7_chanceOfFewer 139 = .ok (.iload 6, 2) := by decide +kernel
theorem dX7_chanceOfFewer_141 : decode cX7_chanceOfFewer 141 = .ok (.laload, 1) := by decide +kernel
theorem dX7_chanceOfFewer_142 : decode cX7_chanceOfFewer 142 = .ok (.ladd, 1) := by decide +kernel
theorem dX7_chanceOfFewer_143 : decode cX7_chanceOfFewer 143 = .ok (.lstore 4, 2) := by decide +kernel
theorem dX7_chanceOfFewer_145 : decode cX7_chanceOfFewer 145 = .ok (.iinc 6 1, 3) := by decide +kernel
theorem dX7_chanceOfFewer_148 : decode cX7_chanceOfFewer 148 = .ok (.goto (-21), 3) := by decide +kernel
theorem dX7_chanceOfFewer_151 : decode cX7_chanceOfFewer 151 = .ok (.lload 4, 2) := by decide +kernel
theorem dX7_chanceOfFewer_153 : decode cX7_chanceOfFewer 153 = .ok (.lreturn, 1) := by decide +kernel
theorem dX7_circleCount_0 : decode cX7_circleCount 0 = .ok (.iconst 0, 1) := by decide +kernel
theorem dX7_circleCount_1 : decode cX7_circleCount 1 = .ok (.istore_n 1, 1) := by decide +kernel
theorem dX7_circleCount_2 : decode cX7_circleCount 2 = .ok (.iconst 0, 1) := by decide +kernel
theorem dX7_circleCount_3 : decode cX7_circleCount 3 = .ok (.istore_n 2, 1) := by decide +kernel
theorem dX7_circleCount_4 : decode cX7_circleCount 4 = .ok (.iload_n 2, 1) := by decide +kernel
theorem dX7_circleCount_5 : decode cX7_circleCount 5 = .ok (.aload_n 0, 1) := by decide +kernel
theorem dX7_circleCount_6 : decode cX7_circleCount 6 = .ok (.getfield 48, 3) := by decide +kernel
theorem dX7_circleCount_9 : decode cX7_circleCount 9 = .ok (.getfield 55, 3) := by decide +kernel
theorem dX7_circleCount_12 : decode cX7_circleCount 12 = .ok (.if_icmp .ge 78, 3) := by decide +kernel
theorem dX7_circleCount_15 : decode cX7_circleCount 15 = .ok (.iload_n 2, 1) := by decide +kernel
theorem dX7_circleCount_16 : decode cX7_circleCount 16 = .ok (.iconst 1, 1) := by decide +kernel
theorem dX7_circleCount_17 : decode cX7_circleCount 17 = .ok (.iadd, 1) := by decide +kernel
theorem dX7_circleCount_18 : decode cX7_circleCount 18 = .ok (.istore_n 3, 1) := by decide +kernel
theorem dX7_circleCount_19 : decode cX7_circleCount 19 = .ok (.iload_n 3, 1) := by decide +kernel
theorem dX7_circleCount_20 : decode cX7_circleCount 20 = .ok (.aload_n 0, 1) := by decide +kernel
theorem dX7_circleCount_21 : decode cX7_circleCount 21 = .ok (.getfield 48, 3) := by decide +kernel
theorem dX7_circleCount_24 : decode cX7_circleCount 24 = .ok (.getfield 55, 3) := by decide +kernel
theorem dX7_circleCount_27 : decode cX7_circleCount 27 = .ok (.if_icmp .ge 57, 3) := by decide +kernel
theorem dX7_circleCount_30 : decode cX7_circleCount 30 = .ok (.iload_n 3, 1) := by decide +kernel
theorem dX7_circleCount_31 : decode cX7_circleCount 31 = .ok (.iconst 1, 1) := by decide +kernel
theorem dX7_circleCount_32 : decode cX7_circleCount 32 = .ok (.iadd, 1) := by decide +kernel
theorem dX7_circleCount_33 : decode cX7_circleCount 33 = .ok (.istore 4, 2) := by decide +kernel
theorem dX7_circleCount_35 : decode cX7_circleCount 35 = .ok (.iload 4, 2) := by decide +kernel
theorem dX7_circleCount_37 : decode cX7_circleCount 37 = .ok (.aload_n 0, 1) := by decide +kernel
theorem dX7_circleCount_38 : decode cX7_circleCount 38 = .ok (.getfield 48, 3) := by decide +kernel
theorem dX7_circleCount_41 : decode cX7_circleCount 41 = .ok (.getfield 55, 3) := by decide +kernel
theorem dX7_circleCount_44 : decode cX7_circleCount 44 = .ok (.if_icmp .ge 34, 3) := by decide +kernel
theorem dX7_circleCount_47 : decode cX7_circleCount 47 = .ok (.aload_n 0, 1) := by decide +kernel
theorem dX7_circleCount_48 : decode cX7_circleCount 48 = .ok (.iload_n 2, 1) := by decide +kernel
theorem dX7_circleCount_49 : decode cX7_circleCount 49 = .ok (.iload_n 3, 1) := by decide +kernel
theorem dX7_circleCount_50 : decode cX7_circleCount 50 = .ok (.iload 4, 2) := by decide +kernel
theorem dX7_circleCount_52 : decode cX7_circleCount 52 = .ok (.invokevirtual 138, 3) := by decide +kernel
theorem dX7_circleCount_55 : decode cX7_circleCount 55 = .ok (.ifCond .ne 14, 3) := by decide +kernel
theorem dX7_circleCount_58 : decode cX7_circleCount 58 = .ok (.aload_n 0, 1) := by decide +kernel
theorem dX7_circleCount_59 : decode cX7_circleCount 59 = .ok (.iload_n 2, 1) := by decide +kernel
theorem dX7_circleCount_60 : decode cX7_circleCount 60 = .ok (.iload 4, 2) := by decide +kernel
theorem dX7_circleCount_62 : decode cX7_circleCount 62 = .ok (.iload_n 3, 1) := by decide +kernel
theorem dX7_circleCount_63 : decode cX7_circleCount 63 = .ok (.invokevirtual 138, 3) := by decide +kernel
theorem dX7_circleCount_66 : decode cX7_circleCount 66 = .ok (.ifCond .eq 6, 3) := by decide +kernel
theorem dX7_circleCount_69 : decode cX7_circleCount 69 = .ok (.iinc 1 1, 3) := by decide +kernel
theorem dX7_circleCount_72 : decode cX7_circleCount 72 = .ok (.iinc 4 1, 3) := by decide +kernel
theorem dX7_circleCount_75 : decode cX7_circleCount 75 = .ok (.goto (-40), 3) := by decide +kernel
theorem dX7_circleCount_78 : decode cX7_circleCount 78 = .ok (.iinc 3 1, 3) := by decide +kernel
theorem dX7_circleCount_81 : decode cX7_circleCount 81 = .ok (.goto (-62), 3) := by decide +kernel
theorem dX7_circleCount_84 : decode cX7_circleCount 84 = .ok (.iinc 2 1, 3) := by decide +kernel
theorem dX7_circleCount_87 : decode cX7_circleCount 87 = .ok (.goto (-83), 3) := by decide +kernel
theorem dX7_circleCount_90 : decode cX7_circleCount 90 = .ok (.iload_n 1, 1) := by decide +kernel
theorem dX7_circleCount_91 : decode cX7_circleCount 91 = .ok (.ireturn, 1) := by decide +kernel
theorem dX7_crownAll_0 : decode cX7_crownAll 0 = .ok (.iconst 0, 1) := by decide +kernel
theorem dX7_crownAll_1 : decode cX7_crownAll 1 = .ok (.istore_n 1, 1) := by decide +kernel
theorem dX7_crownAll_2 : decode cX7_crownAll 2 = .ok (.iload_n 1, 1) := by decide +kernel
theorem dX7_crownAll_3 : decode cX7_crownAll 3 = .ok (.iconst 4, 1) := by decide +kernel
theorem dX7_crownAll_4 : decode cX7_crownAll 4 = .ok (.if_icmp .ge 14, 3) := by decide +kernel
theorem dX7_crownAll_7 : decode cX7_crownAll 7 = .ok (.aload_n 0, 1) := by decide +kernel
theorem dX7_crownAll_8 : decode cX7_crownAll 8 = .ok (.iload_n 1, 1) := by decide +kernel
theorem dX7_crownAll_9 : decode cX7_crownAll 9 = .ok (.invokevirtual 66, 3) := by decide +kernel
theorem dX7_crownAll_12 : decode cX7_crownAll 12 = .ok (.iinc 1 1, 3) := by decide +kernel
theorem dX7_crownAll_15 : decode cX7_crownAll 15 = .ok (.goto (-13), 3) := by decide +kernel
theorem dX7_crownAll_18 : decode cX7_crownAll 18 = .ok (.iconst 1, 1) := by decide +kernel
theorem dX7_crownAll_19 : decode cX7_crownAll 19 = .ok (.aload_n 0, 1) := by decide +kernel
theorem dX7_crownAll_20 : decode cX7_crownAll 20 = .ok (.getfield 48, 3) := by decide +kernel
theorem dX7_crownAll_23 : decode cX7_crownAll 23 = .ok (.getfield 55, 3) := by decide +kernel
theorem dX7_crownAll_26 : decode cX7_crownAll 26 = .ok (.ishl, 1) := by decide +kernel
theorem dX7_crownAll_27 : decode cX7_crownAll 27 = .ok (.istore_n 1, 1) := by decide +kernel
theorem dX7_crownAll_28 : decode cX7_crownAll 28 = .ok (.iconst 4, 1) := by decide +kernel
theorem dX7_crownAll_29 : decode cX7_crownAll 29 = .ok (.istore_n 2, 1) := by decide +kernel
theorem dX7_crownAll_30 : decode cX7_crownAll 30 = .ok (.iload_n 2, 1) := by decide +kernel
theorem dX7_crownAll_31 : decode cX7_crownAll 31 = .ok (.ifCond .lt 57, 3) := by decide +kernel
theorem dX7_crownAll_34 : decode cX7_crownAll 34 = .ok (.iconst 0, 1) := by decide +kernel
theorem dX7_crownAll_35 : decode cX7_crownAll 35 = .ok (.istore_n 3, 1) := by decide +kernel
theorem dX7_crownAll_36 : decode cX7_crownAll 36 = .ok (.iload_n 3, 1) := by decide +kernel
theorem dX7_crownAll_37 : decode cX7_crownAll 37 = .ok (.iload_n 1, 1) := by decide +kernel
theorem dX7_crownAll_38 : decode cX7_crownAll 38 = .ok (.if_icmp .ge 44, 3) := by decide +kernel
theorem dX7_crownAll_41 : decode cX7_crownAll 41 = .ok (.iload_n 3, 1) := by decide +kernel
theorem dX7_crownAll_42 : decode cX7_crownAll 42 = .ok (.invokestatic 83, 3) := by decide +kernel
theorem dX7_crownAll_45 : decode cX7_crownAll 45 = .ok (.iload_n 2, 1) := by decide +kernel
theorem dX7_crownAll_46 : decode cX7_crownAll 46 = .ok (.if_icmp .gt 30, 3) := by decide +kernel
theorem dX7_crownAll_49 : decode cX7_crownAll 49 = .ok (.aload_n 0, 1) := by decide +kernel
theorem dX7_crownAll_50 : decode cX7_crownAll 50 = .ok (.getfield 18, 3) := by decide +kernel
theorem dX7_crownAll_53 : decode cX7_crownAll 53 = .ok (.iload_n 2, 1) := by decide +kernel
theorem dX7_crownAll_54 : decode cX7_crownAll 54 = .ok (.sipush 128, 3) := by decide +kernel
theorem dX7_crownAll_57 : decode cX7_crownAll 57 = .ok (.imul, 1) := by decide +kernel
theorem dX7_crownAll_58 : decode cX7_crownAll 58 = .ok (.iload_n 3, 1) := by decide +kernel
theorem dX7_crownAll_59 : decode cX7_crownAll 59 = .ok (.iadd, 1) := by decide +kernel
theorem dX7_crownAll_60 : decode cX7_crownAll 60 = .ok (.iload_n 2, 1) := by decide +kernel
theorem dX7_crownAll_61 : decode cX7_crownAll 61 = .ok (.iconst 4, 1) := by decide +kernel
theorem dX7_crownAll_62 : decode cX7_crownAll 62 = .ok (.if_icmp .ne 7, 3) := by decide +kernel
theorem dX7_crownAll_65 : decode cX7_crownAll 65 = .ok (.iconst 0, 1) := by decide +kernel
theorem dX7_crownAll_66 : decode cX7_crownAll 66 = .ok (.goto 9, 3) := by decide +kernel
theorem dX7_crownAll_69 : decode cX7_crownAll 69 = .ok (.aload_n 0, 1) := by decide +kernel
theorem dX7_crownAll_70 : decode cX7_crownAll 70 = .ok (.iload_n 2, 1) := by decide +kernel
theorem dX7_crownAll_71 : decode cX7_crownAll 71 = .ok (.iload_n 3, 1) := by decide +kernel
theorem dX7_crownAll_72 : decode cX7_crownAll 72 = .ok (.invokevirtual 142, 3) := by decide +kernel
theorem dX7_crownAll_75 : decode cX7_crownAll 75 = .ok (.iastore, 1) := by decide +kernel
theorem dX7_crownAll_76 : decode cX7_crownAll 76 = .ok (.iinc 3 1, 3) := by decide +kernel
theorem dX7_crownAll_79 : decode cX7_crownAll 79 = .ok (.goto (-43), 3) := by decide +kernel
theorem dX7_crownAll_82 : decode cX7_crownAll 82 = .ok (.iinc 2 (-1), 3) := by decide +kernel
theorem dX7_crownAll_85 : decode cX7_crownAll 85 = .ok (.goto (-55), 3) := by decide +kernel
theorem dX7_crownAll_88 : decode cX7_crownAll 88 = .ok (.iconst 0, 1) := by decide +kernel
theorem dX7_crownAll_89 : decode cX7_crownAll 89 = .ok (.istore_n 2, 1) := by decide +kernel
theorem dX7_crownAll_90 : decode cX7_crownAll 90 = .ok (.iconst 0, 1) := by decide +kernel
theorem dX7_crownAll_91 : decode cX7_crownAll 91 = .ok (.istore_n 3, 1) := by decide +kernel
theorem dX7_crownAll_92 : decode cX7_crownAll 92 = .ok (.iload_n 3, 1) := by decide +kernel
theorem dX7_crownAll_93 : decode cX7_crownAll 93 = .ok (.iconst 4, 1) := by decide +kernel
theorem dX7_crownAll_94 : decode cX7_crownAll 94 = .ok (.if_icmp .ge 47, 3) := by decide +kernel
theorem dX7_crownAll_97 : decode cX7_crownAll 97 = .ok (.aload_n 0, 1) := by decide +kernel
theorem dX7_crownAll_98 : decode cX7_crownAll 98 = .ok (.getfield 9, 3) := by decide +kernel
theorem dX7_crownAll_101 : decode cX7_crownAll 101 = .ok (.iload_n 3, 1) := by decide +kernel
theorem dX7_crownAll_102 : decode cX7_crownAll 102 = .ok (.aload_n 0, 1) := by decide +kernel
theorem dX7_crownAll_103 : decode cX7_crownAll 103 = .ok (.iload_n 3, 1) := by decide +kernel
theorem dX7_crownAll_104 : decode cX7_crownAll 104 = .ok (.iload_n 2, 1) := by decide +kernel
theorem dX7_crownAll_105 : decode cX7_crownAll 105 = .ok (.invokevirtual 145, 3) := by decide +kernel
theorem dX7_crownAll_108 : decode cX7_crownAll 108 = .ok (.iastore, 1) := by decide +kernel
theorem dX7_crownAll_109 : decode cX7_crownAll 109 = .ok (.iload_n 2, 1) := by decide +kernel
theorem dX7_crownAll_110 : decode cX7_crownAll 110 = .ok (.aload_n 0, 1) := by decide +kernel
theorem dX7_crownAll_111 : decode cX7_crownAll 111 = .ok (.getfield 9, 3) := by decide +kernel
theorem dX7_crownAll_114 : decode cX7_crownAll 114 = .ok (.iload_n 3, 1) := by decide +kernel
theorem dX7_crownAll_115 : decode cX7_crownAll 115 = .ok (.iaload, 1) := by decide +kernel
theorem dX7_crownAll_116 : decode cX7_crownAll 116 = .ok (.bipush 7, 2) := by decide +kernel
theorem dX7_crownAll_118 : decode cX7_crownAll 118 = .ok (.if_icmp .ne 7, 3) := by decide +kernel
theorem dX7_crownAll_121 : decode cX7_crownAll 121 = .ok (.iconst 0, 1) := by decide +kernel
theorem dX7_crownAll_122 : decode cX7_crownAll 122 = .ok (.goto 11, 3) := by decide +kernel
theorem dX7_crownAll_125 : decode cX7_crownAll 125 = .ok (.iconst 1, 1) := by decide +kernel
theorem dX7_crownAll_126 : decode cX7_crownAll 126 = .ok (.aload_n 0, 1) := by decide +kernel
theorem dX7_crownAll_127 : decode cX7_crownAll 127 = .ok (.getfield 9, 3) := by decide +kernel
theorem dX7_crownAll_130 : decode cX7_crownAll 130 = .ok (.iload_n 3, 1) := by decide +kernel
theorem dX7_crownAll_131 : decode cX7_crownAll 131 = .ok (.iaload, 1) := by decide +kernel
theorem dX7_crownAll_132 : decode cX7_crownAll 132 = .ok (.ishl, 1) := by decide +kernel
theorem dX7_crownAll_133 : decode cX7_crownAll 133 = .ok (.ior, 1) := by decide +kernel
theorem dX7_crownAll_134 : decode cX7_crownAll 134 = .ok (.istore_n 2, 1) := by decide +kernel
theorem dX7_crownAll_135 : decode cX7_crownAll 135 = .ok (.iinc 3 1, 3) := by decide +kernel
theorem dX7_crownAll_138 : decode cX7_crownAll 138 = .ok (.goto (-46), 3) := by decide +kernel
theorem dX7_crownAll_141 : decode cX7_crownAll 141 = .ok (.aload_n 0, 1) := by decide +kernel
theorem dX7_crownAll_142 : decode cX7_crownAll 142 = .ok (.getfield 18, 3) := by decide +kernel
theorem dX7_crownAll_145 : decode cX7_crownAll 145 = .ok (.iconst 0, 1) := by decide +kernel
theorem dX7_crownAll_146 : decode cX7_crownAll 146 = .ok (.iaload, 1) := by decide +kernel
theorem dX7_crownAll_147 : decode cX7_crownAll 147 = .ok (.ireturn, 1) := by decide +kernel
theorem dX7_firstCrowned_0 : decode cX7_firstCrowned 0 = .ok (.iconst 0, 1) := by decide +kernel
theorem dX7_firstCrowned_1 : decode cX7_firstCrowned 1 = .ok (.istore_n 3, 1) := by decide +kernel
theorem dX7_firstCrowned_2 : decode cX7_firstCrowned 2 = .ok (.iload_n 3, 1) := by decide +kernel
theorem dX7_firstCrowned_3 : decode cX7_firstCrowned 3 = .ok (.aload_n 0, 1) := by decide +kernel
theorem dX7_firstCrowned_4 : decode cX7_firstCrowned 4 = .ok (.getfield 48, 3) := by decide +kernel
theorem dX7_firstCrowned_7 : decode cX7_firstCrowned 7 = .ok (.getfield 55, 3) := by decide +kernel
theorem dX7_firstCrowned_10 : decode cX7_firstCrowned 10 = .ok (.if_icmp .ge 33, 3) := by decide +kernel
theorem dX7_firstCrowned_13 : decode cX7_firstCrowned 13 = .ok (.aload_n 0, 1) := by decide +kernel
theorem dX7_firstCrowned_14 : decode cX7_firstCrowned 14 = .ok (.iload_n 3, 1) := by decide +kernel
theorem dX7_firstCrowned_15 : decode cX7_firstCrowned 15 = .ok (.iload_n 1, 1) := by decide +kernel
theorem dX7_firstCrowned_16 : decode cX7_firstCrowned 16 = .ok (.iload_n 2, 1) := by decide +kernel
theorem dX7_firstCrowned_17 : decode cX7_firstCrowned 17 = .ok (.invokevirtual 148, 3) := by decide +kernel
theorem dX7_firstCrowned_20 : decode cX7_firstCrowned 20 = .ok (.aload_n 0, 1) := by decide +kernel
theorem dX7_firstCrowned_21 : decode cX7_firstCrowned 21 = .ok (.getfield 18, 3) := by decide +kernel
theorem dX7_firstCrowned_24 : decode cX7_firstCrowned 24 = .ok (.iload_n 1, 1) := by decide +kernel
theorem dX7_firstCrowned_25 : decode cX7_firstCrowned 25 = .ok (.sipush 128, 3) := by decide +kernel
theorem dX7_firstCrowned_28 : decode cX7_firstCrowned 28 = .ok (.imul, 1) := by decide +kernel
theorem dX7_firstCrowned_29 : decode cX7_firstCrowned 29 = .ok (.iload_n 2, 1) := by decide +kernel
theorem dX7_firstCrowned_30 : decode cX7_firstCrowned 30 = .ok (.iadd, 1) := by decide +kernel
theorem dX7_firstCrowned_31 : decode cX7_firstCrowned 31 = .ok (.iaload, 1) := by decide +kernel
theorem dX7_firstCrowned_32 : decode cX7_firstCrowned 32 = .ok (.if_icmp .ne 5, 3) := by decide +kernel
theorem dX7_firstCrowned_35 : decode cX7_firstCrowned 35 = .ok (.iload_n 3, 1) := by decide +kernel
theorem dX7_firstCrowned_36 : decode cX7_firstCrowned 36 = .ok (.ireturn, 1) := by decide +kernel
theorem dX7_firstCrowned_37 : decode cX7_firstCrowned 37 = .ok (.iinc 3 1, 3) := by decide +kernel
theorem dX7_firstCrowned_40 : decode cX7_firstCrowned 40 = .ok (.goto (-38), 3) := by decide +kernel
theorem dX7_firstCrowned_43 : decode cX7_firstCrowned 43 = .ok (.bipush 7, 2) := by decide +kernel
theorem dX7_firstCrowned_45 : decode cX7_firstCrowned 45 = .ok (.ireturn, 1) := by decide +kernel
theorem dX7_init_0 : decode cX7_init 0 = .ok (.aload_n 0, 1) := by decide +kernel
theorem dX7_init_1 : decode cX7_init 1 = .ok (.invokespecial 3, 3) := by decide +kernel
theorem dX7_init_4 : decode cX7_init 4 = .ok (.aload_n 0, 1) := by decide +kernel
theorem dX7_init_5 : decode cX7_init 5 = .ok (.bipush 7, 2) := by decide +kernel
theorem dX7_init_7 : decode cX7_init 7 = .ok (.newarray .int, 2) := by decide +kernel
theorem dX7_init_9 : decode cX7_init 9 = .ok (.putfield 9, 3) := by decide +kernel
theorem dX7_init_12 : decode cX7_init 12 = .ok (.aload_n 0, 1) := by decide +kernel
theorem dX7_init_13 : decode cX7_init 13 = .ok (.bipush 7, 2) := by decide +kernel
theorem dX7_init_15 : decode cX7_init 15 = .ok (.newarray .int, 2) := by decide +kernel
theorem dX7_init_17 : decode cX7_init 17 = .ok (.putfield 15, 3) := by decide +kernel
theorem dX7_init_20 : decode cX7_init 20 = .ok (.aload_n 0, 1) := by decide +kernel
theorem dX7_init_21 : decode cX7_init 21 = .ok (.sipush 640, 3) := by decide +kernel
theorem dX7_init_24 : decode cX7_init 24 = .ok (.newarray .int, 2) := by decide +kernel
theorem dX7_init_26 : decode cX7_init 26 = .ok (.putfield 18, 3) := by decide +kernel
theorem dX7_init_29 : decode cX7_init 29 = .ok (.aload_n 0, 1) := by decide +kernel
theorem dX7_init_30 : decode cX7_init 30 = .ok (.bipush 28, 2) := by decide +kernel
theorem dX7_init_32 : decode cX7_init 32 = .ok (.newarray .int, 2) := by decide +kernel
theorem dX7_init_34 : decode cX7_init 34 = .ok (.putfield 21, 3) := by decide +kernel
theorem dX7_init_37 : decode cX7_init 37 = .ok (.aload_n 0, 1) := by decide +kernel
theorem dX7_init_38 : decode cX7_init 38 = .ok (.bipush 10, 2) := by decide +kernel
theorem dX7_init_40 : decode cX7_init 40 = .ok (.newarray .int, 2) := by decide +kernel
theorem dX7_init_42 : decode cX7_init 42 = .ok (.putfield 24, 3) := by decide +kernel
theorem dX7_init_45 : decode cX7_init 45 = .ok (.aload_n 0, 1) := by decide +kernel
theorem dX7_init_46 : decode cX7_init 46 = .ok (.bipush 61, 2) := by decide +kernel
theorem dX7_init_48 : decode cX7_init 48 = .ok (.newarray .long, 2) := by decide +kernel
theorem dX7_init_50 : decode cX7_init 50 = .ok (.putfield 27, 3) := by decide +kernel
theorem dX7_init_53 : decode cX7_init 53 = .ok (.aload_n 0, 1) := by decide +kernel
theorem dX7_init_54 : decode cX7_init 54 = .ok (.bipush 20, 2) := by decide +kernel
theorem dX7_init_56 : decode cX7_init 56 = .ok (.newarray .long, 2) := by decide +kernel
theorem dX7_init_58 : decode cX7_init 58 = .ok (.putfield 31, 3) := by decide +kernel
theorem dX7_init_61 : decode cX7_init 61 = .ok (.aload_n 0, 1) := by decide +kernel
theorem dX7_init_62 : decode cX7_init 62 = .ok (.iconst 0, 1) := by decide +kernel
theorem dX7_init_63 : decode cX7_init 63 = .ok (.putfield 34, 3) := by decide +kernel
theorem dX7_init_66 : decode cX7_init 66 = .ok (.aload_n 0, 1) := by decide +kernel
theorem dX7_init_67 : decode cX7_init 67 = .ok (.aload_n 1, 1) := by decide +kernel
theorem dX7_init_68 : decode cX7_init 68 = .ok (.putfield 38, 3) := by decide +kernel
theorem dX7_init_71 : decode cX7_init 71 = .ok (.aload_n 0, 1) := by decide +kernel
theorem dX7_init_72 : decode cX7_init 72 = .ok (.aload_n 1, 1) := by decide +kernel
theorem dX7_init_73 : decode cX7_init 73 = .ok (.getfield 42, 3) := by decide +kernel
theorem dX7_init_76 : decode cX7_init 76 = .ok (.putfield 48, 3) := by decide +kernel
theorem dX7_init_79 : decode cX7_init 79 = .ok (.return_, 1) := by decide +kernel
theorem dX7_lineOfHeirs_0 : decode cX7_lineOfHeirs 0 = .ok (.iconst 0, 1) := by decide +kernel
theorem dX7_lineOfHeirs_1 : decode cX7_lineOfHeirs 1 = .ok (.istore_n 1, 1) := by decide +kernel
theorem dX7_lineOfHeirs_2 : decode cX7_lineOfHeirs 2 = .ok (.aload_n 0, 1) := by decide +kernel
theorem dX7_lineOfHeirs_3 : decode cX7_lineOfHeirs 3 = .ok (.iconst (-1), 1) := by decide +kernel
theorem dX7_lineOfHeirs_4 : decode cX7_lineOfHeirs 4 = .ok (.iconst 0, 1) := by decide +kernel
theorem dX7_lineOfHeirs_5 : decode cX7_lineOfHeirs 5 = .ok (.invokevirtual 152, 3) := by decide +kernel
theorem dX7_lineOfHeirs_8 : decode cX7_lineOfHeirs 8 = .ok (.istore_n 2, 1) := by decide +kernel
theorem dX7_lineOfHeirs_9 : decode cX7_lineOfHeirs 9 = .ok (.iconst 0, 1) := by decide +kernel
theorem dX7_lineOfHeirs_10 : decode cX7_lineOfHeirs 10 = .ok (.istore_n 3, 1) := by decide +kernel
theorem dX7_lineOfHeirs_11 : decode cX7_lineOfHeirs 11 = .ok (.iload_n 3, 1) := by decide +kernel
theorem dX7_lineOfHeirs_12 : decode cX7_lineOfHeirs 12 = .ok (.aload_n 0, 1) := by decide +kernel
theorem dX7_lineOfHeirs_13 : decode cX7_lineOfHeirs 13 = .ok (.getfield 48, 3) := by decide +kernel
theorem dX7_lineOfHeirs_16 : decode cX7_lineOfHeirs 16 = .ok (.getfield 55, 3) := by decide +kernel
theorem dX7_lineOfHeirs_19 : decode cX7_lineOfHeirs 19 = .ok (.if_icmp .ge 53, 3) := by decide +kernel
theorem dX7_lineOfHeirs_22 : decode cX7_lineOfHeirs 22 = .ok (.iload_n 2, 1) := by decide +kernel
theorem dX7_lineOfHeirs_23 : decode cX7_lineOfHeirs 23 = .ok (.ifCond .le 49, 3) := by decide +kernel
theorem dX7_lineOfHeirs_26 : decode cX7_lineOfHeirs 26 = .ok (.iinc 2 (-1), 3) := by decide +kernel
theorem dX7_lineOfHeirs_29 : decode cX7_lineOfHeirs 29 = .ok (.aload_n 0, 1) := by decide +kernel
theorem dX7_lineOfHeirs_30 : decode cX7_lineOfHeirs 30 = .ok (.getfield 15, 3) := by decide +kernel
theorem dX7_lineOfHeirs_33 : decode cX7_lineOfHeirs 33 = .ok (.iload_n 2, 1) := by decide +kernel
theorem dX7_lineOfHeirs_34 : decode cX7_lineOfHeirs 34 = .ok (.iaload, 1) := by decide +kernel
theorem dX7_lineOfHeirs_35 : decode cX7_lineOfHeirs 35 = .ok (.istore 4, 2) := by decide +kernel
theorem dX7_lineOfHeirs_37 : decode cX7_lineOfHeirs 37 = .ok (.aload_n 0, 1) := by decide +kernel
theorem dX7_lineOfHeirs_38 : decode cX7_lineOfHeirs 38 = .ok (.iload 4, 2) := by decide +kernel
theorem dX7_lineOfHeirs_40 : decode cX7_lineOfHeirs 40 = .ok (.invokevirtual 155, 3) := by decide +kernel
theorem dX7_lineOfHeirs_43 : decode cX7_lineOfHeirs 43 = .ok (.iconst 1, 1) := by decide +kernel
theorem dX7_lineOfHeirs_44 : decode cX7_lineOfHeirs 44 = .ok (.if_icmp .eq 14, 3) := by decide +kernel
theorem dX7_lineOfHeirs_47 : decode cX7_lineOfHeirs 47 = .ok (.aload_n 0, 1) := by decide +kernel
theorem dX7_lineOfHeirs_48 : decode cX7_lineOfHeirs 48 = .ok (.getfield 9, 3) := by decide +kernel
theorem dX7_lineOfHeirs_51 : decode cX7_lineOfHeirs 51 = .ok (.iload_n 1, 1) := by decide +kernel
theorem dX7_lineOfHeirs_52 : decode cX7_lineOfHeirs 52 = .ok (.iload 4, 2) := by decide +kernel
theorem dX7_lineOfHeirs_54 : decode cX7_lineOfHeirs 54 = .ok (.iastore, 1) := by decide +kernel
theorem dX7_lineOfHeirs_55 : decode cX7_lineOfHeirs 55 = .ok (.iinc 1 1, 3) := by decide +kernel
theorem dX7_lineOfHeirs_58 : decode cX7_lineOfHeirs 58 = .ok (.aload_n 0, 1) := by decide +kernel
theorem dX7_lineOfHeirs_59 : decode cX7_lineOfHeirs 59 = .ok (.iload 4, 2) := by decide +kernel
theorem dX7_lineOfHeirs_61 : decode cX7_lineOfHeirs 61 = .ok (.iload_n 2, 1) := by decide +kernel
theorem dX7_lineOfHeirs_62 : decode cX7_lineOfHeirs 62 = .ok (.invokevirtual 152, 3) := by decide +kernel
theorem dX7_lineOfHeirs_65 : decode cX7_lineOfHeirs 65 = .ok (.istore_n 2, 1) := by decide +kernel
theorem dX7_lineOfHeirs_66 : decode cX7_lineOfHeirs 66 = .ok (.iinc 3 1, 3) := by decide +kernel
theorem dX7_lineOfHeirs_69 : decode cX7_lineOfHeirs 69 = .ok (.goto (-58), 3) := by decide +kernel
theorem dX7_lineOfHeirs_72 : decode cX7_lineOfHeirs 72 = .ok (.iload_n 1, 1) := by decide +kernel
theorem dX7_lineOfHeirs_73 : decode cX7_lineOfHeirs 73 = .ok (.ireturn, 1) := by decide +kernel
theorem dX7_neverSecond_0 : decode cX7_neverSecond 0 = .ok (.iconst 1, 1) := by decide +kernel
theorem dX7_neverSecond_1 : decode cX7_neverSecond 1 = .ok (.aload_n 0, 1) := by decide +kernel
theorem dX7_neverSecond_2 : decode cX7_neverSecond 2 = .ok (.getfield 48, 3) := by decide +kernel
theorem dX7_neverSecond_5 : decode cX7_neverSecond 5 = .ok (.getfield 55, 3) := by decide +kernel
theorem dX7_neverSecond_8 : decode cX7_neverSecond 8 = .ok (.ishl, 1) := by decide +kernel
theorem dX7_neverSecond_9 : decode cX7_neverSecond 9 = .ok (.iconst 1, 1) := by decide +kernel
theorem dX7_neverSecond_10 : decode cX7_neverSecond 10 = .ok (.isub, 1) := by decide +kernel
theorem dX7_neverSecond_11 : decode cX7_neverSecond 11 = .ok (.istore_n 1, 1) := by decide +kernel
theorem dX7_neverSecond_12 : decode cX7_neverSecond 12 = .ok (.iconst 0, 1) := by decide +kernel
theorem dX7_neverSecond_13 : decode cX7_neverSecond 13 = .ok (.istore_n 2, 1) := by decide +kernel
theorem dX7_neverSecond_14 : decode cX7_neverSecond 14 = .ok (.iload_n 2, 1) := by decide +kernel
theorem dX7_neverSecond_15 : decode cX7_neverSecond 15 = .ok (.iconst 4, 1) := by decide +kernel
theorem dX7_neverSecond_16 : decode cX7_neverSecond 16 = .ok (.if_icmp .ge 65, 3) := by decide +kernel
theorem dX7_neverSecond_19 : decode cX7_neverSecond 19 = .ok (.aload_n 0, 1) := by decide +kernel
theorem dX7_neverSecond_20 : decode cX7_neverSecond 20 = .ok (.iload_n 2, 1) := by decide +kernel
theorem dX7_neverSecond_21 : decode cX7_neverSecond 21 = .ok (.invokevirtual 66, 3) := by decide +kernel
theorem dX7_neverSecond_24 : decode cX7_neverSecond 24 = .ok (.iconst 0, 1) := by decide +kernel
theorem dX7_neverSecond_25 : decode cX7_neverSecond 25 = .ok (.istore_n 3, 1) := by decide +kernel
theorem dX7_neverSecond_26 : decode cX7_neverSecond 26 = .ok (.iload_n 3, 1) := by decide +kernel
theorem dX7_neverSecond_27 : decode cX7_neverSecond 27 = .ok (.aload_n 0, 1) := by decide +kernel
theorem dX7_neverSecond_28 : decode cX7_neverSecond 28 = .ok (.getfield 48, 3) := by decide +kernel
theorem dX7_neverSecond_31 : decode cX7_neverSecond 31 = .ok (.getfield 55, 3) := by decide +kernel
theorem dX7_neverSecond_34 : decode cX7_neverSecond 34 = .ok (.if_icmp .ge 41, 3) := by decide +kernel
theorem dX7_neverSecond_37 : decode cX7_neverSecond 37 = .ok (.aload_n 0, 1) := by decide +kernel
theorem dX7_neverSecond_38 : decode cX7_neverSecond 38 = .ok (.getfield 21, 3) := by decide +kernel
theorem dX7_neverSecond_41 : decode cX7_neverSecond 41 = .ok (.iload_n 2, 1) := by decide +kernel
theorem dX7_neverSecond_42 : decode cX7_neverSecond 42 = .ok (.bipush 7, 2) := by decide +kernel
theorem dX7_neverSecond_44 : decode cX7_neverSecond 44 = .ok (.imul, 1) := by decide +kernel
theorem dX7_neverSecond_45 : decode cX7_neverSecond 45 = .ok (.iload_n 3, 1) := by decide +kernel
theorem dX7_neverSecond_46 : decode cX7_neverSecond 46 = .ok (.iadd, 1) := by decide +kernel
theorem dX7_neverSecond_47 : decode cX7_neverSecond 47 = .ok (.iaload, 1) := by decide +kernel
theorem dX7_neverSecond_48 : decode cX7_neverSecond 48 = .ok (.iconst (-1), 1) := by decide +kernel
theorem dX7_neverSecond_49 : decode cX7_neverSecond 49 = .ok (.if_icmp .eq 20, 3) := by decide +kernel
theorem dX7_neverSecond_52 : decode cX7_neverSecond 52 = .ok (.aload_n 0, 1) := by decide +kernel
theorem dX7_neverSecond_53 : decode cX7_neverSecond 53 = .ok (.iload_n 3, 1) := by decide +kernel
theorem dX7_neverSecond_54 : decode cX7_neverSecond 54 = .ok (.iload_n 2, 1) := by decide +kernel
theorem dX7_neverSecond_55 : decode cX7_neverSecond 55 = .ok (.invokevirtual 70, 3) := by decide +kernel
theorem dX7_neverSecond_58 : decode cX7_neverSecond 58 = .ok (.ifCond .eq 11, 3) := by decide +kernel
theorem dX7_neverSecond_61 : decode cX7_neverSecond 61 = .ok (.iload_n 1, 1) := by decide +kernel
theorem dX7_neverSecond_62 : decode cX7_neverSecond 62 = .ok (.iconst 1, 1) := by decide +kernel
theorem dX7_neverSecond_63 : decode cX7_neverSecond 63 = .ok (.iload_n 3, 1) := by decide +kernel
theorem dX7_neverSecond_64 : decode cX7_neverSecond 64 = .ok (.ishl, 1) := by decide +kernel
theorem dX7_neverSecond_65 : decode cX7_neverSecond 65 = .ok (.iconst (-1), 1) := by decide +kernel
theorem dX7_neverSecond_66 : decode cX7_neverSecond 66 = .ok (.ixor, 1) := by decide +kernel
theorem dX7_neverSecond_67 : decode cX7_neverSecond 67 = .ok (.iand, 1) := by decide +kernel
theorem dX7_neverSecond_68 : decode cX7_neverSecond 68 = .ok (.istore_n 1, 1) := by decide +kernel
theorem dX7_neverSecond_69 : decode cX7_neverSecond 69 = .ok (.iinc 3 1, 3) := by decide +kernel
theorem dX7_neverSecond_72 : decode cX7_neverSecond 72 = .ok (.goto (-46), 3) := by decide +kernel
theorem dX7_neverSecond_75 : decode cX7_neverSecond 75 = .ok (.iinc 2 1, 3) := by decide +kernel
theorem dX7_neverSecond_78 : decode cX7_neverSecond 78 = .ok (.goto (-64), 3) := by decide +kernel
theorem dX7_neverSecond_81 : decode cX7_neverSecond 81 = .ok (.iload_n 1, 1) := by decide +kernel
theorem dX7_neverSecond_82 : decode cX7_neverSecond 82 = .ok (.ireturn, 1) := by decide +kernel
theorem dX7_raceToWatch_0 : decode cX7_raceToWatch 0 = .ok (.aload_n 0, 1) := by decide +kernel
theorem dX7_raceToWatch_1 : decode cX7_raceToWatch 1 = .ok (.invokevirtual 108, 3) := by decide +kernel
theorem dX7_raceToWatch_4 : decode cX7_raceToWatch 4 = .ok (.istore_n 1, 1) := by decide +kernel
theorem dX7_raceToWatch_5 : decode cX7_raceToWatch 5 = .ok (.iload_n 1, 1) := by decide +kernel
theorem dX7_raceToWatch_6 : decode cX7_raceToWatch 6 = .ok (.ifCond .ne 5, 3) := by decide +kernel
theorem dX7_raceToWatch_9 : decode cX7_raceToWatch 9 = .ok (.iconst (-1), 1) := by decide +kernel
theorem dX7_raceToWatch_10 : decode cX7_raceToWatch 10 = .ok (.ireturn, 1) := by decide +kernel
theorem dX7_raceToWatch_11 : decode cX7_raceToWatch 11 = .ok (.iconst 0, 1) := by decide +kernel
theorem dX7_raceToWatch_12 : decode cX7_raceToWatch 12 = .ok (.istore_n 2, 1) := by decide +kernel
theorem dX7_raceToWatch_13 : decode cX7_raceToWatch 13 = .ok (.aload_n 0, 1) := by decide +kernel
theorem dX7_raceToWatch_14 : decode cX7_raceToWatch 14 = .ok (.aload_n 0, 1) := by decide +kernel
theorem dX7_raceToWatch_15 : decode cX7_raceToWatch 15 = .ok (.iload_n 1, 1) := by decide +kernel
theorem dX7_raceToWatch_16 : decode cX7_raceToWatch 16 = .ok (.iconst 0, 1) := by decide +kernel
theorem dX7_raceToWatch_17 : decode cX7_raceToWatch 17 = .ok (.invokevirtual 112, 3) := by decide +kernel
theorem dX7_raceToWatch_20 : decode cX7_raceToWatch 20 = .ok (.putfield 34, 3) := by decide +kernel
theorem dX7_raceToWatch_23 : decode cX7_raceToWatch 23 = .ok (.iconst 1, 1) := by decide +kernel
theorem dX7_raceToWatch_24 : decode cX7_raceToWatch 24 = .ok (.istore_n 3, 1) := by decide +kernel
theorem dX7_raceToWatch_25 : decode cX7_raceToWatch 25 = .ok (.iload_n 3, 1) := by decide +kernel
theorem dX7_raceToWatch_26 : decode cX7_raceToWatch 26 = .ok (.iconst 4, 1) := by decide +kernel
theorem dX7_raceToWatch_27 : decode cX7_raceToWatch 27 = .ok (.if_icmp .ge 34, 3) := by decide +kernel
theorem dX7_raceToWatch_30 : decode cX7_raceToWatch 30 = .ok (.aload_n 0, 1) := by decide +kernel
theorem dX7_raceToWatch_31 : decode cX7_raceToWatch 31 = .ok (.iload_n 1, 1) := by decide +kernel
theorem dX7_raceToWatch_32 : decode cX7_raceToWatch 32 = .ok (.iload_n 3, 1) := by decide +kernel
theorem dX7_raceToWatch_33 : decode cX7_raceToWatch 33 = .ok (.invokevirtual 112, 3) := by decide +kernel
theorem dX7_raceToWatch_36 : decode cX7_raceToWatch 36 = .ok (.istore 4, 2) := by decide +kernel
theorem dX7_raceToWatch_38 : decode cX7_raceToWatch 38 = .ok (.iload 4, 2) := by decide +kernel
theorem dX7_raceToWatch_40 : decode cX7_raceToWatch 40 = .ok (.aload_n 0, 1) := by decide +kernel
theorem dX7_raceToWatch_41 : decode cX7_raceToWatch 41 = .ok (.getfield 34, 3) := by decide +kernel
theorem dX7_raceToWatch_44 : decode cX7_raceToWatch 44 = .ok (.if_icmp .ge 11, 3) := by decide +kernel
theorem dX7_raceToWatch_47 : decode cX7_raceToWatch 47 = .ok (.aload_n 0, 1) := by decide +kernel
theorem dX7_raceToWatch_48 : decode cX7_raceToWatch 48 = .ok (.iload 4, 2) := by decide +kernel
theorem dX7_raceToWatch_50 : decode cX7_raceToWatch 50 = .ok (.putfield 34, 3) := by decide +kernel
theorem dX7_raceToWatch_53 : decode cX7_raceToWatch 53 = .ok (.iload_n 3, 1) := by decide +kernel
theorem dX7_raceToWatch_54 : decode cX7_raceToWatch 54 = .ok (.istore_n 2, 1) := by decide +kernel
theorem dX7_raceToWatch_55 : decode cX7_raceToWatch 55 = .ok (.iinc 3 1, 3) := by decide +kernel
theorem dX7_raceToWatch_58 : decode cX7_raceToWatch 58 = .ok (.goto (-33), 3) := by decide +kernel
theorem dX7_raceToWatch_61 : decode cX7_raceToWatch 61 = .ok (.iload_n 2, 1) := by decide +kernel
theorem dX7_raceToWatch_62 : decode cX7_raceToWatch 62 = .ok (.ireturn, 1) := by decide +kernel
theorem dX7_rankAll_0 : decode cX7_rankAll 0 = .ok (.iconst 1, 1) := by decide +kernel
theorem dX7_rankAll_1 : decode cX7_rankAll 1 = .ok (.aload_n 0, 1) := by decide +kernel
theorem dX7_rankAll_2 : decode cX7_rankAll 2 = .ok (.getfield 48, 3) := by decide +kernel
theorem dX7_rankAll_5 : decode cX7_rankAll 5 = .ok (.getfield 55, 3) := by decide +kernel
theorem dX7_rankAll_8 : decode cX7_rankAll 8 = .ok (.ishl, 1) := by decide +kernel
theorem dX7_rankAll_9 : decode cX7_rankAll 9 = .ok (.iconst 1, 1) := by decide +kernel
theorem dX7_rankAll_10 : decode cX7_rankAll 10 = .ok (.isub, 1) := by decide +kernel
theorem dX7_rankAll_11 : decode cX7_rankAll 11 = .ok (.istore_n 1, 1) := by decide +kernel
theorem dX7_rankAll_12 : decode cX7_rankAll 12 = .ok (.aload_n 0, 1) := by decide +kernel
theorem dX7_rankAll_13 : decode cX7_rankAll 13 = .ok (.getfield 18, 3) := by decide +kernel
theorem dX7_rankAll_16 : decode cX7_rankAll 16 = .ok (.iload_n 1, 1) := by decide +kernel
theorem dX7_rankAll_17 : decode cX7_rankAll 17 = .ok (.iconst 0, 1) := by decide +kernel
theorem dX7_rankAll_18 : decode cX7_rankAll 18 = .ok (.iastore, 1) := by decide +kernel
theorem dX7_rankAll_19 : decode cX7_rankAll 19 = .ok (.iload_n 1, 1) := by decide +kernel
theorem dX7_rankAll_20 : decode cX7_rankAll 20 = .ok (.iconst 1, 1) := by decide +kernel
theorem dX7_rankAll_21 : decode cX7_rankAll 21 = .ok (.isub, 1) := by decide +kernel
theorem dX7_rankAll_22 : decode cX7_rankAll 22 = .ok (.istore_n 2, 1) := by decide +kernel
theorem dX7_rankAll_23 : decode cX7_rankAll 23 = .ok (.iload_n 2, 1) := by decide +kernel
theorem dX7_rankAll_24 : decode cX7_rankAll 24 = .ok (.ifCond .lt 62, 3) := by decide +kernel
theorem dX7_rankAll_27 : decode cX7_rankAll 27 = .ok (.sipush 1000, 3) := by decide +kernel
theorem dX7_rankAll_30 : decode cX7_rankAll 30 = .ok (.istore_n 3, 1) := by decide +kernel
theorem dX7_rankAll_31 : decode cX7_rankAll 31 = .ok (.iconst 0, 1) := by decide +kernel
theorem dX7_rankAll_32 : decode cX7_rankAll 32 = .ok (.istore 4, 2) := by decide +kernel
theorem dX7_rankAll_34 : decode cX7_rankAll 34 = .ok (.iload 4, 2) := by decide +kernel
theorem dX7_rankAll_36 : decode cX7_rankAll 36 = .ok (.aload_n 0, 1) := by decide +kernel
theorem dX7_rankAll_37 : decode cX7_rankAll 37 = .ok (.getfield 48, 3) := by decide +kernel
theorem dX7_rankAll_40 : decode cX7_rankAll 40 = .ok (.getfield 55, 3) := by decide +kernel
theorem dX7_rankAll_43 : decode cX7_rankAll 43 = .ok (.if_icmp .ge 30, 3) := by decide +kernel
theorem dX7_rankAll_46 : decode cX7_rankAll 46 = .ok (.iload_n 2, 1) := by decide +kernel
theorem dX7_rankAll_47 : decode cX7_rankAll 47 = .ok (.iload 4, 2) := by decide +kernel
theorem dX7_rankAll_49 : decode cX7_rankAll 49 = .ok (.ishr, 1) := by decide +kernel
theorem dX7_rankAll_50 : decode cX7_rankAll 50 = .ok (.iconst 1, 1) := by decide +kernel
theorem dX7_rankAll_51 : decode cX7_rankAll 51 = .ok (.iand, 1) := by decide +kernel
theorem dX7_rankAll_52 : decode cX7_rankAll 52 = .ok (.ifCond .ne 15, 3) := by decide +kernel
theorem dX7_rankAll_55 : decode cX7_rankAll 55 = .ok (.iload_n 3, 1) := by decide +kernel
theorem dX7_rankAll_56 : decode cX7_rankAll 56 = .ok (.aload_n 0, 1) := by decide +kernel
theorem dX7_rankAll_57 : decode cX7_rankAll 57 = .ok (.iload 4, 2) := by decide +kernel
theorem dX7_rankAll_59 : decode cX7_rankAll 59 = .ok (.iload_n 2, 1) := by decide +kernel
theorem dX7_rankAll_60 : decode cX7_rankAll 60 = .ok (.invokevirtual 126, 3) := by decide +kernel
theorem dX7_rankAll_63 : decode cX7_rankAll 63 = .ok (.invokestatic 129, 3) := by decide +kernel
theorem dX7_rankAll_66 : decode cX7_rankAll 66 = .ok (.istore_n 3, 1) := by decide +kernel
theorem dX7_rankAll_67 : decode cX7_rankAll 67 = .ok (.iinc 4 1, 3) := by decide +kernel
theorem dX7_rankAll_70 : decode cX7_rankAll 70 = .ok (.goto (-36), 3) := by decide +kernel
theorem dX7_rankAll_73 : decode cX7_rankAll 73 = .ok (.aload_n 0, 1) := by decide +kernel
theorem dX7_rankAll_74 : decode cX7_rankAll 74 = .ok (.getfield 18, 3) := by decide +kernel
theorem dX7_rankAll_77 : decode cX7_rankAll 77 = .ok (.iload_n 2, 1) := by decide +kernel
theorem dX7_rankAll_78 : decode cX7_rankAll 78 = .ok (.iload_n 3, 1) := by decide +kernel
theorem dX7_rankAll_79 : decode cX7_rankAll 79 = .ok (.iastore, 1) := by decide +kernel
theorem dX7_rankAll_80 : decode cX7_rankAll 80 = .ok (.iinc 2 (-1), 3) := by decide +kernel
theorem dX7_rankAll_83 : decode cX7_rankAll 83 = .ok (.goto (-60), 3) := by decide +kernel
theorem dX7_rankAll_86 : decode cX7_rankAll 86 = .ok (.iconst 0, 1) := by decide +kernel
theorem dX7_rankAll_87 : decode cX7_rankAll 87 = .ok (.istore_n 2, 1) := by decide +kernel
theorem dX7_rankAll_88 : decode cX7_rankAll 88 = .ok (.iconst 0, 1) := by decide +kernel
theorem dX7_rankAll_89 : decode cX7_rankAll 89 = .ok (.istore_n 3, 1) := by decide +kernel
theorem dX7_rankAll_90 : decode cX7_rankAll 90 = .ok (.iload_n 3, 1) := by decide +kernel
theorem dX7_rankAll_91 : decode cX7_rankAll 91 = .ok (.aload_n 0, 1) := by decide +kernel
theorem dX7_rankAll_92 : decode cX7_rankAll 92 = .ok (.getfield 48, 3) := by decide +kernel
theorem dX7_rankAll_95 : decode cX7_rankAll 95 = .ok (.getfield 55, 3) := by decide +kernel
theorem dX7_rankAll_98 : decode cX7_rankAll 98 = .ok (.if_icmp .ge 31, 3) := by decide +kernel
theorem dX7_rankAll_101 : decode cX7_rankAll 101 = .ok (.aload_n 0, 1) := by decide +kernel
theorem dX7_rankAll_102 : decode cX7_rankAll 102 = .ok (.iload_n 2, 1) := by decide +kernel
theorem dX7_rankAll_103 : decode cX7_rankAll 103 = .ok (.invokevirtual 132, 3) := by decide +kernel
theorem dX7_rankAll_106 : decode cX7_rankAll 106 = .ok (.istore 4, 2) := by decide +kernel
theorem dX7_rankAll_108 : decode cX7_rankAll 108 = .ok (.aload_n 0, 1) := by decide +kernel
theorem dX7_rankAll_109 : decode cX7_rankAll 109 = .ok (.getfield 9, 3) := by decide +kernel
theorem dX7_rankAll_112 : decode cX7_rankAll 112 = .ok (.iload_n 3, 1) := by decide +kernel
theorem dX7_rankAll_113 : decode cX7_rankAll 113 = .ok (.iload 4, 2) := by decide +kernel
theorem dX7_rankAll_115 : decode cX7_rankAll 115 = .ok (.iastore, 1) := by decide +kernel
theorem dX7_rankAll_116 : decode cX7_rankAll 116 = .ok (.iload_n 2, 1) := by decide +kernel
theorem dX7_rankAll_117 : decode cX7_rankAll 117 = .ok (.iconst 1, 1) := by decide +kernel
theorem dX7_rankAll_118 : decode cX7_rankAll 118 = .ok (.iload 4, 2) := by decide +kernel
theorem dX7_rankAll_120 : decode cX7_rankAll 120 = .ok (.ishl, 1) := by decide +kernel
theorem dX7_rankAll_121 : decode cX7_rankAll 121 = .ok (.ior, 1) := by decide +kernel
theorem dX7_rankAll_122 : decode cX7_rankAll 122 = .ok (.istore_n 2, 1) := by decide +kernel
theorem dX7_rankAll_123 : decode cX7_rankAll 123 = .ok (.iinc 3 1, 3) := by decide +kernel
theorem dX7_rankAll_126 : decode cX7_rankAll 126 = .ok (.goto (-36), 3) := by decide +kernel
theorem dX7_rankAll_129 : decode cX7_rankAll 129 = .ok (.aload_n 0, 1) := by decide +kernel
theorem dX7_rankAll_130 : decode cX7_rankAll 130 = .ok (.getfield 18, 3) := by decide +kernel
theorem dX7_rankAll_133 : decode cX7_rankAll 133 = .ok (.iconst 0, 1) := by decide +kernel
theorem dX7_rankAll_134 : decode cX7_rankAll 134 = .ok (.iaload, 1) := by decide +kernel
theorem dX7_rankAll_135 : decode cX7_rankAll 135 = .ok (.ireturn, 1) := by decide +kernel
theorem dX7_setScores_0 : decode cX7_setScores 0 = .ok (.aload_n 0, 1) := by decide +kernel
theorem dX7_setScores_1 : decode cX7_setScores 1 = .ok (.getfield 48, 3) := by decide +kernel
theorem dX7_setScores_4 : decode cX7_setScores 4 = .ok (.invokevirtual 49, 3) := by decide +kernel
theorem dX7_setScores_7 : decode cX7_setScores 7 = .ok (.astore_n 2, 1) := by decide +kernel
theorem dX7_setScores_8 : decode cX7_setScores 8 = .ok (.iconst 0, 1) := by decide +kernel
theorem dX7_setScores_9 : decode cX7_setScores 9 = .ok (.istore_n 3, 1) := by decide +kernel
theorem dX7_setScores_10 : decode cX7_setScores 10 = .ok (.iload_n 3, 1) := by decide +kernel
theorem dX7_setScores_11 : decode cX7_setScores 11 = .ok (.aload_n 0, 1) := by decide +kernel
theorem dX7_setScores_12 : decode cX7_setScores 12 = .ok (.getfield 48, 3) := by decide +kernel
theorem dX7_setScores_15 : decode cX7_setScores 15 = .ok (.getfield 55, 3) := by decide +kernel
theorem dX7_setScores_18 : decode cX7_setScores 18 = .ok (.if_icmp .ge 47, 3) := by decide +kernel
theorem dX7_setScores_21 : decode cX7_setScores 21 = .ok (.aload_n 0, 1) := by decide +kernel
theorem dX7_setScores_22 : decode cX7_setScores 22 = .ok (.getfield 21, 3) := by decide +kernel
theorem dX7_setScores_25 : decode cX7_setScores 25 = .ok (.iload_n 1, 1) := by decide +kernel
theorem dX7_setScores_26 : decode cX7_setScores 26 = .ok (.bipush 7, 2) := by decide +kernel
theorem dX7_setScores_28 : decode cX7_setScores 28 = .ok (.imul, 1) := by decide +kernel
theorem dX7_setScores_29 : decode cX7_setScores 29 = .ok (.iload_n 3, 1) := by decide +kernel
theorem dX7_setScores_30 : decode cX7_setScores 30 = .ok (.iadd, 1) := by decide +kernel
theorem dX7_setScores_31 : decode cX7_setScores 31 = .ok (.aload_n 0, 1) := by decide +kernel
theorem dX7_setScores_32 : decode cX7_setScores 32 = .ok (.getfield 38, 3) := by decide +kernel
theorem dX7_setScores_35 : decode cX7_setScores 35 = .ok (.aload_n 2, 1) := by decide +kernel
theorem dX7_setScores_36 : decode cX7_setScores 36 = .ok (.iload_n 3, 1) := by decide +kernel
theorem dX7_setScores_37 : decode cX7_setScores 37 = .ok (.iload_n 1, 1) := by decide +kernel
theorem dX7_setScores_38 : decode cX7_setScores 38 = .ok (.invokevirtual 58, 3) := by decide +kernel
theorem dX7_setScores_41 : decode cX7_setScores 41 = .ok (.ifCond .eq 7, 3) := by decide +kernel
theorem dX7_setScores_44 : decode cX7_setScores 44 = .ok (.iconst (-1), 1) := by decide +kernel
theorem dX7_setScores_45 : decode cX7_setScores 45 = .ok (.goto 13, 3) := by decide +kernel
theorem dX7_setScores_48 : decode cX7_setScores 48 = .ok (.aload_n 0, 1) := by decide +kernel
theorem dX7_setScores_49 : decode cX7_setScores 49 = .ok (.getfield 38, 3) := by decide +kernel
theorem dX7_setScores_52 : decode cX7_setScores 52 = .ok (.aload_n 2, 1) := by decide +kernel
theorem dX7_setScores_53 : decode cX7_setScores 53 = .ok (.iload_n 3, 1) := by decide +kernel
theorem dX7_setScores_54 : decode cX7_setScores 54 = .ok (.iload_n 1, 1) := by decide +kernel
theorem dX7_setScores_55 : decode cX7_setScores 55 = .ok (.invokevirtual 62, 3) := by decide +kernel
theorem dX7_setScores_58 : decode cX7_setScores 58 = .ok (.iastore, 1) := by decide +kernel
theorem dX7_setScores_59 : decode cX7_setScores 59 = .ok (.iinc 3 1, 3) := by decide +kernel
theorem dX7_setScores_62 : decode cX7_setScores 62 = .ok (.goto (-52), 3) := by decide +kernel
theorem dX7_setScores_65 : decode cX7_setScores 65 = .ok (.return_, 1) := by decide +kernel
theorem dX7_suspects_0 : decode cX7_suspects 0 = .ok (.iconst 0, 1) := by decide +kernel
theorem dX7_suspects_1 : decode cX7_suspects 1 = .ok (.istore_n 1, 1) := by decide +kernel
theorem dX7_suspects_2 : decode cX7_suspects 2 = .ok (.iconst 0, 1) := by decide +kernel
theorem dX7_suspects_3 : decode cX7_suspects 3 = .ok (.istore_n 2, 1) := by decide +kernel
theorem dX7_suspects_4 : decode cX7_suspects 4 = .ok (.iload_n 2, 1) := by decide +kernel
theorem dX7_suspects_5 : decode cX7_suspects 5 = .ok (.aload_n 0, 1) := by decide +kernel
theorem dX7_suspects_6 : decode cX7_suspects 6 = .ok (.getfield 48, 3) := by decide +kernel
theorem dX7_suspects_9 : decode cX7_suspects 9 = .ok (.getfield 55, 3) := by decide +kernel
theorem dX7_suspects_12 : decode cX7_suspects 12 = .ok (.if_icmp .ge 23, 3) := by decide +kernel
theorem dX7_suspects_15 : decode cX7_suspects 15 = .ok (.aload_n 0, 1) := by decide +kernel
theorem dX7_suspects_16 : decode cX7_suspects 16 = .ok (.iload_n 2, 1) := by decide +kernel
theorem dX7_suspects_17 : decode cX7_suspects 17 = .ok (.invokevirtual 92, 3) := by decide +kernel
theorem dX7_suspects_20 : decode cX7_suspects 20 = .ok (.ifCond .eq 9, 3) := by decide +kernel
theorem dX7_suspects_23 : decode cX7_suspects 23 = .ok (.iload_n 1, 1) := by decide +kernel
theorem dX7_suspects_24 : decode cX7_suspects 24 = .ok (.iconst 1, 1) := by decide +kernel
theorem dX7_suspects_25 : decode cX7_suspects 25 = .ok (.iload_n 2, 1) := by decide +kernel
theorem dX7_suspects_26 : decode cX7_suspects 26 = .ok (.ishl, 1) := by decide +kernel
theorem dX7_suspects_27 : decode cX7_suspects 27 = .ok (.ior, 1) := by decide +kernel
theorem dX7_suspects_28 : decode cX7_suspects 28 = .ok (.istore_n 1, 1) := by decide +kernel
theorem dX7_suspects_29 : decode cX7_suspects 29 = .ok (.iinc 2 1, 3) := by decide +kernel
theorem dX7_suspects_32 : decode cX7_suspects 32 = .ok (.goto (-28), 3) := by decide +kernel
theorem dX7_suspects_35 : decode cX7_suspects 35 = .ok (.iload_n 1, 1) := by decide +kernel
theorem dX7_suspects_36 : decode cX7_suspects 36 = .ok (.ireturn, 1) := by decide +kernel
theorem dX7_waysUp_0 : decode cX7_waysUp 0 = .ok (.aload_n 0, 1) := by decide +kernel
theorem dX7_waysUp_1 : decode cX7_waysUp 1 = .ok (.getfield 27, 3) := by decide +kernel
theorem dX7_waysUp_4 : decode cX7_waysUp 4 = .ok (.iconst 0, 1) := by decide +kernel
theorem dX7_waysUp_5 : decode cX7_waysUp 5 = .ok (.lconst 1, 1) := by decide +kernel
theorem dX7_waysUp_6 : decode cX7_waysUp 6 = .ok (.lastore, 1) := by decide +kernel
theorem dX7_waysUp_7 : decode cX7_waysUp 7 = .ok (.iconst 1, 1) := by decide +kernel
theorem dX7_waysUp_8 : decode cX7_waysUp 8 = .ok (.istore_n 3, 1) := by decide +kernel
theorem dX7_waysUp_9 : decode cX7_waysUp 9 = .ok (.iload_n 3, 1) := by decide +kernel
theorem dX7_waysUp_10 : decode cX7_waysUp 10 = .ok (.iload_n 1, 1) := by decide +kernel
theorem dX7_waysUp_11 : decode cX7_waysUp 11 = .ok (.if_icmp .gt 66, 3) := by decide +kernel
theorem dX7_waysUp_14 : decode cX7_waysUp 14 = .ok (.iload_n 3, 1) := by decide +kernel
theorem dX7_waysUp_15 : decode cX7_waysUp 15 = .ok (.bipush 60, 2) := by decide +kernel
theorem dX7_waysUp_17 : decode cX7_waysUp 17 = .ok (.if_icmp .gt 60, 3) := by decide +kernel
theorem dX7_waysUp_20 : decode cX7_waysUp 20 = .ok (.lconst 0, 1) := by decide +kernel
theorem dX7_waysUp_21 : decode cX7_waysUp 21 = .ok (.lstore 4, 2) := by decide +kernel
theorem dX7_waysUp_23 : decode cX7_waysUp 23 = .ok (.iconst 1, 1) := by decide +kernel
theorem dX7_waysUp_24 : decode cX7_waysUp 24 = .ok (.istore 6, 2) := by decide +kernel
theorem dX7_waysUp_26 : decode cX7_waysUp 26 = .ok (.iload 6, 2) := by decide +kernel
theorem dX7_waysUp_28 : decode cX7_waysUp 28 = .ok (.iload_n 2, 1) := by decide +kernel
theorem dX7_waysUp_29 : decode cX7_waysUp 29 = .ok (.if_icmp .gt 34, 3) := by decide +kernel
theorem dX7_waysUp_32 : decode cX7_waysUp 32 = .ok (.iload 6, 2) := by decide +kernel
theorem dX7_waysUp_34 : decode cX7_waysUp 34 = .ok (.iload_n 3, 1) := by decide +kernel
theorem dX7_waysUp_35 : decode cX7_waysUp 35 = .ok (.if_icmp .gt 28, 3) := by decide +kernel
theorem dX7_waysUp_38 : decode cX7_waysUp 38 = .ok (.iload_n 3, 1) := by decide +kernel
theorem dX7_waysUp_39 : decode cX7_waysUp 39 = .ok (.iconst 2, 1) := by decide +kernel
theorem dX7_waysUp_40 : decode cX7_waysUp 40 = .ok (.if_icmp .eq 23, 3) := by decide +kernel
theorem dX7_waysUp_43 : decode cX7_waysUp 43 = .ok (.lload 4, 2) := by decide +kernel
theorem dX7_waysUp_45 : decode cX7_waysUp 45 = .ok (.aload_n 0, 1) := by decide +kernel
theorem dX7_waysUp_46 : decode cX7_waysUp 46 = .ok (.getfield 27, 3) := by decide +kernel
theorem dX7_waysUp_49 : decode cX7_waysUp 49 = .ok (.iload_n 3, 1) := by decide +kernel
theorem dX7_waysUp_50 : decode cX7_waysUp 50 = .ok (.iload 6, 2) := by decide +kernel
theorem dX7_waysUp_52 : decode cX7_waysUp 52 = .ok (.isub, 1) := by decide +kernel
theorem dX7_waysUp_53 : decode cX7_waysUp 53 = .ok (.laload, 1) := by decide +kernel
theorem dX7_waysUp_54 : decode cX7_waysUp 54 = .ok (.ladd, 1) := by decide +kernel
theorem dX7_waysUp_55 : decode cX7_waysUp 55 = .ok (.lstore 4, 2) := by decide +kernel
theorem dX7_waysUp_57 : decode cX7_waysUp 57 = .ok (.iinc 6 1, 3) := by decide +kernel
theorem dX7_waysUp_60 : decode cX7_waysUp 60 = .ok (.goto (-34), 3) := by decide +kernel
theorem dX7_waysUp_63 : decode cX7_waysUp 63 = .ok (.aload_n 0, 1) := by decide +kernel
theorem dX7_waysUp_64 : decode cX7_waysUp 64 = .ok (.getfield 27, 3) := by decide +kernel
theorem dX7_waysUp_67 : decode cX7_waysUp 67 = .ok (.iload_n 3, 1) := by decide +kernel
theorem dX7_waysUp_68 : decode cX7_waysUp 68 = .ok (.lload 4, 2) := by decide +kernel
theorem dX7_waysUp_70 : decode cX7_waysUp 70 = .ok (.lastore, 1) := by decide +kernel
theorem dX7_waysUp_71 : decode cX7_waysUp 71 = .ok (.iinc 3 1, 3) := by decide +kernel
theorem dX7_waysUp_74 : decode cX7_waysUp 74 = .ok (.goto (-65), 3) := by decide +kernel
theorem dX7_waysUp_77 : decode cX7_waysUp 77 = .ok (.iload_n 1, 1) := by decide +kernel
theorem dX7_waysUp_78 : decode cX7_waysUp 78 = .ok (.ifCond .lt 18, 3) := by decide +kernel
theorem dX7_waysUp_81 : decode cX7_waysUp 81 = .ok (.iload_n 1, 1) := by decide +kernel
theorem dX7_waysUp_82 : decode cX7_waysUp 82 = .ok (.bipush 60, 2) := by decide +kernel
theorem dX7_waysUp_84 : decode cX7_waysUp 84 = .ok (.if_icmp .gt 12, 3) := by decide +kernel
theorem dX7_waysUp_87 : decode cX7_waysUp 87 = .ok (.aload_n 0, 1) := by decide +kernel
theorem dX7_waysUp_88 : decode cX7_waysUp 88 = .ok (.getfield 27, 3) := by decide +kernel
theorem dX7_waysUp_91 : decode cX7_waysUp 91 = .ok (.iload_n 1, 1) := by decide +kernel
theorem dX7_waysUp_92 : decode cX7_waysUp 92 = .ok (.laload, 1) := by decide +kernel
theorem dX7_waysUp_93 : decode cX7_waysUp 93 = .ok (.goto 6, 3) := by decide +kernel
theorem dX7_waysUp_96 : decode cX7_waysUp 96 = .ok (.ldc2_w 161, 3) := by decide +kernel
theorem dX7_waysUp_99 : decode cX7_waysUp 99 = .ok (.lreturn, 1) := by decide +kernel
theorem dX8_answer_0 : decode cX8_answer 0 = .ok (.iload_n 1, 1) := by decide +kernel
theorem dX8_answer_1 : decode cX8_answer 1 = .ok (.ifCond .ge 11, 3) := by decide +kernel
theorem dX8_answer_4 : decode cX8_answer 4 = .ok (.aload_n 0, 1) := by decide +kernel
theorem dX8_answer_5 : decode cX8_answer 5 = .ok (.iload_n 1, 1) := by decide +kernel
theorem dX8_answer_6 : decode cX8_answer 6 = .ok (.invokevirtual 102, 3) := by decide +kernel
theorem dX8_answer_9 : decode cX8_answer 9 = .ok (.goto 8, 3) := by decide +kernel
theorem dX8_answer_12 : decode cX8_answer 12 = .ok (.aload_n 0, 1) := by decide +kernel
theorem dX8_answer_13 : decode cX8_answer 13 = .ok (.iload_n 1, 1) := by decide +kernel
theorem dX8_answer_14 : decode cX8_answer 14 = .ok (.invokevirtual 116, 3) := by decide +kernel
theorem dX8_answer_17 : decode cX8_answer 17 = .ok (.ireturn, 1) := by decide +kernel
theorem dX8_back_0 : decode cX8_back 0 = .ok (.iload_n 1, 1) := by decide +kernel
theorem dX8_back_1 : decode cX8_back 1 = .ok (.ifCond .lt 8, 3) := by decide +kernel
theorem dX8_back_4 : decode cX8_back 4 = .ok (.iload_n 1, 1) := by decide +kernel
theorem dX8_back_5 : decode cX8_back 5 = .ok (.iconst 2, 1) := by decide +kernel
theorem dX8_back_6 : decode cX8_back 6 = .ok (.if_icmp .lt 9, 3) := by decide +kernel
theorem dX8_back_9 : decode cX8_back 9 = .ok (.aload_n 0, 1) := by decide +kernel
theorem dX8_back_10 : decode cX8_back 10 = .ok (.iconst (-1), 1) := by decide +kernel
theorem dX8_back_11 : decode cX8_back 11 = .ok (.invokevirtual 102, 3) := by decide +kernel
theorem dX8_back_14 : decode cX8_back 14 = .ok (.ireturn, 1) := by decide +kernel
theorem dX8_back_15 : decode cX8_back 15 = .ok (.aload_n 0, 1) := by decide +kernel
theorem dX8_back_16 : decode cX8_back 16 = .ok (.getfield 54, 3) := by decide +kernel
theorem dX8_back_19 : decode cX8_back 19 = .ok (.iload_n 1, 1) := by decide +kernel
theorem dX8_back_20 : decode cX8_back 20 = .ok (.aaload, 1) := by decide +kernel
theorem dX8_back_21 : decode cX8_back 21 = .ok (.ifnonnull 10, 3) := by decide +kernel
theorem dX8_back_24 : decode cX8_back 24 = .ok (.aload_n 0, 1) := by decide +kernel
theorem dX8_back_25 : decode cX8_back 25 = .ok (.bipush (-2), 2) := by decide +kernel
theorem dX8_back_27 : decode cX8_back 27 = .ok (.invokevirtual 102, 3) := by decide +kernel
theorem dX8_back_30 : decode cX8_back 30 = .ok (.ireturn, 1) := by decide +kernel
theorem dX8_back_31 : decode cX8_back 31 = .ok (.aload_n 0, 1) := by decide +kernel
theorem dX8_back_32 : decode cX8_back 32 = .ok (.getfield 26, 3) := by decide +kernel
theorem dX8_back_35 : decode cX8_back 35 = .ok (.aload_n 0, 1) := by decide +kernel
theorem dX8_back_36 : decode cX8_back 36 = .ok (.getfield 54, 3) := by decide +kernel
theorem dX8_back_39 : decode cX8_back 39 = .ok (.iload_n 1, 1) := by decide +kernel
theorem dX8_back_40 : decode cX8_back 40 = .ok (.aaload, 1) := by decide +kernel
theorem dX8_back_41 : decode cX8_back 41 = .ok (.invokevirtual 291, 3) := by decide +kernel
theorem dX8_back_44 : decode cX8_back 44 = .ok (.aload_n 0, 1) := by decide +kernel
theorem dX8_back_45 : decode cX8_back 45 = .ok (.getfield 61, 3) := by decide +kernel
theorem dX8_back_48 : decode cX8_back 48 = .ok (.invokevirtual 109, 3) := by decide +kernel
theorem dX8_back_51 : decode cX8_back 51 = .ok (.aload_n 0, 1) := by decide +kernel
theorem dX8_back_52 : decode cX8_back 52 = .ok (.iconst 0, 1) := by decide +kernel
theorem dX8_back_53 : decode cX8_back 53 = .ok (.invokevirtual 116, 3) := by decide +kernel
theorem dX8_back_56 : decode cX8_back 56 = .ok (.ireturn, 1) := by decide +kernel
theorem dX8_be_0 : decode cX8_be 0 = .ok (.aload_n 0, 1) := by decide +kernel
theorem dX8_be_1 : decode cX8_be 1 = .ok (.getfield 26, 3) := by decide +kernel
theorem dX8_be_4 : decode cX8_be 4 = .ok (.iload_n 1, 1) := by decide +kernel
theorem dX8_be_5 : decode cX8_be 5 = .ok (.invokevirtual 99, 3) := by decide +kernel
theorem dX8_be_8 : decode cX8_be 8 = .ok (.ifCond .eq 32, 3) := by decide +kernel
theorem dX8_be_11 : decode cX8_be 11 = .ok (.iload_n 2, 1) := by decide +kernel
theorem dX8_be_12 : decode cX8_be 12 = .ok (.invokestatic 122, 3) := by decide +kernel
theorem dX8_be_15 : decode cX8_be 15 = .ok (.ifCond .eq 25, 3) := by decide +kernel
theorem dX8_be_18 : decode cX8_be 18 = .ok (.iload_n 3, 1) := by decide +kernel
theorem dX8_be_19 : decode cX8_be 19 = .ok (.iconst 1, 1) := by decide +kernel
theorem dX8_be_20 : decode cX8_be 20 = .ok (.if_icmp .lt 20, 3) := by decide +kernel
theorem dX8_be_23 : decode cX8_be 23 = .ok (.iload_n 3, 1) := by decide +kernel
theorem dX8_be_24 : decode cX8_be 24 = .ok (.bipush 7, 2) := by decide +kernel
theorem dX8_be_26 : decode cX8_be 26 = .ok (.if_icmp .gt 14, 3) := by decide +kernel
theorem dX8_be_29 : decode cX8_be 29 = .ok (.iload 4, 2) := by decide +kernel
theorem dX8_be_31 : decode cX8_be 31 = .ok (.ifCond .lt 9, 3) := by decide +kernel
theorem dX8_be_34 : decode cX8_be 34 = .ok (.iload 4, 2) := by decide +kernel
theorem dX8_be_36 : decode cX8_be 36 = .ok (.iconst 1, 1) := by decide +kernel
theorem dX8_be_37 : decode cX8_be 37 = .ok (.if_icmp .le 5, 3) := by decide +kernel
theorem dX8_be_40 : decode cX8_be 40 = .ok (.iconst (-1), 1) := by decide +kernel
theorem dX8_be_41 : decode cX8_be 41 = .ok (.ireturn, 1) := by decide +kernel
theorem dX8_be_42 : decode cX8_be 42 = .ok (.aload_n 0, 1) := by decide +kernel
theorem dX8_be_43 : decode cX8_be 43 = .ok (.getfield 44, 3) := by decide +kernel
theorem dX8_be_46 : decode cX8_be 46 = .ok (.iload_n 1, 1) := by decide +kernel
theorem dX8_be_47 : decode cX8_be 47 = .ok (.iload_n 2, 1) := by decide +kernel
theorem dX8_be_48 : decode cX8_be 48 = .ok (.iload_n 3, 1) := by decide +kernel
theorem dX8_be_49 : decode cX8_be 49 = .ok (.invokevirtual 234, 3) := by decide +kernel
theorem dX8_be_52 : decode cX8_be 52 = .ok (.istore 5, 2) := by decide +kernel
theorem dX8_be_54 : decode cX8_be 54 = .ok (.iload 4, 2) := by decide +kernel
theorem dX8_be_56 : decode cX8_be 56 = .ok (.iconst 1, 1) := by decide +kernel
theorem dX8_be_57 : decode cX8_be 57 = .ok (.if_icmp .eq 9, 3) := by decide +kernel
theorem dX8_be_60 : decode cX8_be 60 = .ok (.iload 5, 2) := by decide +kernel
theorem dX8_be_62 : decode cX8_be 62 = .ok (.iconst (-1), 1) := by decide +kernel
theorem dX8_be_63 : decode cX8_be 63 = .ok (.if_icmp .ne 8, 3) := by decide +kernel
theorem dX8_be_66 : decode cX8_be 66 = .ok (.iload 5, 2) := by decide +kernel
theorem dX8_be_68 : decode cX8_be 68 = .ok (.goto 8, 3) := by decide +kernel
theorem dX8_be_71 : decode cX8_be 71 = .ok (.iload 5, 2) := by decide +kernel
theorem dX8_be_73 : decode cX8_be 73 = .ok (.invokestatic 238, 3) := by decide +kernel
theorem dX8_be_76 : decode cX8_be 76 = .ok (.ireturn, 1) := by decide +kernel
theorem dX8_beats_0 : decode cX8_beats 0 = .ok (.iload_n 1, 1) := by decide +kernel
theorem dX8_beats_1 : decode cX8_beats 1 = .ok (.iload_n 2, 1) := by decide +kernel
theorem dX8_beats_2 : decode cX8_beats 2 = .ok (.if_icmp .eq 12, 3) := by decide +kernel
theorem dX8_beats_5 : decode cX8_beats 5 = .ok (.iload_n 3, 1) := by decide +kernel
theorem dX8_beats_6 : decode cX8_beats 6 = .ok (.ifCond .lt 8, 3) := by decide +kernel
theorem dX8_beats_9 : decode cX8_beats 9 = .ok (.iload_n 3, 1) := by decide +kernel
theorem dX8_beats_10 : decode cX8_beats 10 = .ok (.iconst 1, 1) := by decide +kernel
theorem dX8_beats_11 : decode cX8_beats 11 = .ok (.if_icmp .le 9, 3) := by decide +kernel
theorem dX8_beats_14 : decode cX8_beats 14 = .ok (.aload_n 0, 1) := by decide +kernel
theorem dX8_beats_15 : decode cX8_beats 15 = .ok (.iconst (-1), 1) := by decide +kernel
theorem dX8_beats_16 : decode cX8_beats 16 = .ok (.invokevirtual 102, 3) := by decide +kernel
theorem dX8_beats_19 : decode cX8_beats 19 = .ok (.ireturn, 1) := by decide +kernel
theorem dX8_beats_20 : decode cX8_beats 20 = .ok (.aload_n 0, 1) := by decide +kernel
theorem dX8_beats_21 : decode cX8_beats 21 = .ok (.getfield 26, 3) := by decide +kernel
theorem dX8_beats_24 : decode cX8_beats 24 = .ok (.iload_n 1, 1) := by decide +kernel
theorem dX8_beats_25 : decode cX8_beats 25 = .ok (.invokevirtual 99, 3) := by decide +kernel
theorem dX8_beats_28 : decode cX8_beats 28 = .ok (.ifCond .eq 14, 3) := by decide +kernel
theorem dX8_beats_31 : decode cX8_beats 31 = .ok (.aload_n 0, 1) := by decide +kernel
theorem dX8_beats_32 : decode cX8_beats 32 = .ok (.getfield 26, 3) := by decide +kernel
theorem dX8_beats_35 : decode cX8_beats 35 = .ok (.iload_n 2, 1) := by decide +kernel
theorem dX8_beats_36 : decode cX8_beats 36 = .ok (.invokevirtual 99, 3) := by decide +kernel
theorem dX8_beats_39 : decode cX8_beats 39 = .ok (.ifCond .ne 10, 3) := by decide +kernel
theorem dX8_beats_42 : decode cX8_beats 42 = .ok (.aload_n 0, 1) := by decide +kernel
theorem dX8_beats_43 : decode cX8_beats 43 = .ok (.bipush (-2), 2) := by decide +kernel
theorem dX8_beats_45 : decode cX8_beats 45 = .ok (.invokevirtual 102, 3) := by decide +kernel
theorem dX8_beats_48 : decode cX8_beats 48 = .ok (.ireturn, 1) := by decide +kernel
theorem dX8_beats_49 : decode cX8_beats 49 = .ok (.aload_n 0, 1) := by decide +kernel
theorem dX8_beats_50 : decode cX8_beats 50 = .ok (.getfield 26, 3) := by decide +kernel
theorem dX8_beats_53 : decode cX8_beats 53 = .ok (.getfield 146, 3) := by decide +kernel
theorem dX8_beats_56 : decode cX8_beats 56 = .ok (.iload_n 1, 1) := by decide +kernel
theorem dX8_beats_57 : decode cX8_beats 57 = .ok (.iaload, 1) := by decide +kernel
theorem dX8_beats_58 : decode cX8_beats 58 = .ok (.iload_n 2, 1) := by decide +kernel
theorem dX8_beats_59 : decode cX8_beats 59 = .ok (.ishr, 1) := by decide +kernel
theorem dX8_beats_60 : decode cX8_beats 60 = .ok (.iconst 1, 1) := by decide +kernel
theorem dX8_beats_61 : decode cX8_beats 61 = .ok (.iand, 1) := by decide +kernel
theorem dX8_beats_62 : decode cX8_beats 62 = .ok (.istore 4, 2) := by decide +kernel
theorem dX8_beats_64 : decode cX8_beats 64 = .ok (.aload_n 0, 1) := by decide +kernel
theorem dX8_beats_65 : decode cX8_beats 65 = .ok (.getfield 26, 3) := by decide +kernel
theorem dX8_beats_68 : decode cX8_beats 68 = .ok (.getfield 146, 3) := by decide +kernel
theorem dX8_beats_71 : decode cX8_beats 71 = .ok (.iload_n 1, 1) := by decide +kernel
theorem dX8_beats_72 : decode cX8_beats 72 = .ok (.dup2, 1) := by decide +kernel
theorem dX8_beats_73 : decode cX8_beats 73 = .ok (.iaload, 1) := by decide +kernel
theorem dX8_beats_74 : decode cX8_beats 74 = .ok (.iload 4, 2) := by decide +kernel
theorem dX8_beats_76 : decode cX8_beats 76 = .ok (.iload_n 3, 1) := by decide +kernel
theorem dX8_beats_77 : decode cX8_beats 77 = .ok (.ixor, 1) := by decide +kernel
theorem dX8_beats_78 : decode cX8_beats 78 = .ok (.iload_n 2, 1) := by decide +kernel
theorem dX8_beats_79 : decode cX8_beats 79 = .ok (.ishl, 1) := by decide +kernel
theorem dX8_beats_80 : decode cX8_beats 80 = .ok (.ixor, 1) := by decide +kernel
theorem dX8_beats_81 : decode cX8_beats 81 = .ok (.iastore, 1) := by decide +kernel
theorem dX8_beats_82 : decode cX8_beats 82 = .ok (.aload_n 0, 1) := by decide +kernel
theorem dX8_beats_83 : decode cX8_beats 83 = .ok (.iload 4, 2) := by decide +kernel
theorem dX8_beats_85 : decode cX8_beats 85 = .ok (.invokevirtual 116, 3) := by decide +kernel
theorem dX8_beats_88 : decode cX8_beats 88 = .ok (.ireturn, 1) := by decide +kernel
theorem dX8_blots_0 : decode cX8_blots 0 = .ok (.aload_n 0, 1) := by decide +kernel
theorem dX8_blots_1 : decode cX8_blots 1 = .ok (.getfield 83, 3) := by decide +kernel
theorem dX8_blots_4 : decode cX8_blots 4 = .ok (.ireturn, 1) := by decide +kernel
theorem dX8_canBe_0 : decode cX8_canBe 0 = .ok (.aload_n 0, 1) := by decide +kernel
theorem dX8_canBe_1 : decode cX8_canBe 1 = .ok (.getfield 44, 3) := by decide +kernel
theorem dX8_canBe_4 : decode cX8_canBe 4 = .ok (.invokevirtual 249, 3) := by decide +kernel
theorem dX8_canBe_7 : decode cX8_canBe 7 = .ok (.ireturn, 1) := by decide +kernel
theorem dX8_centuries_0 : decode cX8_centuries 0 = .ok (.iload_n 1, 1) := by decide +kernel
theorem dX8_centuries_1 : decode cX8_centuries 1 = .ok (.ifCond .lt 21, 3) := by decide +kernel
theorem dX8_centuries_4 : decode cX8_centuries 4 = .ok (.iload_n 1, 1) := by decide +kernel
theorem dX8_centuries_5 : decode cX8_centuries 5 = .ok (.ldc_w 290, 3) := by decide +kernel
theorem dX8_centuries_8 : decode cX8_centuries 8 = .ok (.if_icmp .gt 14, 3) := by decide +kernel
theorem dX8_centuries_11 : decode cX8_centuries 11 = .ok (.iload_n 2, 1) := by decide +kernel
theorem dX8_centuries_12 : decode cX8_centuries 12 = .ok (.iconst 1, 1) := by decide +kernel
theorem dX8_centuries_13 : decode cX8_centuries 13 = .ok (.if_icmp .lt 9, 3) := by decide +kernel
theorem dX8_centuries_16 : decode cX8_centuries 16 = .ok (.iload_n 2, 1) := by decide +kernel
theorem dX8_centuries_17 : decode cX8_centuries 17 = .ok (.bipush 60, 2) := by decide +kernel
theorem dX8_centuries_19 : decode cX8_centuries 19 = .ok (.if_icmp .le 9, 3) := by decide +kernel
theorem dX8_centuries_22 : decode cX8_centuries 22 = .ok (.aload_n 0, 1) := by decide +kernel
theorem dX8_centuries_23 : decode cX8_centuries 23 = .ok (.iconst (-1), 1) := by decide +kernel
theorem dX8_centuries_24 : decode cX8_centuries 24 = .ok (.invokevirtual 102, 3) := by decide +kernel
theorem dX8_centuries_27 : decode cX8_centuries 27 = .ok (.ireturn, 1) := by decide +kernel
theorem dX8_centuries_28 : decode cX8_centuries 28 = .ok (.aload_n 0, 1) := by decide +kernel
theorem dX8_centuries_29 : decode cX8_centuries 29 = .ok (.getfield 26, 3) := by decide +kernel
theorem dX8_centuries_32 : decode cX8_centuries 32 = .ok (.getfield 106, 3) := by decide +kernel
theorem dX8_centuries_35 : decode cX8_centuries 35 = .ok (.ifCond .ne 10, 3) := by decide +kernel
theorem dX8_centuries_38 : decode cX8_centuries 38 = .ok (.aload_n 0, 1) := by decide +kernel
theorem dX8_centuries_39 : decode cX8_centuries 39 = .ok (.bipush (-3), 2) := by decide +kernel
theorem dX8_centuries_41 : decode cX8_centuries 41 = .ok (.invokevirtual 102, 3) := by decide +kernel
theorem dX8_centuries_44 : decode cX8_centuries 44 = .ok (.ireturn, 1) := by decide +kernel
theorem dX8_centuries_45 : decode cX8_centuries 45 = .ok (.aload_n 0, 1) := by decide +kernel
theorem dX8_centuries_46 : decode cX8_centuries 46 = .ok (.getfield 48, 3) := by decide +kernel
theorem dX8_centuries_49 : decode cX8_centuries 49 = .ok (.aload_n 0, 1) := by decide +kernel
theorem dX8_centuries_50 : decode cX8_centuries 50 = .ok (.getfield 26, 3) := by decide +kernel
theorem dX8_centuries_53 : decode cX8_centuries 53 = .ok (.invokevirtual 291, 3) := by decide +kernel
theorem dX8_centuries_56 : decode cX8_centuries 56 = .ok (.iload_n 1, 1) := by decide +kernel
theorem dX8_centuries_57 : decode cX8_centuries 57 = .ok (.istore_n 3, 1) := by decide +kernel
theorem dX8_centuries_58 : decode cX8_centuries 58 = .ok (.iconst 0, 1) := by decide +kernel
theorem dX8_centuries_59 : decode cX8_centuries 59 = .ok (.istore 4, 2) := by decide +kernel
theorem dX8_centuries_61 : decode cX8_centuries 61 = .ok (.iconst 0, 1) := by decide +kernel
theorem dX8_centuries_62 : decode cX8_centuries 62 = .ok (.istore 5, 2) := by decide +kernel
theorem dX8_centuries_64 : decode cX8_centuries 64 = .ok (.iload 5, 2) := by decide +kernel
theorem dX8_centuries_66 : decode cX8_centuries 66 = .ok (.iload_n 2, 1) := by decide +kernel
theorem dX8_centuries_67 : decode cX8_centuries 67 = .ok (.if_icmp .ge 127, 3) := by decide +kernel
theorem dX8_centuries_70 : decode cX8_centuries 70 = .ok (.aload_n 0, 1) := by decide +kernel
theorem dX8_centuries_71 : decode cX8_centuries 71 = .ok (.getfield 48, 3) := by decide +kernel
theorem dX8_centuries_74 : decode cX8_centuries 74 = .ok (.getfield 140, 3) := by decide +kernel
theorem dX8_centuries_77 : decode cX8_centuries 77 = .ok (.getfield 294, 3) := by decide +kernel
theorem dX8_centuries_80 : decode cX8_centuries 80 = .ok (.sipush 999, 3) := by decide +kernel
theorem dX8_centuries_83 : decode cX8_centuries 83 = .ok (.if_icmp .ge 111, 3) := by decide +kernel
theorem dX8_centuries_86 : decode cX8_centuries 86 = .ok (.iload_n 3, 1) := by decide +kernel
theorem dX8_centuries_87 : decode cX8_centuries 87 = .ok (.invokestatic 297, 3) := by decide +kernel
theorem dX8_centuries_90 : decode cX8_centuries 90 = .ok (.istore 6, 2) := by decide +kernel
theorem dX8_centuries_92 : decode cX8_centuries 92 = .ok (.iload 6, 2) := by decide +kernel
theorem dX8_centuries_94 : decode cX8_centuries 94 = .ok (.invokestatic 297, 3) := by decide +kernel
theorem dX8_centuries_97 : decode cX8_centuries 97 = .ok (.istore 7, 2) := by decide +kernel
theorem dX8_centuries_99 : decode cX8_centuries 99 = .ok (.iload 7, 2) := by decide +kernel
theorem dX8_centuries_101 : decode cX8_centuries 101 = .ok (.invokestatic 297, 3) := by decide +kernel
theorem dX8_centuries_104 : decode cX8_centuries 104 = .ok (.istore_n 3, 1) := by decide +kernel
theorem dX8_centuries_105 : decode cX8_centuries 105 = .ok (.iload_n 3, 1) := by decide +kernel
theorem dX8_centuries_106 : decode cX8_centuries 106 = .ok (.iconst 4, 1) := by decide +kernel
theorem dX8_centuries_107 : decode cX8_centuries 107 = .ok (.irem, 1) := by decide +kernel
theorem dX8_centuries_108 : decode cX8_centuries 108 = .ok (.iconst 2, 1) := by decide +kernel
theorem dX8_centuries_109 : decode cX8_centuries 109 = .ok (.if_icmp .ge 7, 3) := by decide +kernel
theorem dX8_centuries_112 : decode cX8_centuries 112 = .ok (.iconst 1, 1) := by decide +kernel
theorem dX8_centuries_113 : decode cX8_centuries 113 = .ok (.goto 15, 3) := by decide +kernel
theorem dX8_centuries_116 : decode cX8_centuries 116 = .ok (.iload_n 3, 1) := by decide +kernel
theorem dX8_centuries_117 : decode cX8_centuries 117 = .ok (.iconst 4, 1) := by decide +kernel
theorem dX8_centuries_118 : decode cX8_centuries 118 = .ok (.irem, 1) := by decide +kernel
theorem dX8_centuries_119 : decode cX8_centuries 119 = .ok (.iconst 2, 1) := by decide +kernel
theorem dX8_centuries_120 : decode cX8_centuries 120 = .ok (.if_icmp .ne 7, 3) := by decide +kernel
theorem dX8_centuries_123 : decode cX8_centuries 123 = .ok (.iconst 0, 1) := by decide +kernel
theorem dX8_centuries_124 : decode cX8_centuries 124 = .ok (.goto 4, 3) := by decide +kernel
theorem dX8_centuries_127 : decode cX8_centuries 127 = .ok (.iconst 2, 1) := by decide +kernel
theorem dX8_centuries_128 : decode cX8_centuries 128 = .ok (.istore 8, 2) := by decide +kernel
theorem dX8_centuries_130 : decode cX8_centuries 130 = .ok (.aload_n 0, 1) := by decide +kernel
theorem dX8_centuries_131 : decode cX8_centuries 131 = .ok (.getfield 51, 3) := by decide +kernel
theorem dX8_centuries_134 : decode cX8_centuries 134 = .ok (.iload 8, 2) := by decide +kernel
theorem dX8_centuries_136 : decode cX8_centuries 136 = .ok (.iload 8, 2) := by decide +kernel
theorem dX8_centuries_138 : decode cX8_centuries 138 = .ok (.ifCond .ne 10, 3) := by decide +kernel
theorem dX8_centuries_141 : decode cX8_centuries 141 = .ok (.iload 7, 2) := by decide +kernel
theorem dX8_centuries_143 : decode cX8_centuries 143 = .ok (.iconst 4, 1) := by decide +kernel
theorem dX8_centuries_144 : decode cX8_centuries 144 = .ok (.irem, 1) := by decide +kernel
theorem dX8_centuries_145 : decode cX8_centuries 145 = .ok (.goto 13, 3) := by decide +kernel
theorem dX8_centuries_148 : decode cX8_centuries 148 = .ok (.iload 6, 2) := by decide +kernel
theorem dX8_centuries_150 : decode cX8_centuries 150 = .ok (.aload_n 0, 1) := by decide +kernel
theorem dX8_centuries_151 : decode cX8_centuries 151 = .ok (.getfield 26, 3) := by decide +kernel
theorem dX8_centuries_154 : decode cX8_centuries 154 = .ok (.getfield 106, 3) := by decide +kernel
theorem dX8_centuries_157 : decode cX8_centuries 157 = .ok (.irem, 1) := by decide +kernel
theorem dX8_centuries_158 : decode cX8_centuries 158 = .ok (.aconst_null, 1) := by decide +kernel
theorem dX8_centuries_159 : decode cX8_centuries 159 = .ok (.invokevirtual 222, 3) := by decide +kernel
theorem dX8_centuries_162 : decode cX8_centuries 162 = .ok (.istore 9, 2) := by decide +kernel
theorem dX8_centuries_164 : decode cX8_centuries 164 = .ok (.iload 8, 2) := by decide +kernel
theorem dX8_centuries_166 : decode cX8_centuries 166 = .ok (.ifCond .ne 11, 3) := by decide +kernel
theorem dX8_centuries_169 : decode cX8_centuries 169 = .ok (.iload 9, 2) := by decide +kernel
theorem dX8_centuries_171 : decode cX8_centuries 171 = .ok (.ifCond .lt 6, 3) := by decide +kernel
theorem dX8_centuries_174 : decode cX8_centuries 174 = .ok (.iinc 4 1, 3) := by decide +kernel
theorem dX8_centuries_177 : decode cX8_centuries 177 = .ok (.aload_n 0, 1) := by decide +kernel
theorem dX8_centuries_178 : decode cX8_centuries 178 = .ok (.getfield 51, 3) := by decide +kernel
theorem dX8_centuries_181 : decode cX8_centuries 181 = .ok (.iconst 3, 1) := by decide +kernel
theorem dX8_centuries_182 : decode cX8_centuries 182 = .ok (.iconst 0, 1) := by decide +kernel
theorem dX8_centuries_183 : decode cX8_centuries 183 = .ok (.aconst_null, 1) := by decide +kernel
theorem dX8_centuries_184 : decode cX8_centuries 184 = .ok (.invokevirtual 222, 3) := by decide +kernel
theorem dX8_centuries_187 : decode cX8_centuries 187 = .ok (.pop, 1) := by decide +kernel
theorem dX8_centuries_188 : decode cX8_centuries 188 = .ok (.iinc 5 1, 3) := by decide +kernel
theorem dX8_centuries_191 : decode cX8_centuries 191 = .ok (.goto (-127), 3) := by decide +kernel
theorem dX8_centuries_194 : decode cX8_centuries 194 = .ok (.aload_n 0, 1) := by decide +kernel
theorem dX8_centuries_195 : decode cX8_centuries 195 = .ok (.iload 4, 2) := by decide +kernel
theorem dX8_centuries_197 : decode cX8_centuries 197 = .ok (.invokevirtual 116, 3) := by decide +kernel
theorem dX8_centuries_200 : decode cX8_centuries 200 = .ok (.ireturn, 1) := by decide +kernel
theorem dX8_circles_0 : decode cX8_circles 0 = .ok (.aload_n 0, 1) := by decide +kernel
theorem dX8_circles_1 : decode cX8_circles 1 = .ok (.getfield 44, 3) := by decide +kernel
theorem dX8_circles_4 : decode cX8_circles 4 = .ok (.invokevirtual 265, 3) := by decide +kernel
theorem dX8_circles_7 : decode cX8_circles 7 = .ok (.ireturn, 1) := by decide +kernel
theorem dX8_compare_0 : decode cX8_compare 0 = .ok (.iload_n 1, 1) := by decide +kernel
theorem dX8_compare_1 : decode cX8_compare 1 = .ok (.iconst (-1), 1) := by decide +kernel
theorem dX8_compare_2 : decode cX8_compare 2 = .ok (.if_icmp .eq 14, 3) := by decide +kernel
theorem dX8_compare_5 : decode cX8_compare 5 = .ok (.aload_n 0, 1) := by decide +kernel
theorem dX8_compare_6 : decode cX8_compare 6 = .ok (.getfield 26, 3) := by decide +kernel
theorem dX8_compare_9 : decode cX8_compare 9 = .ok (.iload_n 1, 1) := by decide +kernel
theorem dX8_compare_10 : decode cX8_compare 10 = .ok (.invokevirtual 216, 3) := by decide +kernel
theorem dX8_compare_13 : decode cX8_compare 13 = .ok (.ifCond .eq 10, 3) := by decide +kernel
theorem dX8_compare_16 : decode cX8_compare 16 = .ok (.iload_n 2, 1) := by decide +kernel
theorem dX8_compare_17 : decode cX8_compare 17 = .ok (.invokestatic 122, 3) := by decide +kernel
theorem dX8_compare_20 : decode cX8_compare 20 = .ok (.ifCond .ne 5, 3) := by decide +kernel
theorem dX8_compare_23 : decode cX8_compare 23 = .ok (.iconst (-1), 1) := by decide +kernel
theorem dX8_compare_24 : decode cX8_compare 24 = .ok (.ireturn, 1) := by decide +kernel
theorem dX8_compare_25 : decode cX8_compare 25 = .ok (.aload_n 0, 1) := by decide +kernel
theorem dX8_compare_26 : decode cX8_compare 26 = .ok (.getfield 35, 3) := by decide +kernel
theorem dX8_compare_29 : decode cX8_compare 29 = .ok (.aload_n 0, 1) := by decide +kernel
theorem dX8_compare_30 : decode cX8_compare 30 = .ok (.getfield 26, 3) := by decide +kernel
theorem dX8_compare_33 : decode cX8_compare 33 = .ok (.iload_n 1, 1) := by decide +kernel
theorem dX8_compare_34 : decode cX8_compare 34 = .ok (.invokevirtual 286, 3) := by decide +kernel
theorem dX8_compare_37 : decode cX8_compare 37 = .ok (.iload_n 2, 1) := by decide +kernel
theorem dX8_compare_38 : decode cX8_compare 38 = .ok (.invokevirtual 149, 3) := by decide +kernel
theorem dX8_compare_41 : decode cX8_compare 41 = .ok (.pop, 1) := by decide +kernel
theorem dX8_compare_42 : decode cX8_compare 42 = .ok (.aload_n 0, 1) := by decide +kernel
theorem dX8_compare_43 : decode cX8_compare 43 = .ok (.getfield 35, 3) := by decide +kernel
theorem dX8_compare_46 : decode cX8_compare 46 = .ok (.iconst 1, 1) := by decide +kernel
theorem dX8_compare_47 : decode cX8_compare 47 = .ok (.invokevirtual 153, 3) := by decide +kernel
theorem dX8_compare_50 : decode cX8_compare 50 = .ok (.ireturn, 1) := by decide +kernel
theorem dX8_count_0 : decode cX8_count 0 = .ok (.iload_n 1, 1) := by decide +kernel
theorem dX8_count_1 : decode cX8_count 1 = .ok (.tableswitch 227 0 16 #[83, 91, 105, 116, 124, 132, 140, 148, 156, 163, 170, 177, 184, 192, 200, 209, 218], 83) := by decide +kernel
theorem dX8_count_84 : decode cX8_count 84 = .ok (.aload_n 0, 1) := by decide +kernel
theorem dX8_count_85 : decode cX8_count 85 = .ok (.getfield 26, 3) := by decide +kernel
theorem dX8_count_88 : decode cX8_count 88 = .ok (.getfield 106, 3) := by decide +kernel
theorem dX8_count_91 : decode cX8_count 91 = .ok (.ireturn, 1) := by decide +kernel
theorem dX8_count_92 : decode cX8_count 92 = .ok (.aload_n 0, 1) := by decide +kernel
theorem dX8_count_93 : decode cX8_count 93 = .ok (.getfield 26, 3) := by decide +kernel
theorem dX8_count_96 : decode cX8_count 96 = .ok (.getfield 140, 3) := by decide +kernel
theorem dX8_count_99 : decode cX8_count 99 = .ok (.getfield 300, 3) := by decide +kernel
theorem dX8_count_102 : decode cX8_count 102 = .ok (.invokestatic 238, 3) := by decide +kernel
theorem dX8_count_105 : decode cX8_count 105 = .ok (.ireturn, 1) := by decide +kernel
theorem dX8_count_106 : decode cX8_count 106 = .ok (.aload_n 0, 1) := by decide +kernel
theorem dX8_count_107 : decode cX8_count 107 = .ok (.getfield 26, 3) := by decide +kernel
theorem dX8_count_110 : decode cX8_count 110 = .ok (.getfield 140, 3) := by decide +kernel
theorem dX8_count_113 : decode cX8_count 113 = .ok (.getfield 303, 3) := by decide +kernel
theorem dX8_count_116 : decode cX8_count 116 = .ok (.ireturn, 1) := by decide +kernel
theorem dX8_count_117 : decode cX8_count 117 = .ok (.aload_n 0, 1) := by decide +kernel
theorem dX8_count_118 : decode cX8_count 118 = .ok (.getfield 26, 3) := by decide +kernel
theorem dX8_count_121 : decode cX8_count 121 = .ok (.invokevirtual 306, 3) := by decide +kernel
theorem dX8_count_124 : decode cX8_count 124 = .ok (.ireturn, 1) := by decide +kernel
theorem dX8_count_125 : decode cX8_count 125 = .ok (.aload_n 0, 1) := by decide +kernel
theorem dX8_count_126 : decode cX8_count 126 = .ok (.getfield 26, 3) := by decide +kernel
theorem dX8_count_129 : decode cX8_count 129 = .ok (.getfield 243, 3) := by decide +kernel
theorem dX8_count_132 : decode cX8_count 132 = .ok (.ireturn, 1) := by decide +kernel
theorem dX8_count_133 : decode cX8_count 133 = .ok (.aload_n 0, 1) := by decide +kernel
theorem dX8_count_134 : decode cX8_count 134 = .ok (.getfield 26, 3) := by decide +kernel
theorem dX8_count_137 : decode cX8_count 137 = .ok (.getfield 176, 3) := by decide +kernel
theorem dX8_count_140 : decode cX8_count 140 = .ok (.ireturn, 1) := by decide +kernel
theorem dX8_count_141 : decode cX8_count 141 = .ok (.aload_n 0, 1) := by decide +kernel
theorem dX8_count_142 : decode cX8_count 142 = .ok (.getfield 61, 3) := by decide +kernel
theorem dX8_count_145 : decode cX8_count 145 = .ok (.getfield 229, 3) := by decide +kernel
theorem dX8_count_148 : decode cX8_count 148 = .ok (.ireturn, 1) := by decide +kernel
theorem dX8_count_149 : decode cX8_count 149 = .ok (.aload_n 0, 1) := by decide +kernel
theorem dX8_count_150 : decode cX8_count 150 = .ok (.getfield 10, 3) := by decide +kernel
theorem dX8_count_153 : decode cX8_count 153 = .ok (.getfield 170, 3) := by decide +kernel
theorem dX8_count_156 : decode cX8_count 156 = .ok (.ireturn, 1) := by decide +kernel
theorem dX8_count_157 : decode cX8_count 157 = .ok (.aload_n 0, 1) := by decide +kernel
theorem dX8_count_158 : decode cX8_count 158 = .ok (.getfield 75, 3) := by decide +kernel
theorem dX8_count_161 : decode cX8_count 161 = .ok (.iconst 1, 1) := by decide +kernel
theorem dX8_count_162 : decode cX8_count 162 = .ok (.iaload, 1) := by decide +kernel
theorem dX8_count_163 : decode cX8_count 163 = .ok (.ireturn, 1) := by decide +kernel
theorem dX8_count_164 : decode cX8_count 164 = .ok (.aload_n 0, 1) := by decide +kernel
theorem dX8_count_165 : decode cX8_count 165 = .ok (.getfield 75, 3) := by decide +kernel
theorem dX8_count_168 : decode cX8_count 168 = .ok (.iconst 2, 1) := by decide +kernel
theorem dX8_count_169 : decode cX8_count 169 = .ok (.iaload, 1) := by decide +kernel
theorem dX8_count_170 : decode cX8_count 170 = .ok (.ireturn, 1) := by decide +kernel
theorem dX8_count_171 : decode cX8_count 171 = .ok (.aload_n 0, 1) := by decide +kernel
theorem dX8_count_172 : decode cX8_count 172 = .ok (.getfield 75, 3) := by decide +kernel
theorem dX8_count_175 : decode cX8_count 175 = .ok (.iconst 3, 1) := by decide +kernel
theorem dX8_count_176 : decode cX8_count 176 = .ok (.iaload, 1) := by decide +kernel
theorem dX8_count_177 : decode cX8_count 177 = .ok (.ireturn, 1) := by decide +kernel
theorem dX8_count_178 : decode cX8_count 178 = .ok (.aload_n 0, 1) := by decide +kernel
theorem dX8_count_179 : decode cX8_count 179 = .ok (.getfield 75, 3) := by decide +kernel
theorem dX8_count_182 : decode cX8_count 182 = .ok (.iconst 5, 1) := by decide +kernel
theorem dX8_count_183 : decode cX8_count 183 = .ok (.iaload, 1) := by decide +kernel
theorem dX8_count_184 : decode cX8_count 184 = .ok (.ireturn, 1) := by decide +kernel
theorem dX8_count_185 : decode cX8_count 185 = .ok (.aload_n 0, 1) := by decide +kernel
theorem dX8_count_186 : decode cX8_count 186 = .ok (.getfield 75, 3) := by decide +kernel
theorem dX8_count_189 : decode cX8_count 189 = .ok (.bipush 6, 2) := by decide +kernel
theorem dX8_count_191 : decode cX8_count 191 = .ok (.iaload, 1) := by decide +kernel
theorem dX8_count_192 : decode cX8_count 192 = .ok (.ireturn, 1) := by decide +kernel
theorem dX8_count_193 : decode cX8_count 193 = .ok (.aload_n 0, 1) := by decide +kernel
theorem dX8_count_194 : decode cX8_count 194 = .ok (.getfield 26, 3) := by decide +kernel
theorem dX8_count_197 : decode cX8_count 197 = .ok (.getfield 219, 3) := by decide +kernel
theorem dX8_count_200 : decode cX8_count 200 = .ok (.ireturn, 1) := by decide +kernel
theorem dX8_count_201 : decode cX8_count 201 = .ok (.aload_n 0, 1) := by decide +kernel
theorem dX8_count_202 : decode cX8_count 202 = .ok (.getfield 26, 3) := by decide +kernel
theorem dX8_count_205 : decode cX8_count 205 = .ok (.iconst 0, 1) := by decide +kernel
theorem dX8_count_206 : decode cX8_count 206 = .ok (.invokevirtual 156, 3) := by decide +kernel
theorem dX8_count_209 : decode cX8_count 209 = .ok (.ireturn, 1) := by decide +kernel
theorem dX8_count_210 : decode cX8_count 210 = .ok (.aload_n 0, 1) := by decide +kernel
theorem dX8_count_211 : decode cX8_count 211 = .ok (.getfield 26, 3) := by decide +kernel
theorem dX8_count_214 : decode cX8_count 214 = .ok (.iconst 1, 1) := by decide +kernel
theorem dX8_count_215 : decode cX8_count 215 = .ok (.invokevirtual 156, 3) := by decide +kernel
theorem dX8_count_218 : decode cX8_count 218 = .ok (.ireturn, 1) := by decide +kernel
theorem dX8_count_219 : decode cX8_count 219 = .ok (.aload_n 0, 1) := by decide +kernel
theorem dX8_count_220 : decode cX8_count 220 = .ok (.getfield 26, 3) := by decide +kernel
theorem dX8_count_223 : decode cX8_count 223 = .ok (.iconst 2, 1) := by decide +kernel
theorem dX8_count_224 : decode cX8_count 224 = .ok (.invokevirtual 156, 3) := by decide +kernel
theorem dX8_count_227 : decode cX8_count 227 = .ok (.ireturn, 1) := by decide +kernel
theorem dX8_count_228 : decode cX8_count 228 = .ok (.iconst (-1), 1) := by decide +kernel
theorem dX8_count_229 : decode cX8_count 229 = .ok (.ireturn, 1) := by decide +kernel
theorem dX8_crowned_0 : decode cX8_crowned 0 = .ok (.iload_n 1, 1) := by decide +kernel
theorem dX8_crowned_1 : decode cX8_crowned 1 = .ok (.ifCond .lt 8, 3) := by decide +kernel
theorem dX8_crowned_4 : decode cX8_crowned 4 = .ok (.iload_n 1, 1) := by decide +kernel
theorem dX8_crowned_5 : decode cX8_crowned 5 = .ok (.iconst 4, 1) := by decide +kernel
theorem dX8_crowned_6 : decode cX8_crowned 6 = .ok (.if_icmp .le 5, 3) := by decide +kernel
theorem dX8_crowned_9 : decode cX8_crowned 9 = .ok (.iconst (-1), 1) := by decide +kernel
theorem dX8_crowned_10 : decode cX8_crowned 10 = .ok (.ireturn, 1) := by decide +kernel
theorem dX8_crowned_11 : decode cX8_crowned 11 = .ok (.aload_n 0, 1) := by decide +kernel
theorem dX8_crowned_12 : decode cX8_crowned 12 = .ok (.getfield 44, 3) := by decide +kernel
theorem dX8_crowned_15 : decode cX8_crowned 15 = .ok (.invokevirtual 268, 3) := by decide +kernel
theorem dX8_crowned_18 : decode cX8_crowned 18 = .ok (.istore_n 2, 1) := by decide +kernel
theorem dX8_crowned_19 : decode cX8_crowned 19 = .ok (.iload_n 1, 1) := by decide +kernel
theorem dX8_crowned_20 : decode cX8_crowned 20 = .ok (.ifCond .ne 7, 3) := by decide +kernel
theorem dX8_crowned_23 : decode cX8_crowned 23 = .ok (.iload_n 2, 1) := by decide +kernel
theorem dX8_crowned_24 : decode cX8_crowned 24 = .ok (.goto 14, 3) := by decide +kernel
theorem dX8_crowned_27 : decode cX8_crowned 27 = .ok (.aload_n 0, 1) := by decide +kernel
theorem dX8_crowned_28 : decode cX8_crowned 28 = .ok (.getfield 44, 3) := by decide +kernel
theorem dX8_crowned_31 : decode cX8_crowned 31 = .ok (.getfield 262, 3) := by decide +kernel
theorem dX8_crowned_34 : decode cX8_crowned 34 = .ok (.iload_n 1, 1) := by decide +kernel
theorem dX8_crowned_35 : decode cX8_crowned 35 = .ok (.iconst 1, 1) := by decide +kernel
theorem dX8_crowned_36 : decode cX8_crowned 36 = .ok (.isub, 1) := by decide +kernel
theorem dX8_crowned_37 : decode cX8_crowned 37 = .ok (.iaload, 1) := by decide +kernel
theorem dX8_crowned_38 : decode cX8_crowned 38 = .ok (.ireturn, 1) := by decide +kernel
theorem dX8_drawn_0 : decode cX8_drawn 0 = .ok (.aload_n 0, 1) := by decide +kernel
theorem dX8_drawn_1 : decode cX8_drawn 1 = .ok (.getfield 48, 3) := by decide +kernel
theorem dX8_drawn_4 : decode cX8_drawn 4 = .ok (.iload_n 1, 1) := by decide +kernel
theorem dX8_drawn_5 : decode cX8_drawn 5 = .ok (.invokevirtual 99, 3) := by decide +kernel
theorem dX8_drawn_8 : decode cX8_drawn 8 = .ok (.ifCond .eq 18, 3) := by decide +kernel
theorem dX8_drawn_11 : decode cX8_drawn 11 = .ok (.aload_n 0, 1) := by decide +kernel
theorem dX8_drawn_12 : decode cX8_drawn 12 = .ok (.getfield 48, 3) := by decide +kernel
theorem dX8_drawn_15 : decode cX8_drawn 15 = .ok (.getfield 140, 3) := by decide +kernel
theorem dX8_drawn_18 : decode cX8_drawn 18 = .ok (.iload_n 1, 1) := by decide +kernel
theorem dX8_drawn_19 : decode cX8_drawn 19 = .ok (.iload_n 2, 1) := by decide +kernel
theorem dX8_drawn_20 : decode cX8_drawn 20 = .ok (.invokevirtual 143, 3) := by decide +kernel
theorem dX8_drawn_23 : decode cX8_drawn 23 = .ok (.goto 4, 3) := by decide +kernel
theorem dX8_drawn_26 : decode cX8_drawn 26 = .ok (.iconst (-1), 1) := by decide +kernel
theorem dX8_drawn_27 : decode cX8_drawn 27 = .ok (.ireturn, 1) := by decide +kernel
theorem dX8_end_0 : decode cX8_end 0 = .ok (.iload_n 1, 1) := by decide +kernel
theorem dX8_end_1 : decode cX8_end 1 = .ok (.ifCond .lt 14, 3) := by decide +kernel
theorem dX8_end_4 : decode cX8_end 4 = .ok (.iload_n 1, 1) := by decide +kernel
theorem dX8_end_5 : decode cX8_end 5 = .ok (.aload_n 0, 1) := by decide +kernel
theorem dX8_end_6 : decode cX8_end 6 = .ok (.getfield 10, 3) := by decide +kernel
theorem dX8_end_9 : decode cX8_end 9 = .ok (.getfield 170, 3) := by decide +kernel
theorem dX8_end_12 : decode cX8_end 12 = .ok (.if_icmp .le 5, 3) := by decide +kernel
theorem dX8_end_15 : decode cX8_end 15 = .ok (.iconst (-1), 1) := by decide +kernel
theorem dX8_end_16 : decode cX8_end 16 = .ok (.ireturn, 1) := by decide +kernel
theorem dX8_end_17 : decode cX8_end 17 = .ok (.aload_n 0, 1) := by decide +kernel
theorem dX8_end_18 : decode cX8_end 18 = .ok (.getfield 10, 3) := by decide +kernel
theorem dX8_end_21 : decode cX8_end 21 = .ok (.iload_n 1, 1) := by decide +kernel
theorem dX8_end_22 : decode cX8_end 22 = .ok (.putfield 170, 3) := by decide +kernel
theorem dX8_end_25 : decode cX8_end 25 = .ok (.iload_n 1, 1) := by decide +kernel
theorem dX8_end_26 : decode cX8_end 26 = .ok (.ireturn, 1) := by decide +kernel
theorem dX8_enter_0 : decode cX8_enter 0 = .ok (.aload_n 0, 1) := by decide +kernel
theorem dX8_enter_1 : decode cX8_enter 1 = .ok (.aload_n 0, 1) := by decide +kernel
theorem dX8_enter_2 : decode cX8_enter 2 = .ok (.getfield 35, 3) := by decide +kernel
theorem dX8_enter_5 : decode cX8_enter 5 = .ok (.iconst 1, 1) := by decide +kernel
theorem dX8_enter_6 : decode cX8_enter 6 = .ok (.iload_n 1, 1) := by decide +kernel
theorem dX8_enter_7 : decode cX8_enter 7 = .ok (.aload_n 0, 1) := by decide +kernel
theorem dX8_enter_8 : decode cX8_enter 8 = .ok (.getfield 61, 3) := by decide +kernel
theorem dX8_enter_11 : decode cX8_enter 11 = .ok (.invokevirtual 222, 3) := by decide +kernel
theorem dX8_enter_14 : decode cX8_enter 14 = .ok (.invokevirtual 226, 3) := by decide +kernel
theorem dX8_enter_17 : decode cX8_enter 17 = .ok (.ireturn, 1) := by decide +kernel
theorem dX8_fault_0 : decode cX8_fault 0 = .ok (.aload_n 0, 1) := by decide +kernel
theorem dX8_fault_1 : decode cX8_fault 1 = .ok (.getfield 10, 3) := by decide +kernel
theorem dX8_fault_4 : decode cX8_fault 4 = .ok (.getfield 213, 3) := by decide +kernel
theorem dX8_fault_7 : decode cX8_fault 7 = .ok (.ireturn, 1) := by decide +kernel
theorem dX8_feed_0 : decode cX8_feed 0 = .ok (.aload_n 0, 1) := by decide +kernel
theorem dX8_feed_1 : decode cX8_feed 1 = .ok (.getfield 10, 3) := by decide +kernel
theorem dX8_feed_4 : decode cX8_feed 4 = .ok (.bipush 20, 2) := by decide +kernel
theorem dX8_feed_6 : decode cX8_feed 6 = .ok (.invokevirtual 163, 3) := by decide +kernel
theorem dX8_feed_9 : decode cX8_feed 9 = .ok (.ifCond .ne 5, 3) := by decide +kernel
theorem dX8_feed_12 : decode cX8_feed 12 = .ok (.iconst (-1), 1) := by decide +kernel
theorem dX8_feed_13 : decode cX8_feed 13 = .ok (.ireturn, 1) := by decide +kernel
theorem dX8_feed_14 : decode cX8_feed 14 = .ok (.aload_n 0, 1) := by decide +kernel
theorem dX8_feed_15 : decode cX8_feed 15 = .ok (.getfield 10, 3) := by decide +kernel
theorem dX8_feed_18 : decode cX8_feed 18 = .ok (.iload_n 1, 1) := by decide +kernel
theorem dX8_feed_19 : decode cX8_feed 19 = .ok (.invokevirtual 166, 3) := by decide +kernel
theorem dX8_feed_22 : decode cX8_feed 22 = .ok (.aload_n 0, 1) := by decide +kernel
theorem dX8_feed_23 : decode cX8_feed 23 = .ok (.getfield 10, 3) := by decide +kernel
theorem dX8_feed_26 : decode cX8_feed 26 = .ok (.iload_n 2, 1) := by decide +kernel
theorem dX8_feed_27 : decode cX8_feed 27 = .ok (.invokevirtual 166, 3) := by decide +kernel
theorem dX8_feed_30 : decode cX8_feed 30 = .ok (.aload_n 0, 1) := by decide +kernel
theorem dX8_feed_31 : decode cX8_feed 31 = .ok (.getfield 10, 3) := by decide +kernel
theorem dX8_feed_34 : decode cX8_feed 34 = .ok (.iload_n 3, 1) := by decide +kernel
theorem dX8_feed_35 : decode cX8_feed 35 = .ok (.invokevirtual 166, 3) := by decide +kernel
theorem dX8_feed_38 : decode cX8_feed 38 = .ok (.aload_n 0, 1) := by decide +kernel
theorem dX8_feed_39 : decode cX8_feed 39 = .ok (.getfield 10, 3) := by decide +kernel
theorem dX8_feed_42 : decode cX8_feed 42 = .ok (.iload 4, 2) := by decide +kernel
theorem dX8_feed_44 : decode cX8_feed 44 = .ok (.invokevirtual 166, 3) := by decide +kernel
theorem dX8_feed_47 : decode cX8_feed 47 = .ok (.aload_n 0, 1) := by decide +kernel
theorem dX8_feed_48 : decode cX8_feed 48 = .ok (.getfield 10, 3) := by decide +kernel
theorem dX8_feed_51 : decode cX8_feed 51 = .ok (.iload 5, 2) := by decide +kernel
theorem dX8_feed_53 : decode cX8_feed 53 = .ok (.invokevirtual 166, 3) := by decide +kernel
theorem dX8_feed_56 : decode cX8_feed 56 = .ok (.aload_n 0, 1) := by decide +kernel
theorem dX8_feed_57 : decode cX8_feed 57 = .ok (.getfield 10, 3) := by decide +kernel
theorem dX8_feed_60 : decode cX8_feed 60 = .ok (.getfield 170, 3) := by decide +kernel
theorem dX8_feed_63 : decode cX8_feed 63 = .ok (.ireturn, 1) := by decide +kernel
theorem dX8_few_0 : decode cX8_few 0 = .ok (.iload_n 1, 1) := by decide +kernel
theorem dX8_few_1 : decode cX8_few 1 = .ok (.iconst 1, 1) := by decide +kernel
theorem dX8_few_2 : decode cX8_few 2 = .ok (.if_icmp .lt 19, 3) := by decide +kernel
theorem dX8_few_5 : decode cX8_few 5 = .ok (.iload_n 1, 1) := by decide +kernel
theorem dX8_few_6 : decode cX8_few 6 = .ok (.bipush 20, 2) := by decide +kernel
theorem dX8_few_8 : decode cX8_few 8 = .ok (.if_icmp .gt 13, 3) := by decide +kernel
theorem dX8_few_11 : decode cX8_few 11 = .ok (.iload_n 2, 1) := by decide +kernel
theorem dX8_few_12 : decode cX8_few 12 = .ok (.ifCond .lt 9, 3) := by decide +kernel
theorem dX8_few_15 : decode cX8_few 15 = .ok (.iload_n 2, 1) := by decide +kernel
theorem dX8_few_16 : decode cX8_few 16 = .ok (.bipush 99, 2) := by decide +kernel
theorem dX8_few_18 : decode cX8_few 18 = .ok (.if_icmp .le 7, 3) := by decide +kernel
theorem dX8_few_21 : decode cX8_few 21 = .ok (.ldc2_w 274, 3) := by decide +kernel
theorem dX8_few_24 : decode cX8_few 24 = .ok (.lreturn, 1) := by decide +kernel
theorem dX8_few_25 : decode cX8_few 25 = .ok (.aload_n 0, 1) := by decide +kernel
theorem dX8_few_26 : decode cX8_few 26 = .ok (.getfield 44, 3) := by decide +kernel
theorem dX8_few_29 : decode cX8_few 29 = .ok (.iload_n 1, 1) := by decide +kernel
theorem dX8_few_30 : decode cX8_few 30 = .ok (.iload_n 2, 1) := by decide +kernel
theorem dX8_few_31 : decode cX8_few 31 = .ok (.invokevirtual 283, 3) := by decide +kernel
theorem dX8_few_34 : decode cX8_few 34 = .ok (.lreturn, 1) := by decide +kernel
theorem dX8_force_0 : decode cX8_force 0 = .ok (.iload_n 1, 1) := by decide +kernel
theorem dX8_force_1 : decode cX8_force 1 = .ok (.iconst (-1), 1) := by decide +kernel
theorem dX8_force_2 : decode cX8_force 2 = .ok (.if_icmp .eq 21, 3) := by decide +kernel
theorem dX8_force_5 : decode cX8_force 5 = .ok (.aload_n 0, 1) := by decide +kernel
theorem dX8_force_6 : decode cX8_force 6 = .ok (.getfield 26, 3) := by decide +kernel
theorem dX8_force_9 : decode cX8_force 9 = .ok (.iload_n 1, 1) := by decide +kernel
theorem dX8_force_10 : decode cX8_force 10 = .ok (.invokevirtual 216, 3) := by decide +kernel
theorem dX8_force_13 : decode cX8_force 13 = .ok (.ifCond .ne 10, 3) := by decide +kernel
theorem dX8_force_16 : decode cX8_force 16 = .ok (.aload_n 0, 1) := by decide +kernel
theorem dX8_force_17 : decode cX8_force 17 = .ok (.bipush (-2), 2) := by decide +kernel
theorem dX8_force_19 : decode cX8_force 19 = .ok (.invokevirtual 102, 3) := by decide +kernel
theorem dX8_force_22 : decode cX8_force 22 = .ok (.ireturn, 1) := by decide +kernel
theorem dX8_force_23 : decode cX8_force 23 = .ok (.aload_n 0, 1) := by decide +kernel
theorem dX8_force_24 : decode cX8_force 24 = .ok (.getfield 26, 3) := by decide +kernel
theorem dX8_force_27 : decode cX8_force 27 = .ok (.getfield 219, 3) := by decide +kernel
theorem dX8_force_30 : decode cX8_force 30 = .ok (.istore_n 2, 1) := by decide +kernel
theorem dX8_force_31 : decode cX8_force 31 = .ok (.aload_n 0, 1) := by decide +kernel
theorem dX8_force_32 : decode cX8_force 32 = .ok (.getfield 26, 3) := by decide +kernel
theorem dX8_force_35 : decode cX8_force 35 = .ok (.iload_n 1, 1) := by decide +kernel
theorem dX8_force_36 : decode cX8_force 36 = .ok (.putfield 219, 3) := by decide +kernel
theorem dX8_force_39 : decode cX8_force 39 = .ok (.aload_n 0, 1) := by decide +kernel
theorem dX8_force_40 : decode cX8_force 40 = .ok (.iload_n 2, 1) := by decide +kernel
theorem dX8_force_41 : decode cX8_force 41 = .ok (.invokevirtual 116, 3) := by decide +kernel
theorem dX8_force_44 : decode cX8_force 44 = .ok (.ireturn, 1) := by decide +kernel
theorem dX8_forget_0 : decode cX8_forget 0 = .ok (.aload_n 0, 1) := by decide +kernel
theorem dX8_forget_1 : decode cX8_forget 1 = .ok (.getfield 26, 3) := by decide +kernel
theorem dX8_forget_4 : decode cX8_forget 4 = .ok (.getfield 243, 3) := by decide +kernel
theorem dX8_forget_7 : decode cX8_forget 7 = .ok (.istore_n 1, 1) := by decide +kernel
theorem dX8_forget_8 : decode cX8_forget 8 = .ok (.aload_n 0, 1) := by decide +kernel
theorem dX8_forget_9 : decode cX8_forget 9 = .ok (.getfield 26, 3) := by decide +kernel
theorem dX8_forget_12 : decode cX8_forget 12 = .ok (.iconst 0, 1) := by decide +kernel
theorem dX8_forget_13 : decode cX8_forget 13 = .ok (.putfield 243, 3) := by decide +kernel
theorem dX8_forget_16 : decode cX8_forget 16 = .ok (.iload_n 1, 1) := by decide +kernel
theorem dX8_forget_17 : decode cX8_forget 17 = .ok (.ireturn, 1) := by decide +kernel
theorem dX8_grant_0 : decode cX8_grant 0 = .ok (.aload_n 0, 1) := by decide +kernel
theorem dX8_grant_1 : decode cX8_grant 1 = .ok (.iconst 0, 1) := by decide +kernel
theorem dX8_grant_2 : decode cX8_grant 2 = .ok (.putfield 79, 3) := by decide +kernel
theorem dX8_grant_5 : decode cX8_grant 5 = .ok (.iload_n 1, 1) := by decide +kernel
theorem dX8_grant_6 : decode cX8_grant 6 = .ok (.ireturn, 1) := by decide +kernel
theorem dX8_heir_0 : decode cX8_heir 0 = .ok (.iload_n 1, 1) := by decide +kernel
theorem dX8_heir_1 : decode cX8_heir 1 = .ok (.iconst (-1), 1) := by decide +kernel
theorem dX8_heir_2 : decode cX8_heir 2 = .ok (.if_icmp .ge 5, 3) := by decide +kernel
theorem dX8_heir_5 : decode cX8_heir 5 = .ok (.iconst (-1), 1) := by decide +kernel
theorem dX8_heir_6 : decode cX8_heir 6 = .ok (.ireturn, 1) := by decide +kernel
theorem dX8_heir_7 : decode cX8_heir 7 = .ok (.aload_n 0, 1) := by decide +kernel
theorem dX8_heir_8 : decode cX8_heir 8 = .ok (.getfield 44, 3) := by decide +kernel
theorem dX8_heir_11 : decode cX8_heir 11 = .ok (.invokevirtual 271, 3) := by decide +kernel
theorem dX8_heir_14 : decode cX8_heir 14 = .ok (.istore_n 2, 1) := by decide +kernel
theorem dX8_heir_15 : decode cX8_heir 15 = .ok (.iload_n 1, 1) := by decide +kernel
theorem dX8_heir_16 : decode cX8_heir 16 = .ok (.iconst (-1), 1) := by decide +kernel
theorem dX8_heir_17 : decode cX8_heir 17 = .ok (.if_icmp .ne 5, 3) := by decide +kernel
theorem dX8_heir_20 : decode cX8_heir 20 = .ok (.iload_n 2, 1) := by decide +kernel
theorem dX8_heir_21 : decode cX8_heir 21 = .ok (.ireturn, 1) := by decide +kernel
theorem dX8_heir_22 : decode cX8_heir 22 = .ok (.iload_n 1, 1) := by decide +kernel
theorem dX8_heir_23 : decode cX8_heir 23 = .ok (.iload_n 2, 1) := by decide +kernel
theorem dX8_heir_24 : decode cX8_heir 24 = .ok (.if_icmp .ge 15, 3) := by decide +kernel
theorem dX8_heir_27 : decode cX8_heir 27 = .ok (.aload_n 0, 1) := by decide +kernel
theorem dX8_heir_28 : decode cX8_heir 28 = .ok (.getfield 44, 3) := by decide +kernel
theorem dX8_heir_31 : decode cX8_heir 31 = .ok (.getfield 262, 3) := by decide +kernel
theorem dX8_heir_34 : decode cX8_heir 34 = .ok (.iload_n 1, 1) := by decide +kernel
theorem dX8_heir_35 : decode cX8_heir 35 = .ok (.iaload, 1) := by decide +kernel
theorem dX8_heir_36 : decode cX8_heir 36 = .ok (.goto 4, 3) := by decide +kernel
theorem dX8_heir_39 : decode cX8_heir 39 = .ok (.iconst (-1), 1) := by decide +kernel
theorem dX8_heir_40 : decode cX8_heir 40 = .ok (.ireturn, 1) := by decide +kernel
theorem dX8_image_0 : decode cX8_image 0 = .ok (.iload_n 1, 1) := by decide +kernel
theorem dX8_image_1 : decode cX8_image 1 = .ok (.ifCond .lt 8, 3) := by decide +kernel
theorem dX8_image_4 : decode cX8_image 4 = .ok (.iload_n 1, 1) := by decide +kernel
theorem dX8_image_5 : decode cX8_image 5 = .ok (.iconst 2, 1) := by decide +kernel
theorem dX8_image_6 : decode cX8_image 6 = .ok (.if_icmp .lt 9, 3) := by decide +kernel
theorem dX8_image_9 : decode cX8_image 9 = .ok (.aload_n 0, 1) := by decide +kernel
theorem dX8_image_10 : decode cX8_image 10 = .ok (.iconst (-1), 1) := by decide +kernel
theorem dX8_image_11 : decode cX8_image 11 = .ok (.invokevirtual 102, 3) := by decide +kernel
theorem dX8_image_14 : decode cX8_image 14 = .ok (.ireturn, 1) := by decide +kernel
theorem dX8_image_15 : decode cX8_image 15 = .ok (.aload_n 0, 1) := by decide +kernel
theorem dX8_image_16 : decode cX8_image 16 = .ok (.getfield 54, 3) := by decide +kernel
theorem dX8_image_19 : decode cX8_image 19 = .ok (.iload_n 1, 1) := by decide +kernel
theorem dX8_image_20 : decode cX8_image 20 = .ok (.aaload, 1) := by decide +kernel
theorem dX8_image_21 : decode cX8_image 21 = .ok (.ifnonnull 16, 3) := by decide +kernel
theorem dX8_image_24 : decode cX8_image 24 = .ok (.aload_n 0, 1) := by decide +kernel
theorem dX8_image_25 : decode cX8_image 25 = .ok (.getfield 54, 3) := by decide +kernel
theorem dX8_image_28 : decode cX8_image 28 = .ok (.iload_n 1, 1) := by decide +kernel
theorem dX8_image_29 : decode cX8_image 29 = .ok (.new 23, 3) := by decide +kernel
theorem dX8_image_32 : decode cX8_image 32 = .ok (.dup, 1) := by decide +kernel
theorem dX8_image_33 : decode cX8_image 33 = .ok (.invokespecial 25, 3) := by decide +kernel
theorem dX8_image_36 : decode cX8_image 36 = .ok (.aastore, 1) := by decide +kernel
theorem dX8_image_37 : decode cX8_image 37 = .ok (.aload_n 0, 1) := by decide +kernel
theorem dX8_image_38 : decode cX8_image 38 = .ok (.getfield 54, 3) := by decide +kernel
theorem dX8_image_41 : decode cX8_image 41 = .ok (.iload_n 1, 1) := by decide +kernel
theorem dX8_image_42 : decode cX8_image 42 = .ok (.aaload, 1) := by decide +kernel
theorem dX8_image_43 : decode cX8_image 43 = .ok (.aload_n 0, 1) := by decide +kernel
theorem dX8_image_44 : decode cX8_image 44 = .ok (.getfield 26, 3) := by decide +kernel
theorem dX8_image_47 : decode cX8_image 47 = .ok (.invokevirtual 291, 3) := by decide +kernel
theorem dX8_image_50 : decode cX8_image 50 = .ok (.aload_n 0, 1) := by decide +kernel
theorem dX8_image_51 : decode cX8_image 51 = .ok (.iconst 0, 1) := by decide +kernel
theorem dX8_image_52 : decode cX8_image 52 = .ok (.invokevirtual 116, 3) := by decide +kernel
theorem dX8_image_55 : decode cX8_image 55 = .ok (.ireturn, 1) := by decide +kernel
theorem dX8_init_0 : decode cX8_init 0 = .ok (.aload_n 0, 1) := by decide +kernel
theorem dX8_init_1 : decode cX8_init 1 = .ok (.invokespecial 1, 3) := by decide +kernel
theorem dX8_init_4 : decode cX8_init 4 = .ok (.aload_n 0, 1) := by decide +kernel
theorem dX8_init_5 : decode cX8_init 5 = .ok (.new 7, 3) := by decide +kernel
theorem dX8_init_8 : decode cX8_init 8 = .ok (.dup, 1) := by decide +kernel
theorem dX8_init_9 : decode cX8_init 9 = .ok (.invokespecial 9, 3) := by decide +kernel
theorem dX8_init_12 : decode cX8_init 12 = .ok (.putfield 10, 3) := by decide +kernel
theorem dX8_init_15 : decode cX8_init 15 = .ok (.aload_n 0, 1) := by decide +kernel
theorem dX8_init_16 : decode cX8_init 16 = .ok (.new 16, 3) := by decide +kernel
theorem dX8_init_19 : decode cX8_init 19 = .ok (.dup, 1) := by decide +kernel
theorem dX8_init_20 : decode cX8_init 20 = .ok (.invokespecial 18, 3) := by decide +kernel
theorem dX8_init_23 : decode cX8_init 23 = .ok (.putfield 19, 3) := by decide +kernel
theorem dX8_init_26 : decode cX8_init 26 = .ok (.aload_n 0, 1) := by decide +kernel
theorem dX8_init_27 : decode cX8_init 27 = .ok (.new 23, 3) := by decide +kernel
theorem dX8_init_30 : decode cX8_init 30 = .ok (.dup, 1) := by decide +kernel
theorem dX8_init_31 : decode cX8_init 31 = .ok (.invokespecial 25, 3) := by decide +kernel
theorem dX8_init_34 : decode cX8_init 34 = .ok (.putfield 26, 3) := by decide +kernel
theorem dX8_init_37 : decode cX8_init 37 = .ok (.aload_n 0, 1) := by decide +kernel
theorem dX8_init_38 : decode cX8_init 38 = .ok (.new 30, 3) := by decide +kernel
theorem dX8_init_41 : decode cX8_init 41 = .ok (.dup, 1) := by decide +kernel
theorem dX8_init_42 : decode cX8_init 42 = .ok (.aload_n 0, 1) := by decide +kernel
theorem dX8_init_43 : decode cX8_init 43 = .ok (.getfield 26, 3) := by decide +kernel
theorem dX8_init_46 : decode cX8_init 46 = .ok (.aload_n 0, 1) := by decide +kernel
theorem dX8_init_47 : decode cX8_init 47 = .ok (.getfield 19, 3) := by decide +kernel
theorem dX8_init_50 : decode cX8_init 50 = .ok (.invokespecial 32, 3) := by decide +kernel
theorem dX8_init_53 : decode cX8_init 53 = .ok (.putfield 35, 3) := by decide +kernel
theorem dX8_init_56 : decode cX8_init 56 = .ok (.aload_n 0, 1) := by decide +kernel
theorem dX8_init_57 : decode cX8_init 57 = .ok (.new 39, 3) := by decide +kernel
theorem dX8_init_60 : decode cX8_init 60 = .ok (.dup, 1) := by decide +kernel
theorem dX8_init_61 : decode cX8_init 61 = .ok (.aload_n 0, 1) := by decide +kernel
theorem dX8_init_62 : decode cX8_init 62 = .ok (.getfield 35, 3) := by decide +kernel
theorem dX8_init_65 : decode cX8_init 65 = .ok (.invokespecial 41, 3) := by decide +kernel
theorem dX8_init_68 : decode cX8_init 68 = .ok (.putfield 44, 3) := by decide +kernel
theorem dX8_init_71 : decode cX8_init 71 = .ok (.aload_n 0, 1) := by decide +kernel
theorem dX8_init_72 : decode cX8_init 72 = .ok (.new 23, 3) := by decide +kernel
theorem dX8_init_75 : decode cX8_init 75 = .ok (.dup, 1) := by decide +kernel
theorem dX8_init_76 : decode cX8_init 76 = .ok (.invokespecial 25, 3) := by decide +kernel
theorem dX8_init_79 : decode cX8_init 79 = .ok (.putfield 48, 3) := by decide +kernel
theorem dX8_init_82 : decode cX8_init 82 = .ok (.aload_n 0, 1) := by decide +kernel
theorem dX8_init_83 : decode cX8_init 83 = .ok (.new 30, 3) := by decide +kernel
theorem dX8_init_86 : decode cX8_init 86 = .ok (.dup, 1) := by decide +kernel
theorem dX8_init_87 : decode cX8_init 87 = .ok (.aload_n 0, 1) := by decide +kernel
theorem dX8_init_88 : decode cX8_init 88 = .ok (.getfield 48, 3) := by decide +kernel
theorem dX8_init_91 : decode cX8_init 91 = .ok (.aload_n 0, 1) := by decide +kernel
theorem dX8_init_92 : decode cX8_init 92 = .ok (.getfield 19, 3) := by decide +kernel
theorem dX8_init_95 : decode cX8_init 95 = .ok (.invokespecial 32, 3) := by decide +kernel
theorem dX8_init_98 : decode cX8_init 98 = .ok (.putfield 51, 3) := by decide +kernel
theorem dX8_init_101 : decode cX8_init 101 = .ok (.aload_n 0, 1) := by decide +kernel
theorem dX8_init_102 : decode cX8_init 102 = .ok (.iconst 2, 1) := by decide +kernel
theorem dX8_init_103 : decode cX8_init 103 = .ok (.anewarray 23, 3) := by decide +kernel
theorem dX8_init_106 : decode cX8_init 106 = .ok (.putfield 54, 3) := by decide +kernel
theorem dX8_init_109 : decode cX8_init 109 = .ok (.aload_n 0, 1) := by decide +kernel
theorem dX8_init_110 : decode cX8_init 110 = .ok (.new 58, 3) := by decide +kernel
theorem dX8_init_113 : decode cX8_init 113 = .ok (.dup, 1) := by decide +kernel
theorem dX8_init_114 : decode cX8_init 114 = .ok (.invokespecial 60, 3) := by decide +kernel
theorem dX8_init_117 : decode cX8_init 117 = .ok (.putfield 61, 3) := by decide +kernel
theorem dX8_init_120 : decode cX8_init 120 = .ok (.aload_n 0, 1) := by decide +kernel
theorem dX8_init_121 : decode cX8_init 121 = .ok (.new 58, 3) := by decide +kernel
theorem dX8_init_124 : decode cX8_init 124 = .ok (.dup, 1) := by decide +kernel
theorem dX8_init_125 : decode cX8_init 125 = .ok (.invokespecial 60, 3) := by decide +kernel
theorem dX8_init_128 : decode cX8_init 128 = .ok (.putfield 65, 3) := by decide +kernel
theorem dX8_init_131 : decode cX8_init 131 = .ok (.aload_n 0, 1) := by decide +kernel
theorem dX8_init_132 : decode cX8_init 132 = .ok (.new 68, 3) := by decide +kernel
theorem dX8_init_135 : decode cX8_init 135 = .ok (.dup, 1) := by decide +kernel
theorem dX8_init_136 : decode cX8_init 136 = .ok (.invokespecial 70, 3) := by decide +kernel
theorem dX8_init_139 : decode cX8_init 139 = .ok (.putfield 71, 3) := by decide +kernel
theorem dX8_init_142 : decode cX8_init 142 = .ok (.aload_n 0, 1) := by decide +kernel
theorem dX8_init_143 : decode cX8_init 143 = .ok (.bipush 7, 2) := by decide +kernel
theorem dX8_init_145 : decode cX8_init 145 = .ok (.newarray .int, 2) := by decide +kernel
theorem dX8_init_147 : decode cX8_init 147 = .ok (.putfield 75, 3) := by decide +kernel
theorem dX8_init_150 : decode cX8_init 150 = .ok (.aload_n 0, 1) := by decide +kernel
theorem dX8_init_151 : decode cX8_init 151 = .ok (.iconst 0, 1) := by decide +kernel
theorem dX8_init_152 : decode cX8_init 152 = .ok (.putfield 79, 3) := by decide +kernel
theorem dX8_init_155 : decode cX8_init 155 = .ok (.aload_n 0, 1) := by decide +kernel
theorem dX8_init_156 : decode cX8_init 156 = .ok (.iconst 0, 1) := by decide +kernel
theorem dX8_init_157 : decode cX8_init 157 = .ok (.putfield 83, 3) := by decide +kernel
theorem dX8_init_160 : decode cX8_init 160 = .ok (.aload_n 0, 1) := by decide +kernel
theorem dX8_init_161 : decode cX8_init 161 = .ok (.iconst (-1), 1) := by decide +kernel
theorem dX8_init_162 : decode cX8_init 162 = .ok (.putfield 86, 3) := by decide +kernel
theorem dX8_init_165 : decode cX8_init 165 = .ok (.aload_n 0, 1) := by decide +kernel
theorem dX8_init_166 : decode cX8_init 166 = .ok (.iconst 0, 1) := by decide +kernel
theorem dX8_init_167 : decode cX8_init 167 = .ok (.putfield 89, 3) := by decide +kernel
theorem dX8_init_170 : decode cX8_init 170 = .ok (.aload_n 0, 1) := by decide +kernel
theorem dX8_init_171 : decode cX8_init 171 = .ok (.iconst (-1), 1) := by decide +kernel
theorem dX8_init_172 : decode cX8_init 172 = .ok (.putfield 92, 3) := by decide +kernel
theorem dX8_init_175 : decode cX8_init 175 = .ok (.return_, 1) := by decide +kernel
theorem dX8_isRace_0 : decode cX8_isRace 0 = .ok (.iload_n 0, 1) := by decide +kernel
theorem dX8_isRace_1 : decode cX8_isRace 1 = .ok (.ifCond .lt 12, 3) := by decide +kernel
theorem dX8_isRace_4 : decode cX8_isRace 4 = .ok (.iload_n 0, 1) := by decide +kernel
theorem dX8_isRace_5 : decode cX8_isRace 5 = .ok (.iconst 4, 1) := by decide +kernel
theorem dX8_isRace_6 : decode cX8_isRace 6 = .ok (.if_icmp .ge 7, 3) := by decide +kernel
theorem dX8_isRace_9 : decode cX8_isRace 9 = .ok (.iconst 1, 1) := by decide +kernel
theorem dX8_isRace_10 : decode cX8_isRace 10 = .ok (.goto 4, 3) := by decide +kernel
theorem dX8_isRace_13 : decode cX8_isRace 13 = .ok (.iconst 0, 1) := by decide +kernel
theorem dX8_isRace_14 : decode cX8_isRace 14 = .ok (.ireturn, 1) := by decide +kernel
theorem dX8_isTrade_0 : decode cX8_isTrade 0 = .ok (.iload_n 0, 1) := by decide +kernel
theorem dX8_isTrade_1 : decode cX8_isTrade 1 = .ok (.ifCond .lt 13, 3) := by decide +kernel
theorem dX8_isTrade_4 : decode cX8_isTrade 4 = .ok (.iload_n 0, 1) := by decide +kernel
theorem dX8_isTrade_5 : decode cX8_isTrade 5 = .ok (.bipush 10, 2) := by decide +kernel
theorem dX8_isTrade_7 : decode cX8_isTrade 7 = .ok (.if_icmp .ge 7, 3) := by decide +kernel
theorem dX8_isTrade_10 : decode cX8_isTrade 10 = .ok (.iconst 1, 1) := by decide +kernel
theorem dX8_isTrade_11 : decode cX8_isTrade 11 = .ok (.goto 4, 3) := by decide +kernel
theorem dX8_isTrade_14 : decode cX8_isTrade 14 = .ok (.iconst 0, 1) := by decide +kernel
theorem dX8_isTrade_15 : decode cX8_isTrade 15 = .ok (.ireturn, 1) := by decide +kernel
theorem dX8_ladder_0 : decode cX8_ladder 0 = .ok (.iload_n 1, 1) := by decide +kernel
theorem dX8_ladder_1 : decode cX8_ladder 1 = .ok (.iconst 1, 1) := by decide +kernel
theorem dX8_ladder_2 : decode cX8_ladder 2 = .ok (.if_icmp .lt 19, 3) := by decide +kernel
theorem dX8_ladder_5 : decode cX8_ladder 5 = .ok (.iload_n 1, 1) := by decide +kernel
theorem dX8_ladder_6 : decode cX8_ladder 6 = .ok (.bipush 60, 2) := by decide +kernel
theorem dX8_ladder_8 : decode cX8_ladder 8 = .ok (.if_icmp .gt 13, 3) := by decide +kernel
theorem dX8_ladder_11 : decode cX8_ladder 11 = .ok (.iload_n 2, 1) := by decide +kernel
theorem dX8_ladder_12 : decode cX8_ladder 12 = .ok (.iconst 1, 1) := by decide +kernel
theorem dX8_ladder_13 : decode cX8_ladder 13 = .ok (.if_icmp .lt 8, 3) := by decide +kernel
theorem dX8_ladder_16 : decode cX8_ladder 16 = .ok (.iload_n 2, 1) := by decide +kernel
theorem dX8_ladder_17 : decode cX8_ladder 17 = .ok (.iconst 5, 1) := by decide +kernel
theorem dX8_ladder_18 : decode cX8_ladder 18 = .ok (.if_icmp .le 7, 3) := by decide +kernel
theorem dX8_ladder_21 : decode cX8_ladder 21 = .ok (.ldc2_w 274, 3) := by decide +kernel
theorem dX8_ladder_24 : decode cX8_ladder 24 = .ok (.lreturn, 1) := by decide +kernel
theorem dX8_ladder_25 : decode cX8_ladder 25 = .ok (.aload_n 0, 1) := by decide +kernel
theorem dX8_ladder_26 : decode cX8_ladder 26 = .ok (.getfield 44, 3) := by decide +kernel
theorem dX8_ladder_29 : decode cX8_ladder 29 = .ok (.iload_n 1, 1) := by decide +kernel
theorem dX8_ladder_30 : decode cX8_ladder 30 = .ok (.iload_n 2, 1) := by decide +kernel
theorem dX8_ladder_31 : decode cX8_ladder 31 = .ok (.invokevirtual 276, 3) := by decide +kernel
theorem dX8_ladder_34 : decode cX8_ladder 34 = .ok (.lreturn, 1) := by decide +kernel
theorem dX8_law_0 : decode cX8_law 0 = .ok (.aload_n 0, 1) := by decide +kernel
theorem dX8_law_1 : decode cX8_law 1 = .ok (.getfield 26, 3) := by decide +kernel
theorem dX8_law_4 : decode cX8_law 4 = .ok (.getfield 176, 3) := by decide +kernel
theorem dX8_law_7 : decode cX8_law 7 = .ok (.bipush 6, 2) := by decide +kernel
theorem dX8_law_9 : decode cX8_law 9 = .ok (.if_icmp .lt 18, 3) := by decide +kernel
theorem dX8_law_12 : decode cX8_law 12 = .ok (.aload_n 0, 1) := by decide +kernel
theorem dX8_law_13 : decode cX8_law 13 = .ok (.getfield 10, 3) := by decide +kernel
theorem dX8_law_16 : decode cX8_law 16 = .ok (.iconst 0, 1) := by decide +kernel
theorem dX8_law_17 : decode cX8_law 17 = .ok (.putfield 170, 3) := by decide +kernel
theorem dX8_law_20 : decode cX8_law 20 = .ok (.aload_n 0, 1) := by decide +kernel
theorem dX8_law_21 : decode cX8_law 21 = .ok (.bipush (-5), 2) := by decide +kernel
theorem dX8_law_23 : decode cX8_law 23 = .ok (.invokevirtual 102, 3) := by decide +kernel
theorem dX8_law_26 : decode cX8_law 26 = .ok (.ireturn, 1) := by decide +kernel
theorem dX8_law_27 : decode cX8_law 27 = .ok (.aload_n 0, 1) := by decide +kernel
theorem dX8_law_28 : decode cX8_law 28 = .ok (.getfield 10, 3) := by decide +kernel
theorem dX8_law_31 : decode cX8_law 31 = .ok (.iconst 1, 1) := by decide +kernel
theorem dX8_law_32 : decode cX8_law 32 = .ok (.invokevirtual 179, 3) := by decide +kernel
theorem dX8_law_35 : decode cX8_law 35 = .ok (.istore_n 1, 1) := by decide +kernel
theorem dX8_law_36 : decode cX8_law 36 = .ok (.aload_n 0, 1) := by decide +kernel
theorem dX8_law_37 : decode cX8_law 37 = .ok (.getfield 10, 3) := by decide +kernel
theorem dX8_law_40 : decode cX8_law 40 = .ok (.iconst 0, 1) := by decide +kernel
theorem dX8_law_41 : decode cX8_law 41 = .ok (.putfield 170, 3) := by decide +kernel
theorem dX8_law_44 : decode cX8_law 44 = .ok (.iload_n 1, 1) := by decide +kernel
theorem dX8_law_45 : decode cX8_law 45 = .ok (.ifCond .eq 27, 3) := by decide +kernel
theorem dX8_law_48 : decode cX8_law 48 = .ok (.aload_n 0, 1) := by decide +kernel
theorem dX8_law_49 : decode cX8_law 49 = .ok (.aload_n 0, 1) := by decide +kernel
theorem dX8_law_50 : decode cX8_law 50 = .ok (.getfield 26, 3) := by decide +kernel
theorem dX8_law_53 : decode cX8_law 53 = .ok (.aload_n 0, 1) := by decide +kernel
theorem dX8_law_54 : decode cX8_law 54 = .ok (.getfield 10, 3) := by decide +kernel
theorem dX8_law_57 : decode cX8_law 57 = .ok (.getfield 183, 3) := by decide +kernel
theorem dX8_law_60 : decode cX8_law 60 = .ok (.invokevirtual 187, 3) := by decide +kernel
theorem dX8_law_63 : decode cX8_law 63 = .ok (.invokevirtual 192, 3) := by decide +kernel
theorem dX8_law_66 : decode cX8_law 66 = .ok (.invokevirtual 116, 3) := by decide +kernel
theorem dX8_law_69 : decode cX8_law 69 = .ok (.goto 9, 3) := by decide +kernel
theorem dX8_law_72 : decode cX8_law 72 = .ok (.aload_n 0, 1) := by decide +kernel
theorem dX8_law_73 : decode cX8_law 73 = .ok (.bipush (-6), 2) := by decide +kernel
theorem dX8_law_75 : decode cX8_law 75 = .ok (.invokevirtual 102, 3) := by decide +kernel
theorem dX8_law_78 : decode cX8_law 78 = .ok (.ireturn, 1) := by decide +kernel
theorem dX8_look_0 : decode cX8_look 0 = .ok (.iload_n 1, 1) := by decide +kernel
theorem dX8_look_1 : decode cX8_look 1 = .ok (.ifCond .lt 8, 3) := by decide +kernel
theorem dX8_look_4 : decode cX8_look 4 = .ok (.iload_n 1, 1) := by decide +kernel
theorem dX8_look_5 : decode cX8_look 5 = .ok (.iconst 1, 1) := by decide +kernel
theorem dX8_look_6 : decode cX8_look 6 = .ok (.if_icmp .le 5, 3) := by decide +kernel
theorem dX8_look_9 : decode cX8_look 9 = .ok (.iconst (-1), 1) := by decide +kernel
theorem dX8_look_10 : decode cX8_look 10 = .ok (.ireturn, 1) := by decide +kernel
theorem dX8_look_11 : decode cX8_look 11 = .ok (.aload_n 0, 1) := by decide +kernel
theorem dX8_look_12 : decode cX8_look 12 = .ok (.getfield 44, 3) := by decide +kernel
theorem dX8_look_15 : decode cX8_look 15 = .ok (.invokevirtual 253, 3) := by decide +kernel
theorem dX8_look_18 : decode cX8_look 18 = .ok (.istore_n 2, 1) := by decide +kernel
theorem dX8_look_19 : decode cX8_look 19 = .ok (.iload_n 1, 1) := by decide +kernel
theorem dX8_look_20 : decode cX8_look 20 = .ok (.ifCond .eq 8, 3) := by decide +kernel
theorem dX8_look_23 : decode cX8_look 23 = .ok (.iload_n 2, 1) := by decide +kernel
theorem dX8_look_24 : decode cX8_look 24 = .ok (.iconst (-1), 1) := by decide +kernel
theorem dX8_look_25 : decode cX8_look 25 = .ok (.if_icmp .ne 7, 3) := by decide +kernel
theorem dX8_look_28 : decode cX8_look 28 = .ok (.iload_n 2, 1) := by decide +kernel
theorem dX8_look_29 : decode cX8_look 29 = .ok (.goto 10, 3) := by decide +kernel
theorem dX8_look_32 : decode cX8_look 32 = .ok (.aload_n 0, 1) := by decide +kernel
theorem dX8_look_33 : decode cX8_look 33 = .ok (.getfield 44, 3) := by decide +kernel
theorem dX8_look_36 : decode cX8_look 36 = .ok (.getfield 256, 3) := by decide +kernel
theorem dX8_look_39 : decode cX8_look 39 = .ok (.ireturn, 1) := by decide +kernel
theorem dX8_never_0 : decode cX8_never 0 = .ok (.aload_n 0, 1) := by decide +kernel
theorem dX8_never_1 : decode cX8_never 1 = .ok (.getfield 44, 3) := by decide +kernel
theorem dX8_never_4 : decode cX8_never 4 = .ok (.invokevirtual 280, 3) := by decide +kernel
theorem dX8_never_7 : decode cX8_never 7 = .ok (.ireturn, 1) := by decide +kernel
theorem dX8_of_0 : decode cX8_of 0 = .ok (.aload_n 0, 1) := by decide +kernel
theorem dX8_of_1 : decode cX8_of 1 = .ok (.getfield 26, 3) := by decide +kernel
theorem dX8_of_4 : decode cX8_of 4 = .ok (.iload_n 1, 1) := by decide +kernel
theorem dX8_of_5 : decode cX8_of 5 = .ok (.invokevirtual 99, 3) := by decide +kernel
theorem dX8_of_8 : decode cX8_of 8 = .ok (.ifCond .ne 5, 3) := by decide +kernel
theorem dX8_of_11 : decode cX8_of 11 = .ok (.iconst (-1), 1) := by decide +kernel
theorem dX8_of_12 : decode cX8_of 12 = .ok (.ireturn, 1) := by decide +kernel
theorem dX8_of_13 : decode cX8_of 13 = .ok (.iload_n 2, 1) := by decide +kernel
theorem dX8_of_14 : decode cX8_of 14 = .ok (.iconst 3, 1) := by decide +kernel
theorem dX8_of_15 : decode cX8_of 15 = .ok (.if_icmp .ne 13, 3) := by decide +kernel
theorem dX8_of_18 : decode cX8_of 18 = .ok (.aload_n 0, 1) := by decide +kernel
theorem dX8_of_19 : decode cX8_of 19 = .ok (.getfield 26, 3) := by decide +kernel
theorem dX8_of_22 : decode cX8_of 22 = .ok (.getfield 119, 3) := by decide +kernel
theorem dX8_of_25 : decode cX8_of 25 = .ok (.iload_n 1, 1) := by decide +kernel
theorem dX8_of_26 : decode cX8_of 26 = .ok (.iaload, 1) := by decide +kernel
theorem dX8_of_27 : decode cX8_of 27 = .ok (.ireturn, 1) := by decide +kernel
theorem dX8_of_28 : decode cX8_of 28 = .ok (.iload_n 2, 1) := by decide +kernel
theorem dX8_of_29 : decode cX8_of 29 = .ok (.iconst 4, 1) := by decide +kernel
theorem dX8_of_30 : decode cX8_of 30 = .ok (.isub, 1) := by decide +kernel
theorem dX8_of_31 : decode cX8_of 31 = .ok (.invokestatic 122, 3) := by decide +kernel
theorem dX8_of_34 : decode cX8_of 34 = .ok (.ifCond .eq 19, 3) := by decide +kernel
theorem dX8_of_37 : decode cX8_of 37 = .ok (.aload_n 0, 1) := by decide +kernel
theorem dX8_of_38 : decode cX8_of 38 = .ok (.getfield 26, 3) := by decide +kernel
theorem dX8_of_41 : decode cX8_of 41 = .ok (.getfield 125, 3) := by decide +kernel
theorem dX8_of_44 : decode cX8_of 44 = .ok (.iload_n 1, 1) := by decide +kernel
theorem dX8_of_45 : decode cX8_of 45 = .ok (.iconst 4, 1) := by decide +kernel
theorem dX8_of_46 : decode cX8_of 46 = .ok (.imul, 1) := by decide +kernel
theorem dX8_of_47 : decode cX8_of 47 = .ok (.iload_n 2, 1) := by decide +kernel
theorem dX8_of_48 : decode cX8_of 48 = .ok (.iadd, 1) := by decide +kernel
theorem dX8_of_49 : decode cX8_of 49 = .ok (.iconst 4, 1) := by decide +kernel
theorem dX8_of_50 : decode cX8_of 50 = .ok (.isub, 1) := by decide +kernel
theorem dX8_of_51 : decode cX8_of 51 = .ok (.iaload, 1) := by decide +kernel
theorem dX8_of_52 : decode cX8_of 52 = .ok (.ireturn, 1) := by decide +kernel
theorem dX8_of_53 : decode cX8_of 53 = .ok (.iload_n 2, 1) := by decide +kernel
theorem dX8_of_54 : decode cX8_of 54 = .ok (.bipush 8, 2) := by decide +kernel
theorem dX8_of_56 : decode cX8_of 56 = .ok (.isub, 1) := by decide +kernel
theorem dX8_of_57 : decode cX8_of 57 = .ok (.invokestatic 122, 3) := by decide +kernel
theorem dX8_of_60 : decode cX8_of 60 = .ok (.ifCond .eq 23, 3) := by decide +kernel
theorem dX8_of_63 : decode cX8_of 63 = .ok (.aload_n 0, 1) := by decide +kernel
theorem dX8_of_64 : decode cX8_of 64 = .ok (.getfield 35, 3) := by decide +kernel
theorem dX8_of_67 : decode cX8_of 67 = .ok (.aload_n 0, 1) := by decide +kernel
theorem dX8_of_68 : decode cX8_of 68 = .ok (.getfield 26, 3) := by decide +kernel
theorem dX8_of_71 : decode cX8_of 71 = .ok (.invokevirtual 128, 3) := by decide +kernel
theorem dX8_of_74 : decode cX8_of 74 = .ok (.iload_n 1, 1) := by decide +kernel
theorem dX8_of_75 : decode cX8_of 75 = .ok (.iload_n 2, 1) := by decide +kernel
theorem dX8_of_76 : decode cX8_of 76 = .ok (.bipush 8, 2) := by decide +kernel
theorem dX8_of_78 : decode cX8_of 78 = .ok (.isub, 1) := by decide +kernel
theorem dX8_of_79 : decode cX8_of 79 = .ok (.invokevirtual 132, 3) := by decide +kernel
theorem dX8_of_82 : decode cX8_of 82 = .ok (.ireturn, 1) := by decide +kernel
theorem dX8_of_83 : decode cX8_of 83 = .ok (.iload_n 2, 1) := by decide +kernel
theorem dX8_of_84 : decode cX8_of 84 = .ok (.bipush 12, 2) := by decide +kernel
theorem dX8_of_86 : decode cX8_of 86 = .ok (.isub, 1) := by decide +kernel
theorem dX8_of_87 : decode cX8_of 87 = .ok (.invokestatic 122, 3) := by decide +kernel
theorem dX8_of_90 : decode cX8_of 90 = .ok (.ifCond .eq 31, 3) := by decide +kernel
theorem dX8_of_93 : decode cX8_of 93 = .ok (.aload_n 0, 1) := by decide +kernel
theorem dX8_of_94 : decode cX8_of 94 = .ok (.getfield 35, 3) := by decide +kernel
theorem dX8_of_97 : decode cX8_of 97 = .ok (.aload_n 0, 1) := by decide +kernel
theorem dX8_of_98 : decode cX8_of 98 = .ok (.getfield 26, 3) := by decide +kernel
theorem dX8_of_101 : decode cX8_of 101 = .ok (.invokevirtual 128, 3) := by decide +kernel
theorem dX8_of_104 : decode cX8_of 104 = .ok (.iload_n 1, 1) := by decide +kernel
theorem dX8_of_105 : decode cX8_of 105 = .ok (.iload_n 2, 1) := by decide +kernel
theorem dX8_of_106 : decode cX8_of 106 = .ok (.bipush 12, 2) := by decide +kernel
theorem dX8_of_108 : decode cX8_of 108 = .ok (.isub, 1) := by decide +kernel
theorem dX8_of_109 : decode cX8_of 109 = .ok (.invokevirtual 136, 3) := by decide +kernel
theorem dX8_of_112 : decode cX8_of 112 = .ok (.ifCond .eq 7, 3) := by decide +kernel
theorem dX8_of_115 : decode cX8_of 115 = .ok (.iconst 1, 1) := by decide +kernel
theorem dX8_of_116 : decode cX8_of 116 = .ok (.goto 4, 3) := by decide +kernel
theorem dX8_of_119 : decode cX8_of 119 = .ok (.iconst 0, 1) := by decide +kernel
theorem dX8_of_120 : decode cX8_of 120 = .ok (.ireturn, 1) := by decide +kernel
theorem dX8_of_121 : decode cX8_of 121 = .ok (.aload_n 0, 1) := by decide +kernel
theorem dX8_of_122 : decode cX8_of 122 = .ok (.getfield 26, 3) := by decide +kernel
theorem dX8_of_125 : decode cX8_of 125 = .ok (.getfield 140, 3) := by decide +kernel
theorem dX8_of_128 : decode cX8_of 128 = .ok (.iload_n 1, 1) := by decide +kernel
theorem dX8_of_129 : decode cX8_of 129 = .ok (.iload_n 2, 1) := by decide +kernel
theorem dX8_of_130 : decode cX8_of 130 = .ok (.invokevirtual 143, 3) := by decide +kernel
theorem dX8_of_133 : decode cX8_of 133 = .ok (.ireturn, 1) := by decide +kernel
theorem dX8_orders_0 : decode cX8_orders 0 = .ok (.aload_n 0, 1) := by decide +kernel
theorem dX8_orders_1 : decode cX8_orders 1 = .ok (.iconst (-1), 1) := by decide +kernel
theorem dX8_orders_2 : decode cX8_orders 2 = .ok (.putfield 86, 3) := by decide +kernel
theorem dX8_orders_5 : decode cX8_orders 5 = .ok (.aload_n 0, 1) := by decide +kernel
theorem dX8_orders_6 : decode cX8_orders 6 = .ok (.getfield 10, 3) := by decide +kernel
theorem dX8_orders_9 : decode cX8_orders 9 = .ok (.iconst 0, 1) := by decide +kernel
theorem dX8_orders_10 : decode cX8_orders 10 = .ok (.invokevirtual 179, 3) := by decide +kernel
theorem dX8_orders_13 : decode cX8_orders 13 = .ok (.istore_n 1, 1) := by decide +kernel
theorem dX8_orders_14 : decode cX8_orders 14 = .ok (.aload_n 0, 1) := by decide +kernel
theorem dX8_orders_15 : decode cX8_orders 15 = .ok (.getfield 10, 3) := by decide +kernel
theorem dX8_orders_18 : decode cX8_orders 18 = .ok (.iconst 0, 1) := by decide +kernel
theorem dX8_orders_19 : decode cX8_orders 19 = .ok (.putfield 170, 3) := by decide +kernel
theorem dX8_orders_22 : decode cX8_orders 22 = .ok (.iload_n 1, 1) := by decide +kernel
theorem dX8_orders_23 : decode cX8_orders 23 = .ok (.ifCond .ne 10, 3) := by decide +kernel
theorem dX8_orders_26 : decode cX8_orders 26 = .ok (.aload_n 0, 1) := by decide +kernel
theorem dX8_orders_27 : decode cX8_orders 27 = .ok (.bipush (-6), 2) := by decide +kernel
theorem dX8_orders_29 : decode cX8_orders 29 = .ok (.invokevirtual 102, 3) := by decide +kernel
theorem dX8_orders_32 : decode cX8_orders 32 = .ok (.ireturn, 1) := by decide +kernel
theorem dX8_orders_33 : decode cX8_orders 33 = .ok (.aload_n 0, 1) := by decide +kernel
theorem dX8_orders_34 : decode cX8_orders 34 = .ok (.getfield 71, 3) := by decide +kernel
theorem dX8_orders_37 : decode cX8_orders 37 = .ok (.aload_n 0, 1) := by decide +kernel
theorem dX8_orders_38 : decode cX8_orders 38 = .ok (.getfield 26, 3) := by decide +kernel
theorem dX8_orders_41 : decode cX8_orders 41 = .ok (.getfield 140, 3) := by decide +kernel
theorem dX8_orders_44 : decode cX8_orders 44 = .ok (.invokevirtual 196, 3) := by decide +kernel
theorem dX8_orders_47 : decode cX8_orders 47 = .ok (.aload_n 0, 1) := by decide +kernel
theorem dX8_orders_48 : decode cX8_orders 48 = .ok (.getfield 65, 3) := by decide +kernel
theorem dX8_orders_51 : decode cX8_orders 51 = .ok (.aload_n 0, 1) := by decide +kernel
theorem dX8_orders_52 : decode cX8_orders 52 = .ok (.getfield 61, 3) := by decide +kernel
theorem dX8_orders_55 : decode cX8_orders 55 = .ok (.invokevirtual 200, 3) := by decide +kernel
theorem dX8_orders_58 : decode cX8_orders 58 = .ok (.aload_n 0, 1) := by decide +kernel
theorem dX8_orders_59 : decode cX8_orders 59 = .ok (.iconst 0, 1) := by decide +kernel
theorem dX8_orders_60 : decode cX8_orders 60 = .ok (.putfield 89, 3) := by decide +kernel
theorem dX8_orders_63 : decode cX8_orders 63 = .ok (.aload_n 0, 1) := by decide +kernel
theorem dX8_orders_64 : decode cX8_orders 64 = .ok (.iconst (-1), 1) := by decide +kernel
theorem dX8_orders_65 : decode cX8_orders 65 = .ok (.putfield 92, 3) := by decide +kernel
theorem dX8_orders_68 : decode cX8_orders 68 = .ok (.aload_n 0, 1) := by decide +kernel
theorem dX8_orders_69 : decode cX8_orders 69 = .ok (.getfield 10, 3) := by decide +kernel
theorem dX8_orders_72 : decode cX8_orders 72 = .ok (.getfield 183, 3) := by decide +kernel
theorem dX8_orders_75 : decode cX8_orders 75 = .ok (.astore_n 2, 1) := by decide +kernel
theorem dX8_orders_76 : decode cX8_orders 76 = .ok (.iconst 0, 1) := by decide +kernel
theorem dX8_orders_77 : decode cX8_orders 77 = .ok (.istore_n 3, 1) := by decide +kernel
theorem dX8_orders_78 : decode cX8_orders 78 = .ok (.iload_n 3, 1) := by decide +kernel
theorem dX8_orders_79 : decode cX8_orders 79 = .ok (.aload_n 2, 1) := by decide +kernel
theorem dX8_orders_80 : decode cX8_orders 80 = .ok (.getfield 203, 3) := by decide +kernel
theorem dX8_orders_83 : decode cX8_orders 83 = .ok (.if_icmp .ge 75, 3) := by decide +kernel
theorem dX8_orders_86 : decode cX8_orders 86 = .ok (.iconst 0, 1) := by decide +kernel
theorem dX8_orders_87 : decode cX8_orders 87 = .ok (.istore 4, 2) := by decide +kernel
theorem dX8_orders_89 : decode cX8_orders 89 = .ok (.iload 4, 2) := by decide +kernel
theorem dX8_orders_91 : decode cX8_orders 91 = .ok (.aload_n 2, 1) := by decide +kernel
theorem dX8_orders_92 : decode cX8_orders 92 = .ok (.getfield 206, 3) := by decide +kernel
theorem dX8_orders_95 : decode cX8_orders 95 = .ok (.iload_n 3, 1) := by decide +kernel
theorem dX8_orders_96 : decode cX8_orders 96 = .ok (.iaload, 1) := by decide +kernel
theorem dX8_orders_97 : decode cX8_orders 97 = .ok (.if_icmp .ge 55, 3) := by decide +kernel
theorem dX8_orders_100 : decode cX8_orders 100 = .ok (.aload_n 0, 1) := by decide +kernel
theorem dX8_orders_101 : decode cX8_orders 101 = .ok (.aload_n 2, 1) := by decide +kernel
theorem dX8_orders_102 : decode cX8_orders 102 = .ok (.iload_n 3, 1) := by decide +kernel
theorem dX8_orders_103 : decode cX8_orders 103 = .ok (.invokevirtual 209, 3) := by decide +kernel
theorem dX8_orders_106 : decode cX8_orders 106 = .ok (.ifCond .ne 40, 3) := by decide +kernel
theorem dX8_orders_109 : decode cX8_orders 109 = .ok (.aload_n 0, 1) := by decide +kernel
theorem dX8_orders_110 : decode cX8_orders 110 = .ok (.iload_n 3, 1) := by decide +kernel
theorem dX8_orders_111 : decode cX8_orders 111 = .ok (.putfield 86, 3) := by decide +kernel
theorem dX8_orders_114 : decode cX8_orders 114 = .ok (.aload_n 0, 1) := by decide +kernel
theorem dX8_orders_115 : decode cX8_orders 115 = .ok (.getfield 26, 3) := by decide +kernel
theorem dX8_orders_118 : decode cX8_orders 118 = .ok (.getfield 140, 3) := by decide +kernel
theorem dX8_orders_121 : decode cX8_orders 121 = .ok (.aload_n 0, 1) := by decide +kernel
theorem dX8_orders_122 : decode cX8_orders 122 = .ok (.getfield 71, 3) := by decide +kernel
theorem dX8_orders_125 : decode cX8_orders 125 = .ok (.invokevirtual 196, 3) := by decide +kernel
theorem dX8_orders_128 : decode cX8_orders 128 = .ok (.aload_n 0, 1) := by decide +kernel
theorem dX8_orders_129 : decode cX8_orders 129 = .ok (.getfield 61, 3) := by decide +kernel
theorem dX8_orders_132 : decode cX8_orders 132 = .ok (.aload_n 0, 1) := by decide +kernel
theorem dX8_orders_133 : decode cX8_orders 133 = .ok (.getfield 65, 3) := by decide +kernel
theorem dX8_orders_136 : decode cX8_orders 136 = .ok (.invokevirtual 200, 3) := by decide +kernel
theorem dX8_orders_139 : decode cX8_orders 139 = .ok (.aload_n 0, 1) := by decide +kernel
theorem dX8_orders_140 : decode cX8_orders 140 = .ok (.bipush (-3), 2) := by decide +kernel
theorem dX8_orders_142 : decode cX8_orders 142 = .ok (.invokevirtual 102, 3) := by decide +kernel
theorem dX8_orders_145 : decode cX8_orders 145 = .ok (.ireturn, 1) := by decide +kernel
theorem dX8_orders_146 : decode cX8_orders 146 = .ok (.iinc 4 1, 3) := by decide +kernel
theorem dX8_orders_149 : decode cX8_orders 149 = .ok (.goto (-60), 3) := by decide +kernel
theorem dX8_orders_152 : decode cX8_orders 152 = .ok (.iinc 3 1, 3) := by decide +kernel
theorem dX8_orders_155 : decode cX8_orders 155 = .ok (.goto (-77), 3) := by decide +kernel
theorem dX8_orders_158 : decode cX8_orders 158 = .ok (.aload_n 0, 1) := by decide +kernel
theorem dX8_orders_159 : decode cX8_orders 159 = .ok (.aload_n 0, 1) := by decide +kernel
theorem dX8_orders_160 : decode cX8_orders 160 = .ok (.getfield 89, 3) := by decide +kernel
theorem dX8_orders_163 : decode cX8_orders 163 = .ok (.invokevirtual 116, 3) := by decide +kernel
theorem dX8_orders_166 : decode cX8_orders 166 = .ok (.ireturn, 1) := by decide +kernel
theorem dX8_pass_0 : decode cX8_pass 0 = .ok (.aload_n 0, 1) := by decide +kernel
theorem dX8_pass_1 : decode cX8_pass 1 = .ok (.aload_n 0, 1) := by decide +kernel
theorem dX8_pass_2 : decode cX8_pass 2 = .ok (.getfield 35, 3) := by decide +kernel
theorem dX8_pass_5 : decode cX8_pass 5 = .ok (.iconst 3, 1) := by decide +kernel
theorem dX8_pass_6 : decode cX8_pass 6 = .ok (.iconst 0, 1) := by decide +kernel
theorem dX8_pass_7 : decode cX8_pass 7 = .ok (.aload_n 0, 1) := by decide +kernel
theorem dX8_pass_8 : decode cX8_pass 8 = .ok (.getfield 61, 3) := by decide +kernel
theorem dX8_pass_11 : decode cX8_pass 11 = .ok (.invokevirtual 222, 3) := by decide +kernel
theorem dX8_pass_14 : decode cX8_pass 14 = .ok (.invokevirtual 226, 3) := by decide +kernel
theorem dX8_pass_17 : decode cX8_pass 17 = .ok (.ireturn, 1) := by decide +kernel
theorem dX8_person_0 : decode cX8_person 0 = .ok (.iload_n 1, 1) := by decide +kernel
theorem dX8_person_1 : decode cX8_person 1 = .ok (.invokestatic 95, 3) := by decide +kernel
theorem dX8_person_4 : decode cX8_person 4 = .ok (.ifCond .eq 19, 3) := by decide +kernel
theorem dX8_person_7 : decode cX8_person 7 = .ok (.iload_n 2, 1) := by decide +kernel
theorem dX8_person_8 : decode cX8_person 8 = .ok (.iconst (-1), 1) := by decide +kernel
theorem dX8_person_9 : decode cX8_person 9 = .ok (.if_icmp .eq 20, 3) := by decide +kernel
theorem dX8_person_12 : decode cX8_person 12 = .ok (.aload_n 0, 1) := by decide +kernel
theorem dX8_person_13 : decode cX8_person 13 = .ok (.getfield 26, 3) := by decide +kernel
theorem dX8_person_16 : decode cX8_person 16 = .ok (.iload_n 2, 1) := by decide +kernel
theorem dX8_person_17 : decode cX8_person 17 = .ok (.invokevirtual 99, 3) := by decide +kernel
theorem dX8_person_20 : decode cX8_person 20 = .ok (.ifCond .ne 9, 3) := by decide +kernel
theorem dX8_person_23 : decode cX8_person 23 = .ok (.aload_n 0, 1) := by decide +kernel
theorem dX8_person_24 : decode cX8_person 24 = .ok (.iconst (-1), 1) := by decide +kernel
theorem dX8_person_25 : decode cX8_person 25 = .ok (.invokevirtual 102, 3) := by decide +kernel
theorem dX8_person_28 : decode cX8_person 28 = .ok (.ireturn, 1) := by decide +kernel
theorem dX8_person_29 : decode cX8_person 29 = .ok (.aload_n 0, 1) := by decide +kernel
theorem dX8_person_30 : decode cX8_person 30 = .ok (.getfield 26, 3) := by decide +kernel
theorem dX8_person_33 : decode cX8_person 33 = .ok (.getfield 106, 3) := by decide +kernel
theorem dX8_person_36 : decode cX8_person 36 = .ok (.bipush 7, 2) := by decide +kernel
theorem dX8_person_38 : decode cX8_person 38 = .ok (.if_icmp .lt 10, 3) := by decide +kernel
theorem dX8_person_41 : decode cX8_person 41 = .ok (.aload_n 0, 1) := by decide +kernel
theorem dX8_person_42 : decode cX8_person 42 = .ok (.bipush (-5), 2) := by decide +kernel
theorem dX8_person_44 : decode cX8_person 44 = .ok (.invokevirtual 102, 3) := by decide +kernel
theorem dX8_person_47 : decode cX8_person 47 = .ok (.ireturn, 1) := by decide +kernel
theorem dX8_person_48 : decode cX8_person 48 = .ok (.aload_n 0, 1) := by decide +kernel
theorem dX8_person_49 : decode cX8_person 49 = .ok (.getfield 61, 3) := by decide +kernel
theorem dX8_person_52 : decode cX8_person 52 = .ok (.invokevirtual 109, 3) := by decide +kernel
theorem dX8_person_55 : decode cX8_person 55 = .ok (.aload_n 0, 1) := by decide +kernel
theorem dX8_person_56 : decode cX8_person 56 = .ok (.aload_n 0, 1) := by decide +kernel
theorem dX8_person_57 : decode cX8_person 57 = .ok (.getfield 26, 3) := by decide +kernel
theorem dX8_person_60 : decode cX8_person 60 = .ok (.iload_n 1, 1) := by decide +kernel
theorem dX8_person_61 : decode cX8_person 61 = .ok (.iload_n 2, 1) := by decide +kernel
theorem dX8_person_62 : decode cX8_person 62 = .ok (.invokevirtual 112, 3) := by decide +kernel
theorem dX8_person_65 : decode cX8_person 65 = .ok (.invokevirtual 116, 3) := by decide +kernel
theorem dX8_person_68 : decode cX8_person 68 = .ok (.ireturn, 1) := by decide +kernel
theorem dX8_placed_0 : decode cX8_placed 0 = .ok (.iload_n 1, 1) := by decide +kernel
theorem dX8_placed_1 : decode cX8_placed 1 = .ok (.invokestatic 122, 3) := by decide +kernel
theorem dX8_placed_4 : decode cX8_placed 4 = .ok (.ifCond .ne 5, 3) := by decide +kernel
theorem dX8_placed_7 : decode cX8_placed 7 = .ok (.iconst (-1), 1) := by decide +kernel
theorem dX8_placed_8 : decode cX8_placed 8 = .ok (.ireturn, 1) := by decide +kernel
theorem dX8_placed_9 : decode cX8_placed 9 = .ok (.aload_n 0, 1) := by decide +kernel
theorem dX8_placed_10 : decode cX8_placed 10 = .ok (.getfield 35, 3) := by decide +kernel
theorem dX8_placed_13 : decode cX8_placed 13 = .ok (.aload_n 0, 1) := by decide +kernel
theorem dX8_placed_14 : decode cX8_placed 14 = .ok (.getfield 26, 3) := by decide +kernel
theorem dX8_placed_17 : decode cX8_placed 17 = .ok (.invokevirtual 128, 3) := by decide +kernel
theorem dX8_placed_20 : decode cX8_placed 20 = .ok (.iload_n 1, 1) := by decide +kernel
theorem dX8_placed_21 : decode cX8_placed 21 = .ok (.invokevirtual 149, 3) := by decide +kernel
theorem dX8_placed_24 : decode cX8_placed 24 = .ok (.istore_n 3, 1) := by decide +kernel
theorem dX8_placed_25 : decode cX8_placed 25 = .ok (.iload_n 2, 1) := by decide +kernel
theorem dX8_placed_26 : decode cX8_placed 26 = .ok (.ifCond .ne 7, 3) := by decide +kernel
theorem dX8_placed_29 : decode cX8_placed 29 = .ok (.iload_n 3, 1) := by decide +kernel
theorem dX8_placed_30 : decode cX8_placed 30 = .ok (.goto 11, 3) := by decide +kernel
theorem dX8_placed_33 : decode cX8_placed 33 = .ok (.aload_n 0, 1) := by decide +kernel
theorem dX8_placed_34 : decode cX8_placed 34 = .ok (.getfield 35, 3) := by decide +kernel
theorem dX8_placed_37 : decode cX8_placed 37 = .ok (.iload_n 2, 1) := by decide +kernel
theorem dX8_placed_38 : decode cX8_placed 38 = .ok (.invokevirtual 153, 3) := by decide +kernel
theorem dX8_placed_41 : decode cX8_placed 41 = .ok (.ireturn, 1) := by decide +kernel
theorem dX8_race_0 : decode cX8_race 0 = .ok (.aload_n 0, 1) := by decide +kernel
theorem dX8_race_1 : decode cX8_race 1 = .ok (.aload_n 0, 1) := by decide +kernel
theorem dX8_race_2 : decode cX8_race 2 = .ok (.getfield 35, 3) := by decide +kernel
theorem dX8_race_5 : decode cX8_race 5 = .ok (.iconst 0, 1) := by decide +kernel
theorem dX8_race_6 : decode cX8_race 6 = .ok (.iload_n 1, 1) := by decide +kernel
theorem dX8_race_7 : decode cX8_race 7 = .ok (.aload_n 0, 1) := by decide +kernel
theorem dX8_race_8 : decode cX8_race 8 = .ok (.getfield 61, 3) := by decide +kernel
theorem dX8_race_11 : decode cX8_race 11 = .ok (.invokevirtual 222, 3) := by decide +kernel
theorem dX8_race_14 : decode cX8_race 14 = .ok (.invokevirtual 226, 3) := by decide +kernel
theorem dX8_race_17 : decode cX8_race 17 = .ok (.ireturn, 1) := by decide +kernel
theorem dX8_ranking_0 : decode cX8_ranking 0 = .ok (.iload_n 1, 1) := by decide +kernel
theorem dX8_ranking_1 : decode cX8_ranking 1 = .ok (.ifCond .lt 14, 3) := by decide +kernel
theorem dX8_ranking_4 : decode cX8_ranking 4 = .ok (.iload_n 1, 1) := by decide +kernel
theorem dX8_ranking_5 : decode cX8_ranking 5 = .ok (.aload_n 0, 1) := by decide +kernel
theorem dX8_ranking_6 : decode cX8_ranking 6 = .ok (.getfield 26, 3) := by decide +kernel
theorem dX8_ranking_9 : decode cX8_ranking 9 = .ok (.getfield 106, 3) := by decide +kernel
theorem dX8_ranking_12 : decode cX8_ranking 12 = .ok (.if_icmp .le 5, 3) := by decide +kernel
theorem dX8_ranking_15 : decode cX8_ranking 15 = .ok (.iconst (-1), 1) := by decide +kernel
theorem dX8_ranking_16 : decode cX8_ranking 16 = .ok (.ireturn, 1) := by decide +kernel
theorem dX8_ranking_17 : decode cX8_ranking 17 = .ok (.aload_n 0, 1) := by decide +kernel
theorem dX8_ranking_18 : decode cX8_ranking 18 = .ok (.getfield 44, 3) := by decide +kernel
theorem dX8_ranking_21 : decode cX8_ranking 21 = .ok (.invokevirtual 259, 3) := by decide +kernel
theorem dX8_ranking_24 : decode cX8_ranking 24 = .ok (.istore_n 2, 1) := by decide +kernel
theorem dX8_ranking_25 : decode cX8_ranking 25 = .ok (.iload_n 1, 1) := by decide +kernel
theorem dX8_ranking_26 : decode cX8_ranking 26 = .ok (.ifCond .ne 7, 3) := by decide +kernel
theorem dX8_ranking_29 : decode cX8_ranking 29 = .ok (.iload_n 2, 1) := by decide +kernel
theorem dX8_ranking_30 : decode cX8_ranking 30 = .ok (.goto 14, 3) := by decide +kernel
theorem dX8_ranking_33 : decode cX8_ranking 33 = .ok (.aload_n 0, 1) := by decide +kernel
theorem dX8_ranking_34 : decode cX8_ranking 34 = .ok (.getfield 44, 3) := by decide +kernel
theorem dX8_ranking_37 : decode cX8_ranking 37 = .ok (.getfield 262, 3) := by decide +kernel
theorem dX8_ranking_40 : decode cX8_ranking 40 = .ok (.iload_n 1, 1) := by decide +kernel
theorem dX8_ranking_41 : decode cX8_ranking 41 = .ok (.iconst 1, 1) := by decide +kernel
theorem dX8_ranking_42 : decode cX8_ranking 42 = .ok (.isub, 1) := by decide +kernel
theorem dX8_ranking_43 : decode cX8_ranking 43 = .ok (.iaload, 1) := by decide +kernel
theorem dX8_ranking_44 : decode cX8_ranking 44 = .ok (.ireturn, 1) := by decide +kernel
theorem dX8_refuse_0 : decode cX8_refuse 0 = .ok (.aload_n 0, 1) := by decide +kernel
theorem dX8_refuse_1 : decode cX8_refuse 1 = .ok (.iload_n 1, 1) := by decide +kernel
theorem dX8_refuse_2 : decode cX8_refuse 2 = .ok (.putfield 79, 3) := by decide +kernel
theorem dX8_refuse_5 : decode cX8_refuse 5 = .ok (.iload_n 1, 1) := by decide +kernel
theorem dX8_refuse_6 : decode cX8_refuse 6 = .ok (.ifCond .ge 20, 3) := by decide +kernel
theorem dX8_refuse_9 : decode cX8_refuse 9 = .ok (.iload_n 1, 1) := by decide +kernel
theorem dX8_refuse_10 : decode cX8_refuse 10 = .ok (.bipush (-6), 2) := by decide +kernel
theorem dX8_refuse_12 : decode cX8_refuse 12 = .ok (.if_icmp .lt 14, 3) := by decide +kernel
theorem dX8_refuse_15 : decode cX8_refuse 15 = .ok (.aload_n 0, 1) := by decide +kernel
theorem dX8_refuse_16 : decode cX8_refuse 16 = .ok (.getfield 75, 3) := by decide +kernel
theorem dX8_refuse_19 : decode cX8_refuse 19 = .ok (.iload_n 1, 1) := by decide +kernel
theorem dX8_refuse_20 : decode cX8_refuse 20 = .ok (.ineg, 1) := by decide +kernel
theorem dX8_refuse_21 : decode cX8_refuse 21 = .ok (.dup2, 1) := by decide +kernel
theorem dX8_refuse_22 : decode cX8_refuse 22 = .ok (.iaload, 1) := by decide +kernel
theorem dX8_refuse_23 : decode cX8_refuse 23 = .ok (.iconst 1, 1) := by decide +kernel
theorem dX8_refuse_24 : decode cX8_refuse 24 = .ok (.iadd, 1) := by decide +kernel
theorem dX8_refuse_25 : decode cX8_refuse 25 = .ok (.iastore, 1) := by decide +kernel
theorem dX8_refuse_26 : decode cX8_refuse 26 = .ok (.iload_n 1, 1) := by decide +kernel
theorem dX8_refuse_27 : decode cX8_refuse 27 = .ok (.ireturn, 1) := by decide +kernel
theorem dX8_row_0 : decode cX8_row 0 = .ok (.aload_n 0, 1) := by decide +kernel
theorem dX8_row_1 : decode cX8_row 1 = .ok (.getfield 10, 3) := by decide +kernel
theorem dX8_row_4 : decode cX8_row 4 = .ok (.getfield 170, 3) := by decide +kernel
theorem dX8_row_7 : decode cX8_row 7 = .ok (.ifCond .ne 10, 3) := by decide +kernel
theorem dX8_row_10 : decode cX8_row 10 = .ok (.aload_n 0, 1) := by decide +kernel
theorem dX8_row_11 : decode cX8_row 11 = .ok (.bipush (-6), 2) := by decide +kernel
theorem dX8_row_13 : decode cX8_row 13 = .ok (.invokevirtual 102, 3) := by decide +kernel
theorem dX8_row_16 : decode cX8_row 16 = .ok (.ireturn, 1) := by decide +kernel
theorem dX8_row_17 : decode cX8_row 17 = .ok (.iconst 0, 1) := by decide +kernel
theorem dX8_row_18 : decode cX8_row 18 = .ok (.istore_n 1, 1) := by decide +kernel
theorem dX8_row_19 : decode cX8_row 19 = .ok (.aload_n 0, 1) := by decide +kernel
theorem dX8_row_20 : decode cX8_row 20 = .ok (.iconst 0, 1) := by decide +kernel
theorem dX8_row_21 : decode cX8_row 21 = .ok (.putfield 83, 3) := by decide +kernel
theorem dX8_row_24 : decode cX8_row 24 = .ok (.iconst 0, 1) := by decide +kernel
theorem dX8_row_25 : decode cX8_row 25 = .ok (.istore_n 2, 1) := by decide +kernel
theorem dX8_row_26 : decode cX8_row 26 = .ok (.iload_n 2, 1) := by decide +kernel
theorem dX8_row_27 : decode cX8_row 27 = .ok (.aload_n 0, 1) := by decide +kernel
theorem dX8_row_28 : decode cX8_row 28 = .ok (.getfield 10, 3) := by decide +kernel
theorem dX8_row_31 : decode cX8_row 31 = .ok (.getfield 170, 3) := by decide +kernel
theorem dX8_row_34 : decode cX8_row 34 = .ok (.if_icmp .ge 33, 3) := by decide +kernel
theorem dX8_row_37 : decode cX8_row 37 = .ok (.aload_n 0, 1) := by decide +kernel
theorem dX8_row_38 : decode cX8_row 38 = .ok (.iload_n 2, 1) := by decide +kernel
theorem dX8_row_39 : decode cX8_row 39 = .ok (.invokevirtual 173, 3) := by decide +kernel
theorem dX8_row_42 : decode cX8_row 42 = .ok (.ifCond .eq 9, 3) := by decide +kernel
theorem dX8_row_45 : decode cX8_row 45 = .ok (.iinc 1 1, 3) := by decide +kernel
theorem dX8_row_48 : decode cX8_row 48 = .ok (.goto 13, 3) := by decide +kernel
theorem dX8_row_51 : decode cX8_row 51 = .ok (.aload_n 0, 1) := by decide +kernel
theorem dX8_row_52 : decode cX8_row 52 = .ok (.dup, 1) := by decide +kernel
theorem dX8_row_53 : decode cX8_row 53 = .ok (.getfield 83, 3) := by decide +kernel
theorem dX8_row_56 : decode cX8_row 56 = .ok (.iconst 1, 1) := by decide +kernel
theorem dX8_row_57 : decode cX8_row 57 = .ok (.iadd, 1) := by decide +kernel
theorem dX8_row_58 : decode cX8_row 58 = .ok (.putfield 83, 3) := by decide +kernel
theorem dX8_row_61 : decode cX8_row 61 = .ok (.iinc 2 5, 3) := by decide +kernel
theorem dX8_row_64 : decode cX8_row 64 = .ok (.goto (-38), 3) := by decide +kernel
theorem dX8_row_67 : decode cX8_row 67 = .ok (.aload_n 0, 1) := by decide +kernel
theorem dX8_row_68 : decode cX8_row 68 = .ok (.getfield 10, 3) := by decide +kernel
theorem dX8_row_71 : decode cX8_row 71 = .ok (.iconst 0, 1) := by decide +kernel
theorem dX8_row_72 : decode cX8_row 72 = .ok (.putfield 170, 3) := by decide +kernel
theorem dX8_row_75 : decode cX8_row 75 = .ok (.aload_n 0, 1) := by decide +kernel
theorem dX8_row_76 : decode cX8_row 76 = .ok (.iload_n 1, 1) := by decide +kernel
theorem dX8_row_77 : decode cX8_row 77 = .ok (.invokevirtual 116, 3) := by decide +kernel
theorem dX8_row_80 : decode cX8_row 80 = .ok (.ireturn, 1) := by decide +kernel
theorem dX8_seen_0 : decode cX8_seen 0 = .ok (.iload_n 1, 1) := by decide +kernel
theorem dX8_seen_1 : decode cX8_seen 1 = .ok (.invokestatic 122, 3) := by decide +kernel
theorem dX8_seen_4 : decode cX8_seen 4 = .ok (.ifCond .eq 10, 3) := by decide +kernel
theorem dX8_seen_7 : decode cX8_seen 7 = .ok (.iload_n 2, 1) := by decide +kernel
theorem dX8_seen_8 : decode cX8_seen 8 = .ok (.invokestatic 95, 3) := by decide +kernel
theorem dX8_seen_11 : decode cX8_seen 11 = .ok (.ifCond .ne 9, 3) := by decide +kernel
theorem dX8_seen_14 : decode cX8_seen 14 = .ok (.aload_n 0, 1) := by decide +kernel
theorem dX8_seen_15 : decode cX8_seen 15 = .ok (.iconst (-1), 1) := by decide +kernel
theorem dX8_seen_16 : decode cX8_seen 16 = .ok (.invokevirtual 102, 3) := by decide +kernel
theorem dX8_seen_19 : decode cX8_seen 19 = .ok (.ireturn, 1) := by decide +kernel
theorem dX8_seen_20 : decode cX8_seen 20 = .ok (.aload_n 0, 1) := by decide +kernel
theorem dX8_seen_21 : decode cX8_seen 21 = .ok (.getfield 26, 3) := by decide +kernel
theorem dX8_seen_24 : decode cX8_seen 24 = .ok (.getfield 243, 3) := by decide +kernel
theorem dX8_seen_27 : decode cX8_seen 27 = .ok (.bipush 6, 2) := by decide +kernel
theorem dX8_seen_29 : decode cX8_seen 29 = .ok (.if_icmp .lt 10, 3) := by decide +kernel
theorem dX8_seen_32 : decode cX8_seen 32 = .ok (.aload_n 0, 1) := by decide +kernel
theorem dX8_seen_33 : decode cX8_seen 33 = .ok (.bipush (-5), 2) := by decide +kernel
theorem dX8_seen_35 : decode cX8_seen 35 = .ok (.invokevirtual 102, 3) := by decide +kernel
theorem dX8_seen_38 : decode cX8_seen 38 = .ok (.ireturn, 1) := by decide +kernel
theorem dX8_seen_39 : decode cX8_seen 39 = .ok (.aload_n 0, 1) := by decide +kernel
theorem dX8_seen_40 : decode cX8_seen 40 = .ok (.aload_n 0, 1) := by decide +kernel
theorem dX8_seen_41 : decode cX8_seen 41 = .ok (.getfield 26, 3) := by decide +kernel
theorem dX8_seen_44 : decode cX8_seen 44 = .ok (.iload_n 1, 1) := by decide +kernel
theorem dX8_seen_45 : decode cX8_seen 45 = .ok (.iload_n 2, 1) := by decide +kernel
theorem dX8_seen_46 : decode cX8_seen 46 = .ok (.invokevirtual 246, 3) := by decide +kernel
theorem dX8_seen_49 : decode cX8_seen 49 = .ok (.invokevirtual 116, 3) := by decide +kernel
theorem dX8_seen_52 : decode cX8_seen 52 = .ok (.ireturn, 1) := by decide +kernel
theorem dX8_status_0 : decode cX8_status 0 = .ok (.aload_n 0, 1) := by decide +kernel
theorem dX8_status_1 : decode cX8_status 1 = .ok (.getfield 79, 3) := by decide +kernel
theorem dX8_status_4 : decode cX8_status 4 = .ok (.ireturn, 1) := by decide +kernel
theorem dX8_stopped_0 : decode cX8_stopped 0 = .ok (.aload_n 0, 1) := by decide +kernel
theorem dX8_stopped_1 : decode cX8_stopped 1 = .ok (.getfield 86, 3) := by decide +kernel
theorem dX8_stopped_4 : decode cX8_stopped 4 = .ok (.ireturn, 1) := by decide +kernel
theorem dX8_strength_0 : decode cX8_strength 0 = .ok (.iload_n 2, 1) := by decide +kernel
theorem dX8_strength_1 : decode cX8_strength 1 = .ok (.invokestatic 122, 3) := by decide +kernel
theorem dX8_strength_4 : decode cX8_strength 4 = .ok (.ifCond .eq 13, 3) := by decide +kernel
theorem dX8_strength_7 : decode cX8_strength 7 = .ok (.iload_n 3, 1) := by decide +kernel
theorem dX8_strength_8 : decode cX8_strength 8 = .ok (.ifCond .lt 9, 3) := by decide +kernel
theorem dX8_strength_11 : decode cX8_strength 11 = .ok (.iload_n 3, 1) := by decide +kernel
theorem dX8_strength_12 : decode cX8_strength 12 = .ok (.bipush 9, 2) := by decide +kernel
theorem dX8_strength_14 : decode cX8_strength 14 = .ok (.if_icmp .le 9, 3) := by decide +kernel
theorem dX8_strength_17 : decode cX8_strength 17 = .ok (.aload_n 0, 1) := by decide +kernel
theorem dX8_strength_18 : decode cX8_strength 18 = .ok (.iconst (-1), 1) := by decide +kernel
theorem dX8_strength_19 : decode cX8_strength 19 = .ok (.invokevirtual 102, 3) := by decide +kernel
theorem dX8_strength_22 : decode cX8_strength 22 = .ok (.ireturn, 1) := by decide +kernel
theorem dX8_strength_23 : decode cX8_strength 23 = .ok (.aload_n 0, 1) := by decide +kernel
theorem dX8_strength_24 : decode cX8_strength 24 = .ok (.getfield 26, 3) := by decide +kernel
theorem dX8_strength_27 : decode cX8_strength 27 = .ok (.iload_n 1, 1) := by decide +kernel
theorem dX8_strength_28 : decode cX8_strength 28 = .ok (.invokevirtual 99, 3) := by decide +kernel
theorem dX8_strength_31 : decode cX8_strength 31 = .ok (.ifCond .ne 10, 3) := by decide +kernel
theorem dX8_strength_34 : decode cX8_strength 34 = .ok (.aload_n 0, 1) := by decide +kernel
theorem dX8_strength_35 : decode cX8_strength 35 = .ok (.bipush (-2), 2) := by decide +kernel
theorem dX8_strength_37 : decode cX8_strength 37 = .ok (.invokevirtual 102, 3) := by decide +kernel
theorem dX8_strength_40 : decode cX8_strength 40 = .ok (.ireturn, 1) := by decide +kernel
theorem dX8_strength_41 : decode cX8_strength 41 = .ok (.iload_n 1, 1) := by decide +kernel
theorem dX8_strength_42 : decode cX8_strength 42 = .ok (.iconst 4, 1) := by decide +kernel
theorem dX8_strength_43 : decode cX8_strength 43 = .ok (.imul, 1) := by decide +kernel
theorem dX8_strength_44 : decode cX8_strength 44 = .ok (.iload_n 2, 1) := by decide +kernel
theorem dX8_strength_45 : decode cX8_strength 45 = .ok (.iadd, 1) := by decide +kernel
theorem dX8_strength_46 : decode cX8_strength 46 = .ok (.istore 4, 2) := by decide +kernel
theorem dX8_strength_48 : decode cX8_strength 48 = .ok (.aload_n 0, 1) := by decide +kernel
theorem dX8_strength_49 : decode cX8_strength 49 = .ok (.getfield 26, 3) := by decide +kernel
theorem dX8_strength_52 : decode cX8_strength 52 = .ok (.getfield 125, 3) := by decide +kernel
theorem dX8_strength_55 : decode cX8_strength 55 = .ok (.iload 4, 2) := by decide +kernel
theorem dX8_strength_57 : decode cX8_strength 57 = .ok (.iaload, 1) := by decide +kernel
theorem dX8_strength_58 : decode cX8_strength 58 = .ok (.istore 5, 2) := by decide +kernel
theorem dX8_strength_60 : decode cX8_strength 60 = .ok (.aload_n 0, 1) := by decide +kernel
theorem dX8_strength_61 : decode cX8_strength 61 = .ok (.getfield 26, 3) := by decide +kernel
theorem dX8_strength_64 : decode cX8_strength 64 = .ok (.getfield 125, 3) := by decide +kernel
theorem dX8_strength_67 : decode cX8_strength 67 = .ok (.iload 4, 2) := by decide +kernel
theorem dX8_strength_69 : decode cX8_strength 69 = .ok (.iload_n 3, 1) := by decide +kernel
theorem dX8_strength_70 : decode cX8_strength 70 = .ok (.iastore, 1) := by decide +kernel
theorem dX8_strength_71 : decode cX8_strength 71 = .ok (.aload_n 0, 1) := by decide +kernel
theorem dX8_strength_72 : decode cX8_strength 72 = .ok (.iload 5, 2) := by decide +kernel
theorem dX8_strength_74 : decode cX8_strength 74 = .ok (.invokevirtual 116, 3) := by decide +kernel
theorem dX8_strength_77 : decode cX8_strength 77 = .ok (.ireturn, 1) := by decide +kernel
theorem dX8_take_0 : decode cX8_take 0 = .ok (.aload_n 0, 1) := by decide +kernel
theorem dX8_take_1 : decode cX8_take 1 = .ok (.aload_n 0, 1) := by decide +kernel
theorem dX8_take_2 : decode cX8_take 2 = .ok (.getfield 35, 3) := by decide +kernel
theorem dX8_take_5 : decode cX8_take 5 = .ok (.iconst 2, 1) := by decide +kernel
theorem dX8_take_6 : decode cX8_take 6 = .ok (.iload_n 1, 1) := by decide +kernel
theorem dX8_take_7 : decode cX8_take 7 = .ok (.aload_n 0, 1) := by decide +kernel
theorem dX8_take_8 : decode cX8_take 8 = .ok (.getfield 61, 3) := by decide +kernel
theorem dX8_take_11 : decode cX8_take 11 = .ok (.invokevirtual 222, 3) := by decide +kernel
theorem dX8_take_14 : decode cX8_take 14 = .ok (.invokevirtual 226, 3) := by decide +kernel
theorem dX8_take_17 : decode cX8_take 17 = .ok (.ireturn, 1) := by decide +kernel
theorem dX8_terms_0 : decode cX8_terms 0 = .ok (.iload_n 1, 1) := by decide +kernel
theorem dX8_terms_1 : decode cX8_terms 1 = .ok (.ifCond .ne 9, 3) := by decide +kernel
theorem dX8_terms_4 : decode cX8_terms 4 = .ok (.sipush 999, 3) := by decide +kernel
theorem dX8_terms_7 : decode cX8_terms 7 = .ok (.goto 24, 3) := by decide +kernel
theorem dX8_terms_10 : decode cX8_terms 10 = .ok (.iload_n 1, 1) := by decide +kernel
theorem dX8_terms_11 : decode cX8_terms 11 = .ok (.iconst 1, 1) := by decide +kernel
theorem dX8_terms_12 : decode cX8_terms 12 = .ok (.if_icmp .ne 8, 3) := by decide +kernel
theorem dX8_terms_15 : decode cX8_terms 15 = .ok (.bipush 10, 2) := by decide +kernel
theorem dX8_terms_17 : decode cX8_terms 17 = .ok (.goto 14, 3) := by decide +kernel
theorem dX8_terms_20 : decode cX8_terms 20 = .ok (.iload_n 1, 1) := by decide +kernel
theorem dX8_terms_21 : decode cX8_terms 21 = .ok (.iconst 2, 1) := by decide +kernel
theorem dX8_terms_22 : decode cX8_terms 22 = .ok (.if_icmp .ne 8, 3) := by decide +kernel
theorem dX8_terms_25 : decode cX8_terms 25 = .ok (.bipush 9, 2) := by decide +kernel
theorem dX8_terms_27 : decode cX8_terms 27 = .ok (.goto 4, 3) := by decide +kernel
theorem dX8_terms_30 : decode cX8_terms 30 = .ok (.iconst (-1), 1) := by decide +kernel
theorem dX8_terms_31 : decode cX8_terms 31 = .ok (.istore_n 3, 1) := by decide +kernel
theorem dX8_terms_32 : decode cX8_terms 32 = .ok (.iload_n 2, 1) := by decide +kernel
theorem dX8_terms_33 : decode cX8_terms 33 = .ok (.ifCond .lt 8, 3) := by decide +kernel
theorem dX8_terms_36 : decode cX8_terms 36 = .ok (.iload_n 2, 1) := by decide +kernel
theorem dX8_terms_37 : decode cX8_terms 37 = .ok (.iload_n 3, 1) := by decide +kernel
theorem dX8_terms_38 : decode cX8_terms 38 = .ok (.if_icmp .le 9, 3) := by decide +kernel
theorem dX8_terms_41 : decode cX8_terms 41 = .ok (.aload_n 0, 1) := by decide +kernel
theorem dX8_terms_42 : decode cX8_terms 42 = .ok (.iconst (-1), 1) := by decide +kernel
theorem dX8_terms_43 : decode cX8_terms 43 = .ok (.invokevirtual 102, 3) := by decide +kernel
theorem dX8_terms_46 : decode cX8_terms 46 = .ok (.ireturn, 1) := by decide +kernel
theorem dX8_terms_47 : decode cX8_terms 47 = .ok (.aload_n 0, 1) := by decide +kernel
theorem dX8_terms_48 : decode cX8_terms 48 = .ok (.getfield 26, 3) := by decide +kernel
theorem dX8_terms_51 : decode cX8_terms 51 = .ok (.iload_n 1, 1) := by decide +kernel
theorem dX8_terms_52 : decode cX8_terms 52 = .ok (.invokevirtual 156, 3) := by decide +kernel
theorem dX8_terms_55 : decode cX8_terms 55 = .ok (.istore 4, 2) := by decide +kernel
theorem dX8_terms_57 : decode cX8_terms 57 = .ok (.aload_n 0, 1) := by decide +kernel
theorem dX8_terms_58 : decode cX8_terms 58 = .ok (.getfield 26, 3) := by decide +kernel
theorem dX8_terms_61 : decode cX8_terms 61 = .ok (.iload_n 1, 1) := by decide +kernel
theorem dX8_terms_62 : decode cX8_terms 62 = .ok (.iload_n 2, 1) := by decide +kernel
theorem dX8_terms_63 : decode cX8_terms 63 = .ok (.invokevirtual 159, 3) := by decide +kernel
theorem dX8_terms_66 : decode cX8_terms 66 = .ok (.aload_n 0, 1) := by decide +kernel
theorem dX8_terms_67 : decode cX8_terms 67 = .ok (.getfield 61, 3) := by decide +kernel
theorem dX8_terms_70 : decode cX8_terms 70 = .ok (.invokevirtual 109, 3) := by decide +kernel
theorem dX8_terms_73 : decode cX8_terms 73 = .ok (.aload_n 0, 1) := by decide +kernel
theorem dX8_terms_74 : decode cX8_terms 74 = .ok (.iload 4, 2) := by decide +kernel
theorem dX8_terms_76 : decode cX8_terms 76 = .ok (.invokevirtual 116, 3) := by decide +kernel
theorem dX8_terms_79 : decode cX8_terms 79 = .ok (.ireturn, 1) := by decide +kernel
theorem dX8_undo_0 : decode cX8_undo 0 = .ok (.aload_n 0, 1) := by decide +kernel
theorem dX8_undo_1 : decode cX8_undo 1 = .ok (.getfield 61, 3) := by decide +kernel
theorem dX8_undo_4 : decode cX8_undo 4 = .ok (.getfield 229, 3) := by decide +kernel
theorem dX8_undo_7 : decode cX8_undo 7 = .ok (.ifCond .ne 10, 3) := by decide +kernel
theorem dX8_undo_10 : decode cX8_undo 10 = .ok (.aload_n 0, 1) := by decide +kernel
theorem dX8_undo_11 : decode cX8_undo 11 = .ok (.bipush (-3), 2) := by decide +kernel
theorem dX8_undo_13 : decode cX8_undo 13 = .ok (.invokevirtual 102, 3) := by decide +kernel
theorem dX8_undo_16 : decode cX8_undo 16 = .ok (.ireturn, 1) := by decide +kernel
theorem dX8_undo_17 : decode cX8_undo 17 = .ok (.aload_n 0, 1) := by decide +kernel
theorem dX8_undo_18 : decode cX8_undo 18 = .ok (.aload_n 0, 1) := by decide +kernel
theorem dX8_undo_19 : decode cX8_undo 19 = .ok (.getfield 61, 3) := by decide +kernel
theorem dX8_undo_22 : decode cX8_undo 22 = .ok (.aload_n 0, 1) := by decide +kernel
theorem dX8_undo_23 : decode cX8_undo 23 = .ok (.getfield 26, 3) := by decide +kernel
theorem dX8_undo_26 : decode cX8_undo 26 = .ok (.getfield 140, 3) := by decide +kernel
theorem dX8_undo_29 : decode cX8_undo 29 = .ok (.invokevirtual 230, 3) := by decide +kernel
theorem dX8_undo_32 : decode cX8_undo 32 = .ok (.invokevirtual 116, 3) := by decide +kernel
theorem dX8_undo_35 : decode cX8_undo 35 = .ok (.ireturn, 1) := by decide +kernel
theorem dX9_back_0 : decode cX9_back 0 = .ok (.aload_n 0, 1) := by decide +kernel
theorem dX9_back_1 : decode cX9_back 1 = .ok (.iconst 0, 1) := by decide +kernel
theorem dX9_back_2 : decode cX9_back 2 = .ok (.putfield 165, 3) := by decide +kernel
theorem dX9_back_5 : decode cX9_back 5 = .ok (.iload_n 1, 1) := by decide +kernel
theorem dX9_back_6 : decode cX9_back 6 = .ok (.i2l, 1) := by decide +kernel
theorem dX9_back_7 : decode cX9_back 7 = .ok (.lconst 0, 1) := by decide +kernel
theorem dX9_back_8 : decode cX9_back 8 = .ok (.lconst 1, 1) := by decide +kernel
theorem dX9_back_9 : decode cX9_back 9 = .ok (.invokestatic 185, 3) := by decide +kernel
theorem dX9_back_12 : decode cX9_back 12 = .ok (.ifCond .ne 9, 3) := by decide +kernel
theorem dX9_back_15 : decode cX9_back 15 = .ok (.aload_n 0, 1) := by decide +kernel
theorem dX9_back_16 : decode cX9_back 16 = .ok (.iconst (-1), 1) := by decide +kernel
theorem dX9_back_17 : decode cX9_back 17 = .ok (.invokevirtual 174, 3) := by decide +kernel
theorem dX9_back_20 : decode cX9_back 20 = .ok (.ireturn, 1) := by decide +kernel
theorem dX9_back_21 : decode cX9_back 21 = .ok (.aload_n 0, 1) := by decide +kernel
theorem dX9_back_22 : decode cX9_back 22 = .ok (.getfield 19, 3) := by decide +kernel
theorem dX9_back_25 : decode cX9_back 25 = .ok (.iload_n 1, 1) := by decide +kernel
theorem dX9_back_26 : decode cX9_back 26 = .ok (.baload, 1) := by decide +kernel
theorem dX9_back_27 : decode cX9_back 27 = .ok (.ifCond .ne 10, 3) := by decide +kernel
theorem dX9_back_30 : decode cX9_back 30 = .ok (.aload_n 0, 1) := by decide +kernel
theorem dX9_back_31 : decode cX9_back 31 = .ok (.bipush (-2), 2) := by decide +kernel
theorem dX9_back_33 : decode cX9_back 33 = .ok (.invokevirtual 174, 3) := by decide +kernel
theorem dX9_back_36 : decode cX9_back 36 = .ok (.ireturn, 1) := by decide +kernel
theorem dX9_back_37 : decode cX9_back 37 = .ok (.iconst 0, 1) := by decide +kernel
theorem dX9_back_38 : decode cX9_back 38 = .ok (.istore_n 2, 1) := by decide +kernel
theorem dX9_back_39 : decode cX9_back 39 = .ok (.iload_n 2, 1) := by decide +kernel
theorem dX9_back_40 : decode cX9_back 40 = .ok (.sipush 5484, 3) := by decide +kernel
theorem dX9_back_43 : decode cX9_back 43 = .ok (.if_icmp .ge 27, 3) := by decide +kernel
theorem dX9_back_46 : decode cX9_back 46 = .ok (.aload_n 0, 1) := by decide +kernel
theorem dX9_back_47 : decode cX9_back 47 = .ok (.getfield 13, 3) := by decide +kernel
theorem dX9_back_50 : decode cX9_back 50 = .ok (.iload_n 2, 1) := by decide +kernel
theorem dX9_back_51 : decode cX9_back 51 = .ok (.aload_n 0, 1) := by decide +kernel
theorem dX9_back_52 : decode cX9_back 52 = .ok (.getfield 16, 3) := by decide +kernel
theorem dX9_back_55 : decode cX9_back 55 = .ok (.sipush 5484, 3) := by decide +kernel
theorem dX9_back_58 : decode cX9_back 58 = .ok (.iload_n 1, 1) := by decide +kernel
theorem dX9_back_59 : decode cX9_back 59 = .ok (.imul, 1) := by decide +kernel
theorem dX9_back_60 : decode cX9_back 60 = .ok (.iload_n 2, 1) := by decide +kernel
theorem dX9_back_61 : decode cX9_back 61 = .ok (.iadd, 1) := by decide +kernel
theorem dX9_back_62 : decode cX9_back 62 = .ok (.iaload, 1) := by decide +kernel
theorem dX9_back_63 : decode cX9_back 63 = .ok (.iastore, 1) := by decide +kernel
theorem dX9_back_64 : decode cX9_back 64 = .ok (.iinc 2 1, 3) := by decide +kernel
theorem dX9_back_67 : decode cX9_back 67 = .ok (.goto (-28), 3) := by decide +kernel
theorem dX9_back_70 : decode cX9_back 70 = .ok (.aload_n 0, 1) := by decide +kernel
theorem dX9_back_71 : decode cX9_back 71 = .ok (.iconst 0, 1) := by decide +kernel
theorem dX9_back_72 : decode cX9_back 72 = .ok (.invokevirtual 189, 3) := by decide +kernel
theorem dX9_back_75 : decode cX9_back 75 = .ok (.ireturn, 1) := by decide +kernel
theorem dX9_be_0 : decode cX9_be 0 = .ok (.aload_n 0, 1) := by decide +kernel
theorem dX9_be_1 : decode cX9_be 1 = .ok (.iconst 0, 1) := by decide +kernel
theorem dX9_be_2 : decode cX9_be 2 = .ok (.putfield 165, 3) := by decide +kernel
theorem dX9_be_5 : decode cX9_be 5 = .ok (.aload_n 0, 1) := by decide +kernel
theorem dX9_be_6 : decode cX9_be 6 = .ok (.iload_n 1, 1) := by decide +kernel
theorem dX9_be_7 : decode cX9_be 7 = .ok (.invokevirtual 200, 3) := by decide +kernel
theorem dX9_be_10 : decode cX9_be 10 = .ok (.ifCond .eq 42, 3) := by decide +kernel
theorem dX9_be_13 : decode cX9_be 13 = .ok (.iload_n 2, 1) := by decide +kernel
theorem dX9_be_14 : decode cX9_be 14 = .ok (.invokestatic 213, 3) := by decide +kernel
theorem dX9_be_17 : decode cX9_be 17 = .ok (.ifCond .eq 35, 3) := by decide +kernel
theorem dX9_be_20 : decode cX9_be 20 = .ok (.iload_n 3, 1) := by decide +kernel
theorem dX9_be_21 : decode cX9_be 21 = .ok (.i2l, 1) := by decide +kernel
theorem dX9_be_22 : decode cX9_be 22 = .ok (.lconst 1, 1) := by decide +kernel
theorem dX9_be_23 : decode cX9_be 23 = .ok (.ldc2_w 219, 3) := by decide +kernel
theorem dX9_be_26 : decode cX9_be 26 = .ok (.invokestatic 185, 3) := by decide +kernel
theorem dX9_be_29 : decode cX9_be 29 = .ok (.ifCond .eq 23, 3) := by decide +kernel
theorem dX9_be_32 : decode cX9_be 32 = .ok (.iload 4, 2) := by decide +kernel
theorem dX9_be_34 : decode cX9_be 34 = .ok (.i2l, 1) := by decide +kernel
theorem dX9_be_35 : decode cX9_be 35 = .ok (.lconst 0, 1) := by decide +kernel
theorem dX9_be_36 : decode cX9_be 36 = .ok (.lconst 1, 1) := by decide +kernel
theorem dX9_be_37 : decode cX9_be 37 = .ok (.invokestatic 185, 3) := by decide +kernel
theorem dX9_be_40 : decode cX9_be 40 = .ok (.ifCond .eq 12, 3) := by decide +kernel
theorem dX9_be_43 : decode cX9_be 43 = .ok (.aload_n 0, 1) := by decide +kernel
theorem dX9_be_44 : decode cX9_be 44 = .ok (.iload_n 1, 1) := by decide +kernel
theorem dX9_be_45 : decode cX9_be 45 = .ok (.iload_n 2, 1) := by decide +kernel
theorem dX9_be_46 : decode cX9_be 46 = .ok (.invokevirtual 209, 3) := by decide +kernel
theorem dX9_be_49 : decode cX9_be 49 = .ok (.ifCond .eq 5, 3) := by decide +kernel
theorem dX9_be_52 : decode cX9_be 52 = .ok (.iconst (-1), 1) := by decide +kernel
theorem dX9_be_53 : decode cX9_be 53 = .ok (.ireturn, 1) := by decide +kernel
theorem dX9_be_54 : decode cX9_be 54 = .ok (.aload_n 0, 1) := by decide +kernel
theorem dX9_be_55 : decode cX9_be 55 = .ok (.iload_n 2, 1) := by decide +kernel
theorem dX9_be_56 : decode cX9_be 56 = .ok (.invokevirtual 470, 3) := by decide +kernel
theorem dX9_be_59 : decode cX9_be 59 = .ok (.aload_n 0, 1) := by decide +kernel
theorem dX9_be_60 : decode cX9_be 60 = .ok (.invokevirtual 473, 3) := by decide +kernel
theorem dX9_be_63 : decode cX9_be 63 = .ok (.istore 5, 2) := by decide +kernel
theorem dX9_be_65 : decode cX9_be 65 = .ok (.ldc_w 476, 3) := by decide +kernel
theorem dX9_be_68 : decode cX9_be 68 = .ok (.istore 6, 2) := by decide +kernel
theorem dX9_be_70 : decode cX9_be 70 = .ok (.iconst (-1), 1) := by decide +kernel
theorem dX9_be_71 : decode cX9_be 71 = .ok (.istore 7, 2) := by decide +kernel
theorem dX9_be_73 : decode cX9_be 73 = .ok (.iconst 0, 1) := by decide +kernel
theorem dX9_be_74 : decode cX9_be 74 = .ok (.istore 8, 2) := by decide +kernel
theorem dX9_be_76 : decode cX9_be 76 = .ok (.iload 8, 2) := by decide +kernel
theorem dX9_be_78 : decode cX9_be 78 = .ok (.iconst 1, 1) := by decide +kernel
theorem dX9_be_79 : decode cX9_be 79 = .ok (.aload_n 0, 1) := by decide +kernel
theorem dX9_be_80 : decode cX9_be 80 = .ok (.getfield 13, 3) := by decide +kernel
theorem dX9_be_83 : decode cX9_be 83 = .ok (.iconst 0, 1) := by decide +kernel
theorem dX9_be_84 : decode cX9_be 84 = .ok (.iaload, 1) := by decide +kernel
theorem dX9_be_85 : decode cX9_be 85 = .ok (.ishl, 1) := by decide +kernel
theorem dX9_be_86 : decode cX9_be 86 = .ok (.if_icmp .ge 80, 3) := by decide +kernel
theorem dX9_be_89 : decode cX9_be 89 = .ok (.iload 8, 2) := by decide +kernel
theorem dX9_be_91 : decode cX9_be 91 = .ok (.iload_n 1, 1) := by decide +kernel
theorem dX9_be_92 : decode cX9_be 92 = .ok (.invokestatic 467, 3) := by decide +kernel
theorem dX9_be_95 : decode cX9_be 95 = .ok (.ifCond .ne 31, 3) := by decide +kernel
theorem dX9_be_98 : decode cX9_be 98 = .ok (.iload 8, 2) := by decide +kernel
theorem dX9_be_100 : decode cX9_be 100 = .ok (.invokestatic 477, 3) := by decide +kernel
theorem dX9_be_103 : decode cX9_be 103 = .ok (.iload 6, 2) := by decide +kernel
theorem dX9_be_105 : decode cX9_be 105 = .ok (.if_icmp .ge 21, 3) := by decide +kernel
theorem dX9_be_108 : decode cX9_be 108 = .ok (.aload_n 0, 1) := by decide +kernel
theorem dX9_be_109 : decode cX9_be 109 = .ok (.iload_n 1, 1) := by decide +kernel
theorem dX9_be_110 : decode cX9_be 110 = .ok (.iload 5, 2) := by decide +kernel
theorem dX9_be_112 : decode cX9_be 112 = .ok (.iload 8, 2) := by decide +kernel
theorem dX9_be_114 : decode cX9_be 114 = .ok (.ixor, 1) := by decide +kernel
theorem dX9_be_115 : decode cX9_be 115 = .ok (.invokevirtual 480, 3) := by decide +kernel
theorem dX9_be_118 : decode cX9_be 118 = .ok (.iload_n 3, 1) := by decide +kernel
theorem dX9_be_119 : decode cX9_be 119 = .ok (.if_icmp .ne 7, 3) := by decide +kernel
theorem dX9_be_122 : decode cX9_be 122 = .ok (.iconst 1, 1) := by decide +kernel
theorem dX9_be_123 : decode cX9_be 123 = .ok (.goto 4, 3) := by decide +kernel
theorem dX9_be_126 : decode cX9_be 126 = .ok (.iconst 0, 1) := by decide +kernel
theorem dX9_be_127 : decode cX9_be 127 = .ok (.istore 9, 2) := by decide +kernel
theorem dX9_be_129 : decode cX9_be 129 = .ok (.iload 9, 2) := by decide +kernel
theorem dX9_be_131 : decode cX9_be 131 = .ok (.ifCond .eq 8, 3) := by decide +kernel
theorem dX9_be_134 : decode cX9_be 134 = .ok (.iload 8, 2) := by decide +kernel
theorem dX9_be_136 : decode cX9_be 136 = .ok (.goto 5, 3) := by decide +kernel
theorem dX9_be_139 : decode cX9_be 139 = .ok (.iload 7, 2) := by decide +kernel
theorem dX9_be_141 : decode cX9_be 141 = .ok (.istore 7, 2) := by decide +kernel
theorem dX9_be_143 : decode cX9_be 143 = .ok (.iload 9, 2) := by decide +kernel
theorem dX9_be_145 : decode cX9_be 145 = .ok (.ifCond .eq 11, 3) := by decide +kernel
theorem dX9_be_148 : decode cX9_be 148 = .ok (.iload 8, 2) := by decide +kernel
theorem dX9_be_150 : decode cX9_be 150 = .ok (.invokestatic 477, 3) := by decide +kernel
theorem dX9_be_153 : decode cX9_be 153 = .ok (.goto 5, 3) := by decide +kernel
theorem dX9_be_156 : decode cX9_be 156 = .ok (.iload 6, 2) := by decide +kernel
theorem dX9_be_158 : decode cX9_be 158 = .ok (.istore 6, 2) := by decide +kernel
theorem dX9_be_160 : decode cX9_be 160 = .ok (.iinc 8 1, 3) := by decide +kernel
theorem dX9_be_163 : decode cX9_be 163 = .ok (.goto (-87), 3) := by decide +kernel
theorem dX9_be_166 : decode cX9_be 166 = .ok (.iload 7, 2) := by decide +kernel
theorem dX9_be_168 : decode cX9_be 168 = .ok (.iconst (-1), 1) := by decide +kernel
theorem dX9_be_169 : decode cX9_be 169 = .ok (.if_icmp .eq 9, 3) := by decide +kernel
theorem dX9_be_172 : decode cX9_be 172 = .ok (.iload 4, 2) := by decide +kernel
theorem dX9_be_174 : decode cX9_be 174 = .ok (.iconst 1, 1) := by decide +kernel
theorem dX9_be_175 : decode cX9_be 175 = .ok (.if_icmp .ne 8, 3) := by decide +kernel
theorem dX9_be_178 : decode cX9_be 178 = .ok (.iload 7, 2) := by decide +kernel
theorem dX9_be_180 : decode cX9_be 180 = .ok (.goto 5, 3) := by decide +kernel
theorem dX9_be_183 : decode cX9_be 183 = .ok (.iload 6, 2) := by decide +kernel
theorem dX9_be_185 : decode cX9_be 185 = .ok (.ireturn, 1) := by decide +kernel
theorem dX9_beats_0 : decode cX9_beats 0 = .ok (.aload_n 0, 1) := by decide +kernel
theorem dX9_beats_1 : decode cX9_beats 1 = .ok (.iconst 0, 1) := by decide +kernel
theorem dX9_beats_2 : decode cX9_beats 2 = .ok (.putfield 165, 3) := by decide +kernel
theorem dX9_beats_5 : decode cX9_beats 5 = .ok (.iload_n 1, 1) := by decide +kernel
theorem dX9_beats_6 : decode cX9_beats 6 = .ok (.iload_n 2, 1) := by decide +kernel
theorem dX9_beats_7 : decode cX9_beats 7 = .ok (.if_icmp .eq 13, 3) := by decide +kernel
theorem dX9_beats_10 : decode cX9_beats 10 = .ok (.iload_n 3, 1) := by decide +kernel
theorem dX9_beats_11 : decode cX9_beats 11 = .ok (.i2l, 1) := by decide +kernel
theorem dX9_beats_12 : decode cX9_beats 12 = .ok (.lconst 0, 1) := by decide +kernel
theorem dX9_beats_13 : decode cX9_beats 13 = .ok (.lconst 1, 1) := by decide +kernel
theorem dX9_beats_14 : decode cX9_beats 14 = .ok (.invokestatic 185, 3) := by decide +kernel
theorem dX9_beats_17 : decode cX9_beats 17 = .ok (.ifCond .ne 9, 3) := by decide +kernel
theorem dX9_beats_20 : decode cX9_beats 20 = .ok (.aload_n 0, 1) := by decide +kernel
theorem dX9_beats_21 : decode cX9_beats 21 = .ok (.iconst (-1), 1) := by decide +kernel
theorem dX9_beats_22 : decode cX9_beats 22 = .ok (.invokevirtual 174, 3) := by decide +kernel
theorem dX9_beats_25 : decode cX9_beats 25 = .ok (.ireturn, 1) := by decide +kernel
theorem dX9_beats_26 : decode cX9_beats 26 = .ok (.aload_n 0, 1) := by decide +kernel
theorem dX9_beats_27 : decode cX9_beats 27 = .ok (.iload_n 1, 1) := by decide +kernel
theorem dX9_beats_28 : decode cX9_beats 28 = .ok (.invokevirtual 200, 3) := by decide +kernel
theorem dX9_beats_31 : decode cX9_beats 31 = .ok (.ifCond .eq 11, 3) := by decide +kernel
theorem dX9_beats_34 : decode cX9_beats 34 = .ok (.aload_n 0, 1) := by decide +kernel
theorem dX9_beats_35 : decode cX9_beats 35 = .ok (.iload_n 2, 1) := by decide +kernel
theorem dX9_beats_36 : decode cX9_beats 36 = .ok (.invokevirtual 200, 3) := by decide +kernel
theorem dX9_beats_39 : decode cX9_beats 39 = .ok (.ifCond .ne 10, 3) := by decide +kernel
theorem dX9_beats_42 : decode cX9_beats 42 = .ok (.aload_n 0, 1) := by decide +kernel
theorem dX9_beats_43 : decode cX9_beats 43 = .ok (.bipush (-2), 2) := by decide +kernel
theorem dX9_beats_45 : decode cX9_beats 45 = .ok (.invokevirtual 174, 3) := by decide +kernel
theorem dX9_beats_48 : decode cX9_beats 48 = .ok (.ireturn, 1) := by decide +kernel
theorem dX9_beats_49 : decode cX9_beats 49 = .ok (.aload_n 0, 1) := by decide +kernel
theorem dX9_beats_50 : decode cX9_beats 50 = .ok (.getfield 13, 3) := by decide +kernel
theorem dX9_beats_53 : decode cX9_beats 53 = .ok (.bipush 64, 2) := by decide +kernel
theorem dX9_beats_55 : decode cX9_beats 55 = .ok (.iload_n 1, 1) := by decide +kernel
theorem dX9_beats_56 : decode cX9_beats 56 = .ok (.iadd, 1) := by decide +kernel
theorem dX9_beats_57 : decode cX9_beats 57 = .ok (.iaload, 1) := by decide +kernel
theorem dX9_beats_58 : decode cX9_beats 58 = .ok (.iload_n 2, 1) := by decide +kernel
theorem dX9_beats_59 : decode cX9_beats 59 = .ok (.ishr, 1) := by decide +kernel
theorem dX9_beats_60 : decode cX9_beats 60 = .ok (.iconst 1, 1) := by decide +kernel
theorem dX9_beats_61 : decode cX9_beats 61 = .ok (.iand, 1) := by decide +kernel
theorem dX9_beats_62 : decode cX9_beats 62 = .ok (.istore 4, 2) := by decide +kernel
theorem dX9_beats_64 : decode cX9_beats 64 = .ok (.aload_n 0, 1) := by decide +kernel
theorem dX9_beats_65 : decode cX9_beats 65 = .ok (.getfield 13, 3) := by decide +kernel
theorem dX9_beats_68 : decode cX9_beats 68 = .ok (.bipush 64, 2) := by decide +kernel
theorem dX9_beats_70 : decode cX9_beats 70 = .ok (.iload_n 1, 1) := by decide +kernel
theorem dX9_beats_71 : decode cX9_beats 71 = .ok (.iadd, 1) := by decide +kernel
theorem dX9_beats_72 : decode cX9_beats 72 = .ok (.dup2, 1) := by decide +kernel
theorem dX9_beats_73 : decode cX9_beats 73 = .ok (.iaload, 1) := by decide +kernel
theorem dX9_beats_74 : decode cX9_beats 74 = .ok (.iload 4, 2) := by decide +kernel
theorem dX9_beats_76 : decode cX9_beats 76 = .ok (.iload_n 3, 1) := by decide +kernel
theorem dX9_beats_77 : decode cX9_beats 77 = .ok (.if_icmp .ne 7, 3) := by decide +kernel
theorem dX9_beats_80 : decode cX9_beats 80 = .ok (.iconst 0, 1) := by decide +kernel
theorem dX9_beats_81 : decode cX9_beats 81 = .ok (.goto 6, 3) := by decide +kernel
theorem dX9_beats_84 : decode cX9_beats 84 = .ok (.iconst 1, 1) := by decide +kernel
theorem dX9_beats_85 : decode cX9_beats 85 = .ok (.iload_n 2, 1) := by decide +kernel
theorem dX9_beats_86 : decode cX9_beats 86 = .ok (.ishl, 1) := by decide +kernel
theorem dX9_beats_87 : decode cX9_beats 87 = .ok (.ixor, 1) := by decide +kernel
theorem dX9_beats_88 : decode cX9_beats 88 = .ok (.iastore, 1) := by decide +kernel
theorem dX9_beats_89 : decode cX9_beats 89 = .ok (.aload_n 0, 1) := by decide +kernel
theorem dX9_beats_90 : decode cX9_beats 90 = .ok (.iload 4, 2) := by decide +kernel
theorem dX9_beats_92 : decode cX9_beats 92 = .ok (.invokevirtual 174, 3) := by decide +kernel
theorem dX9_beats_95 : decode cX9_beats 95 = .ok (.ireturn, 1) := by decide +kernel
theorem dX9_begin_0 : decode cX9_begin 0 = .ok (.aload_n 0, 1) := by decide +kernel
theorem dX9_begin_1 : decode cX9_begin 1 = .ok (.iconst 0, 1) := by decide +kernel
theorem dX9_begin_2 : decode cX9_begin 2 = .ok (.putfield 243, 3) := by decide +kernel
theorem dX9_begin_5 : decode cX9_begin 5 = .ok (.aload_n 0, 1) := by decide +kernel
theorem dX9_begin_6 : decode cX9_begin 6 = .ok (.iconst 0, 1) := by decide +kernel
theorem dX9_begin_7 : decode cX9_begin 7 = .ok (.putfield 246, 3) := by decide +kernel
theorem dX9_begin_10 : decode cX9_begin 10 = .ok (.aload_n 0, 1) := by decide +kernel
theorem dX9_begin_11 : decode cX9_begin 11 = .ok (.iconst (-1), 1) := by decide +kernel
theorem dX9_begin_12 : decode cX9_begin 12 = .ok (.putfield 38, 3) := by decide +kernel
theorem dX9_begin_15 : decode cX9_begin 15 = .ok (.aload_n 0, 1) := by decide +kernel
theorem dX9_begin_16 : decode cX9_begin 16 = .ok (.invokevirtual 250, 3) := by decide +kernel
theorem dX9_begin_19 : decode cX9_begin 19 = .ok (.return_, 1) := by decide +kernel
theorem dX9_beginText_0 : decode cX9_beginText 0 = .ok (.aload_n 0, 1) := by decide +kernel
theorem dX9_beginText_1 : decode cX9_beginText 1 = .ok (.iload_n 1, 1) := by decide +kernel
theorem dX9_beginText_2 : decode cX9_beginText 2 = .ok (.putfield 323, 3) := by decide +kernel
theorem dX9_beginText_5 : decode cX9_beginText 5 = .ok (.aload_n 0, 1) := by decide +kernel
theorem dX9_beginText_6 : decode cX9_beginText 6 = .ok (.invokevirtual 374, 3) := by decide +kernel
theorem dX9_beginText_9 : decode cX9_beginText 9 = .ok (.aload_n 0, 1) := by decide +kernel
theorem dX9_beginText_10 : decode cX9_beginText 10 = .ok (.iconst 0, 1) := by decide +kernel
theorem dX9_beginText_11 : decode cX9_beginText 11 = .ok (.putfield 377, 3) := by decide +kernel
theorem dX9_beginText_14 : decode cX9_beginText 14 = .ok (.aload_n 0, 1) := by decide +kernel
theorem dX9_beginText_15 : decode cX9_beginText 15 = .ok (.iconst 0, 1) := by decide +kernel
theorem dX9_beginText_16 : decode cX9_beginText 16 = .ok (.putfield 283, 3) := by decide +kernel
theorem dX9_beginText_19 : decode cX9_beginText 19 = .ok (.aload_n 0, 1) := by decide +kernel
theorem dX9_beginText_20 : decode cX9_beginText 20 = .ok (.iconst 0, 1) := by decide +kernel
theorem dX9_beginText_21 : decode cX9_beginText 21 = .ok (.putfield 314, 3) := by decide +kernel
theorem dX9_beginText_24 : decode cX9_beginText 24 = .ok (.return_, 1) := by decide +kernel
theorem dX9_blots_0 : decode cX9_blots 0 = .ok (.aload_n 0, 1) := by decide +kernel
theorem dX9_blots_1 : decode cX9_blots 1 = .ok (.iconst 0, 1) := by decide +kernel
theorem dX9_blots_2 : decode cX9_blots 2 = .ok (.putfield 165, 3) := by decide +kernel
theorem dX9_blots_5 : decode cX9_blots 5 = .ok (.aload_n 0, 1) := by decide +kernel
theorem dX9_blots_6 : decode cX9_blots 6 = .ok (.getfield 234, 3) := by decide +kernel
theorem dX9_blots_9 : decode cX9_blots 9 = .ok (.ireturn, 1) := by decide +kernel
theorem dX9_canBe_0 : decode cX9_canBe 0 = .ok (.aload_n 0, 1) := by decide +kernel
theorem dX9_canBe_1 : decode cX9_canBe 1 = .ok (.iconst 0, 1) := by decide +kernel
theorem dX9_canBe_2 : decode cX9_canBe 2 = .ok (.putfield 165, 3) := by decide +kernel
theorem dX9_canBe_5 : decode cX9_canBe 5 = .ok (.aload_n 0, 1) := by decide +kernel
theorem dX9_canBe_6 : decode cX9_canBe 6 = .ok (.invokevirtual 483, 3) := by decide +kernel
theorem dX9_canBe_9 : decode cX9_canBe 9 = .ok (.ireturn, 1) := by decide +kernel
theorem dX9_centuries_0 : decode cX9_centuries 0 = .ok (.aload_n 0, 1) := by decide +kernel
theorem dX9_centuries_1 : decode cX9_centuries 1 = .ok (.iconst 0, 1) := by decide +kernel
theorem dX9_centuries_2 : decode cX9_centuries 2 = .ok (.putfield 165, 3) := by decide +kernel
theorem dX9_centuries_5 : decode cX9_centuries 5 = .ok (.iload_n 1, 1) := by decide +kernel
theorem dX9_centuries_6 : decode cX9_centuries 6 = .ok (.i2l, 1) := by decide +kernel
theorem dX9_centuries_7 : decode cX9_centuries 7 = .ok (.lconst 0, 1) := by decide +kernel
theorem dX9_centuries_8 : decode cX9_centuries 8 = .ok (.ldc2_w 275, 3) := by decide +kernel
theorem dX9_centuries_11 : decode cX9_centuries 11 = .ok (.invokestatic 185, 3) := by decide +kernel
theorem dX9_centuries_14 : decode cX9_centuries 14 = .ok (.ifCond .eq 15, 3) := by decide +kernel
theorem dX9_centuries_17 : decode cX9_centuries 17 = .ok (.iload_n 2, 1) := by decide +kernel
theorem dX9_centuries_18 : decode cX9_centuries 18 = .ok (.i2l, 1) := by decide +kernel
theorem dX9_centuries_19 : decode cX9_centuries 19 = .ok (.lconst 1, 1) := by decide +kernel
theorem dX9_centuries_20 : decode cX9_centuries 20 = .ok (.ldc2_w 507, 3) := by decide +kernel
theorem dX9_centuries_23 : decode cX9_centuries 23 = .ok (.invokestatic 185, 3) := by decide +kernel
theorem dX9_centuries_26 : decode cX9_centuries 26 = .ok (.ifCond .ne 9, 3) := by decide +kernel
theorem dX9_centuries_29 : decode cX9_centuries 29 = .ok (.aload_n 0, 1) := by decide +kernel
theorem dX9_centuries_30 : decode cX9_centuries 30 = .ok (.iconst (-1), 1) := by decide +kernel
theorem dX9_centuries_31 : decode cX9_centuries 31 = .ok (.invokevirtual 174, 3) := by decide +kernel
theorem dX9_centuries_34 : decode cX9_centuries 34 = .ok (.ireturn, 1) := by decide +kernel
theorem dX9_centuries_35 : decode cX9_centuries 35 = .ok (.aload_n 0, 1) := by decide +kernel
theorem dX9_centuries_36 : decode cX9_centuries 36 = .ok (.getfield 13, 3) := by decide +kernel
theorem dX9_centuries_39 : decode cX9_centuries 39 = .ok (.iconst 0, 1) := by decide +kernel
theorem dX9_centuries_40 : decode cX9_centuries 40 = .ok (.iaload, 1) := by decide +kernel
theorem dX9_centuries_41 : decode cX9_centuries 41 = .ok (.ifCond .ne 10, 3) := by decide +kernel
theorem dX9_centuries_44 : decode cX9_centuries 44 = .ok (.aload_n 0, 1) := by decide +kernel
theorem dX9_centuries_45 : decode cX9_centuries 45 = .ok (.bipush (-3), 2) := by decide +kernel
theorem dX9_centuries_47 : decode cX9_centuries 47 = .ok (.invokevirtual 174, 3) := by decide +kernel
theorem dX9_centuries_50 : decode cX9_centuries 50 = .ok (.ireturn, 1) := by decide +kernel
theorem dX9_centuries_51 : decode cX9_centuries 51 = .ok (.aload_n 0, 1) := by decide +kernel
theorem dX9_centuries_52 : decode cX9_centuries 52 = .ok (.bipush 16, 2) := by decide +kernel
theorem dX9_centuries_54 : decode cX9_centuries 54 = .ok (.invokevirtual 178, 3) := by decide +kernel
theorem dX9_centuries_57 : decode cX9_centuries 57 = .ok (.aload_n 0, 1) := by decide +kernel
theorem dX9_centuries_58 : decode cX9_centuries 58 = .ok (.iload_n 1, 1) := by decide +kernel
theorem dX9_centuries_59 : decode cX9_centuries 59 = .ok (.i2l, 1) := by decide +kernel
theorem dX9_centuries_60 : decode cX9_centuries 60 = .ok (.putfield 547, 3) := by decide +kernel
theorem dX9_centuries_63 : decode cX9_centuries 63 = .ok (.iconst 0, 1) := by decide +kernel
theorem dX9_centuries_64 : decode cX9_centuries 64 = .ok (.istore_n 3, 1) := by decide +kernel
theorem dX9_centuries_65 : decode cX9_centuries 65 = .ok (.iconst 0, 1) := by decide +kernel
theorem dX9_centuries_66 : decode cX9_centuries 66 = .ok (.istore 4, 2) := by decide +kernel
theorem dX9_centuries_68 : decode cX9_centuries 68 = .ok (.iload 4, 2) := by decide +kernel
theorem dX9_centuries_70 : decode cX9_centuries 70 = .ok (.iload_n 2, 1) := by decide +kernel
theorem dX9_centuries_71 : decode cX9_centuries 71 = .ok (.if_icmp .ge 121, 3) := by decide +kernel
theorem dX9_centuries_74 : decode cX9_centuries 74 = .ok (.aload_n 0, 1) := by decide +kernel
theorem dX9_centuries_75 : decode cX9_centuries 75 = .ok (.getfield 13, 3) := by decide +kernel
theorem dX9_centuries_78 : decode cX9_centuries 78 = .ok (.iconst 4, 1) := by decide +kernel
theorem dX9_centuries_79 : decode cX9_centuries 79 = .ok (.iaload, 1) := by decide +kernel
theorem dX9_centuries_80 : decode cX9_centuries 80 = .ok (.sipush 999, 3) := by decide +kernel
theorem dX9_centuries_83 : decode cX9_centuries 83 = .ok (.if_icmp .ge 109, 3) := by decide +kernel
theorem dX9_centuries_86 : decode cX9_centuries 86 = .ok (.aload_n 0, 1) := by decide +kernel
theorem dX9_centuries_87 : decode cX9_centuries 87 = .ok (.aload_n 0, 1) := by decide +kernel
theorem dX9_centuries_88 : decode cX9_centuries 88 = .ok (.getfield 13, 3) := by decide +kernel
theorem dX9_centuries_91 : decode cX9_centuries 91 = .ok (.iconst 0, 1) := by decide +kernel
theorem dX9_centuries_92 : decode cX9_centuries 92 = .ok (.iaload, 1) := by decide +kernel
theorem dX9_centuries_93 : decode cX9_centuries 93 = .ok (.invokevirtual 556, 3) := by decide +kernel
theorem dX9_centuries_96 : decode cX9_centuries 96 = .ok (.istore 5, 2) := by decide +kernel
theorem dX9_centuries_98 : decode cX9_centuries 98 = .ok (.aload_n 0, 1) := by decide +kernel
theorem dX9_centuries_99 : decode cX9_centuries 99 = .ok (.iconst 4, 1) := by decide +kernel
theorem dX9_centuries_100 : decode cX9_centuries 100 = .ok (.invokevirtual 556, 3) := by decide +kernel
theorem dX9_centuries_103 : decode cX9_centuries 103 = .ok (.istore 6, 2) := by decide +kernel
theorem dX9_centuries_105 : decode cX9_centuries 105 = .ok (.aload_n 0, 1) := by decide +kernel
theorem dX9_centuries_106 : decode cX9_centuries 106 = .ok (.iconst 4, 1) := by decide +kernel
theorem dX9_centuries_107 : decode cX9_centuries 107 = .ok (.invokevirtual 556, 3) := by decide +kernel
theorem dX9_centuries_110 : decode cX9_centuries 110 = .ok (.istore 7, 2) := by decide +kernel
theorem dX9_centuries_112 : decode cX9_centuries 112 = .ok (.iload 7, 2) := by decide +kernel
theorem dX9_centuries_114 : decode cX9_centuries 114 = .ok (.iconst 2, 1) := by decide +kernel
theorem dX9_centuries_115 : decode cX9_centuries 115 = .ok (.if_icmp .ge 25, 3) := by decide +kernel
theorem dX9_centuries_118 : decode cX9_centuries 118 = .ok (.aload_n 0, 1) := by decide +kernel
theorem dX9_centuries_119 : decode cX9_centuries 119 = .ok (.getfield 13, 3) := by decide +kernel
theorem dX9_centuries_122 : decode cX9_centuries 122 = .ok (.bipush 22, 2) := by decide +kernel
theorem dX9_centuries_124 : decode cX9_centuries 124 = .ok (.iload 5, 2) := by decide +kernel
theorem dX9_centuries_126 : decode cX9_centuries 126 = .ok (.iadd, 1) := by decide +kernel
theorem dX9_centuries_127 : decode cX9_centuries 127 = .ok (.iconst 1, 1) := by decide +kernel
theorem dX9_centuries_128 : decode cX9_centuries 128 = .ok (.aload_n 0, 1) := by decide +kernel
theorem dX9_centuries_129 : decode cX9_centuries 129 = .ok (.getfield 13, 3) := by decide +kernel
theorem dX9_centuries_132 : decode cX9_centuries 132 = .ok (.bipush 22, 2) := by decide +kernel
theorem dX9_centuries_134 : decode cX9_centuries 134 = .ok (.iload 5, 2) := by decide +kernel
theorem dX9_centuries_136 : decode cX9_centuries 136 = .ok (.iadd, 1) := by decide +kernel
theorem dX9_centuries_137 : decode cX9_centuries 137 = .ok (.iaload, 1) := by decide +kernel
theorem dX9_centuries_138 : decode cX9_centuries 138 = .ok (.isub, 1) := by decide +kernel
theorem dX9_centuries_139 : decode cX9_centuries 139 = .ok (.iastore, 1) := by decide +kernel
theorem dX9_centuries_140 : decode cX9_centuries 140 = .ok (.iload 7, 2) := by decide +kernel
theorem dX9_centuries_142 : decode cX9_centuries 142 = .ok (.iconst 2, 1) := by decide +kernel
theorem dX9_centuries_143 : decode cX9_centuries 143 = .ok (.if_icmp .ne 26, 3) := by decide +kernel
theorem dX9_centuries_146 : decode cX9_centuries 146 = .ok (.aload_n 0, 1) := by decide +kernel
theorem dX9_centuries_147 : decode cX9_centuries 147 = .ok (.iload 6, 2) := by decide +kernel
theorem dX9_centuries_149 : decode cX9_centuries 149 = .ok (.invokevirtual 221, 3) := by decide +kernel
theorem dX9_centuries_152 : decode cX9_centuries 152 = .ok (.aload_n 0, 1) := by decide +kernel
theorem dX9_centuries_153 : decode cX9_centuries 153 = .ok (.getfield 224, 3) := by decide +kernel
theorem dX9_centuries_156 : decode cX9_centuries 156 = .ok (.ifCond .le 13, 3) := by decide +kernel
theorem dX9_centuries_159 : decode cX9_centuries 159 = .ok (.aload_n 0, 1) := by decide +kernel
theorem dX9_centuries_160 : decode cX9_centuries 160 = .ok (.iload 6, 2) := by decide +kernel
theorem dX9_centuries_162 : decode cX9_centuries 162 = .ok (.invokevirtual 443, 3) := by decide +kernel
theorem dX9_centuries_165 : decode cX9_centuries 165 = .ok (.pop, 1) := by decide +kernel
theorem dX9_centuries_166 : decode cX9_centuries 166 = .ok (.iinc 3 1, 3) := by decide +kernel
theorem dX9_centuries_169 : decode cX9_centuries 169 = .ok (.iload 7, 2) := by decide +kernel
theorem dX9_centuries_171 : decode cX9_centuries 171 = .ok (.iconst 3, 1) := by decide +kernel
theorem dX9_centuries_172 : decode cX9_centuries 172 = .ok (.if_icmp .ne 9, 3) := by decide +kernel
theorem dX9_centuries_175 : decode cX9_centuries 175 = .ok (.aload_n 0, 1) := by decide +kernel
theorem dX9_centuries_176 : decode cX9_centuries 176 = .ok (.iload 5, 2) := by decide +kernel
theorem dX9_centuries_178 : decode cX9_centuries 178 = .ok (.invokevirtual 452, 3) := by decide +kernel
theorem dX9_centuries_181 : decode cX9_centuries 181 = .ok (.aload_n 0, 1) := by decide +kernel
theorem dX9_centuries_182 : decode cX9_centuries 182 = .ok (.invokevirtual 461, 3) := by decide +kernel
theorem dX9_centuries_185 : decode cX9_centuries 185 = .ok (.pop, 1) := by decide +kernel
theorem dX9_centuries_186 : decode cX9_centuries 186 = .ok (.iinc 4 1, 3) := by decide +kernel
theorem dX9_centuries_189 : decode cX9_centuries 189 = .ok (.goto (-121), 3) := by decide +kernel
theorem dX9_centuries_192 : decode cX9_centuries 192 = .ok (.iconst 0, 1) := by decide +kernel
theorem dX9_centuries_193 : decode cX9_centuries 193 = .ok (.istore 4, 2) := by decide +kernel
theorem dX9_centuries_195 : decode cX9_centuries 195 = .ok (.iload 4, 2) := by decide +kernel
theorem dX9_centuries_197 : decode cX9_centuries 197 = .ok (.bipush 25, 2) := by decide +kernel
theorem dX9_centuries_199 : decode cX9_centuries 199 = .ok (.if_icmp .ge 25, 3) := by decide +kernel
theorem dX9_centuries_202 : decode cX9_centuries 202 = .ok (.aload_n 0, 1) := by decide +kernel
theorem dX9_centuries_203 : decode cX9_centuries 203 = .ok (.getfield 159, 3) := by decide +kernel
theorem dX9_centuries_206 : decode cX9_centuries 206 = .ok (.iload 4, 2) := by decide +kernel
theorem dX9_centuries_208 : decode cX9_centuries 208 = .ok (.aload_n 0, 1) := by decide +kernel
theorem dX9_centuries_209 : decode cX9_centuries 209 = .ok (.getfield 13, 3) := by decide +kernel
theorem dX9_centuries_212 : decode cX9_centuries 212 = .ok (.iconst 4, 1) := by decide +kernel
theorem dX9_centuries_213 : decode cX9_centuries 213 = .ok (.iload 4, 2) := by decide +kernel
theorem dX9_centuries_215 : decode cX9_centuries 215 = .ok (.iadd, 1) := by decide +kernel
theorem dX9_centuries_216 : decode cX9_centuries 216 = .ok (.iaload, 1) := by decide +kernel
theorem dX9_centuries_217 : decode cX9_centuries 217 = .ok (.iastore, 1) := by decide +kernel
theorem dX9_centuries_218 : decode cX9_centuries 218 = .ok (.iinc 4 1, 3) := by decide +kernel
theorem dX9_centuries_221 : decode cX9_centuries 221 = .ok (.goto (-26), 3) := by decide +kernel
theorem dX9_centuries_224 : decode cX9_centuries 224 = .ok (.aload_n 0, 1) := by decide +kernel
theorem dX9_centuries_225 : decode cX9_centuries 225 = .ok (.aload_n 0, 1) := by decide +kernel
theorem dX9_centuries_226 : decode cX9_centuries 226 = .ok (.getfield 13, 3) := by decide +kernel
theorem dX9_centuries_229 : decode cX9_centuries 229 = .ok (.iconst 0, 1) := by decide +kernel
theorem dX9_centuries_230 : decode cX9_centuries 230 = .ok (.iaload, 1) := by decide +kernel
theorem dX9_centuries_231 : decode cX9_centuries 231 = .ok (.putfield 162, 3) := by decide +kernel
theorem dX9_centuries_234 : decode cX9_centuries 234 = .ok (.aload_n 0, 1) := by decide +kernel
theorem dX9_centuries_235 : decode cX9_centuries 235 = .ok (.bipush 16, 2) := by decide +kernel
theorem dX9_centuries_237 : decode cX9_centuries 237 = .ok (.invokevirtual 182, 3) := by decide +kernel
theorem dX9_centuries_240 : decode cX9_centuries 240 = .ok (.aload_n 0, 1) := by decide +kernel
theorem dX9_centuries_241 : decode cX9_centuries 241 = .ok (.iload_n 3, 1) := by decide +kernel
theorem dX9_centuries_242 : decode cX9_centuries 242 = .ok (.invokevirtual 174, 3) := by decide +kernel
theorem dX9_centuries_245 : decode cX9_centuries 245 = .ok (.ireturn, 1) := by decide +kernel
theorem dX9_change_0 : decode cX9_change 0 = .ok (.aload_n 0, 1) := by decide +kernel
theorem dX9_change_1 : decode cX9_change 1 = .ok (.getfield 13, 3) := by decide +kernel
theorem dX9_change_4 : decode cX9_change 4 = .ok (.iload_n 1, 1) := by decide +kernel
theorem dX9_change_5 : decode cX9_change 5 = .ok (.iaload, 1) := by decide +kernel
theorem dX9_change_6 : decode cX9_change 6 = .ok (.istore_n 3, 1) := by decide +kernel
theorem dX9_change_7 : decode cX9_change 7 = .ok (.aload_n 0, 1) := by decide +kernel
theorem dX9_change_8 : decode cX9_change 8 = .ok (.getfield 13, 3) := by decide +kernel
theorem dX9_change_11 : decode cX9_change 11 = .ok (.iload_n 1, 1) := by decide +kernel
theorem dX9_change_12 : decode cX9_change 12 = .ok (.iload_n 2, 1) := by decide +kernel
theorem dX9_change_13 : decode cX9_change 13 = .ok (.iastore, 1) := by decide +kernel
theorem dX9_change_14 : decode cX9_change 14 = .ok (.aload_n 0, 1) := by decide +kernel
theorem dX9_change_15 : decode cX9_change 15 = .ok (.iconst 0, 1) := by decide +kernel
theorem dX9_change_16 : decode cX9_change 16 = .ok (.putfield 168, 3) := by decide +kernel
theorem dX9_change_19 : decode cX9_change 19 = .ok (.iload_n 3, 1) := by decide +kernel
theorem dX9_change_20 : decode cX9_change 20 = .ok (.ireturn, 1) := by decide +kernel
theorem dX9_circles_0 : decode cX9_circles 0 = .ok (.aload_n 0, 1) := by decide +kernel
theorem dX9_circles_1 : decode cX9_circles 1 = .ok (.iconst 0, 1) := by decide +kernel
theorem dX9_circles_2 : decode cX9_circles 2 = .ok (.putfield 165, 3) := by decide +kernel
theorem dX9_circles_5 : decode cX9_circles 5 = .ok (.iconst 0, 1) := by decide +kernel
theorem dX9_circles_6 : decode cX9_circles 6 = .ok (.istore_n 1, 1) := by decide +kernel
theorem dX9_circles_7 : decode cX9_circles 7 = .ok (.iconst 0, 1) := by decide +kernel
theorem dX9_circles_8 : decode cX9_circles 8 = .ok (.istore_n 2, 1) := by decide +kernel
theorem dX9_circles_9 : decode cX9_circles 9 = .ok (.iload_n 2, 1) := by decide +kernel
theorem dX9_circles_10 : decode cX9_circles 10 = .ok (.aload_n 0, 1) := by decide +kernel
theorem dX9_circles_11 : decode cX9_circles 11 = .ok (.getfield 13, 3) := by decide +kernel
theorem dX9_circles_14 : decode cX9_circles 14 = .ok (.iconst 0, 1) := by decide +kernel
theorem dX9_circles_15 : decode cX9_circles 15 = .ok (.iaload, 1) := by decide +kernel
theorem dX9_circles_16 : decode cX9_circles 16 = .ok (.if_icmp .ge 115, 3) := by decide +kernel
theorem dX9_circles_19 : decode cX9_circles 19 = .ok (.iload_n 2, 1) := by decide +kernel
theorem dX9_circles_20 : decode cX9_circles 20 = .ok (.iconst 1, 1) := by decide +kernel
theorem dX9_circles_21 : decode cX9_circles 21 = .ok (.iadd, 1) := by decide +kernel
theorem dX9_circles_22 : decode cX9_circles 22 = .ok (.istore_n 3, 1) := by decide +kernel
theorem dX9_circles_23 : decode cX9_circles 23 = .ok (.iload_n 3, 1) := by decide +kernel
theorem dX9_circles_24 : decode cX9_circles 24 = .ok (.aload_n 0, 1) := by decide +kernel
theorem dX9_circles_25 : decode cX9_circles 25 = .ok (.getfield 13, 3) := by decide +kernel
theorem dX9_circles_28 : decode cX9_circles 28 = .ok (.iconst 0, 1) := by decide +kernel
theorem dX9_circles_29 : decode cX9_circles 29 = .ok (.iaload, 1) := by decide +kernel
theorem dX9_circles_30 : decode cX9_circles 30 = .ok (.if_icmp .ge 95, 3) := by decide +kernel
theorem dX9_circles_33 : decode cX9_circles 33 = .ok (.iload_n 2, 1) := by decide +kernel
theorem dX9_circles_34 : decode cX9_circles 34 = .ok (.iconst 1, 1) := by decide +kernel
theorem dX9_circles_35 : decode cX9_circles 35 = .ok (.iadd, 1) := by decide +kernel
theorem dX9_circles_36 : decode cX9_circles 36 = .ok (.istore 4, 2) := by decide +kernel
theorem dX9_circles_38 : decode cX9_circles 38 = .ok (.iload 4, 2) := by decide +kernel
theorem dX9_circles_40 : decode cX9_circles 40 = .ok (.aload_n 0, 1) := by decide +kernel
theorem dX9_circles_41 : decode cX9_circles 41 = .ok (.getfield 13, 3) := by decide +kernel
theorem dX9_circles_44 : decode cX9_circles 44 = .ok (.iconst 0, 1) := by decide +kernel
theorem dX9_circles_45 : decode cX9_circles 45 = .ok (.iaload, 1) := by decide +kernel
theorem dX9_circles_46 : decode cX9_circles 46 = .ok (.if_icmp .ge 73, 3) := by decide +kernel
theorem dX9_circles_49 : decode cX9_circles 49 = .ok (.iload_n 1, 1) := by decide +kernel
theorem dX9_circles_50 : decode cX9_circles 50 = .ok (.iload_n 3, 1) := by decide +kernel
theorem dX9_circles_51 : decode cX9_circles 51 = .ok (.iload 4, 2) := by decide +kernel
theorem dX9_circles_53 : decode cX9_circles 53 = .ok (.if_icmp .eq 57, 3) := by decide +kernel
theorem dX9_circles_56 : decode cX9_circles 56 = .ok (.aload_n 0, 1) := by decide +kernel
theorem dX9_circles_57 : decode cX9_circles 57 = .ok (.getfield 13, 3) := by decide +kernel
theorem dX9_circles_60 : decode cX9_circles 60 = .ok (.bipush 64, 2) := by decide +kernel
theorem dX9_circles_62 : decode cX9_circles 62 = .ok (.iload_n 2, 1) := by decide +kernel
theorem dX9_circles_63 : decode cX9_circles 63 = .ok (.iadd, 1) := by decide +kernel
theorem dX9_circles_64 : decode cX9_circles 64 = .ok (.iaload, 1) := by decide +kernel
theorem dX9_circles_65 : decode cX9_circles 65 = .ok (.iload_n 3, 1) := by decide +kernel
theorem dX9_circles_66 : decode cX9_circles 66 = .ok (.invokestatic 467, 3) := by decide +kernel
theorem dX9_circles_69 : decode cX9_circles 69 = .ok (.ifCond .eq 41, 3) := by decide +kernel
theorem dX9_circles_72 : decode cX9_circles 72 = .ok (.aload_n 0, 1) := by decide +kernel
theorem dX9_circles_73 : decode cX9_circles 73 = .ok (.getfield 13, 3) := by decide +kernel
theorem dX9_circles_76 : decode cX9_circles 76 = .ok (.bipush 64, 2) := by decide +kernel
theorem dX9_circles_78 : decode cX9_circles 78 = .ok (.iload_n 3, 1) := by decide +kernel
theorem dX9_circles_79 : decode cX9_circles 79 = .ok (.iadd, 1) := by decide +kernel
theorem dX9_circles_80 : decode cX9_circles 80 = .ok (.iaload, 1) := by decide +kernel
theorem dX9_circles_81 : decode cX9_circles 81 = .ok (.iload 4, 2) := by decide +kernel
theorem dX9_circles_83 : decode cX9_circles 83 = .ok (.invokestatic 467, 3) := by decide +kernel
theorem dX9_circles_86 : decode cX9_circles 86 = .ok (.ifCond .eq 24, 3) := by decide +kernel
theorem dX9_circles_89 : decode cX9_circles 89 = .ok (.aload_n 0, 1) := by decide +kernel
theorem dX9_circles_90 : decode cX9_circles 90 = .ok (.getfield 13, 3) := by decide +kernel
theorem dX9_circles_93 : decode cX9_circles 93 = .ok (.bipush 64, 2) := by decide +kernel
theorem dX9_circles_95 : decode cX9_circles 95 = .ok (.iload 4, 2) := by decide +kernel
theorem dX9_circles_97 : decode cX9_circles 97 = .ok (.iadd, 1) := by decide +kernel
theorem dX9_circles_98 : decode cX9_circles 98 = .ok (.iaload, 1) := by decide +kernel
theorem dX9_circles_99 : decode cX9_circles 99 = .ok (.iload_n 2, 1) := by decide +kernel
theorem dX9_circles_100 : decode cX9_circles 100 = .ok (.invokestatic 467, 3) := by decide +kernel
theorem dX9_circles_103 : decode cX9_circles 103 = .ok (.ifCond .eq 7, 3) := by decide +kernel
theorem dX9_circles_106 : decode cX9_circles 106 = .ok (.iconst 1, 1) := by decide +kernel
theorem dX9_circles_107 : decode cX9_circles 107 = .ok (.goto 4, 3) := by decide +kernel
theorem dX9_circles_110 : decode cX9_circles 110 = .ok (.iconst 0, 1) := by decide +kernel
theorem dX9_circles_111 : decode cX9_circles 111 = .ok (.iadd, 1) := by decide +kernel
theorem dX9_circles_112 : decode cX9_circles 112 = .ok (.istore_n 1, 1) := by decide +kernel
theorem dX9_circles_113 : decode cX9_circles 113 = .ok (.iinc 4 1, 3) := by decide +kernel
theorem dX9_circles_116 : decode cX9_circles 116 = .ok (.goto (-78), 3) := by decide +kernel
theorem dX9_circles_119 : decode cX9_circles 119 = .ok (.iinc 3 1, 3) := by decide +kernel
theorem dX9_circles_122 : decode cX9_circles 122 = .ok (.goto (-99), 3) := by decide +kernel
theorem dX9_circles_125 : decode cX9_circles 125 = .ok (.iinc 2 1, 3) := by decide +kernel
theorem dX9_circles_128 : decode cX9_circles 128 = .ok (.goto (-119), 3) := by decide +kernel
theorem dX9_circles_131 : decode cX9_circles 131 = .ok (.iload_n 1, 1) := by decide +kernel
theorem dX9_circles_132 : decode cX9_circles 132 = .ok (.ireturn, 1) := by decide +kernel
theorem dX9_compare_0 : decode cX9_compare 0 = .ok (.aload_n 0, 1) := by decide +kernel
theorem dX9_compare_1 : decode cX9_compare 1 = .ok (.iconst 0, 1) := by decide +kernel
theorem dX9_compare_2 : decode cX9_compare 2 = .ok (.putfield 165, 3) := by decide +kernel
theorem dX9_compare_5 : decode cX9_compare 5 = .ok (.aload_n 0, 1) := by decide +kernel
theorem dX9_compare_6 : decode cX9_compare 6 = .ok (.iload_n 1, 1) := by decide +kernel
theorem dX9_compare_7 : decode cX9_compare 7 = .ok (.invokevirtual 394, 3) := by decide +kernel
theorem dX9_compare_10 : decode cX9_compare 10 = .ok (.ifCond .eq 10, 3) := by decide +kernel
theorem dX9_compare_13 : decode cX9_compare 13 = .ok (.iload_n 2, 1) := by decide +kernel
theorem dX9_compare_14 : decode cX9_compare 14 = .ok (.invokestatic 213, 3) := by decide +kernel
theorem dX9_compare_17 : decode cX9_compare 17 = .ok (.ifCond .ne 5, 3) := by decide +kernel
theorem dX9_compare_20 : decode cX9_compare 20 = .ok (.iconst (-1), 1) := by decide +kernel
theorem dX9_compare_21 : decode cX9_compare 21 = .ok (.ireturn, 1) := by decide +kernel
theorem dX9_compare_22 : decode cX9_compare 22 = .ok (.aload_n 0, 1) := by decide +kernel
theorem dX9_compare_23 : decode cX9_compare 23 = .ok (.getfield 13, 3) := by decide +kernel
theorem dX9_compare_26 : decode cX9_compare 26 = .ok (.iconst 3, 1) := by decide +kernel
theorem dX9_compare_27 : decode cX9_compare 27 = .ok (.iaload, 1) := by decide +kernel
theorem dX9_compare_28 : decode cX9_compare 28 = .ok (.istore_n 3, 1) := by decide +kernel
theorem dX9_compare_29 : decode cX9_compare 29 = .ok (.aload_n 0, 1) := by decide +kernel
theorem dX9_compare_30 : decode cX9_compare 30 = .ok (.getfield 13, 3) := by decide +kernel
theorem dX9_compare_33 : decode cX9_compare 33 = .ok (.iconst 3, 1) := by decide +kernel
theorem dX9_compare_34 : decode cX9_compare 34 = .ok (.iload_n 1, 1) := by decide +kernel
theorem dX9_compare_35 : decode cX9_compare 35 = .ok (.iastore, 1) := by decide +kernel
theorem dX9_compare_36 : decode cX9_compare 36 = .ok (.aload_n 0, 1) := by decide +kernel
theorem dX9_compare_37 : decode cX9_compare 37 = .ok (.iload_n 2, 1) := by decide +kernel
theorem dX9_compare_38 : decode cX9_compare 38 = .ok (.invokevirtual 221, 3) := by decide +kernel
theorem dX9_compare_41 : decode cX9_compare 41 = .ok (.aload_n 0, 1) := by decide +kernel
theorem dX9_compare_42 : decode cX9_compare 42 = .ok (.getfield 13, 3) := by decide +kernel
theorem dX9_compare_45 : decode cX9_compare 45 = .ok (.iconst 3, 1) := by decide +kernel
theorem dX9_compare_46 : decode cX9_compare 46 = .ok (.iload_n 3, 1) := by decide +kernel
theorem dX9_compare_47 : decode cX9_compare 47 = .ok (.iastore, 1) := by decide +kernel
theorem dX9_compare_48 : decode cX9_compare 48 = .ok (.aload_n 0, 1) := by decide +kernel
theorem dX9_compare_49 : decode cX9_compare 49 = .ok (.getfield 224, 3) := by decide +kernel
theorem dX9_compare_52 : decode cX9_compare 52 = .ok (.ifCond .ne 7, 3) := by decide +kernel
theorem dX9_compare_55 : decode cX9_compare 55 = .ok (.iconst (-1), 1) := by decide +kernel
theorem dX9_compare_56 : decode cX9_compare 56 = .ok (.goto 9, 3) := by decide +kernel
theorem dX9_compare_59 : decode cX9_compare 59 = .ok (.aload_n 0, 1) := by decide +kernel
theorem dX9_compare_60 : decode cX9_compare 60 = .ok (.getfield 111, 3) := by decide +kernel
theorem dX9_compare_63 : decode cX9_compare 63 = .ok (.iconst 0, 1) := by decide +kernel
theorem dX9_compare_64 : decode cX9_compare 64 = .ok (.iaload, 1) := by decide +kernel
theorem dX9_compare_65 : decode cX9_compare 65 = .ok (.ireturn, 1) := by decide +kernel
theorem dX9_count_0 : decode cX9_count 0 = .ok (.aload_n 0, 1) := by decide +kernel
theorem dX9_count_1 : decode cX9_count 1 = .ok (.iconst 0, 1) := by decide +kernel
theorem dX9_count_2 : decode cX9_count 2 = .ok (.putfield 165, 3) := by decide +kernel
theorem dX9_count_5 : decode cX9_count 5 = .ok (.iload_n 1, 1) := by decide +kernel
theorem dX9_count_6 : decode cX9_count 6 = .ok (.tableswitch 170 0 13 #[70, 77, 82, 90, 103, 110, 117, 122, 127, 134, 141, 148, 155, 163], 70) := by decide +kernel
theorem dX9_count_76 : decode cX9_count 76 = .ok (.aload_n 0, 1) := by decide +kernel
theorem dX9_count_77 : decode cX9_count 77 = .ok (.getfield 13, 3) := by decide +kernel
theorem dX9_count_80 : decode cX9_count 80 = .ok (.iconst 0, 1) := by decide +kernel
theorem dX9_count_81 : decode cX9_count 81 = .ok (.iaload, 1) := by decide +kernel
theorem dX9_count_82 : decode cX9_count 82 = .ok (.ireturn, 1) := by decide +kernel
theorem dX9_count_83 : decode cX9_count 83 = .ok (.aload_n 0, 1) := by decide +kernel
theorem dX9_count_84 : decode cX9_count 84 = .ok (.invokevirtual 529, 3) := by decide +kernel
theorem dX9_count_87 : decode cX9_count 87 = .ok (.ireturn, 1) := by decide +kernel
theorem dX9_count_88 : decode cX9_count 88 = .ok (.aload_n 0, 1) := by decide +kernel
theorem dX9_count_89 : decode cX9_count 89 = .ok (.getfield 13, 3) := by decide +kernel
theorem dX9_count_92 : decode cX9_count 92 = .ok (.bipush 7, 2) := by decide +kernel
theorem dX9_count_94 : decode cX9_count 94 = .ok (.iaload, 1) := by decide +kernel
theorem dX9_count_95 : decode cX9_count 95 = .ok (.ireturn, 1) := by decide +kernel
theorem dX9_count_96 : decode cX9_count 96 = .ok (.aload_n 0, 1) := by decide +kernel
theorem dX9_count_97 : decode cX9_count 97 = .ok (.bipush 15, 2) := by decide +kernel
theorem dX9_count_99 : decode cX9_count 99 = .ok (.aload_n 0, 1) := by decide +kernel
theorem dX9_count_100 : decode cX9_count 100 = .ok (.getfield 13, 3) := by decide +kernel
theorem dX9_count_103 : decode cX9_count 103 = .ok (.iconst 0, 1) := by decide +kernel
theorem dX9_count_104 : decode cX9_count 104 = .ok (.iaload, 1) := by decide +kernel
theorem dX9_count_105 : decode cX9_count 105 = .ok (.invokevirtual 194, 3) := by decide +kernel
theorem dX9_count_108 : decode cX9_count 108 = .ok (.ireturn, 1) := by decide +kernel
theorem dX9_count_109 : decode cX9_count 109 = .ok (.aload_n 0, 1) := by decide +kernel
theorem dX9_count_110 : decode cX9_count 110 = .ok (.getfield 13, 3) := by decide +kernel
theorem dX9_count_113 : decode cX9_count 113 = .ok (.iconst 1, 1) := by decide +kernel
theorem dX9_count_114 : decode cX9_count 114 = .ok (.iaload, 1) := by decide +kernel
theorem dX9_count_115 : decode cX9_count 115 = .ok (.ireturn, 1) := by decide +kernel
theorem dX9_count_116 : decode cX9_count 116 = .ok (.aload_n 0, 1) := by decide +kernel
theorem dX9_count_117 : decode cX9_count 117 = .ok (.getfield 13, 3) := by decide +kernel
theorem dX9_count_120 : decode cX9_count 120 = .ok (.iconst 2, 1) := by decide +kernel
theorem dX9_count_121 : decode cX9_count 121 = .ok (.iaload, 1) := by decide +kernel
theorem dX9_count_122 : decode cX9_count 122 = .ok (.ireturn, 1) := by decide +kernel
theorem dX9_count_123 : decode cX9_count 123 = .ok (.aload_n 0, 1) := by decide +kernel
theorem dX9_count_124 : decode cX9_count 124 = .ok (.getfield 171, 3) := by decide +kernel
theorem dX9_count_127 : decode cX9_count 127 = .ok (.ireturn, 1) := by decide +kernel
theorem dX9_count_128 : decode cX9_count 128 = .ok (.aload_n 0, 1) := by decide +kernel
theorem dX9_count_129 : decode cX9_count 129 = .ok (.getfield 231, 3) := by decide +kernel
theorem dX9_count_132 : decode cX9_count 132 = .ok (.ireturn, 1) := by decide +kernel
theorem dX9_count_133 : decode cX9_count 133 = .ok (.aload_n 0, 1) := by decide +kernel
theorem dX9_count_134 : decode cX9_count 134 = .ok (.getfield 7, 3) := by decide +kernel
theorem dX9_count_137 : decode cX9_count 137 = .ok (.iconst 1, 1) := by decide +kernel
theorem dX9_count_138 : decode cX9_count 138 = .ok (.iaload, 1) := by decide +kernel
theorem dX9_count_139 : decode cX9_count 139 = .ok (.ireturn, 1) := by decide +kernel
theorem dX9_count_140 : decode cX9_count 140 = .ok (.aload_n 0, 1) := by decide +kernel
theorem dX9_count_141 : decode cX9_count 141 = .ok (.getfield 7, 3) := by decide +kernel
theorem dX9_count_144 : decode cX9_count 144 = .ok (.iconst 2, 1) := by decide +kernel
theorem dX9_count_145 : decode cX9_count 145 = .ok (.iaload, 1) := by decide +kernel
theorem dX9_count_146 : decode cX9_count 146 = .ok (.ireturn, 1) := by decide +kernel
theorem dX9_count_147 : decode cX9_count 147 = .ok (.aload_n 0, 1) := by decide +kernel
theorem dX9_count_148 : decode cX9_count 148 = .ok (.getfield 7, 3) := by decide +kernel
theorem dX9_count_151 : decode cX9_count 151 = .ok (.iconst 3, 1) := by decide +kernel
theorem dX9_count_152 : decode cX9_count 152 = .ok (.iaload, 1) := by decide +kernel
theorem dX9_count_153 : decode cX9_count 153 = .ok (.ireturn, 1) := by decide +kernel
theorem dX9_count_154 : decode cX9_count 154 = .ok (.aload_n 0, 1) := by decide +kernel
theorem dX9_count_155 : decode cX9_count 155 = .ok (.getfield 7, 3) := by decide +kernel
theorem dX9_count_158 : decode cX9_count 158 = .ok (.iconst 5, 1) := by decide +kernel
theorem dX9_count_159 : decode cX9_count 159 = .ok (.iaload, 1) := by decide +kernel
theorem dX9_count_160 : decode cX9_count 160 = .ok (.ireturn, 1) := by decide +kernel
theorem dX9_count_161 : decode cX9_count 161 = .ok (.aload_n 0, 1) := by decide +kernel
theorem dX9_count_162 : decode cX9_count 162 = .ok (.getfield 7, 3) := by decide +kernel
theorem dX9_count_165 : decode cX9_count 165 = .ok (.bipush 6, 2) := by decide +kernel
theorem dX9_count_167 : decode cX9_count 167 = .ok (.iaload, 1) := by decide +kernel
theorem dX9_count_168 : decode cX9_count 168 = .ok (.ireturn, 1) := by decide +kernel
theorem dX9_count_169 : decode cX9_count 169 = .ok (.aload_n 0, 1) := by decide +kernel
theorem dX9_count_170 : decode cX9_count 170 = .ok (.getfield 13, 3) := by decide +kernel
theorem dX9_count_173 : decode cX9_count 173 = .ok (.iconst 3, 1) := by decide +kernel
theorem dX9_count_174 : decode cX9_count 174 = .ok (.iaload, 1) := by decide +kernel
theorem dX9_count_175 : decode cX9_count 175 = .ok (.ireturn, 1) := by decide +kernel
theorem dX9_count_176 : decode cX9_count 176 = .ok (.iload_n 1, 1) := by decide +kernel
theorem dX9_count_177 : decode cX9_count 177 = .ok (.i2l, 1) := by decide +kernel
theorem dX9_count_178 : decode cX9_count 178 = .ok (.ldc2_w 561, 3) := by decide +kernel
theorem dX9_count_181 : decode cX9_count 181 = .ok (.ldc2_w 563, 3) := by decide +kernel
theorem dX9_count_184 : decode cX9_count 184 = .ok (.invokestatic 185, 3) := by decide +kernel
theorem dX9_count_187 : decode cX9_count 187 = .ok (.ifCond .eq 17, 3) := by decide +kernel
theorem dX9_count_190 : decode cX9_count 190 = .ok (.aload_n 0, 1) := by decide +kernel
theorem dX9_count_191 : decode cX9_count 191 = .ok (.getfield 13, 3) := by decide +kernel
theorem dX9_count_194 : decode cX9_count 194 = .ok (.iconst 4, 1) := by decide +kernel
theorem dX9_count_195 : decode cX9_count 195 = .ok (.iload_n 1, 1) := by decide +kernel
theorem dX9_count_196 : decode cX9_count 196 = .ok (.iadd, 1) := by decide +kernel
theorem dX9_count_197 : decode cX9_count 197 = .ok (.bipush 14, 2) := by decide +kernel
theorem dX9_count_199 : decode cX9_count 199 = .ok (.isub, 1) := by decide +kernel
theorem dX9_count_200 : decode cX9_count 200 = .ok (.iaload, 1) := by decide +kernel
theorem dX9_count_201 : decode cX9_count 201 = .ok (.goto 4, 3) := by decide +kernel
theorem dX9_count_204 : decode cX9_count 204 = .ok (.iconst (-1), 1) := by decide +kernel
theorem dX9_count_205 : decode cX9_count 205 = .ok (.ireturn, 1) := by decide +kernel
theorem dX9_crowned_0 : decode cX9_crowned 0 = .ok (.aload_n 0, 1) := by decide +kernel
theorem dX9_crowned_1 : decode cX9_crowned 1 = .ok (.iconst 0, 1) := by decide +kernel
theorem dX9_crowned_2 : decode cX9_crowned 2 = .ok (.putfield 165, 3) := by decide +kernel
theorem dX9_crowned_5 : decode cX9_crowned 5 = .ok (.iload_n 1, 1) := by decide +kernel
theorem dX9_crowned_6 : decode cX9_crowned 6 = .ok (.i2l, 1) := by decide +kernel
theorem dX9_crowned_7 : decode cX9_crowned 7 = .ok (.lconst 0, 1) := by decide +kernel
theorem dX9_crowned_8 : decode cX9_crowned 8 = .ok (.ldc2_w 431, 3) := by decide +kernel
theorem dX9_crowned_11 : decode cX9_crowned 11 = .ok (.invokestatic 185, 3) := by decide +kernel
theorem dX9_crowned_14 : decode cX9_crowned 14 = .ok (.ifCond .ne 5, 3) := by decide +kernel
theorem dX9_crowned_17 : decode cX9_crowned 17 = .ok (.iconst (-1), 1) := by decide +kernel
theorem dX9_crowned_18 : decode cX9_crowned 18 = .ok (.ireturn, 1) := by decide +kernel
theorem dX9_crowned_19 : decode cX9_crowned 19 = .ok (.aload_n 0, 1) := by decide +kernel
theorem dX9_crowned_20 : decode cX9_crowned 20 = .ok (.invokevirtual 498, 3) := by decide +kernel
theorem dX9_crowned_23 : decode cX9_crowned 23 = .ok (.istore_n 2, 1) := by decide +kernel
theorem dX9_crowned_24 : decode cX9_crowned 24 = .ok (.iload_n 1, 1) := by decide +kernel
theorem dX9_crowned_25 : decode cX9_crowned 25 = .ok (.ifCond .ne 7, 3) := by decide +kernel
theorem dX9_crowned_28 : decode cX9_crowned 28 = .ok (.iload_n 2, 1) := by decide +kernel
theorem dX9_crowned_29 : decode cX9_crowned 29 = .ok (.goto 11, 3) := by decide +kernel
theorem dX9_crowned_32 : decode cX9_crowned 32 = .ok (.aload_n 0, 1) := by decide +kernel
theorem dX9_crowned_33 : decode cX9_crowned 33 = .ok (.getfield 129, 3) := by decide +kernel
theorem dX9_crowned_36 : decode cX9_crowned 36 = .ok (.iload_n 1, 1) := by decide +kernel
theorem dX9_crowned_37 : decode cX9_crowned 37 = .ok (.iconst 1, 1) := by decide +kernel
theorem dX9_crowned_38 : decode cX9_crowned 38 = .ok (.isub, 1) := by decide +kernel
theorem dX9_crowned_39 : decode cX9_crowned 39 = .ok (.iaload, 1) := by decide +kernel
theorem dX9_crowned_40 : decode cX9_crowned 40 = .ok (.ireturn, 1) := by decide +kernel
theorem dX9_drawn_0 : decode cX9_drawn 0 = .ok (.aload_n 0, 1) := by decide +kernel
theorem dX9_drawn_1 : decode cX9_drawn 1 = .ok (.iconst 0, 1) := by decide +kernel
theorem dX9_drawn_2 : decode cX9_drawn 2 = .ok (.putfield 165, 3) := by decide +kernel
theorem dX9_drawn_5 : decode cX9_drawn 5 = .ok (.iload_n 1, 1) := by decide +kernel
theorem dX9_drawn_6 : decode cX9_drawn 6 = .ok (.i2l, 1) := by decide +kernel
theorem dX9_drawn_7 : decode cX9_drawn 7 = .ok (.lconst 0, 1) := by decide +kernel
theorem dX9_drawn_8 : decode cX9_drawn 8 = .ok (.aload_n 0, 1) := by decide +kernel
theorem dX9_drawn_9 : decode cX9_drawn 9 = .ok (.getfield 162, 3) := by decide +kernel
theorem dX9_drawn_12 : decode cX9_drawn 12 = .ok (.i2l, 1) := by decide +kernel
theorem dX9_drawn_13 : decode cX9_drawn 13 = .ok (.lconst 1, 1) := by decide +kernel
theorem dX9_drawn_14 : decode cX9_drawn 14 = .ok (.lsub, 1) := by decide +kernel
theorem dX9_drawn_15 : decode cX9_drawn 15 = .ok (.invokestatic 185, 3) := by decide +kernel
theorem dX9_drawn_18 : decode cX9_drawn 18 = .ok (.ifCond .eq 15, 3) := by decide +kernel
theorem dX9_drawn_21 : decode cX9_drawn 21 = .ok (.iload_n 2, 1) := by decide +kernel
theorem dX9_drawn_22 : decode cX9_drawn 22 = .ok (.i2l, 1) := by decide +kernel
theorem dX9_drawn_23 : decode cX9_drawn 23 = .ok (.lconst 0, 1) := by decide +kernel
theorem dX9_drawn_24 : decode cX9_drawn 24 = .ok (.ldc2_w 559, 3) := by decide +kernel
theorem dX9_drawn_27 : decode cX9_drawn 27 = .ok (.invokestatic 185, 3) := by decide +kernel
theorem dX9_drawn_30 : decode cX9_drawn 30 = .ok (.ifCond .ne 5, 3) := by decide +kernel
theorem dX9_drawn_33 : decode cX9_drawn 33 = .ok (.iconst (-1), 1) := by decide +kernel
theorem dX9_drawn_34 : decode cX9_drawn 34 = .ok (.ireturn, 1) := by decide +kernel
theorem dX9_drawn_35 : decode cX9_drawn 35 = .ok (.aload_n 0, 1) := by decide +kernel
theorem dX9_drawn_36 : decode cX9_drawn 36 = .ok (.getfield 159, 3) := by decide +kernel
theorem dX9_drawn_39 : decode cX9_drawn 39 = .ok (.iload_n 2, 1) := by decide +kernel
theorem dX9_drawn_40 : decode cX9_drawn 40 = .ok (.ifCond .ne 8, 3) := by decide +kernel
theorem dX9_drawn_43 : decode cX9_drawn 43 = .ok (.bipush 8, 2) := by decide +kernel
theorem dX9_drawn_45 : decode cX9_drawn 45 = .ok (.goto 15, 3) := by decide +kernel
theorem dX9_drawn_48 : decode cX9_drawn 48 = .ok (.iload_n 2, 1) := by decide +kernel
theorem dX9_drawn_49 : decode cX9_drawn 49 = .ok (.iconst 1, 1) := by decide +kernel
theorem dX9_drawn_50 : decode cX9_drawn 50 = .ok (.if_icmp .ne 8, 3) := by decide +kernel
theorem dX9_drawn_53 : decode cX9_drawn 53 = .ok (.bipush 15, 2) := by decide +kernel
theorem dX9_drawn_55 : decode cX9_drawn 55 = .ok (.goto 5, 3) := by decide +kernel
theorem dX9_drawn_58 : decode cX9_drawn 58 = .ok (.bipush 22, 2) := by decide +kernel
theorem dX9_drawn_60 : decode cX9_drawn 60 = .ok (.iconst 4, 1) := by decide +kernel
theorem dX9_drawn_61 : decode cX9_drawn 61 = .ok (.isub, 1) := by decide +kernel
theorem dX9_drawn_62 : decode cX9_drawn 62 = .ok (.iload_n 1, 1) := by decide +kernel
theorem dX9_drawn_63 : decode cX9_drawn 63 = .ok (.iadd, 1) := by decide +kernel
theorem dX9_drawn_64 : decode cX9_drawn 64 = .ok (.iaload, 1) := by decide +kernel
theorem dX9_drawn_65 : decode cX9_drawn 65 = .ok (.ireturn, 1) := by decide +kernel
theorem dX9_end_0 : decode cX9_end 0 = .ok (.aload_n 0, 1) := by decide +kernel
theorem dX9_end_1 : decode cX9_end 1 = .ok (.iconst 0, 1) := by decide +kernel
theorem dX9_end_2 : decode cX9_end 2 = .ok (.putfield 165, 3) := by decide +kernel
theorem dX9_end_5 : decode cX9_end 5 = .ok (.iload_n 1, 1) := by decide +kernel
theorem dX9_end_6 : decode cX9_end 6 = .ok (.ifCond .lt 11, 3) := by decide +kernel
theorem dX9_end_9 : decode cX9_end 9 = .ok (.iload_n 1, 1) := by decide +kernel
theorem dX9_end_10 : decode cX9_end 10 = .ok (.aload_n 0, 1) := by decide +kernel
theorem dX9_end_11 : decode cX9_end 11 = .ok (.getfield 231, 3) := by decide +kernel
theorem dX9_end_14 : decode cX9_end 14 = .ok (.if_icmp .le 5, 3) := by decide +kernel
theorem dX9_end_17 : decode cX9_end 17 = .ok (.iconst (-1), 1) := by decide +kernel
theorem dX9_end_18 : decode cX9_end 18 = .ok (.ireturn, 1) := by decide +kernel
theorem dX9_end_19 : decode cX9_end 19 = .ok (.aload_n 0, 1) := by decide +kernel
theorem dX9_end_20 : decode cX9_end 20 = .ok (.iload_n 1, 1) := by decide +kernel
theorem dX9_end_21 : decode cX9_end 21 = .ok (.putfield 231, 3) := by decide +kernel
theorem dX9_end_24 : decode cX9_end 24 = .ok (.iload_n 1, 1) := by decide +kernel
theorem dX9_end_25 : decode cX9_end 25 = .ok (.ireturn, 1) := by decide +kernel
theorem dX9_endText_0 : decode cX9_endText 0 = .ok (.aload_n 0, 1) := by decide +kernel
theorem dX9_endText_1 : decode cX9_endText 1 = .ok (.getfield 246, 3) := by decide +kernel
theorem dX9_endText_4 : decode cX9_endText 4 = .ok (.ifCond .ne 15, 3) := by decide +kernel
theorem dX9_endText_7 : decode cX9_endText 7 = .ok (.aload_n 0, 1) := by decide +kernel
theorem dX9_endText_8 : decode cX9_endText 8 = .ok (.getfield 266, 3) := by decide +kernel
theorem dX9_endText_11 : decode cX9_endText 11 = .ok (.ifCond .eq 8, 3) := by decide +kernel
theorem dX9_endText_14 : decode cX9_endText 14 = .ok (.aload_n 0, 1) := by decide +kernel
theorem dX9_endText_15 : decode cX9_endText 15 = .ok (.iconst 0, 1) := by decide +kernel
theorem dX9_endText_16 : decode cX9_endText 16 = .ok (.invokevirtual 279, 3) := by decide +kernel
theorem dX9_endText_19 : decode cX9_endText 19 = .ok (.aload_n 0, 1) := by decide +kernel
theorem dX9_endText_20 : decode cX9_endText 20 = .ok (.iconst 0, 1) := by decide +kernel
theorem dX9_endText_21 : decode cX9_endText 21 = .ok (.putfield 323, 3) := by decide +kernel
theorem dX9_endText_24 : decode cX9_endText 24 = .ok (.aload_n 0, 1) := by decide +kernel
theorem dX9_endText_25 : decode cX9_endText 25 = .ok (.iconst 0, 1) := by decide +kernel
theorem dX9_endText_26 : decode cX9_endText 26 = .ok (.putfield 231, 3) := by decide +kernel
theorem dX9_endText_29 : decode cX9_endText 29 = .ok (.return_, 1) := by decide +kernel
theorem dX9_enter_0 : decode cX9_enter 0 = .ok (.aload_n 0, 1) := by decide +kernel
theorem dX9_enter_1 : decode cX9_enter 1 = .ok (.iconst 0, 1) := by decide +kernel
theorem dX9_enter_2 : decode cX9_enter 2 = .ok (.putfield 165, 3) := by decide +kernel
theorem dX9_enter_5 : decode cX9_enter 5 = .ok (.aload_n 0, 1) := by decide +kernel
theorem dX9_enter_6 : decode cX9_enter 6 = .ok (.aload_n 0, 1) := by decide +kernel
theorem dX9_enter_7 : decode cX9_enter 7 = .ok (.iload_n 1, 1) := by decide +kernel
theorem dX9_enter_8 : decode cX9_enter 8 = .ok (.invokevirtual 449, 3) := by decide +kernel
theorem dX9_enter_11 : decode cX9_enter 11 = .ok (.invokevirtual 174, 3) := by decide +kernel
theorem dX9_enter_14 : decode cX9_enter 14 = .ok (.ireturn, 1) := by decide +kernel
theorem dX9_enterNow_0 : decode cX9_enterNow 0 = .ok (.aload_n 0, 1) := by decide +kernel
theorem dX9_enterNow_1 : decode cX9_enterNow 1 = .ok (.iload_n 1, 1) := by decide +kernel
theorem dX9_enterNow_2 : decode cX9_enterNow 2 = .ok (.invokevirtual 200, 3) := by decide +kernel
theorem dX9_enterNow_5 : decode cX9_enterNow 5 = .ok (.ifCond .ne 6, 3) := by decide +kernel
theorem dX9_enterNow_8 : decode cX9_enterNow 8 = .ok (.bipush (-2), 2) := by decide +kernel
theorem dX9_enterNow_10 : decode cX9_enterNow 10 = .ok (.ireturn, 1) := by decide +kernel
theorem dX9_enterNow_11 : decode cX9_enterNow 11 = .ok (.aload_n 0, 1) := by decide +kernel
theorem dX9_enterNow_12 : decode cX9_enterNow 12 = .ok (.iconst 1, 1) := by decide +kernel
theorem dX9_enterNow_13 : decode cX9_enterNow 13 = .ok (.invokevirtual 440, 3) := by decide +kernel
theorem dX9_enterNow_16 : decode cX9_enterNow 16 = .ok (.aload_n 0, 1) := by decide +kernel
theorem dX9_enterNow_17 : decode cX9_enterNow 17 = .ok (.getfield 13, 3) := by decide +kernel
theorem dX9_enterNow_20 : decode cX9_enterNow 20 = .ok (.bipush 22, 2) := by decide +kernel
theorem dX9_enterNow_22 : decode cX9_enterNow 22 = .ok (.iload_n 1, 1) := by decide +kernel
theorem dX9_enterNow_23 : decode cX9_enterNow 23 = .ok (.iadd, 1) := by decide +kernel
theorem dX9_enterNow_24 : decode cX9_enterNow 24 = .ok (.iconst 1, 1) := by decide +kernel
theorem dX9_enterNow_25 : decode cX9_enterNow 25 = .ok (.aload_n 0, 1) := by decide +kernel
theorem dX9_enterNow_26 : decode cX9_enterNow 26 = .ok (.getfield 13, 3) := by decide +kernel
theorem dX9_enterNow_29 : decode cX9_enterNow 29 = .ok (.bipush 22, 2) := by decide +kernel
theorem dX9_enterNow_31 : decode cX9_enterNow 31 = .ok (.iload_n 1, 1) := by decide +kernel
theorem dX9_enterNow_32 : decode cX9_enterNow 32 = .ok (.iadd, 1) := by decide +kernel
theorem dX9_enterNow_33 : decode cX9_enterNow 33 = .ok (.iaload, 1) := by decide +kernel
theorem dX9_enterNow_34 : decode cX9_enterNow 34 = .ok (.isub, 1) := by decide +kernel
theorem dX9_enterNow_35 : decode cX9_enterNow 35 = .ok (.iastore, 1) := by decide +kernel
theorem dX9_enterNow_36 : decode cX9_enterNow 36 = .ok (.aload_n 0, 1) := by decide +kernel
theorem dX9_enterNow_37 : decode cX9_enterNow 37 = .ok (.getfield 13, 3) := by decide +kernel
theorem dX9_enterNow_40 : decode cX9_enterNow 40 = .ok (.bipush 22, 2) := by decide +kernel
theorem dX9_enterNow_42 : decode cX9_enterNow 42 = .ok (.iload_n 1, 1) := by decide +kernel
theorem dX9_enterNow_43 : decode cX9_enterNow 43 = .ok (.iadd, 1) := by decide +kernel
theorem dX9_enterNow_44 : decode cX9_enterNow 44 = .ok (.iaload, 1) := by decide +kernel
theorem dX9_enterNow_45 : decode cX9_enterNow 45 = .ok (.ireturn, 1) := by decide +kernel
theorem dX9_enteredOnes_0 : decode cX9_enteredOnes 0 = .ok (.aload_n 0, 1) := by decide +kernel
theorem dX9_enteredOnes_1 : decode cX9_enteredOnes 1 = .ok (.bipush 22, 2) := by decide +kernel
theorem dX9_enteredOnes_3 : decode cX9_enteredOnes 3 = .ok (.aload_n 0, 1) := by decide +kernel
theorem dX9_enteredOnes_4 : decode cX9_enteredOnes 4 = .ok (.getfield 13, 3) := by decide +kernel
theorem dX9_enteredOnes_7 : decode cX9_enteredOnes 7 = .ok (.iconst 0, 1) := by decide +kernel
theorem dX9_enteredOnes_8 : decode cX9_enteredOnes 8 = .ok (.iaload, 1) := by decide +kernel
theorem dX9_enteredOnes_9 : decode cX9_enteredOnes 9 = .ok (.invokevirtual 194, 3) := by decide +kernel
theorem dX9_enteredOnes_12 : decode cX9_enteredOnes 12 = .ok (.ireturn, 1) := by decide +kernel
theorem dX9_fault_0 : decode cX9_fault 0 = .ok (.aload_n 0, 1) := by decide +kernel
theorem dX9_fault_1 : decode cX9_fault 1 = .ok (.iconst 0, 1) := by decide +kernel
theorem dX9_fault_2 : decode cX9_fault 2 = .ok (.putfield 165, 3) := by decide +kernel
theorem dX9_fault_5 : decode cX9_fault 5 = .ok (.aload_n 0, 1) := by decide +kernel
theorem dX9_fault_6 : decode cX9_fault 6 = .ok (.getfield 38, 3) := by decide +kernel
theorem dX9_fault_9 : decode cX9_fault 9 = .ok (.ireturn, 1) := by decide +kernel
theorem dX9_feed_0 : decode cX9_feed 0 = .ok (.aload_n 0, 1) := by decide +kernel
theorem dX9_feed_1 : decode cX9_feed 1 = .ok (.iconst 0, 1) := by decide +kernel
theorem dX9_feed_2 : decode cX9_feed 2 = .ok (.putfield 165, 3) := by decide +kernel
theorem dX9_feed_5 : decode cX9_feed 5 = .ok (.aload_n 0, 1) := by decide +kernel
theorem dX9_feed_6 : decode cX9_feed 6 = .ok (.getfield 231, 3) := by decide +kernel
theorem dX9_feed_9 : decode cX9_feed 9 = .ok (.bipush 20, 2) := by decide +kernel
theorem dX9_feed_11 : decode cX9_feed 11 = .ok (.iadd, 1) := by decide +kernel
theorem dX9_feed_12 : decode cX9_feed 12 = .ok (.sipush 400, 3) := by decide +kernel
theorem dX9_feed_15 : decode cX9_feed 15 = .ok (.if_icmp .le 5, 3) := by decide +kernel
theorem dX9_feed_18 : decode cX9_feed 18 = .ok (.iconst (-1), 1) := by decide +kernel
theorem dX9_feed_19 : decode cX9_feed 19 = .ok (.ireturn, 1) := by decide +kernel
theorem dX9_feed_20 : decode cX9_feed 20 = .ok (.aload_n 0, 1) := by decide +kernel
theorem dX9_feed_21 : decode cX9_feed 21 = .ok (.iload_n 1, 1) := by decide +kernel
theorem dX9_feed_22 : decode cX9_feed 22 = .ok (.invokevirtual 240, 3) := by decide +kernel
theorem dX9_feed_25 : decode cX9_feed 25 = .ok (.aload_n 0, 1) := by decide +kernel
theorem dX9_feed_26 : decode cX9_feed 26 = .ok (.iload_n 2, 1) := by decide +kernel
theorem dX9_feed_27 : decode cX9_feed 27 = .ok (.invokevirtual 240, 3) := by decide +kernel
theorem dX9_feed_30 : decode cX9_feed 30 = .ok (.aload_n 0, 1) := by decide +kernel
theorem dX9_feed_31 : decode cX9_feed 31 = .ok (.iload_n 3, 1) := by decide +kernel
theorem dX9_feed_32 : decode cX9_feed 32 = .ok (.invokevirtual 240, 3) := by decide +kernel
theorem dX9_feed_35 : decode cX9_feed 35 = .ok (.aload_n 0, 1) := by decide +kernel
theorem dX9_feed_36 : decode cX9_feed 36 = .ok (.iload 4, 2) := by decide +kernel
theorem dX9_feed_38 : decode cX9_feed 38 = .ok (.invokevirtual 240, 3) := by decide +kernel
theorem dX9_feed_41 : decode cX9_feed 41 = .ok (.aload_n 0, 1) := by decide +kernel
theorem dX9_feed_42 : decode cX9_feed 42 = .ok (.iload 5, 2) := by decide +kernel
theorem dX9_feed_44 : decode cX9_feed 44 = .ok (.invokevirtual 240, 3) := by decide +kernel
theorem dX9_feed_47 : decode cX9_feed 47 = .ok (.aload_n 0, 1) := by decide +kernel
theorem dX9_feed_48 : decode cX9_feed 48 = .ok (.getfield 231, 3) := by decide +kernel
theorem dX9_feed_51 : decode cX9_feed 51 = .ok (.ireturn, 1) := by decide +kernel
theorem dX9_few_0 : decode cX9_few 0 = .ok (.aload_n 0, 1) := by decide +kernel
theorem dX9_few_1 : decode cX9_few 1 = .ok (.iconst 0, 1) := by decide +kernel
theorem dX9_few_2 : decode cX9_few 2 = .ok (.putfield 165, 3) := by decide +kernel
theorem dX9_few_5 : decode cX9_few 5 = .ok (.iload_n 1, 1) := by decide +kernel
theorem dX9_few_6 : decode cX9_few 6 = .ok (.i2l, 1) := by decide +kernel
theorem dX9_few_7 : decode cX9_few 7 = .ok (.lconst 1, 1) := by decide +kernel
theorem dX9_few_8 : decode cX9_few 8 = .ok (.ldc2_w 296, 3) := by decide +kernel
theorem dX9_few_11 : decode cX9_few 11 = .ok (.invokestatic 185, 3) := by decide +kernel
theorem dX9_few_14 : decode cX9_few 14 = .ok (.ifCond .eq 15, 3) := by decide +kernel
theorem dX9_few_17 : decode cX9_few 17 = .ok (.iload_n 2, 1) := by decide +kernel
theorem dX9_few_18 : decode cX9_few 18 = .ok (.i2l, 1) := by decide +kernel
theorem dX9_few_19 : decode cX9_few 19 = .ok (.lconst 0, 1) := by decide +kernel
theorem dX9_few_20 : decode cX9_few 20 = .ok (.ldc2_w 511, 3) := by decide +kernel
theorem dX9_few_23 : decode cX9_few 23 = .ok (.invokestatic 185, 3) := by decide +kernel
theorem dX9_few_26 : decode cX9_few 26 = .ok (.ifCond .ne 7, 3) := by decide +kernel
theorem dX9_few_29 : decode cX9_few 29 = .ok (.ldc2_w 273, 3) := by decide +kernel
theorem dX9_few_32 : decode cX9_few 32 = .ok (.lreturn, 1) := by decide +kernel
theorem dX9_few_33 : decode cX9_few 33 = .ok (.iconst 0, 1) := by decide +kernel
theorem dX9_few_34 : decode cX9_few 34 = .ok (.istore_n 3, 1) := by decide +kernel
theorem dX9_few_35 : decode cX9_few 35 = .ok (.iload_n 3, 1) := by decide +kernel
theorem dX9_few_36 : decode cX9_few 36 = .ok (.bipush 21, 2) := by decide +kernel
theorem dX9_few_38 : decode cX9_few 38 = .ok (.if_icmp .ge 26, 3) := by decide +kernel
theorem dX9_few_41 : decode cX9_few 41 = .ok (.aload_n 0, 1) := by decide +kernel
theorem dX9_few_42 : decode cX9_few 42 = .ok (.getfield 141, 3) := by decide +kernel
theorem dX9_few_45 : decode cX9_few 45 = .ok (.iload_n 3, 1) := by decide +kernel
theorem dX9_few_46 : decode cX9_few 46 = .ok (.iload_n 3, 1) := by decide +kernel
theorem dX9_few_47 : decode cX9_few 47 = .ok (.ifCond .ne 9, 3) := by decide +kernel
theorem dX9_few_50 : decode cX9_few 50 = .ok (.ldc2_w 513, 3) := by decide +kernel
theorem dX9_few_53 : decode cX9_few 53 = .ok (.goto 4, 3) := by decide +kernel
theorem dX9_few_56 : decode cX9_few 56 = .ok (.lconst 0, 1) := by decide +kernel
theorem dX9_few_57 : decode cX9_few 57 = .ok (.lastore, 1) := by decide +kernel
theorem dX9_few_58 : decode cX9_few 58 = .ok (.iinc 3 1, 3) := by decide +kernel
theorem dX9_few_61 : decode cX9_few 61 = .ok (.goto (-26), 3) := by decide +kernel
theorem dX9_few_64 : decode cX9_few 64 = .ok (.aload_n 0, 1) := by decide +kernel
theorem dX9_few_65 : decode cX9_few 65 = .ok (.getfield 13, 3) := by decide +kernel
theorem dX9_few_68 : decode cX9_few 68 = .ok (.iconst 5, 1) := by decide +kernel
theorem dX9_few_69 : decode cX9_few 69 = .ok (.iaload, 1) := by decide +kernel
theorem dX9_few_70 : decode cX9_few 70 = .ok (.istore_n 3, 1) := by decide +kernel
theorem dX9_few_71 : decode cX9_few 71 = .ok (.iconst 0, 1) := by decide +kernel
theorem dX9_few_72 : decode cX9_few 72 = .ok (.istore 4, 2) := by decide +kernel
theorem dX9_few_74 : decode cX9_few 74 = .ok (.iload 4, 2) := by decide +kernel
theorem dX9_few_76 : decode cX9_few 76 = .ok (.iload_n 2, 1) := by decide +kernel
theorem dX9_few_77 : decode cX9_few 77 = .ok (.if_icmp .ge 74, 3) := by decide +kernel
theorem dX9_few_80 : decode cX9_few 80 = .ok (.iload_n 1, 1) := by decide +kernel
theorem dX9_few_81 : decode cX9_few 81 = .ok (.iconst 1, 1) := by decide +kernel
theorem dX9_few_82 : decode cX9_few 82 = .ok (.isub, 1) := by decide +kernel
theorem dX9_few_83 : decode cX9_few 83 = .ok (.istore 5, 2) := by decide +kernel
theorem dX9_few_85 : decode cX9_few 85 = .ok (.iload 5, 2) := by decide +kernel
theorem dX9_few_87 : decode cX9_few 87 = .ok (.ifCond .lt 58, 3) := by decide +kernel
theorem dX9_few_90 : decode cX9_few 90 = .ok (.aload_n 0, 1) := by decide +kernel
theorem dX9_few_91 : decode cX9_few 91 = .ok (.getfield 141, 3) := by decide +kernel
theorem dX9_few_94 : decode cX9_few 94 = .ok (.iload 5, 2) := by decide +kernel
theorem dX9_few_96 : decode cX9_few 96 = .ok (.laload, 1) := by decide +kernel
theorem dX9_few_97 : decode cX9_few 97 = .ok (.lstore 6, 2) := by decide +kernel
theorem dX9_few_99 : decode cX9_few 99 = .ok (.aload_n 0, 1) := by decide +kernel
theorem dX9_few_100 : decode cX9_few 100 = .ok (.getfield 141, 3) := by decide +kernel
theorem dX9_few_103 : decode cX9_few 103 = .ok (.iload 5, 2) := by decide +kernel
theorem dX9_few_105 : decode cX9_few 105 = .ok (.lload 6, 2) := by decide +kernel
theorem dX9_few_107 : decode cX9_few 107 = .ok (.bipush 10, 2) := by decide +kernel
theorem dX9_few_109 : decode cX9_few 109 = .ok (.iload_n 3, 1) := by decide +kernel
theorem dX9_few_110 : decode cX9_few 110 = .ok (.isub, 1) := by decide +kernel
theorem dX9_few_111 : decode cX9_few 111 = .ok (.i2l, 1) := by decide +kernel
theorem dX9_few_112 : decode cX9_few 112 = .ok (.lmul, 1) := by decide +kernel
theorem dX9_few_113 : decode cX9_few 113 = .ok (.ldc2_w 229, 3) := by decide +kernel
theorem dX9_few_116 : decode cX9_few 116 = .ok (.ldiv, 1) := by decide +kernel
theorem dX9_few_117 : decode cX9_few 117 = .ok (.lastore, 1) := by decide +kernel
theorem dX9_few_118 : decode cX9_few 118 = .ok (.aload_n 0, 1) := by decide +kernel
theorem dX9_few_119 : decode cX9_few 119 = .ok (.getfield 141, 3) := by decide +kernel
theorem dX9_few_122 : decode cX9_few 122 = .ok (.iload 5, 2) := by decide +kernel
theorem dX9_few_124 : decode cX9_few 124 = .ok (.iconst 1, 1) := by decide +kernel
theorem dX9_few_125 : decode cX9_few 125 = .ok (.iadd, 1) := by decide +kernel
theorem dX9_few_126 : decode cX9_few 126 = .ok (.dup2, 1) := by decide +kernel
theorem dX9_few_127 : decode cX9_few 127 = .ok (.laload, 1) := by decide +kernel
theorem dX9_few_128 : decode cX9_few 128 = .ok (.lload 6, 2) := by decide +kernel
theorem dX9_few_130 : decode cX9_few 130 = .ok (.iload_n 3, 1) := by decide +kernel
theorem dX9_few_131 : decode cX9_few 131 = .ok (.i2l, 1) := by decide +kernel
theorem dX9_few_132 : decode cX9_few 132 = .ok (.lmul, 1) := by decide +kernel
theorem dX9_few_133 : decode cX9_few 133 = .ok (.ldc2_w 229, 3) := by decide +kernel
theorem dX9_few_136 : decode cX9_few 136 = .ok (.ldiv, 1) := by decide +kernel
theorem dX9_few_137 : decode cX9_few 137 = .ok (.ladd, 1) := by decide +kernel
theorem dX9_few_138 : decode cX9_few 138 = .ok (.lastore, 1) := by decide +kernel
theorem dX9_few_139 : decode cX9_few 139 = .ok (.iinc 5 (-1), 3) := by decide +kernel
theorem dX9_few_142 : decode cX9_few 142 = .ok (.goto (-57), 3) := by decide +kernel
theorem dX9_few_145 : decode cX9_few 145 = .ok (.iinc 4 1, 3) := by decide +kernel
theorem dX9_few_148 : decode cX9_few 148 = .ok (.goto (-74), 3) := by decide +kernel
theorem dX9_few_151 : decode cX9_few 151 = .ok (.lconst 0, 1) := by decide +kernel
theorem dX9_few_152 : decode cX9_few 152 = .ok (.lstore 4, 2) := by decide +kernel
theorem dX9_few_154 : decode cX9_few 154 = .ok (.iconst 0, 1) := by decide +kernel
theorem dX9_few_155 : decode cX9_few 155 = .ok (.istore 6, 2) := by decide +kernel
theorem dX9_few_157 : decode cX9_few 157 = .ok (.iload 6, 2) := by decide +kernel
theorem dX9_few_159 : decode cX9_few 159 = .ok (.iload_n 1, 1) := by decide +kernel
theorem dX9_few_160 : decode cX9_few 160 = .ok (.if_icmp .ge 21, 3) := by decide +kernel
theorem dX9_few_163 : decode cX9_few 163 = .ok (.lload 4, 2) := by decide +kernel
theorem dX9_few_165 : decode cX9_few 165 = .ok (.aload_n 0, 1) := by decide +kernel
theorem dX9_few_166 : decode cX9_few 166 = .ok (.getfield 141, 3) := by decide +kernel
theorem dX9_few_169 : decode cX9_few 169 = .ok (.iload 6, 2) := by decide +kernel
theorem dX9_few_171 : decode cX9_few 171 = .ok (.laload, 1) := by decide +kernel
theorem dX9_few_172 : decode cX9_few 172 = .ok (.ladd, 1) := by decide +kernel
theorem dX9_few_173 : decode cX9_few 173 = .ok (.lstore 4, 2) := by decide +kernel
theorem dX9_few_175 : decode cX9_few 175 = .ok (.iinc 6 1, 3) := by decide +kernel
theorem dX9_few_178 : decode cX9_few 178 = .ok (.goto (-21), 3) := by decide +kernel
theorem dX9_few_181 : decode cX9_few 181 = .ok (.lload 4, 2) := by decide +kernel
theorem dX9_few_183 : decode cX9_few 183 = .ok (.lreturn, 1) := by decide +kernel
theorem dX9_findCrowned_0 : decode cX9_findCrowned 0 = .ok (.iconst 0, 1) := by decide +kernel
theorem dX9_findCrowned_1 : decode cX9_findCrowned 1 = .ok (.istore_n 1, 1) := by decide +kernel
theorem dX9_findCrowned_2 : decode cX9_findCrowned 2 = .ok (.iload_n 1, 1) := by decide +kernel
theorem dX9_findCrowned_3 : decode cX9_findCrowned 3 = .ok (.bipush 7, 2) := by decide +kernel
theorem dX9_findCrowned_5 : decode cX9_findCrowned 5 = .ok (.if_icmp .ge 59, 3) := by decide +kernel
theorem dX9_findCrowned_8 : decode cX9_findCrowned 8 = .ok (.iconst 0, 1) := by decide +kernel
theorem dX9_findCrowned_9 : decode cX9_findCrowned 9 = .ok (.istore_n 2, 1) := by decide +kernel
theorem dX9_findCrowned_10 : decode cX9_findCrowned 10 = .ok (.iload_n 2, 1) := by decide +kernel
theorem dX9_findCrowned_11 : decode cX9_findCrowned 11 = .ok (.iconst 4, 1) := by decide +kernel
theorem dX9_findCrowned_12 : decode cX9_findCrowned 12 = .ok (.if_icmp .ge 46, 3) := by decide +kernel
theorem dX9_findCrowned_15 : decode cX9_findCrowned 15 = .ok (.aload_n 0, 1) := by decide +kernel
theorem dX9_findCrowned_16 : decode cX9_findCrowned 16 = .ok (.getfield 123, 3) := by decide +kernel
theorem dX9_findCrowned_19 : decode cX9_findCrowned 19 = .ok (.iconst 4, 1) := by decide +kernel
theorem dX9_findCrowned_20 : decode cX9_findCrowned 20 = .ok (.iload_n 1, 1) := by decide +kernel
theorem dX9_findCrowned_21 : decode cX9_findCrowned 21 = .ok (.imul, 1) := by decide +kernel
theorem dX9_findCrowned_22 : decode cX9_findCrowned 22 = .ok (.iload_n 2, 1) := by decide +kernel
theorem dX9_findCrowned_23 : decode cX9_findCrowned 23 = .ok (.iadd, 1) := by decide +kernel
theorem dX9_findCrowned_24 : decode cX9_findCrowned 24 = .ok (.aload_n 0, 1) := by decide +kernel
theorem dX9_findCrowned_25 : decode cX9_findCrowned 25 = .ok (.iload_n 1, 1) := by decide +kernel
theorem dX9_findCrowned_26 : decode cX9_findCrowned 26 = .ok (.invokevirtual 200, 3) := by decide +kernel
theorem dX9_findCrowned_29 : decode cX9_findCrowned 29 = .ok (.ifCond .eq 21, 3) := by decide +kernel
theorem dX9_findCrowned_32 : decode cX9_findCrowned 32 = .ok (.aload_n 0, 1) := by decide +kernel
theorem dX9_findCrowned_33 : decode cX9_findCrowned 33 = .ok (.iload_n 1, 1) := by decide +kernel
theorem dX9_findCrowned_34 : decode cX9_findCrowned 34 = .ok (.iload_n 2, 1) := by decide +kernel
theorem dX9_findCrowned_35 : decode cX9_findCrowned 35 = .ok (.invokevirtual 209, 3) := by decide +kernel
theorem dX9_findCrowned_38 : decode cX9_findCrowned 38 = .ok (.ifCond .ne 12, 3) := by decide +kernel
theorem dX9_findCrowned_41 : decode cX9_findCrowned 41 = .ok (.aload_n 0, 1) := by decide +kernel
theorem dX9_findCrowned_42 : decode cX9_findCrowned 42 = .ok (.iload_n 1, 1) := by decide +kernel
theorem dX9_findCrowned_43 : decode cX9_findCrowned 43 = .ok (.iload_n 2, 1) := by decide +kernel
theorem dX9_findCrowned_44 : decode cX9_findCrowned 44 = .ok (.invokevirtual 206, 3) := by decide +kernel
theorem dX9_findCrowned_47 : decode cX9_findCrowned 47 = .ok (.goto 4, 3) := by decide +kernel
theorem dX9_findCrowned_50 : decode cX9_findCrowned 50 = .ok (.iconst (-1), 1) := by decide +kernel
theorem dX9_findCrowned_51 : decode cX9_findCrowned 51 = .ok (.iastore, 1) := by decide +kernel
theorem dX9_findCrowned_52 : decode cX9_findCrowned 52 = .ok (.iinc 2 1, 3) := by decide +kernel
theorem dX9_findCrowned_55 : decode cX9_findCrowned 55 = .ok (.goto (-45), 3) := by decide +kernel
theorem dX9_findCrowned_58 : decode cX9_findCrowned 58 = .ok (.iinc 1 1, 3) := by decide +kernel
theorem dX9_findCrowned_61 : decode cX9_findCrowned 61 = .ok (.goto (-59), 3) := by decide +kernel
theorem dX9_findCrowned_64 : decode cX9_findCrowned 64 = .ok (.iconst (-1), 1) := by decide +kernel
theorem dX9_findCrowned_65 : decode cX9_findCrowned 65 = .ok (.istore_n 1, 1) := by decide +kernel
theorem dX9_findCrowned_66 : decode cX9_findCrowned 66 = .ok (.iconst 0, 1) := by decide +kernel
theorem dX9_findCrowned_67 : decode cX9_findCrowned 67 = .ok (.istore_n 2, 1) := by decide +kernel
theorem dX9_findCrowned_68 : decode cX9_findCrowned 68 = .ok (.aload_n 0, 1) := by decide +kernel
theorem dX9_findCrowned_69 : decode cX9_findCrowned 69 = .ok (.getfield 126, 3) := by decide +kernel
theorem dX9_findCrowned_72 : decode cX9_findCrowned 72 = .ok (.iconst 0, 1) := by decide +kernel
theorem dX9_findCrowned_73 : decode cX9_findCrowned 73 = .ok (.iconst (-1), 1) := by decide +kernel
theorem dX9_findCrowned_74 : decode cX9_findCrowned 74 = .ok (.iastore, 1) := by decide +kernel
theorem dX9_findCrowned_75 : decode cX9_findCrowned 75 = .ok (.iload_n 2, 1) := by decide +kernel
theorem dX9_findCrowned_76 : decode cX9_findCrowned 76 = .ok (.ifCond .lt 115, 3) := by decide +kernel
theorem dX9_findCrowned_79 : decode cX9_findCrowned 79 = .ok (.aload_n 0, 1) := by decide +kernel
theorem dX9_findCrowned_80 : decode cX9_findCrowned 80 = .ok (.getfield 126, 3) := by decide +kernel
theorem dX9_findCrowned_83 : decode cX9_findCrowned 83 = .ok (.iload_n 2, 1) := by decide +kernel
theorem dX9_findCrowned_84 : decode cX9_findCrowned 84 = .ok (.dup2, 1) := by decide +kernel
theorem dX9_findCrowned_85 : decode cX9_findCrowned 85 = .ok (.iaload, 1) := by decide +kernel
theorem dX9_findCrowned_86 : decode cX9_findCrowned 86 = .ok (.iconst 1, 1) := by decide +kernel
theorem dX9_findCrowned_87 : decode cX9_findCrowned 87 = .ok (.iadd, 1) := by decide +kernel
theorem dX9_findCrowned_88 : decode cX9_findCrowned 88 = .ok (.iastore, 1) := by decide +kernel
theorem dX9_findCrowned_89 : decode cX9_findCrowned 89 = .ok (.iload_n 2, 1) := by decide +kernel
theorem dX9_findCrowned_90 : decode cX9_findCrowned 90 = .ok (.iconst 4, 1) := by decide +kernel
theorem dX9_findCrowned_91 : decode cX9_findCrowned 91 = .ok (.if_icmp .eq 14, 3) := by decide +kernel
theorem dX9_findCrowned_94 : decode cX9_findCrowned 94 = .ok (.aload_n 0, 1) := by decide +kernel
theorem dX9_findCrowned_95 : decode cX9_findCrowned 95 = .ok (.getfield 126, 3) := by decide +kernel
theorem dX9_findCrowned_98 : decode cX9_findCrowned 98 = .ok (.iload_n 2, 1) := by decide +kernel
theorem dX9_findCrowned_99 : decode cX9_findCrowned 99 = .ok (.iaload, 1) := by decide +kernel
theorem dX9_findCrowned_100 : decode cX9_findCrowned 100 = .ok (.bipush 7, 2) := by decide +kernel
theorem dX9_findCrowned_102 : decode cX9_findCrowned 102 = .ok (.if_icmp .le 68, 3) := by decide +kernel
theorem dX9_findCrowned_105 : decode cX9_findCrowned 105 = .ok (.iload_n 2, 1) := by decide +kernel
theorem dX9_findCrowned_106 : decode cX9_findCrowned 106 = .ok (.iconst 4, 1) := by decide +kernel
theorem dX9_findCrowned_107 : decode cX9_findCrowned 107 = .ok (.if_icmp .ne 10, 3) := by decide +kernel
theorem dX9_findCrowned_110 : decode cX9_findCrowned 110 = .ok (.aload_n 0, 1) := by decide +kernel
theorem dX9_findCrowned_111 : decode cX9_findCrowned 111 = .ok (.invokevirtual 492, 3) := by decide +kernel
theorem dX9_findCrowned_114 : decode cX9_findCrowned 114 = .ok (.goto 4, 3) := by decide +kernel
theorem dX9_findCrowned_117 : decode cX9_findCrowned 117 = .ok (.iconst (-1), 1) := by decide +kernel
theorem dX9_findCrowned_118 : decode cX9_findCrowned 118 = .ok (.istore_n 3, 1) := by decide +kernel
theorem dX9_findCrowned_119 : decode cX9_findCrowned 119 = .ok (.iconst 0, 1) := by decide +kernel
theorem dX9_findCrowned_120 : decode cX9_findCrowned 120 = .ok (.istore 4, 2) := by decide +kernel
theorem dX9_findCrowned_122 : decode cX9_findCrowned 122 = .ok (.iload 4, 2) := by decide +kernel
theorem dX9_findCrowned_124 : decode cX9_findCrowned 124 = .ok (.iconst 4, 1) := by decide +kernel
theorem dX9_findCrowned_125 : decode cX9_findCrowned 125 = .ok (.if_icmp .ge 28, 3) := by decide +kernel
theorem dX9_findCrowned_128 : decode cX9_findCrowned 128 = .ok (.iload_n 3, 1) := by decide +kernel
theorem dX9_findCrowned_129 : decode cX9_findCrowned 129 = .ok (.iload_n 1, 1) := by decide +kernel
theorem dX9_findCrowned_130 : decode cX9_findCrowned 130 = .ok (.if_icmp .le 23, 3) := by decide +kernel
theorem dX9_findCrowned_133 : decode cX9_findCrowned 133 = .ok (.aload_n 0, 1) := by decide +kernel
theorem dX9_findCrowned_134 : decode cX9_findCrowned 134 = .ok (.getfield 129, 3) := by decide +kernel
theorem dX9_findCrowned_137 : decode cX9_findCrowned 137 = .ok (.iload 4, 2) := by decide +kernel
theorem dX9_findCrowned_139 : decode cX9_findCrowned 139 = .ok (.aload_n 0, 1) := by decide +kernel
theorem dX9_findCrowned_140 : decode cX9_findCrowned 140 = .ok (.getfield 126, 3) := by decide +kernel
theorem dX9_findCrowned_143 : decode cX9_findCrowned 143 = .ok (.iload 4, 2) := by decide +kernel
theorem dX9_findCrowned_145 : decode cX9_findCrowned 145 = .ok (.iaload, 1) := by decide +kernel
theorem dX9_findCrowned_146 : decode cX9_findCrowned 146 = .ok (.iastore, 1) := by decide +kernel
theorem dX9_findCrowned_147 : decode cX9_findCrowned 147 = .ok (.iinc 4 1, 3) := by decide +kernel
theorem dX9_findCrowned_150 : decode cX9_findCrowned 150 = .ok (.goto (-28), 3) := by decide +kernel
theorem dX9_findCrowned_153 : decode cX9_findCrowned 153 = .ok (.iload_n 3, 1) := by decide +kernel
theorem dX9_findCrowned_154 : decode cX9_findCrowned 154 = .ok (.iload_n 1, 1) := by decide +kernel
theorem dX9_findCrowned_155 : decode cX9_findCrowned 155 = .ok (.if_icmp .le 7, 3) := by decide +kernel
theorem dX9_findCrowned_158 : decode cX9_findCrowned 158 = .ok (.iload_n 3, 1) := by decide +kernel
theorem dX9_findCrowned_159 : decode cX9_findCrowned 159 = .ok (.goto 4, 3) := by decide +kernel
theorem dX9_findCrowned_162 : decode cX9_findCrowned 162 = .ok (.iload_n 1, 1) := by decide +kernel
theorem dX9_findCrowned_163 : decode cX9_findCrowned 163 = .ok (.istore_n 1, 1) := by decide +kernel
theorem dX9_findCrowned_164 : decode cX9_findCrowned 164 = .ok (.iinc 2 (-1), 3) := by decide +kernel
theorem dX9_findCrowned_167 : decode cX9_findCrowned 167 = .ok (.goto (-92), 3) := by decide +kernel
theorem dX9_findCrowned_170 : decode cX9_findCrowned 170 = .ok (.aload_n 0, 1) := by decide +kernel
theorem dX9_findCrowned_171 : decode cX9_findCrowned 171 = .ok (.iload_n 2, 1) := by decide +kernel
theorem dX9_findCrowned_172 : decode cX9_findCrowned 172 = .ok (.invokevirtual 495, 3) := by decide +kernel
theorem dX9_findCrowned_175 : decode cX9_findCrowned 175 = .ok (.ifCond .eq (-100), 3) := by decide +kernel
theorem dX9_findCrowned_178 : decode cX9_findCrowned 178 = .ok (.iinc 2 1, 3) := by decide +kernel
theorem dX9_findCrowned_181 : decode cX9_findCrowned 181 = .ok (.aload_n 0, 1) := by decide +kernel
theorem dX9_findCrowned_182 : decode cX9_findCrowned 182 = .ok (.getfield 126, 3) := by decide +kernel
theorem dX9_findCrowned_185 : decode cX9_findCrowned 185 = .ok (.iload_n 2, 1) := by decide +kernel
theorem dX9_findCrowned_186 : decode cX9_findCrowned 186 = .ok (.iconst (-1), 1) := by decide +kernel
theorem dX9_findCrowned_187 : decode cX9_findCrowned 187 = .ok (.iastore, 1) := by decide +kernel
theorem dX9_findCrowned_188 : decode cX9_findCrowned 188 = .ok (.goto (-113), 3) := by decide +kernel
theorem dX9_findCrowned_191 : decode cX9_findCrowned 191 = .ok (.iload_n 1, 1) := by decide +kernel
theorem dX9_findCrowned_192 : decode cX9_findCrowned 192 = .ok (.ireturn, 1) := by decide +kernel
theorem dX9_force_0 : decode cX9_force 0 = .ok (.aload_n 0, 1) := by decide +kernel
theorem dX9_force_1 : decode cX9_force 1 = .ok (.iconst 0, 1) := by decide +kernel
theorem dX9_force_2 : decode cX9_force 2 = .ok (.putfield 165, 3) := by decide +kernel
theorem dX9_force_5 : decode cX9_force 5 = .ok (.aload_n 0, 1) := by decide +kernel
theorem dX9_force_6 : decode cX9_force 6 = .ok (.iload_n 1, 1) := by decide +kernel
theorem dX9_force_7 : decode cX9_force 7 = .ok (.invokevirtual 394, 3) := by decide +kernel
theorem dX9_force_10 : decode cX9_force 10 = .ok (.ifCond .eq 12, 3) := by decide +kernel
theorem dX9_force_13 : decode cX9_force 13 = .ok (.aload_n 0, 1) := by decide +kernel
theorem dX9_force_14 : decode cX9_force 14 = .ok (.iconst 3, 1) := by decide +kernel
theorem dX9_force_15 : decode cX9_force 15 = .ok (.iload_n 1, 1) := by decide +kernel
theorem dX9_force_16 : decode cX9_force 16 = .ok (.invokevirtual 216, 3) := by decide +kernel
theorem dX9_force_19 : decode cX9_force 19 = .ok (.goto 9, 3) := by decide +kernel
theorem dX9_force_22 : decode cX9_force 22 = .ok (.aload_n 0, 1) := by decide +kernel
theorem dX9_force_23 : decode cX9_force 23 = .ok (.bipush (-2), 2) := by decide +kernel
theorem dX9_force_25 : decode cX9_force 25 = .ok (.invokevirtual 174, 3) := by decide +kernel
theorem dX9_force_28 : decode cX9_force 28 = .ok (.ireturn, 1) := by decide +kernel
theorem dX9_forget_0 : decode cX9_forget 0 = .ok (.aload_n 0, 1) := by decide +kernel
theorem dX9_forget_1 : decode cX9_forget 1 = .ok (.iconst 0, 1) := by decide +kernel
theorem dX9_forget_2 : decode cX9_forget 2 = .ok (.putfield 165, 3) := by decide +kernel
theorem dX9_forget_5 : decode cX9_forget 5 = .ok (.aload_n 0, 1) := by decide +kernel
theorem dX9_forget_6 : decode cX9_forget 6 = .ok (.getfield 13, 3) := by decide +kernel
theorem dX9_forget_9 : decode cX9_forget 9 = .ok (.iconst 1, 1) := by decide +kernel
theorem dX9_forget_10 : decode cX9_forget 10 = .ok (.iaload, 1) := by decide +kernel
theorem dX9_forget_11 : decode cX9_forget 11 = .ok (.istore_n 1, 1) := by decide +kernel
theorem dX9_forget_12 : decode cX9_forget 12 = .ok (.aload_n 0, 1) := by decide +kernel
theorem dX9_forget_13 : decode cX9_forget 13 = .ok (.getfield 13, 3) := by decide +kernel
theorem dX9_forget_16 : decode cX9_forget 16 = .ok (.iconst 1, 1) := by decide +kernel
theorem dX9_forget_17 : decode cX9_forget 17 = .ok (.iconst 0, 1) := by decide +kernel
theorem dX9_forget_18 : decode cX9_forget 18 = .ok (.iastore, 1) := by decide +kernel
theorem dX9_forget_19 : decode cX9_forget 19 = .ok (.iload_n 1, 1) := by decide +kernel
theorem dX9_forget_20 : decode cX9_forget 20 = .ok (.ireturn, 1) := by decide +kernel
theorem dX9_four_0 : decode cX9_four 0 = .ok (.bipush 24, 2) := by decide +kernel
theorem dX9_four_2 : decode cX9_four 2 = .ok (.istore_n 2, 1) := by decide +kernel
theorem dX9_four_3 : decode cX9_four 3 = .ok (.iload_n 2, 1) := by decide +kernel
theorem dX9_four_4 : decode cX9_four 4 = .ok (.ifCond .lt 35, 3) := by decide +kernel
theorem dX9_four_7 : decode cX9_four 7 = .ok (.aload_n 0, 1) := by decide +kernel
theorem dX9_four_8 : decode cX9_four 8 = .ok (.getfield 35, 3) := by decide +kernel
theorem dX9_four_11 : decode cX9_four 11 = .ok (.aload_n 0, 1) := by decide +kernel
theorem dX9_four_12 : decode cX9_four 12 = .ok (.getfield 231, 3) := by decide +kernel
theorem dX9_four_15 : decode cX9_four 15 = .ok (.iload_n 1, 1) := by decide +kernel
theorem dX9_four_16 : decode cX9_four 16 = .ok (.iload_n 2, 1) := by decide +kernel
theorem dX9_four_17 : decode cX9_four 17 = .ok (.ishr, 1) := by decide +kernel
theorem dX9_four_18 : decode cX9_four 18 = .ok (.sipush 255, 3) := by decide +kernel
theorem dX9_four_21 : decode cX9_four 21 = .ok (.iand, 1) := by decide +kernel
theorem dX9_four_22 : decode cX9_four 22 = .ok (.iastore, 1) := by decide +kernel
theorem dX9_four_23 : decode cX9_four 23 = .ok (.aload_n 0, 1) := by decide +kernel
theorem dX9_four_24 : decode cX9_four 24 = .ok (.dup, 1) := by decide +kernel
theorem dX9_four_25 : decode cX9_four 25 = .ok (.getfield 231, 3) := by decide +kernel
theorem dX9_four_28 : decode cX9_four 28 = .ok (.iconst 1, 1) := by decide +kernel
theorem dX9_four_29 : decode cX9_four 29 = .ok (.iadd, 1) := by decide +kernel
theorem dX9_four_30 : decode cX9_four 30 = .ok (.putfield 231, 3) := by decide +kernel
theorem dX9_four_33 : decode cX9_four 33 = .ok (.iinc 2 (-8), 3) := by decide +kernel
theorem dX9_four_36 : decode cX9_four 36 = .ok (.goto (-33), 3) := by decide +kernel
theorem dX9_four_39 : decode cX9_four 39 = .ok (.return_, 1) := by decide +kernel
theorem dX9_heir_0 : decode cX9_heir 0 = .ok (.aload_n 0, 1) := by decide +kernel
theorem dX9_heir_1 : decode cX9_heir 1 = .ok (.iconst 0, 1) := by decide +kernel
theorem dX9_heir_2 : decode cX9_heir 2 = .ok (.putfield 165, 3) := by decide +kernel
theorem dX9_heir_5 : decode cX9_heir 5 = .ok (.aload_n 0, 1) := by decide +kernel
theorem dX9_heir_6 : decode cX9_heir 6 = .ok (.invokevirtual 504, 3) := by decide +kernel
theorem dX9_heir_9 : decode cX9_heir 9 = .ok (.istore_n 2, 1) := by decide +kernel
theorem dX9_heir_10 : decode cX9_heir 10 = .ok (.iload_n 1, 1) := by decide +kernel
theorem dX9_heir_11 : decode cX9_heir 11 = .ok (.iconst (-1), 1) := by decide +kernel
theorem dX9_heir_12 : decode cX9_heir 12 = .ok (.if_icmp .ne 7, 3) := by decide +kernel
theorem dX9_heir_15 : decode cX9_heir 15 = .ok (.iload_n 2, 1) := by decide +kernel
theorem dX9_heir_16 : decode cX9_heir 16 = .ok (.goto 26, 3) := by decide +kernel
theorem dX9_heir_19 : decode cX9_heir 19 = .ok (.iload_n 1, 1) := by decide +kernel
theorem dX9_heir_20 : decode cX9_heir 20 = .ok (.i2l, 1) := by decide +kernel
theorem dX9_heir_21 : decode cX9_heir 21 = .ok (.lconst 0, 1) := by decide +kernel
theorem dX9_heir_22 : decode cX9_heir 22 = .ok (.iload_n 2, 1) := by decide +kernel
theorem dX9_heir_23 : decode cX9_heir 23 = .ok (.i2l, 1) := by decide +kernel
theorem dX9_heir_24 : decode cX9_heir 24 = .ok (.lconst 1, 1) := by decide +kernel
theorem dX9_heir_25 : decode cX9_heir 25 = .ok (.lsub, 1) := by decide +kernel
theorem dX9_heir_26 : decode cX9_heir 26 = .ok (.invokestatic 185, 3) := by decide +kernel
theorem dX9_heir_29 : decode cX9_heir 29 = .ok (.ifCond .eq 12, 3) := by decide +kernel
theorem dX9_heir_32 : decode cX9_heir 32 = .ok (.aload_n 0, 1) := by decide +kernel
theorem dX9_heir_33 : decode cX9_heir 33 = .ok (.getfield 135, 3) := by decide +kernel
theorem dX9_heir_36 : decode cX9_heir 36 = .ok (.iload_n 1, 1) := by decide +kernel
theorem dX9_heir_37 : decode cX9_heir 37 = .ok (.iaload, 1) := by decide +kernel
theorem dX9_heir_38 : decode cX9_heir 38 = .ok (.goto 4, 3) := by decide +kernel
theorem dX9_heir_41 : decode cX9_heir 41 = .ok (.iconst (-1), 1) := by decide +kernel
theorem dX9_heir_42 : decode cX9_heir 42 = .ok (.ireturn, 1) := by decide +kernel
theorem dX9_image_0 : decode cX9_image 0 = .ok (.aload_n 0, 1) := by decide +kernel
theorem dX9_image_1 : decode cX9_image 1 = .ok (.iconst 0, 1) := by decide +kernel
theorem dX9_image_2 : decode cX9_image 2 = .ok (.putfield 165, 3) := by decide +kernel
theorem dX9_image_5 : decode cX9_image 5 = .ok (.iload_n 1, 1) := by decide +kernel
theorem dX9_image_6 : decode cX9_image 6 = .ok (.i2l, 1) := by decide +kernel
theorem dX9_image_7 : decode cX9_image 7 = .ok (.lconst 0, 1) := by decide +kernel
theorem dX9_image_8 : decode cX9_image 8 = .ok (.lconst 1, 1) := by decide +kernel
theorem dX9_image_9 : decode cX9_image 9 = .ok (.invokestatic 185, 3) := by decide +kernel
theorem dX9_image_12 : decode cX9_image 12 = .ok (.ifCond .ne 9, 3) := by decide +kernel
theorem dX9_image_15 : decode cX9_image 15 = .ok (.aload_n 0, 1) := by decide +kernel
theorem dX9_image_16 : decode cX9_image 16 = .ok (.iconst (-1), 1) := by decide +kernel
theorem dX9_image_17 : decode cX9_image 17 = .ok (.invokevirtual 174, 3) := by decide +kernel
theorem dX9_image_20 : decode cX9_image 20 = .ok (.ireturn, 1) := by decide +kernel
theorem dX9_image_21 : decode cX9_image 21 = .ok (.iconst 0, 1) := by decide +kernel
theorem dX9_image_22 : decode cX9_image 22 = .ok (.istore_n 2, 1) := by decide +kernel
theorem dX9_image_23 : decode cX9_image 23 = .ok (.iload_n 2, 1) := by decide +kernel
theorem dX9_image_24 : decode cX9_image 24 = .ok (.sipush 5484, 3) := by decide +kernel
theorem dX9_image_27 : decode cX9_image 27 = .ok (.if_icmp .ge 27, 3) := by decide +kernel
theorem dX9_image_30 : decode cX9_image 30 = .ok (.aload_n 0, 1) := by decide +kernel
theorem dX9_image_31 : decode cX9_image 31 = .ok (.getfield 16, 3) := by decide +kernel
theorem dX9_image_34 : decode cX9_image 34 = .ok (.sipush 5484, 3) := by decide +kernel
theorem dX9_image_37 : decode cX9_image 37 = .ok (.iload_n 1, 1) := by decide +kernel
theorem dX9_image_38 : decode cX9_image 38 = .ok (.imul, 1) := by decide +kernel
theorem dX9_image_39 : decode cX9_image 39 = .ok (.iload_n 2, 1) := by decide +kernel
theorem dX9_image_40 : decode cX9_image 40 = .ok (.iadd, 1) := by decide +kernel
theorem dX9_image_41 : decode cX9_image 41 = .ok (.aload_n 0, 1) := by decide +kernel
theorem dX9_image_42 : decode cX9_image 42 = .ok (.getfield 13, 3) := by decide +kernel
theorem dX9_image_45 : decode cX9_image 45 = .ok (.iload_n 2, 1) := by decide +kernel
theorem dX9_image_46 : decode cX9_image 46 = .ok (.iaload, 1) := by decide +kernel
theorem dX9_image_47 : decode cX9_image 47 = .ok (.iastore, 1) := by decide +kernel
theorem dX9_image_48 : decode cX9_image 48 = .ok (.iinc 2 1, 3) := by decide +kernel
theorem dX9_image_51 : decode cX9_image 51 = .ok (.goto (-28), 3) := by decide +kernel
theorem dX9_image_54 : decode cX9_image 54 = .ok (.aload_n 0, 1) := by decide +kernel
theorem dX9_image_55 : decode cX9_image 55 = .ok (.getfield 19, 3) := by decide +kernel
theorem dX9_image_58 : decode cX9_image 58 = .ok (.iload_n 1, 1) := by decide +kernel
theorem dX9_image_59 : decode cX9_image 59 = .ok (.iconst 1, 1) := by decide +kernel
theorem dX9_image_60 : decode cX9_image 60 = .ok (.bastore, 1) := by decide +kernel
theorem dX9_image_61 : decode cX9_image 61 = .ok (.aload_n 0, 1) := by decide +kernel
theorem dX9_image_62 : decode cX9_image 62 = .ok (.iconst 0, 1) := by decide +kernel
theorem dX9_image_63 : decode cX9_image 63 = .ok (.invokevirtual 174, 3) := by decide +kernel
theorem dX9_image_66 : decode cX9_image 66 = .ok (.ireturn, 1) := by decide +kernel
theorem dX9_in_0 : decode cX9_in 0 = .ok (.lload_n 0, 1) := by decide +kernel
theorem dX9_in_1 : decode cX9_in 1 = .ok (.lload_n 2, 1) := by decide +kernel
theorem dX9_in_2 : decode cX9_in 2 = .ok (.lcmp, 1) := by decide +kernel
theorem dX9_in_3 : decode cX9_in 3 = .ok (.ifCond .lt 14, 3) := by decide +kernel
theorem dX9_in_6 : decode cX9_in 6 = .ok (.lload_n 0, 1) := by decide +kernel
theorem dX9_in_7 : decode cX9_in 7 = .ok (.lload 4, 2) := by decide +kernel
theorem dX9_in_9 : decode cX9_in 9 = .ok (.lcmp, 1) := by decide +kernel
theorem dX9_in_10 : decode cX9_in 10 = .ok (.ifCond .gt 7, 3) := by decide +kernel
theorem dX9_in_13 : decode cX9_in 13 = .ok (.iconst 1, 1) := by decide +kernel
theorem dX9_in_14 : decode cX9_in 14 = .ok (.goto 4, 3) := by decide +kernel
theorem dX9_in_17 : decode cX9_in 17 = .ok (.iconst 0, 1) := by decide +kernel
theorem dX9_in_18 : decode cX9_in 18 = .ok (.ireturn, 1) := by decide +kernel
theorem dX9_init_0 : decode cX9_init 0 = .ok (.aload_n 0, 1) := by decide +kernel
theorem dX9_init_1 : decode cX9_init 1 = .ok (.invokespecial 1, 3) := by decide +kernel
theorem dX9_init_4 : decode cX9_init 4 = .ok (.aload_n 0, 1) := by decide +kernel
theorem dX9_init_5 : decode cX9_init 5 = .ok (.bipush 7, 2) := by decide +kernel
theorem dX9_init_7 : decode cX9_init 7 = .ok (.newarray .int, 2) := by decide +kernel
theorem dX9_init_9 : decode cX9_init 9 = .ok (.putfield 7, 3) := by decide +kernel
theorem dX9_init_12 : decode cX9_init 12 = .ok (.aload_n 0, 1) := by decide +kernel
theorem dX9_init_13 : decode cX9_init 13 = .ok (.sipush 5484, 3) := by decide +kernel
theorem dX9_init_16 : decode cX9_init 16 = .ok (.newarray .int, 2) := by decide +kernel
theorem dX9_init_18 : decode cX9_init 18 = .ok (.putfield 13, 3) := by decide +kernel
theorem dX9_init_21 : decode cX9_init 21 = .ok (.aload_n 0, 1) := by decide +kernel
theorem dX9_init_22 : decode cX9_init 22 = .ok (.sipush 10968, 3) := by decide +kernel
theorem dX9_init_25 : decode cX9_init 25 = .ok (.newarray .int, 2) := by decide +kernel
theorem dX9_init_27 : decode cX9_init 27 = .ok (.putfield 16, 3) := by decide +kernel
theorem dX9_init_30 : decode cX9_init 30 = .ok (.aload_n 0, 1) := by decide +kernel
theorem dX9_init_31 : decode cX9_init 31 = .ok (.iconst 2, 1) := by decide +kernel
theorem dX9_init_32 : decode cX9_init 32 = .ok (.newarray .boolean, 2) := by decide +kernel
theorem dX9_init_34 : decode cX9_init 34 = .ok (.putfield 19, 3) := by decide +kernel
theorem dX9_init_37 : decode cX9_init 37 = .ok (.aload_n 0, 1) := by decide +kernel
theorem dX9_init_38 : decode cX9_init 38 = .ok (.sipush 450, 3) := by decide +kernel
theorem dX9_init_41 : decode cX9_init 41 = .ok (.newarray .int, 2) := by decide +kernel
theorem dX9_init_43 : decode cX9_init 43 = .ok (.putfield 23, 3) := by decide +kernel
theorem dX9_init_46 : decode cX9_init 46 = .ok (.aload_n 0, 1) := by decide +kernel
theorem dX9_init_47 : decode cX9_init 47 = .ok (.bipush 16, 2) := by decide +kernel
theorem dX9_init_49 : decode cX9_init 49 = .ok (.newarray .int, 2) := by decide +kernel
theorem dX9_init_51 : decode cX9_init 51 = .ok (.putfield 26, 3) := by decide +kernel
theorem dX9_init_54 : decode cX9_init 54 = .ok (.aload_n 0, 1) := by decide +kernel
theorem dX9_init_55 : decode cX9_init 55 = .ok (.sipush 400, 3) := by decide +kernel
theorem dX9_init_58 : decode cX9_init 58 = .ok (.newarray .int, 2) := by decide +kernel
theorem dX9_init_60 : decode cX9_init 60 = .ok (.putfield 29, 3) := by decide +kernel
theorem dX9_init_63 : decode cX9_init 63 = .ok (.aload_n 0, 1) := by decide +kernel
theorem dX9_init_64 : decode cX9_init 64 = .ok (.bipush 16, 2) := by decide +kernel
theorem dX9_init_66 : decode cX9_init 66 = .ok (.newarray .int, 2) := by decide +kernel
theorem dX9_init_68 : decode cX9_init 68 = .ok (.putfield 32, 3) := by decide +kernel
theorem dX9_init_71 : decode cX9_init 71 = .ok (.aload_n 0, 1) := by decide +kernel
theorem dX9_init_72 : decode cX9_init 72 = .ok (.sipush 400, 3) := by decide +kernel
theorem dX9_init_75 : decode cX9_init 75 = .ok (.newarray .int, 2) := by decide +kernel
theorem dX9_init_77 : decode cX9_init 77 = .ok (.putfield 35, 3) := by decide +kernel
theorem dX9_init_80 : decode cX9_init 80 = .ok (.aload_n 0, 1) := by decide +kernel
theorem dX9_init_81 : decode cX9_init 81 = .ok (.iconst (-1), 1) := by decide +kernel
theorem dX9_init_82 : decode cX9_init 82 = .ok (.putfield 38, 3) := by decide +kernel
theorem dX9_init_85 : decode cX9_init 85 = .ok (.aload_n 0, 1) := by decide +kernel
theorem dX9_init_86 : decode cX9_init 86 = .ok (.bipush 96, 2) := by decide +kernel
theorem dX9_init_88 : decode cX9_init 88 = .ok (.newarray .int, 2) := by decide +kernel
theorem dX9_init_90 : decode cX9_init 90 = .ok (.putfield 42, 3) := by decide +kernel
theorem dX9_init_93 : decode cX9_init 93 = .ok (.aload_n 0, 1) := by decide +kernel
theorem dX9_init_94 : decode cX9_init 94 = .ok (.sipush 400, 3) := by decide +kernel
theorem dX9_init_97 : decode cX9_init 97 = .ok (.newarray .int, 2) := by decide +kernel
theorem dX9_init_99 : decode cX9_init 99 = .ok (.putfield 45, 3) := by decide +kernel
theorem dX9_init_102 : decode cX9_init 102 = .ok (.aload_n 0, 1) := by decide +kernel
theorem dX9_init_103 : decode cX9_init 103 = .ok (.sipush 400, 3) := by decide +kernel
theorem dX9_init_106 : decode cX9_init 106 = .ok (.newarray .int, 2) := by decide +kernel
theorem dX9_init_108 : decode cX9_init 108 = .ok (.putfield 48, 3) := by decide +kernel
theorem dX9_init_111 : decode cX9_init 111 = .ok (.aload_n 0, 1) := by decide +kernel
theorem dX9_init_112 : decode cX9_init 112 = .ok (.sipush 400, 3) := by decide +kernel
theorem dX9_init_115 : decode cX9_init 115 = .ok (.newarray .int, 2) := by decide +kernel
theorem dX9_init_117 : decode cX9_init 117 = .ok (.putfield 51, 3) := by decide +kernel
theorem dX9_init_120 : decode cX9_init 120 = .ok (.aload_n 0, 1) := by decide +kernel
theorem dX9_init_121 : decode cX9_init 121 = .ok (.sipush 400, 3) := by decide +kernel
theorem dX9_init_124 : decode cX9_init 124 = .ok (.newarray .int, 2) := by decide +kernel
theorem dX9_init_126 : decode cX9_init 126 = .ok (.putfield 54, 3) := by decide +kernel
theorem dX9_init_129 : decode cX9_init 129 = .ok (.aload_n 0, 1) := by decide +kernel
theorem dX9_init_130 : decode cX9_init 130 = .ok (.bipush 9, 2) := by decide +kernel
theorem dX9_init_132 : decode cX9_init 132 = .ok (.newarray .long, 2) := by decide +kernel
theorem dX9_init_134 : decode cX9_init 134 = .ok (.dup, 1) := by decide +kernel
theorem dX9_init_135 : decode cX9_init 135 = .ok (.iconst 0, 1) := by decide +kernel
theorem dX9_init_136 : decode cX9_init 136 = .ok (.ldc2_w 57, 3) := by decide +kernel
theorem dX9_init_139 : decode cX9_init 139 = .ok (.lastore, 1) := by decide +kernel
theorem dX9_init_140 : decode cX9_init 140 = .ok (.dup, 1) := by decide +kernel
theorem dX9_init_141 : decode cX9_init 141 = .ok (.iconst 1, 1) := by decide +kernel
theorem dX9_init_142 : decode cX9_init 142 = .ok (.ldc2_w 59, 3) := by decide +kernel
theorem dX9_init_145 : decode cX9_init 145 = .ok (.lastore, 1) := by decide +kernel
theorem dX9_init_146 : decode cX9_init 146 = .ok (.dup, 1) := by decide +kernel
theorem dX9_init_147 : decode cX9_init 147 = .ok (.iconst 2, 1) := by decide +kernel
theorem dX9_init_148 : decode cX9_init 148 = .ok (.ldc2_w 61, 3) := by decide +kernel
theorem dX9_init_151 : decode cX9_init 151 = .ok (.lastore, 1) := by decide +kernel
theorem dX9_init_152 : decode cX9_init 152 = .ok (.dup, 1) := by decide +kernel
theorem dX9_init_153 : decode cX9_init 153 = .ok (.iconst 3, 1) := by decide +kernel
theorem dX9_init_154 : decode cX9_init 154 = .ok (.ldc2_w 63, 3) := by decide +kernel
theorem dX9_init_157 : decode cX9_init 157 = .ok (.lastore, 1) := by decide +kernel
theorem dX9_init_158 : decode cX9_init 158 = .ok (.dup, 1) := by decide +kernel
theorem dX9_init_159 : decode cX9_init 159 = .ok (.iconst 4, 1) := by decide +kernel
theorem dX9_init_160 : decode cX9_init 160 = .ok (.ldc2_w 65, 3) := by decide +kernel
theorem dX9_init_163 : decode cX9_init 163 = .ok (.lastore, 1) := by decide +kernel
theorem dX9_init_164 : decode cX9_init 164 = .ok (.dup, 1) := by decide +kernel
theorem dX9_init_165 : decode cX9_init 165 = .ok (.iconst 5, 1) := by decide +kernel
theorem dX9_init_166 : decode cX9_init 166 = .ok (.ldc2_w 67, 3) := by decide +kernel
theorem dX9_init_169 : decode cX9_init 169 = .ok (.lastore, 1) := by decide +kernel
theorem dX9_init_170 : decode cX9_init 170 = .ok (.dup, 1) := by decide +kernel
theorem dX9_init_171 : decode cX9_init 171 = .ok (.bipush 6, 2) := by decide +kernel
theorem dX9_init_173 : decode cX9_init 173 = .ok (.ldc2_w 69, 3) := by decide +kernel
theorem dX9_init_176 : decode cX9_init 176 = .ok (.lastore, 1) := by decide +kernel
theorem dX9_init_177 : decode cX9_init 177 = .ok (.dup, 1) := by decide +kernel
theorem dX9_init_178 : decode cX9_init 178 = .ok (.bipush 7, 2) := by decide +kernel
theorem dX9_init_180 : decode cX9_init 180 = .ok (.ldc2_w 71, 3) := by decide +kernel
theorem dX9_init_183 : decode cX9_init 183 = .ok (.lastore, 1) := by decide +kernel
theorem dX9_init_184 : decode cX9_init 184 = .ok (.dup, 1) := by decide +kernel
theorem dX9_init_185 : decode cX9_init 185 = .ok (.bipush 8, 2) := by decide +kernel
theorem dX9_init_187 : decode cX9_init 187 = .ok (.ldc2_w 73, 3) := by decide +kernel
theorem dX9_init_190 : decode cX9_init 190 = .ok (.lastore, 1) := by decide +kernel
theorem dX9_init_191 : decode cX9_init 191 = .ok (.putfield 75, 3) := by decide +kernel
theorem dX9_init_194 : decode cX9_init 194 = .ok (.aload_n 0, 1) := by decide +kernel
theorem dX9_init_195 : decode cX9_init 195 = .ok (.bipush 7, 2) := by decide +kernel
theorem dX9_init_197 : decode cX9_init 197 = .ok (.newarray .long, 2) := by decide +kernel
theorem dX9_init_199 : decode cX9_init 199 = .ok (.dup, 1) := by decide +kernel
theorem dX9_init_200 : decode cX9_init 200 = .ok (.iconst 0, 1) := by decide +kernel
theorem dX9_init_201 : decode cX9_init 201 = .ok (.ldc2_w 71, 3) := by decide +kernel
theorem dX9_init_204 : decode cX9_init 204 = .ok (.lastore, 1) := by decide +kernel
theorem dX9_init_205 : decode cX9_init 205 = .ok (.dup, 1) := by decide +kernel
theorem dX9_init_206 : decode cX9_init 206 = .ok (.iconst 1, 1) := by decide +kernel
theorem dX9_init_207 : decode cX9_init 207 = .ok (.ldc2_w 79, 3) := by decide +kernel
theorem dX9_init_210 : decode cX9_init 210 = .ok (.lastore, 1) := by decide +kernel
theorem dX9_init_211 : decode cX9_init 211 = .ok (.dup, 1) := by decide +kernel
theorem dX9_init_212 : decode cX9_init 212 = .ok (.iconst 2, 1) := by decide +kernel
theorem dX9_init_213 : decode cX9_init 213 = .ok (.ldc2_w 81, 3) := by decide +kernel
theorem dX9_init_216 : decode cX9_init 216 = .ok (.lastore, 1) := by decide +kernel
theorem dX9_init_217 : decode cX9_init 217 = .ok (.dup, 1) := by decide +kernel
theorem dX9_init_218 : decode cX9_init 218 = .ok (.iconst 3, 1) := by decide +kernel
theorem dX9_init_219 : decode cX9_init 219 = .ok (.ldc2_w 69, 3) := by decide +kernel
theorem dX9_init_222 : decode cX9_init 222 = .ok (.lastore, 1) := by decide +kernel
theorem dX9_init_223 : decode cX9_init 223 = .ok (.dup, 1) := by decide +kernel
theorem dX9_init_224 : decode cX9_init 224 = .ok (.iconst 4, 1) := by decide +kernel
theorem dX9_init_225 : decode cX9_init 225 = .ok (.ldc2_w 83, 3) := by decide +kernel
theorem dX9_init_228 : decode cX9_init 228 = .ok (.lastore, 1) := by decide +kernel
theorem dX9_init_229 : decode cX9_init 229 = .ok (.dup, 1) := by decide +kernel
theorem dX9_init_230 : decode cX9_init 230 = .ok (.iconst 5, 1) := by decide +kernel
theorem dX9_init_231 : decode cX9_init 231 = .ok (.ldc2_w 65, 3) := by decide +kernel
theorem dX9_init_234 : decode cX9_init 234 = .ok (.lastore, 1) := by decide +kernel
theorem dX9_init_235 : decode cX9_init 235 = .ok (.dup, 1) := by decide +kernel
theorem dX9_init_236 : decode cX9_init 236 = .ok (.bipush 6, 2) := by decide +kernel
theorem dX9_init_238 : decode cX9_init 238 = .ok (.ldc2_w 63, 3) := by decide +kernel
theorem dX9_init_241 : decode cX9_init 241 = .ok (.lastore, 1) := by decide +kernel
theorem dX9_init_242 : decode cX9_init 242 = .ok (.putfield 85, 3) := by decide +kernel
theorem dX9_init_245 : decode cX9_init 245 = .ok (.aload_n 0, 1) := by decide +kernel
theorem dX9_init_246 : decode cX9_init 246 = .ok (.iconst 4, 1) := by decide +kernel
theorem dX9_init_247 : decode cX9_init 247 = .ok (.newarray .long, 2) := by decide +kernel
theorem dX9_init_249 : decode cX9_init 249 = .ok (.dup, 1) := by decide +kernel
theorem dX9_init_250 : decode cX9_init 250 = .ok (.iconst 0, 1) := by decide +kernel
theorem dX9_init_251 : decode cX9_init 251 = .ok (.ldc2_w 88, 3) := by decide +kernel
theorem dX9_init_254 : decode cX9_init 254 = .ok (.lastore, 1) := by decide +kernel
theorem dX9_init_255 : decode cX9_init 255 = .ok (.dup, 1) := by decide +kernel
theorem dX9_init_256 : decode cX9_init 256 = .ok (.iconst 1, 1) := by decide +kernel
theorem dX9_init_257 : decode cX9_init 257 = .ok (.ldc2_w 90, 3) := by decide +kernel
theorem dX9_init_260 : decode cX9_init 260 = .ok (.lastore, 1) := by decide +kernel
theorem dX9_init_261 : decode cX9_init 261 = .ok (.dup, 1) := by decide +kernel
theorem dX9_init_262 : decode cX9_init 262 = .ok (.iconst 2, 1) := by decide +kernel
theorem dX9_init_263 : decode cX9_init 263 = .ok (.ldc2_w 92, 3) := by decide +kernel
theorem dX9_init_266 : decode cX9_init 266 = .ok (.lastore, 1) := by decide +kernel
theorem dX9_init_267 : decode cX9_init 267 = .ok (.dup, 1) := by decide +kernel
theorem dX9_init_268 : decode cX9_init 268 = .ok (.iconst 3, 1) := by decide +kernel
theorem dX9_init_269 : decode cX9_init 269 = .ok (.ldc2_w 94, 3) := by decide +kernel
theorem dX9_init_272 : decode cX9_init 272 = .ok (.lastore, 1) := by decide +kernel
theorem dX9_init_273 : decode cX9_init 273 = .ok (.putfield 96, 3) := by decide +kernel
theorem dX9_init_276 : decode cX9_init 276 = .ok (.aload_n 0, 1) := by decide +kernel
theorem dX9_init_277 : decode cX9_init 277 = .ok (.bipush 13, 2) := by decide +kernel
theorem dX9_init_279 : decode cX9_init 279 = .ok (.newarray .long, 2) := by decide +kernel
theorem dX9_init_281 : decode cX9_init 281 = .ok (.putfield 99, 3) := by decide +kernel
theorem dX9_init_284 : decode cX9_init 284 = .ok (.aload_n 0, 1) := by decide +kernel
theorem dX9_init_285 : decode cX9_init 285 = .ok (.bipush 13, 2) := by decide +kernel
theorem dX9_init_287 : decode cX9_init 287 = .ok (.newarray .long, 2) := by decide +kernel
theorem dX9_init_289 : decode cX9_init 289 = .ok (.putfield 102, 3) := by decide +kernel
theorem dX9_init_292 : decode cX9_init 292 = .ok (.aload_n 0, 1) := by decide +kernel
theorem dX9_init_293 : decode cX9_init 293 = .ok (.sipush 400, 3) := by decide +kernel
theorem dX9_init_296 : decode cX9_init 296 = .ok (.newarray .long, 2) := by decide +kernel
theorem dX9_init_298 : decode cX9_init 298 = .ok (.putfield 105, 3) := by decide +kernel
theorem dX9_init_301 : decode cX9_init 301 = .ok (.aload_n 0, 1) := by decide +kernel
theorem dX9_init_302 : decode cX9_init 302 = .ok (.bipush 7, 2) := by decide +kernel
theorem dX9_init_304 : decode cX9_init 304 = .ok (.newarray .int, 2) := by decide +kernel
theorem dX9_init_306 : decode cX9_init 306 = .ok (.putfield 108, 3) := by decide +kernel
theorem dX9_init_309 : decode cX9_init 309 = .ok (.aload_n 0, 1) := by decide +kernel
theorem dX9_init_310 : decode cX9_init 310 = .ok (.bipush 7, 2) := by decide +kernel
theorem dX9_init_312 : decode cX9_init 312 = .ok (.newarray .int, 2) := by decide +kernel
theorem dX9_init_314 : decode cX9_init 314 = .ok (.putfield 111, 3) := by decide +kernel
theorem dX9_init_317 : decode cX9_init 317 = .ok (.aload_n 0, 1) := by decide +kernel
theorem dX9_init_318 : decode cX9_init 318 = .ok (.bipush 7, 2) := by decide +kernel
theorem dX9_init_320 : decode cX9_init 320 = .ok (.newarray .boolean, 2) := by decide +kernel
theorem dX9_init_322 : decode cX9_init 322 = .ok (.putfield 114, 3) := by decide +kernel
theorem dX9_init_325 : decode cX9_init 325 = .ok (.aload_n 0, 1) := by decide +kernel
theorem dX9_init_326 : decode cX9_init 326 = .ok (.bipush 10, 2) := by decide +kernel
theorem dX9_init_328 : decode cX9_init 328 = .ok (.newarray .int, 2) := by decide +kernel
theorem dX9_init_330 : decode cX9_init 330 = .ok (.putfield 117, 3) := by decide +kernel
theorem dX9_init_333 : decode cX9_init 333 = .ok (.aload_n 0, 1) := by decide +kernel
theorem dX9_init_334 : decode cX9_init 334 = .ok (.sipush 128, 3) := by decide +kernel
theorem dX9_init_337 : decode cX9_init 337 = .ok (.newarray .int, 2) := by decide +kernel
theorem dX9_init_339 : decode cX9_init 339 = .ok (.putfield 120, 3) := by decide +kernel
theorem dX9_init_342 : decode cX9_init 342 = .ok (.aload_n 0, 1) := by decide +kernel
theorem dX9_init_343 : decode cX9_init 343 = .ok (.bipush 28, 2) := by decide +kernel
theorem dX9_init_345 : decode cX9_init 345 = .ok (.newarray .int, 2) := by decide +kernel
theorem dX9_init_347 : decode cX9_init 347 = .ok (.putfield 123, 3) := by decide +kernel
theorem dX9_init_350 : decode cX9_init 350 = .ok (.aload_n 0, 1) := by decide +kernel
theorem dX9_init_351 : decode cX9_init 351 = .ok (.iconst 5, 1) := by decide +kernel
theorem dX9_init_352 : decode cX9_init 352 = .ok (.newarray .int, 2) := by decide +kernel
theorem dX9_init_354 : decode cX9_init 354 = .ok (.putfield 126, 3) := by decide +kernel
theorem dX9_init_357 : decode cX9_init 357 = .ok (.aload_n 0, 1) := by decide +kernel
theorem dX9_init_358 : decode cX9_init 358 = .ok (.iconst 4, 1) := by decide +kernel
theorem dX9_init_359 : decode cX9_init 359 = .ok (.newarray .int, 2) := by decide +kernel
theorem dX9_init_361 : decode cX9_init 361 = .ok (.putfield 129, 3) := by decide +kernel
theorem dX9_init_364 : decode cX9_init 364 = .ok (.aload_n 0, 1) := by decide +kernel
theorem dX9_init_365 : decode cX9_init 365 = .ok (.bipush 14, 2) := by decide +kernel
theorem dX9_init_367 : decode cX9_init 367 = .ok (.newarray .int, 2) := by decide +kernel
theorem dX9_init_369 : decode cX9_init 369 = .ok (.putfield 132, 3) := by decide +kernel
theorem dX9_init_372 : decode cX9_init 372 = .ok (.aload_n 0, 1) := by decide +kernel
theorem dX9_init_373 : decode cX9_init 373 = .ok (.bipush 7, 2) := by decide +kernel
theorem dX9_init_375 : decode cX9_init 375 = .ok (.newarray .int, 2) := by decide +kernel
theorem dX9_init_377 : decode cX9_init 377 = .ok (.putfield 135, 3) := by decide +kernel
theorem dX9_init_380 : decode cX9_init 380 = .ok (.aload_n 0, 1) := by decide +kernel
theorem dX9_init_381 : decode cX9_init 381 = .ok (.bipush 61, 2) := by decide +kernel
theorem dX9_init_383 : decode cX9_init 383 = .ok (.newarray .long, 2) := by decide +kernel
theorem dX9_init_385 : decode cX9_init 385 = .ok (.putfield 138, 3) := by decide +kernel
theorem dX9_init_388 : decode cX9_init 388 = .ok (.aload_n 0, 1) := by decide +kernel
theorem dX9_init_389 : decode cX9_init 389 = .ok (.bipush 21, 2) := by decide +kernel
theorem dX9_init_391 : decode cX9_init 391 = .ok (.newarray .long, 2) := by decide +kernel
theorem dX9_init_393 : decode cX9_init 393 = .ok (.putfield 141, 3) := by decide +kernel
theorem dX9_init_396 : decode cX9_init 396 = .ok (.aload_n 0, 1) := by decide +kernel
theorem dX9_init_397 : decode cX9_init 397 = .ok (.iconst 4, 1) := by decide +kernel
theorem dX9_init_398 : decode cX9_init 398 = .ok (.newarray .long, 2) := by decide +kernel
theorem dX9_init_400 : decode cX9_init 400 = .ok (.dup, 1) := by decide +kernel
theorem dX9_init_401 : decode cX9_init 401 = .ok (.iconst 0, 1) := by decide +kernel
theorem dX9_init_402 : decode cX9_init 402 = .ok (.ldc2_w 59, 3) := by decide +kernel
theorem dX9_init_405 : decode cX9_init 405 = .ok (.lastore, 1) := by decide +kernel
theorem dX9_init_406 : decode cX9_init 406 = .ok (.dup, 1) := by decide +kernel
theorem dX9_init_407 : decode cX9_init 407 = .ok (.iconst 1, 1) := by decide +kernel
theorem dX9_init_408 : decode cX9_init 408 = .ok (.ldc2_w 144, 3) := by decide +kernel
theorem dX9_init_411 : decode cX9_init 411 = .ok (.lastore, 1) := by decide +kernel
theorem dX9_init_412 : decode cX9_init 412 = .ok (.dup, 1) := by decide +kernel
theorem dX9_init_413 : decode cX9_init 413 = .ok (.iconst 2, 1) := by decide +kernel
theorem dX9_init_414 : decode cX9_init 414 = .ok (.ldc2_w 146, 3) := by decide +kernel
theorem dX9_init_417 : decode cX9_init 417 = .ok (.lastore, 1) := by decide +kernel
theorem dX9_init_418 : decode cX9_init 418 = .ok (.dup, 1) := by decide +kernel
theorem dX9_init_419 : decode cX9_init 419 = .ok (.iconst 3, 1) := by decide +kernel
theorem dX9_init_420 : decode cX9_init 420 = .ok (.ldc2_w 148, 3) := by decide +kernel
theorem dX9_init_423 : decode cX9_init 423 = .ok (.lastore, 1) := by decide +kernel
theorem dX9_init_424 : decode cX9_init 424 = .ok (.putfield 150, 3) := by decide +kernel
theorem dX9_init_427 : decode cX9_init 427 = .ok (.aload_n 0, 1) := by decide +kernel
theorem dX9_init_428 : decode cX9_init 428 = .ok (.bipush 96, 2) := by decide +kernel
theorem dX9_init_430 : decode cX9_init 430 = .ok (.newarray .int, 2) := by decide +kernel
theorem dX9_init_432 : decode cX9_init 432 = .ok (.putfield 153, 3) := by decide +kernel
theorem dX9_init_435 : decode cX9_init 435 = .ok (.aload_n 0, 1) := by decide +kernel
theorem dX9_init_436 : decode cX9_init 436 = .ok (.iconst (-1), 1) := by decide +kernel
theorem dX9_init_437 : decode cX9_init 437 = .ok (.putfield 156, 3) := by decide +kernel
theorem dX9_init_440 : decode cX9_init 440 = .ok (.aload_n 0, 1) := by decide +kernel
theorem dX9_init_441 : decode cX9_init 441 = .ok (.bipush 25, 2) := by decide +kernel
theorem dX9_init_443 : decode cX9_init 443 = .ok (.newarray .int, 2) := by decide +kernel
theorem dX9_init_445 : decode cX9_init 445 = .ok (.putfield 159, 3) := by decide +kernel
theorem dX9_init_448 : decode cX9_init 448 = .ok (.aload_n 0, 1) := by decide +kernel
theorem dX9_init_449 : decode cX9_init 449 = .ok (.iconst (-1), 1) := by decide +kernel
theorem dX9_init_450 : decode cX9_init 450 = .ok (.putfield 162, 3) := by decide +kernel
theorem dX9_init_453 : decode cX9_init 453 = .ok (.aload_n 0, 1) := by decide +kernel
theorem dX9_init_454 : decode cX9_init 454 = .ok (.getfield 13, 3) := by decide +kernel
theorem dX9_init_457 : decode cX9_init 457 = .ok (.iconst 3, 1) := by decide +kernel
theorem dX9_init_458 : decode cX9_init 458 = .ok (.iconst (-1), 1) := by decide +kernel
theorem dX9_init_459 : decode cX9_init 459 = .ok (.iastore, 1) := by decide +kernel
theorem dX9_init_460 : decode cX9_init 460 = .ok (.aload_n 0, 1) := by decide +kernel
theorem dX9_init_461 : decode cX9_init 461 = .ok (.getfield 13, 3) := by decide +kernel
theorem dX9_init_464 : decode cX9_init 464 = .ok (.iconst 5, 1) := by decide +kernel
theorem dX9_init_465 : decode cX9_init 465 = .ok (.iconst 1, 1) := by decide +kernel
theorem dX9_init_466 : decode cX9_init 466 = .ok (.iastore, 1) := by decide +kernel
theorem dX9_init_467 : decode cX9_init 467 = .ok (.return_, 1) := by decide +kernel
theorem dX9_isFree_0 : decode cX9_isFree 0 = .ok (.aload_n 0, 1) := by decide +kernel
theorem dX9_isFree_1 : decode cX9_isFree 1 = .ok (.getfield 126, 3) := by decide +kernel
theorem dX9_isFree_4 : decode cX9_isFree 4 = .ok (.iload_n 1, 1) := by decide +kernel
theorem dX9_isFree_5 : decode cX9_isFree 5 = .ok (.iaload, 1) := by decide +kernel
theorem dX9_isFree_6 : decode cX9_isFree 6 = .ok (.bipush 7, 2) := by decide +kernel
theorem dX9_isFree_8 : decode cX9_isFree 8 = .ok (.if_icmp .eq 22, 3) := by decide +kernel
theorem dX9_isFree_11 : decode cX9_isFree 11 = .ok (.aload_n 0, 1) := by decide +kernel
theorem dX9_isFree_12 : decode cX9_isFree 12 = .ok (.getfield 123, 3) := by decide +kernel
theorem dX9_isFree_15 : decode cX9_isFree 15 = .ok (.iconst 4, 1) := by decide +kernel
theorem dX9_isFree_16 : decode cX9_isFree 16 = .ok (.aload_n 0, 1) := by decide +kernel
theorem dX9_isFree_17 : decode cX9_isFree 17 = .ok (.getfield 126, 3) := by decide +kernel
theorem dX9_isFree_20 : decode cX9_isFree 20 = .ok (.iload_n 1, 1) := by decide +kernel
theorem dX9_isFree_21 : decode cX9_isFree 21 = .ok (.iaload, 1) := by decide +kernel
theorem dX9_isFree_22 : decode cX9_isFree 22 = .ok (.imul, 1) := by decide +kernel
theorem dX9_isFree_23 : decode cX9_isFree 23 = .ok (.iload_n 1, 1) := by decide +kernel
theorem dX9_isFree_24 : decode cX9_isFree 24 = .ok (.iadd, 1) := by decide +kernel
theorem dX9_isFree_25 : decode cX9_isFree 25 = .ok (.iaload, 1) := by decide +kernel
theorem dX9_isFree_26 : decode cX9_isFree 26 = .ok (.iconst (-1), 1) := by decide +kernel
theorem dX9_isFree_27 : decode cX9_isFree 27 = .ok (.if_icmp .eq 7, 3) := by decide +kernel
theorem dX9_isFree_30 : decode cX9_isFree 30 = .ok (.iconst 1, 1) := by decide +kernel
theorem dX9_isFree_31 : decode cX9_isFree 31 = .ok (.goto 4, 3) := by decide +kernel
theorem dX9_isFree_34 : decode cX9_isFree 34 = .ok (.iconst 0, 1) := by decide +kernel
theorem dX9_isFree_35 : decode cX9_isFree 35 = .ok (.istore_n 2, 1) := by decide +kernel
theorem dX9_isFree_36 : decode cX9_isFree 36 = .ok (.iconst 0, 1) := by decide +kernel
theorem dX9_isFree_37 : decode cX9_isFree 37 = .ok (.istore_n 3, 1) := by decide +kernel
theorem dX9_isFree_38 : decode cX9_isFree 38 = .ok (.iload_n 3, 1) := by decide +kernel
theorem dX9_isFree_39 : decode cX9_isFree 39 = .ok (.iload_n 1, 1) := by decide +kernel
theorem dX9_isFree_40 : decode cX9_isFree 40 = .ok (.if_icmp .ge 45, 3) := by decide +kernel
theorem dX9_isFree_43 : decode cX9_isFree 43 = .ok (.iload_n 2, 1) := by decide +kernel
theorem dX9_isFree_44 : decode cX9_isFree 44 = .ok (.ifCond .eq 33, 3) := by decide +kernel
theorem dX9_isFree_47 : decode cX9_isFree 47 = .ok (.aload_n 0, 1) := by decide +kernel
theorem dX9_isFree_48 : decode cX9_isFree 48 = .ok (.getfield 126, 3) := by decide +kernel
theorem dX9_isFree_51 : decode cX9_isFree 51 = .ok (.iload_n 1, 1) := by decide +kernel
theorem dX9_isFree_52 : decode cX9_isFree 52 = .ok (.iaload, 1) := by decide +kernel
theorem dX9_isFree_53 : decode cX9_isFree 53 = .ok (.bipush 7, 2) := by decide +kernel
theorem dX9_isFree_55 : decode cX9_isFree 55 = .ok (.if_icmp .eq 18, 3) := by decide +kernel
theorem dX9_isFree_58 : decode cX9_isFree 58 = .ok (.aload_n 0, 1) := by decide +kernel
theorem dX9_isFree_59 : decode cX9_isFree 59 = .ok (.getfield 126, 3) := by decide +kernel
theorem dX9_isFree_62 : decode cX9_isFree 62 = .ok (.iload_n 3, 1) := by decide +kernel
theorem dX9_isFree_63 : decode cX9_isFree 63 = .ok (.iaload, 1) := by decide +kernel
theorem dX9_isFree_64 : decode cX9_isFree 64 = .ok (.aload_n 0, 1) := by decide +kernel
theorem dX9_isFree_65 : decode cX9_isFree 65 = .ok (.getfield 126, 3) := by decide +kernel
theorem dX9_isFree_68 : decode cX9_isFree 68 = .ok (.iload_n 1, 1) := by decide +kernel
theorem dX9_isFree_69 : decode cX9_isFree 69 = .ok (.iaload, 1) := by decide +kernel
theorem dX9_isFree_70 : decode cX9_isFree 70 = .ok (.if_icmp .eq 7, 3) := by decide +kernel
theorem dX9_isFree_73 : decode cX9_isFree 73 = .ok (.iconst 1, 1) := by decide +kernel
theorem dX9_isFree_74 : decode cX9_isFree 74 = .ok (.goto 4, 3) := by decide +kernel
theorem dX9_isFree_77 : decode cX9_isFree 77 = .ok (.iconst 0, 1) := by decide +kernel
theorem dX9_isFree_78 : decode cX9_isFree 78 = .ok (.istore_n 2, 1) := by decide +kernel
theorem dX9_isFree_79 : decode cX9_isFree 79 = .ok (.iinc 3 1, 3) := by decide +kernel
theorem dX9_isFree_82 : decode cX9_isFree 82 = .ok (.goto (-44), 3) := by decide +kernel
theorem dX9_isFree_85 : decode cX9_isFree 85 = .ok (.iload_n 2, 1) := by decide +kernel
theorem dX9_isFree_86 : decode cX9_isFree 86 = .ok (.ireturn, 1) := by decide +kernel
theorem dX9_isLaw_0 : decode cX9_isLaw 0 = .ok (.iload_n 1, 1) := by decide +kernel
theorem dX9_isLaw_1 : decode cX9_isLaw 1 = .ok (.iconst (-1), 1) := by decide +kernel
theorem dX9_isLaw_2 : decode cX9_isLaw 2 = .ok (.if_icmp .eq 21, 3) := by decide +kernel
theorem dX9_isLaw_5 : decode cX9_isLaw 5 = .ok (.iload_n 1, 1) := by decide +kernel
theorem dX9_isLaw_6 : decode cX9_isLaw 6 = .ok (.i2l, 1) := by decide +kernel
theorem dX9_isLaw_7 : decode cX9_isLaw 7 = .ok (.lconst 0, 1) := by decide +kernel
theorem dX9_isLaw_8 : decode cX9_isLaw 8 = .ok (.aload_n 0, 1) := by decide +kernel
theorem dX9_isLaw_9 : decode cX9_isLaw 9 = .ok (.getfield 13, 3) := by decide +kernel
theorem dX9_isLaw_12 : decode cX9_isLaw 12 = .ok (.iconst 2, 1) := by decide +kernel
theorem dX9_isLaw_13 : decode cX9_isLaw 13 = .ok (.iaload, 1) := by decide +kernel
theorem dX9_isLaw_14 : decode cX9_isLaw 14 = .ok (.i2l, 1) := by decide +kernel
theorem dX9_isLaw_15 : decode cX9_isLaw 15 = .ok (.lconst 1, 1) := by decide +kernel
theorem dX9_isLaw_16 : decode cX9_isLaw 16 = .ok (.lsub, 1) := by decide +kernel
theorem dX9_isLaw_17 : decode cX9_isLaw 17 = .ok (.invokestatic 185, 3) := by decide +kernel
theorem dX9_isLaw_20 : decode cX9_isLaw 20 = .ok (.ifCond .eq 7, 3) := by decide +kernel
theorem dX9_isLaw_23 : decode cX9_isLaw 23 = .ok (.iconst 1, 1) := by decide +kernel
theorem dX9_isLaw_24 : decode cX9_isLaw 24 = .ok (.goto 4, 3) := by decide +kernel
theorem dX9_isLaw_27 : decode cX9_isLaw 27 = .ok (.iconst 0, 1) := by decide +kernel
theorem dX9_isLaw_28 : decode cX9_isLaw 28 = .ok (.ireturn, 1) := by decide +kernel
theorem dX9_isPerson_0 : decode cX9_isPerson 0 = .ok (.iload_n 1, 1) := by decide +kernel
theorem dX9_isPerson_1 : decode cX9_isPerson 1 = .ok (.i2l, 1) := by decide +kernel
theorem dX9_isPerson_2 : decode cX9_isPerson 2 = .ok (.lconst 0, 1) := by decide +kernel
theorem dX9_isPerson_3 : decode cX9_isPerson 3 = .ok (.aload_n 0, 1) := by decide +kernel
theorem dX9_isPerson_4 : decode cX9_isPerson 4 = .ok (.getfield 13, 3) := by decide +kernel
theorem dX9_isPerson_7 : decode cX9_isPerson 7 = .ok (.iconst 0, 1) := by decide +kernel
theorem dX9_isPerson_8 : decode cX9_isPerson 8 = .ok (.iaload, 1) := by decide +kernel
theorem dX9_isPerson_9 : decode cX9_isPerson 9 = .ok (.i2l, 1) := by decide +kernel
theorem dX9_isPerson_10 : decode cX9_isPerson 10 = .ok (.lconst 1, 1) := by decide +kernel
theorem dX9_isPerson_11 : decode cX9_isPerson 11 = .ok (.lsub, 1) := by decide +kernel
theorem dX9_isPerson_12 : decode cX9_isPerson 12 = .ok (.invokestatic 185, 3) := by decide +kernel
theorem dX9_isPerson_15 : decode cX9_isPerson 15 = .ok (.ireturn, 1) := by decide +kernel
theorem dX9_isRace_0 : decode cX9_isRace 0 = .ok (.iload_n 0, 1) := by decide +kernel
theorem dX9_isRace_1 : decode cX9_isRace 1 = .ok (.i2l, 1) := by decide +kernel
theorem dX9_isRace_2 : decode cX9_isRace 2 = .ok (.lconst 0, 1) := by decide +kernel
theorem dX9_isRace_3 : decode cX9_isRace 3 = .ok (.ldc2_w 192, 3) := by decide +kernel
theorem dX9_isRace_6 : decode cX9_isRace 6 = .ok (.invokestatic 185, 3) := by decide +kernel
theorem dX9_isRace_9 : decode cX9_isRace 9 = .ok (.ireturn, 1) := by decide +kernel
theorem dX9_isWord_0 : decode cX9_isWord 0 = .ok (.aload_n 0, 1) := by decide +kernel
theorem dX9_isWord_1 : decode cX9_isWord 1 = .ok (.getfield 266, 3) := by decide +kernel
theorem dX9_isWord_4 : decode cX9_isWord 4 = .ok (.iconst 1, 1) := by decide +kernel
theorem dX9_isWord_5 : decode cX9_isWord 5 = .ok (.if_icmp .ne 16, 3) := by decide +kernel
theorem dX9_isWord_8 : decode cX9_isWord 8 = .ok (.aload_n 0, 1) := by decide +kernel
theorem dX9_isWord_9 : decode cX9_isWord 9 = .ok (.getfield 256, 3) := by decide +kernel
theorem dX9_isWord_12 : decode cX9_isWord 12 = .ok (.lload_n 1, 1) := by decide +kernel
theorem dX9_isWord_13 : decode cX9_isWord 13 = .ok (.lcmp, 1) := by decide +kernel
theorem dX9_isWord_14 : decode cX9_isWord 14 = .ok (.ifCond .ne 7, 3) := by decide +kernel
theorem dX9_isWord_17 : decode cX9_isWord 17 = .ok (.iconst 1, 1) := by decide +kernel
theorem dX9_isWord_18 : decode cX9_isWord 18 = .ok (.goto 4, 3) := by decide +kernel
theorem dX9_isWord_21 : decode cX9_isWord 21 = .ok (.iconst 0, 1) := by decide +kernel
theorem dX9_isWord_22 : decode cX9_isWord 22 = .ok (.ireturn, 1) := by decide +kernel
theorem dX9_keepAll_0 : decode cX9_keepAll 0 = .ok (.iconst 0, 1) := by decide +kernel
theorem dX9_keepAll_1 : decode cX9_keepAll 1 = .ok (.istore_n 2, 1) := by decide +kernel
theorem dX9_keepAll_2 : decode cX9_keepAll 2 = .ok (.iload_n 2, 1) := by decide +kernel
theorem dX9_keepAll_3 : decode cX9_keepAll 3 = .ok (.bipush 25, 2) := by decide +kernel
theorem dX9_keepAll_5 : decode cX9_keepAll 5 = .ok (.if_icmp .ge 28, 3) := by decide +kernel
theorem dX9_keepAll_8 : decode cX9_keepAll 8 = .ok (.aload_n 0, 1) := by decide +kernel
theorem dX9_keepAll_9 : decode cX9_keepAll 9 = .ok (.getfield 23, 3) := by decide +kernel
theorem dX9_keepAll_12 : decode cX9_keepAll 12 = .ok (.bipush 25, 2) := by decide +kernel
theorem dX9_keepAll_14 : decode cX9_keepAll 14 = .ok (.iload_n 1, 1) := by decide +kernel
theorem dX9_keepAll_15 : decode cX9_keepAll 15 = .ok (.imul, 1) := by decide +kernel
theorem dX9_keepAll_16 : decode cX9_keepAll 16 = .ok (.iload_n 2, 1) := by decide +kernel
theorem dX9_keepAll_17 : decode cX9_keepAll 17 = .ok (.iadd, 1) := by decide +kernel
theorem dX9_keepAll_18 : decode cX9_keepAll 18 = .ok (.aload_n 0, 1) := by decide +kernel
theorem dX9_keepAll_19 : decode cX9_keepAll 19 = .ok (.getfield 13, 3) := by decide +kernel
theorem dX9_keepAll_22 : decode cX9_keepAll 22 = .ok (.iconst 4, 1) := by decide +kernel
theorem dX9_keepAll_23 : decode cX9_keepAll 23 = .ok (.iload_n 2, 1) := by decide +kernel
theorem dX9_keepAll_24 : decode cX9_keepAll 24 = .ok (.iadd, 1) := by decide +kernel
theorem dX9_keepAll_25 : decode cX9_keepAll 25 = .ok (.iaload, 1) := by decide +kernel
theorem dX9_keepAll_26 : decode cX9_keepAll 26 = .ok (.iastore, 1) := by decide +kernel
theorem dX9_keepAll_27 : decode cX9_keepAll 27 = .ok (.iinc 2 1, 3) := by decide +kernel
theorem dX9_keepAll_30 : decode cX9_keepAll 30 = .ok (.goto (-28), 3) := by decide +kernel
theorem dX9_keepAll_33 : decode cX9_keepAll 33 = .ok (.return_, 1) := by decide +kernel
theorem dX9_ladder_0 : decode cX9_ladder 0 = .ok (.aload_n 0, 1) := by decide +kernel
theorem dX9_ladder_1 : decode cX9_ladder 1 = .ok (.iconst 0, 1) := by decide +kernel
theorem dX9_ladder_2 : decode cX9_ladder 2 = .ok (.putfield 165, 3) := by decide +kernel
theorem dX9_ladder_5 : decode cX9_ladder 5 = .ok (.iload_n 1, 1) := by decide +kernel
theorem dX9_ladder_6 : decode cX9_ladder 6 = .ok (.i2l, 1) := by decide +kernel
theorem dX9_ladder_7 : decode cX9_ladder 7 = .ok (.lconst 1, 1) := by decide +kernel
theorem dX9_ladder_8 : decode cX9_ladder 8 = .ok (.ldc2_w 507, 3) := by decide +kernel
theorem dX9_ladder_11 : decode cX9_ladder 11 = .ok (.invokestatic 185, 3) := by decide +kernel
theorem dX9_ladder_14 : decode cX9_ladder 14 = .ok (.ifCond .eq 15, 3) := by decide +kernel
theorem dX9_ladder_17 : decode cX9_ladder 17 = .ok (.iload_n 2, 1) := by decide +kernel
theorem dX9_ladder_18 : decode cX9_ladder 18 = .ok (.i2l, 1) := by decide +kernel
theorem dX9_ladder_19 : decode cX9_ladder 19 = .ok (.lconst 1, 1) := by decide +kernel
theorem dX9_ladder_20 : decode cX9_ladder 20 = .ok (.ldc2_w 509, 3) := by decide +kernel
theorem dX9_ladder_23 : decode cX9_ladder 23 = .ok (.invokestatic 185, 3) := by decide +kernel
theorem dX9_ladder_26 : decode cX9_ladder 26 = .ok (.ifCond .ne 7, 3) := by decide +kernel
theorem dX9_ladder_29 : decode cX9_ladder 29 = .ok (.ldc2_w 273, 3) := by decide +kernel
theorem dX9_ladder_32 : decode cX9_ladder 32 = .ok (.lreturn, 1) := by decide +kernel
theorem dX9_ladder_33 : decode cX9_ladder 33 = .ok (.aload_n 0, 1) := by decide +kernel
theorem dX9_ladder_34 : decode cX9_ladder 34 = .ok (.getfield 138, 3) := by decide +kernel
theorem dX9_ladder_37 : decode cX9_ladder 37 = .ok (.iconst 0, 1) := by decide +kernel
theorem dX9_ladder_38 : decode cX9_ladder 38 = .ok (.lconst 1, 1) := by decide +kernel
theorem dX9_ladder_39 : decode cX9_ladder 39 = .ok (.lastore, 1) := by decide +kernel
theorem dX9_ladder_40 : decode cX9_ladder 40 = .ok (.iconst 1, 1) := by decide +kernel
theorem dX9_ladder_41 : decode cX9_ladder 41 = .ok (.istore_n 3, 1) := by decide +kernel
theorem dX9_ladder_42 : decode cX9_ladder 42 = .ok (.iload_n 3, 1) := by decide +kernel
theorem dX9_ladder_43 : decode cX9_ladder 43 = .ok (.iload_n 1, 1) := by decide +kernel
theorem dX9_ladder_44 : decode cX9_ladder 44 = .ok (.if_icmp .gt 60, 3) := by decide +kernel
theorem dX9_ladder_47 : decode cX9_ladder 47 = .ok (.aload_n 0, 1) := by decide +kernel
theorem dX9_ladder_48 : decode cX9_ladder 48 = .ok (.getfield 138, 3) := by decide +kernel
theorem dX9_ladder_51 : decode cX9_ladder 51 = .ok (.iload_n 3, 1) := by decide +kernel
theorem dX9_ladder_52 : decode cX9_ladder 52 = .ok (.lconst 0, 1) := by decide +kernel
theorem dX9_ladder_53 : decode cX9_ladder 53 = .ok (.lastore, 1) := by decide +kernel
theorem dX9_ladder_54 : decode cX9_ladder 54 = .ok (.iconst 1, 1) := by decide +kernel
theorem dX9_ladder_55 : decode cX9_ladder 55 = .ok (.istore 4, 2) := by decide +kernel
theorem dX9_ladder_57 : decode cX9_ladder 57 = .ok (.iload 4, 2) := by decide +kernel
theorem dX9_ladder_59 : decode cX9_ladder 59 = .ok (.iload_n 2, 1) := by decide +kernel
theorem dX9_ladder_60 : decode cX9_ladder 60 = .ok (.if_icmp .gt 38, 3) := by decide +kernel
theorem dX9_ladder_63 : decode cX9_ladder 63 = .ok (.iload 4, 2) := by decide +kernel
theorem dX9_ladder_65 : decode cX9_ladder 65 = .ok (.iload_n 3, 1) := by decide +kernel
theorem dX9_ladder_66 : decode cX9_ladder 66 = .ok (.if_icmp .gt 32, 3) := by decide +kernel
theorem dX9_ladder_69 : decode cX9_ladder 69 = .ok (.iload_n 3, 1) := by decide +kernel
theorem dX9_ladder_70 : decode cX9_ladder 70 = .ok (.iconst 2, 1) := by decide +kernel
theorem dX9_ladder_71 : decode cX9_ladder 71 = .ok (.if_icmp .eq 27, 3) := by decide +kernel
theorem dX9_ladder_74 : decode cX9_ladder 74 = .ok (.aload_n 0, 1) := by decide +kernel
theorem dX9_ladder_75 : decode cX9_ladder 75 = .ok (.getfield 138, 3) := by decide +kernel
theorem dX9_ladder_78 : decode cX9_ladder 78 = .ok (.iload_n 3, 1) := by decide +kernel
theorem dX9_ladder_79 : decode cX9_ladder 79 = .ok (.dup2, 1) := by decide +kernel
theorem dX9_ladder_80 : decode cX9_ladder 80 = .ok (.laload, 1) := by decide +kernel
theorem dX9_ladder_81 : decode cX9_ladder 81 = .ok (.aload_n 0, 1) := by decide +kernel
theorem dX9_ladder_82 : decode cX9_ladder 82 = .ok (.getfield 138, 3) := by decide +kernel
theorem dX9_ladder_85 : decode cX9_ladder 85 = .ok (.iload_n 3, 1) := by decide +kernel
theorem dX9_ladder_86 : decode cX9_ladder 86 = .ok (.iload 4, 2) := by decide +kernel
theorem dX9_ladder_88 : decode cX9_ladder 88 = .ok (.isub, 1) := by decide +kernel
theorem dX9_ladder_89 : decode cX9_ladder 89 = .ok (.laload, 1) := by decide +kernel
theorem dX9_ladder_90 : decode cX9_ladder 90 = .ok (.ladd, 1) := by decide +kernel
theorem dX9_ladder_91 : decode cX9_ladder 91 = .ok (.lastore, 1) := by decide +kernel
theorem dX9_ladder_92 : decode cX9_ladder 92 = .ok (.iinc 4 1, 3) := by decide +kernel
theorem dX9_ladder_95 : decode cX9_ladder 95 = .ok (.goto (-38), 3) := by decide +kernel
theorem dX9_ladder_98 : decode cX9_ladder 98 = .ok (.iinc 3 1, 3) := by decide +kernel
theorem dX9_ladder_101 : decode cX9_ladder 101 = .ok (.goto (-59), 3) := by decide +kernel
theorem dX9_ladder_104 : decode cX9_ladder 104 = .ok (.aload_n 0, 1) := by decide +kernel
theorem dX9_ladder_105 : decode cX9_ladder 105 = .ok (.getfield 138, 3) := by decide +kernel
theorem dX9_ladder_108 : decode cX9_ladder 108 = .ok (.iload_n 1, 1) := by decide +kernel
theorem dX9_ladder_109 : decode cX9_ladder 109 = .ok (.laload, 1) := by decide +kernel
theorem dX9_ladder_110 : decode cX9_ladder 110 = .ok (.lreturn, 1) := by decide +kernel
theorem dX9_law_0 : decode cX9_law 0 = .ok (.aload_n 0, 1) := by decide +kernel
theorem dX9_law_1 : decode cX9_law 1 = .ok (.iconst 0, 1) := by decide +kernel
theorem dX9_law_2 : decode cX9_law 2 = .ok (.putfield 165, 3) := by decide +kernel
theorem dX9_law_5 : decode cX9_law 5 = .ok (.aload_n 0, 1) := by decide +kernel
theorem dX9_law_6 : decode cX9_law 6 = .ok (.getfield 13, 3) := by decide +kernel
theorem dX9_law_9 : decode cX9_law 9 = .ok (.iconst 2, 1) := by decide +kernel
theorem dX9_law_10 : decode cX9_law 10 = .ok (.iaload, 1) := by decide +kernel
theorem dX9_law_11 : decode cX9_law 11 = .ok (.bipush 6, 2) := by decide +kernel
theorem dX9_law_13 : decode cX9_law 13 = .ok (.if_icmp .ne 15, 3) := by decide +kernel
theorem dX9_law_16 : decode cX9_law 16 = .ok (.aload_n 0, 1) := by decide +kernel
theorem dX9_law_17 : decode cX9_law 17 = .ok (.iconst 0, 1) := by decide +kernel
theorem dX9_law_18 : decode cX9_law 18 = .ok (.putfield 231, 3) := by decide +kernel
theorem dX9_law_21 : decode cX9_law 21 = .ok (.aload_n 0, 1) := by decide +kernel
theorem dX9_law_22 : decode cX9_law 22 = .ok (.bipush (-5), 2) := by decide +kernel
theorem dX9_law_24 : decode cX9_law 24 = .ok (.invokevirtual 174, 3) := by decide +kernel
theorem dX9_law_27 : decode cX9_law 27 = .ok (.ireturn, 1) := by decide +kernel
theorem dX9_law_28 : decode cX9_law 28 = .ok (.aload_n 0, 1) := by decide +kernel
theorem dX9_law_29 : decode cX9_law 29 = .ok (.iconst 0, 1) := by decide +kernel
theorem dX9_law_30 : decode cX9_law 30 = .ok (.invokevirtual 385, 3) := by decide +kernel
theorem dX9_law_33 : decode cX9_law 33 = .ok (.aload_n 0, 1) := by decide +kernel
theorem dX9_law_34 : decode cX9_law 34 = .ok (.invokevirtual 388, 3) := by decide +kernel
theorem dX9_law_37 : decode cX9_law 37 = .ok (.aload_n 0, 1) := by decide +kernel
theorem dX9_law_38 : decode cX9_law 38 = .ok (.getfield 246, 3) := by decide +kernel
theorem dX9_law_41 : decode cX9_law 41 = .ok (.ifCond .ne 23, 3) := by decide +kernel
theorem dX9_law_44 : decode cX9_law 44 = .ok (.aload_n 0, 1) := by decide +kernel
theorem dX9_law_45 : decode cX9_law 45 = .ok (.bipush 59, 2) := by decide +kernel
theorem dX9_law_47 : decode cX9_law 47 = .ok (.invokevirtual 317, 3) := by decide +kernel
theorem dX9_law_50 : decode cX9_law 50 = .ok (.ifCond .eq 14, 3) := by decide +kernel
theorem dX9_law_53 : decode cX9_law 53 = .ok (.aload_n 0, 1) := by decide +kernel
theorem dX9_law_54 : decode cX9_law 54 = .ok (.invokevirtual 250, 3) := by decide +kernel
theorem dX9_law_57 : decode cX9_law 57 = .ok (.aload_n 0, 1) := by decide +kernel
theorem dX9_law_58 : decode cX9_law 58 = .ok (.invokevirtual 388, 3) := by decide +kernel
theorem dX9_law_61 : decode cX9_law 61 = .ok (.goto (-24), 3) := by decide +kernel
theorem dX9_law_64 : decode cX9_law 64 = .ok (.aload_n 0, 1) := by decide +kernel
theorem dX9_law_65 : decode cX9_law 65 = .ok (.invokevirtual 391, 3) := by decide +kernel
theorem dX9_law_68 : decode cX9_law 68 = .ok (.aload_n 0, 1) := by decide +kernel
theorem dX9_law_69 : decode cX9_law 69 = .ok (.getfield 246, 3) := by decide +kernel
theorem dX9_law_72 : decode cX9_law 72 = .ok (.ifCond .eq 10, 3) := by decide +kernel
theorem dX9_law_75 : decode cX9_law 75 = .ok (.aload_n 0, 1) := by decide +kernel
theorem dX9_law_76 : decode cX9_law 76 = .ok (.bipush (-6), 2) := by decide +kernel
theorem dX9_law_78 : decode cX9_law 78 = .ok (.invokevirtual 174, 3) := by decide +kernel
theorem dX9_law_81 : decode cX9_law 81 = .ok (.ireturn, 1) := by decide +kernel
theorem dX9_law_82 : decode cX9_law 82 = .ok (.bipush 84, 2) := by decide +kernel
theorem dX9_law_84 : decode cX9_law 84 = .ok (.sipush 900, 3) := by decide +kernel
theorem dX9_law_87 : decode cX9_law 87 = .ok (.aload_n 0, 1) := by decide +kernel
theorem dX9_law_88 : decode cX9_law 88 = .ok (.getfield 13, 3) := by decide +kernel
theorem dX9_law_91 : decode cX9_law 91 = .ok (.iconst 2, 1) := by decide +kernel
theorem dX9_law_92 : decode cX9_law 92 = .ok (.iaload, 1) := by decide +kernel
theorem dX9_law_93 : decode cX9_law 93 = .ok (.imul, 1) := by decide +kernel
theorem dX9_law_94 : decode cX9_law 94 = .ok (.iadd, 1) := by decide +kernel
theorem dX9_law_95 : decode cX9_law 95 = .ok (.istore_n 1, 1) := by decide +kernel
theorem dX9_law_96 : decode cX9_law 96 = .ok (.aload_n 0, 1) := by decide +kernel
theorem dX9_law_97 : decode cX9_law 97 = .ok (.getfield 13, 3) := by decide +kernel
theorem dX9_law_100 : decode cX9_law 100 = .ok (.iload_n 1, 1) := by decide +kernel
theorem dX9_law_101 : decode cX9_law 101 = .ok (.iconst 1, 1) := by decide +kernel
theorem dX9_law_102 : decode cX9_law 102 = .ok (.iadd, 1) := by decide +kernel
theorem dX9_law_103 : decode cX9_law 103 = .ok (.aload_n 0, 1) := by decide +kernel
theorem dX9_law_104 : decode cX9_law 104 = .ok (.getfield 377, 3) := by decide +kernel
theorem dX9_law_107 : decode cX9_law 107 = .ok (.iastore, 1) := by decide +kernel
theorem dX9_law_108 : decode cX9_law 108 = .ok (.iconst 0, 1) := by decide +kernel
theorem dX9_law_109 : decode cX9_law 109 = .ok (.istore_n 2, 1) := by decide +kernel
theorem dX9_law_110 : decode cX9_law 110 = .ok (.iload_n 2, 1) := by decide +kernel
theorem dX9_law_111 : decode cX9_law 111 = .ok (.bipush 8, 2) := by decide +kernel
theorem dX9_law_113 : decode cX9_law 113 = .ok (.aload_n 0, 1) := by decide +kernel
theorem dX9_law_114 : decode cX9_law 114 = .ok (.getfield 377, 3) := by decide +kernel
theorem dX9_law_117 : decode cX9_law 117 = .ok (.imul, 1) := by decide +kernel
theorem dX9_law_118 : decode cX9_law 118 = .ok (.if_icmp .ge 25, 3) := by decide +kernel
theorem dX9_law_121 : decode cX9_law 121 = .ok (.aload_n 0, 1) := by decide +kernel
theorem dX9_law_122 : decode cX9_law 122 = .ok (.getfield 13, 3) := by decide +kernel
theorem dX9_law_125 : decode cX9_law 125 = .ok (.iload_n 1, 1) := by decide +kernel
theorem dX9_law_126 : decode cX9_law 126 = .ok (.iconst 2, 1) := by decide +kernel
theorem dX9_law_127 : decode cX9_law 127 = .ok (.iadd, 1) := by decide +kernel
theorem dX9_law_128 : decode cX9_law 128 = .ok (.iload_n 2, 1) := by decide +kernel
theorem dX9_law_129 : decode cX9_law 129 = .ok (.iadd, 1) := by decide +kernel
theorem dX9_law_130 : decode cX9_law 130 = .ok (.aload_n 0, 1) := by decide +kernel
theorem dX9_law_131 : decode cX9_law 131 = .ok (.getfield 42, 3) := by decide +kernel
theorem dX9_law_134 : decode cX9_law 134 = .ok (.iload_n 2, 1) := by decide +kernel
theorem dX9_law_135 : decode cX9_law 135 = .ok (.iaload, 1) := by decide +kernel
theorem dX9_law_136 : decode cX9_law 136 = .ok (.iastore, 1) := by decide +kernel
theorem dX9_law_137 : decode cX9_law 137 = .ok (.iinc 2 1, 3) := by decide +kernel
theorem dX9_law_140 : decode cX9_law 140 = .ok (.goto (-30), 3) := by decide +kernel
theorem dX9_law_143 : decode cX9_law 143 = .ok (.iconst 0, 1) := by decide +kernel
theorem dX9_law_144 : decode cX9_law 144 = .ok (.istore_n 2, 1) := by decide +kernel
theorem dX9_law_145 : decode cX9_law 145 = .ok (.iload_n 2, 1) := by decide +kernel
theorem dX9_law_146 : decode cX9_law 146 = .ok (.aload_n 0, 1) := by decide +kernel
theorem dX9_law_147 : decode cX9_law 147 = .ok (.getfield 283, 3) := by decide +kernel
theorem dX9_law_150 : decode cX9_law 150 = .ok (.if_icmp .ge 49, 3) := by decide +kernel
theorem dX9_law_153 : decode cX9_law 153 = .ok (.aload_n 0, 1) := by decide +kernel
theorem dX9_law_154 : decode cX9_law 154 = .ok (.getfield 13, 3) := by decide +kernel
theorem dX9_law_157 : decode cX9_law 157 = .ok (.iload_n 1, 1) := by decide +kernel
theorem dX9_law_158 : decode cX9_law 158 = .ok (.bipush 98, 2) := by decide +kernel
theorem dX9_law_160 : decode cX9_law 160 = .ok (.iadd, 1) := by decide +kernel
theorem dX9_law_161 : decode cX9_law 161 = .ok (.iconst 2, 1) := by decide +kernel
theorem dX9_law_162 : decode cX9_law 162 = .ok (.iload_n 2, 1) := by decide +kernel
theorem dX9_law_163 : decode cX9_law 163 = .ok (.imul, 1) := by decide +kernel
theorem dX9_law_164 : decode cX9_law 164 = .ok (.iadd, 1) := by decide +kernel
theorem dX9_law_165 : decode cX9_law 165 = .ok (.aload_n 0, 1) := by decide +kernel
theorem dX9_law_166 : decode cX9_law 166 = .ok (.getfield 45, 3) := by decide +kernel
theorem dX9_law_169 : decode cX9_law 169 = .ok (.iload_n 2, 1) := by decide +kernel
theorem dX9_law_170 : decode cX9_law 170 = .ok (.iaload, 1) := by decide +kernel
theorem dX9_law_171 : decode cX9_law 171 = .ok (.iastore, 1) := by decide +kernel
theorem dX9_law_172 : decode cX9_law 172 = .ok (.aload_n 0, 1) := by decide +kernel
theorem dX9_law_173 : decode cX9_law 173 = .ok (.getfield 13, 3) := by decide +kernel
theorem dX9_law_176 : decode cX9_law 176 = .ok (.iload_n 1, 1) := by decide +kernel
theorem dX9_law_177 : decode cX9_law 177 = .ok (.bipush 98, 2) := by decide +kernel
theorem dX9_law_179 : decode cX9_law 179 = .ok (.iadd, 1) := by decide +kernel
theorem dX9_law_180 : decode cX9_law 180 = .ok (.iconst 2, 1) := by decide +kernel
theorem dX9_law_181 : decode cX9_law 181 = .ok (.iload_n 2, 1) := by decide +kernel
theorem dX9_law_182 : decode cX9_law 182 = .ok (.imul, 1) := by decide +kernel
theorem dX9_law_183 : decode cX9_law 183 = .ok (.iadd, 1) := by decide +kernel
theorem dX9_law_184 : decode cX9_law 184 = .ok (.iconst 1, 1) := by decide +kernel
theorem dX9_law_185 : decode cX9_law 185 = .ok (.iadd, 1) := by decide +kernel
theorem dX9_law_186 : decode cX9_law 186 = .ok (.aload_n 0, 1) := by decide +kernel
theorem dX9_law_187 : decode cX9_law 187 = .ok (.getfield 48, 3) := by decide +kernel
theorem dX9_law_190 : decode cX9_law 190 = .ok (.iload_n 2, 1) := by decide +kernel
theorem dX9_law_191 : decode cX9_law 191 = .ok (.iaload, 1) := by decide +kernel
theorem dX9_law_192 : decode cX9_law 192 = .ok (.iastore, 1) := by decide +kernel
theorem dX9_law_193 : decode cX9_law 193 = .ok (.iinc 2 1, 3) := by decide +kernel
theorem dX9_law_196 : decode cX9_law 196 = .ok (.goto (-51), 3) := by decide +kernel
theorem dX9_law_199 : decode cX9_law 199 = .ok (.aload_n 0, 1) := by decide +kernel
theorem dX9_law_200 : decode cX9_law 200 = .ok (.getfield 13, 3) := by decide +kernel
theorem dX9_law_203 : decode cX9_law 203 = .ok (.iconst 2, 1) := by decide +kernel
theorem dX9_law_204 : decode cX9_law 204 = .ok (.dup2, 1) := by decide +kernel
theorem dX9_law_205 : decode cX9_law 205 = .ok (.iaload, 1) := by decide +kernel
theorem dX9_law_206 : decode cX9_law 206 = .ok (.iconst 1, 1) := by decide +kernel
theorem dX9_law_207 : decode cX9_law 207 = .ok (.iadd, 1) := by decide +kernel
theorem dX9_law_208 : decode cX9_law 208 = .ok (.iastore, 1) := by decide +kernel
theorem dX9_law_209 : decode cX9_law 209 = .ok (.aload_n 0, 1) := by decide +kernel
theorem dX9_law_210 : decode cX9_law 210 = .ok (.aload_n 0, 1) := by decide +kernel
theorem dX9_law_211 : decode cX9_law 211 = .ok (.getfield 13, 3) := by decide +kernel
theorem dX9_law_214 : decode cX9_law 214 = .ok (.iconst 2, 1) := by decide +kernel
theorem dX9_law_215 : decode cX9_law 215 = .ok (.iaload, 1) := by decide +kernel
theorem dX9_law_216 : decode cX9_law 216 = .ok (.iconst 1, 1) := by decide +kernel
theorem dX9_law_217 : decode cX9_law 217 = .ok (.isub, 1) := by decide +kernel
theorem dX9_law_218 : decode cX9_law 218 = .ok (.invokevirtual 174, 3) := by decide +kernel
theorem dX9_law_221 : decode cX9_law 221 = .ok (.ireturn, 1) := by decide +kernel
theorem dX9_layLeft_0 : decode cX9_layLeft 0 = .ok (.iconst 1, 1) := by decide +kernel
theorem dX9_layLeft_1 : decode cX9_layLeft 1 = .ok (.aload_n 0, 1) := by decide +kernel
theorem dX9_layLeft_2 : decode cX9_layLeft 2 = .ok (.getfield 13, 3) := by decide +kernel
theorem dX9_layLeft_5 : decode cX9_layLeft 5 = .ok (.iconst 0, 1) := by decide +kernel
theorem dX9_layLeft_6 : decode cX9_layLeft 6 = .ok (.iaload, 1) := by decide +kernel
theorem dX9_layLeft_7 : decode cX9_layLeft 7 = .ok (.ishl, 1) := by decide +kernel
theorem dX9_layLeft_8 : decode cX9_layLeft 8 = .ok (.iconst 1, 1) := by decide +kernel
theorem dX9_layLeft_9 : decode cX9_layLeft 9 = .ok (.isub, 1) := by decide +kernel
theorem dX9_layLeft_10 : decode cX9_layLeft 10 = .ok (.istore_n 1, 1) := by decide +kernel
theorem dX9_layLeft_11 : decode cX9_layLeft 11 = .ok (.aload_n 0, 1) := by decide +kernel
theorem dX9_layLeft_12 : decode cX9_layLeft 12 = .ok (.getfield 120, 3) := by decide +kernel
theorem dX9_layLeft_15 : decode cX9_layLeft 15 = .ok (.iload_n 1, 1) := by decide +kernel
theorem dX9_layLeft_16 : decode cX9_layLeft 16 = .ok (.iconst 0, 1) := by decide +kernel
theorem dX9_layLeft_17 : decode cX9_layLeft 17 = .ok (.iastore, 1) := by decide +kernel
theorem dX9_layLeft_18 : decode cX9_layLeft 18 = .ok (.iload_n 1, 1) := by decide +kernel
theorem dX9_layLeft_19 : decode cX9_layLeft 19 = .ok (.iconst 1, 1) := by decide +kernel
theorem dX9_layLeft_20 : decode cX9_layLeft 20 = .ok (.isub, 1) := by decide +kernel
theorem dX9_layLeft_21 : decode cX9_layLeft 21 = .ok (.istore_n 2, 1) := by decide +kernel
theorem dX9_layLeft_22 : decode cX9_layLeft 22 = .ok (.iload_n 2, 1) := by decide +kernel
theorem dX9_layLeft_23 : decode cX9_layLeft 23 = .ok (.ifCond .lt 72, 3) := by decide +kernel
theorem dX9_layLeft_26 : decode cX9_layLeft 26 = .ok (.aload_n 0, 1) := by decide +kernel
theorem dX9_layLeft_27 : decode cX9_layLeft 27 = .ok (.getfield 120, 3) := by decide +kernel
theorem dX9_layLeft_30 : decode cX9_layLeft 30 = .ok (.iload_n 2, 1) := by decide +kernel
theorem dX9_layLeft_31 : decode cX9_layLeft 31 = .ok (.ldc_w 476, 3) := by decide +kernel
theorem dX9_layLeft_34 : decode cX9_layLeft 34 = .ok (.iastore, 1) := by decide +kernel
theorem dX9_layLeft_35 : decode cX9_layLeft 35 = .ok (.iconst 0, 1) := by decide +kernel
theorem dX9_layLeft_36 : decode cX9_layLeft 36 = .ok (.istore_n 3, 1) := by decide +kernel
theorem dX9_layLeft_37 : decode cX9_layLeft 37 = .ok (.iload_n 3, 1) := by decide +kernel
theorem dX9_layLeft_38 : decode cX9_layLeft 38 = .ok (.aload_n 0, 1) := by decide +kernel
theorem dX9_layLeft_39 : decode cX9_layLeft 39 = .ok (.getfield 13, 3) := by decide +kernel
theorem dX9_layLeft_42 : decode cX9_layLeft 42 = .ok (.iconst 0, 1) := by decide +kernel
theorem dX9_layLeft_43 : decode cX9_layLeft 43 = .ok (.iaload, 1) := by decide +kernel
theorem dX9_layLeft_44 : decode cX9_layLeft 44 = .ok (.if_icmp .ge 45, 3) := by decide +kernel
theorem dX9_layLeft_47 : decode cX9_layLeft 47 = .ok (.aload_n 0, 1) := by decide +kernel
theorem dX9_layLeft_48 : decode cX9_layLeft 48 = .ok (.iload_n 2, 1) := by decide +kernel
theorem dX9_layLeft_49 : decode cX9_layLeft 49 = .ok (.iload_n 3, 1) := by decide +kernel
theorem dX9_layLeft_50 : decode cX9_layLeft 50 = .ok (.invokevirtual 486, 3) := by decide +kernel
theorem dX9_layLeft_53 : decode cX9_layLeft 53 = .ok (.istore 4, 2) := by decide +kernel
theorem dX9_layLeft_55 : decode cX9_layLeft 55 = .ok (.aload_n 0, 1) := by decide +kernel
theorem dX9_layLeft_56 : decode cX9_layLeft 56 = .ok (.getfield 120, 3) := by decide +kernel
theorem dX9_layLeft_59 : decode cX9_layLeft 59 = .ok (.iload_n 2, 1) := by decide +kernel
theorem dX9_layLeft_60 : decode cX9_layLeft 60 = .ok (.iload 4, 2) := by decide +kernel
theorem dX9_layLeft_62 : decode cX9_layLeft 62 = .ok (.aload_n 0, 1) := by decide +kernel
theorem dX9_layLeft_63 : decode cX9_layLeft 63 = .ok (.getfield 120, 3) := by decide +kernel
theorem dX9_layLeft_66 : decode cX9_layLeft 66 = .ok (.iload_n 2, 1) := by decide +kernel
theorem dX9_layLeft_67 : decode cX9_layLeft 67 = .ok (.iaload, 1) := by decide +kernel
theorem dX9_layLeft_68 : decode cX9_layLeft 68 = .ok (.if_icmp .ge 8, 3) := by decide +kernel
theorem dX9_layLeft_71 : decode cX9_layLeft 71 = .ok (.iload 4, 2) := by decide +kernel
theorem dX9_layLeft_73 : decode cX9_layLeft 73 = .ok (.goto 9, 3) := by decide +kernel
theorem dX9_layLeft_76 : decode cX9_layLeft 76 = .ok (.aload_n 0, 1) := by decide +kernel
theorem dX9_layLeft_77 : decode cX9_layLeft 77 = .ok (.getfield 120, 3) := by decide +kernel
theorem dX9_layLeft_80 : decode cX9_layLeft 80 = .ok (.iload_n 2, 1) := by decide +kernel
theorem dX9_layLeft_81 : decode cX9_layLeft 81 = .ok (.iaload, 1) := by decide +kernel
theorem dX9_layLeft_82 : decode cX9_layLeft 82 = .ok (.iastore, 1) := by decide +kernel
theorem dX9_layLeft_83 : decode cX9_layLeft 83 = .ok (.iinc 3 1, 3) := by decide +kernel
theorem dX9_layLeft_86 : decode cX9_layLeft 86 = .ok (.goto (-49), 3) := by decide +kernel
theorem dX9_layLeft_89 : decode cX9_layLeft 89 = .ok (.iinc 2 (-1), 3) := by decide +kernel
theorem dX9_layLeft_92 : decode cX9_layLeft 92 = .ok (.goto (-70), 3) := by decide +kernel
theorem dX9_layLeft_95 : decode cX9_layLeft 95 = .ok (.return_, 1) := by decide +kernel
theorem dX9_layLine_0 : decode cX9_layLine 0 = .ok (.iconst 0, 1) := by decide +kernel
theorem dX9_layLine_1 : decode cX9_layLine 1 = .ok (.istore_n 1, 1) := by decide +kernel
theorem dX9_layLine_2 : decode cX9_layLine 2 = .ok (.iconst 0, 1) := by decide +kernel
theorem dX9_layLine_3 : decode cX9_layLine 3 = .ok (.istore_n 2, 1) := by decide +kernel
theorem dX9_layLine_4 : decode cX9_layLine 4 = .ok (.aload_n 0, 1) := by decide +kernel
theorem dX9_layLine_5 : decode cX9_layLine 5 = .ok (.getfield 13, 3) := by decide +kernel
theorem dX9_layLine_8 : decode cX9_layLine 8 = .ok (.iconst 0, 1) := by decide +kernel
theorem dX9_layLine_9 : decode cX9_layLine 9 = .ok (.iaload, 1) := by decide +kernel
theorem dX9_layLine_10 : decode cX9_layLine 10 = .ok (.iconst 1, 1) := by decide +kernel
theorem dX9_layLine_11 : decode cX9_layLine 11 = .ok (.isub, 1) := by decide +kernel
theorem dX9_layLine_12 : decode cX9_layLine 12 = .ok (.istore_n 3, 1) := by decide +kernel
theorem dX9_layLine_13 : decode cX9_layLine 13 = .ok (.iload_n 3, 1) := by decide +kernel
theorem dX9_layLine_14 : decode cX9_layLine 14 = .ok (.ifCond .lt 32, 3) := by decide +kernel
theorem dX9_layLine_17 : decode cX9_layLine 17 = .ok (.aload_n 0, 1) := by decide +kernel
theorem dX9_layLine_18 : decode cX9_layLine 18 = .ok (.getfield 13, 3) := by decide +kernel
theorem dX9_layLine_21 : decode cX9_layLine 21 = .ok (.bipush 29, 2) := by decide +kernel
theorem dX9_layLine_23 : decode cX9_layLine 23 = .ok (.iload_n 3, 1) := by decide +kernel
theorem dX9_layLine_24 : decode cX9_layLine 24 = .ok (.iadd, 1) := by decide +kernel
theorem dX9_layLine_25 : decode cX9_layLine 25 = .ok (.iaload, 1) := by decide +kernel
theorem dX9_layLine_26 : decode cX9_layLine 26 = .ok (.iconst (-1), 1) := by decide +kernel
theorem dX9_layLine_27 : decode cX9_layLine 27 = .ok (.if_icmp .ne 13, 3) := by decide +kernel
theorem dX9_layLine_30 : decode cX9_layLine 30 = .ok (.aload_n 0, 1) := by decide +kernel
theorem dX9_layLine_31 : decode cX9_layLine 31 = .ok (.getfield 132, 3) := by decide +kernel
theorem dX9_layLine_34 : decode cX9_layLine 34 = .ok (.iload_n 2, 1) := by decide +kernel
theorem dX9_layLine_35 : decode cX9_layLine 35 = .ok (.iload_n 3, 1) := by decide +kernel
theorem dX9_layLine_36 : decode cX9_layLine 36 = .ok (.iastore, 1) := by decide +kernel
theorem dX9_layLine_37 : decode cX9_layLine 37 = .ok (.iinc 2 1, 3) := by decide +kernel
theorem dX9_layLine_40 : decode cX9_layLine 40 = .ok (.iinc 3 (-1), 3) := by decide +kernel
theorem dX9_layLine_43 : decode cX9_layLine 43 = .ok (.goto (-30), 3) := by decide +kernel
theorem dX9_layLine_46 : decode cX9_layLine 46 = .ok (.iload_n 2, 1) := by decide +kernel
theorem dX9_layLine_47 : decode cX9_layLine 47 = .ok (.ifCond .le 82, 3) := by decide +kernel
theorem dX9_layLine_50 : decode cX9_layLine 50 = .ok (.iinc 2 (-1), 3) := by decide +kernel
theorem dX9_layLine_53 : decode cX9_layLine 53 = .ok (.aload_n 0, 1) := by decide +kernel
theorem dX9_layLine_54 : decode cX9_layLine 54 = .ok (.getfield 132, 3) := by decide +kernel
theorem dX9_layLine_57 : decode cX9_layLine 57 = .ok (.iload_n 2, 1) := by decide +kernel
theorem dX9_layLine_58 : decode cX9_layLine 58 = .ok (.iaload, 1) := by decide +kernel
theorem dX9_layLine_59 : decode cX9_layLine 59 = .ok (.istore_n 3, 1) := by decide +kernel
theorem dX9_layLine_60 : decode cX9_layLine 60 = .ok (.aload_n 0, 1) := by decide +kernel
theorem dX9_layLine_61 : decode cX9_layLine 61 = .ok (.iload_n 3, 1) := by decide +kernel
theorem dX9_layLine_62 : decode cX9_layLine 62 = .ok (.invokevirtual 501, 3) := by decide +kernel
theorem dX9_layLine_65 : decode cX9_layLine 65 = .ok (.iconst 1, 1) := by decide +kernel
theorem dX9_layLine_66 : decode cX9_layLine 66 = .ok (.if_icmp .eq 13, 3) := by decide +kernel
theorem dX9_layLine_69 : decode cX9_layLine 69 = .ok (.aload_n 0, 1) := by decide +kernel
theorem dX9_layLine_70 : decode cX9_layLine 70 = .ok (.getfield 135, 3) := by decide +kernel
theorem dX9_layLine_73 : decode cX9_layLine 73 = .ok (.iload_n 1, 1) := by decide +kernel
theorem dX9_layLine_74 : decode cX9_layLine 74 = .ok (.iload_n 3, 1) := by decide +kernel
theorem dX9_layLine_75 : decode cX9_layLine 75 = .ok (.iastore, 1) := by decide +kernel
theorem dX9_layLine_76 : decode cX9_layLine 76 = .ok (.iinc 1 1, 3) := by decide +kernel
theorem dX9_layLine_79 : decode cX9_layLine 79 = .ok (.aload_n 0, 1) := by decide +kernel
theorem dX9_layLine_80 : decode cX9_layLine 80 = .ok (.getfield 13, 3) := by decide +kernel
theorem dX9_layLine_83 : decode cX9_layLine 83 = .ok (.iconst 0, 1) := by decide +kernel
theorem dX9_layLine_84 : decode cX9_layLine 84 = .ok (.iaload, 1) := by decide +kernel
theorem dX9_layLine_85 : decode cX9_layLine 85 = .ok (.iconst 1, 1) := by decide +kernel
theorem dX9_layLine_86 : decode cX9_layLine 86 = .ok (.isub, 1) := by decide +kernel
theorem dX9_layLine_87 : decode cX9_layLine 87 = .ok (.istore 4, 2) := by decide +kernel
theorem dX9_layLine_89 : decode cX9_layLine 89 = .ok (.iload 4, 2) := by decide +kernel
theorem dX9_layLine_91 : decode cX9_layLine 91 = .ok (.iload_n 3, 1) := by decide +kernel
theorem dX9_layLine_92 : decode cX9_layLine 92 = .ok (.if_icmp .le 34, 3) := by decide +kernel
theorem dX9_layLine_95 : decode cX9_layLine 95 = .ok (.aload_n 0, 1) := by decide +kernel
theorem dX9_layLine_96 : decode cX9_layLine 96 = .ok (.getfield 13, 3) := by decide +kernel
theorem dX9_layLine_99 : decode cX9_layLine 99 = .ok (.bipush 29, 2) := by decide +kernel
theorem dX9_layLine_101 : decode cX9_layLine 101 = .ok (.iload 4, 2) := by decide +kernel
theorem dX9_layLine_103 : decode cX9_layLine 103 = .ok (.iadd, 1) := by decide +kernel
theorem dX9_layLine_104 : decode cX9_layLine 104 = .ok (.iaload, 1) := by decide +kernel
theorem dX9_layLine_105 : decode cX9_layLine 105 = .ok (.iload_n 3, 1) := by decide +kernel
theorem dX9_layLine_106 : decode cX9_layLine 106 = .ok (.if_icmp .ne 14, 3) := by decide +kernel
theorem dX9_layLine_109 : decode cX9_layLine 109 = .ok (.aload_n 0, 1) := by decide +kernel
theorem dX9_layLine_110 : decode cX9_layLine 110 = .ok (.getfield 132, 3) := by decide +kernel
theorem dX9_layLine_113 : decode cX9_layLine 113 = .ok (.iload_n 2, 1) := by decide +kernel
theorem dX9_layLine_114 : decode cX9_layLine 114 = .ok (.iload 4, 2) := by decide +kernel
theorem dX9_layLine_116 : decode cX9_layLine 116 = .ok (.iastore, 1) := by decide +kernel
theorem dX9_layLine_117 : decode cX9_layLine 117 = .ok (.iinc 2 1, 3) := by decide +kernel
theorem dX9_layLine_120 : decode cX9_layLine 120 = .ok (.iinc 4 (-1), 3) := by decide +kernel
theorem dX9_layLine_123 : decode cX9_layLine 123 = .ok (.goto (-34), 3) := by decide +kernel
theorem dX9_layLine_126 : decode cX9_layLine 126 = .ok (.goto (-80), 3) := by decide +kernel
theorem dX9_layLine_129 : decode cX9_layLine 129 = .ok (.iload_n 1, 1) := by decide +kernel
theorem dX9_layLine_130 : decode cX9_layLine 130 = .ok (.ireturn, 1) := by decide +kernel
theorem dX9_layPlaces_0 : decode cX9_layPlaces 0 = .ok (.aload_n 0, 1) := by decide +kernel
theorem dX9_layPlaces_1 : decode cX9_layPlaces 1 = .ok (.iconst 0, 1) := by decide +kernel
theorem dX9_layPlaces_2 : decode cX9_layPlaces 2 = .ok (.putfield 224, 3) := by decide +kernel
theorem dX9_layPlaces_5 : decode cX9_layPlaces 5 = .ok (.iconst 0, 1) := by decide +kernel
theorem dX9_layPlaces_6 : decode cX9_layPlaces 6 = .ok (.istore_n 2, 1) := by decide +kernel
theorem dX9_layPlaces_7 : decode cX9_layPlaces 7 = .ok (.iload_n 2, 1) := by decide +kernel
theorem dX9_layPlaces_8 : decode cX9_layPlaces 8 = .ok (.aload_n 0, 1) := by decide +kernel
theorem dX9_layPlaces_9 : decode cX9_layPlaces 9 = .ok (.getfield 13, 3) := by decide +kernel
theorem dX9_layPlaces_12 : decode cX9_layPlaces 12 = .ok (.iconst 0, 1) := by decide +kernel
theorem dX9_layPlaces_13 : decode cX9_layPlaces 13 = .ok (.iaload, 1) := by decide +kernel
theorem dX9_layPlaces_14 : decode cX9_layPlaces 14 = .ok (.if_icmp .ge 111, 3) := by decide +kernel
theorem dX9_layPlaces_17 : decode cX9_layPlaces 17 = .ok (.aload_n 0, 1) := by decide +kernel
theorem dX9_layPlaces_18 : decode cX9_layPlaces 18 = .ok (.getfield 13, 3) := by decide +kernel
theorem dX9_layPlaces_21 : decode cX9_layPlaces 21 = .ok (.bipush 22, 2) := by decide +kernel
theorem dX9_layPlaces_23 : decode cX9_layPlaces 23 = .ok (.iload_n 2, 1) := by decide +kernel
theorem dX9_layPlaces_24 : decode cX9_layPlaces 24 = .ok (.iadd, 1) := by decide +kernel
theorem dX9_layPlaces_25 : decode cX9_layPlaces 25 = .ok (.iaload, 1) := by decide +kernel
theorem dX9_layPlaces_26 : decode cX9_layPlaces 26 = .ok (.iconst 1, 1) := by decide +kernel
theorem dX9_layPlaces_27 : decode cX9_layPlaces 27 = .ok (.if_icmp .ne 92, 3) := by decide +kernel
theorem dX9_layPlaces_30 : decode cX9_layPlaces 30 = .ok (.aload_n 0, 1) := by decide +kernel
theorem dX9_layPlaces_31 : decode cX9_layPlaces 31 = .ok (.iload_n 2, 1) := by decide +kernel
theorem dX9_layPlaces_32 : decode cX9_layPlaces 32 = .ok (.iload_n 1, 1) := by decide +kernel
theorem dX9_layPlaces_33 : decode cX9_layPlaces 33 = .ok (.invokevirtual 209, 3) := by decide +kernel
theorem dX9_layPlaces_36 : decode cX9_layPlaces 36 = .ok (.ifCond .ne 83, 3) := by decide +kernel
theorem dX9_layPlaces_39 : decode cX9_layPlaces 39 = .ok (.aload_n 0, 1) := by decide +kernel
theorem dX9_layPlaces_40 : decode cX9_layPlaces 40 = .ok (.getfield 108, 3) := by decide +kernel
theorem dX9_layPlaces_43 : decode cX9_layPlaces 43 = .ok (.iload_n 2, 1) := by decide +kernel
theorem dX9_layPlaces_44 : decode cX9_layPlaces 44 = .ok (.aload_n 0, 1) := by decide +kernel
theorem dX9_layPlaces_45 : decode cX9_layPlaces 45 = .ok (.iload_n 2, 1) := by decide +kernel
theorem dX9_layPlaces_46 : decode cX9_layPlaces 46 = .ok (.iload_n 1, 1) := by decide +kernel
theorem dX9_layPlaces_47 : decode cX9_layPlaces 47 = .ok (.invokevirtual 206, 3) := by decide +kernel
theorem dX9_layPlaces_50 : decode cX9_layPlaces 50 = .ok (.iastore, 1) := by decide +kernel
theorem dX9_layPlaces_51 : decode cX9_layPlaces 51 = .ok (.aload_n 0, 1) := by decide +kernel
theorem dX9_layPlaces_52 : decode cX9_layPlaces 52 = .ok (.getfield 224, 3) := by decide +kernel
theorem dX9_layPlaces_55 : decode cX9_layPlaces 55 = .ok (.istore_n 3, 1) := by decide +kernel
theorem dX9_layPlaces_56 : decode cX9_layPlaces 56 = .ok (.iload_n 3, 1) := by decide +kernel
theorem dX9_layPlaces_57 : decode cX9_layPlaces 57 = .ok (.ifCond .le 45, 3) := by decide +kernel
theorem dX9_layPlaces_60 : decode cX9_layPlaces 60 = .ok (.aload_n 0, 1) := by decide +kernel
theorem dX9_layPlaces_61 : decode cX9_layPlaces 61 = .ok (.getfield 108, 3) := by decide +kernel
theorem dX9_layPlaces_64 : decode cX9_layPlaces 64 = .ok (.aload_n 0, 1) := by decide +kernel
theorem dX9_layPlaces_65 : decode cX9_layPlaces 65 = .ok (.getfield 111, 3) := by decide +kernel
theorem dX9_layPlaces_68 : decode cX9_layPlaces 68 = .ok (.iload_n 3, 1) := by decide +kernel
theorem dX9_layPlaces_69 : decode cX9_layPlaces 69 = .ok (.iconst 1, 1) := by decide +kernel
theorem dX9_layPlaces_70 : decode cX9_layPlaces 70 = .ok (.isub, 1) := by decide +kernel
theorem dX9_layPlaces_71 : decode cX9_layPlaces 71 = .ok (.iaload, 1) := by decide +kernel
theorem dX9_layPlaces_72 : decode cX9_layPlaces 72 = .ok (.iaload, 1) := by decide +kernel
theorem dX9_layPlaces_73 : decode cX9_layPlaces 73 = .ok (.aload_n 0, 1) := by decide +kernel
theorem dX9_layPlaces_74 : decode cX9_layPlaces 74 = .ok (.getfield 108, 3) := by decide +kernel
theorem dX9_layPlaces_77 : decode cX9_layPlaces 77 = .ok (.iload_n 2, 1) := by decide +kernel
theorem dX9_layPlaces_78 : decode cX9_layPlaces 78 = .ok (.iaload, 1) := by decide +kernel
theorem dX9_layPlaces_79 : decode cX9_layPlaces 79 = .ok (.if_icmp .ge 23, 3) := by decide +kernel
theorem dX9_layPlaces_82 : decode cX9_layPlaces 82 = .ok (.aload_n 0, 1) := by decide +kernel
theorem dX9_layPlaces_83 : decode cX9_layPlaces 83 = .ok (.getfield 111, 3) := by decide +kernel
theorem dX9_layPlaces_86 : decode cX9_layPlaces 86 = .ok (.iload_n 3, 1) := by decide +kernel
theorem dX9_layPlaces_87 : decode cX9_layPlaces 87 = .ok (.aload_n 0, 1) := by decide +kernel
theorem dX9_layPlaces_88 : decode cX9_layPlaces 88 = .ok (.getfield 111, 3) := by decide +kernel
theorem dX9_layPlaces_91 : decode cX9_layPlaces 91 = .ok (.iload_n 3, 1) := by decide +kernel
theorem dX9_layPlaces_92 : decode cX9_layPlaces 92 = .ok (.iconst 1, 1) := by decide +kernel
theorem dX9_layPlaces_93 : decode cX9_layPlaces 93 = .ok (.isub, 1) := by decide +kernel
theorem dX9_layPlaces_94 : decode cX9_layPlaces 94 = .ok (.iaload, 1) := by decide +kernel
theorem dX9_layPlaces_95 : decode cX9_layPlaces 95 = .ok (.iastore, 1) := by decide +kernel
theorem dX9_layPlaces_96 : decode cX9_layPlaces 96 = .ok (.iinc 3 (-1), 3) := by decide +kernel
theorem dX9_layPlaces_99 : decode cX9_layPlaces 99 = .ok (.goto (-43), 3) := by decide +kernel
theorem dX9_layPlaces_102 : decode cX9_layPlaces 102 = .ok (.aload_n 0, 1) := by decide +kernel
theorem dX9_layPlaces_103 : decode cX9_layPlaces 103 = .ok (.getfield 111, 3) := by decide +kernel
theorem dX9_layPlaces_106 : decode cX9_layPlaces 106 = .ok (.iload_n 3, 1) := by decide +kernel
theorem dX9_layPlaces_107 : decode cX9_layPlaces 107 = .ok (.iload_n 2, 1) := by decide +kernel
theorem dX9_layPlaces_108 : decode cX9_layPlaces 108 = .ok (.iastore, 1) := by decide +kernel
theorem dX9_layPlaces_109 : decode cX9_layPlaces 109 = .ok (.aload_n 0, 1) := by decide +kernel
theorem dX9_layPlaces_110 : decode cX9_layPlaces 110 = .ok (.dup, 1) := by decide +kernel
theorem dX9_layPlaces_111 : decode cX9_layPlaces 111 = .ok (.getfield 224, 3) := by decide +kernel
theorem dX9_layPlaces_114 : decode cX9_layPlaces 114 = .ok (.iconst 1, 1) := by decide +kernel
theorem dX9_layPlaces_115 : decode cX9_layPlaces 115 = .ok (.iadd, 1) := by decide +kernel
theorem dX9_layPlaces_116 : decode cX9_layPlaces 116 = .ok (.putfield 224, 3) := by decide +kernel
theorem dX9_layPlaces_119 : decode cX9_layPlaces 119 = .ok (.iinc 2 1, 3) := by decide +kernel
theorem dX9_layPlaces_122 : decode cX9_layPlaces 122 = .ok (.goto (-115), 3) := by decide +kernel
theorem dX9_layPlaces_125 : decode cX9_layPlaces 125 = .ok (.return_, 1) := by decide +kernel
theorem dX9_layRuns_0 : decode cX9_layRuns 0 = .ok (.iconst 0, 1) := by decide +kernel
theorem dX9_layRuns_1 : decode cX9_layRuns 1 = .ok (.istore_n 2, 1) := by decide +kernel
theorem dX9_layRuns_2 : decode cX9_layRuns 2 = .ok (.iload_n 2, 1) := by decide +kernel
theorem dX9_layRuns_3 : decode cX9_layRuns 3 = .ok (.aload_n 0, 1) := by decide +kernel
theorem dX9_layRuns_4 : decode cX9_layRuns 4 = .ok (.getfield 13, 3) := by decide +kernel
theorem dX9_layRuns_7 : decode cX9_layRuns 7 = .ok (.iconst 0, 1) := by decide +kernel
theorem dX9_layRuns_8 : decode cX9_layRuns 8 = .ok (.iaload, 1) := by decide +kernel
theorem dX9_layRuns_9 : decode cX9_layRuns 9 = .ok (.if_icmp .ge 33, 3) := by decide +kernel
theorem dX9_layRuns_12 : decode cX9_layRuns 12 = .ok (.aload_n 0, 1) := by decide +kernel
theorem dX9_layRuns_13 : decode cX9_layRuns 13 = .ok (.getfield 108, 3) := by decide +kernel
theorem dX9_layRuns_16 : decode cX9_layRuns 16 = .ok (.iload_n 2, 1) := by decide +kernel
theorem dX9_layRuns_17 : decode cX9_layRuns 17 = .ok (.aload_n 0, 1) := by decide +kernel
theorem dX9_layRuns_18 : decode cX9_layRuns 18 = .ok (.iload_n 2, 1) := by decide +kernel
theorem dX9_layRuns_19 : decode cX9_layRuns 19 = .ok (.iload_n 1, 1) := by decide +kernel
theorem dX9_layRuns_20 : decode cX9_layRuns 20 = .ok (.invokevirtual 206, 3) := by decide +kernel
theorem dX9_layRuns_23 : decode cX9_layRuns 23 = .ok (.iastore, 1) := by decide +kernel
theorem dX9_layRuns_24 : decode cX9_layRuns 24 = .ok (.aload_n 0, 1) := by decide +kernel
theorem dX9_layRuns_25 : decode cX9_layRuns 25 = .ok (.getfield 114, 3) := by decide +kernel
theorem dX9_layRuns_28 : decode cX9_layRuns 28 = .ok (.iload_n 2, 1) := by decide +kernel
theorem dX9_layRuns_29 : decode cX9_layRuns 29 = .ok (.aload_n 0, 1) := by decide +kernel
theorem dX9_layRuns_30 : decode cX9_layRuns 30 = .ok (.iload_n 2, 1) := by decide +kernel
theorem dX9_layRuns_31 : decode cX9_layRuns 31 = .ok (.iload_n 1, 1) := by decide +kernel
theorem dX9_layRuns_32 : decode cX9_layRuns 32 = .ok (.invokevirtual 209, 3) := by decide +kernel
theorem dX9_layRuns_35 : decode cX9_layRuns 35 = .ok (.bastore, 1) := by decide +kernel
theorem dX9_layRuns_36 : decode cX9_layRuns 36 = .ok (.iinc 2 1, 3) := by decide +kernel
theorem dX9_layRuns_39 : decode cX9_layRuns 39 = .ok (.goto (-37), 3) := by decide +kernel
theorem dX9_layRuns_42 : decode cX9_layRuns 42 = .ok (.return_, 1) := by decide +kernel
theorem dX9_look_0 : decode cX9_look 0 = .ok (.aload_n 0, 1) := by decide +kernel
theorem dX9_look_1 : decode cX9_look 1 = .ok (.iconst 0, 1) := by decide +kernel
theorem dX9_look_2 : decode cX9_look 2 = .ok (.putfield 165, 3) := by decide +kernel
theorem dX9_look_5 : decode cX9_look 5 = .ok (.aload_n 0, 1) := by decide +kernel
theorem dX9_look_6 : decode cX9_look 6 = .ok (.invokevirtual 483, 3) := by decide +kernel
theorem dX9_look_9 : decode cX9_look 9 = .ok (.istore_n 2, 1) := by decide +kernel
theorem dX9_look_10 : decode cX9_look 10 = .ok (.iload_n 1, 1) := by decide +kernel
theorem dX9_look_11 : decode cX9_look 11 = .ok (.i2l, 1) := by decide +kernel
theorem dX9_look_12 : decode cX9_look 12 = .ok (.lconst 0, 1) := by decide +kernel
theorem dX9_look_13 : decode cX9_look 13 = .ok (.lconst 1, 1) := by decide +kernel
theorem dX9_look_14 : decode cX9_look 14 = .ok (.invokestatic 185, 3) := by decide +kernel
theorem dX9_look_17 : decode cX9_look 17 = .ok (.ifCond .eq 7, 3) := by decide +kernel
theorem dX9_look_20 : decode cX9_look 20 = .ok (.iload_n 2, 1) := by decide +kernel
theorem dX9_look_21 : decode cX9_look 21 = .ok (.ifCond .ne 5, 3) := by decide +kernel
theorem dX9_look_24 : decode cX9_look 24 = .ok (.iconst (-1), 1) := by decide +kernel
theorem dX9_look_25 : decode cX9_look 25 = .ok (.ireturn, 1) := by decide +kernel
theorem dX9_look_26 : decode cX9_look 26 = .ok (.ldc_w 476, 3) := by decide +kernel
theorem dX9_look_29 : decode cX9_look 29 = .ok (.istore_n 3, 1) := by decide +kernel
theorem dX9_look_30 : decode cX9_look 30 = .ok (.iconst (-1), 1) := by decide +kernel
theorem dX9_look_31 : decode cX9_look 31 = .ok (.istore 4, 2) := by decide +kernel
theorem dX9_look_33 : decode cX9_look 33 = .ok (.iconst 0, 1) := by decide +kernel
theorem dX9_look_34 : decode cX9_look 34 = .ok (.istore 5, 2) := by decide +kernel
theorem dX9_look_36 : decode cX9_look 36 = .ok (.iload 5, 2) := by decide +kernel
theorem dX9_look_38 : decode cX9_look 38 = .ok (.iconst 4, 1) := by decide +kernel
theorem dX9_look_39 : decode cX9_look 39 = .ok (.if_icmp .ge 140, 3) := by decide +kernel
theorem dX9_look_42 : decode cX9_look 42 = .ok (.iconst 0, 1) := by decide +kernel
theorem dX9_look_43 : decode cX9_look 43 = .ok (.istore 6, 2) := by decide +kernel
theorem dX9_look_45 : decode cX9_look 45 = .ok (.iload 6, 2) := by decide +kernel
theorem dX9_look_47 : decode cX9_look 47 = .ok (.bipush 10, 2) := by decide +kernel
theorem dX9_look_49 : decode cX9_look 49 = .ok (.if_icmp .ge 17, 3) := by decide +kernel
theorem dX9_look_52 : decode cX9_look 52 = .ok (.aload_n 0, 1) := by decide +kernel
theorem dX9_look_53 : decode cX9_look 53 = .ok (.getfield 117, 3) := by decide +kernel
theorem dX9_look_56 : decode cX9_look 56 = .ok (.iload 6, 2) := by decide +kernel
theorem dX9_look_58 : decode cX9_look 58 = .ok (.iconst 0, 1) := by decide +kernel
theorem dX9_look_59 : decode cX9_look 59 = .ok (.iastore, 1) := by decide +kernel
theorem dX9_look_60 : decode cX9_look 60 = .ok (.iinc 6 1, 3) := by decide +kernel
theorem dX9_look_63 : decode cX9_look 63 = .ok (.goto (-18), 3) := by decide +kernel
theorem dX9_look_66 : decode cX9_look 66 = .ok (.iconst 0, 1) := by decide +kernel
theorem dX9_look_67 : decode cX9_look 67 = .ok (.istore 6, 2) := by decide +kernel
theorem dX9_look_69 : decode cX9_look 69 = .ok (.iconst 0, 1) := by decide +kernel
theorem dX9_look_70 : decode cX9_look 70 = .ok (.istore 7, 2) := by decide +kernel
theorem dX9_look_72 : decode cX9_look 72 = .ok (.iload 7, 2) := by decide +kernel
theorem dX9_look_74 : decode cX9_look 74 = .ok (.aload_n 0, 1) := by decide +kernel
theorem dX9_look_75 : decode cX9_look 75 = .ok (.getfield 13, 3) := by decide +kernel
theorem dX9_look_78 : decode cX9_look 78 = .ok (.iconst 0, 1) := by decide +kernel
theorem dX9_look_79 : decode cX9_look 79 = .ok (.iaload, 1) := by decide +kernel
theorem dX9_look_80 : decode cX9_look 80 = .ok (.if_icmp .ge 65, 3) := by decide +kernel
theorem dX9_look_83 : decode cX9_look 83 = .ok (.iload_n 2, 1) := by decide +kernel
theorem dX9_look_84 : decode cX9_look 84 = .ok (.iload 7, 2) := by decide +kernel
theorem dX9_look_86 : decode cX9_look 86 = .ok (.invokestatic 467, 3) := by decide +kernel
theorem dX9_look_89 : decode cX9_look 89 = .ok (.ifCond .eq 50, 3) := by decide +kernel
theorem dX9_look_92 : decode cX9_look 92 = .ok (.aload_n 0, 1) := by decide +kernel
theorem dX9_look_93 : decode cX9_look 93 = .ok (.iload 7, 2) := by decide +kernel
theorem dX9_look_95 : decode cX9_look 95 = .ok (.iload 5, 2) := by decide +kernel
theorem dX9_look_97 : decode cX9_look 97 = .ok (.invokevirtual 437, 3) := by decide +kernel
theorem dX9_look_100 : decode cX9_look 100 = .ok (.istore 8, 2) := by decide +kernel
theorem dX9_look_102 : decode cX9_look 102 = .ok (.aload_n 0, 1) := by decide +kernel
theorem dX9_look_103 : decode cX9_look 103 = .ok (.getfield 117, 3) := by decide +kernel
theorem dX9_look_106 : decode cX9_look 106 = .ok (.iload 8, 2) := by decide +kernel
theorem dX9_look_108 : decode cX9_look 108 = .ok (.dup2, 1) := by decide +kernel
theorem dX9_look_109 : decode cX9_look 109 = .ok (.iaload, 1) := by decide +kernel
theorem dX9_look_110 : decode cX9_look 110 = .ok (.iconst 1, 1) := by decide +kernel
theorem dX9_look_111 : decode cX9_look 111 = .ok (.iadd, 1) := by decide +kernel
theorem dX9_look_112 : decode cX9_look 112 = .ok (.iastore, 1) := by decide +kernel
theorem dX9_look_113 : decode cX9_look 113 = .ok (.aload_n 0, 1) := by decide +kernel
theorem dX9_look_114 : decode cX9_look 114 = .ok (.getfield 117, 3) := by decide +kernel
theorem dX9_look_117 : decode cX9_look 117 = .ok (.iload 8, 2) := by decide +kernel
theorem dX9_look_119 : decode cX9_look 119 = .ok (.iaload, 1) := by decide +kernel
theorem dX9_look_120 : decode cX9_look 120 = .ok (.iload 6, 2) := by decide +kernel
theorem dX9_look_122 : decode cX9_look 122 = .ok (.if_icmp .le 13, 3) := by decide +kernel
theorem dX9_look_125 : decode cX9_look 125 = .ok (.aload_n 0, 1) := by decide +kernel
theorem dX9_look_126 : decode cX9_look 126 = .ok (.getfield 117, 3) := by decide +kernel
theorem dX9_look_129 : decode cX9_look 129 = .ok (.iload 8, 2) := by decide +kernel
theorem dX9_look_131 : decode cX9_look 131 = .ok (.iaload, 1) := by decide +kernel
theorem dX9_look_132 : decode cX9_look 132 = .ok (.goto 5, 3) := by decide +kernel
theorem dX9_look_135 : decode cX9_look 135 = .ok (.iload 6, 2) := by decide +kernel
theorem dX9_look_137 : decode cX9_look 137 = .ok (.istore 6, 2) := by decide +kernel
theorem dX9_look_139 : decode cX9_look 139 = .ok (.iinc 7 1, 3) := by decide +kernel
theorem dX9_look_142 : decode cX9_look 142 = .ok (.goto (-70), 3) := by decide +kernel
theorem dX9_look_145 : decode cX9_look 145 = .ok (.iload 6, 2) := by decide +kernel
theorem dX9_look_147 : decode cX9_look 147 = .ok (.iload_n 3, 1) := by decide +kernel
theorem dX9_look_148 : decode cX9_look 148 = .ok (.if_icmp .ge 8, 3) := by decide +kernel
theorem dX9_look_151 : decode cX9_look 151 = .ok (.iload 5, 2) := by decide +kernel
theorem dX9_look_153 : decode cX9_look 153 = .ok (.goto 5, 3) := by decide +kernel
theorem dX9_look_156 : decode cX9_look 156 = .ok (.iload 4, 2) := by decide +kernel
theorem dX9_look_158 : decode cX9_look 158 = .ok (.istore 4, 2) := by decide +kernel
theorem dX9_look_160 : decode cX9_look 160 = .ok (.iload 6, 2) := by decide +kernel
theorem dX9_look_162 : decode cX9_look 162 = .ok (.iload_n 3, 1) := by decide +kernel
theorem dX9_look_163 : decode cX9_look 163 = .ok (.if_icmp .ge 8, 3) := by decide +kernel
theorem dX9_look_166 : decode cX9_look 166 = .ok (.iload 6, 2) := by decide +kernel
theorem dX9_look_168 : decode cX9_look 168 = .ok (.goto 4, 3) := by decide +kernel
theorem dX9_look_171 : decode cX9_look 171 = .ok (.iload_n 3, 1) := by decide +kernel
theorem dX9_look_172 : decode cX9_look 172 = .ok (.istore_n 3, 1) := by decide +kernel
theorem dX9_look_173 : decode cX9_look 173 = .ok (.iinc 5 1, 3) := by decide +kernel
theorem dX9_look_176 : decode cX9_look 176 = .ok (.goto (-140), 3) := by decide +kernel
theorem dX9_look_179 : decode cX9_look 179 = .ok (.iload_n 1, 1) := by decide +kernel
theorem dX9_look_180 : decode cX9_look 180 = .ok (.ifCond .ne 8, 3) := by decide +kernel
theorem dX9_look_183 : decode cX9_look 183 = .ok (.iload 4, 2) := by decide +kernel
theorem dX9_look_185 : decode cX9_look 185 = .ok (.goto 4, 3) := by decide +kernel
theorem dX9_look_188 : decode cX9_look 188 = .ok (.iload_n 3, 1) := by decide +kernel
theorem dX9_look_189 : decode cX9_look 189 = .ok (.ireturn, 1) := by decide +kernel
theorem dX9_must_0 : decode cX9_must 0 = .ok (.aload_n 0, 1) := by decide +kernel
theorem dX9_must_1 : decode cX9_must 1 = .ok (.getfield 246, 3) := by decide +kernel
theorem dX9_must_4 : decode cX9_must 4 = .ok (.ifCond .ne 20, 3) := by decide +kernel
theorem dX9_must_7 : decode cX9_must 7 = .ok (.iload_n 1, 1) := by decide +kernel
theorem dX9_must_8 : decode cX9_must 8 = .ok (.ifCond .ne 16, 3) := by decide +kernel
theorem dX9_must_11 : decode cX9_must 11 = .ok (.aload_n 0, 1) := by decide +kernel
theorem dX9_must_12 : decode cX9_must 12 = .ok (.iconst 1, 1) := by decide +kernel
theorem dX9_must_13 : decode cX9_must 13 = .ok (.putfield 246, 3) := by decide +kernel
theorem dX9_must_16 : decode cX9_must 16 = .ok (.aload_n 0, 1) := by decide +kernel
theorem dX9_must_17 : decode cX9_must 17 = .ok (.aload_n 0, 1) := by decide +kernel
theorem dX9_must_18 : decode cX9_must 18 = .ok (.getfield 253, 3) := by decide +kernel
theorem dX9_must_21 : decode cX9_must 21 = .ok (.putfield 38, 3) := by decide +kernel
theorem dX9_must_24 : decode cX9_must 24 = .ok (.aload_n 0, 1) := by decide +kernel
theorem dX9_must_25 : decode cX9_must 25 = .ok (.getfield 246, 3) := by decide +kernel
theorem dX9_must_28 : decode cX9_must 28 = .ok (.ifCond .ne 7, 3) := by decide +kernel
theorem dX9_must_31 : decode cX9_must 31 = .ok (.aload_n 0, 1) := by decide +kernel
theorem dX9_must_32 : decode cX9_must 32 = .ok (.invokevirtual 250, 3) := by decide +kernel
theorem dX9_must_35 : decode cX9_must 35 = .ok (.return_, 1) := by decide +kernel
theorem dX9_never_0 : decode cX9_never 0 = .ok (.aload_n 0, 1) := by decide +kernel
theorem dX9_never_1 : decode cX9_never 1 = .ok (.iconst 0, 1) := by decide +kernel
theorem dX9_never_2 : decode cX9_never 2 = .ok (.putfield 165, 3) := by decide +kernel
theorem dX9_never_5 : decode cX9_never 5 = .ok (.iconst 1, 1) := by decide +kernel
theorem dX9_never_6 : decode cX9_never 6 = .ok (.aload_n 0, 1) := by decide +kernel
theorem dX9_never_7 : decode cX9_never 7 = .ok (.getfield 13, 3) := by decide +kernel
theorem dX9_never_10 : decode cX9_never 10 = .ok (.iconst 0, 1) := by decide +kernel
theorem dX9_never_11 : decode cX9_never 11 = .ok (.iaload, 1) := by decide +kernel
theorem dX9_never_12 : decode cX9_never 12 = .ok (.ishl, 1) := by decide +kernel
theorem dX9_never_13 : decode cX9_never 13 = .ok (.iconst 1, 1) := by decide +kernel
theorem dX9_never_14 : decode cX9_never 14 = .ok (.isub, 1) := by decide +kernel
theorem dX9_never_15 : decode cX9_never 15 = .ok (.istore_n 1, 1) := by decide +kernel
theorem dX9_never_16 : decode cX9_never 16 = .ok (.iconst 0, 1) := by decide +kernel
theorem dX9_never_17 : decode cX9_never 17 = .ok (.istore_n 2, 1) := by decide +kernel
theorem dX9_never_18 : decode cX9_never 18 = .ok (.iload_n 2, 1) := by decide +kernel
theorem dX9_never_19 : decode cX9_never 19 = .ok (.iconst 4, 1) := by decide +kernel
theorem dX9_never_20 : decode cX9_never 20 = .ok (.if_icmp .ge 64, 3) := by decide +kernel
theorem dX9_never_23 : decode cX9_never 23 = .ok (.aload_n 0, 1) := by decide +kernel
theorem dX9_never_24 : decode cX9_never 24 = .ok (.iload_n 2, 1) := by decide +kernel
theorem dX9_never_25 : decode cX9_never 25 = .ok (.invokevirtual 470, 3) := by decide +kernel
theorem dX9_never_28 : decode cX9_never 28 = .ok (.iconst 0, 1) := by decide +kernel
theorem dX9_never_29 : decode cX9_never 29 = .ok (.istore_n 3, 1) := by decide +kernel
theorem dX9_never_30 : decode cX9_never 30 = .ok (.iload_n 3, 1) := by decide +kernel
theorem dX9_never_31 : decode cX9_never 31 = .ok (.aload_n 0, 1) := by decide +kernel
theorem dX9_never_32 : decode cX9_never 32 = .ok (.getfield 13, 3) := by decide +kernel
theorem dX9_never_35 : decode cX9_never 35 = .ok (.iconst 0, 1) := by decide +kernel
theorem dX9_never_36 : decode cX9_never 36 = .ok (.iaload, 1) := by decide +kernel
theorem dX9_never_37 : decode cX9_never 37 = .ok (.if_icmp .ge 41, 3) := by decide +kernel
theorem dX9_never_40 : decode cX9_never 40 = .ok (.iload_n 1, 1) := by decide +kernel
theorem dX9_never_41 : decode cX9_never 41 = .ok (.aload_n 0, 1) := by decide +kernel
theorem dX9_never_42 : decode cX9_never 42 = .ok (.getfield 114, 3) := by decide +kernel
theorem dX9_never_45 : decode cX9_never 45 = .ok (.iload_n 3, 1) := by decide +kernel
theorem dX9_never_46 : decode cX9_never 46 = .ok (.baload, 1) := by decide +kernel
theorem dX9_never_47 : decode cX9_never 47 = .ok (.ifCond .ne 14, 3) := by decide +kernel
theorem dX9_never_50 : decode cX9_never 50 = .ok (.aload_n 0, 1) := by decide +kernel
theorem dX9_never_51 : decode cX9_never 51 = .ok (.iload_n 3, 1) := by decide +kernel
theorem dX9_never_52 : decode cX9_never 52 = .ok (.bipush 127, 2) := by decide +kernel
theorem dX9_never_54 : decode cX9_never 54 = .ok (.invokevirtual 480, 3) := by decide +kernel
theorem dX9_never_57 : decode cX9_never 57 = .ok (.iconst 1, 1) := by decide +kernel
theorem dX9_never_58 : decode cX9_never 58 = .ok (.if_icmp .ne 7, 3) := by decide +kernel
theorem dX9_never_61 : decode cX9_never 61 = .ok (.iconst (-1), 1) := by decide +kernel
theorem dX9_never_62 : decode cX9_never 62 = .ok (.goto 8, 3) := by decide +kernel
theorem dX9_never_65 : decode cX9_never 65 = .ok (.iconst 1, 1) := by decide +kernel
theorem dX9_never_66 : decode cX9_never 66 = .ok (.iload_n 3, 1) := by decide +kernel
theorem dX9_never_67 : decode cX9_never 67 = .ok (.ishl, 1) := by decide +kernel
theorem dX9_never_68 : decode cX9_never 68 = .ok (.iconst (-1), 1) := by decide +kernel
theorem dX9_never_69 : decode cX9_never 69 = .ok (.ixor, 1) := by decide +kernel
theorem dX9_never_70 : decode cX9_never 70 = .ok (.iand, 1) := by decide +kernel
theorem dX9_never_71 : decode cX9_never 71 = .ok (.istore_n 1, 1) := by decide +kernel
theorem dX9_never_72 : decode cX9_never 72 = .ok (.iinc 3 1, 3) := by decide +kernel
theorem dX9_never_75 : decode cX9_never 75 = .ok (.goto (-45), 3) := by decide +kernel
theorem dX9_never_78 : decode cX9_never 78 = .ok (.iinc 2 1, 3) := by decide +kernel
theorem dX9_never_81 : decode cX9_never 81 = .ok (.goto (-63), 3) := by decide +kernel
theorem dX9_never_84 : decode cX9_never 84 = .ok (.iload_n 1, 1) := by decide +kernel
theorem dX9_never_85 : decode cX9_never 85 = .ok (.ireturn, 1) := by decide +kernel
theorem dX9_next_0 : decode cX9_next 0 = .ok (.aload_n 0, 1) := by decide +kernel
theorem dX9_next_1 : decode cX9_next 1 = .ok (.aload_n 0, 1) := by decide +kernel
theorem dX9_next_2 : decode cX9_next 2 = .ok (.getfield 243, 3) := by decide +kernel
theorem dX9_next_5 : decode cX9_next 5 = .ok (.putfield 253, 3) := by decide +kernel
theorem dX9_next_8 : decode cX9_next 8 = .ok (.aload_n 0, 1) := by decide +kernel
theorem dX9_next_9 : decode cX9_next 9 = .ok (.getfield 253, 3) := by decide +kernel
theorem dX9_next_12 : decode cX9_next 12 = .ok (.aload_n 0, 1) := by decide +kernel
theorem dX9_next_13 : decode cX9_next 13 = .ok (.getfield 231, 3) := by decide +kernel
theorem dX9_next_16 : decode cX9_next 16 = .ok (.if_icmp .ge 30, 3) := by decide +kernel
theorem dX9_next_19 : decode cX9_next 19 = .ok (.aload_n 0, 1) := by decide +kernel
theorem dX9_next_20 : decode cX9_next 20 = .ok (.getfield 35, 3) := by decide +kernel
theorem dX9_next_23 : decode cX9_next 23 = .ok (.aload_n 0, 1) := by decide +kernel
theorem dX9_next_24 : decode cX9_next 24 = .ok (.getfield 253, 3) := by decide +kernel
theorem dX9_next_27 : decode cX9_next 27 = .ok (.iaload, 1) := by decide +kernel
theorem dX9_next_28 : decode cX9_next 28 = .ok (.bipush 32, 2) := by decide +kernel
theorem dX9_next_30 : decode cX9_next 30 = .ok (.if_icmp .ne 16, 3) := by decide +kernel
theorem dX9_next_33 : decode cX9_next 33 = .ok (.aload_n 0, 1) := by decide +kernel
theorem dX9_next_34 : decode cX9_next 34 = .ok (.dup, 1) := by decide +kernel
theorem dX9_next_35 : decode cX9_next 35 = .ok (.getfield 253, 3) := by decide +kernel
theorem dX9_next_38 : decode cX9_next 38 = .ok (.iconst 1, 1) := by decide +kernel
theorem dX9_next_39 : decode cX9_next 39 = .ok (.iadd, 1) := by decide +kernel
theorem dX9_next_40 : decode cX9_next 40 = .ok (.putfield 253, 3) := by decide +kernel
theorem dX9_next_43 : decode cX9_next 43 = .ok (.goto (-35), 3) := by decide +kernel
theorem dX9_next_46 : decode cX9_next 46 = .ok (.aload_n 0, 1) := by decide +kernel
theorem dX9_next_47 : decode cX9_next 47 = .ok (.aload_n 0, 1) := by decide +kernel
theorem dX9_next_48 : decode cX9_next 48 = .ok (.getfield 253, 3) := by decide +kernel
theorem dX9_next_51 : decode cX9_next 51 = .ok (.putfield 243, 3) := by decide +kernel
theorem dX9_next_54 : decode cX9_next 54 = .ok (.aload_n 0, 1) := by decide +kernel
theorem dX9_next_55 : decode cX9_next 55 = .ok (.lconst 0, 1) := by decide +kernel
theorem dX9_next_56 : decode cX9_next 56 = .ok (.putfield 256, 3) := by decide +kernel
theorem dX9_next_59 : decode cX9_next 59 = .ok (.aload_n 0, 1) := by decide +kernel
theorem dX9_next_60 : decode cX9_next 60 = .ok (.aload_n 0, 1) := by decide +kernel
theorem dX9_next_61 : decode cX9_next 61 = .ok (.getfield 253, 3) := by decide +kernel
theorem dX9_next_64 : decode cX9_next 64 = .ok (.aload_n 0, 1) := by decide +kernel
theorem dX9_next_65 : decode cX9_next 65 = .ok (.getfield 231, 3) := by decide +kernel
theorem dX9_next_68 : decode cX9_next 68 = .ok (.if_icmp .ne 7, 3) := by decide +kernel
theorem dX9_next_71 : decode cX9_next 71 = .ok (.iconst 0, 1) := by decide +kernel
theorem dX9_next_72 : decode cX9_next 72 = .ok (.goto 42, 3) := by decide +kernel
theorem dX9_next_75 : decode cX9_next 75 = .ok (.aload_n 0, 1) := by decide +kernel
theorem dX9_next_76 : decode cX9_next 76 = .ok (.getfield 35, 3) := by decide +kernel
theorem dX9_next_79 : decode cX9_next 79 = .ok (.aload_n 0, 1) := by decide +kernel
theorem dX9_next_80 : decode cX9_next 80 = .ok (.getfield 253, 3) := by decide +kernel
theorem dX9_next_83 : decode cX9_next 83 = .ok (.iaload, 1) := by decide +kernel
theorem dX9_next_84 : decode cX9_next 84 = .ok (.invokestatic 260, 3) := by decide +kernel
theorem dX9_next_87 : decode cX9_next 87 = .ok (.ifCond .eq 7, 3) := by decide +kernel
theorem dX9_next_90 : decode cX9_next 90 = .ok (.iconst 1, 1) := by decide +kernel
theorem dX9_next_91 : decode cX9_next 91 = .ok (.goto 23, 3) := by decide +kernel
theorem dX9_next_94 : decode cX9_next 94 = .ok (.aload_n 0, 1) := by decide +kernel
theorem dX9_next_95 : decode cX9_next 95 = .ok (.getfield 35, 3) := by decide +kernel
theorem dX9_next_98 : decode cX9_next 98 = .ok (.aload_n 0, 1) := by decide +kernel
theorem dX9_next_99 : decode cX9_next 99 = .ok (.getfield 253, 3) := by decide +kernel
theorem dX9_next_102 : decode cX9_next 102 = .ok (.iaload, 1) := by decide +kernel
theorem dX9_next_103 : decode cX9_next 103 = .ok (.invokestatic 263, 3) := by decide +kernel
theorem dX9_next_106 : decode cX9_next 106 = .ok (.ifCond .eq 7, 3) := by decide +kernel
theorem dX9_next_109 : decode cX9_next 109 = .ok (.iconst 2, 1) := by decide +kernel
theorem dX9_next_110 : decode cX9_next 110 = .ok (.goto 4, 3) := by decide +kernel
theorem dX9_next_113 : decode cX9_next 113 = .ok (.iconst 3, 1) := by decide +kernel
theorem dX9_next_114 : decode cX9_next 114 = .ok (.putfield 266, 3) := by decide +kernel
theorem dX9_next_117 : decode cX9_next 117 = .ok (.aload_n 0, 1) := by decide +kernel
theorem dX9_next_118 : decode cX9_next 118 = .ok (.getfield 266, 3) := by decide +kernel
theorem dX9_next_121 : decode cX9_next 121 = .ok (.iconst 3, 1) := by decide +kernel
theorem dX9_next_122 : decode cX9_next 122 = .ok (.if_icmp .ne 27, 3) := by decide +kernel
theorem dX9_next_125 : decode cX9_next 125 = .ok (.aload_n 0, 1) := by decide +kernel
theorem dX9_next_126 : decode cX9_next 126 = .ok (.aload_n 0, 1) := by decide +kernel
theorem dX9_next_127 : decode cX9_next 127 = .ok (.getfield 35, 3) := by decide +kernel
theorem dX9_next_130 : decode cX9_next 130 = .ok (.aload_n 0, 1) := by decide +kernel
theorem dX9_next_131 : decode cX9_next 131 = .ok (.getfield 253, 3) := by decide +kernel
theorem dX9_next_134 : decode cX9_next 134 = .ok (.iaload, 1) := by decide +kernel
theorem dX9_next_135 : decode cX9_next 135 = .ok (.i2l, 1) := by decide +kernel
theorem dX9_next_136 : decode cX9_next 136 = .ok (.putfield 256, 3) := by decide +kernel
theorem dX9_next_139 : decode cX9_next 139 = .ok (.aload_n 0, 1) := by decide +kernel
theorem dX9_next_140 : decode cX9_next 140 = .ok (.dup, 1) := by decide +kernel
theorem dX9_next_141 : decode cX9_next 141 = .ok (.getfield 243, 3) := by decide +kernel
theorem dX9_next_144 : decode cX9_next 144 = .ok (.iconst 1, 1) := by decide +kernel
theorem dX9_next_145 : decode cX9_next 145 = .ok (.iadd, 1) := by decide +kernel
theorem dX9_next_146 : decode cX9_next 146 = .ok (.putfield 243, 3) := by decide +kernel
theorem dX9_next_149 : decode cX9_next 149 = .ok (.aload_n 0, 1) := by decide +kernel
theorem dX9_next_150 : decode cX9_next 150 = .ok (.getfield 266, 3) := by decide +kernel
theorem dX9_next_153 : decode cX9_next 153 = .ok (.iconst 1, 1) := by decide +kernel
theorem dX9_next_154 : decode cX9_next 154 = .ok (.if_icmp .ne 89, 3) := by decide +kernel
theorem dX9_next_157 : decode cX9_next 157 = .ok (.aload_n 0, 1) := by decide +kernel
theorem dX9_next_158 : decode cX9_next 158 = .ok (.getfield 243, 3) := by decide +kernel
theorem dX9_next_161 : decode cX9_next 161 = .ok (.aload_n 0, 1) := by decide +kernel
theorem dX9_next_162 : decode cX9_next 162 = .ok (.getfield 231, 3) := by decide +kernel
theorem dX9_next_165 : decode cX9_next 165 = .ok (.if_icmp .ge 78, 3) := by decide +kernel
theorem dX9_next_168 : decode cX9_next 168 = .ok (.aload_n 0, 1) := by decide +kernel
theorem dX9_next_169 : decode cX9_next 169 = .ok (.getfield 35, 3) := by decide +kernel
theorem dX9_next_172 : decode cX9_next 172 = .ok (.aload_n 0, 1) := by decide +kernel
theorem dX9_next_173 : decode cX9_next 173 = .ok (.getfield 243, 3) := by decide +kernel
theorem dX9_next_176 : decode cX9_next 176 = .ok (.iaload, 1) := by decide +kernel
theorem dX9_next_177 : decode cX9_next 177 = .ok (.invokestatic 260, 3) := by decide +kernel
theorem dX9_next_180 : decode cX9_next 180 = .ok (.ifCond .eq 63, 3) := by decide +kernel
theorem dX9_next_183 : decode cX9_next 183 = .ok (.aload_n 0, 1) := by decide +kernel
theorem dX9_next_184 : decode cX9_next 184 = .ok (.aload_n 0, 1) := by decide +kernel
theorem dX9_next_185 : decode cX9_next 185 = .ok (.getfield 243, 3) := by decide +kernel
theorem dX9_next_188 : decode cX9_next 188 = .ok (.aload_n 0, 1) := by decide +kernel
theorem dX9_next_189 : decode cX9_next 189 = .ok (.getfield 253, 3) := by decide +kernel
theorem dX9_next_192 : decode cX9_next 192 = .ok (.isub, 1) := by decide +kernel
theorem dX9_next_193 : decode cX9_next 193 = .ok (.bipush 10, 2) := by decide +kernel
theorem dX9_next_195 : decode cX9_next 195 = .ok (.if_icmp .ge 29, 3) := by decide +kernel
theorem dX9_next_198 : decode cX9_next 198 = .ok (.aload_n 0, 1) := by decide +kernel
theorem dX9_next_199 : decode cX9_next 199 = .ok (.getfield 256, 3) := by decide +kernel
theorem dX9_next_202 : decode cX9_next 202 = .ok (.ldc2_w 269, 3) := by decide +kernel
theorem dX9_next_205 : decode cX9_next 205 = .ok (.lmul, 1) := by decide +kernel
theorem dX9_next_206 : decode cX9_next 206 = .ok (.aload_n 0, 1) := by decide +kernel
theorem dX9_next_207 : decode cX9_next 207 = .ok (.getfield 35, 3) := by decide +kernel
theorem dX9_next_210 : decode cX9_next 210 = .ok (.aload_n 0, 1) := by decide +kernel
theorem dX9_next_211 : decode cX9_next 211 = .ok (.getfield 243, 3) := by decide +kernel
theorem dX9_next_214 : decode cX9_next 214 = .ok (.iaload, 1) := by decide +kernel
theorem dX9_next_215 : decode cX9_next 215 = .ok (.i2l, 1) := by decide +kernel
theorem dX9_next_216 : decode cX9_next 216 = .ok (.ladd, 1) := by decide +kernel
theorem dX9_next_217 : decode cX9_next 217 = .ok (.ldc2_w 271, 3) := by decide +kernel
theorem dX9_next_220 : decode cX9_next 220 = .ok (.lsub, 1) := by decide +kernel
theorem dX9_next_221 : decode cX9_next 221 = .ok (.goto 6, 3) := by decide +kernel
theorem dX9_next_224 : decode cX9_next 224 = .ok (.ldc2_w 273, 3) := by decide +kernel
theorem dX9_next_227 : decode cX9_next 227 = .ok (.putfield 256, 3) := by decide +kernel
theorem dX9_next_230 : decode cX9_next 230 = .ok (.aload_n 0, 1) := by decide +kernel
theorem dX9_next_231 : decode cX9_next 231 = .ok (.dup, 1) := by decide +kernel
theorem dX9_next_232 : decode cX9_next 232 = .ok (.getfield 243, 3) := by decide +kernel
theorem dX9_next_235 : decode cX9_next 235 = .ok (.iconst 1, 1) := by decide +kernel
theorem dX9_next_236 : decode cX9_next 236 = .ok (.iadd, 1) := by decide +kernel
theorem dX9_next_237 : decode cX9_next 237 = .ok (.putfield 243, 3) := by decide +kernel
theorem dX9_next_240 : decode cX9_next 240 = .ok (.goto (-91), 3) := by decide +kernel
theorem dX9_next_243 : decode cX9_next 243 = .ok (.aload_n 0, 1) := by decide +kernel
theorem dX9_next_244 : decode cX9_next 244 = .ok (.getfield 266, 3) := by decide +kernel
theorem dX9_next_247 : decode cX9_next 247 = .ok (.iconst 2, 1) := by decide +kernel
theorem dX9_next_248 : decode cX9_next 248 = .ok (.if_icmp .ne 87, 3) := by decide +kernel
theorem dX9_next_251 : decode cX9_next 251 = .ok (.aload_n 0, 1) := by decide +kernel
theorem dX9_next_252 : decode cX9_next 252 = .ok (.getfield 243, 3) := by decide +kernel
theorem dX9_next_255 : decode cX9_next 255 = .ok (.aload_n 0, 1) := by decide +kernel
theorem dX9_next_256 : decode cX9_next 256 = .ok (.getfield 231, 3) := by decide +kernel
theorem dX9_next_259 : decode cX9_next 259 = .ok (.if_icmp .ge 76, 3) := by decide +kernel
theorem dX9_next_262 : decode cX9_next 262 = .ok (.aload_n 0, 1) := by decide +kernel
theorem dX9_next_263 : decode cX9_next 263 = .ok (.getfield 35, 3) := by decide +kernel
theorem dX9_next_266 : decode cX9_next 266 = .ok (.aload_n 0, 1) := by decide +kernel
theorem dX9_next_267 : decode cX9_next 267 = .ok (.getfield 243, 3) := by decide +kernel
theorem dX9_next_270 : decode cX9_next 270 = .ok (.iaload, 1) := by decide +kernel
theorem dX9_next_271 : decode cX9_next 271 = .ok (.invokestatic 263, 3) := by decide +kernel
theorem dX9_next_274 : decode cX9_next 274 = .ok (.ifCond .eq 61, 3) := by decide +kernel
theorem dX9_next_277 : decode cX9_next 277 = .ok (.aload_n 0, 1) := by decide +kernel
theorem dX9_next_278 : decode cX9_next 278 = .ok (.aload_n 0, 1) := by decide +kernel
theorem dX9_next_279 : decode cX9_next 279 = .ok (.getfield 256, 3) := by decide +kernel
theorem dX9_next_282 : decode cX9_next 282 = .ok (.ldc2_w 275, 3) := by decide +kernel
theorem dX9_next_285 : decode cX9_next 285 = .ok (.lcmp, 1) := by decide +kernel
theorem dX9_next_286 : decode cX9_next 286 = .ok (.ifCond .le 10, 3) := by decide +kernel
theorem dX9_next_289 : decode cX9_next 289 = .ok (.aload_n 0, 1) := by decide +kernel
theorem dX9_next_290 : decode cX9_next 290 = .ok (.getfield 256, 3) := by decide +kernel
theorem dX9_next_293 : decode cX9_next 293 = .ok (.goto 26, 3) := by decide +kernel
theorem dX9_next_296 : decode cX9_next 296 = .ok (.aload_n 0, 1) := by decide +kernel
theorem dX9_next_297 : decode cX9_next 297 = .ok (.getfield 256, 3) := by decide +kernel
theorem dX9_next_300 : decode cX9_next 300 = .ok (.ldc2_w 229, 3) := by decide +kernel
theorem dX9_next_303 : decode cX9_next 303 = .ok (.lmul, 1) := by decide +kernel
theorem dX9_next_304 : decode cX9_next 304 = .ok (.aload_n 0, 1) := by decide +kernel
theorem dX9_next_305 : decode cX9_next 305 = .ok (.getfield 35, 3) := by decide +kernel
theorem dX9_next_308 : decode cX9_next 308 = .ok (.aload_n 0, 1) := by decide +kernel
theorem dX9_next_309 : decode cX9_next 309 = .ok (.getfield 243, 3) := by decide +kernel
theorem dX9_next_312 : decode cX9_next 312 = .ok (.iaload, 1) := by decide +kernel
theorem dX9_next_313 : decode cX9_next 313 = .ok (.i2l, 1) := by decide +kernel
theorem dX9_next_314 : decode cX9_next 314 = .ok (.ladd, 1) := by decide +kernel
theorem dX9_next_315 : decode cX9_next 315 = .ok (.ldc2_w 277, 3) := by decide +kernel
theorem dX9_next_318 : decode cX9_next 318 = .ok (.lsub, 1) := by decide +kernel
theorem dX9_next_319 : decode cX9_next 319 = .ok (.putfield 256, 3) := by decide +kernel
theorem dX9_next_322 : decode cX9_next 322 = .ok (.aload_n 0, 1) := by decide +kernel
theorem dX9_next_323 : decode cX9_next 323 = .ok (.dup, 1) := by decide +kernel
theorem dX9_next_324 : decode cX9_next 324 = .ok (.getfield 243, 3) := by decide +kernel
theorem dX9_next_327 : decode cX9_next 327 = .ok (.iconst 1, 1) := by decide +kernel
theorem dX9_next_328 : decode cX9_next 328 = .ok (.iadd, 1) := by decide +kernel
theorem dX9_next_329 : decode cX9_next 329 = .ok (.putfield 243, 3) := by decide +kernel
theorem dX9_next_332 : decode cX9_next 332 = .ok (.goto (-89), 3) := by decide +kernel
theorem dX9_next_335 : decode cX9_next 335 = .ok (.return_, 1) := by decide +kernel
theorem dX9_of_0 : decode cX9_of 0 = .ok (.aload_n 0, 1) := by decide +kernel
theorem dX9_of_1 : decode cX9_of 1 = .ok (.iconst 0, 1) := by decide +kernel
theorem dX9_of_2 : decode cX9_of 2 = .ok (.putfield 165, 3) := by decide +kernel
theorem dX9_of_5 : decode cX9_of 5 = .ok (.aload_n 0, 1) := by decide +kernel
theorem dX9_of_6 : decode cX9_of 6 = .ok (.iload_n 1, 1) := by decide +kernel
theorem dX9_of_7 : decode cX9_of 7 = .ok (.invokevirtual 200, 3) := by decide +kernel
theorem dX9_of_10 : decode cX9_of 10 = .ok (.ifCond .eq 15, 3) := by decide +kernel
theorem dX9_of_13 : decode cX9_of 13 = .ok (.iload_n 2, 1) := by decide +kernel
theorem dX9_of_14 : decode cX9_of 14 = .ok (.i2l, 1) := by decide +kernel
theorem dX9_of_15 : decode cX9_of 15 = .ok (.lconst 0, 1) := by decide +kernel
theorem dX9_of_16 : decode cX9_of 16 = .ok (.ldc2_w 204, 3) := by decide +kernel
theorem dX9_of_19 : decode cX9_of 19 = .ok (.invokestatic 185, 3) := by decide +kernel
theorem dX9_of_22 : decode cX9_of 22 = .ok (.ifCond .ne 5, 3) := by decide +kernel
theorem dX9_of_25 : decode cX9_of 25 = .ok (.iconst (-1), 1) := by decide +kernel
theorem dX9_of_26 : decode cX9_of 26 = .ok (.ireturn, 1) := by decide +kernel
theorem dX9_of_27 : decode cX9_of 27 = .ok (.iload_n 2, 1) := by decide +kernel
theorem dX9_of_28 : decode cX9_of 28 = .ok (.tableswitch 72 0 3 #[32, 42, 52, 62], 32) := by decide +kernel
theorem dX9_of_60 : decode cX9_of 60 = .ok (.aload_n 0, 1) := by decide +kernel
theorem dX9_of_61 : decode cX9_of 61 = .ok (.getfield 13, 3) := by decide +kernel
theorem dX9_of_64 : decode cX9_of 64 = .ok (.bipush 8, 2) := by decide +kernel
theorem dX9_of_66 : decode cX9_of 66 = .ok (.iload_n 1, 1) := by decide +kernel
theorem dX9_of_67 : decode cX9_of 67 = .ok (.iadd, 1) := by decide +kernel
theorem dX9_of_68 : decode cX9_of 68 = .ok (.iaload, 1) := by decide +kernel
theorem dX9_of_69 : decode cX9_of 69 = .ok (.ireturn, 1) := by decide +kernel
theorem dX9_of_70 : decode cX9_of 70 = .ok (.aload_n 0, 1) := by decide +kernel
theorem dX9_of_71 : decode cX9_of 71 = .ok (.getfield 13, 3) := by decide +kernel
theorem dX9_of_74 : decode cX9_of 74 = .ok (.bipush 15, 2) := by decide +kernel
theorem dX9_of_76 : decode cX9_of 76 = .ok (.iload_n 1, 1) := by decide +kernel
theorem dX9_of_77 : decode cX9_of 77 = .ok (.iadd, 1) := by decide +kernel
theorem dX9_of_78 : decode cX9_of 78 = .ok (.iaload, 1) := by decide +kernel
theorem dX9_of_79 : decode cX9_of 79 = .ok (.ireturn, 1) := by decide +kernel
theorem dX9_of_80 : decode cX9_of 80 = .ok (.aload_n 0, 1) := by decide +kernel
theorem dX9_of_81 : decode cX9_of 81 = .ok (.getfield 13, 3) := by decide +kernel
theorem dX9_of_84 : decode cX9_of 84 = .ok (.bipush 22, 2) := by decide +kernel
theorem dX9_of_86 : decode cX9_of 86 = .ok (.iload_n 1, 1) := by decide +kernel
theorem dX9_of_87 : decode cX9_of 87 = .ok (.iadd, 1) := by decide +kernel
theorem dX9_of_88 : decode cX9_of 88 = .ok (.iaload, 1) := by decide +kernel
theorem dX9_of_89 : decode cX9_of 89 = .ok (.ireturn, 1) := by decide +kernel
theorem dX9_of_90 : decode cX9_of 90 = .ok (.aload_n 0, 1) := by decide +kernel
theorem dX9_of_91 : decode cX9_of 91 = .ok (.getfield 13, 3) := by decide +kernel
theorem dX9_of_94 : decode cX9_of 94 = .ok (.bipush 29, 2) := by decide +kernel
theorem dX9_of_96 : decode cX9_of 96 = .ok (.iload_n 1, 1) := by decide +kernel
theorem dX9_of_97 : decode cX9_of 97 = .ok (.iadd, 1) := by decide +kernel
theorem dX9_of_98 : decode cX9_of 98 = .ok (.iaload, 1) := by decide +kernel
theorem dX9_of_99 : decode cX9_of 99 = .ok (.ireturn, 1) := by decide +kernel
theorem dX9_of_100 : decode cX9_of 100 = .ok (.iload_n 2, 1) := by decide +kernel
theorem dX9_of_101 : decode cX9_of 101 = .ok (.iconst 4, 1) := by decide +kernel
theorem dX9_of_102 : decode cX9_of 102 = .ok (.irem, 1) := by decide +kernel
theorem dX9_of_103 : decode cX9_of 103 = .ok (.istore_n 3, 1) := by decide +kernel
theorem dX9_of_104 : decode cX9_of 104 = .ok (.iload_n 2, 1) := by decide +kernel
theorem dX9_of_105 : decode cX9_of 105 = .ok (.bipush 8, 2) := by decide +kernel
theorem dX9_of_107 : decode cX9_of 107 = .ok (.if_icmp .ge 19, 3) := by decide +kernel
theorem dX9_of_110 : decode cX9_of 110 = .ok (.aload_n 0, 1) := by decide +kernel
theorem dX9_of_111 : decode cX9_of 111 = .ok (.getfield 13, 3) := by decide +kernel
theorem dX9_of_114 : decode cX9_of 114 = .ok (.bipush 36, 2) := by decide +kernel
theorem dX9_of_116 : decode cX9_of 116 = .ok (.iconst 4, 1) := by decide +kernel
theorem dX9_of_117 : decode cX9_of 117 = .ok (.iload_n 1, 1) := by decide +kernel
theorem dX9_of_118 : decode cX9_of 118 = .ok (.imul, 1) := by decide +kernel
theorem dX9_of_119 : decode cX9_of 119 = .ok (.iadd, 1) := by decide +kernel
theorem dX9_of_120 : decode cX9_of 120 = .ok (.iload_n 3, 1) := by decide +kernel
theorem dX9_of_121 : decode cX9_of 121 = .ok (.iadd, 1) := by decide +kernel
theorem dX9_of_122 : decode cX9_of 122 = .ok (.iaload, 1) := by decide +kernel
theorem dX9_of_123 : decode cX9_of 123 = .ok (.goto 32, 3) := by decide +kernel
theorem dX9_of_126 : decode cX9_of 126 = .ok (.iload_n 2, 1) := by decide +kernel
theorem dX9_of_127 : decode cX9_of 127 = .ok (.bipush 12, 2) := by decide +kernel
theorem dX9_of_129 : decode cX9_of 129 = .ok (.if_icmp .ge 12, 3) := by decide +kernel
theorem dX9_of_132 : decode cX9_of 132 = .ok (.aload_n 0, 1) := by decide +kernel
theorem dX9_of_133 : decode cX9_of 133 = .ok (.iload_n 1, 1) := by decide +kernel
theorem dX9_of_134 : decode cX9_of 134 = .ok (.iload_n 3, 1) := by decide +kernel
theorem dX9_of_135 : decode cX9_of 135 = .ok (.invokevirtual 206, 3) := by decide +kernel
theorem dX9_of_138 : decode cX9_of 138 = .ok (.goto 17, 3) := by decide +kernel
theorem dX9_of_141 : decode cX9_of 141 = .ok (.aload_n 0, 1) := by decide +kernel
theorem dX9_of_142 : decode cX9_of 142 = .ok (.iload_n 1, 1) := by decide +kernel
theorem dX9_of_143 : decode cX9_of 143 = .ok (.iload_n 3, 1) := by decide +kernel
theorem dX9_of_144 : decode cX9_of 144 = .ok (.invokevirtual 209, 3) := by decide +kernel
theorem dX9_of_147 : decode cX9_of 147 = .ok (.ifCond .eq 7, 3) := by decide +kernel
theorem dX9_of_150 : decode cX9_of 150 = .ok (.iconst 1, 1) := by decide +kernel
theorem dX9_of_151 : decode cX9_of 151 = .ok (.goto 4, 3) := by decide +kernel
theorem dX9_of_154 : decode cX9_of 154 = .ok (.iconst 0, 1) := by decide +kernel
theorem dX9_of_155 : decode cX9_of 155 = .ok (.ireturn, 1) := by decide +kernel
theorem dX9_orders_0 : decode cX9_orders 0 = .ok (.aload_n 0, 1) := by decide +kernel
theorem dX9_orders_1 : decode cX9_orders 1 = .ok (.iconst 0, 1) := by decide +kernel
theorem dX9_orders_2 : decode cX9_orders 2 = .ok (.putfield 165, 3) := by decide +kernel
theorem dX9_orders_5 : decode cX9_orders 5 = .ok (.aload_n 0, 1) := by decide +kernel
theorem dX9_orders_6 : decode cX9_orders 6 = .ok (.iconst (-1), 1) := by decide +kernel
theorem dX9_orders_7 : decode cX9_orders 7 = .ok (.putfield 156, 3) := by decide +kernel
theorem dX9_orders_10 : decode cX9_orders 10 = .ok (.aload_n 0, 1) := by decide +kernel
theorem dX9_orders_11 : decode cX9_orders 11 = .ok (.iconst 1, 1) := by decide +kernel
theorem dX9_orders_12 : decode cX9_orders 12 = .ok (.invokevirtual 385, 3) := by decide +kernel
theorem dX9_orders_15 : decode cX9_orders 15 = .ok (.aload_n 0, 1) := by decide +kernel
theorem dX9_orders_16 : decode cX9_orders 16 = .ok (.invokevirtual 538, 3) := by decide +kernel
theorem dX9_orders_19 : decode cX9_orders 19 = .ok (.aload_n 0, 1) := by decide +kernel
theorem dX9_orders_20 : decode cX9_orders 20 = .ok (.getfield 246, 3) := by decide +kernel
theorem dX9_orders_23 : decode cX9_orders 23 = .ok (.ifCond .ne 23, 3) := by decide +kernel
theorem dX9_orders_26 : decode cX9_orders 26 = .ok (.aload_n 0, 1) := by decide +kernel
theorem dX9_orders_27 : decode cX9_orders 27 = .ok (.bipush 59, 2) := by decide +kernel
theorem dX9_orders_29 : decode cX9_orders 29 = .ok (.invokevirtual 317, 3) := by decide +kernel
theorem dX9_orders_32 : decode cX9_orders 32 = .ok (.ifCond .eq 14, 3) := by decide +kernel
theorem dX9_orders_35 : decode cX9_orders 35 = .ok (.aload_n 0, 1) := by decide +kernel
theorem dX9_orders_36 : decode cX9_orders 36 = .ok (.invokevirtual 250, 3) := by decide +kernel
theorem dX9_orders_39 : decode cX9_orders 39 = .ok (.aload_n 0, 1) := by decide +kernel
theorem dX9_orders_40 : decode cX9_orders 40 = .ok (.invokevirtual 538, 3) := by decide +kernel
theorem dX9_orders_43 : decode cX9_orders 43 = .ok (.goto (-24), 3) := by decide +kernel
theorem dX9_orders_46 : decode cX9_orders 46 = .ok (.aload_n 0, 1) := by decide +kernel
theorem dX9_orders_47 : decode cX9_orders 47 = .ok (.invokevirtual 391, 3) := by decide +kernel
theorem dX9_orders_50 : decode cX9_orders 50 = .ok (.aload_n 0, 1) := by decide +kernel
theorem dX9_orders_51 : decode cX9_orders 51 = .ok (.getfield 246, 3) := by decide +kernel
theorem dX9_orders_54 : decode cX9_orders 54 = .ok (.ifCond .eq 10, 3) := by decide +kernel
theorem dX9_orders_57 : decode cX9_orders 57 = .ok (.aload_n 0, 1) := by decide +kernel
theorem dX9_orders_58 : decode cX9_orders 58 = .ok (.bipush (-6), 2) := by decide +kernel
theorem dX9_orders_60 : decode cX9_orders 60 = .ok (.invokevirtual 174, 3) := by decide +kernel
theorem dX9_orders_63 : decode cX9_orders 63 = .ok (.ireturn, 1) := by decide +kernel
theorem dX9_orders_64 : decode cX9_orders 64 = .ok (.aload_n 0, 1) := by decide +kernel
theorem dX9_orders_65 : decode cX9_orders 65 = .ok (.bipush 17, 2) := by decide +kernel
theorem dX9_orders_67 : decode cX9_orders 67 = .ok (.invokevirtual 178, 3) := by decide +kernel
theorem dX9_orders_70 : decode cX9_orders 70 = .ok (.aload_n 0, 1) := by decide +kernel
theorem dX9_orders_71 : decode cX9_orders 71 = .ok (.getfield 171, 3) := by decide +kernel
theorem dX9_orders_74 : decode cX9_orders 74 = .ok (.istore_n 1, 1) := by decide +kernel
theorem dX9_orders_75 : decode cX9_orders 75 = .ok (.iconst 0, 1) := by decide +kernel
theorem dX9_orders_76 : decode cX9_orders 76 = .ok (.istore_n 2, 1) := by decide +kernel
theorem dX9_orders_77 : decode cX9_orders 77 = .ok (.iload_n 2, 1) := by decide +kernel
theorem dX9_orders_78 : decode cX9_orders 78 = .ok (.sipush 400, 3) := by decide +kernel
theorem dX9_orders_81 : decode cX9_orders 81 = .ok (.if_icmp .ge 21, 3) := by decide +kernel
theorem dX9_orders_84 : decode cX9_orders 84 = .ok (.aload_n 0, 1) := by decide +kernel
theorem dX9_orders_85 : decode cX9_orders 85 = .ok (.getfield 29, 3) := by decide +kernel
theorem dX9_orders_88 : decode cX9_orders 88 = .ok (.iload_n 2, 1) := by decide +kernel
theorem dX9_orders_89 : decode cX9_orders 89 = .ok (.aload_n 0, 1) := by decide +kernel
theorem dX9_orders_90 : decode cX9_orders 90 = .ok (.getfield 23, 3) := by decide +kernel
theorem dX9_orders_93 : decode cX9_orders 93 = .ok (.iload_n 2, 1) := by decide +kernel
theorem dX9_orders_94 : decode cX9_orders 94 = .ok (.iaload, 1) := by decide +kernel
theorem dX9_orders_95 : decode cX9_orders 95 = .ok (.iastore, 1) := by decide +kernel
theorem dX9_orders_96 : decode cX9_orders 96 = .ok (.iinc 2 1, 3) := by decide +kernel
theorem dX9_orders_99 : decode cX9_orders 99 = .ok (.goto (-22), 3) := by decide +kernel
theorem dX9_orders_102 : decode cX9_orders 102 = .ok (.iconst 0, 1) := by decide +kernel
theorem dX9_orders_103 : decode cX9_orders 103 = .ok (.istore_n 2, 1) := by decide +kernel
theorem dX9_orders_104 : decode cX9_orders 104 = .ok (.iload_n 2, 1) := by decide +kernel
theorem dX9_orders_105 : decode cX9_orders 105 = .ok (.bipush 16, 2) := by decide +kernel
theorem dX9_orders_107 : decode cX9_orders 107 = .ok (.if_icmp .ge 21, 3) := by decide +kernel
theorem dX9_orders_110 : decode cX9_orders 110 = .ok (.aload_n 0, 1) := by decide +kernel
theorem dX9_orders_111 : decode cX9_orders 111 = .ok (.getfield 32, 3) := by decide +kernel
theorem dX9_orders_114 : decode cX9_orders 114 = .ok (.iload_n 2, 1) := by decide +kernel
theorem dX9_orders_115 : decode cX9_orders 115 = .ok (.aload_n 0, 1) := by decide +kernel
theorem dX9_orders_116 : decode cX9_orders 116 = .ok (.getfield 26, 3) := by decide +kernel
theorem dX9_orders_119 : decode cX9_orders 119 = .ok (.iload_n 2, 1) := by decide +kernel
theorem dX9_orders_120 : decode cX9_orders 120 = .ok (.iaload, 1) := by decide +kernel
theorem dX9_orders_121 : decode cX9_orders 121 = .ok (.iastore, 1) := by decide +kernel
theorem dX9_orders_122 : decode cX9_orders 122 = .ok (.iinc 2 1, 3) := by decide +kernel
theorem dX9_orders_125 : decode cX9_orders 125 = .ok (.goto (-21), 3) := by decide +kernel
theorem dX9_orders_128 : decode cX9_orders 128 = .ok (.aload_n 0, 1) := by decide +kernel
theorem dX9_orders_129 : decode cX9_orders 129 = .ok (.iconst 0, 1) := by decide +kernel
theorem dX9_orders_130 : decode cX9_orders 130 = .ok (.putfield 523, 3) := by decide +kernel
theorem dX9_orders_133 : decode cX9_orders 133 = .ok (.aload_n 0, 1) := by decide +kernel
theorem dX9_orders_134 : decode cX9_orders 134 = .ok (.iconst (-1), 1) := by decide +kernel
theorem dX9_orders_135 : decode cX9_orders 135 = .ok (.putfield 526, 3) := by decide +kernel
theorem dX9_orders_138 : decode cX9_orders 138 = .ok (.iconst 0, 1) := by decide +kernel
theorem dX9_orders_139 : decode cX9_orders 139 = .ok (.istore_n 2, 1) := by decide +kernel
theorem dX9_orders_140 : decode cX9_orders 140 = .ok (.iload_n 2, 1) := by decide +kernel
theorem dX9_orders_141 : decode cX9_orders 141 = .ok (.aload_n 0, 1) := by decide +kernel
theorem dX9_orders_142 : decode cX9_orders 142 = .ok (.getfield 377, 3) := by decide +kernel
theorem dX9_orders_145 : decode cX9_orders 145 = .ok (.if_icmp .ge 61, 3) := by decide +kernel
theorem dX9_orders_148 : decode cX9_orders 148 = .ok (.iconst 0, 1) := by decide +kernel
theorem dX9_orders_149 : decode cX9_orders 149 = .ok (.istore_n 3, 1) := by decide +kernel
theorem dX9_orders_150 : decode cX9_orders 150 = .ok (.iload_n 3, 1) := by decide +kernel
theorem dX9_orders_151 : decode cX9_orders 151 = .ok (.aload_n 0, 1) := by decide +kernel
theorem dX9_orders_152 : decode cX9_orders 152 = .ok (.getfield 153, 3) := by decide +kernel
theorem dX9_orders_155 : decode cX9_orders 155 = .ok (.bipush 8, 2) := by decide +kernel
theorem dX9_orders_157 : decode cX9_orders 157 = .ok (.iload_n 2, 1) := by decide +kernel
theorem dX9_orders_158 : decode cX9_orders 158 = .ok (.imul, 1) := by decide +kernel
theorem dX9_orders_159 : decode cX9_orders 159 = .ok (.bipush 7, 2) := by decide +kernel
theorem dX9_orders_161 : decode cX9_orders 161 = .ok (.iadd, 1) := by decide +kernel
theorem dX9_orders_162 : decode cX9_orders 162 = .ok (.iaload, 1) := by decide +kernel
theorem dX9_orders_163 : decode cX9_orders 163 = .ok (.if_icmp .ge 37, 3) := by decide +kernel
theorem dX9_orders_166 : decode cX9_orders 166 = .ok (.aload_n 0, 1) := by decide +kernel
theorem dX9_orders_167 : decode cX9_orders 167 = .ok (.bipush 8, 2) := by decide +kernel
theorem dX9_orders_169 : decode cX9_orders 169 = .ok (.iload_n 2, 1) := by decide +kernel
theorem dX9_orders_170 : decode cX9_orders 170 = .ok (.imul, 1) := by decide +kernel
theorem dX9_orders_171 : decode cX9_orders 171 = .ok (.invokevirtual 541, 3) := by decide +kernel
theorem dX9_orders_174 : decode cX9_orders 174 = .ok (.ifCond .ge 20, 3) := by decide +kernel
theorem dX9_orders_177 : decode cX9_orders 177 = .ok (.aload_n 0, 1) := by decide +kernel
theorem dX9_orders_178 : decode cX9_orders 178 = .ok (.iload_n 1, 1) := by decide +kernel
theorem dX9_orders_179 : decode cX9_orders 179 = .ok (.invokevirtual 544, 3) := by decide +kernel
theorem dX9_orders_182 : decode cX9_orders 182 = .ok (.aload_n 0, 1) := by decide +kernel
theorem dX9_orders_183 : decode cX9_orders 183 = .ok (.iload_n 2, 1) := by decide +kernel
theorem dX9_orders_184 : decode cX9_orders 184 = .ok (.putfield 156, 3) := by decide +kernel
theorem dX9_orders_187 : decode cX9_orders 187 = .ok (.aload_n 0, 1) := by decide +kernel
theorem dX9_orders_188 : decode cX9_orders 188 = .ok (.bipush (-3), 2) := by decide +kernel
theorem dX9_orders_190 : decode cX9_orders 190 = .ok (.invokevirtual 174, 3) := by decide +kernel
theorem dX9_orders_193 : decode cX9_orders 193 = .ok (.ireturn, 1) := by decide +kernel
theorem dX9_orders_194 : decode cX9_orders 194 = .ok (.iinc 3 1, 3) := by decide +kernel
theorem dX9_orders_197 : decode cX9_orders 197 = .ok (.goto (-47), 3) := by decide +kernel
theorem dX9_orders_200 : decode cX9_orders 200 = .ok (.iinc 2 1, 3) := by decide +kernel
theorem dX9_orders_203 : decode cX9_orders 203 = .ok (.goto (-63), 3) := by decide +kernel
theorem dX9_orders_206 : decode cX9_orders 206 = .ok (.aload_n 0, 1) := by decide +kernel
theorem dX9_orders_207 : decode cX9_orders 207 = .ok (.aload_n 0, 1) := by decide +kernel
theorem dX9_orders_208 : decode cX9_orders 208 = .ok (.getfield 523, 3) := by decide +kernel
theorem dX9_orders_211 : decode cX9_orders 211 = .ok (.invokevirtual 174, 3) := by decide +kernel
theorem dX9_orders_214 : decode cX9_orders 214 = .ok (.ireturn, 1) := by decide +kernel
theorem dX9_pass_0 : decode cX9_pass 0 = .ok (.aload_n 0, 1) := by decide +kernel
theorem dX9_pass_1 : decode cX9_pass 1 = .ok (.iconst 0, 1) := by decide +kernel
theorem dX9_pass_2 : decode cX9_pass 2 = .ok (.putfield 165, 3) := by decide +kernel
theorem dX9_pass_5 : decode cX9_pass 5 = .ok (.aload_n 0, 1) := by decide +kernel
theorem dX9_pass_6 : decode cX9_pass 6 = .ok (.aload_n 0, 1) := by decide +kernel
theorem dX9_pass_7 : decode cX9_pass 7 = .ok (.invokevirtual 464, 3) := by decide +kernel
theorem dX9_pass_10 : decode cX9_pass 10 = .ok (.invokevirtual 174, 3) := by decide +kernel
theorem dX9_pass_13 : decode cX9_pass 13 = .ok (.ireturn, 1) := by decide +kernel
theorem dX9_passIt_0 : decode cX9_passIt 0 = .ok (.iconst 0, 1) := by decide +kernel
theorem dX9_passIt_1 : decode cX9_passIt 1 = .ok (.istore_n 1, 1) := by decide +kernel
theorem dX9_passIt_2 : decode cX9_passIt 2 = .ok (.iconst 0, 1) := by decide +kernel
theorem dX9_passIt_3 : decode cX9_passIt 3 = .ok (.istore_n 2, 1) := by decide +kernel
theorem dX9_passIt_4 : decode cX9_passIt 4 = .ok (.iload_n 2, 1) := by decide +kernel
theorem dX9_passIt_5 : decode cX9_passIt 5 = .ok (.aload_n 0, 1) := by decide +kernel
theorem dX9_passIt_6 : decode cX9_passIt 6 = .ok (.getfield 13, 3) := by decide +kernel
theorem dX9_passIt_9 : decode cX9_passIt 9 = .ok (.iconst 0, 1) := by decide +kernel
theorem dX9_passIt_10 : decode cX9_passIt 10 = .ok (.iaload, 1) := by decide +kernel
theorem dX9_passIt_11 : decode cX9_passIt 11 = .ok (.if_icmp .ge 35, 3) := by decide +kernel
theorem dX9_passIt_14 : decode cX9_passIt 14 = .ok (.aload_n 0, 1) := by decide +kernel
theorem dX9_passIt_15 : decode cX9_passIt 15 = .ok (.iload_n 2, 1) := by decide +kernel
theorem dX9_passIt_16 : decode cX9_passIt 16 = .ok (.invokevirtual 458, 3) := by decide +kernel
theorem dX9_passIt_19 : decode cX9_passIt 19 = .ok (.ifCond .eq 21, 3) := by decide +kernel
theorem dX9_passIt_22 : decode cX9_passIt 22 = .ok (.aload_n 0, 1) := by decide +kernel
theorem dX9_passIt_23 : decode cX9_passIt 23 = .ok (.getfield 13, 3) := by decide +kernel
theorem dX9_passIt_26 : decode cX9_passIt 26 = .ok (.bipush 8, 2) := by decide +kernel
theorem dX9_passIt_28 : decode cX9_passIt 28 = .ok (.iload_n 2, 1) := by decide +kernel
theorem dX9_passIt_29 : decode cX9_passIt 29 = .ok (.iadd, 1) := by decide +kernel
theorem dX9_passIt_30 : decode cX9_passIt 30 = .ok (.aload_n 0, 1) := by decide +kernel
theorem dX9_passIt_31 : decode cX9_passIt 31 = .ok (.iload_n 2, 1) := by decide +kernel
theorem dX9_passIt_32 : decode cX9_passIt 32 = .ok (.iconst 0, 1) := by decide +kernel
theorem dX9_passIt_33 : decode cX9_passIt 33 = .ok (.invokevirtual 437, 3) := by decide +kernel
theorem dX9_passIt_36 : decode cX9_passIt 36 = .ok (.iastore, 1) := by decide +kernel
theorem dX9_passIt_37 : decode cX9_passIt 37 = .ok (.iinc 1 1, 3) := by decide +kernel
theorem dX9_passIt_40 : decode cX9_passIt 40 = .ok (.iinc 2 1, 3) := by decide +kernel
theorem dX9_passIt_43 : decode cX9_passIt 43 = .ok (.goto (-39), 3) := by decide +kernel
theorem dX9_passIt_46 : decode cX9_passIt 46 = .ok (.aload_n 0, 1) := by decide +kernel
theorem dX9_passIt_47 : decode cX9_passIt 47 = .ok (.getfield 13, 3) := by decide +kernel
theorem dX9_passIt_50 : decode cX9_passIt 50 = .ok (.iconst 4, 1) := by decide +kernel
theorem dX9_passIt_51 : decode cX9_passIt 51 = .ok (.dup2, 1) := by decide +kernel
theorem dX9_passIt_52 : decode cX9_passIt 52 = .ok (.iaload, 1) := by decide +kernel
theorem dX9_passIt_53 : decode cX9_passIt 53 = .ok (.iconst 1, 1) := by decide +kernel
theorem dX9_passIt_54 : decode cX9_passIt 54 = .ok (.iadd, 1) := by decide +kernel
theorem dX9_passIt_55 : decode cX9_passIt 55 = .ok (.iastore, 1) := by decide +kernel
theorem dX9_passIt_56 : decode cX9_passIt 56 = .ok (.iload_n 1, 1) := by decide +kernel
theorem dX9_passIt_57 : decode cX9_passIt 57 = .ok (.ireturn, 1) := by decide +kernel
theorem dX9_passNow_0 : decode cX9_passNow 0 = .ok (.aload_n 0, 1) := by decide +kernel
theorem dX9_passNow_1 : decode cX9_passNow 1 = .ok (.getfield 13, 3) := by decide +kernel
theorem dX9_passNow_4 : decode cX9_passNow 4 = .ok (.iconst 4, 1) := by decide +kernel
theorem dX9_passNow_5 : decode cX9_passNow 5 = .ok (.iaload, 1) := by decide +kernel
theorem dX9_passNow_6 : decode cX9_passNow 6 = .ok (.sipush 999, 3) := by decide +kernel
theorem dX9_passNow_9 : decode cX9_passNow 9 = .ok (.if_icmp .ne 6, 3) := by decide +kernel
theorem dX9_passNow_12 : decode cX9_passNow 12 = .ok (.bipush (-3), 2) := by decide +kernel
theorem dX9_passNow_14 : decode cX9_passNow 14 = .ok (.ireturn, 1) := by decide +kernel
theorem dX9_passNow_15 : decode cX9_passNow 15 = .ok (.aload_n 0, 1) := by decide +kernel
theorem dX9_passNow_16 : decode cX9_passNow 16 = .ok (.iconst 3, 1) := by decide +kernel
theorem dX9_passNow_17 : decode cX9_passNow 17 = .ok (.invokevirtual 440, 3) := by decide +kernel
theorem dX9_passNow_20 : decode cX9_passNow 20 = .ok (.aload_n 0, 1) := by decide +kernel
theorem dX9_passNow_21 : decode cX9_passNow 21 = .ok (.invokevirtual 461, 3) := by decide +kernel
theorem dX9_passNow_24 : decode cX9_passNow 24 = .ok (.ireturn, 1) := by decide +kernel
theorem dX9_person_0 : decode cX9_person 0 = .ok (.aload_n 0, 1) := by decide +kernel
theorem dX9_person_1 : decode cX9_person 1 = .ok (.iconst 0, 1) := by decide +kernel
theorem dX9_person_2 : decode cX9_person 2 = .ok (.putfield 165, 3) := by decide +kernel
theorem dX9_person_5 : decode cX9_person 5 = .ok (.iload_n 1, 1) := by decide +kernel
theorem dX9_person_6 : decode cX9_person 6 = .ok (.i2l, 1) := by decide +kernel
theorem dX9_person_7 : decode cX9_person 7 = .ok (.lconst 0, 1) := by decide +kernel
theorem dX9_person_8 : decode cX9_person 8 = .ok (.ldc2_w 198, 3) := by decide +kernel
theorem dX9_person_11 : decode cX9_person 11 = .ok (.invokestatic 185, 3) := by decide +kernel
theorem dX9_person_14 : decode cX9_person 14 = .ok (.ifCond .eq 16, 3) := by decide +kernel
theorem dX9_person_17 : decode cX9_person 17 = .ok (.iload_n 2, 1) := by decide +kernel
theorem dX9_person_18 : decode cX9_person 18 = .ok (.iconst (-1), 1) := by decide +kernel
theorem dX9_person_19 : decode cX9_person 19 = .ok (.if_icmp .eq 17, 3) := by decide +kernel
theorem dX9_person_22 : decode cX9_person 22 = .ok (.aload_n 0, 1) := by decide +kernel
theorem dX9_person_23 : decode cX9_person 23 = .ok (.iload_n 2, 1) := by decide +kernel
theorem dX9_person_24 : decode cX9_person 24 = .ok (.invokevirtual 200, 3) := by decide +kernel
theorem dX9_person_27 : decode cX9_person 27 = .ok (.ifCond .ne 9, 3) := by decide +kernel
theorem dX9_person_30 : decode cX9_person 30 = .ok (.aload_n 0, 1) := by decide +kernel
theorem dX9_person_31 : decode cX9_person 31 = .ok (.iconst (-1), 1) := by decide +kernel
theorem dX9_person_32 : decode cX9_person 32 = .ok (.invokevirtual 174, 3) := by decide +kernel
theorem dX9_person_35 : decode cX9_person 35 = .ok (.ireturn, 1) := by decide +kernel
theorem dX9_person_36 : decode cX9_person 36 = .ok (.aload_n 0, 1) := by decide +kernel
theorem dX9_person_37 : decode cX9_person 37 = .ok (.getfield 13, 3) := by decide +kernel
theorem dX9_person_40 : decode cX9_person 40 = .ok (.iconst 0, 1) := by decide +kernel
theorem dX9_person_41 : decode cX9_person 41 = .ok (.iaload, 1) := by decide +kernel
theorem dX9_person_42 : decode cX9_person 42 = .ok (.istore_n 3, 1) := by decide +kernel
theorem dX9_person_43 : decode cX9_person 43 = .ok (.iload_n 3, 1) := by decide +kernel
theorem dX9_person_44 : decode cX9_person 44 = .ok (.bipush 7, 2) := by decide +kernel
theorem dX9_person_46 : decode cX9_person 46 = .ok (.if_icmp .ne 10, 3) := by decide +kernel
theorem dX9_person_49 : decode cX9_person 49 = .ok (.aload_n 0, 1) := by decide +kernel
theorem dX9_person_50 : decode cX9_person 50 = .ok (.bipush (-5), 2) := by decide +kernel
theorem dX9_person_52 : decode cX9_person 52 = .ok (.invokevirtual 174, 3) := by decide +kernel
theorem dX9_person_55 : decode cX9_person 55 = .ok (.ireturn, 1) := by decide +kernel
theorem dX9_person_56 : decode cX9_person 56 = .ok (.aload_n 0, 1) := by decide +kernel
theorem dX9_person_57 : decode cX9_person 57 = .ok (.getfield 13, 3) := by decide +kernel
theorem dX9_person_60 : decode cX9_person 60 = .ok (.bipush 8, 2) := by decide +kernel
theorem dX9_person_62 : decode cX9_person 62 = .ok (.iload_n 3, 1) := by decide +kernel
theorem dX9_person_63 : decode cX9_person 63 = .ok (.iadd, 1) := by decide +kernel
theorem dX9_person_64 : decode cX9_person 64 = .ok (.iload_n 1, 1) := by decide +kernel
theorem dX9_person_65 : decode cX9_person 65 = .ok (.iastore, 1) := by decide +kernel
theorem dX9_person_66 : decode cX9_person 66 = .ok (.aload_n 0, 1) := by decide +kernel
theorem dX9_person_67 : decode cX9_person 67 = .ok (.getfield 13, 3) := by decide +kernel
theorem dX9_person_70 : decode cX9_person 70 = .ok (.bipush 15, 2) := by decide +kernel
theorem dX9_person_72 : decode cX9_person 72 = .ok (.iload_n 3, 1) := by decide +kernel
theorem dX9_person_73 : decode cX9_person 73 = .ok (.iadd, 1) := by decide +kernel
theorem dX9_person_74 : decode cX9_person 74 = .ok (.iconst 0, 1) := by decide +kernel
theorem dX9_person_75 : decode cX9_person 75 = .ok (.iastore, 1) := by decide +kernel
theorem dX9_person_76 : decode cX9_person 76 = .ok (.aload_n 0, 1) := by decide +kernel
theorem dX9_person_77 : decode cX9_person 77 = .ok (.getfield 13, 3) := by decide +kernel
theorem dX9_person_80 : decode cX9_person 80 = .ok (.bipush 22, 2) := by decide +kernel
theorem dX9_person_82 : decode cX9_person 82 = .ok (.iload_n 3, 1) := by decide +kernel
theorem dX9_person_83 : decode cX9_person 83 = .ok (.iadd, 1) := by decide +kernel
theorem dX9_person_84 : decode cX9_person 84 = .ok (.iconst 0, 1) := by decide +kernel
theorem dX9_person_85 : decode cX9_person 85 = .ok (.iastore, 1) := by decide +kernel
theorem dX9_person_86 : decode cX9_person 86 = .ok (.aload_n 0, 1) := by decide +kernel
theorem dX9_person_87 : decode cX9_person 87 = .ok (.getfield 13, 3) := by decide +kernel
theorem dX9_person_90 : decode cX9_person 90 = .ok (.bipush 29, 2) := by decide +kernel
theorem dX9_person_92 : decode cX9_person 92 = .ok (.iload_n 3, 1) := by decide +kernel
theorem dX9_person_93 : decode cX9_person 93 = .ok (.iadd, 1) := by decide +kernel
theorem dX9_person_94 : decode cX9_person 94 = .ok (.iload_n 2, 1) := by decide +kernel
theorem dX9_person_95 : decode cX9_person 95 = .ok (.iastore, 1) := by decide +kernel
theorem dX9_person_96 : decode cX9_person 96 = .ok (.aload_n 0, 1) := by decide +kernel
theorem dX9_person_97 : decode cX9_person 97 = .ok (.getfield 13, 3) := by decide +kernel
theorem dX9_person_100 : decode cX9_person 100 = .ok (.bipush 64, 2) := by decide +kernel
theorem dX9_person_102 : decode cX9_person 102 = .ok (.iload_n 3, 1) := by decide +kernel
theorem dX9_person_103 : decode cX9_person 103 = .ok (.iadd, 1) := by decide +kernel
theorem dX9_person_104 : decode cX9_person 104 = .ok (.iconst 0, 1) := by decide +kernel
theorem dX9_person_105 : decode cX9_person 105 = .ok (.iastore, 1) := by decide +kernel
theorem dX9_person_106 : decode cX9_person 106 = .ok (.iconst 0, 1) := by decide +kernel
theorem dX9_person_107 : decode cX9_person 107 = .ok (.istore 4, 2) := by decide +kernel
theorem dX9_person_109 : decode cX9_person 109 = .ok (.iload 4, 2) := by decide +kernel
theorem dX9_person_111 : decode cX9_person 111 = .ok (.iconst 4, 1) := by decide +kernel
theorem dX9_person_112 : decode cX9_person 112 = .ok (.if_icmp .ge 24, 3) := by decide +kernel
theorem dX9_person_115 : decode cX9_person 115 = .ok (.aload_n 0, 1) := by decide +kernel
theorem dX9_person_116 : decode cX9_person 116 = .ok (.getfield 13, 3) := by decide +kernel
theorem dX9_person_119 : decode cX9_person 119 = .ok (.bipush 36, 2) := by decide +kernel
theorem dX9_person_121 : decode cX9_person 121 = .ok (.iconst 4, 1) := by decide +kernel
theorem dX9_person_122 : decode cX9_person 122 = .ok (.iload_n 3, 1) := by decide +kernel
theorem dX9_person_123 : decode cX9_person 123 = .ok (.imul, 1) := by decide +kernel
theorem dX9_person_124 : decode cX9_person 124 = .ok (.iadd, 1) := by decide +kernel
theorem dX9_person_125 : decode cX9_person 125 = .ok (.iload 4, 2) := by decide +kernel
theorem dX9_person_127 : decode cX9_person 127 = .ok (.iadd, 1) := by decide +kernel
theorem dX9_person_128 : decode cX9_person 128 = .ok (.iconst 0, 1) := by decide +kernel
theorem dX9_person_129 : decode cX9_person 129 = .ok (.iastore, 1) := by decide +kernel
theorem dX9_person_130 : decode cX9_person 130 = .ok (.iinc 4 1, 3) := by decide +kernel
theorem dX9_person_133 : decode cX9_person 133 = .ok (.goto (-24), 3) := by decide +kernel
theorem dX9_person_136 : decode cX9_person 136 = .ok (.aload_n 0, 1) := by decide +kernel
theorem dX9_person_137 : decode cX9_person 137 = .ok (.getfield 13, 3) := by decide +kernel
theorem dX9_person_140 : decode cX9_person 140 = .ok (.iconst 0, 1) := by decide +kernel
theorem dX9_person_141 : decode cX9_person 141 = .ok (.dup2, 1) := by decide +kernel
theorem dX9_person_142 : decode cX9_person 142 = .ok (.iaload, 1) := by decide +kernel
theorem dX9_person_143 : decode cX9_person 143 = .ok (.iconst 1, 1) := by decide +kernel
theorem dX9_person_144 : decode cX9_person 144 = .ok (.iadd, 1) := by decide +kernel
theorem dX9_person_145 : decode cX9_person 145 = .ok (.iastore, 1) := by decide +kernel
theorem dX9_person_146 : decode cX9_person 146 = .ok (.aload_n 0, 1) := by decide +kernel
theorem dX9_person_147 : decode cX9_person 147 = .ok (.iload_n 3, 1) := by decide +kernel
theorem dX9_person_148 : decode cX9_person 148 = .ok (.invokevirtual 189, 3) := by decide +kernel
theorem dX9_person_151 : decode cX9_person 151 = .ok (.ireturn, 1) := by decide +kernel
theorem dX9_placed_0 : decode cX9_placed 0 = .ok (.aload_n 0, 1) := by decide +kernel
theorem dX9_placed_1 : decode cX9_placed 1 = .ok (.iconst 0, 1) := by decide +kernel
theorem dX9_placed_2 : decode cX9_placed 2 = .ok (.putfield 165, 3) := by decide +kernel
theorem dX9_placed_5 : decode cX9_placed 5 = .ok (.iload_n 1, 1) := by decide +kernel
theorem dX9_placed_6 : decode cX9_placed 6 = .ok (.invokestatic 213, 3) := by decide +kernel
theorem dX9_placed_9 : decode cX9_placed 9 = .ok (.ifCond .eq 15, 3) := by decide +kernel
theorem dX9_placed_12 : decode cX9_placed 12 = .ok (.iload_n 2, 1) := by decide +kernel
theorem dX9_placed_13 : decode cX9_placed 13 = .ok (.i2l, 1) := by decide +kernel
theorem dX9_placed_14 : decode cX9_placed 14 = .ok (.lconst 0, 1) := by decide +kernel
theorem dX9_placed_15 : decode cX9_placed 15 = .ok (.ldc2_w 219, 3) := by decide +kernel
theorem dX9_placed_18 : decode cX9_placed 18 = .ok (.invokestatic 185, 3) := by decide +kernel
theorem dX9_placed_21 : decode cX9_placed 21 = .ok (.ifCond .ne 5, 3) := by decide +kernel
theorem dX9_placed_24 : decode cX9_placed 24 = .ok (.iconst (-1), 1) := by decide +kernel
theorem dX9_placed_25 : decode cX9_placed 25 = .ok (.ireturn, 1) := by decide +kernel
theorem dX9_placed_26 : decode cX9_placed 26 = .ok (.aload_n 0, 1) := by decide +kernel
theorem dX9_placed_27 : decode cX9_placed 27 = .ok (.iload_n 1, 1) := by decide +kernel
theorem dX9_placed_28 : decode cX9_placed 28 = .ok (.invokevirtual 221, 3) := by decide +kernel
theorem dX9_placed_31 : decode cX9_placed 31 = .ok (.iload_n 2, 1) := by decide +kernel
theorem dX9_placed_32 : decode cX9_placed 32 = .ok (.ifCond .ne 10, 3) := by decide +kernel
theorem dX9_placed_35 : decode cX9_placed 35 = .ok (.aload_n 0, 1) := by decide +kernel
theorem dX9_placed_36 : decode cX9_placed 36 = .ok (.getfield 224, 3) := by decide +kernel
theorem dX9_placed_39 : decode cX9_placed 39 = .ok (.goto 23, 3) := by decide +kernel
theorem dX9_placed_42 : decode cX9_placed 42 = .ok (.iload_n 2, 1) := by decide +kernel
theorem dX9_placed_43 : decode cX9_placed 43 = .ok (.aload_n 0, 1) := by decide +kernel
theorem dX9_placed_44 : decode cX9_placed 44 = .ok (.getfield 224, 3) := by decide +kernel
theorem dX9_placed_47 : decode cX9_placed 47 = .ok (.if_icmp .gt 14, 3) := by decide +kernel
theorem dX9_placed_50 : decode cX9_placed 50 = .ok (.aload_n 0, 1) := by decide +kernel
theorem dX9_placed_51 : decode cX9_placed 51 = .ok (.getfield 111, 3) := by decide +kernel
theorem dX9_placed_54 : decode cX9_placed 54 = .ok (.iload_n 2, 1) := by decide +kernel
theorem dX9_placed_55 : decode cX9_placed 55 = .ok (.iconst 1, 1) := by decide +kernel
theorem dX9_placed_56 : decode cX9_placed 56 = .ok (.isub, 1) := by decide +kernel
theorem dX9_placed_57 : decode cX9_placed 57 = .ok (.iaload, 1) := by decide +kernel
theorem dX9_placed_58 : decode cX9_placed 58 = .ok (.goto 4, 3) := by decide +kernel
theorem dX9_placed_61 : decode cX9_placed 61 = .ok (.iconst (-1), 1) := by decide +kernel
theorem dX9_placed_62 : decode cX9_placed 62 = .ok (.ireturn, 1) := by decide +kernel
theorem dX9_race_0 : decode cX9_race 0 = .ok (.aload_n 0, 1) := by decide +kernel
theorem dX9_race_1 : decode cX9_race 1 = .ok (.iconst 0, 1) := by decide +kernel
theorem dX9_race_2 : decode cX9_race 2 = .ok (.putfield 165, 3) := by decide +kernel
theorem dX9_race_5 : decode cX9_race 5 = .ok (.aload_n 0, 1) := by decide +kernel
theorem dX9_race_6 : decode cX9_race 6 = .ok (.aload_n 0, 1) := by decide +kernel
theorem dX9_race_7 : decode cX9_race 7 = .ok (.iload_n 1, 1) := by decide +kernel
theorem dX9_race_8 : decode cX9_race 8 = .ok (.invokevirtual 446, 3) := by decide +kernel
theorem dX9_race_11 : decode cX9_race 11 = .ok (.invokevirtual 174, 3) := by decide +kernel
theorem dX9_race_14 : decode cX9_race 14 = .ok (.ireturn, 1) := by decide +kernel
theorem dX9_raceNow_0 : decode cX9_raceNow 0 = .ok (.iload_n 1, 1) := by decide +kernel
theorem dX9_raceNow_1 : decode cX9_raceNow 1 = .ok (.invokestatic 213, 3) := by decide +kernel
theorem dX9_raceNow_4 : decode cX9_raceNow 4 = .ok (.ifCond .ne 5, 3) := by decide +kernel
theorem dX9_raceNow_7 : decode cX9_raceNow 7 = .ok (.iconst (-1), 1) := by decide +kernel
theorem dX9_raceNow_8 : decode cX9_raceNow 8 = .ok (.ireturn, 1) := by decide +kernel
theorem dX9_raceNow_9 : decode cX9_raceNow 9 = .ok (.aload_n 0, 1) := by decide +kernel
theorem dX9_raceNow_10 : decode cX9_raceNow 10 = .ok (.iload_n 1, 1) := by decide +kernel
theorem dX9_raceNow_11 : decode cX9_raceNow 11 = .ok (.invokevirtual 221, 3) := by decide +kernel
theorem dX9_raceNow_14 : decode cX9_raceNow 14 = .ok (.aload_n 0, 1) := by decide +kernel
theorem dX9_raceNow_15 : decode cX9_raceNow 15 = .ok (.getfield 224, 3) := by decide +kernel
theorem dX9_raceNow_18 : decode cX9_raceNow 18 = .ok (.ifCond .ne 6, 3) := by decide +kernel
theorem dX9_raceNow_21 : decode cX9_raceNow 21 = .ok (.bipush (-3), 2) := by decide +kernel
theorem dX9_raceNow_23 : decode cX9_raceNow 23 = .ok (.ireturn, 1) := by decide +kernel
theorem dX9_raceNow_24 : decode cX9_raceNow 24 = .ok (.aload_n 0, 1) := by decide +kernel
theorem dX9_raceNow_25 : decode cX9_raceNow 25 = .ok (.iconst 0, 1) := by decide +kernel
theorem dX9_raceNow_26 : decode cX9_raceNow 26 = .ok (.invokevirtual 440, 3) := by decide +kernel
theorem dX9_raceNow_29 : decode cX9_raceNow 29 = .ok (.aload_n 0, 1) := by decide +kernel
theorem dX9_raceNow_30 : decode cX9_raceNow 30 = .ok (.iload_n 1, 1) := by decide +kernel
theorem dX9_raceNow_31 : decode cX9_raceNow 31 = .ok (.invokevirtual 443, 3) := by decide +kernel
theorem dX9_raceNow_34 : decode cX9_raceNow 34 = .ok (.ireturn, 1) := by decide +kernel
theorem dX9_ranking_0 : decode cX9_ranking 0 = .ok (.aload_n 0, 1) := by decide +kernel
theorem dX9_ranking_1 : decode cX9_ranking 1 = .ok (.iconst 0, 1) := by decide +kernel
theorem dX9_ranking_2 : decode cX9_ranking 2 = .ok (.putfield 165, 3) := by decide +kernel
theorem dX9_ranking_5 : decode cX9_ranking 5 = .ok (.iload_n 1, 1) := by decide +kernel
theorem dX9_ranking_6 : decode cX9_ranking 6 = .ok (.i2l, 1) := by decide +kernel
theorem dX9_ranking_7 : decode cX9_ranking 7 = .ok (.lconst 0, 1) := by decide +kernel
theorem dX9_ranking_8 : decode cX9_ranking 8 = .ok (.aload_n 0, 1) := by decide +kernel
theorem dX9_ranking_9 : decode cX9_ranking 9 = .ok (.getfield 13, 3) := by decide +kernel
theorem dX9_ranking_12 : decode cX9_ranking 12 = .ok (.iconst 0, 1) := by decide +kernel
theorem dX9_ranking_13 : decode cX9_ranking 13 = .ok (.iaload, 1) := by decide +kernel
theorem dX9_ranking_14 : decode cX9_ranking 14 = .ok (.i2l, 1) := by decide +kernel
theorem dX9_ranking_15 : decode cX9_ranking 15 = .ok (.invokestatic 185, 3) := by decide +kernel
theorem dX9_ranking_18 : decode cX9_ranking 18 = .ok (.ifCond .ne 5, 3) := by decide +kernel
theorem dX9_ranking_21 : decode cX9_ranking 21 = .ok (.iconst (-1), 1) := by decide +kernel
theorem dX9_ranking_22 : decode cX9_ranking 22 = .ok (.ireturn, 1) := by decide +kernel
theorem dX9_ranking_23 : decode cX9_ranking 23 = .ok (.aload_n 0, 1) := by decide +kernel
theorem dX9_ranking_24 : decode cX9_ranking 24 = .ok (.invokevirtual 489, 3) := by decide +kernel
theorem dX9_ranking_27 : decode cX9_ranking 27 = .ok (.iconst 0, 1) := by decide +kernel
theorem dX9_ranking_28 : decode cX9_ranking 28 = .ok (.istore_n 2, 1) := by decide +kernel
theorem dX9_ranking_29 : decode cX9_ranking 29 = .ok (.aload_n 0, 1) := by decide +kernel
theorem dX9_ranking_30 : decode cX9_ranking 30 = .ok (.getfield 120, 3) := by decide +kernel
theorem dX9_ranking_33 : decode cX9_ranking 33 = .ok (.iconst 0, 1) := by decide +kernel
theorem dX9_ranking_34 : decode cX9_ranking 34 = .ok (.iaload, 1) := by decide +kernel
theorem dX9_ranking_35 : decode cX9_ranking 35 = .ok (.istore_n 3, 1) := by decide +kernel
theorem dX9_ranking_36 : decode cX9_ranking 36 = .ok (.iconst 0, 1) := by decide +kernel
theorem dX9_ranking_37 : decode cX9_ranking 37 = .ok (.istore 4, 2) := by decide +kernel
theorem dX9_ranking_39 : decode cX9_ranking 39 = .ok (.iload 4, 2) := by decide +kernel
theorem dX9_ranking_41 : decode cX9_ranking 41 = .ok (.iload_n 1, 1) := by decide +kernel
theorem dX9_ranking_42 : decode cX9_ranking 42 = .ok (.if_icmp .ge 38, 3) := by decide +kernel
theorem dX9_ranking_45 : decode cX9_ranking 45 = .ok (.iconst 0, 1) := by decide +kernel
theorem dX9_ranking_46 : decode cX9_ranking 46 = .ok (.istore_n 3, 1) := by decide +kernel
theorem dX9_ranking_47 : decode cX9_ranking 47 = .ok (.aload_n 0, 1) := by decide +kernel
theorem dX9_ranking_48 : decode cX9_ranking 48 = .ok (.iload_n 2, 1) := by decide +kernel
theorem dX9_ranking_49 : decode cX9_ranking 49 = .ok (.iload_n 3, 1) := by decide +kernel
theorem dX9_ranking_50 : decode cX9_ranking 50 = .ok (.invokevirtual 486, 3) := by decide +kernel
theorem dX9_ranking_53 : decode cX9_ranking 53 = .ok (.aload_n 0, 1) := by decide +kernel
theorem dX9_ranking_54 : decode cX9_ranking 54 = .ok (.getfield 120, 3) := by decide +kernel
theorem dX9_ranking_57 : decode cX9_ranking 57 = .ok (.iload_n 2, 1) := by decide +kernel
theorem dX9_ranking_58 : decode cX9_ranking 58 = .ok (.iaload, 1) := by decide +kernel
theorem dX9_ranking_59 : decode cX9_ranking 59 = .ok (.if_icmp .eq 9, 3) := by decide +kernel
theorem dX9_ranking_62 : decode cX9_ranking 62 = .ok (.iinc 3 1, 3) := by decide +kernel
theorem dX9_ranking_65 : decode cX9_ranking 65 = .ok (.goto (-18), 3) := by decide +kernel
theorem dX9_ranking_68 : decode cX9_ranking 68 = .ok (.iload_n 2, 1) := by decide +kernel
theorem dX9_ranking_69 : decode cX9_ranking 69 = .ok (.iconst 1, 1) := by decide +kernel
theorem dX9_ranking_70 : decode cX9_ranking 70 = .ok (.iload_n 3, 1) := by decide +kernel
theorem dX9_ranking_71 : decode cX9_ranking 71 = .ok (.ishl, 1) := by decide +kernel
theorem dX9_ranking_72 : decode cX9_ranking 72 = .ok (.ior, 1) := by decide +kernel
theorem dX9_ranking_73 : decode cX9_ranking 73 = .ok (.istore_n 2, 1) := by decide +kernel
theorem dX9_ranking_74 : decode cX9_ranking 74 = .ok (.iinc 4 1, 3) := by decide +kernel
theorem dX9_ranking_77 : decode cX9_ranking 77 = .ok (.goto (-38), 3) := by decide +kernel
theorem dX9_ranking_80 : decode cX9_ranking 80 = .ok (.iload_n 3, 1) := by decide +kernel
theorem dX9_ranking_81 : decode cX9_ranking 81 = .ok (.ireturn, 1) := by decide +kernel
theorem dX9_readLaw_0 : decode cX9_readLaw 0 = .ok (.iconst (-1), 1) := by decide +kernel
theorem dX9_readLaw_1 : decode cX9_readLaw 1 = .ok (.istore_n 1, 1) := by decide +kernel
theorem dX9_readLaw_2 : decode cX9_readLaw 2 = .ok (.iconst 0, 1) := by decide +kernel
theorem dX9_readLaw_3 : decode cX9_readLaw 3 = .ok (.istore_n 2, 1) := by decide +kernel
theorem dX9_readLaw_4 : decode cX9_readLaw 4 = .ok (.iload_n 2, 1) := by decide +kernel
theorem dX9_readLaw_5 : decode cX9_readLaw 5 = .ok (.iconst 4, 1) := by decide +kernel
theorem dX9_readLaw_6 : decode cX9_readLaw 6 = .ok (.if_icmp .ge 28, 3) := by decide +kernel
theorem dX9_readLaw_9 : decode cX9_readLaw 9 = .ok (.aload_n 0, 1) := by decide +kernel
theorem dX9_readLaw_10 : decode cX9_readLaw 10 = .ok (.aload_n 0, 1) := by decide +kernel
theorem dX9_readLaw_11 : decode cX9_readLaw 11 = .ok (.getfield 96, 3) := by decide +kernel
theorem dX9_readLaw_14 : decode cX9_readLaw 14 = .ok (.iload_n 2, 1) := by decide +kernel
theorem dX9_readLaw_15 : decode cX9_readLaw 15 = .ok (.laload, 1) := by decide +kernel
theorem dX9_readLaw_16 : decode cX9_readLaw 16 = .ok (.invokevirtual 304, 3) := by decide +kernel
theorem dX9_readLaw_19 : decode cX9_readLaw 19 = .ok (.ifCond .eq 7, 3) := by decide +kernel
theorem dX9_readLaw_22 : decode cX9_readLaw 22 = .ok (.iload_n 2, 1) := by decide +kernel
theorem dX9_readLaw_23 : decode cX9_readLaw 23 = .ok (.goto 4, 3) := by decide +kernel
theorem dX9_readLaw_26 : decode cX9_readLaw 26 = .ok (.iload_n 1, 1) := by decide +kernel
theorem dX9_readLaw_27 : decode cX9_readLaw 27 = .ok (.istore_n 1, 1) := by decide +kernel
theorem dX9_readLaw_28 : decode cX9_readLaw 28 = .ok (.iinc 2 1, 3) := by decide +kernel
theorem dX9_readLaw_31 : decode cX9_readLaw 31 = .ok (.goto (-27), 3) := by decide +kernel
theorem dX9_readLaw_34 : decode cX9_readLaw 34 = .ok (.aload_n 0, 1) := by decide +kernel
theorem dX9_readLaw_35 : decode cX9_readLaw 35 = .ok (.iload_n 1, 1) := by decide +kernel
theorem dX9_readLaw_36 : decode cX9_readLaw 36 = .ok (.iconst (-1), 1) := by decide +kernel
theorem dX9_readLaw_37 : decode cX9_readLaw 37 = .ok (.if_icmp .eq 16, 3) := by decide +kernel
theorem dX9_readLaw_40 : decode cX9_readLaw 40 = .ok (.aload_n 0, 1) := by decide +kernel
theorem dX9_readLaw_41 : decode cX9_readLaw 41 = .ok (.getfield 377, 3) := by decide +kernel
theorem dX9_readLaw_44 : decode cX9_readLaw 44 = .ok (.bipush 12, 2) := by decide +kernel
theorem dX9_readLaw_46 : decode cX9_readLaw 46 = .ok (.if_icmp .ge 7, 3) := by decide +kernel
theorem dX9_readLaw_49 : decode cX9_readLaw 49 = .ok (.iconst 1, 1) := by decide +kernel
theorem dX9_readLaw_50 : decode cX9_readLaw 50 = .ok (.goto 4, 3) := by decide +kernel
theorem dX9_readLaw_53 : decode cX9_readLaw 53 = .ok (.iconst 0, 1) := by decide +kernel
theorem dX9_readLaw_54 : decode cX9_readLaw 54 = .ok (.invokevirtual 279, 3) := by decide +kernel
theorem dX9_readLaw_57 : decode cX9_readLaw 57 = .ok (.aload_n 0, 1) := by decide +kernel
theorem dX9_readLaw_58 : decode cX9_readLaw 58 = .ok (.getfield 246, 3) := by decide +kernel
theorem dX9_readLaw_61 : decode cX9_readLaw 61 = .ok (.ifCond .eq 4, 3) := by decide +kernel
theorem dX9_readLaw_64 : decode cX9_readLaw 64 = .ok (.return_, 1) := by decide +kernel
theorem dX9_readLaw_65 : decode cX9_readLaw 65 = .ok (.bipush 8, 2) := by decide +kernel
theorem dX9_readLaw_67 : decode cX9_readLaw 67 = .ok (.aload_n 0, 1) := by decide +kernel
theorem dX9_readLaw_68 : decode cX9_readLaw 68 = .ok (.getfield 377, 3) := by decide +kernel
theorem dX9_readLaw_71 : decode cX9_readLaw 71 = .ok (.imul, 1) := by decide +kernel
theorem dX9_readLaw_72 : decode cX9_readLaw 72 = .ok (.istore_n 2, 1) := by decide +kernel
theorem dX9_readLaw_73 : decode cX9_readLaw 73 = .ok (.iconst 0, 1) := by decide +kernel
theorem dX9_readLaw_74 : decode cX9_readLaw 74 = .ok (.istore_n 3, 1) := by decide +kernel
theorem dX9_readLaw_75 : decode cX9_readLaw 75 = .ok (.iload_n 3, 1) := by decide +kernel
theorem dX9_readLaw_76 : decode cX9_readLaw 76 = .ok (.bipush 8, 2) := by decide +kernel
theorem dX9_readLaw_78 : decode cX9_readLaw 78 = .ok (.if_icmp .ge 18, 3) := by decide +kernel
theorem dX9_readLaw_81 : decode cX9_readLaw 81 = .ok (.aload_n 0, 1) := by decide +kernel
theorem dX9_readLaw_82 : decode cX9_readLaw 82 = .ok (.getfield 42, 3) := by decide +kernel
theorem dX9_readLaw_85 : decode cX9_readLaw 85 = .ok (.iload_n 2, 1) := by decide +kernel
theorem dX9_readLaw_86 : decode cX9_readLaw 86 = .ok (.iload_n 3, 1) := by decide +kernel
theorem dX9_readLaw_87 : decode cX9_readLaw 87 = .ok (.iadd, 1) := by decide +kernel
theorem dX9_readLaw_88 : decode cX9_readLaw 88 = .ok (.iconst 0, 1) := by decide +kernel
theorem dX9_readLaw_89 : decode cX9_readLaw 89 = .ok (.iastore, 1) := by decide +kernel
theorem dX9_readLaw_90 : decode cX9_readLaw 90 = .ok (.iinc 3 1, 3) := by decide +kernel
theorem dX9_readLaw_93 : decode cX9_readLaw 93 = .ok (.goto (-18), 3) := by decide +kernel
theorem dX9_readLaw_96 : decode cX9_readLaw 96 = .ok (.aload_n 0, 1) := by decide +kernel
theorem dX9_readLaw_97 : decode cX9_readLaw 97 = .ok (.getfield 42, 3) := by decide +kernel
theorem dX9_readLaw_100 : decode cX9_readLaw 100 = .ok (.iload_n 2, 1) := by decide +kernel
theorem dX9_readLaw_101 : decode cX9_readLaw 101 = .ok (.iload_n 1, 1) := by decide +kernel
theorem dX9_readLaw_102 : decode cX9_readLaw 102 = .ok (.iastore, 1) := by decide +kernel
theorem dX9_readLaw_103 : decode cX9_readLaw 103 = .ok (.aload_n 0, 1) := by decide +kernel
theorem dX9_readLaw_104 : decode cX9_readLaw 104 = .ok (.dup, 1) := by decide +kernel
theorem dX9_readLaw_105 : decode cX9_readLaw 105 = .ok (.getfield 377, 3) := by decide +kernel
theorem dX9_readLaw_108 : decode cX9_readLaw 108 = .ok (.iconst 1, 1) := by decide +kernel
theorem dX9_readLaw_109 : decode cX9_readLaw 109 = .ok (.iadd, 1) := by decide +kernel
theorem dX9_readLaw_110 : decode cX9_readLaw 110 = .ok (.putfield 377, 3) := by decide +kernel
theorem dX9_readLaw_113 : decode cX9_readLaw 113 = .ok (.aload_n 0, 1) := by decide +kernel
theorem dX9_readLaw_114 : decode cX9_readLaw 114 = .ok (.getfield 42, 3) := by decide +kernel
theorem dX9_readLaw_117 : decode cX9_readLaw 117 = .ok (.iload_n 2, 1) := by decide +kernel
theorem dX9_readLaw_118 : decode cX9_readLaw 118 = .ok (.iconst 3, 1) := by decide +kernel
theorem dX9_readLaw_119 : decode cX9_readLaw 119 = .ok (.iadd, 1) := by decide +kernel
theorem dX9_readLaw_120 : decode cX9_readLaw 120 = .ok (.aload_n 0, 1) := by decide +kernel
theorem dX9_readLaw_121 : decode cX9_readLaw 121 = .ok (.getfield 283, 3) := by decide +kernel
theorem dX9_readLaw_124 : decode cX9_readLaw 124 = .ok (.iastore, 1) := by decide +kernel
theorem dX9_readLaw_125 : decode cX9_readLaw 125 = .ok (.iload_n 1, 1) := by decide +kernel
theorem dX9_readLaw_126 : decode cX9_readLaw 126 = .ok (.iconst 3, 1) := by decide +kernel
theorem dX9_readLaw_127 : decode cX9_readLaw 127 = .ok (.if_icmp .eq 8, 3) := by decide +kernel
theorem dX9_readLaw_130 : decode cX9_readLaw 130 = .ok (.aload_n 0, 1) := by decide +kernel
theorem dX9_readLaw_131 : decode cX9_readLaw 131 = .ok (.iconst 0, 1) := by decide +kernel
theorem dX9_readLaw_132 : decode cX9_readLaw 132 = .ok (.invokevirtual 380, 3) := by decide +kernel
theorem dX9_readLaw_135 : decode cX9_readLaw 135 = .ok (.aload_n 0, 1) := by decide +kernel
theorem dX9_readLaw_136 : decode cX9_readLaw 136 = .ok (.getfield 42, 3) := by decide +kernel
theorem dX9_readLaw_139 : decode cX9_readLaw 139 = .ok (.iload_n 2, 1) := by decide +kernel
theorem dX9_readLaw_140 : decode cX9_readLaw 140 = .ok (.iconst 4, 1) := by decide +kernel
theorem dX9_readLaw_141 : decode cX9_readLaw 141 = .ok (.iadd, 1) := by decide +kernel
theorem dX9_readLaw_142 : decode cX9_readLaw 142 = .ok (.aload_n 0, 1) := by decide +kernel
theorem dX9_readLaw_143 : decode cX9_readLaw 143 = .ok (.getfield 283, 3) := by decide +kernel
theorem dX9_readLaw_146 : decode cX9_readLaw 146 = .ok (.iastore, 1) := by decide +kernel
theorem dX9_readLaw_147 : decode cX9_readLaw 147 = .ok (.aload_n 0, 1) := by decide +kernel
theorem dX9_readLaw_148 : decode cX9_readLaw 148 = .ok (.getfield 42, 3) := by decide +kernel
theorem dX9_readLaw_151 : decode cX9_readLaw 151 = .ok (.iload_n 2, 1) := by decide +kernel
theorem dX9_readLaw_152 : decode cX9_readLaw 152 = .ok (.iconst 5, 1) := by decide +kernel
theorem dX9_readLaw_153 : decode cX9_readLaw 153 = .ok (.iadd, 1) := by decide +kernel
theorem dX9_readLaw_154 : decode cX9_readLaw 154 = .ok (.aload_n 0, 1) := by decide +kernel
theorem dX9_readLaw_155 : decode cX9_readLaw 155 = .ok (.getfield 283, 3) := by decide +kernel
theorem dX9_readLaw_158 : decode cX9_readLaw 158 = .ok (.iastore, 1) := by decide +kernel
theorem dX9_readLaw_159 : decode cX9_readLaw 159 = .ok (.aload_n 0, 1) := by decide +kernel
theorem dX9_readLaw_160 : decode cX9_readLaw 160 = .ok (.getfield 246, 3) := by decide +kernel
theorem dX9_readLaw_163 : decode cX9_readLaw 163 = .ok (.ifCond .ne 22, 3) := by decide +kernel
theorem dX9_readLaw_166 : decode cX9_readLaw 166 = .ok (.aload_n 0, 1) := by decide +kernel
theorem dX9_readLaw_167 : decode cX9_readLaw 167 = .ok (.ldc2_w 383, 3) := by decide +kernel
theorem dX9_readLaw_170 : decode cX9_readLaw 170 = .ok (.invokevirtual 304, 3) := by decide +kernel
theorem dX9_readLaw_173 : decode cX9_readLaw 173 = .ok (.ifCond .eq 12, 3) := by decide +kernel
theorem dX9_readLaw_176 : decode cX9_readLaw 176 = .ok (.aload_n 0, 1) := by decide +kernel
theorem dX9_readLaw_177 : decode cX9_readLaw 177 = .ok (.invokevirtual 250, 3) := by decide +kernel
theorem dX9_readLaw_180 : decode cX9_readLaw 180 = .ok (.aload_n 0, 1) := by decide +kernel
theorem dX9_readLaw_181 : decode cX9_readLaw 181 = .ok (.iconst 1, 1) := by decide +kernel
theorem dX9_readLaw_182 : decode cX9_readLaw 182 = .ok (.invokevirtual 380, 3) := by decide +kernel
theorem dX9_readLaw_185 : decode cX9_readLaw 185 = .ok (.aload_n 0, 1) := by decide +kernel
theorem dX9_readLaw_186 : decode cX9_readLaw 186 = .ok (.getfield 42, 3) := by decide +kernel
theorem dX9_readLaw_189 : decode cX9_readLaw 189 = .ok (.iload_n 2, 1) := by decide +kernel
theorem dX9_readLaw_190 : decode cX9_readLaw 190 = .ok (.bipush 6, 2) := by decide +kernel
theorem dX9_readLaw_192 : decode cX9_readLaw 192 = .ok (.iadd, 1) := by decide +kernel
theorem dX9_readLaw_193 : decode cX9_readLaw 193 = .ok (.aload_n 0, 1) := by decide +kernel
theorem dX9_readLaw_194 : decode cX9_readLaw 194 = .ok (.getfield 283, 3) := by decide +kernel
theorem dX9_readLaw_197 : decode cX9_readLaw 197 = .ok (.iastore, 1) := by decide +kernel
theorem dX9_readLaw_198 : decode cX9_readLaw 198 = .ok (.return_, 1) := by decide +kernel
theorem dX9_readOrder_0 : decode cX9_readOrder 0 = .ok (.iconst (-1), 1) := by decide +kernel
theorem dX9_readOrder_1 : decode cX9_readOrder 1 = .ok (.istore_n 1, 1) := by decide +kernel
theorem dX9_readOrder_2 : decode cX9_readOrder 2 = .ok (.iconst 0, 1) := by decide +kernel
theorem dX9_readOrder_3 : decode cX9_readOrder 3 = .ok (.istore_n 2, 1) := by decide +kernel
theorem dX9_readOrder_4 : decode cX9_readOrder 4 = .ok (.iload_n 2, 1) := by decide +kernel
theorem dX9_readOrder_5 : decode cX9_readOrder 5 = .ok (.iconst 4, 1) := by decide +kernel
theorem dX9_readOrder_6 : decode cX9_readOrder 6 = .ok (.if_icmp .ge 28, 3) := by decide +kernel
theorem dX9_readOrder_9 : decode cX9_readOrder 9 = .ok (.aload_n 0, 1) := by decide +kernel
theorem dX9_readOrder_10 : decode cX9_readOrder 10 = .ok (.aload_n 0, 1) := by decide +kernel
theorem dX9_readOrder_11 : decode cX9_readOrder 11 = .ok (.getfield 150, 3) := by decide +kernel
theorem dX9_readOrder_14 : decode cX9_readOrder 14 = .ok (.iload_n 2, 1) := by decide +kernel
theorem dX9_readOrder_15 : decode cX9_readOrder 15 = .ok (.laload, 1) := by decide +kernel
theorem dX9_readOrder_16 : decode cX9_readOrder 16 = .ok (.invokevirtual 304, 3) := by decide +kernel
theorem dX9_readOrder_19 : decode cX9_readOrder 19 = .ok (.ifCond .eq 7, 3) := by decide +kernel
theorem dX9_readOrder_22 : decode cX9_readOrder 22 = .ok (.iload_n 2, 1) := by decide +kernel
theorem dX9_readOrder_23 : decode cX9_readOrder 23 = .ok (.goto 4, 3) := by decide +kernel
theorem dX9_readOrder_26 : decode cX9_readOrder 26 = .ok (.iload_n 1, 1) := by decide +kernel
theorem dX9_readOrder_27 : decode cX9_readOrder 27 = .ok (.istore_n 1, 1) := by decide +kernel
theorem dX9_readOrder_28 : decode cX9_readOrder 28 = .ok (.iinc 2 1, 3) := by decide +kernel
theorem dX9_readOrder_31 : decode cX9_readOrder 31 = .ok (.goto (-27), 3) := by decide +kernel
theorem dX9_readOrder_34 : decode cX9_readOrder 34 = .ok (.aload_n 0, 1) := by decide +kernel
theorem dX9_readOrder_35 : decode cX9_readOrder 35 = .ok (.iload_n 1, 1) := by decide +kernel
theorem dX9_readOrder_36 : decode cX9_readOrder 36 = .ok (.iconst (-1), 1) := by decide +kernel
theorem dX9_readOrder_37 : decode cX9_readOrder 37 = .ok (.if_icmp .eq 16, 3) := by decide +kernel
theorem dX9_readOrder_40 : decode cX9_readOrder 40 = .ok (.aload_n 0, 1) := by decide +kernel
theorem dX9_readOrder_41 : decode cX9_readOrder 41 = .ok (.getfield 377, 3) := by decide +kernel
theorem dX9_readOrder_44 : decode cX9_readOrder 44 = .ok (.bipush 12, 2) := by decide +kernel
theorem dX9_readOrder_46 : decode cX9_readOrder 46 = .ok (.if_icmp .ge 7, 3) := by decide +kernel
theorem dX9_readOrder_49 : decode cX9_readOrder 49 = .ok (.iconst 1, 1) := by decide +kernel
theorem dX9_readOrder_50 : decode cX9_readOrder 50 = .ok (.goto 4, 3) := by decide +kernel
theorem dX9_readOrder_53 : decode cX9_readOrder 53 = .ok (.iconst 0, 1) := by decide +kernel
theorem dX9_readOrder_54 : decode cX9_readOrder 54 = .ok (.invokevirtual 279, 3) := by decide +kernel
theorem dX9_readOrder_57 : decode cX9_readOrder 57 = .ok (.aload_n 0, 1) := by decide +kernel
theorem dX9_readOrder_58 : decode cX9_readOrder 58 = .ok (.getfield 246, 3) := by decide +kernel
theorem dX9_readOrder_61 : decode cX9_readOrder 61 = .ok (.ifCond .eq 4, 3) := by decide +kernel
theorem dX9_readOrder_64 : decode cX9_readOrder 64 = .ok (.return_, 1) := by decide +kernel
theorem dX9_readOrder_65 : decode cX9_readOrder 65 = .ok (.bipush 8, 2) := by decide +kernel
theorem dX9_readOrder_67 : decode cX9_readOrder 67 = .ok (.aload_n 0, 1) := by decide +kernel
theorem dX9_readOrder_68 : decode cX9_readOrder 68 = .ok (.getfield 377, 3) := by decide +kernel
theorem dX9_readOrder_71 : decode cX9_readOrder 71 = .ok (.imul, 1) := by decide +kernel
theorem dX9_readOrder_72 : decode cX9_readOrder 72 = .ok (.istore_n 2, 1) := by decide +kernel
theorem dX9_readOrder_73 : decode cX9_readOrder 73 = .ok (.aload_n 0, 1) := by decide +kernel
theorem dX9_readOrder_74 : decode cX9_readOrder 74 = .ok (.dup, 1) := by decide +kernel
theorem dX9_readOrder_75 : decode cX9_readOrder 75 = .ok (.getfield 377, 3) := by decide +kernel
theorem dX9_readOrder_78 : decode cX9_readOrder 78 = .ok (.iconst 1, 1) := by decide +kernel
theorem dX9_readOrder_79 : decode cX9_readOrder 79 = .ok (.iadd, 1) := by decide +kernel
theorem dX9_readOrder_80 : decode cX9_readOrder 80 = .ok (.putfield 377, 3) := by decide +kernel
theorem dX9_readOrder_83 : decode cX9_readOrder 83 = .ok (.iconst 0, 1) := by decide +kernel
theorem dX9_readOrder_84 : decode cX9_readOrder 84 = .ok (.istore_n 3, 1) := by decide +kernel
theorem dX9_readOrder_85 : decode cX9_readOrder 85 = .ok (.iload_n 3, 1) := by decide +kernel
theorem dX9_readOrder_86 : decode cX9_readOrder 86 = .ok (.bipush 8, 2) := by decide +kernel
theorem dX9_readOrder_88 : decode cX9_readOrder 88 = .ok (.if_icmp .ge 18, 3) := by decide +kernel
theorem dX9_readOrder_91 : decode cX9_readOrder 91 = .ok (.aload_n 0, 1) := by decide +kernel
theorem dX9_readOrder_92 : decode cX9_readOrder 92 = .ok (.getfield 153, 3) := by decide +kernel
theorem dX9_readOrder_95 : decode cX9_readOrder 95 = .ok (.iload_n 2, 1) := by decide +kernel
theorem dX9_readOrder_96 : decode cX9_readOrder 96 = .ok (.iload_n 3, 1) := by decide +kernel
theorem dX9_readOrder_97 : decode cX9_readOrder 97 = .ok (.iadd, 1) := by decide +kernel
theorem dX9_readOrder_98 : decode cX9_readOrder 98 = .ok (.iconst 0, 1) := by decide +kernel
theorem dX9_readOrder_99 : decode cX9_readOrder 99 = .ok (.iastore, 1) := by decide +kernel
theorem dX9_readOrder_100 : decode cX9_readOrder 100 = .ok (.iinc 3 1, 3) := by decide +kernel
theorem dX9_readOrder_103 : decode cX9_readOrder 103 = .ok (.goto (-18), 3) := by decide +kernel
theorem dX9_readOrder_106 : decode cX9_readOrder 106 = .ok (.aload_n 0, 1) := by decide +kernel
theorem dX9_readOrder_107 : decode cX9_readOrder 107 = .ok (.getfield 153, 3) := by decide +kernel
theorem dX9_readOrder_110 : decode cX9_readOrder 110 = .ok (.iload_n 2, 1) := by decide +kernel
theorem dX9_readOrder_111 : decode cX9_readOrder 111 = .ok (.iload_n 1, 1) := by decide +kernel
theorem dX9_readOrder_112 : decode cX9_readOrder 112 = .ok (.iastore, 1) := by decide +kernel
theorem dX9_readOrder_113 : decode cX9_readOrder 113 = .ok (.iload_n 1, 1) := by decide +kernel
theorem dX9_readOrder_114 : decode cX9_readOrder 114 = .ok (.iconst 3, 1) := by decide +kernel
theorem dX9_readOrder_115 : decode cX9_readOrder 115 = .ok (.if_icmp .eq 10, 3) := by decide +kernel
theorem dX9_readOrder_118 : decode cX9_readOrder 118 = .ok (.aload_n 0, 1) := by decide +kernel
theorem dX9_readOrder_119 : decode cX9_readOrder 119 = .ok (.iload_n 2, 1) := by decide +kernel
theorem dX9_readOrder_120 : decode cX9_readOrder 120 = .ok (.iconst 1, 1) := by decide +kernel
theorem dX9_readOrder_121 : decode cX9_readOrder 121 = .ok (.iadd, 1) := by decide +kernel
theorem dX9_readOrder_122 : decode cX9_readOrder 122 = .ok (.invokevirtual 515, 3) := by decide +kernel
theorem dX9_readOrder_125 : decode cX9_readOrder 125 = .ok (.aload_n 0, 1) := by decide +kernel
theorem dX9_readOrder_126 : decode cX9_readOrder 126 = .ok (.getfield 153, 3) := by decide +kernel
theorem dX9_readOrder_129 : decode cX9_readOrder 129 = .ok (.iload_n 2, 1) := by decide +kernel
theorem dX9_readOrder_130 : decode cX9_readOrder 130 = .ok (.bipush 7, 2) := by decide +kernel
theorem dX9_readOrder_132 : decode cX9_readOrder 132 = .ok (.iadd, 1) := by decide +kernel
theorem dX9_readOrder_133 : decode cX9_readOrder 133 = .ok (.iconst 1, 1) := by decide +kernel
theorem dX9_readOrder_134 : decode cX9_readOrder 134 = .ok (.iastore, 1) := by decide +kernel
theorem dX9_readOrder_135 : decode cX9_readOrder 135 = .ok (.aload_n 0, 1) := by decide +kernel
theorem dX9_readOrder_136 : decode cX9_readOrder 136 = .ok (.getfield 246, 3) := by decide +kernel
theorem dX9_readOrder_139 : decode cX9_readOrder 139 = .ok (.ifCond .ne 34, 3) := by decide +kernel
theorem dX9_readOrder_142 : decode cX9_readOrder 142 = .ok (.aload_n 0, 1) := by decide +kernel
theorem dX9_readOrder_143 : decode cX9_readOrder 143 = .ok (.ldc2_w 518, 3) := by decide +kernel
theorem dX9_readOrder_146 : decode cX9_readOrder 146 = .ok (.invokevirtual 304, 3) := by decide +kernel
theorem dX9_readOrder_149 : decode cX9_readOrder 149 = .ok (.ifCond .eq 24, 3) := by decide +kernel
theorem dX9_readOrder_152 : decode cX9_readOrder 152 = .ok (.aload_n 0, 1) := by decide +kernel
theorem dX9_readOrder_153 : decode cX9_readOrder 153 = .ok (.invokevirtual 250, 3) := by decide +kernel
theorem dX9_readOrder_156 : decode cX9_readOrder 156 = .ok (.aload_n 0, 1) := by decide +kernel
theorem dX9_readOrder_157 : decode cX9_readOrder 157 = .ok (.getfield 153, 3) := by decide +kernel
theorem dX9_readOrder_160 : decode cX9_readOrder 160 = .ok (.iload_n 2, 1) := by decide +kernel
theorem dX9_readOrder_161 : decode cX9_readOrder 161 = .ok (.bipush 7, 2) := by decide +kernel
theorem dX9_readOrder_163 : decode cX9_readOrder 163 = .ok (.iadd, 1) := by decide +kernel
theorem dX9_readOrder_164 : decode cX9_readOrder 164 = .ok (.aload_n 0, 1) := by decide +kernel
theorem dX9_readOrder_165 : decode cX9_readOrder 165 = .ok (.lconst 1, 1) := by decide +kernel
theorem dX9_readOrder_166 : decode cX9_readOrder 166 = .ok (.ldc2_w 296, 3) := by decide +kernel
theorem dX9_readOrder_169 : decode cX9_readOrder 169 = .ok (.invokevirtual 341, 3) := by decide +kernel
theorem dX9_readOrder_172 : decode cX9_readOrder 172 = .ok (.iastore, 1) := by decide +kernel
theorem dX9_readOrder_173 : decode cX9_readOrder 173 = .ok (.aload_n 0, 1) := by decide +kernel
theorem dX9_readOrder_174 : decode cX9_readOrder 174 = .ok (.getfield 153, 3) := by decide +kernel
theorem dX9_readOrder_177 : decode cX9_readOrder 177 = .ok (.iload_n 2, 1) := by decide +kernel
theorem dX9_readOrder_178 : decode cX9_readOrder 178 = .ok (.iconst 5, 1) := by decide +kernel
theorem dX9_readOrder_179 : decode cX9_readOrder 179 = .ok (.iadd, 1) := by decide +kernel
theorem dX9_readOrder_180 : decode cX9_readOrder 180 = .ok (.aload_n 0, 1) := by decide +kernel
theorem dX9_readOrder_181 : decode cX9_readOrder 181 = .ok (.getfield 283, 3) := by decide +kernel
theorem dX9_readOrder_184 : decode cX9_readOrder 184 = .ok (.iastore, 1) := by decide +kernel
theorem dX9_readOrder_185 : decode cX9_readOrder 185 = .ok (.aload_n 0, 1) := by decide +kernel
theorem dX9_readOrder_186 : decode cX9_readOrder 186 = .ok (.getfield 246, 3) := by decide +kernel
theorem dX9_readOrder_189 : decode cX9_readOrder 189 = .ok (.ifCond .ne 22, 3) := by decide +kernel
theorem dX9_readOrder_192 : decode cX9_readOrder 192 = .ok (.aload_n 0, 1) := by decide +kernel
theorem dX9_readOrder_193 : decode cX9_readOrder 193 = .ok (.ldc2_w 383, 3) := by decide +kernel
theorem dX9_readOrder_196 : decode cX9_readOrder 196 = .ok (.invokevirtual 304, 3) := by decide +kernel
theorem dX9_readOrder_199 : decode cX9_readOrder 199 = .ok (.ifCond .eq 12, 3) := by decide +kernel
theorem dX9_readOrder_202 : decode cX9_readOrder 202 = .ok (.aload_n 0, 1) := by decide +kernel
theorem dX9_readOrder_203 : decode cX9_readOrder 203 = .ok (.invokevirtual 250, 3) := by decide +kernel
theorem dX9_readOrder_206 : decode cX9_readOrder 206 = .ok (.aload_n 0, 1) := by decide +kernel
theorem dX9_readOrder_207 : decode cX9_readOrder 207 = .ok (.iconst 1, 1) := by decide +kernel
theorem dX9_readOrder_208 : decode cX9_readOrder 208 = .ok (.invokevirtual 380, 3) := by decide +kernel
theorem dX9_readOrder_211 : decode cX9_readOrder 211 = .ok (.aload_n 0, 1) := by decide +kernel
theorem dX9_readOrder_212 : decode cX9_readOrder 212 = .ok (.getfield 153, 3) := by decide +kernel
theorem dX9_readOrder_215 : decode cX9_readOrder 215 = .ok (.iload_n 2, 1) := by decide +kernel
theorem dX9_readOrder_216 : decode cX9_readOrder 216 = .ok (.bipush 6, 2) := by decide +kernel
theorem dX9_readOrder_218 : decode cX9_readOrder 218 = .ok (.iadd, 1) := by decide +kernel
theorem dX9_readOrder_219 : decode cX9_readOrder 219 = .ok (.aload_n 0, 1) := by decide +kernel
theorem dX9_readOrder_220 : decode cX9_readOrder 220 = .ok (.getfield 283, 3) := by decide +kernel
theorem dX9_readOrder_223 : decode cX9_readOrder 223 = .ok (.iastore, 1) := by decide +kernel
theorem dX9_readOrder_224 : decode cX9_readOrder 224 = .ok (.return_, 1) := by decide +kernel
theorem dX9_remember_0 : decode cX9_remember 0 = .ok (.aload_n 0, 1) := by decide +kernel
theorem dX9_remember_1 : decode cX9_remember 1 = .ok (.getfield 171, 3) := by decide +kernel
theorem dX9_remember_4 : decode cX9_remember 4 = .ok (.bipush 16, 2) := by decide +kernel
theorem dX9_remember_6 : decode cX9_remember 6 = .ok (.if_icmp .ne 71, 3) := by decide +kernel
theorem dX9_remember_9 : decode cX9_remember 9 = .ok (.iconst 0, 1) := by decide +kernel
theorem dX9_remember_10 : decode cX9_remember 10 = .ok (.istore_n 2, 1) := by decide +kernel
theorem dX9_remember_11 : decode cX9_remember 11 = .ok (.iload_n 2, 1) := by decide +kernel
theorem dX9_remember_12 : decode cX9_remember 12 = .ok (.sipush 375, 3) := by decide +kernel
theorem dX9_remember_15 : decode cX9_remember 15 = .ok (.if_icmp .ge 24, 3) := by decide +kernel
theorem dX9_remember_18 : decode cX9_remember 18 = .ok (.aload_n 0, 1) := by decide +kernel
theorem dX9_remember_19 : decode cX9_remember 19 = .ok (.getfield 23, 3) := by decide +kernel
theorem dX9_remember_22 : decode cX9_remember 22 = .ok (.iload_n 2, 1) := by decide +kernel
theorem dX9_remember_23 : decode cX9_remember 23 = .ok (.aload_n 0, 1) := by decide +kernel
theorem dX9_remember_24 : decode cX9_remember 24 = .ok (.getfield 23, 3) := by decide +kernel
theorem dX9_remember_27 : decode cX9_remember 27 = .ok (.iload_n 2, 1) := by decide +kernel
theorem dX9_remember_28 : decode cX9_remember 28 = .ok (.bipush 25, 2) := by decide +kernel
theorem dX9_remember_30 : decode cX9_remember 30 = .ok (.iadd, 1) := by decide +kernel
theorem dX9_remember_31 : decode cX9_remember 31 = .ok (.iaload, 1) := by decide +kernel
theorem dX9_remember_32 : decode cX9_remember 32 = .ok (.iastore, 1) := by decide +kernel
theorem dX9_remember_33 : decode cX9_remember 33 = .ok (.iinc 2 1, 3) := by decide +kernel
theorem dX9_remember_36 : decode cX9_remember 36 = .ok (.goto (-25), 3) := by decide +kernel
theorem dX9_remember_39 : decode cX9_remember 39 = .ok (.iconst 0, 1) := by decide +kernel
theorem dX9_remember_40 : decode cX9_remember 40 = .ok (.istore_n 2, 1) := by decide +kernel
theorem dX9_remember_41 : decode cX9_remember 41 = .ok (.iload_n 2, 1) := by decide +kernel
theorem dX9_remember_42 : decode cX9_remember 42 = .ok (.bipush 15, 2) := by decide +kernel
theorem dX9_remember_44 : decode cX9_remember 44 = .ok (.if_icmp .ge 23, 3) := by decide +kernel
theorem dX9_remember_47 : decode cX9_remember 47 = .ok (.aload_n 0, 1) := by decide +kernel
theorem dX9_remember_48 : decode cX9_remember 48 = .ok (.getfield 26, 3) := by decide +kernel
theorem dX9_remember_51 : decode cX9_remember 51 = .ok (.iload_n 2, 1) := by decide +kernel
theorem dX9_remember_52 : decode cX9_remember 52 = .ok (.aload_n 0, 1) := by decide +kernel
theorem dX9_remember_53 : decode cX9_remember 53 = .ok (.getfield 26, 3) := by decide +kernel
theorem dX9_remember_56 : decode cX9_remember 56 = .ok (.iload_n 2, 1) := by decide +kernel
theorem dX9_remember_57 : decode cX9_remember 57 = .ok (.iconst 1, 1) := by decide +kernel
theorem dX9_remember_58 : decode cX9_remember 58 = .ok (.iadd, 1) := by decide +kernel
theorem dX9_remember_59 : decode cX9_remember 59 = .ok (.iaload, 1) := by decide +kernel
theorem dX9_remember_60 : decode cX9_remember 60 = .ok (.iastore, 1) := by decide +kernel
theorem dX9_remember_61 : decode cX9_remember 61 = .ok (.iinc 2 1, 3) := by decide +kernel
theorem dX9_remember_64 : decode cX9_remember 64 = .ok (.goto (-23), 3) := by decide +kernel
theorem dX9_remember_67 : decode cX9_remember 67 = .ok (.aload_n 0, 1) := by decide +kernel
theorem dX9_remember_68 : decode cX9_remember 68 = .ok (.dup, 1) := by decide +kernel
theorem dX9_remember_69 : decode cX9_remember 69 = .ok (.getfield 171, 3) := by decide +kernel
theorem dX9_remember_72 : decode cX9_remember 72 = .ok (.iconst 1, 1) := by decide +kernel
theorem dX9_remember_73 : decode cX9_remember 73 = .ok (.isub, 1) := by decide +kernel
theorem dX9_remember_74 : decode cX9_remember 74 = .ok (.putfield 171, 3) := by decide +kernel
theorem dX9_remember_77 : decode cX9_remember 77 = .ok (.aload_n 0, 1) := by decide +kernel
theorem dX9_remember_78 : decode cX9_remember 78 = .ok (.aload_n 0, 1) := by decide +kernel
theorem dX9_remember_79 : decode cX9_remember 79 = .ok (.getfield 171, 3) := by decide +kernel
theorem dX9_remember_82 : decode cX9_remember 82 = .ok (.invokevirtual 178, 3) := by decide +kernel
theorem dX9_remember_85 : decode cX9_remember 85 = .ok (.aload_n 0, 1) := by decide +kernel
theorem dX9_remember_86 : decode cX9_remember 86 = .ok (.getfield 26, 3) := by decide +kernel
theorem dX9_remember_89 : decode cX9_remember 89 = .ok (.aload_n 0, 1) := by decide +kernel
theorem dX9_remember_90 : decode cX9_remember 90 = .ok (.getfield 171, 3) := by decide +kernel
theorem dX9_remember_93 : decode cX9_remember 93 = .ok (.iload_n 1, 1) := by decide +kernel
theorem dX9_remember_94 : decode cX9_remember 94 = .ok (.iastore, 1) := by decide +kernel
theorem dX9_remember_95 : decode cX9_remember 95 = .ok (.aload_n 0, 1) := by decide +kernel
theorem dX9_remember_96 : decode cX9_remember 96 = .ok (.dup, 1) := by decide +kernel
theorem dX9_remember_97 : decode cX9_remember 97 = .ok (.getfield 171, 3) := by decide +kernel
theorem dX9_remember_100 : decode cX9_remember 100 = .ok (.iconst 1, 1) := by decide +kernel
theorem dX9_remember_101 : decode cX9_remember 101 = .ok (.iadd, 1) := by decide +kernel
theorem dX9_remember_102 : decode cX9_remember 102 = .ok (.putfield 171, 3) := by decide +kernel
theorem dX9_remember_105 : decode cX9_remember 105 = .ok (.return_, 1) := by decide +kernel
theorem dX9_row_0 : decode cX9_row 0 = .ok (.aload_n 0, 1) := by decide +kernel
theorem dX9_row_1 : decode cX9_row 1 = .ok (.iconst 0, 1) := by decide +kernel
theorem dX9_row_2 : decode cX9_row 2 = .ok (.putfield 165, 3) := by decide +kernel
theorem dX9_row_5 : decode cX9_row 5 = .ok (.aload_n 0, 1) := by decide +kernel
theorem dX9_row_6 : decode cX9_row 6 = .ok (.getfield 231, 3) := by decide +kernel
theorem dX9_row_9 : decode cX9_row 9 = .ok (.istore_n 1, 1) := by decide +kernel
theorem dX9_row_10 : decode cX9_row 10 = .ok (.aload_n 0, 1) := by decide +kernel
theorem dX9_row_11 : decode cX9_row 11 = .ok (.iconst 0, 1) := by decide +kernel
theorem dX9_row_12 : decode cX9_row 12 = .ok (.putfield 231, 3) := by decide +kernel
theorem dX9_row_15 : decode cX9_row 15 = .ok (.iload_n 1, 1) := by decide +kernel
theorem dX9_row_16 : decode cX9_row 16 = .ok (.ifCond .ne 10, 3) := by decide +kernel
theorem dX9_row_19 : decode cX9_row 19 = .ok (.aload_n 0, 1) := by decide +kernel
theorem dX9_row_20 : decode cX9_row 20 = .ok (.bipush (-6), 2) := by decide +kernel
theorem dX9_row_22 : decode cX9_row 22 = .ok (.invokevirtual 174, 3) := by decide +kernel
theorem dX9_row_25 : decode cX9_row 25 = .ok (.ireturn, 1) := by decide +kernel
theorem dX9_row_26 : decode cX9_row 26 = .ok (.aload_n 0, 1) := by decide +kernel
theorem dX9_row_27 : decode cX9_row 27 = .ok (.iconst 0, 1) := by decide +kernel
theorem dX9_row_28 : decode cX9_row 28 = .ok (.putfield 234, 3) := by decide +kernel
theorem dX9_row_31 : decode cX9_row 31 = .ok (.iconst 0, 1) := by decide +kernel
theorem dX9_row_32 : decode cX9_row 32 = .ok (.istore_n 2, 1) := by decide +kernel
theorem dX9_row_33 : decode cX9_row 33 = .ok (.iconst 0, 1) := by decide +kernel
theorem dX9_row_34 : decode cX9_row 34 = .ok (.istore_n 3, 1) := by decide +kernel
theorem dX9_row_35 : decode cX9_row 35 = .ok (.iload_n 3, 1) := by decide +kernel
theorem dX9_row_36 : decode cX9_row 36 = .ok (.iload_n 1, 1) := by decide +kernel
theorem dX9_row_37 : decode cX9_row 37 = .ok (.if_icmp .ge 85, 3) := by decide +kernel
theorem dX9_row_40 : decode cX9_row 40 = .ok (.iload_n 3, 1) := by decide +kernel
theorem dX9_row_41 : decode cX9_row 41 = .ok (.iconst 4, 1) := by decide +kernel
theorem dX9_row_42 : decode cX9_row 42 = .ok (.iadd, 1) := by decide +kernel
theorem dX9_row_43 : decode cX9_row 43 = .ok (.iload_n 1, 1) := by decide +kernel
theorem dX9_row_44 : decode cX9_row 44 = .ok (.if_icmp .ge 62, 3) := by decide +kernel
theorem dX9_row_47 : decode cX9_row 47 = .ok (.aload_n 0, 1) := by decide +kernel
theorem dX9_row_48 : decode cX9_row 48 = .ok (.iload_n 3, 1) := by decide +kernel
theorem dX9_row_49 : decode cX9_row 49 = .ok (.invokevirtual 237, 3) := by decide +kernel
theorem dX9_row_52 : decode cX9_row 52 = .ok (.ifCond .eq 54, 3) := by decide +kernel
theorem dX9_row_55 : decode cX9_row 55 = .ok (.iconst 0, 1) := by decide +kernel
theorem dX9_row_56 : decode cX9_row 56 = .ok (.istore 4, 2) := by decide +kernel
theorem dX9_row_58 : decode cX9_row 58 = .ok (.iload 4, 2) := by decide +kernel
theorem dX9_row_60 : decode cX9_row 60 = .ok (.iconst 4, 1) := by decide +kernel
theorem dX9_row_61 : decode cX9_row 61 = .ok (.if_icmp .ge 39, 3) := by decide +kernel
theorem dX9_row_64 : decode cX9_row 64 = .ok (.aload_n 0, 1) := by decide +kernel
theorem dX9_row_65 : decode cX9_row 65 = .ok (.getfield 13, 3) := by decide +kernel
theorem dX9_row_68 : decode cX9_row 68 = .ok (.bipush 36, 2) := by decide +kernel
theorem dX9_row_70 : decode cX9_row 70 = .ok (.iconst 4, 1) := by decide +kernel
theorem dX9_row_71 : decode cX9_row 71 = .ok (.aload_n 0, 1) := by decide +kernel
theorem dX9_row_72 : decode cX9_row 72 = .ok (.getfield 35, 3) := by decide +kernel
theorem dX9_row_75 : decode cX9_row 75 = .ok (.iload_n 3, 1) := by decide +kernel
theorem dX9_row_76 : decode cX9_row 76 = .ok (.iaload, 1) := by decide +kernel
theorem dX9_row_77 : decode cX9_row 77 = .ok (.imul, 1) := by decide +kernel
theorem dX9_row_78 : decode cX9_row 78 = .ok (.iadd, 1) := by decide +kernel
theorem dX9_row_79 : decode cX9_row 79 = .ok (.iload 4, 2) := by decide +kernel
theorem dX9_row_81 : decode cX9_row 81 = .ok (.iadd, 1) := by decide +kernel
theorem dX9_row_82 : decode cX9_row 82 = .ok (.aload_n 0, 1) := by decide +kernel
theorem dX9_row_83 : decode cX9_row 83 = .ok (.getfield 35, 3) := by decide +kernel
theorem dX9_row_86 : decode cX9_row 86 = .ok (.iload_n 3, 1) := by decide +kernel
theorem dX9_row_87 : decode cX9_row 87 = .ok (.iconst 1, 1) := by decide +kernel
theorem dX9_row_88 : decode cX9_row 88 = .ok (.iadd, 1) := by decide +kernel
theorem dX9_row_89 : decode cX9_row 89 = .ok (.iload 4, 2) := by decide +kernel
theorem dX9_row_91 : decode cX9_row 91 = .ok (.iadd, 1) := by decide +kernel
theorem dX9_row_92 : decode cX9_row 92 = .ok (.iaload, 1) := by decide +kernel
theorem dX9_row_93 : decode cX9_row 93 = .ok (.iastore, 1) := by decide +kernel
theorem dX9_row_94 : decode cX9_row 94 = .ok (.iinc 4 1, 3) := by decide +kernel
theorem dX9_row_97 : decode cX9_row 97 = .ok (.goto (-39), 3) := by decide +kernel
theorem dX9_row_100 : decode cX9_row 100 = .ok (.iinc 2 1, 3) := by decide +kernel
theorem dX9_row_103 : decode cX9_row 103 = .ok (.goto 13, 3) := by decide +kernel
theorem dX9_row_106 : decode cX9_row 106 = .ok (.aload_n 0, 1) := by decide +kernel
theorem dX9_row_107 : decode cX9_row 107 = .ok (.dup, 1) := by decide +kernel
theorem dX9_row_108 : decode cX9_row 108 = .ok (.getfield 234, 3) := by decide +kernel
theorem dX9_row_111 : decode cX9_row 111 = .ok (.iconst 1, 1) := by decide +kernel
theorem dX9_row_112 : decode cX9_row 112 = .ok (.iadd, 1) := by decide +kernel
theorem dX9_row_113 : decode cX9_row 113 = .ok (.putfield 234, 3) := by decide +kernel
theorem dX9_row_116 : decode cX9_row 116 = .ok (.iinc 3 5, 3) := by decide +kernel
theorem dX9_row_119 : decode cX9_row 119 = .ok (.goto (-84), 3) := by decide +kernel
theorem dX9_row_122 : decode cX9_row 122 = .ok (.aload_n 0, 1) := by decide +kernel
theorem dX9_row_123 : decode cX9_row 123 = .ok (.iload_n 2, 1) := by decide +kernel
theorem dX9_row_124 : decode cX9_row 124 = .ok (.invokevirtual 174, 3) := by decide +kernel
theorem dX9_row_127 : decode cX9_row 127 = .ok (.ireturn, 1) := by decide +kernel
theorem dX9_scoreNow_0 : decode cX9_scoreNow 0 = .ok (.iconst 0, 1) := by decide +kernel
theorem dX9_scoreNow_1 : decode cX9_scoreNow 1 = .ok (.istore_n 1, 1) := by decide +kernel
theorem dX9_scoreNow_2 : decode cX9_scoreNow 2 = .ok (.iconst 0, 1) := by decide +kernel
theorem dX9_scoreNow_3 : decode cX9_scoreNow 3 = .ok (.istore_n 2, 1) := by decide +kernel
theorem dX9_scoreNow_4 : decode cX9_scoreNow 4 = .ok (.iload_n 2, 1) := by decide +kernel
theorem dX9_scoreNow_5 : decode cX9_scoreNow 5 = .ok (.iconst 4, 1) := by decide +kernel
theorem dX9_scoreNow_6 : decode cX9_scoreNow 6 = .ok (.if_icmp .ge 42, 3) := by decide +kernel
theorem dX9_scoreNow_9 : decode cX9_scoreNow 9 = .ok (.iload_n 1, 1) := by decide +kernel
theorem dX9_scoreNow_10 : decode cX9_scoreNow 10 = .ok (.aload_n 0, 1) := by decide +kernel
theorem dX9_scoreNow_11 : decode cX9_scoreNow 11 = .ok (.getfield 126, 3) := by decide +kernel
theorem dX9_scoreNow_14 : decode cX9_scoreNow 14 = .ok (.iload_n 2, 1) := by decide +kernel
theorem dX9_scoreNow_15 : decode cX9_scoreNow 15 = .ok (.iaload, 1) := by decide +kernel
theorem dX9_scoreNow_16 : decode cX9_scoreNow 16 = .ok (.bipush 7, 2) := by decide +kernel
theorem dX9_scoreNow_18 : decode cX9_scoreNow 18 = .ok (.if_icmp .ne 7, 3) := by decide +kernel
theorem dX9_scoreNow_21 : decode cX9_scoreNow 21 = .ok (.iconst 0, 1) := by decide +kernel
theorem dX9_scoreNow_22 : decode cX9_scoreNow 22 = .ok (.goto 18, 3) := by decide +kernel
theorem dX9_scoreNow_25 : decode cX9_scoreNow 25 = .ok (.aload_n 0, 1) := by decide +kernel
theorem dX9_scoreNow_26 : decode cX9_scoreNow 26 = .ok (.getfield 123, 3) := by decide +kernel
theorem dX9_scoreNow_29 : decode cX9_scoreNow 29 = .ok (.iconst 4, 1) := by decide +kernel
theorem dX9_scoreNow_30 : decode cX9_scoreNow 30 = .ok (.aload_n 0, 1) := by decide +kernel
theorem dX9_scoreNow_31 : decode cX9_scoreNow 31 = .ok (.getfield 126, 3) := by decide +kernel
theorem dX9_scoreNow_34 : decode cX9_scoreNow 34 = .ok (.iload_n 2, 1) := by decide +kernel
theorem dX9_scoreNow_35 : decode cX9_scoreNow 35 = .ok (.iaload, 1) := by decide +kernel
theorem dX9_scoreNow_36 : decode cX9_scoreNow 36 = .ok (.imul, 1) := by decide +kernel
theorem dX9_scoreNow_37 : decode cX9_scoreNow 37 = .ok (.iload_n 2, 1) := by decide +kernel
theorem dX9_scoreNow_38 : decode cX9_scoreNow 38 = .ok (.iadd, 1) := by decide +kernel
theorem dX9_scoreNow_39 : decode cX9_scoreNow 39 = .ok (.iaload, 1) := by decide +kernel
theorem dX9_scoreNow_40 : decode cX9_scoreNow 40 = .ok (.iadd, 1) := by decide +kernel
theorem dX9_scoreNow_41 : decode cX9_scoreNow 41 = .ok (.istore_n 1, 1) := by decide +kernel
theorem dX9_scoreNow_42 : decode cX9_scoreNow 42 = .ok (.iinc 2 1, 3) := by decide +kernel
theorem dX9_scoreNow_45 : decode cX9_scoreNow 45 = .ok (.goto (-41), 3) := by decide +kernel
theorem dX9_scoreNow_48 : decode cX9_scoreNow 48 = .ok (.iload_n 1, 1) := by decide +kernel
theorem dX9_scoreNow_49 : decode cX9_scoreNow 49 = .ok (.ireturn, 1) := by decide +kernel
theorem dX9_seen_0 : decode cX9_seen 0 = .ok (.aload_n 0, 1) := by decide +kernel
theorem dX9_seen_1 : decode cX9_seen 1 = .ok (.iconst 0, 1) := by decide +kernel
theorem dX9_seen_2 : decode cX9_seen 2 = .ok (.putfield 165, 3) := by decide +kernel
theorem dX9_seen_5 : decode cX9_seen 5 = .ok (.iload_n 1, 1) := by decide +kernel
theorem dX9_seen_6 : decode cX9_seen 6 = .ok (.invokestatic 213, 3) := by decide +kernel
theorem dX9_seen_9 : decode cX9_seen 9 = .ok (.ifCond .eq 15, 3) := by decide +kernel
theorem dX9_seen_12 : decode cX9_seen 12 = .ok (.iload_n 2, 1) := by decide +kernel
theorem dX9_seen_13 : decode cX9_seen 13 = .ok (.i2l, 1) := by decide +kernel
theorem dX9_seen_14 : decode cX9_seen 14 = .ok (.lconst 0, 1) := by decide +kernel
theorem dX9_seen_15 : decode cX9_seen 15 = .ok (.ldc2_w 198, 3) := by decide +kernel
theorem dX9_seen_18 : decode cX9_seen 18 = .ok (.invokestatic 185, 3) := by decide +kernel
theorem dX9_seen_21 : decode cX9_seen 21 = .ok (.ifCond .ne 9, 3) := by decide +kernel
theorem dX9_seen_24 : decode cX9_seen 24 = .ok (.aload_n 0, 1) := by decide +kernel
theorem dX9_seen_25 : decode cX9_seen 25 = .ok (.iconst (-1), 1) := by decide +kernel
theorem dX9_seen_26 : decode cX9_seen 26 = .ok (.invokevirtual 174, 3) := by decide +kernel
theorem dX9_seen_29 : decode cX9_seen 29 = .ok (.ireturn, 1) := by decide +kernel
theorem dX9_seen_30 : decode cX9_seen 30 = .ok (.aload_n 0, 1) := by decide +kernel
theorem dX9_seen_31 : decode cX9_seen 31 = .ok (.getfield 13, 3) := by decide +kernel
theorem dX9_seen_34 : decode cX9_seen 34 = .ok (.iconst 1, 1) := by decide +kernel
theorem dX9_seen_35 : decode cX9_seen 35 = .ok (.iaload, 1) := by decide +kernel
theorem dX9_seen_36 : decode cX9_seen 36 = .ok (.istore_n 3, 1) := by decide +kernel
theorem dX9_seen_37 : decode cX9_seen 37 = .ok (.iload_n 3, 1) := by decide +kernel
theorem dX9_seen_38 : decode cX9_seen 38 = .ok (.bipush 6, 2) := by decide +kernel
theorem dX9_seen_40 : decode cX9_seen 40 = .ok (.if_icmp .ne 10, 3) := by decide +kernel
theorem dX9_seen_43 : decode cX9_seen 43 = .ok (.aload_n 0, 1) := by decide +kernel
theorem dX9_seen_44 : decode cX9_seen 44 = .ok (.bipush (-5), 2) := by decide +kernel
theorem dX9_seen_46 : decode cX9_seen 46 = .ok (.invokevirtual 174, 3) := by decide +kernel
theorem dX9_seen_49 : decode cX9_seen 49 = .ok (.ireturn, 1) := by decide +kernel
theorem dX9_seen_50 : decode cX9_seen 50 = .ok (.aload_n 0, 1) := by decide +kernel
theorem dX9_seen_51 : decode cX9_seen 51 = .ok (.getfield 13, 3) := by decide +kernel
theorem dX9_seen_54 : decode cX9_seen 54 = .ok (.bipush 71, 2) := by decide +kernel
theorem dX9_seen_56 : decode cX9_seen 56 = .ok (.iconst 2, 1) := by decide +kernel
theorem dX9_seen_57 : decode cX9_seen 57 = .ok (.iload_n 3, 1) := by decide +kernel
theorem dX9_seen_58 : decode cX9_seen 58 = .ok (.imul, 1) := by decide +kernel
theorem dX9_seen_59 : decode cX9_seen 59 = .ok (.iadd, 1) := by decide +kernel
theorem dX9_seen_60 : decode cX9_seen 60 = .ok (.iload_n 1, 1) := by decide +kernel
theorem dX9_seen_61 : decode cX9_seen 61 = .ok (.iastore, 1) := by decide +kernel
theorem dX9_seen_62 : decode cX9_seen 62 = .ok (.aload_n 0, 1) := by decide +kernel
theorem dX9_seen_63 : decode cX9_seen 63 = .ok (.getfield 13, 3) := by decide +kernel
theorem dX9_seen_66 : decode cX9_seen 66 = .ok (.bipush 71, 2) := by decide +kernel
theorem dX9_seen_68 : decode cX9_seen 68 = .ok (.iconst 2, 1) := by decide +kernel
theorem dX9_seen_69 : decode cX9_seen 69 = .ok (.iload_n 3, 1) := by decide +kernel
theorem dX9_seen_70 : decode cX9_seen 70 = .ok (.imul, 1) := by decide +kernel
theorem dX9_seen_71 : decode cX9_seen 71 = .ok (.iadd, 1) := by decide +kernel
theorem dX9_seen_72 : decode cX9_seen 72 = .ok (.iconst 1, 1) := by decide +kernel
theorem dX9_seen_73 : decode cX9_seen 73 = .ok (.iadd, 1) := by decide +kernel
theorem dX9_seen_74 : decode cX9_seen 74 = .ok (.iload_n 2, 1) := by decide +kernel
theorem dX9_seen_75 : decode cX9_seen 75 = .ok (.iastore, 1) := by decide +kernel
theorem dX9_seen_76 : decode cX9_seen 76 = .ok (.aload_n 0, 1) := by decide +kernel
theorem dX9_seen_77 : decode cX9_seen 77 = .ok (.getfield 13, 3) := by decide +kernel
theorem dX9_seen_80 : decode cX9_seen 80 = .ok (.iconst 1, 1) := by decide +kernel
theorem dX9_seen_81 : decode cX9_seen 81 = .ok (.dup2, 1) := by decide +kernel
theorem dX9_seen_82 : decode cX9_seen 82 = .ok (.iaload, 1) := by decide +kernel
theorem dX9_seen_83 : decode cX9_seen 83 = .ok (.iconst 1, 1) := by decide +kernel
theorem dX9_seen_84 : decode cX9_seen 84 = .ok (.iadd, 1) := by decide +kernel
theorem dX9_seen_85 : decode cX9_seen 85 = .ok (.iastore, 1) := by decide +kernel
theorem dX9_seen_86 : decode cX9_seen 86 = .ok (.aload_n 0, 1) := by decide +kernel
theorem dX9_seen_87 : decode cX9_seen 87 = .ok (.iload_n 3, 1) := by decide +kernel
theorem dX9_seen_88 : decode cX9_seen 88 = .ok (.iconst 1, 1) := by decide +kernel
theorem dX9_seen_89 : decode cX9_seen 89 = .ok (.iadd, 1) := by decide +kernel
theorem dX9_seen_90 : decode cX9_seen 90 = .ok (.invokevirtual 174, 3) := by decide +kernel
theorem dX9_seen_93 : decode cX9_seen 93 = .ok (.ireturn, 1) := by decide +kernel
theorem dX9_settled_0 : decode cX9_settled 0 = .ok (.aload_n 0, 1) := by decide +kernel
theorem dX9_settled_1 : decode cX9_settled 1 = .ok (.iload_n 1, 1) := by decide +kernel
theorem dX9_settled_2 : decode cX9_settled 2 = .ok (.ifCond .ge 10, 3) := by decide +kernel
theorem dX9_settled_5 : decode cX9_settled 5 = .ok (.aload_n 0, 1) := by decide +kernel
theorem dX9_settled_6 : decode cX9_settled 6 = .ok (.getfield 171, 3) := by decide +kernel
theorem dX9_settled_9 : decode cX9_settled 9 = .ok (.goto 4, 3) := by decide +kernel
theorem dX9_settled_12 : decode cX9_settled 12 = .ok (.iconst 0, 1) := by decide +kernel
theorem dX9_settled_13 : decode cX9_settled 13 = .ok (.putfield 171, 3) := by decide +kernel
theorem dX9_settled_16 : decode cX9_settled 16 = .ok (.aload_n 0, 1) := by decide +kernel
theorem dX9_settled_17 : decode cX9_settled 17 = .ok (.iload_n 1, 1) := by decide +kernel
theorem dX9_settled_18 : decode cX9_settled 18 = .ok (.invokevirtual 174, 3) := by decide +kernel
theorem dX9_settled_21 : decode cX9_settled 21 = .ok (.ireturn, 1) := by decide +kernel
theorem dX9_status_0 : decode cX9_status 0 = .ok (.aload_n 0, 1) := by decide +kernel
theorem dX9_status_1 : decode cX9_status 1 = .ok (.iconst 0, 1) := by decide +kernel
theorem dX9_status_2 : decode cX9_status 2 = .ok (.putfield 165, 3) := by decide +kernel
theorem dX9_status_5 : decode cX9_status 5 = .ok (.aload_n 0, 1) := by decide +kernel
theorem dX9_status_6 : decode cX9_status 6 = .ok (.getfield 168, 3) := by decide +kernel
theorem dX9_status_9 : decode cX9_status 9 = .ok (.ireturn, 1) := by decide +kernel
theorem dX9_stopped_0 : decode cX9_stopped 0 = .ok (.aload_n 0, 1) := by decide +kernel
theorem dX9_stopped_1 : decode cX9_stopped 1 = .ok (.iconst 0, 1) := by decide +kernel
theorem dX9_stopped_2 : decode cX9_stopped 2 = .ok (.putfield 165, 3) := by decide +kernel
theorem dX9_stopped_5 : decode cX9_stopped 5 = .ok (.aload_n 0, 1) := by decide +kernel
theorem dX9_stopped_6 : decode cX9_stopped 6 = .ok (.getfield 156, 3) := by decide +kernel
theorem dX9_stopped_9 : decode cX9_stopped 9 = .ok (.ireturn, 1) := by decide +kernel
theorem dX9_strength_0 : decode cX9_strength 0 = .ok (.aload_n 0, 1) := by decide +kernel
theorem dX9_strength_1 : decode cX9_strength 1 = .ok (.iconst 0, 1) := by decide +kernel
theorem dX9_strength_2 : decode cX9_strength 2 = .ok (.putfield 165, 3) := by decide +kernel
theorem dX9_strength_5 : decode cX9_strength 5 = .ok (.iload_n 2, 1) := by decide +kernel
theorem dX9_strength_6 : decode cX9_strength 6 = .ok (.invokestatic 213, 3) := by decide +kernel
theorem dX9_strength_9 : decode cX9_strength 9 = .ok (.ifCond .eq 15, 3) := by decide +kernel
theorem dX9_strength_12 : decode cX9_strength 12 = .ok (.iload_n 3, 1) := by decide +kernel
theorem dX9_strength_13 : decode cX9_strength 13 = .ok (.i2l, 1) := by decide +kernel
theorem dX9_strength_14 : decode cX9_strength 14 = .ok (.lconst 0, 1) := by decide +kernel
theorem dX9_strength_15 : decode cX9_strength 15 = .ok (.ldc2_w 198, 3) := by decide +kernel
theorem dX9_strength_18 : decode cX9_strength 18 = .ok (.invokestatic 185, 3) := by decide +kernel
theorem dX9_strength_21 : decode cX9_strength 21 = .ok (.ifCond .ne 9, 3) := by decide +kernel
theorem dX9_strength_24 : decode cX9_strength 24 = .ok (.aload_n 0, 1) := by decide +kernel
theorem dX9_strength_25 : decode cX9_strength 25 = .ok (.iconst (-1), 1) := by decide +kernel
theorem dX9_strength_26 : decode cX9_strength 26 = .ok (.invokevirtual 174, 3) := by decide +kernel
theorem dX9_strength_29 : decode cX9_strength 29 = .ok (.ireturn, 1) := by decide +kernel
theorem dX9_strength_30 : decode cX9_strength 30 = .ok (.aload_n 0, 1) := by decide +kernel
theorem dX9_strength_31 : decode cX9_strength 31 = .ok (.iload_n 1, 1) := by decide +kernel
theorem dX9_strength_32 : decode cX9_strength 32 = .ok (.invokevirtual 200, 3) := by decide +kernel
theorem dX9_strength_35 : decode cX9_strength 35 = .ok (.ifCond .eq 19, 3) := by decide +kernel
theorem dX9_strength_38 : decode cX9_strength 38 = .ok (.aload_n 0, 1) := by decide +kernel
theorem dX9_strength_39 : decode cX9_strength 39 = .ok (.bipush 36, 2) := by decide +kernel
theorem dX9_strength_41 : decode cX9_strength 41 = .ok (.iconst 4, 1) := by decide +kernel
theorem dX9_strength_42 : decode cX9_strength 42 = .ok (.iload_n 1, 1) := by decide +kernel
theorem dX9_strength_43 : decode cX9_strength 43 = .ok (.imul, 1) := by decide +kernel
theorem dX9_strength_44 : decode cX9_strength 44 = .ok (.iadd, 1) := by decide +kernel
theorem dX9_strength_45 : decode cX9_strength 45 = .ok (.iload_n 2, 1) := by decide +kernel
theorem dX9_strength_46 : decode cX9_strength 46 = .ok (.iadd, 1) := by decide +kernel
theorem dX9_strength_47 : decode cX9_strength 47 = .ok (.iload_n 3, 1) := by decide +kernel
theorem dX9_strength_48 : decode cX9_strength 48 = .ok (.invokevirtual 216, 3) := by decide +kernel
theorem dX9_strength_51 : decode cX9_strength 51 = .ok (.goto 9, 3) := by decide +kernel
theorem dX9_strength_54 : decode cX9_strength 54 = .ok (.aload_n 0, 1) := by decide +kernel
theorem dX9_strength_55 : decode cX9_strength 55 = .ok (.bipush (-2), 2) := by decide +kernel
theorem dX9_strength_57 : decode cX9_strength 57 = .ok (.invokevirtual 174, 3) := by decide +kernel
theorem dX9_strength_60 : decode cX9_strength 60 = .ok (.ireturn, 1) := by decide +kernel
theorem dX9_sumOf_0 : decode cX9_sumOf 0 = .ok (.iconst 0, 1) := by decide +kernel
theorem dX9_sumOf_1 : decode cX9_sumOf 1 = .ok (.istore_n 3, 1) := by decide +kernel
theorem dX9_sumOf_2 : decode cX9_sumOf 2 = .ok (.iconst 0, 1) := by decide +kernel
theorem dX9_sumOf_3 : decode cX9_sumOf 3 = .ok (.istore 4, 2) := by decide +kernel
theorem dX9_sumOf_5 : decode cX9_sumOf 5 = .ok (.iload 4, 2) := by decide +kernel
theorem dX9_sumOf_7 : decode cX9_sumOf 7 = .ok (.iload_n 2, 1) := by decide +kernel
theorem dX9_sumOf_8 : decode cX9_sumOf 8 = .ok (.if_icmp .ge 21, 3) := by decide +kernel
theorem dX9_sumOf_11 : decode cX9_sumOf 11 = .ok (.iload_n 3, 1) := by decide +kernel
theorem dX9_sumOf_12 : decode cX9_sumOf 12 = .ok (.aload_n 0, 1) := by decide +kernel
theorem dX9_sumOf_13 : decode cX9_sumOf 13 = .ok (.getfield 13, 3) := by decide +kernel
theorem dX9_sumOf_16 : decode cX9_sumOf 16 = .ok (.iload_n 1, 1) := by decide +kernel
theorem dX9_sumOf_17 : decode cX9_sumOf 17 = .ok (.iload 4, 2) := by decide +kernel
theorem dX9_sumOf_19 : decode cX9_sumOf 19 = .ok (.iadd, 1) := by decide +kernel
theorem dX9_sumOf_20 : decode cX9_sumOf 20 = .ok (.iaload, 1) := by decide +kernel
theorem dX9_sumOf_21 : decode cX9_sumOf 21 = .ok (.iadd, 1) := by decide +kernel
theorem dX9_sumOf_22 : decode cX9_sumOf 22 = .ok (.istore_n 3, 1) := by decide +kernel
theorem dX9_sumOf_23 : decode cX9_sumOf 23 = .ok (.iinc 4 1, 3) := by decide +kernel
theorem dX9_sumOf_26 : decode cX9_sumOf 26 = .ok (.goto (-21), 3) := by decide +kernel
theorem dX9_sumOf_29 : decode cX9_sumOf 29 = .ok (.iload_n 3, 1) := by decide +kernel
theorem dX9_sumOf_30 : decode cX9_sumOf 30 = .ok (.ireturn, 1) := by decide +kernel
theorem dX9_take_0 : decode cX9_take 0 = .ok (.aload_n 0, 1) := by decide +kernel
theorem dX9_take_1 : decode cX9_take 1 = .ok (.iconst 0, 1) := by decide +kernel
theorem dX9_take_2 : decode cX9_take 2 = .ok (.putfield 165, 3) := by decide +kernel
theorem dX9_take_5 : decode cX9_take 5 = .ok (.aload_n 0, 1) := by decide +kernel
theorem dX9_take_6 : decode cX9_take 6 = .ok (.aload_n 0, 1) := by decide +kernel
theorem dX9_take_7 : decode cX9_take 7 = .ok (.iload_n 1, 1) := by decide +kernel
theorem dX9_take_8 : decode cX9_take 8 = .ok (.invokevirtual 455, 3) := by decide +kernel
theorem dX9_take_11 : decode cX9_take 11 = .ok (.invokevirtual 174, 3) := by decide +kernel
theorem dX9_take_14 : decode cX9_take 14 = .ok (.ireturn, 1) := by decide +kernel
theorem dX9_takeNow_0 : decode cX9_takeNow 0 = .ok (.aload_n 0, 1) := by decide +kernel
theorem dX9_takeNow_1 : decode cX9_takeNow 1 = .ok (.iload_n 1, 1) := by decide +kernel
theorem dX9_takeNow_2 : decode cX9_takeNow 2 = .ok (.invokevirtual 200, 3) := by decide +kernel
theorem dX9_takeNow_5 : decode cX9_takeNow 5 = .ok (.ifCond .ne 6, 3) := by decide +kernel
theorem dX9_takeNow_8 : decode cX9_takeNow 8 = .ok (.bipush (-2), 2) := by decide +kernel
theorem dX9_takeNow_10 : decode cX9_takeNow 10 = .ok (.ireturn, 1) := by decide +kernel
theorem dX9_takeNow_11 : decode cX9_takeNow 11 = .ok (.aload_n 0, 1) := by decide +kernel
theorem dX9_takeNow_12 : decode cX9_takeNow 12 = .ok (.getfield 13, 3) := by decide +kernel
theorem dX9_takeNow_15 : decode cX9_takeNow 15 = .ok (.bipush 7, 2) := by decide +kernel
theorem dX9_takeNow_17 : decode cX9_takeNow 17 = .ok (.iaload, 1) := by decide +kernel
theorem dX9_takeNow_18 : decode cX9_takeNow 18 = .ok (.istore_n 2, 1) := by decide +kernel
theorem dX9_takeNow_19 : decode cX9_takeNow 19 = .ok (.iload_n 2, 1) := by decide +kernel
theorem dX9_takeNow_20 : decode cX9_takeNow 20 = .ok (.ifCond .ne 6, 3) := by decide +kernel
theorem dX9_takeNow_23 : decode cX9_takeNow 23 = .ok (.bipush (-3), 2) := by decide +kernel
theorem dX9_takeNow_25 : decode cX9_takeNow 25 = .ok (.ireturn, 1) := by decide +kernel
theorem dX9_takeNow_26 : decode cX9_takeNow 26 = .ok (.aload_n 0, 1) := by decide +kernel
theorem dX9_takeNow_27 : decode cX9_takeNow 27 = .ok (.iconst 2, 1) := by decide +kernel
theorem dX9_takeNow_28 : decode cX9_takeNow 28 = .ok (.invokevirtual 440, 3) := by decide +kernel
theorem dX9_takeNow_31 : decode cX9_takeNow 31 = .ok (.aload_n 0, 1) := by decide +kernel
theorem dX9_takeNow_32 : decode cX9_takeNow 32 = .ok (.iload_n 1, 1) := by decide +kernel
theorem dX9_takeNow_33 : decode cX9_takeNow 33 = .ok (.invokevirtual 452, 3) := by decide +kernel
theorem dX9_takeNow_36 : decode cX9_takeNow 36 = .ok (.iload_n 2, 1) := by decide +kernel
theorem dX9_takeNow_37 : decode cX9_takeNow 37 = .ok (.ireturn, 1) := by decide +kernel
theorem dX9_tell_0 : decode cX9_tell 0 = .ok (.aload_n 0, 1) := by decide +kernel
theorem dX9_tell_1 : decode cX9_tell 1 = .ok (.iload_n 1, 1) := by decide +kernel
theorem dX9_tell_2 : decode cX9_tell 2 = .ok (.ifCond .ge 7, 3) := by decide +kernel
theorem dX9_tell_5 : decode cX9_tell 5 = .ok (.iload_n 1, 1) := by decide +kernel
theorem dX9_tell_6 : decode cX9_tell 6 = .ok (.goto 4, 3) := by decide +kernel
theorem dX9_tell_9 : decode cX9_tell 9 = .ok (.iconst 0, 1) := by decide +kernel
theorem dX9_tell_10 : decode cX9_tell 10 = .ok (.putfield 168, 3) := by decide +kernel
theorem dX9_tell_13 : decode cX9_tell 13 = .ok (.iload_n 1, 1) := by decide +kernel
theorem dX9_tell_14 : decode cX9_tell 14 = .ok (.ifCond .ge 14, 3) := by decide +kernel
theorem dX9_tell_17 : decode cX9_tell 17 = .ok (.aload_n 0, 1) := by decide +kernel
theorem dX9_tell_18 : decode cX9_tell 18 = .ok (.getfield 7, 3) := by decide +kernel
theorem dX9_tell_21 : decode cX9_tell 21 = .ok (.iload_n 1, 1) := by decide +kernel
theorem dX9_tell_22 : decode cX9_tell 22 = .ok (.ineg, 1) := by decide +kernel
theorem dX9_tell_23 : decode cX9_tell 23 = .ok (.dup2, 1) := by decide +kernel
theorem dX9_tell_24 : decode cX9_tell 24 = .ok (.iaload, 1) := by decide +kernel
theorem dX9_tell_25 : decode cX9_tell 25 = .ok (.iconst 1, 1) := by decide +kernel
theorem dX9_tell_26 : decode cX9_tell 26 = .ok (.iadd, 1) := by decide +kernel
theorem dX9_tell_27 : decode cX9_tell 27 = .ok (.iastore, 1) := by decide +kernel
theorem dX9_tell_28 : decode cX9_tell 28 = .ok (.iload_n 1, 1) := by decide +kernel
theorem dX9_tell_29 : decode cX9_tell 29 = .ok (.ireturn, 1) := by decide +kernel
theorem dX9_terms_0 : decode cX9_terms 0 = .ok (.aload_n 0, 1) := by decide +kernel
theorem dX9_terms_1 : decode cX9_terms 1 = .ok (.iconst 0, 1) := by decide +kernel
theorem dX9_terms_2 : decode cX9_terms 2 = .ok (.putfield 165, 3) := by decide +kernel
theorem dX9_terms_5 : decode cX9_terms 5 = .ok (.iload_n 1, 1) := by decide +kernel
theorem dX9_terms_6 : decode cX9_terms 6 = .ok (.ifCond .ne 15, 3) := by decide +kernel
theorem dX9_terms_9 : decode cX9_terms 9 = .ok (.iload_n 2, 1) := by decide +kernel
theorem dX9_terms_10 : decode cX9_terms 10 = .ok (.i2l, 1) := by decide +kernel
theorem dX9_terms_11 : decode cX9_terms 11 = .ok (.lconst 0, 1) := by decide +kernel
theorem dX9_terms_12 : decode cX9_terms 12 = .ok (.ldc2_w 227, 3) := by decide +kernel
theorem dX9_terms_15 : decode cX9_terms 15 = .ok (.invokestatic 185, 3) := by decide +kernel
theorem dX9_terms_18 : decode cX9_terms 18 = .ok (.goto 42, 3) := by decide +kernel
theorem dX9_terms_21 : decode cX9_terms 21 = .ok (.iload_n 1, 1) := by decide +kernel
theorem dX9_terms_22 : decode cX9_terms 22 = .ok (.iconst 1, 1) := by decide +kernel
theorem dX9_terms_23 : decode cX9_terms 23 = .ok (.if_icmp .ne 15, 3) := by decide +kernel
theorem dX9_terms_26 : decode cX9_terms 26 = .ok (.iload_n 2, 1) := by decide +kernel
theorem dX9_terms_27 : decode cX9_terms 27 = .ok (.i2l, 1) := by decide +kernel
theorem dX9_terms_28 : decode cX9_terms 28 = .ok (.lconst 0, 1) := by decide +kernel
theorem dX9_terms_29 : decode cX9_terms 29 = .ok (.ldc2_w 229, 3) := by decide +kernel
theorem dX9_terms_32 : decode cX9_terms 32 = .ok (.invokestatic 185, 3) := by decide +kernel
theorem dX9_terms_35 : decode cX9_terms 35 = .ok (.goto 25, 3) := by decide +kernel
theorem dX9_terms_38 : decode cX9_terms 38 = .ok (.iload_n 1, 1) := by decide +kernel
theorem dX9_terms_39 : decode cX9_terms 39 = .ok (.iconst 2, 1) := by decide +kernel
theorem dX9_terms_40 : decode cX9_terms 40 = .ok (.if_icmp .ne 19, 3) := by decide +kernel
theorem dX9_terms_43 : decode cX9_terms 43 = .ok (.iload_n 2, 1) := by decide +kernel
theorem dX9_terms_44 : decode cX9_terms 44 = .ok (.i2l, 1) := by decide +kernel
theorem dX9_terms_45 : decode cX9_terms 45 = .ok (.lconst 0, 1) := by decide +kernel
theorem dX9_terms_46 : decode cX9_terms 46 = .ok (.ldc2_w 198, 3) := by decide +kernel
theorem dX9_terms_49 : decode cX9_terms 49 = .ok (.invokestatic 185, 3) := by decide +kernel
theorem dX9_terms_52 : decode cX9_terms 52 = .ok (.ifCond .eq 7, 3) := by decide +kernel
theorem dX9_terms_55 : decode cX9_terms 55 = .ok (.iconst 1, 1) := by decide +kernel
theorem dX9_terms_56 : decode cX9_terms 56 = .ok (.goto 4, 3) := by decide +kernel
theorem dX9_terms_59 : decode cX9_terms 59 = .ok (.iconst 0, 1) := by decide +kernel
theorem dX9_terms_60 : decode cX9_terms 60 = .ok (.istore_n 3, 1) := by decide +kernel
theorem dX9_terms_61 : decode cX9_terms 61 = .ok (.iload_n 3, 1) := by decide +kernel
theorem dX9_terms_62 : decode cX9_terms 62 = .ok (.ifCond .ne 9, 3) := by decide +kernel
theorem dX9_terms_65 : decode cX9_terms 65 = .ok (.aload_n 0, 1) := by decide +kernel
theorem dX9_terms_66 : decode cX9_terms 66 = .ok (.iconst (-1), 1) := by decide +kernel
theorem dX9_terms_67 : decode cX9_terms 67 = .ok (.invokevirtual 174, 3) := by decide +kernel
theorem dX9_terms_70 : decode cX9_terms 70 = .ok (.ireturn, 1) := by decide +kernel
theorem dX9_terms_71 : decode cX9_terms 71 = .ok (.aload_n 0, 1) := by decide +kernel
theorem dX9_terms_72 : decode cX9_terms 72 = .ok (.iconst 0, 1) := by decide +kernel
theorem dX9_terms_73 : decode cX9_terms 73 = .ok (.putfield 171, 3) := by decide +kernel
theorem dX9_terms_76 : decode cX9_terms 76 = .ok (.aload_n 0, 1) := by decide +kernel
theorem dX9_terms_77 : decode cX9_terms 77 = .ok (.iconst 4, 1) := by decide +kernel
theorem dX9_terms_78 : decode cX9_terms 78 = .ok (.iload_n 1, 1) := by decide +kernel
theorem dX9_terms_79 : decode cX9_terms 79 = .ok (.iadd, 1) := by decide +kernel
theorem dX9_terms_80 : decode cX9_terms 80 = .ok (.iload_n 2, 1) := by decide +kernel
theorem dX9_terms_81 : decode cX9_terms 81 = .ok (.invokevirtual 216, 3) := by decide +kernel
theorem dX9_terms_84 : decode cX9_terms 84 = .ok (.ireturn, 1) := by decide +kernel
theorem dX9_thatCanBe_0 : decode cX9_thatCanBe 0 = .ok (.iconst 0, 1) := by decide +kernel
theorem dX9_thatCanBe_1 : decode cX9_thatCanBe 1 = .ok (.istore_n 1, 1) := by decide +kernel
theorem dX9_thatCanBe_2 : decode cX9_thatCanBe 2 = .ok (.iconst 0, 1) := by decide +kernel
theorem dX9_thatCanBe_3 : decode cX9_thatCanBe 3 = .ok (.istore_n 2, 1) := by decide +kernel
theorem dX9_thatCanBe_4 : decode cX9_thatCanBe 4 = .ok (.iload_n 2, 1) := by decide +kernel
theorem dX9_thatCanBe_5 : decode cX9_thatCanBe 5 = .ok (.aload_n 0, 1) := by decide +kernel
theorem dX9_thatCanBe_6 : decode cX9_thatCanBe 6 = .ok (.getfield 13, 3) := by decide +kernel
theorem dX9_thatCanBe_9 : decode cX9_thatCanBe 9 = .ok (.iconst 0, 1) := by decide +kernel
theorem dX9_thatCanBe_10 : decode cX9_thatCanBe 10 = .ok (.iaload, 1) := by decide +kernel
theorem dX9_thatCanBe_11 : decode cX9_thatCanBe 11 = .ok (.if_icmp .ge 89, 3) := by decide +kernel
theorem dX9_thatCanBe_14 : decode cX9_thatCanBe 14 = .ok (.iconst 1, 1) := by decide +kernel
theorem dX9_thatCanBe_15 : decode cX9_thatCanBe 15 = .ok (.istore_n 3, 1) := by decide +kernel
theorem dX9_thatCanBe_16 : decode cX9_thatCanBe 16 = .ok (.iconst 0, 1) := by decide +kernel
theorem dX9_thatCanBe_17 : decode cX9_thatCanBe 17 = .ok (.istore 4, 2) := by decide +kernel
theorem dX9_thatCanBe_19 : decode cX9_thatCanBe 19 = .ok (.iload 4, 2) := by decide +kernel
theorem dX9_thatCanBe_21 : decode cX9_thatCanBe 21 = .ok (.aload_n 0, 1) := by decide +kernel
theorem dX9_thatCanBe_22 : decode cX9_thatCanBe 22 = .ok (.getfield 13, 3) := by decide +kernel
theorem dX9_thatCanBe_25 : decode cX9_thatCanBe 25 = .ok (.iconst 1, 1) := by decide +kernel
theorem dX9_thatCanBe_26 : decode cX9_thatCanBe 26 = .ok (.iaload, 1) := by decide +kernel
theorem dX9_thatCanBe_27 : decode cX9_thatCanBe 27 = .ok (.if_icmp .ge 53, 3) := by decide +kernel
theorem dX9_thatCanBe_30 : decode cX9_thatCanBe 30 = .ok (.iload_n 3, 1) := by decide +kernel
theorem dX9_thatCanBe_31 : decode cX9_thatCanBe 31 = .ok (.ifCond .eq 49, 3) := by decide +kernel
theorem dX9_thatCanBe_34 : decode cX9_thatCanBe 34 = .ok (.aload_n 0, 1) := by decide +kernel
theorem dX9_thatCanBe_35 : decode cX9_thatCanBe 35 = .ok (.iload_n 2, 1) := by decide +kernel
theorem dX9_thatCanBe_36 : decode cX9_thatCanBe 36 = .ok (.aload_n 0, 1) := by decide +kernel
theorem dX9_thatCanBe_37 : decode cX9_thatCanBe 37 = .ok (.getfield 13, 3) := by decide +kernel
theorem dX9_thatCanBe_40 : decode cX9_thatCanBe 40 = .ok (.bipush 71, 2) := by decide +kernel
theorem dX9_thatCanBe_42 : decode cX9_thatCanBe 42 = .ok (.iconst 2, 1) := by decide +kernel
theorem dX9_thatCanBe_43 : decode cX9_thatCanBe 43 = .ok (.iload 4, 2) := by decide +kernel
theorem dX9_thatCanBe_45 : decode cX9_thatCanBe 45 = .ok (.imul, 1) := by decide +kernel
theorem dX9_thatCanBe_46 : decode cX9_thatCanBe 46 = .ok (.iadd, 1) := by decide +kernel
theorem dX9_thatCanBe_47 : decode cX9_thatCanBe 47 = .ok (.iaload, 1) := by decide +kernel
theorem dX9_thatCanBe_48 : decode cX9_thatCanBe 48 = .ok (.invokevirtual 437, 3) := by decide +kernel
theorem dX9_thatCanBe_51 : decode cX9_thatCanBe 51 = .ok (.aload_n 0, 1) := by decide +kernel
theorem dX9_thatCanBe_52 : decode cX9_thatCanBe 52 = .ok (.getfield 13, 3) := by decide +kernel
theorem dX9_thatCanBe_55 : decode cX9_thatCanBe 55 = .ok (.bipush 71, 2) := by decide +kernel
theorem dX9_thatCanBe_57 : decode cX9_thatCanBe 57 = .ok (.iconst 2, 1) := by decide +kernel
theorem dX9_thatCanBe_58 : decode cX9_thatCanBe 58 = .ok (.iload 4, 2) := by decide +kernel
theorem dX9_thatCanBe_60 : decode cX9_thatCanBe 60 = .ok (.imul, 1) := by decide +kernel
theorem dX9_thatCanBe_61 : decode cX9_thatCanBe 61 = .ok (.iadd, 1) := by decide +kernel
theorem dX9_thatCanBe_62 : decode cX9_thatCanBe 62 = .ok (.iconst 1, 1) := by decide +kernel
theorem dX9_thatCanBe_63 : decode cX9_thatCanBe 63 = .ok (.iadd, 1) := by decide +kernel
theorem dX9_thatCanBe_64 : decode cX9_thatCanBe 64 = .ok (.iaload, 1) := by decide +kernel
theorem dX9_thatCanBe_65 : decode cX9_thatCanBe 65 = .ok (.if_icmp .ne 7, 3) := by decide +kernel
theorem dX9_thatCanBe_68 : decode cX9_thatCanBe 68 = .ok (.iconst 1, 1) := by decide +kernel
theorem dX9_thatCanBe_69 : decode cX9_thatCanBe 69 = .ok (.goto 4, 3) := by decide +kernel
theorem dX9_thatCanBe_72 : decode cX9_thatCanBe 72 = .ok (.iconst 0, 1) := by decide +kernel
theorem dX9_thatCanBe_73 : decode cX9_thatCanBe 73 = .ok (.istore_n 3, 1) := by decide +kernel
theorem dX9_thatCanBe_74 : decode cX9_thatCanBe 74 = .ok (.iinc 4 1, 3) := by decide +kernel
theorem dX9_thatCanBe_77 : decode cX9_thatCanBe 77 = .ok (.goto (-58), 3) := by decide +kernel
theorem dX9_thatCanBe_80 : decode cX9_thatCanBe 80 = .ok (.iload_n 1, 1) := by decide +kernel
theorem dX9_thatCanBe_81 : decode cX9_thatCanBe 81 = .ok (.iload_n 3, 1) := by decide +kernel
theorem dX9_thatCanBe_82 : decode cX9_thatCanBe 82 = .ok (.ifCond .eq 9, 3) := by decide +kernel
theorem dX9_thatCanBe_85 : decode cX9_thatCanBe 85 = .ok (.iconst 1, 1) := by decide +kernel
theorem dX9_thatCanBe_86 : decode cX9_thatCanBe 86 = .ok (.iload_n 2, 1) := by decide +kernel
theorem dX9_thatCanBe_87 : decode cX9_thatCanBe 87 = .ok (.ishl, 1) := by decide +kernel
theorem dX9_thatCanBe_88 : decode cX9_thatCanBe 88 = .ok (.goto 4, 3) := by decide +kernel
theorem dX9_thatCanBe_91 : decode cX9_thatCanBe 91 = .ok (.iconst 0, 1) := by decide +kernel
theorem dX9_thatCanBe_92 : decode cX9_thatCanBe 92 = .ok (.ior, 1) := by decide +kernel
theorem dX9_thatCanBe_93 : decode cX9_thatCanBe 93 = .ok (.istore_n 1, 1) := by decide +kernel
theorem dX9_thatCanBe_94 : decode cX9_thatCanBe 94 = .ok (.iinc 2 1, 3) := by decide +kernel
theorem dX9_thatCanBe_97 : decode cX9_thatCanBe 97 = .ok (.goto (-93), 3) := by decide +kernel
theorem dX9_thatCanBe_100 : decode cX9_thatCanBe 100 = .ok (.iload_n 1, 1) := by decide +kernel
theorem dX9_thatCanBe_101 : decode cX9_thatCanBe 101 = .ok (.ireturn, 1) := by decide +kernel
theorem dX9_undo_0 : decode cX9_undo 0 = .ok (.aload_n 0, 1) := by decide +kernel
theorem dX9_undo_1 : decode cX9_undo 1 = .ok (.iconst 0, 1) := by decide +kernel
theorem dX9_undo_2 : decode cX9_undo 2 = .ok (.putfield 165, 3) := by decide +kernel
theorem dX9_undo_5 : decode cX9_undo 5 = .ok (.aload_n 0, 1) := by decide +kernel
theorem dX9_undo_6 : decode cX9_undo 6 = .ok (.getfield 171, 3) := by decide +kernel
theorem dX9_undo_9 : decode cX9_undo 9 = .ok (.ifCond .ne 10, 3) := by decide +kernel
theorem dX9_undo_12 : decode cX9_undo 12 = .ok (.aload_n 0, 1) := by decide +kernel
theorem dX9_undo_13 : decode cX9_undo 13 = .ok (.bipush (-3), 2) := by decide +kernel
theorem dX9_undo_15 : decode cX9_undo 15 = .ok (.invokevirtual 174, 3) := by decide +kernel
theorem dX9_undo_18 : decode cX9_undo 18 = .ok (.ireturn, 1) := by decide +kernel
theorem dX9_undo_19 : decode cX9_undo 19 = .ok (.aload_n 0, 1) := by decide +kernel
theorem dX9_undo_20 : decode cX9_undo 20 = .ok (.dup, 1) := by decide +kernel
theorem dX9_undo_21 : decode cX9_undo 21 = .ok (.getfield 171, 3) := by decide +kernel
theorem dX9_undo_24 : decode cX9_undo 24 = .ok (.iconst 1, 1) := by decide +kernel
theorem dX9_undo_25 : decode cX9_undo 25 = .ok (.isub, 1) := by decide +kernel
theorem dX9_undo_26 : decode cX9_undo 26 = .ok (.putfield 171, 3) := by decide +kernel
theorem dX9_undo_29 : decode cX9_undo 29 = .ok (.aload_n 0, 1) := by decide +kernel
theorem dX9_undo_30 : decode cX9_undo 30 = .ok (.aload_n 0, 1) := by decide +kernel
theorem dX9_undo_31 : decode cX9_undo 31 = .ok (.getfield 171, 3) := by decide +kernel
theorem dX9_undo_34 : decode cX9_undo 34 = .ok (.invokevirtual 182, 3) := by decide +kernel
theorem dX9_undo_37 : decode cX9_undo 37 = .ok (.aload_n 0, 1) := by decide +kernel
theorem dX9_undo_38 : decode cX9_undo 38 = .ok (.aload_n 0, 1) := by decide +kernel
theorem dX9_undo_39 : decode cX9_undo 39 = .ok (.getfield 26, 3) := by decide +kernel
theorem dX9_undo_42 : decode cX9_undo 42 = .ok (.aload_n 0, 1) := by decide +kernel
theorem dX9_undo_43 : decode cX9_undo 43 = .ok (.getfield 171, 3) := by decide +kernel
theorem dX9_undo_46 : decode cX9_undo 46 = .ok (.iaload, 1) := by decide +kernel
theorem dX9_undo_47 : decode cX9_undo 47 = .ok (.invokevirtual 174, 3) := by decide +kernel
theorem dX9_undo_50 : decode cX9_undo 50 = .ok (.ireturn, 1) := by decide +kernel
