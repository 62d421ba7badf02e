/-! the law, decoded: 0 and on -/
theorem dl_0 : decode code 0 = .ok (.new 8, 3) := by decide +kernel
theorem dl_3 : decode code 3 = .ok (.dup, 1) := by decide +kernel
theorem dl_4 : decode code 4 = .ok (.invokespecial 17, 3) := by decide +kernel
theorem dl_7 : decode code 7 = .ok (.astore_n 1, 1) := by decide +kernel
theorem dl_8 : decode code 8 = .ok (.new 18, 3) := by decide +kernel
theorem dl_11 : decode code 11 = .ok (.dup, 1) := by decide +kernel
theorem dl_12 : decode code 12 = .ok (.invokespecial 20, 3) := by decide +kernel
theorem dl_15 : decode code 15 = .ok (.astore_n 2, 1) := by decide +kernel
theorem dl_16 : decode code 16 = .ok (.iconst 1, 1) := by decide +kernel
theorem dl_17 : decode code 17 = .ok (.newarray .long, 2) := by decide +kernel
theorem dl_19 : decode code 19 = .ok (.astore_n 3, 1) := by decide +kernel
theorem dl_20 : decode code 20 = .ok (.iconst 0, 1) := by decide +kernel
theorem dl_21 : decode code 21 = .ok (.istore 4, 2) := by decide +kernel
theorem dl_23 : decode code 23 = .ok (.iload 4, 2) := by decide +kernel
theorem dl_25 : decode code 25 = .ok (.aload_n 0, 1) := by decide +kernel
theorem dl_26 : decode code 26 = .ok (.arraylength, 1) := by decide +kernel
theorem dl_27 : decode code 27 = .ok (.bipush 6, 2) := by decide +kernel
theorem dl_29 : decode code 29 = .ok (.isub, 1) := by decide +kernel
theorem dl_30 : decode code 30 = .ok (.if_icmp .gt 1781, 3) := by decide +kernel
theorem dl_33 : decode code 33 = .ok (.aload_n 0, 1) := by decide +kernel
theorem dl_34 : decode code 34 = .ok (.iload 4, 2) := by decide +kernel
theorem dl_36 : decode code 36 = .ok (.iaload, 1) := by decide +kernel
theorem dl_37 : decode code 37 = .ok (.bipush 63, 2) := by decide +kernel
theorem dl_39 : decode code 39 = .ok (.iand, 1) := by decide +kernel
theorem dl_40 : decode code 40 = .ok (.tableswitch 1765 0 47 #[208, 281, 306, 331, 368, 436, 473, 510, 547, 584, 597, 647, 712, 749, 774, 799, 848, 861, 874, 899, 924, 973, 986, 999, 1024, 1049, 1062, 1087, 1137, 1150, 1187, 1248, 1285, 1310, 1335, 1360, 1373, 1438, 1515, 1540, 1565, 1578, 1603, 1652, 1701, 1714, 1727, 1740], 208) := by decide +kernel
theorem dl_248 : decode code 248 = .ok (.aload_n 1, 1) := by decide +kernel
theorem dl_249 : decode code 249 = .ok (.aload_n 0, 1) := by decide +kernel
theorem dl_250 : decode code 250 = .ok (.iload 4, 2) := by decide +kernel
theorem dl_252 : decode code 252 = .ok (.iconst 1, 1) := by decide +kernel
theorem dl_253 : decode code 253 = .ok (.iadd, 1) := by decide +kernel
theorem dl_254 : decode code 254 = .ok (.iaload, 1) := by decide +kernel
theorem dl_255 : decode code 255 = .ok (.aload_n 0, 1) := by decide +kernel
theorem dl_256 : decode code 256 = .ok (.iload 4, 2) := by decide +kernel
theorem dl_258 : decode code 258 = .ok (.iconst 2, 1) := by decide +kernel
theorem dl_259 : decode code 259 = .ok (.iadd, 1) := by decide +kernel
theorem dl_260 : decode code 260 = .ok (.iaload, 1) := by decide +kernel
theorem dl_261 : decode code 261 = .ok (.aload_n 0, 1) := by decide +kernel
theorem dl_262 : decode code 262 = .ok (.iload 4, 2) := by decide +kernel
theorem dl_264 : decode code 264 = .ok (.iconst 3, 1) := by decide +kernel
theorem dl_265 : decode code 265 = .ok (.iadd, 1) := by decide +kernel
theorem dl_266 : decode code 266 = .ok (.iaload, 1) := by decide +kernel
theorem dl_267 : decode code 267 = .ok (.aload_n 0, 1) := by decide +kernel
theorem dl_268 : decode code 268 = .ok (.iload 4, 2) := by decide +kernel
theorem dl_270 : decode code 270 = .ok (.iconst 4, 1) := by decide +kernel
theorem dl_271 : decode code 271 = .ok (.iadd, 1) := by decide +kernel
theorem dl_272 : decode code 272 = .ok (.iaload, 1) := by decide +kernel
theorem dl_273 : decode code 273 = .ok (.aload_n 0, 1) := by decide +kernel
theorem dl_274 : decode code 274 = .ok (.iload 4, 2) := by decide +kernel
theorem dl_276 : decode code 276 = .ok (.iconst 5, 1) := by decide +kernel
theorem dl_277 : decode code 277 = .ok (.iadd, 1) := by decide +kernel
theorem dl_278 : decode code 278 = .ok (.iaload, 1) := by decide +kernel
theorem dl_279 : decode code 279 = .ok (.invokevirtual 21, 3) := by decide +kernel
theorem dl_282 : decode code 282 = .ok (.aload_n 2, 1) := by decide +kernel
theorem dl_283 : decode code 283 = .ok (.aload_n 0, 1) := by decide +kernel
theorem dl_284 : decode code 284 = .ok (.iload 4, 2) := by decide +kernel
theorem dl_286 : decode code 286 = .ok (.iconst 1, 1) := by decide +kernel
theorem dl_287 : decode code 287 = .ok (.iadd, 1) := by decide +kernel
theorem dl_288 : decode code 288 = .ok (.iaload, 1) := by decide +kernel
theorem dl_289 : decode code 289 = .ok (.aload_n 0, 1) := by decide +kernel
theorem dl_290 : decode code 290 = .ok (.iload 4, 2) := by decide +kernel
theorem dl_292 : decode code 292 = .ok (.iconst 2, 1) := by decide +kernel
theorem dl_293 : decode code 293 = .ok (.iadd, 1) := by decide +kernel
theorem dl_294 : decode code 294 = .ok (.iaload, 1) := by decide +kernel
theorem dl_295 : decode code 295 = .ok (.aload_n 0, 1) := by decide +kernel
theorem dl_296 : decode code 296 = .ok (.iload 4, 2) := by decide +kernel
theorem dl_298 : decode code 298 = .ok (.iconst 3, 1) := by decide +kernel
theorem dl_299 : decode code 299 = .ok (.iadd, 1) := by decide +kernel
theorem dl_300 : decode code 300 = .ok (.iaload, 1) := by decide +kernel
theorem dl_301 : decode code 301 = .ok (.aload_n 0, 1) := by decide +kernel
theorem dl_302 : decode code 302 = .ok (.iload 4, 2) := by decide +kernel
theorem dl_304 : decode code 304 = .ok (.iconst 4, 1) := by decide +kernel
theorem dl_305 : decode code 305 = .ok (.iadd, 1) := by decide +kernel
theorem dl_306 : decode code 306 = .ok (.iaload, 1) := by decide +kernel
theorem dl_307 : decode code 307 = .ok (.aload_n 0, 1) := by decide +kernel
theorem dl_308 : decode code 308 = .ok (.iload 4, 2) := by decide +kernel
theorem dl_310 : decode code 310 = .ok (.iconst 5, 1) := by decide +kernel
theorem dl_311 : decode code 311 = .ok (.iadd, 1) := by decide +kernel
theorem dl_312 : decode code 312 = .ok (.iaload, 1) := by decide +kernel
theorem dl_313 : decode code 313 = .ok (.invokevirtual 25, 3) := by decide +kernel
theorem dl_316 : decode code 316 = .ok (.if_icmp .eq 1489, 3) := by decide +kernel
theorem dl_319 : decode code 319 = .ok (.iconst 0, 1) := by decide +kernel
theorem dl_320 : decode code 320 = .ok (.ireturn, 1) := by decide +kernel
theorem dl_321 : decode code 321 = .ok (.aload_n 1, 1) := by decide +kernel
theorem dl_322 : decode code 322 = .ok (.aload_n 0, 1) := by decide +kernel
theorem dl_323 : decode code 323 = .ok (.iload 4, 2) := by decide +kernel
theorem dl_325 : decode code 325 = .ok (.iconst 1, 1) := by decide +kernel
theorem dl_326 : decode code 326 = .ok (.iadd, 1) := by decide +kernel
theorem dl_327 : decode code 327 = .ok (.iaload, 1) := by decide +kernel
theorem dl_328 : decode code 328 = .ok (.invokevirtual 26, 3) := by decide +kernel
theorem dl_331 : decode code 331 = .ok (.aload_n 2, 1) := by decide +kernel
theorem dl_332 : decode code 332 = .ok (.aload_n 0, 1) := by decide +kernel
theorem dl_333 : decode code 333 = .ok (.iload 4, 2) := by decide +kernel
theorem dl_335 : decode code 335 = .ok (.iconst 1, 1) := by decide +kernel
theorem dl_336 : decode code 336 = .ok (.iadd, 1) := by decide +kernel
theorem dl_337 : decode code 337 = .ok (.iaload, 1) := by decide +kernel
theorem dl_338 : decode code 338 = .ok (.invokevirtual 30, 3) := by decide +kernel
theorem dl_341 : decode code 341 = .ok (.if_icmp .eq 1464, 3) := by decide +kernel
theorem dl_344 : decode code 344 = .ok (.iconst 0, 1) := by decide +kernel
theorem dl_345 : decode code 345 = .ok (.ireturn, 1) := by decide +kernel
theorem dl_346 : decode code 346 = .ok (.aload_n 1, 1) := by decide +kernel
