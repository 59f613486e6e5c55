section
theorem zfLaw_law_0 : decode cLaw_law 0 = .ok (.new 8, 3) ∧ decode cLaw_law 3 = .ok (.dup, 1) ∧ decode cLaw_law 4 = .ok (.invokespecial 168, 3) ∧ decode cLaw_law 7 = .ok (.astore_n 1, 1) ∧ decode cLaw_law 8 = .ok (.new 169, 3) ∧ decode cLaw_law 11 = .ok (.dup, 1) ∧ decode cLaw_law 12 = .ok (.invokespecial 171, 3) ∧ decode cLaw_law 15 = .ok (.astore_n 2, 1) ∧ decode cLaw_law 16 = .ok (.new 14, 3) ∧ decode cLaw_law 19 = .ok (.dup, 1) ∧ decode cLaw_law 20 = .ok (.invokespecial 172, 3) ∧ decode cLaw_law 23 = .ok (.astore_n 3, 1) ∧ decode cLaw_law 24 = .ok (.iconst 0, 1) ∧ decode cLaw_law 25 = .ok (.istore 4, 2) ∧ decode cLaw_law 27 = .ok (.iload 4, 2) ∧ decode cLaw_law 29 = .ok (.aload_n 0, 1) ∧ decode cLaw_law 30 = .ok (.arraylength, 1) ∧ decode cLaw_law 31 = .ok (.iconst 4, 1) ∧ decode cLaw_law 32 = .ok (.isub, 1) ∧ decode cLaw_law 33 = .ok (.if_icmp .gt 3427, 3) ∧ decode cLaw_law 36 = .ok (.aload_n 0, 1) ∧ decode cLaw_law 37 = .ok (.iload 4, 2) ∧ decode cLaw_law 39 = .ok (.iaload, 1) ∧ decode cLaw_law 40 = .ok (.bipush 63, 2) ∧ decode cLaw_law 42 = .ok (.iand, 1) ∧ decode cLaw_law 43 = .ok (.tableswitch 3411 0 49 #[213, 294, 363, 432, 501, 582, 663, 732, 836, 905, 1002, 1078, 1135, 1221, 1278, 1347, 1428, 1497, 1566, 1635, 1716, 1797, 1854, 1935, 2011, 2075, 2156, 2220, 2277, 2334, 2403, 2460, 2529, 2598, 2667, 2736, 2805, 2862, 2919, 2976, 3045, 3102, 3159, 3172, 3229, 3245, 3314, 3371, 3384, 3397], 213) ∧ decode cLaw_law 256 = .ok (.aload_n 1, 1) ∧ decode cLaw_law 257 = .ok (.aload_n 0, 1) ∧ decode cLaw_law 258 = .ok (.iload 4, 2) ∧ decode cLaw_law 260 = .ok (.iconst 1, 1) ∧ decode cLaw_law 261 = .ok (.iadd, 1) ∧ decode cLaw_law 262 = .ok (.iaload, 1) ∧ True := Jvm.Free.DS.facts (code := cLaw_law) 0 [(.new 8, 3), (.dup, 1), (.invokespecial 168, 3), (.astore_n 1, 1), (.new 169, 3), (.dup, 1), (.invokespecial 171, 3), (.astore_n 2, 1), (.new 14, 3), (.dup, 1), (.invokespecial 172, 3), (.astore_n 3, 1), (.iconst 0, 1), (.istore 4, 2), (.iload 4, 2), (.aload_n 0, 1), (.arraylength, 1), (.iconst 4, 1), (.isub, 1), (.if_icmp .gt 3427, 3), (.aload_n 0, 1), (.iload 4, 2), (.iaload, 1), (.bipush 63, 2), (.iand, 1), (.tableswitch 3411 0 49 #[213, 294, 363, 432, 501, 582, 663, 732, 836, 905, 1002, 1078, 1135, 1221, 1278, 1347, 1428, 1497, 1566, 1635, 1716, 1797, 1854, 1935, 2011, 2075, 2156, 2220, 2277, 2334, 2403, 2460, 2529, 2598, 2667, 2736, 2805, 2862, 2919, 2976, 3045, 3102, 3159, 3172, 3229, 3245, 3314, 3371, 3384, 3397], 213), (.aload_n 1, 1), (.aload_n 0, 1), (.iload 4, 2), (.iconst 1, 1), (.iadd, 1), (.iaload, 1)] (by decide +kernel) (by decide +kernel)
theorem dLaw_law_0 : decode cLaw_law 0 = .ok (.new 8, 3) := zfLaw_law_0.1
theorem dLaw_law_3 : decode cLaw_law 3 = .ok (.dup, 1) := zfLaw_law_0.2.1
theorem dLaw_law_4 : decode cLaw_law 4 = .ok (.invokespecial 168, 3) := zfLaw_law_0.2.2.1
theorem dLaw_law_7 : decode cLaw_law 7 = .ok (.astore_n 1, 1) := zfLaw_law_0.2.2.2.1
theorem dLaw_law_8 : decode cLaw_law 8 = .ok (.new 169, 3) := zfLaw_law_0.2.2.2.2.1
theorem dLaw_law_11 : decode cLaw_law 11 = .ok (.dup, 1) := zfLaw_law_0.2.2.2.2.2.1
theorem dLaw_law_12 : decode cLaw_law 12 = .ok (.invokespecial 171, 3) := zfLaw_law_0.2.2.2.2.2.2.1
theorem dLaw_law_15 : decode cLaw_law 15 = .ok (.astore_n 2, 1) := zfLaw_law_0.2.2.2.2.2.2.2.1
theorem dLaw_law_16 : decode cLaw_law 16 = .ok (.new 14, 3) := zfLaw_law_0.2.2.2.2.2.2.2.2.1
theorem dLaw_law_19 : decode cLaw_law 19 = .ok (.dup, 1) := zfLaw_law_0.2.2.2.2.2.2.2.2.2.1
theorem dLaw_law_20 : decode cLaw_law 20 = .ok (.invokespecial 172, 3) := zfLaw_law_0.2.2.2.2.2.2.2.2.2.2.1
theorem dLaw_law_23 : decode cLaw_law 23 = .ok (.astore_n 3, 1) := zfLaw_law_0.2.2.2.2.2.2.2.2.2.2.2.1
theorem dLaw_law_24 : decode cLaw_law 24 = .ok (.iconst 0, 1) := zfLaw_law_0.2.2.2.2.2.2.2.2.2.2.2.2.1
theorem dLaw_law_25 : decode cLaw_law 25 = .ok (.istore 4, 2) := zfLaw_law_0.2.2.2.2.2.2.2.2.2.2.2.2.2.1
theorem dLaw_law_27 : decode cLaw_law 27 = .ok (.iload 4, 2) := zfLaw_law_0.2.2.2.2.2.2.2.2.2.2.2.2.2.2.1
theorem dLaw_law_29 : decode cLaw_law 29 = .ok (.aload_n 0, 1) := zfLaw_law_0.2.2.2.2.2.2.2.2.2.2.2.2.2.2.2.1
theorem dLaw_law_30 : decode cLaw_law 30 = .ok (.arraylength, 1) := zfLaw_law_0.2.2.2.2.2.2.2.2.2.2.2.2.2.2.2.2.1
theorem dLaw_law_31 : decode cLaw_law 31 = .ok (.iconst 4, 1) := zfLaw_law_0.2.2.2.2.2.2.2.2.2.2.2.2.2.2.2.2.2.1
theorem dLaw_law_32 : decode cLaw_law 32 = .ok (.isub, 1) := zfLaw_law_0.2.2.2.2.2.2.2.2.2.2.2.2.2.2.2.2.2.2.1
theorem dLaw_law_33 : decode cLaw_law 33 = .ok (.if_icmp .gt 3427, 3) := zfLaw_law_0.2.2.2.2.2.2.2.2.2.2.2.2.2.2.2.2.2.2.2.1
theorem dLaw_law_36 : decode cLaw_law 36 = .ok (.aload_n 0, 1) := zfLaw_law_0.2.2.2.2.2.2.2.2.2.2.2.2.2.2.2.2.2.2.2.2.1
theorem dLaw_law_37 : decode cLaw_law 37 = .ok (.iload 4, 2) := zfLaw_law_0.2.2.2.2.2.2.2.2.2.2.2.2.2.2.2.2.2.2.2.2.2.1
theorem dLaw_law_39 : decode cLaw_law 39 = .ok (.iaload, 1) := zfLaw_law_0.2.2.2.2.2.2.2.2.2.2.2.2.2.2.2.2.2.2.2.2.2.2.1
theorem dLaw_law_40 : decode cLaw_law 40 = .ok (.bipush 63, 2) := zfLaw_law_0.2.2.2.2.2.2.2.2.2.2.2.2.2.2.2.2.2.2.2.2.2.2.2.1
theorem dLaw_law_42 : decode cLaw_law 42 = .ok (.iand, 1) := zfLaw_law_0.2.2.2.2.2.2.2.2.2.2.2.2.2.2.2.2.2.2.2.2.2.2.2.2.1
theorem dLaw_law_43 : decode cLaw_law 43 = .ok (.tableswitch 3411 0 49 #[213, 294, 363, 432, 501, 582, 663, 732, 836, 905, 1002, 1078, 1135, 1221, 1278, 1347, 1428, 1497, 1566, 1635, 1716, 1797, 1854, 1935, 2011, 2075, 2156, 2220, 2277, 2334, 2403, 2460, 2529, 2598, 2667, 2736, 2805, 2862, 2919, 2976, 3045, 3102, 3159, 3172, 3229, 3245, 3314, 3371, 3384, 3397], 213) := zfLaw_law_0.2.2.2.2.2.2.2.2.2.2.2.2.2.2.2.2.2.2.2.2.2.2.2.2.2.1
theorem dLaw_law_256 : decode cLaw_law 256 = .ok (.aload_n 1, 1) := zfLaw_law_0.2.2.2.2.2.2.2.2.2.2.2.2.2.2.2.2.2.2.2.2.2.2.2.2.2.2.1
theorem dLaw_law_257 : decode cLaw_law 257 = .ok (.aload_n 0, 1) := zfLaw_law_0.2.2.2.2.2.2.2.2.2.2.2.2.2.2.2.2.2.2.2.2.2.2.2.2.2.2.2.1
theorem dLaw_law_258 : decode cLaw_law 258 = .ok (.iload 4, 2) := zfLaw_law_0.2.2.2.2.2.2.2.2.2.2.2.2.2.2.2.2.2.2.2.2.2.2.2.2.2.2.2.2.1
theorem dLaw_law_260 : decode cLaw_law 260 = .ok (.iconst 1, 1) := zfLaw_law_0.2.2.2.2.2.2.2.2.2.2.2.2.2.2.2.2.2.2.2.2.2.2.2.2.2.2.2.2.2.1
theorem dLaw_law_261 : decode cLaw_law 261 = .ok (.iadd, 1) := zfLaw_law_0.2.2.2.2.2.2.2.2.2.2.2.2.2.2.2.2.2.2.2.2.2.2.2.2.2.2.2.2.2.2.1
theorem dLaw_law_262 : decode cLaw_law 262 = .ok (.iaload, 1) := zfLaw_law_0.2.2.2.2.2.2.2.2.2.2.2.2.2.2.2.2.2.2.2.2.2.2.2.2.2.2.2.2.2.2.2.1
theorem zfLaw_law_263 : decode cLaw_law 263 = .ok (.aload_n 0, 1) ∧ decode cLaw_law 264 = .ok (.iload 4, 2) ∧ decode cLaw_law 266 = .ok (.iconst 2, 1) ∧ decode cLaw_law 267 = .ok (.iadd, 1) ∧ decode cLaw_law 268 = .ok (.iaload, 1) ∧ decode cLaw_law 269 = .ok (.aload_n 0, 1) ∧ decode cLaw_law 270 = .ok (.iload 4, 2) ∧ decode cLaw_law 272 = .ok (.iconst 3, 1) ∧ decode cLaw_law 273 = .ok (.iadd, 1) ∧ decode cLaw_law 274 = .ok (.iaload, 1) ∧ decode cLaw_law 275 = .ok (.aload_n 3, 1) ∧ decode cLaw_law 276 = .ok (.invokestatic 173, 3) ∧ decode cLaw_law 279 = .ok (.istore 5, 2) ∧ decode cLaw_law 281 = .ok (.aload_n 2, 1) ∧ decode cLaw_law 282 = .ok (.aload_n 0, 1) ∧ decode cLaw_law 283 = .ok (.iload 4, 2) ∧ decode cLaw_law 285 = .ok (.iconst 1, 1) ∧ decode cLaw_law 286 = .ok (.iadd, 1) ∧ decode cLaw_law 287 = .ok (.iaload, 1) ∧ decode cLaw_law 288 = .ok (.aload_n 0, 1) ∧ decode cLaw_law 289 = .ok (.iload 4, 2) ∧ decode cLaw_law 291 = .ok (.iconst 2, 1) ∧ decode cLaw_law 292 = .ok (.iadd, 1) ∧ decode cLaw_law 293 = .ok (.iaload, 1) ∧ decode cLaw_law 294 = .ok (.aload_n 0, 1) ∧ decode cLaw_law 295 = .ok (.iload 4, 2) ∧ decode cLaw_law 297 = .ok (.iconst 3, 1) ∧ decode cLaw_law 298 = .ok (.iadd, 1) ∧ decode cLaw_law 299 = .ok (.iaload, 1) ∧ decode cLaw_law 300 = .ok (.invokevirtual 178, 3) ∧ decode cLaw_law 303 = .ok (.istore 6, 2) ∧ decode cLaw_law 305 = .ok (.aload_n 2, 1) ∧ True := Jvm.Free.DS.facts (code := cLaw_law) 263 [(.aload_n 0, 1), (.iload 4, 2), (.iconst 2, 1), (.iadd, 1), (.iaload, 1), (.aload_n 0, 1), (.iload 4, 2), (.iconst 3, 1), (.iadd, 1), (.iaload, 1), (.aload_n 3, 1), (.invokestatic 173, 3), (.istore 5, 2), (.aload_n 2, 1), (.aload_n 0, 1), (.iload 4, 2), (.iconst 1, 1), (.iadd, 1), (.iaload, 1), (.aload_n 0, 1), (.iload 4, 2), (.iconst 2, 1), (.iadd, 1), (.iaload, 1), (.aload_n 0, 1), (.iload 4, 2), (.iconst 3, 1), (.iadd, 1), (.iaload, 1), (.invokevirtual 178, 3), (.istore 6, 2), (.aload_n 2, 1)] (by decide +kernel) (by decide +kernel)
theorem dLaw_law_263 : decode cLaw_law 263 = .ok (.aload_n 0, 1) := zfLaw_law_263.1
theorem dLaw_law_264 : decode cLaw_law 264 = .ok (.iload 4, 2) := zfLaw_law_263.2.1
theorem dLaw_law_266 : decode cLaw_law 266 = .ok (.iconst 2, 1) := zfLaw_law_263.2.2.1
theorem dLaw_law_267 : decode cLaw_law 267 = .ok (.iadd, 1) := zfLaw_law_263.2.2.2.1
theorem dLaw_law_268 : decode cLaw_law 268 = .ok (.iaload, 1) := zfLaw_law_263.2.2.2.2.1
theorem dLaw_law_269 : decode cLaw_law 269 = .ok (.aload_n 0, 1) := zfLaw_law_263.2.2.2.2.2.1
theorem dLaw_law_270 : decode cLaw_law 270 = .ok (.iload 4, 2) := zfLaw_law_263.2.2.2.2.2.2.1
theorem dLaw_law_272 : decode cLaw_law 272 = .ok (.iconst 3, 1) := zfLaw_law_263.2.2.2.2.2.2.2.1
theorem dLaw_law_273 : decode cLaw_law 273 = .ok (.iadd, 1) := zfLaw_law_263.2.2.2.2.2.2.2.2.1
theorem dLaw_law_274 : decode cLaw_law 274 = .ok (.iaload, 1) := zfLaw_law_263.2.2.2.2.2.2.2.2.2.1
theorem dLaw_law_275 : decode cLaw_law 275 = .ok (.aload_n 3, 1) := zfLaw_law_263.2.2.2.2.2.2.2.2.2.2.1
theorem dLaw_law_276 : decode cLaw_law 276 = .ok (.invokestatic 173, 3) := zfLaw_law_263.2.2.2.2.2.2.2.2.2.2.2.1
theorem dLaw_law_279 : decode cLaw_law 279 = .ok (.istore 5, 2) := zfLaw_law_263.2.2.2.2.2.2.2.2.2.2.2.2.1
theorem dLaw_law_281 : decode cLaw_law 281 = .ok (.aload_n 2, 1) := zfLaw_law_263.2.2.2.2.2.2.2.2.2.2.2.2.2.1
theorem dLaw_law_282 : decode cLaw_law 282 = .ok (.aload_n 0, 1) := zfLaw_law_263.2.2.2.2.2.2.2.2.2.2.2.2.2.2.1
theorem dLaw_law_283 : decode cLaw_law 283 = .ok (.iload 4, 2) := zfLaw_law_263.2.2.2.2.2.2.2.2.2.2.2.2.2.2.2.1
theorem dLaw_law_285 : decode cLaw_law 285 = .ok (.iconst 1, 1) := zfLaw_law_263.2.2.2.2.2.2.2.2.2.2.2.2.2.2.2.2.1
theorem dLaw_law_286 : decode cLaw_law 286 = .ok (.iadd, 1) := zfLaw_law_263.2.2.2.2.2.2.2.2.2.2.2.2.2.2.2.2.2.1
theorem dLaw_law_287 : decode cLaw_law 287 = .ok (.iaload, 1) := zfLaw_law_263.2.2.2.2.2.2.2.2.2.2.2.2.2.2.2.2.2.2.1
theorem dLaw_law_288 : decode cLaw_law 288 = .ok (.aload_n 0, 1) := zfLaw_law_263.2.2.2.2.2.2.2.2.2.2.2.2.2.2.2.2.2.2.2.1
theorem dLaw_law_289 : decode cLaw_law 289 = .ok (.iload 4, 2) := zfLaw_law_263.2.2.2.2.2.2.2.2.2.2.2.2.2.2.2.2.2.2.2.2.1
theorem dLaw_law_291 : decode cLaw_law 291 = .ok (.iconst 2, 1) := zfLaw_law_263.2.2.2.2.2.2.2.2.2.2.2.2.2.2.2.2.2.2.2.2.2.1
theorem dLaw_law_292 : decode cLaw_law 292 = .ok (.iadd, 1) := zfLaw_law_263.2.2.2.2.2.2.2.2.2.2.2.2.2.2.2.2.2.2.2.2.2.2.1
theorem dLaw_law_293 : decode cLaw_law 293 = .ok (.iaload, 1) := zfLaw_law_263.2.2.2.2.2.2.2.2.2.2.2.2.2.2.2.2.2.2.2.2.2.2.2.1
theorem dLaw_law_294 : decode cLaw_law 294 = .ok (.aload_n 0, 1) := zfLaw_law_263.2.2.2.2.2.2.2.2.2.2.2.2.2.2.2.2.2.2.2.2.2.2.2.2.1
theorem dLaw_law_295 : decode cLaw_law 295 = .ok (.iload 4, 2) := zfLaw_law_263.2.2.2.2.2.2.2.2.2.2.2.2.2.2.2.2.2.2.2.2.2.2.2.2.2.1
theorem dLaw_law_297 : decode cLaw_law 297 = .ok (.iconst 3, 1) := zfLaw_law_263.2.2.2.2.2.2.2.2.2.2.2.2.2.2.2.2.2.2.2.2.2.2.2.2.2.2.1
theorem dLaw_law_298 : decode cLaw_law 298 = .ok (.iadd, 1) := zfLaw_law_263.2.2.2.2.2.2.2.2.2.2.2.2.2.2.2.2.2.2.2.2.2.2.2.2.2.2.2.1
theorem dLaw_law_299 : decode cLaw_law 299 = .ok (.iaload, 1) := zfLaw_law_263.2.2.2.2.2.2.2.2.2.2.2.2.2.2.2.2.2.2.2.2.2.2.2.2.2.2.2.2.1
theorem dLaw_law_300 : decode cLaw_law 300 = .ok (.invokevirtual 178, 3) := zfLaw_law_263.2.2.2.2.2.2.2.2.2.2.2.2.2.2.2.2.2.2.2.2.2.2.2.2.2.2.2.2.2.1
theorem dLaw_law_303 : decode cLaw_law 303 = .ok (.istore 6, 2) := zfLaw_law_263.2.2.2.2.2.2.2.2.2.2.2.2.2.2.2.2.2.2.2.2.2.2.2.2.2.2.2.2.2.2.1
theorem dLaw_law_305 : decode cLaw_law 305 = .ok (.aload_n 2, 1) := zfLaw_law_263.2.2.2.2.2.2.2.2.2.2.2.2.2.2.2.2.2.2.2.2.2.2.2.2.2.2.2.2.2.2.2.1
theorem zfLaw_law_306 : decode cLaw_law 306 = .ok (.invokevirtual 179, 3) ∧ decode cLaw_law 309 = .ok (.iload 5, 2) ∧ decode cLaw_law 311 = .ok (.if_icmp .eq 5, 3) ∧ decode cLaw_law 314 = .ok (.iconst 0, 1) ∧ decode cLaw_law 315 = .ok (.ireturn, 1) ∧ decode cLaw_law 316 = .ok (.iload 5, 2) ∧ decode cLaw_law 318 = .ok (.ifCond .ne 16, 3) ∧ decode cLaw_law 321 = .ok (.aload_n 3, 1) ∧ decode cLaw_law 322 = .ok (.getfield 13, 3) ∧ decode cLaw_law 325 = .ok (.iload 6, 2) ∧ decode cLaw_law 327 = .ok (.i2l, 1) ∧ decode cLaw_law 328 = .ok (.lcmp, 1) ∧ decode cLaw_law 329 = .ok (.ifCond .eq 5, 3) ∧ decode cLaw_law 332 = .ok (.iconst 0, 1) ∧ decode cLaw_law 333 = .ok (.ireturn, 1) ∧ decode cLaw_law 334 = .ok (.goto 3120, 3) ∧ decode cLaw_law 337 = .ok (.aload_n 1, 1) ∧ decode cLaw_law 338 = .ok (.aload_n 0, 1) ∧ decode cLaw_law 339 = .ok (.iload 4, 2) ∧ decode cLaw_law 341 = .ok (.iconst 1, 1) ∧ decode cLaw_law 342 = .ok (.iadd, 1) ∧ decode cLaw_law 343 = .ok (.iaload, 1) ∧ decode cLaw_law 344 = .ok (.aload_n 0, 1) ∧ decode cLaw_law 345 = .ok (.iload 4, 2) ∧ decode cLaw_law 347 = .ok (.iconst 2, 1) ∧ decode cLaw_law 348 = .ok (.iadd, 1) ∧ decode cLaw_law 349 = .ok (.iaload, 1) ∧ decode cLaw_law 350 = .ok (.aload_n 3, 1) ∧ decode cLaw_law 351 = .ok (.invokestatic 183, 3) ∧ decode cLaw_law 354 = .ok (.istore 5, 2) ∧ decode cLaw_law 356 = .ok (.aload_n 2, 1) ∧ decode cLaw_law 357 = .ok (.aload_n 0, 1) ∧ True := Jvm.Free.DS.facts (code := cLaw_law) 306 [(.invokevirtual 179, 3), (.iload 5, 2), (.if_icmp .eq 5, 3), (.iconst 0, 1), (.ireturn, 1), (.iload 5, 2), (.ifCond .ne 16, 3), (.aload_n 3, 1), (.getfield 13, 3), (.iload 6, 2), (.i2l, 1), (.lcmp, 1), (.ifCond .eq 5, 3), (.iconst 0, 1), (.ireturn, 1), (.goto 3120, 3), (.aload_n 1, 1), (.aload_n 0, 1), (.iload 4, 2), (.iconst 1, 1), (.iadd, 1), (.iaload, 1), (.aload_n 0, 1), (.iload 4, 2), (.iconst 2, 1), (.iadd, 1), (.iaload, 1), (.aload_n 3, 1), (.invokestatic 183, 3), (.istore 5, 2), (.aload_n 2, 1), (.aload_n 0, 1)] (by decide +kernel) (by decide +kernel)
theorem dLaw_law_306 : decode cLaw_law 306 = .ok (.invokevirtual 179, 3) := zfLaw_law_306.1
theorem dLaw_law_309 : decode cLaw_law 309 = .ok (.iload 5, 2) := zfLaw_law_306.2.1
theorem dLaw_law_311 : decode cLaw_law 311 = .ok (.if_icmp .eq 5, 3) := zfLaw_law_306.2.2.1
theorem dLaw_law_314 : decode cLaw_law 314 = .ok (.iconst 0, 1) := zfLaw_law_306.2.2.2.1
theorem dLaw_law_315 : decode cLaw_law 315 = .ok (.ireturn, 1) := zfLaw_law_306.2.2.2.2.1
theorem dLaw_law_316 : decode cLaw_law 316 = .ok (.iload 5, 2) := zfLaw_law_306.2.2.2.2.2.1
theorem dLaw_law_318 : decode cLaw_law 318 = .ok (.ifCond .ne 16, 3) := zfLaw_law_306.2.2.2.2.2.2.1
theorem dLaw_law_321 : decode cLaw_law 321 = .ok (.aload_n 3, 1) := zfLaw_law_306.2.2.2.2.2.2.2.1
theorem dLaw_law_322 : decode cLaw_law 322 = .ok (.getfield 13, 3) := zfLaw_law_306.2.2.2.2.2.2.2.2.1
theorem dLaw_law_325 : decode cLaw_law 325 = .ok (.iload 6, 2) := zfLaw_law_306.2.2.2.2.2.2.2.2.2.1
theorem dLaw_law_327 : decode cLaw_law 327 = .ok (.i2l, 1) := zfLaw_law_306.2.2.2.2.2.2.2.2.2.2.1
theorem dLaw_law_328 : decode cLaw_law 328 = .ok (.lcmp, 1) := zfLaw_law_306.2.2.2.2.2.2.2.2.2.2.2.1
theorem dLaw_law_329 : decode cLaw_law 329 = .ok (.ifCond .eq 5, 3) := zfLaw_law_306.2.2.2.2.2.2.2.2.2.2.2.2.1
theorem dLaw_law_332 : decode cLaw_law 332 = .ok (.iconst 0, 1) := zfLaw_law_306.2.2.2.2.2.2.2.2.2.2.2.2.2.1
theorem dLaw_law_333 : decode cLaw_law 333 = .ok (.ireturn, 1) := zfLaw_law_306.2.2.2.2.2.2.2.2.2.2.2.2.2.2.1
theorem dLaw_law_334 : decode cLaw_law 334 = .ok (.goto 3120, 3) := zfLaw_law_306.2.2.2.2.2.2.2.2.2.2.2.2.2.2.2.1
theorem dLaw_law_337 : decode cLaw_law 337 = .ok (.aload_n 1, 1) := zfLaw_law_306.2.2.2.2.2.2.2.2.2.2.2.2.2.2.2.2.1
theorem dLaw_law_338 : decode cLaw_law 338 = .ok (.aload_n 0, 1) := zfLaw_law_306.2.2.2.2.2.2.2.2.2.2.2.2.2.2.2.2.2.1
theorem dLaw_law_339 : decode cLaw_law 339 = .ok (.iload 4, 2) := zfLaw_law_306.2.2.2.2.2.2.2.2.2.2.2.2.2.2.2.2.2.2.1
theorem dLaw_law_341 : decode cLaw_law 341 = .ok (.iconst 1, 1) := zfLaw_law_306.2.2.2.2.2.2.2.2.2.2.2.2.2.2.2.2.2.2.2.1
theorem dLaw_law_342 : decode cLaw_law 342 = .ok (.iadd, 1) := zfLaw_law_306.2.2.2.2.2.2.2.2.2.2.2.2.2.2.2.2.2.2.2.2.1
theorem dLaw_law_343 : decode cLaw_law 343 = .ok (.iaload, 1) := zfLaw_law_306.2.2.2.2.2.2.2.2.2.2.2.2.2.2.2.2.2.2.2.2.2.1
theorem dLaw_law_344 : decode cLaw_law 344 = .ok (.aload_n 0, 1) := zfLaw_law_306.2.2.2.2.2.2.2.2.2.2.2.2.2.2.2.2.2.2.2.2.2.2.1
theorem dLaw_law_345 : decode cLaw_law 345 = .ok (.iload 4, 2) := zfLaw_law_306.2.2.2.2.2.2.2.2.2.2.2.2.2.2.2.2.2.2.2.2.2.2.2.1
theorem dLaw_law_347 : decode cLaw_law 347 = .ok (.iconst 2, 1) := zfLaw_law_306.2.2.2.2.2.2.2.2.2.2.2.2.2.2.2.2.2.2.2.2.2.2.2.2.1
theorem dLaw_law_348 : decode cLaw_law 348 = .ok (.iadd, 1) := zfLaw_law_306.2.2.2.2.2.2.2.2.2.2.2.2.2.2.2.2.2.2.2.2.2.2.2.2.2.1
theorem dLaw_law_349 : decode cLaw_law 349 = .ok (.iaload, 1) := zfLaw_law_306.2.2.2.2.2.2.2.2.2.2.2.2.2.2.2.2.2.2.2.2.2.2.2.2.2.2.1
theorem dLaw_law_350 : decode cLaw_law 350 = .ok (.aload_n 3, 1) := zfLaw_law_306.2.2.2.2.2.2.2.2.2.2.2.2.2.2.2.2.2.2.2.2.2.2.2.2.2.2.2.1
theorem dLaw_law_351 : decode cLaw_law 351 = .ok (.invokestatic 183, 3) := zfLaw_law_306.2.2.2.2.2.2.2.2.2.2.2.2.2.2.2.2.2.2.2.2.2.2.2.2.2.2.2.2.1
theorem dLaw_law_354 : decode cLaw_law 354 = .ok (.istore 5, 2) := zfLaw_law_306.2.2.2.2.2.2.2.2.2.2.2.2.2.2.2.2.2.2.2.2.2.2.2.2.2.2.2.2.2.1
theorem dLaw_law_356 : decode cLaw_law 356 = .ok (.aload_n 2, 1) := zfLaw_law_306.2.2.2.2.2.2.2.2.2.2.2.2.2.2.2.2.2.2.2.2.2.2.2.2.2.2.2.2.2.2.1
theorem dLaw_law_357 : decode cLaw_law 357 = .ok (.aload_n 0, 1) := zfLaw_law_306.2.2.2.2.2.2.2.2.2.2.2.2.2.2.2.2.2.2.2.2.2.2.2.2.2.2.2.2.2.2.2.1
theorem zfLaw_law_358 : decode cLaw_law 358 = .ok (.iload 4, 2) ∧ decode cLaw_law 360 = .ok (.iconst 1, 1) ∧ decode cLaw_law 361 = .ok (.iadd, 1) ∧ decode cLaw_law 362 = .ok (.iaload, 1) ∧ decode cLaw_law 363 = .ok (.aload_n 0, 1) ∧ decode cLaw_law 364 = .ok (.iload 4, 2) ∧ decode cLaw_law 366 = .ok (.iconst 2, 1) ∧ decode cLaw_law 367 = .ok (.iadd, 1) ∧ decode cLaw_law 368 = .ok (.iaload, 1) ∧ decode cLaw_law 369 = .ok (.invokevirtual 186, 3) ∧ decode cLaw_law 372 = .ok (.istore 6, 2) ∧ decode cLaw_law 374 = .ok (.aload_n 2, 1) ∧ decode cLaw_law 375 = .ok (.invokevirtual 179, 3) ∧ decode cLaw_law 378 = .ok (.iload 5, 2) ∧ decode cLaw_law 380 = .ok (.if_icmp .eq 5, 3) ∧ decode cLaw_law 383 = .ok (.iconst 0, 1) ∧ decode cLaw_law 384 = .ok (.ireturn, 1) ∧ decode cLaw_law 385 = .ok (.iload 5, 2) ∧ decode cLaw_law 387 = .ok (.ifCond .ne 16, 3) ∧ decode cLaw_law 390 = .ok (.aload_n 3, 1) ∧ decode cLaw_law 391 = .ok (.getfield 13, 3) ∧ decode cLaw_law 394 = .ok (.iload 6, 2) ∧ decode cLaw_law 396 = .ok (.i2l, 1) ∧ decode cLaw_law 397 = .ok (.lcmp, 1) ∧ decode cLaw_law 398 = .ok (.ifCond .eq 5, 3) ∧ decode cLaw_law 401 = .ok (.iconst 0, 1) ∧ decode cLaw_law 402 = .ok (.ireturn, 1) ∧ decode cLaw_law 403 = .ok (.goto 3051, 3) ∧ decode cLaw_law 406 = .ok (.aload_n 1, 1) ∧ decode cLaw_law 407 = .ok (.aload_n 0, 1) ∧ decode cLaw_law 408 = .ok (.iload 4, 2) ∧ decode cLaw_law 410 = .ok (.iconst 1, 1) ∧ True := Jvm.Free.DS.facts (code := cLaw_law) 358 [(.iload 4, 2), (.iconst 1, 1), (.iadd, 1), (.iaload, 1), (.aload_n 0, 1), (.iload 4, 2), (.iconst 2, 1), (.iadd, 1), (.iaload, 1), (.invokevirtual 186, 3), (.istore 6, 2), (.aload_n 2, 1), (.invokevirtual 179, 3), (.iload 5, 2), (.if_icmp .eq 5, 3), (.iconst 0, 1), (.ireturn, 1), (.iload 5, 2), (.ifCond .ne 16, 3), (.aload_n 3, 1), (.getfield 13, 3), (.iload 6, 2), (.i2l, 1), (.lcmp, 1), (.ifCond .eq 5, 3), (.iconst 0, 1), (.ireturn, 1), (.goto 3051, 3), (.aload_n 1, 1), (.aload_n 0, 1), (.iload 4, 2), (.iconst 1, 1)] (by decide +kernel) (by decide +kernel)
theorem dLaw_law_358 : decode cLaw_law 358 = .ok (.iload 4, 2) := zfLaw_law_358.1
theorem dLaw_law_360 : decode cLaw_law 360 = .ok (.iconst 1, 1) := zfLaw_law_358.2.1
theorem dLaw_law_361 : decode cLaw_law 361 = .ok (.iadd, 1) := zfLaw_law_358.2.2.1
theorem dLaw_law_362 : decode cLaw_law 362 = .ok (.iaload, 1) := zfLaw_law_358.2.2.2.1
theorem dLaw_law_363 : decode cLaw_law 363 = .ok (.aload_n 0, 1) := zfLaw_law_358.2.2.2.2.1
theorem dLaw_law_364 : decode cLaw_law 364 = .ok (.iload 4, 2) := zfLaw_law_358.2.2.2.2.2.1
theorem dLaw_law_366 : decode cLaw_law 366 = .ok (.iconst 2, 1) := zfLaw_law_358.2.2.2.2.2.2.1
theorem dLaw_law_367 : decode cLaw_law 367 = .ok (.iadd, 1) := zfLaw_law_358.2.2.2.2.2.2.2.1
theorem dLaw_law_368 : decode cLaw_law 368 = .ok (.iaload, 1) := zfLaw_law_358.2.2.2.2.2.2.2.2.1
theorem dLaw_law_369 : decode cLaw_law 369 = .ok (.invokevirtual 186, 3) := zfLaw_law_358.2.2.2.2.2.2.2.2.2.1
theorem dLaw_law_372 : decode cLaw_law 372 = .ok (.istore 6, 2) := zfLaw_law_358.2.2.2.2.2.2.2.2.2.2.1
theorem dLaw_law_374 : decode cLaw_law 374 = .ok (.aload_n 2, 1) := zfLaw_law_358.2.2.2.2.2.2.2.2.2.2.2.1
theorem dLaw_law_375 : decode cLaw_law 375 = .ok (.invokevirtual 179, 3) := zfLaw_law_358.2.2.2.2.2.2.2.2.2.2.2.2.1
theorem dLaw_law_378 : decode cLaw_law 378 = .ok (.iload 5, 2) := zfLaw_law_358.2.2.2.2.2.2.2.2.2.2.2.2.2.1
theorem dLaw_law_380 : decode cLaw_law 380 = .ok (.if_icmp .eq 5, 3) := zfLaw_law_358.2.2.2.2.2.2.2.2.2.2.2.2.2.2.1
theorem dLaw_law_383 : decode cLaw_law 383 = .ok (.iconst 0, 1) := zfLaw_law_358.2.2.2.2.2.2.2.2.2.2.2.2.2.2.2.1
theorem dLaw_law_384 : decode cLaw_law 384 = .ok (.ireturn, 1) := zfLaw_law_358.2.2.2.2.2.2.2.2.2.2.2.2.2.2.2.2.1
theorem dLaw_law_385 : decode cLaw_law 385 = .ok (.iload 5, 2) := zfLaw_law_358.2.2.2.2.2.2.2.2.2.2.2.2.2.2.2.2.2.1
theorem dLaw_law_387 : decode cLaw_law 387 = .ok (.ifCond .ne 16, 3) := zfLaw_law_358.2.2.2.2.2.2.2.2.2.2.2.2.2.2.2.2.2.2.1
theorem dLaw_law_390 : decode cLaw_law 390 = .ok (.aload_n 3, 1) := zfLaw_law_358.2.2.2.2.2.2.2.2.2.2.2.2.2.2.2.2.2.2.2.1
theorem dLaw_law_391 : decode cLaw_law 391 = .ok (.getfield 13, 3) := zfLaw_law_358.2.2.2.2.2.2.2.2.2.2.2.2.2.2.2.2.2.2.2.2.1
theorem dLaw_law_394 : decode cLaw_law 394 = .ok (.iload 6, 2) := zfLaw_law_358.2.2.2.2.2.2.2.2.2.2.2.2.2.2.2.2.2.2.2.2.2.1
theorem dLaw_law_396 : decode cLaw_law 396 = .ok (.i2l, 1) := zfLaw_law_358.2.2.2.2.2.2.2.2.2.2.2.2.2.2.2.2.2.2.2.2.2.2.1
theorem dLaw_law_397 : decode cLaw_law 397 = .ok (.lcmp, 1) := zfLaw_law_358.2.2.2.2.2.2.2.2.2.2.2.2.2.2.2.2.2.2.2.2.2.2.2.1
theorem dLaw_law_398 : decode cLaw_law 398 = .ok (.ifCond .eq 5, 3) := zfLaw_law_358.2.2.2.2.2.2.2.2.2.2.2.2.2.2.2.2.2.2.2.2.2.2.2.2.1
theorem dLaw_law_401 : decode cLaw_law 401 = .ok (.iconst 0, 1) := zfLaw_law_358.2.2.2.2.2.2.2.2.2.2.2.2.2.2.2.2.2.2.2.2.2.2.2.2.2.1
theorem dLaw_law_402 : decode cLaw_law 402 = .ok (.ireturn, 1) := zfLaw_law_358.2.2.2.2.2.2.2.2.2.2.2.2.2.2.2.2.2.2.2.2.2.2.2.2.2.2.1
theorem dLaw_law_403 : decode cLaw_law 403 = .ok (.goto 3051, 3) := zfLaw_law_358.2.2.2.2.2.2.2.2.2.2.2.2.2.2.2.2.2.2.2.2.2.2.2.2.2.2.2.1
theorem dLaw_law_406 : decode cLaw_law 406 = .ok (.aload_n 1, 1) := zfLaw_law_358.2.2.2.2.2.2.2.2.2.2.2.2.2.2.2.2.2.2.2.2.2.2.2.2.2.2.2.2.1
theorem dLaw_law_407 : decode cLaw_law 407 = .ok (.aload_n 0, 1) := zfLaw_law_358.2.2.2.2.2.2.2.2.2.2.2.2.2.2.2.2.2.2.2.2.2.2.2.2.2.2.2.2.2.1
theorem dLaw_law_408 : decode cLaw_law 408 = .ok (.iload 4, 2) := zfLaw_law_358.2.2.2.2.2.2.2.2.2.2.2.2.2.2.2.2.2.2.2.2.2.2.2.2.2.2.2.2.2.2.1
theorem dLaw_law_410 : decode cLaw_law 410 = .ok (.iconst 1, 1) := zfLaw_law_358.2.2.2.2.2.2.2.2.2.2.2.2.2.2.2.2.2.2.2.2.2.2.2.2.2.2.2.2.2.2.2.1
theorem zfLaw_law_411 : decode cLaw_law 411 = .ok (.iadd, 1) ∧ decode cLaw_law 412 = .ok (.iaload, 1) ∧ decode cLaw_law 413 = .ok (.aload_n 0, 1) ∧ decode cLaw_law 414 = .ok (.iload 4, 2) ∧ decode cLaw_law 416 = .ok (.iconst 2, 1) ∧ decode cLaw_law 417 = .ok (.iadd, 1) ∧ decode cLaw_law 418 = .ok (.iaload, 1) ∧ decode cLaw_law 419 = .ok (.aload_n 3, 1) ∧ decode cLaw_law 420 = .ok (.invokestatic 187, 3) ∧ decode cLaw_law 423 = .ok (.istore 5, 2) ∧ decode cLaw_law 425 = .ok (.aload_n 2, 1) ∧ decode cLaw_law 426 = .ok (.aload_n 0, 1) ∧ decode cLaw_law 427 = .ok (.iload 4, 2) ∧ decode cLaw_law 429 = .ok (.iconst 1, 1) ∧ decode cLaw_law 430 = .ok (.iadd, 1) ∧ decode cLaw_law 431 = .ok (.iaload, 1) ∧ decode cLaw_law 432 = .ok (.aload_n 0, 1) ∧ decode cLaw_law 433 = .ok (.iload 4, 2) ∧ decode cLaw_law 435 = .ok (.iconst 2, 1) ∧ decode cLaw_law 436 = .ok (.iadd, 1) ∧ decode cLaw_law 437 = .ok (.iaload, 1) ∧ decode cLaw_law 438 = .ok (.invokevirtual 189, 3) ∧ decode cLaw_law 441 = .ok (.istore 6, 2) ∧ decode cLaw_law 443 = .ok (.aload_n 2, 1) ∧ decode cLaw_law 444 = .ok (.invokevirtual 179, 3) ∧ decode cLaw_law 447 = .ok (.iload 5, 2) ∧ decode cLaw_law 449 = .ok (.if_icmp .eq 5, 3) ∧ decode cLaw_law 452 = .ok (.iconst 0, 1) ∧ decode cLaw_law 453 = .ok (.ireturn, 1) ∧ decode cLaw_law 454 = .ok (.iload 5, 2) ∧ decode cLaw_law 456 = .ok (.ifCond .ne 16, 3) ∧ decode cLaw_law 459 = .ok (.aload_n 3, 1) ∧ True := Jvm.Free.DS.facts (code := cLaw_law) 411 [(.iadd, 1), (.iaload, 1), (.aload_n 0, 1), (.iload 4, 2), (.iconst 2, 1), (.iadd, 1), (.iaload, 1), (.aload_n 3, 1), (.invokestatic 187, 3), (.istore 5, 2), (.aload_n 2, 1), (.aload_n 0, 1), (.iload 4, 2), (.iconst 1, 1), (.iadd, 1), (.iaload, 1), (.aload_n 0, 1), (.iload 4, 2), (.iconst 2, 1), (.iadd, 1), (.iaload, 1), (.invokevirtual 189, 3), (.istore 6, 2), (.aload_n 2, 1), (.invokevirtual 179, 3), (.iload 5, 2), (.if_icmp .eq 5, 3), (.iconst 0, 1), (.ireturn, 1), (.iload 5, 2), (.ifCond .ne 16, 3), (.aload_n 3, 1)] (by decide +kernel) (by decide +kernel)
theorem dLaw_law_411 : decode cLaw_law 411 = .ok (.iadd, 1) := zfLaw_law_411.1
theorem dLaw_law_412 : decode cLaw_law 412 = .ok (.iaload, 1) := zfLaw_law_411.2.1
theorem dLaw_law_413 : decode cLaw_law 413 = .ok (.aload_n 0, 1) := zfLaw_law_411.2.2.1
theorem dLaw_law_414 : decode cLaw_law 414 = .ok (.iload 4, 2) := zfLaw_law_411.2.2.2.1
theorem dLaw_law_416 : decode cLaw_law 416 = .ok (.iconst 2, 1) := zfLaw_law_411.2.2.2.2.1
theorem dLaw_law_417 : decode cLaw_law 417 = .ok (.iadd, 1) := zfLaw_law_411.2.2.2.2.2.1
theorem dLaw_law_418 : decode cLaw_law 418 = .ok (.iaload, 1) := zfLaw_law_411.2.2.2.2.2.2.1
theorem dLaw_law_419 : decode cLaw_law 419 = .ok (.aload_n 3, 1) := zfLaw_law_411.2.2.2.2.2.2.2.1
theorem dLaw_law_420 : decode cLaw_law 420 = .ok (.invokestatic 187, 3) := zfLaw_law_411.2.2.2.2.2.2.2.2.1
theorem dLaw_law_423 : decode cLaw_law 423 = .ok (.istore 5, 2) := zfLaw_law_411.2.2.2.2.2.2.2.2.2.1
theorem dLaw_law_425 : decode cLaw_law 425 = .ok (.aload_n 2, 1) := zfLaw_law_411.2.2.2.2.2.2.2.2.2.2.1
theorem dLaw_law_426 : decode cLaw_law 426 = .ok (.aload_n 0, 1) := zfLaw_law_411.2.2.2.2.2.2.2.2.2.2.2.1
theorem dLaw_law_427 : decode cLaw_law 427 = .ok (.iload 4, 2) := zfLaw_law_411.2.2.2.2.2.2.2.2.2.2.2.2.1
theorem dLaw_law_429 : decode cLaw_law 429 = .ok (.iconst 1, 1) := zfLaw_law_411.2.2.2.2.2.2.2.2.2.2.2.2.2.1
theorem dLaw_law_430 : decode cLaw_law 430 = .ok (.iadd, 1) := zfLaw_law_411.2.2.2.2.2.2.2.2.2.2.2.2.2.2.1
theorem dLaw_law_431 : decode cLaw_law 431 = .ok (.iaload, 1) := zfLaw_law_411.2.2.2.2.2.2.2.2.2.2.2.2.2.2.2.1
theorem dLaw_law_432 : decode cLaw_law 432 = .ok (.aload_n 0, 1) := zfLaw_law_411.2.2.2.2.2.2.2.2.2.2.2.2.2.2.2.2.1
theorem dLaw_law_433 : decode cLaw_law 433 = .ok (.iload 4, 2) := zfLaw_law_411.2.2.2.2.2.2.2.2.2.2.2.2.2.2.2.2.2.1
theorem dLaw_law_435 : decode cLaw_law 435 = .ok (.iconst 2, 1) := zfLaw_law_411.2.2.2.2.2.2.2.2.2.2.2.2.2.2.2.2.2.2.1
theorem dLaw_law_436 : decode cLaw_law 436 = .ok (.iadd, 1) := zfLaw_law_411.2.2.2.2.2.2.2.2.2.2.2.2.2.2.2.2.2.2.2.1
theorem dLaw_law_437 : decode cLaw_law 437 = .ok (.iaload, 1) := zfLaw_law_411.2.2.2.2.2.2.2.2.2.2.2.2.2.2.2.2.2.2.2.2.1
theorem dLaw_law_438 : decode cLaw_law 438 = .ok (.invokevirtual 189, 3) := zfLaw_law_411.2.2.2.2.2.2.2.2.2.2.2.2.2.2.2.2.2.2.2.2.2.1
theorem dLaw_law_441 : decode cLaw_law 441 = .ok (.istore 6, 2) := zfLaw_law_411.2.2.2.2.2.2.2.2.2.2.2.2.2.2.2.2.2.2.2.2.2.2.1
theorem dLaw_law_443 : decode cLaw_law 443 = .ok (.aload_n 2, 1) := zfLaw_law_411.2.2.2.2.2.2.2.2.2.2.2.2.2.2.2.2.2.2.2.2.2.2.2.1
theorem dLaw_law_444 : decode cLaw_law 444 = .ok (.invokevirtual 179, 3) := zfLaw_law_411.2.2.2.2.2.2.2.2.2.2.2.2.2.2.2.2.2.2.2.2.2.2.2.2.1
theorem dLaw_law_447 : decode cLaw_law 447 = .ok (.iload 5, 2) := zfLaw_law_411.2.2.2.2.2.2.2.2.2.2.2.2.2.2.2.2.2.2.2.2.2.2.2.2.2.1
theorem dLaw_law_449 : decode cLaw_law 449 = .ok (.if_icmp .eq 5, 3) := zfLaw_law_411.2.2.2.2.2.2.2.2.2.2.2.2.2.2.2.2.2.2.2.2.2.2.2.2.2.2.1
theorem dLaw_law_452 : decode cLaw_law 452 = .ok (.iconst 0, 1) := zfLaw_law_411.2.2.2.2.2.2.2.2.2.2.2.2.2.2.2.2.2.2.2.2.2.2.2.2.2.2.2.1
theorem dLaw_law_453 : decode cLaw_law 453 = .ok (.ireturn, 1) := zfLaw_law_411.2.2.2.2.2.2.2.2.2.2.2.2.2.2.2.2.2.2.2.2.2.2.2.2.2.2.2.2.1
theorem dLaw_law_454 : decode cLaw_law 454 = .ok (.iload 5, 2) := zfLaw_law_411.2.2.2.2.2.2.2.2.2.2.2.2.2.2.2.2.2.2.2.2.2.2.2.2.2.2.2.2.2.1
theorem dLaw_law_456 : decode cLaw_law 456 = .ok (.ifCond .ne 16, 3) := zfLaw_law_411.2.2.2.2.2.2.2.2.2.2.2.2.2.2.2.2.2.2.2.2.2.2.2.2.2.2.2.2.2.2.1
theorem dLaw_law_459 : decode cLaw_law 459 = .ok (.aload_n 3, 1) := zfLaw_law_411.2.2.2.2.2.2.2.2.2.2.2.2.2.2.2.2.2.2.2.2.2.2.2.2.2.2.2.2.2.2.2.1
theorem zfLaw_law_460 : decode cLaw_law 460 = .ok (.getfield 13, 3) ∧ decode cLaw_law 463 = .ok (.iload 6, 2) ∧ decode cLaw_law 465 = .ok (.i2l, 1) ∧ decode cLaw_law 466 = .ok (.lcmp, 1) ∧ decode cLaw_law 467 = .ok (.ifCond .eq 5, 3) ∧ decode cLaw_law 470 = .ok (.iconst 0, 1) ∧ decode cLaw_law 471 = .ok (.ireturn, 1) ∧ decode cLaw_law 472 = .ok (.goto 2982, 3) ∧ decode cLaw_law 475 = .ok (.aload_n 1, 1) ∧ decode cLaw_law 476 = .ok (.aload_n 0, 1) ∧ decode cLaw_law 477 = .ok (.iload 4, 2) ∧ decode cLaw_law 479 = .ok (.iconst 1, 1) ∧ decode cLaw_law 480 = .ok (.iadd, 1) ∧ decode cLaw_law 481 = .ok (.iaload, 1) ∧ decode cLaw_law 482 = .ok (.aload_n 0, 1) ∧ decode cLaw_law 483 = .ok (.iload 4, 2) ∧ decode cLaw_law 485 = .ok (.iconst 2, 1) ∧ decode cLaw_law 486 = .ok (.iadd, 1) ∧ decode cLaw_law 487 = .ok (.iaload, 1) ∧ decode cLaw_law 488 = .ok (.aload_n 3, 1) ∧ decode cLaw_law 489 = .ok (.invokestatic 190, 3) ∧ decode cLaw_law 492 = .ok (.istore 5, 2) ∧ decode cLaw_law 494 = .ok (.aload_n 2, 1) ∧ decode cLaw_law 495 = .ok (.aload_n 0, 1) ∧ decode cLaw_law 496 = .ok (.iload 4, 2) ∧ decode cLaw_law 498 = .ok (.iconst 1, 1) ∧ decode cLaw_law 499 = .ok (.iadd, 1) ∧ decode cLaw_law 500 = .ok (.iaload, 1) ∧ decode cLaw_law 501 = .ok (.aload_n 0, 1) ∧ decode cLaw_law 502 = .ok (.iload 4, 2) ∧ decode cLaw_law 504 = .ok (.iconst 2, 1) ∧ decode cLaw_law 505 = .ok (.iadd, 1) ∧ True := Jvm.Free.DS.facts (code := cLaw_law) 460 [(.getfield 13, 3), (.iload 6, 2), (.i2l, 1), (.lcmp, 1), (.ifCond .eq 5, 3), (.iconst 0, 1), (.ireturn, 1), (.goto 2982, 3), (.aload_n 1, 1), (.aload_n 0, 1), (.iload 4, 2), (.iconst 1, 1), (.iadd, 1), (.iaload, 1), (.aload_n 0, 1), (.iload 4, 2), (.iconst 2, 1), (.iadd, 1), (.iaload, 1), (.aload_n 3, 1), (.invokestatic 190, 3), (.istore 5, 2), (.aload_n 2, 1), (.aload_n 0, 1), (.iload 4, 2), (.iconst 1, 1), (.iadd, 1), (.iaload, 1), (.aload_n 0, 1), (.iload 4, 2), (.iconst 2, 1), (.iadd, 1)] (by decide +kernel) (by decide +kernel)
theorem dLaw_law_460 : decode cLaw_law 460 = .ok (.getfield 13, 3) := zfLaw_law_460.1
theorem dLaw_law_463 : decode cLaw_law 463 = .ok (.iload 6, 2) := zfLaw_law_460.2.1
theorem dLaw_law_465 : decode cLaw_law 465 = .ok (.i2l, 1) := zfLaw_law_460.2.2.1
theorem dLaw_law_466 : decode cLaw_law 466 = .ok (.lcmp, 1) := zfLaw_law_460.2.2.2.1
theorem dLaw_law_467 : decode cLaw_law 467 = .ok (.ifCond .eq 5, 3) := zfLaw_law_460.2.2.2.2.1
theorem dLaw_law_470 : decode cLaw_law 470 = .ok (.iconst 0, 1) := zfLaw_law_460.2.2.2.2.2.1
theorem dLaw_law_471 : decode cLaw_law 471 = .ok (.ireturn, 1) := zfLaw_law_460.2.2.2.2.2.2.1
theorem dLaw_law_472 : decode cLaw_law 472 = .ok (.goto 2982, 3) := zfLaw_law_460.2.2.2.2.2.2.2.1
theorem dLaw_law_475 : decode cLaw_law 475 = .ok (.aload_n 1, 1) := zfLaw_law_460.2.2.2.2.2.2.2.2.1
theorem dLaw_law_476 : decode cLaw_law 476 = .ok (.aload_n 0, 1) := zfLaw_law_460.2.2.2.2.2.2.2.2.2.1
theorem dLaw_law_477 : decode cLaw_law 477 = .ok (.iload 4, 2) := zfLaw_law_460.2.2.2.2.2.2.2.2.2.2.1
theorem dLaw_law_479 : decode cLaw_law 479 = .ok (.iconst 1, 1) := zfLaw_law_460.2.2.2.2.2.2.2.2.2.2.2.1
theorem dLaw_law_480 : decode cLaw_law 480 = .ok (.iadd, 1) := zfLaw_law_460.2.2.2.2.2.2.2.2.2.2.2.2.1
theorem dLaw_law_481 : decode cLaw_law 481 = .ok (.iaload, 1) := zfLaw_law_460.2.2.2.2.2.2.2.2.2.2.2.2.2.1
theorem dLaw_law_482 : decode cLaw_law 482 = .ok (.aload_n 0, 1) := zfLaw_law_460.2.2.2.2.2.2.2.2.2.2.2.2.2.2.1
theorem dLaw_law_483 : decode cLaw_law 483 = .ok (.iload 4, 2) := zfLaw_law_460.2.2.2.2.2.2.2.2.2.2.2.2.2.2.2.1
theorem dLaw_law_485 : decode cLaw_law 485 = .ok (.iconst 2, 1) := zfLaw_law_460.2.2.2.2.2.2.2.2.2.2.2.2.2.2.2.2.1
theorem dLaw_law_486 : decode cLaw_law 486 = .ok (.iadd, 1) := zfLaw_law_460.2.2.2.2.2.2.2.2.2.2.2.2.2.2.2.2.2.1
theorem dLaw_law_487 : decode cLaw_law 487 = .ok (.iaload, 1) := zfLaw_law_460.2.2.2.2.2.2.2.2.2.2.2.2.2.2.2.2.2.2.1
theorem dLaw_law_488 : decode cLaw_law 488 = .ok (.aload_n 3, 1) := zfLaw_law_460.2.2.2.2.2.2.2.2.2.2.2.2.2.2.2.2.2.2.2.1
theorem dLaw_law_489 : decode cLaw_law 489 = .ok (.invokestatic 190, 3) := zfLaw_law_460.2.2.2.2.2.2.2.2.2.2.2.2.2.2.2.2.2.2.2.2.1
theorem dLaw_law_492 : decode cLaw_law 492 = .ok (.istore 5, 2) := zfLaw_law_460.2.2.2.2.2.2.2.2.2.2.2.2.2.2.2.2.2.2.2.2.2.1
theorem dLaw_law_494 : decode cLaw_law 494 = .ok (.aload_n 2, 1) := zfLaw_law_460.2.2.2.2.2.2.2.2.2.2.2.2.2.2.2.2.2.2.2.2.2.2.1
theorem dLaw_law_495 : decode cLaw_law 495 = .ok (.aload_n 0, 1) := zfLaw_law_460.2.2.2.2.2.2.2.2.2.2.2.2.2.2.2.2.2.2.2.2.2.2.2.1
theorem dLaw_law_496 : decode cLaw_law 496 = .ok (.iload 4, 2) := zfLaw_law_460.2.2.2.2.2.2.2.2.2.2.2.2.2.2.2.2.2.2.2.2.2.2.2.2.1
theorem dLaw_law_498 : decode cLaw_law 498 = .ok (.iconst 1, 1) := zfLaw_law_460.2.2.2.2.2.2.2.2.2.2.2.2.2.2.2.2.2.2.2.2.2.2.2.2.2.1
theorem dLaw_law_499 : decode cLaw_law 499 = .ok (.iadd, 1) := zfLaw_law_460.2.2.2.2.2.2.2.2.2.2.2.2.2.2.2.2.2.2.2.2.2.2.2.2.2.2.1
theorem dLaw_law_500 : decode cLaw_law 500 = .ok (.iaload, 1) := zfLaw_law_460.2.2.2.2.2.2.2.2.2.2.2.2.2.2.2.2.2.2.2.2.2.2.2.2.2.2.2.1
theorem dLaw_law_501 : decode cLaw_law 501 = .ok (.aload_n 0, 1) := zfLaw_law_460.2.2.2.2.2.2.2.2.2.2.2.2.2.2.2.2.2.2.2.2.2.2.2.2.2.2.2.2.1
theorem dLaw_law_502 : decode cLaw_law 502 = .ok (.iload 4, 2) := zfLaw_law_460.2.2.2.2.2.2.2.2.2.2.2.2.2.2.2.2.2.2.2.2.2.2.2.2.2.2.2.2.2.1
theorem dLaw_law_504 : decode cLaw_law 504 = .ok (.iconst 2, 1) := zfLaw_law_460.2.2.2.2.2.2.2.2.2.2.2.2.2.2.2.2.2.2.2.2.2.2.2.2.2.2.2.2.2.2.1
theorem dLaw_law_505 : decode cLaw_law 505 = .ok (.iadd, 1) := zfLaw_law_460.2.2.2.2.2.2.2.2.2.2.2.2.2.2.2.2.2.2.2.2.2.2.2.2.2.2.2.2.2.2.2.1
theorem zfLaw_law_506 : decode cLaw_law 506 = .ok (.iaload, 1) ∧ decode cLaw_law 507 = .ok (.invokevirtual 192, 3) ∧ decode cLaw_law 510 = .ok (.istore 6, 2) ∧ decode cLaw_law 512 = .ok (.aload_n 2, 1) ∧ decode cLaw_law 513 = .ok (.invokevirtual 179, 3) ∧ decode cLaw_law 516 = .ok (.iload 5, 2) ∧ decode cLaw_law 518 = .ok (.if_icmp .eq 5, 3) ∧ decode cLaw_law 521 = .ok (.iconst 0, 1) ∧ decode cLaw_law 522 = .ok (.ireturn, 1) ∧ decode cLaw_law 523 = .ok (.iload 5, 2) ∧ decode cLaw_law 525 = .ok (.ifCond .ne 16, 3) ∧ decode cLaw_law 528 = .ok (.aload_n 3, 1) ∧ decode cLaw_law 529 = .ok (.getfield 13, 3) ∧ decode cLaw_law 532 = .ok (.iload 6, 2) ∧ decode cLaw_law 534 = .ok (.i2l, 1) ∧ decode cLaw_law 535 = .ok (.lcmp, 1) ∧ decode cLaw_law 536 = .ok (.ifCond .eq 5, 3) ∧ decode cLaw_law 539 = .ok (.iconst 0, 1) ∧ decode cLaw_law 540 = .ok (.ireturn, 1) ∧ decode cLaw_law 541 = .ok (.goto 2913, 3) ∧ decode cLaw_law 544 = .ok (.aload_n 1, 1) ∧ decode cLaw_law 545 = .ok (.aload_n 0, 1) ∧ decode cLaw_law 546 = .ok (.iload 4, 2) ∧ decode cLaw_law 548 = .ok (.iconst 1, 1) ∧ decode cLaw_law 549 = .ok (.iadd, 1) ∧ decode cLaw_law 550 = .ok (.iaload, 1) ∧ decode cLaw_law 551 = .ok (.aload_n 0, 1) ∧ decode cLaw_law 552 = .ok (.iload 4, 2) ∧ decode cLaw_law 554 = .ok (.iconst 2, 1) ∧ decode cLaw_law 555 = .ok (.iadd, 1) ∧ decode cLaw_law 556 = .ok (.iaload, 1) ∧ decode cLaw_law 557 = .ok (.aload_n 0, 1) ∧ True := Jvm.Free.DS.facts (code := cLaw_law) 506 [(.iaload, 1), (.invokevirtual 192, 3), (.istore 6, 2), (.aload_n 2, 1), (.invokevirtual 179, 3), (.iload 5, 2), (.if_icmp .eq 5, 3), (.iconst 0, 1), (.ireturn, 1), (.iload 5, 2), (.ifCond .ne 16, 3), (.aload_n 3, 1), (.getfield 13, 3), (.iload 6, 2), (.i2l, 1), (.lcmp, 1), (.ifCond .eq 5, 3), (.iconst 0, 1), (.ireturn, 1), (.goto 2913, 3), (.aload_n 1, 1), (.aload_n 0, 1), (.iload 4, 2), (.iconst 1, 1), (.iadd, 1), (.iaload, 1), (.aload_n 0, 1), (.iload 4, 2), (.iconst 2, 1), (.iadd, 1), (.iaload, 1), (.aload_n 0, 1)] (by decide +kernel) (by decide +kernel)
theorem dLaw_law_506 : decode cLaw_law 506 = .ok (.iaload, 1) := zfLaw_law_506.1
theorem dLaw_law_507 : decode cLaw_law 507 = .ok (.invokevirtual 192, 3) := zfLaw_law_506.2.1
theorem dLaw_law_510 : decode cLaw_law 510 = .ok (.istore 6, 2) := zfLaw_law_506.2.2.1
theorem dLaw_law_512 : decode cLaw_law 512 = .ok (.aload_n 2, 1) := zfLaw_law_506.2.2.2.1
theorem dLaw_law_513 : decode cLaw_law 513 = .ok (.invokevirtual 179, 3) := zfLaw_law_506.2.2.2.2.1
theorem dLaw_law_516 : decode cLaw_law 516 = .ok (.iload 5, 2) := zfLaw_law_506.2.2.2.2.2.1
theorem dLaw_law_518 : decode cLaw_law 518 = .ok (.if_icmp .eq 5, 3) := zfLaw_law_506.2.2.2.2.2.2.1
theorem dLaw_law_521 : decode cLaw_law 521 = .ok (.iconst 0, 1) := zfLaw_law_506.2.2.2.2.2.2.2.1
theorem dLaw_law_522 : decode cLaw_law 522 = .ok (.ireturn, 1) := zfLaw_law_506.2.2.2.2.2.2.2.2.1
theorem dLaw_law_523 : decode cLaw_law 523 = .ok (.iload 5, 2) := zfLaw_law_506.2.2.2.2.2.2.2.2.2.1
theorem dLaw_law_525 : decode cLaw_law 525 = .ok (.ifCond .ne 16, 3) := zfLaw_law_506.2.2.2.2.2.2.2.2.2.2.1
theorem dLaw_law_528 : decode cLaw_law 528 = .ok (.aload_n 3, 1) := zfLaw_law_506.2.2.2.2.2.2.2.2.2.2.2.1
theorem dLaw_law_529 : decode cLaw_law 529 = .ok (.getfield 13, 3) := zfLaw_law_506.2.2.2.2.2.2.2.2.2.2.2.2.1
theorem dLaw_law_532 : decode cLaw_law 532 = .ok (.iload 6, 2) := zfLaw_law_506.2.2.2.2.2.2.2.2.2.2.2.2.2.1
theorem dLaw_law_534 : decode cLaw_law 534 = .ok (.i2l, 1) := zfLaw_law_506.2.2.2.2.2.2.2.2.2.2.2.2.2.2.1
theorem dLaw_law_535 : decode cLaw_law 535 = .ok (.lcmp, 1) := zfLaw_law_506.2.2.2.2.2.2.2.2.2.2.2.2.2.2.2.1
theorem dLaw_law_536 : decode cLaw_law 536 = .ok (.ifCond .eq 5, 3) := zfLaw_law_506.2.2.2.2.2.2.2.2.2.2.2.2.2.2.2.2.1
theorem dLaw_law_539 : decode cLaw_law 539 = .ok (.iconst 0, 1) := zfLaw_law_506.2.2.2.2.2.2.2.2.2.2.2.2.2.2.2.2.2.1
theorem dLaw_law_540 : decode cLaw_law 540 = .ok (.ireturn, 1) := zfLaw_law_506.2.2.2.2.2.2.2.2.2.2.2.2.2.2.2.2.2.2.1
theorem dLaw_law_541 : decode cLaw_law 541 = .ok (.goto 2913, 3) := zfLaw_law_506.2.2.2.2.2.2.2.2.2.2.2.2.2.2.2.2.2.2.2.1
theorem dLaw_law_544 : decode cLaw_law 544 = .ok (.aload_n 1, 1) := zfLaw_law_506.2.2.2.2.2.2.2.2.2.2.2.2.2.2.2.2.2.2.2.2.1
theorem dLaw_law_545 : decode cLaw_law 545 = .ok (.aload_n 0, 1) := zfLaw_law_506.2.2.2.2.2.2.2.2.2.2.2.2.2.2.2.2.2.2.2.2.2.1
theorem dLaw_law_546 : decode cLaw_law 546 = .ok (.iload 4, 2) := zfLaw_law_506.2.2.2.2.2.2.2.2.2.2.2.2.2.2.2.2.2.2.2.2.2.2.1
theorem dLaw_law_548 : decode cLaw_law 548 = .ok (.iconst 1, 1) := zfLaw_law_506.2.2.2.2.2.2.2.2.2.2.2.2.2.2.2.2.2.2.2.2.2.2.2.1
theorem dLaw_law_549 : decode cLaw_law 549 = .ok (.iadd, 1) := zfLaw_law_506.2.2.2.2.2.2.2.2.2.2.2.2.2.2.2.2.2.2.2.2.2.2.2.2.1
theorem dLaw_law_550 : decode cLaw_law 550 = .ok (.iaload, 1) := zfLaw_law_506.2.2.2.2.2.2.2.2.2.2.2.2.2.2.2.2.2.2.2.2.2.2.2.2.2.1
theorem dLaw_law_551 : decode cLaw_law 551 = .ok (.aload_n 0, 1) := zfLaw_law_506.2.2.2.2.2.2.2.2.2.2.2.2.2.2.2.2.2.2.2.2.2.2.2.2.2.2.1
theorem dLaw_law_552 : decode cLaw_law 552 = .ok (.iload 4, 2) := zfLaw_law_506.2.2.2.2.2.2.2.2.2.2.2.2.2.2.2.2.2.2.2.2.2.2.2.2.2.2.2.1
theorem dLaw_law_554 : decode cLaw_law 554 = .ok (.iconst 2, 1) := zfLaw_law_506.2.2.2.2.2.2.2.2.2.2.2.2.2.2.2.2.2.2.2.2.2.2.2.2.2.2.2.2.1
theorem dLaw_law_555 : decode cLaw_law 555 = .ok (.iadd, 1) := zfLaw_law_506.2.2.2.2.2.2.2.2.2.2.2.2.2.2.2.2.2.2.2.2.2.2.2.2.2.2.2.2.2.1
theorem dLaw_law_556 : decode cLaw_law 556 = .ok (.iaload, 1) := zfLaw_law_506.2.2.2.2.2.2.2.2.2.2.2.2.2.2.2.2.2.2.2.2.2.2.2.2.2.2.2.2.2.2.1
theorem dLaw_law_557 : decode cLaw_law 557 = .ok (.aload_n 0, 1) := zfLaw_law_506.2.2.2.2.2.2.2.2.2.2.2.2.2.2.2.2.2.2.2.2.2.2.2.2.2.2.2.2.2.2.2.1
theorem zfLaw_law_558 : decode cLaw_law 558 = .ok (.iload 4, 2) ∧ decode cLaw_law 560 = .ok (.iconst 3, 1) ∧ decode cLaw_law 561 = .ok (.iadd, 1) ∧ decode cLaw_law 562 = .ok (.iaload, 1) ∧ decode cLaw_law 563 = .ok (.aload_n 3, 1) ∧ decode cLaw_law 564 = .ok (.invokestatic 193, 3) ∧ decode cLaw_law 567 = .ok (.istore 5, 2) ∧ decode cLaw_law 569 = .ok (.aload_n 2, 1) ∧ decode cLaw_law 570 = .ok (.aload_n 0, 1) ∧ decode cLaw_law 571 = .ok (.iload 4, 2) ∧ decode cLaw_law 573 = .ok (.iconst 1, 1) ∧ decode cLaw_law 574 = .ok (.iadd, 1) ∧ decode cLaw_law 575 = .ok (.iaload, 1) ∧ decode cLaw_law 576 = .ok (.aload_n 0, 1) ∧ decode cLaw_law 577 = .ok (.iload 4, 2) ∧ decode cLaw_law 579 = .ok (.iconst 2, 1) ∧ decode cLaw_law 580 = .ok (.iadd, 1) ∧ decode cLaw_law 581 = .ok (.iaload, 1) ∧ decode cLaw_law 582 = .ok (.aload_n 0, 1) ∧ decode cLaw_law 583 = .ok (.iload 4, 2) ∧ decode cLaw_law 585 = .ok (.iconst 3, 1) ∧ decode cLaw_law 586 = .ok (.iadd, 1) ∧ decode cLaw_law 587 = .ok (.iaload, 1) ∧ decode cLaw_law 588 = .ok (.invokevirtual 195, 3) ∧ decode cLaw_law 591 = .ok (.istore 6, 2) ∧ decode cLaw_law 593 = .ok (.aload_n 2, 1) ∧ decode cLaw_law 594 = .ok (.invokevirtual 179, 3) ∧ decode cLaw_law 597 = .ok (.iload 5, 2) ∧ decode cLaw_law 599 = .ok (.if_icmp .eq 5, 3) ∧ decode cLaw_law 602 = .ok (.iconst 0, 1) ∧ decode cLaw_law 603 = .ok (.ireturn, 1) ∧ decode cLaw_law 604 = .ok (.iload 5, 2) ∧ True := Jvm.Free.DS.facts (code := cLaw_law) 558 [(.iload 4, 2), (.iconst 3, 1), (.iadd, 1), (.iaload, 1), (.aload_n 3, 1), (.invokestatic 193, 3), (.istore 5, 2), (.aload_n 2, 1), (.aload_n 0, 1), (.iload 4, 2), (.iconst 1, 1), (.iadd, 1), (.iaload, 1), (.aload_n 0, 1), (.iload 4, 2), (.iconst 2, 1), (.iadd, 1), (.iaload, 1), (.aload_n 0, 1), (.iload 4, 2), (.iconst 3, 1), (.iadd, 1), (.iaload, 1), (.invokevirtual 195, 3), (.istore 6, 2), (.aload_n 2, 1), (.invokevirtual 179, 3), (.iload 5, 2), (.if_icmp .eq 5, 3), (.iconst 0, 1), (.ireturn, 1), (.iload 5, 2)] (by decide +kernel) (by decide +kernel)
theorem dLaw_law_558 : decode cLaw_law 558 = .ok (.iload 4, 2) := zfLaw_law_558.1
theorem dLaw_law_560 : decode cLaw_law 560 = .ok (.iconst 3, 1) := zfLaw_law_558.2.1
theorem dLaw_law_561 : decode cLaw_law 561 = .ok (.iadd, 1) := zfLaw_law_558.2.2.1
theorem dLaw_law_562 : decode cLaw_law 562 = .ok (.iaload, 1) := zfLaw_law_558.2.2.2.1
theorem dLaw_law_563 : decode cLaw_law 563 = .ok (.aload_n 3, 1) := zfLaw_law_558.2.2.2.2.1
theorem dLaw_law_564 : decode cLaw_law 564 = .ok (.invokestatic 193, 3) := zfLaw_law_558.2.2.2.2.2.1
theorem dLaw_law_567 : decode cLaw_law 567 = .ok (.istore 5, 2) := zfLaw_law_558.2.2.2.2.2.2.1
theorem dLaw_law_569 : decode cLaw_law 569 = .ok (.aload_n 2, 1) := zfLaw_law_558.2.2.2.2.2.2.2.1
theorem dLaw_law_570 : decode cLaw_law 570 = .ok (.aload_n 0, 1) := zfLaw_law_558.2.2.2.2.2.2.2.2.1
theorem dLaw_law_571 : decode cLaw_law 571 = .ok (.iload 4, 2) := zfLaw_law_558.2.2.2.2.2.2.2.2.2.1
theorem dLaw_law_573 : decode cLaw_law 573 = .ok (.iconst 1, 1) := zfLaw_law_558.2.2.2.2.2.2.2.2.2.2.1
theorem dLaw_law_574 : decode cLaw_law 574 = .ok (.iadd, 1) := zfLaw_law_558.2.2.2.2.2.2.2.2.2.2.2.1
theorem dLaw_law_575 : decode cLaw_law 575 = .ok (.iaload, 1) := zfLaw_law_558.2.2.2.2.2.2.2.2.2.2.2.2.1
theorem dLaw_law_576 : decode cLaw_law 576 = .ok (.aload_n 0, 1) := zfLaw_law_558.2.2.2.2.2.2.2.2.2.2.2.2.2.1
theorem dLaw_law_577 : decode cLaw_law 577 = .ok (.iload 4, 2) := zfLaw_law_558.2.2.2.2.2.2.2.2.2.2.2.2.2.2.1
theorem dLaw_law_579 : decode cLaw_law 579 = .ok (.iconst 2, 1) := zfLaw_law_558.2.2.2.2.2.2.2.2.2.2.2.2.2.2.2.1
theorem dLaw_law_580 : decode cLaw_law 580 = .ok (.iadd, 1) := zfLaw_law_558.2.2.2.2.2.2.2.2.2.2.2.2.2.2.2.2.1
theorem dLaw_law_581 : decode cLaw_law 581 = .ok (.iaload, 1) := zfLaw_law_558.2.2.2.2.2.2.2.2.2.2.2.2.2.2.2.2.2.1
theorem dLaw_law_582 : decode cLaw_law 582 = .ok (.aload_n 0, 1) := zfLaw_law_558.2.2.2.2.2.2.2.2.2.2.2.2.2.2.2.2.2.2.1
theorem dLaw_law_583 : decode cLaw_law 583 = .ok (.iload 4, 2) := zfLaw_law_558.2.2.2.2.2.2.2.2.2.2.2.2.2.2.2.2.2.2.2.1
theorem dLaw_law_585 : decode cLaw_law 585 = .ok (.iconst 3, 1) := zfLaw_law_558.2.2.2.2.2.2.2.2.2.2.2.2.2.2.2.2.2.2.2.2.1
theorem dLaw_law_586 : decode cLaw_law 586 = .ok (.iadd, 1) := zfLaw_law_558.2.2.2.2.2.2.2.2.2.2.2.2.2.2.2.2.2.2.2.2.2.1
theorem dLaw_law_587 : decode cLaw_law 587 = .ok (.iaload, 1) := zfLaw_law_558.2.2.2.2.2.2.2.2.2.2.2.2.2.2.2.2.2.2.2.2.2.2.1
theorem dLaw_law_588 : decode cLaw_law 588 = .ok (.invokevirtual 195, 3) := zfLaw_law_558.2.2.2.2.2.2.2.2.2.2.2.2.2.2.2.2.2.2.2.2.2.2.2.1
theorem dLaw_law_591 : decode cLaw_law 591 = .ok (.istore 6, 2) := zfLaw_law_558.2.2.2.2.2.2.2.2.2.2.2.2.2.2.2.2.2.2.2.2.2.2.2.2.1
theorem dLaw_law_593 : decode cLaw_law 593 = .ok (.aload_n 2, 1) := zfLaw_law_558.2.2.2.2.2.2.2.2.2.2.2.2.2.2.2.2.2.2.2.2.2.2.2.2.2.1
theorem dLaw_law_594 : decode cLaw_law 594 = .ok (.invokevirtual 179, 3) := zfLaw_law_558.2.2.2.2.2.2.2.2.2.2.2.2.2.2.2.2.2.2.2.2.2.2.2.2.2.2.1
theorem dLaw_law_597 : decode cLaw_law 597 = .ok (.iload 5, 2) := zfLaw_law_558.2.2.2.2.2.2.2.2.2.2.2.2.2.2.2.2.2.2.2.2.2.2.2.2.2.2.2.1
theorem dLaw_law_599 : decode cLaw_law 599 = .ok (.if_icmp .eq 5, 3) := zfLaw_law_558.2.2.2.2.2.2.2.2.2.2.2.2.2.2.2.2.2.2.2.2.2.2.2.2.2.2.2.2.1
theorem dLaw_law_602 : decode cLaw_law 602 = .ok (.iconst 0, 1) := zfLaw_law_558.2.2.2.2.2.2.2.2.2.2.2.2.2.2.2.2.2.2.2.2.2.2.2.2.2.2.2.2.2.1
theorem dLaw_law_603 : decode cLaw_law 603 = .ok (.ireturn, 1) := zfLaw_law_558.2.2.2.2.2.2.2.2.2.2.2.2.2.2.2.2.2.2.2.2.2.2.2.2.2.2.2.2.2.2.1
theorem dLaw_law_604 : decode cLaw_law 604 = .ok (.iload 5, 2) := zfLaw_law_558.2.2.2.2.2.2.2.2.2.2.2.2.2.2.2.2.2.2.2.2.2.2.2.2.2.2.2.2.2.2.2.1
theorem zfLaw_law_606 : decode cLaw_law 606 = .ok (.ifCond .ne 16, 3) ∧ decode cLaw_law 609 = .ok (.aload_n 3, 1) ∧ decode cLaw_law 610 = .ok (.getfield 13, 3) ∧ decode cLaw_law 613 = .ok (.iload 6, 2) ∧ decode cLaw_law 615 = .ok (.i2l, 1) ∧ decode cLaw_law 616 = .ok (.lcmp, 1) ∧ decode cLaw_law 617 = .ok (.ifCond .eq 5, 3) ∧ decode cLaw_law 620 = .ok (.iconst 0, 1) ∧ decode cLaw_law 621 = .ok (.ireturn, 1) ∧ decode cLaw_law 622 = .ok (.goto 2832, 3) ∧ decode cLaw_law 625 = .ok (.aload_n 1, 1) ∧ decode cLaw_law 626 = .ok (.aload_n 0, 1) ∧ decode cLaw_law 627 = .ok (.iload 4, 2) ∧ decode cLaw_law 629 = .ok (.iconst 1, 1) ∧ decode cLaw_law 630 = .ok (.iadd, 1) ∧ decode cLaw_law 631 = .ok (.iaload, 1) ∧ decode cLaw_law 632 = .ok (.aload_n 0, 1) ∧ decode cLaw_law 633 = .ok (.iload 4, 2) ∧ decode cLaw_law 635 = .ok (.iconst 2, 1) ∧ decode cLaw_law 636 = .ok (.iadd, 1) ∧ decode cLaw_law 637 = .ok (.iaload, 1) ∧ decode cLaw_law 638 = .ok (.aload_n 0, 1) ∧ decode cLaw_law 639 = .ok (.iload 4, 2) ∧ decode cLaw_law 641 = .ok (.iconst 3, 1) ∧ decode cLaw_law 642 = .ok (.iadd, 1) ∧ decode cLaw_law 643 = .ok (.iaload, 1) ∧ decode cLaw_law 644 = .ok (.aload_n 3, 1) ∧ decode cLaw_law 645 = .ok (.invokestatic 196, 3) ∧ decode cLaw_law 648 = .ok (.istore 5, 2) ∧ decode cLaw_law 650 = .ok (.aload_n 2, 1) ∧ decode cLaw_law 651 = .ok (.aload_n 0, 1) ∧ decode cLaw_law 652 = .ok (.iload 4, 2) ∧ True := Jvm.Free.DS.facts (code := cLaw_law) 606 [(.ifCond .ne 16, 3), (.aload_n 3, 1), (.getfield 13, 3), (.iload 6, 2), (.i2l, 1), (.lcmp, 1), (.ifCond .eq 5, 3), (.iconst 0, 1), (.ireturn, 1), (.goto 2832, 3), (.aload_n 1, 1), (.aload_n 0, 1), (.iload 4, 2), (.iconst 1, 1), (.iadd, 1), (.iaload, 1), (.aload_n 0, 1), (.iload 4, 2), (.iconst 2, 1), (.iadd, 1), (.iaload, 1), (.aload_n 0, 1), (.iload 4, 2), (.iconst 3, 1), (.iadd, 1), (.iaload, 1), (.aload_n 3, 1), (.invokestatic 196, 3), (.istore 5, 2), (.aload_n 2, 1), (.aload_n 0, 1), (.iload 4, 2)] (by decide +kernel) (by decide +kernel)
theorem dLaw_law_606 : decode cLaw_law 606 = .ok (.ifCond .ne 16, 3) := zfLaw_law_606.1
theorem dLaw_law_609 : decode cLaw_law 609 = .ok (.aload_n 3, 1) := zfLaw_law_606.2.1
theorem dLaw_law_610 : decode cLaw_law 610 = .ok (.getfield 13, 3) := zfLaw_law_606.2.2.1
theorem dLaw_law_613 : decode cLaw_law 613 = .ok (.iload 6, 2) := zfLaw_law_606.2.2.2.1
theorem dLaw_law_615 : decode cLaw_law 615 = .ok (.i2l, 1) := zfLaw_law_606.2.2.2.2.1
theorem dLaw_law_616 : decode cLaw_law 616 = .ok (.lcmp, 1) := zfLaw_law_606.2.2.2.2.2.1
theorem dLaw_law_617 : decode cLaw_law 617 = .ok (.ifCond .eq 5, 3) := zfLaw_law_606.2.2.2.2.2.2.1
theorem dLaw_law_620 : decode cLaw_law 620 = .ok (.iconst 0, 1) := zfLaw_law_606.2.2.2.2.2.2.2.1
theorem dLaw_law_621 : decode cLaw_law 621 = .ok (.ireturn, 1) := zfLaw_law_606.2.2.2.2.2.2.2.2.1
theorem dLaw_law_622 : decode cLaw_law 622 = .ok (.goto 2832, 3) := zfLaw_law_606.2.2.2.2.2.2.2.2.2.1
theorem dLaw_law_625 : decode cLaw_law 625 = .ok (.aload_n 1, 1) := zfLaw_law_606.2.2.2.2.2.2.2.2.2.2.1
theorem dLaw_law_626 : decode cLaw_law 626 = .ok (.aload_n 0, 1) := zfLaw_law_606.2.2.2.2.2.2.2.2.2.2.2.1
theorem dLaw_law_627 : decode cLaw_law 627 = .ok (.iload 4, 2) := zfLaw_law_606.2.2.2.2.2.2.2.2.2.2.2.2.1
theorem dLaw_law_629 : decode cLaw_law 629 = .ok (.iconst 1, 1) := zfLaw_law_606.2.2.2.2.2.2.2.2.2.2.2.2.2.1
theorem dLaw_law_630 : decode cLaw_law 630 = .ok (.iadd, 1) := zfLaw_law_606.2.2.2.2.2.2.2.2.2.2.2.2.2.2.1
theorem dLaw_law_631 : decode cLaw_law 631 = .ok (.iaload, 1) := zfLaw_law_606.2.2.2.2.2.2.2.2.2.2.2.2.2.2.2.1
theorem dLaw_law_632 : decode cLaw_law 632 = .ok (.aload_n 0, 1) := zfLaw_law_606.2.2.2.2.2.2.2.2.2.2.2.2.2.2.2.2.1
theorem dLaw_law_633 : decode cLaw_law 633 = .ok (.iload 4, 2) := zfLaw_law_606.2.2.2.2.2.2.2.2.2.2.2.2.2.2.2.2.2.1
theorem dLaw_law_635 : decode cLaw_law 635 = .ok (.iconst 2, 1) := zfLaw_law_606.2.2.2.2.2.2.2.2.2.2.2.2.2.2.2.2.2.2.1
theorem dLaw_law_636 : decode cLaw_law 636 = .ok (.iadd, 1) := zfLaw_law_606.2.2.2.2.2.2.2.2.2.2.2.2.2.2.2.2.2.2.2.1
theorem dLaw_law_637 : decode cLaw_law 637 = .ok (.iaload, 1) := zfLaw_law_606.2.2.2.2.2.2.2.2.2.2.2.2.2.2.2.2.2.2.2.2.1
theorem dLaw_law_638 : decode cLaw_law 638 = .ok (.aload_n 0, 1) := zfLaw_law_606.2.2.2.2.2.2.2.2.2.2.2.2.2.2.2.2.2.2.2.2.2.1
theorem dLaw_law_639 : decode cLaw_law 639 = .ok (.iload 4, 2) := zfLaw_law_606.2.2.2.2.2.2.2.2.2.2.2.2.2.2.2.2.2.2.2.2.2.2.1
theorem dLaw_law_641 : decode cLaw_law 641 = .ok (.iconst 3, 1) := zfLaw_law_606.2.2.2.2.2.2.2.2.2.2.2.2.2.2.2.2.2.2.2.2.2.2.2.1
theorem dLaw_law_642 : decode cLaw_law 642 = .ok (.iadd, 1) := zfLaw_law_606.2.2.2.2.2.2.2.2.2.2.2.2.2.2.2.2.2.2.2.2.2.2.2.2.1
theorem dLaw_law_643 : decode cLaw_law 643 = .ok (.iaload, 1) := zfLaw_law_606.2.2.2.2.2.2.2.2.2.2.2.2.2.2.2.2.2.2.2.2.2.2.2.2.2.1
theorem dLaw_law_644 : decode cLaw_law 644 = .ok (.aload_n 3, 1) := zfLaw_law_606.2.2.2.2.2.2.2.2.2.2.2.2.2.2.2.2.2.2.2.2.2.2.2.2.2.2.1
theorem dLaw_law_645 : decode cLaw_law 645 = .ok (.invokestatic 196, 3) := zfLaw_law_606.2.2.2.2.2.2.2.2.2.2.2.2.2.2.2.2.2.2.2.2.2.2.2.2.2.2.2.1
theorem dLaw_law_648 : decode cLaw_law 648 = .ok (.istore 5, 2) := zfLaw_law_606.2.2.2.2.2.2.2.2.2.2.2.2.2.2.2.2.2.2.2.2.2.2.2.2.2.2.2.2.1
theorem dLaw_law_650 : decode cLaw_law 650 = .ok (.aload_n 2, 1) := zfLaw_law_606.2.2.2.2.2.2.2.2.2.2.2.2.2.2.2.2.2.2.2.2.2.2.2.2.2.2.2.2.2.1
theorem dLaw_law_651 : decode cLaw_law 651 = .ok (.aload_n 0, 1) := zfLaw_law_606.2.2.2.2.2.2.2.2.2.2.2.2.2.2.2.2.2.2.2.2.2.2.2.2.2.2.2.2.2.2.1
theorem dLaw_law_652 : decode cLaw_law 652 = .ok (.iload 4, 2) := zfLaw_law_606.2.2.2.2.2.2.2.2.2.2.2.2.2.2.2.2.2.2.2.2.2.2.2.2.2.2.2.2.2.2.2.1
theorem zfLaw_law_654 : decode cLaw_law 654 = .ok (.iconst 1, 1) ∧ decode cLaw_law 655 = .ok (.iadd, 1) ∧ decode cLaw_law 656 = .ok (.iaload, 1) ∧ decode cLaw_law 657 = .ok (.aload_n 0, 1) ∧ decode cLaw_law 658 = .ok (.iload 4, 2) ∧ decode cLaw_law 660 = .ok (.iconst 2, 1) ∧ decode cLaw_law 661 = .ok (.iadd, 1) ∧ decode cLaw_law 662 = .ok (.iaload, 1) ∧ decode cLaw_law 663 = .ok (.aload_n 0, 1) ∧ decode cLaw_law 664 = .ok (.iload 4, 2) ∧ decode cLaw_law 666 = .ok (.iconst 3, 1) ∧ decode cLaw_law 667 = .ok (.iadd, 1) ∧ decode cLaw_law 668 = .ok (.iaload, 1) ∧ decode cLaw_law 669 = .ok (.invokevirtual 198, 3) ∧ decode cLaw_law 672 = .ok (.istore 6, 2) ∧ decode cLaw_law 674 = .ok (.aload_n 2, 1) ∧ decode cLaw_law 675 = .ok (.invokevirtual 179, 3) ∧ decode cLaw_law 678 = .ok (.iload 5, 2) ∧ decode cLaw_law 680 = .ok (.if_icmp .eq 5, 3) ∧ decode cLaw_law 683 = .ok (.iconst 0, 1) ∧ decode cLaw_law 684 = .ok (.ireturn, 1) ∧ decode cLaw_law 685 = .ok (.iload 5, 2) ∧ decode cLaw_law 687 = .ok (.ifCond .ne 16, 3) ∧ decode cLaw_law 690 = .ok (.aload_n 3, 1) ∧ decode cLaw_law 691 = .ok (.getfield 13, 3) ∧ decode cLaw_law 694 = .ok (.iload 6, 2) ∧ decode cLaw_law 696 = .ok (.i2l, 1) ∧ decode cLaw_law 697 = .ok (.lcmp, 1) ∧ decode cLaw_law 698 = .ok (.ifCond .eq 5, 3) ∧ decode cLaw_law 701 = .ok (.iconst 0, 1) ∧ decode cLaw_law 702 = .ok (.ireturn, 1) ∧ decode cLaw_law 703 = .ok (.goto 2751, 3) ∧ True := Jvm.Free.DS.facts (code := cLaw_law) 654 [(.iconst 1, 1), (.iadd, 1), (.iaload, 1), (.aload_n 0, 1), (.iload 4, 2), (.iconst 2, 1), (.iadd, 1), (.iaload, 1), (.aload_n 0, 1), (.iload 4, 2), (.iconst 3, 1), (.iadd, 1), (.iaload, 1), (.invokevirtual 198, 3), (.istore 6, 2), (.aload_n 2, 1), (.invokevirtual 179, 3), (.iload 5, 2), (.if_icmp .eq 5, 3), (.iconst 0, 1), (.ireturn, 1), (.iload 5, 2), (.ifCond .ne 16, 3), (.aload_n 3, 1), (.getfield 13, 3), (.iload 6, 2), (.i2l, 1), (.lcmp, 1), (.ifCond .eq 5, 3), (.iconst 0, 1), (.ireturn, 1), (.goto 2751, 3)] (by decide +kernel) (by decide +kernel)
theorem dLaw_law_654 : decode cLaw_law 654 = .ok (.iconst 1, 1) := zfLaw_law_654.1
theorem dLaw_law_655 : decode cLaw_law 655 = .ok (.iadd, 1) := zfLaw_law_654.2.1
theorem dLaw_law_656 : decode cLaw_law 656 = .ok (.iaload, 1) := zfLaw_law_654.2.2.1
theorem dLaw_law_657 : decode cLaw_law 657 = .ok (.aload_n 0, 1) := zfLaw_law_654.2.2.2.1
theorem dLaw_law_658 : decode cLaw_law 658 = .ok (.iload 4, 2) := zfLaw_law_654.2.2.2.2.1
theorem dLaw_law_660 : decode cLaw_law 660 = .ok (.iconst 2, 1) := zfLaw_law_654.2.2.2.2.2.1
theorem dLaw_law_661 : decode cLaw_law 661 = .ok (.iadd, 1) := zfLaw_law_654.2.2.2.2.2.2.1
theorem dLaw_law_662 : decode cLaw_law 662 = .ok (.iaload, 1) := zfLaw_law_654.2.2.2.2.2.2.2.1
theorem dLaw_law_663 : decode cLaw_law 663 = .ok (.aload_n 0, 1) := zfLaw_law_654.2.2.2.2.2.2.2.2.1
theorem dLaw_law_664 : decode cLaw_law 664 = .ok (.iload 4, 2) := zfLaw_law_654.2.2.2.2.2.2.2.2.2.1
theorem dLaw_law_666 : decode cLaw_law 666 = .ok (.iconst 3, 1) := zfLaw_law_654.2.2.2.2.2.2.2.2.2.2.1
theorem dLaw_law_667 : decode cLaw_law 667 = .ok (.iadd, 1) := zfLaw_law_654.2.2.2.2.2.2.2.2.2.2.2.1
theorem dLaw_law_668 : decode cLaw_law 668 = .ok (.iaload, 1) := zfLaw_law_654.2.2.2.2.2.2.2.2.2.2.2.2.1
theorem dLaw_law_669 : decode cLaw_law 669 = .ok (.invokevirtual 198, 3) := zfLaw_law_654.2.2.2.2.2.2.2.2.2.2.2.2.2.1
theorem dLaw_law_672 : decode cLaw_law 672 = .ok (.istore 6, 2) := zfLaw_law_654.2.2.2.2.2.2.2.2.2.2.2.2.2.2.1
theorem dLaw_law_674 : decode cLaw_law 674 = .ok (.aload_n 2, 1) := zfLaw_law_654.2.2.2.2.2.2.2.2.2.2.2.2.2.2.2.1
theorem dLaw_law_675 : decode cLaw_law 675 = .ok (.invokevirtual 179, 3) := zfLaw_law_654.2.2.2.2.2.2.2.2.2.2.2.2.2.2.2.2.1
theorem dLaw_law_678 : decode cLaw_law 678 = .ok (.iload 5, 2) := zfLaw_law_654.2.2.2.2.2.2.2.2.2.2.2.2.2.2.2.2.2.1
theorem dLaw_law_680 : decode cLaw_law 680 = .ok (.if_icmp .eq 5, 3) := zfLaw_law_654.2.2.2.2.2.2.2.2.2.2.2.2.2.2.2.2.2.2.1
theorem dLaw_law_683 : decode cLaw_law 683 = .ok (.iconst 0, 1) := zfLaw_law_654.2.2.2.2.2.2.2.2.2.2.2.2.2.2.2.2.2.2.2.1
theorem dLaw_law_684 : decode cLaw_law 684 = .ok (.ireturn, 1) := zfLaw_law_654.2.2.2.2.2.2.2.2.2.2.2.2.2.2.2.2.2.2.2.2.1
theorem dLaw_law_685 : decode cLaw_law 685 = .ok (.iload 5, 2) := zfLaw_law_654.2.2.2.2.2.2.2.2.2.2.2.2.2.2.2.2.2.2.2.2.2.1
theorem dLaw_law_687 : decode cLaw_law 687 = .ok (.ifCond .ne 16, 3) := zfLaw_law_654.2.2.2.2.2.2.2.2.2.2.2.2.2.2.2.2.2.2.2.2.2.2.1
theorem dLaw_law_690 : decode cLaw_law 690 = .ok (.aload_n 3, 1) := zfLaw_law_654.2.2.2.2.2.2.2.2.2.2.2.2.2.2.2.2.2.2.2.2.2.2.2.1
theorem dLaw_law_691 : decode cLaw_law 691 = .ok (.getfield 13, 3) := zfLaw_law_654.2.2.2.2.2.2.2.2.2.2.2.2.2.2.2.2.2.2.2.2.2.2.2.2.1
theorem dLaw_law_694 : decode cLaw_law 694 = .ok (.iload 6, 2) := zfLaw_law_654.2.2.2.2.2.2.2.2.2.2.2.2.2.2.2.2.2.2.2.2.2.2.2.2.2.1
theorem dLaw_law_696 : decode cLaw_law 696 = .ok (.i2l, 1) := zfLaw_law_654.2.2.2.2.2.2.2.2.2.2.2.2.2.2.2.2.2.2.2.2.2.2.2.2.2.2.1
theorem dLaw_law_697 : decode cLaw_law 697 = .ok (.lcmp, 1) := zfLaw_law_654.2.2.2.2.2.2.2.2.2.2.2.2.2.2.2.2.2.2.2.2.2.2.2.2.2.2.2.1
theorem dLaw_law_698 : decode cLaw_law 698 = .ok (.ifCond .eq 5, 3) := zfLaw_law_654.2.2.2.2.2.2.2.2.2.2.2.2.2.2.2.2.2.2.2.2.2.2.2.2.2.2.2.2.1
theorem dLaw_law_701 : decode cLaw_law 701 = .ok (.iconst 0, 1) := zfLaw_law_654.2.2.2.2.2.2.2.2.2.2.2.2.2.2.2.2.2.2.2.2.2.2.2.2.2.2.2.2.2.1
theorem dLaw_law_702 : decode cLaw_law 702 = .ok (.ireturn, 1) := zfLaw_law_654.2.2.2.2.2.2.2.2.2.2.2.2.2.2.2.2.2.2.2.2.2.2.2.2.2.2.2.2.2.2.1
theorem dLaw_law_703 : decode cLaw_law 703 = .ok (.goto 2751, 3) := zfLaw_law_654.2.2.2.2.2.2.2.2.2.2.2.2.2.2.2.2.2.2.2.2.2.2.2.2.2.2.2.2.2.2.2.1
theorem zfLaw_law_706 : decode cLaw_law 706 = .ok (.aload_n 1, 1) ∧ decode cLaw_law 707 = .ok (.aload_n 0, 1) ∧ decode cLaw_law 708 = .ok (.iload 4, 2) ∧ decode cLaw_law 710 = .ok (.iconst 1, 1) ∧ decode cLaw_law 711 = .ok (.iadd, 1) ∧ decode cLaw_law 712 = .ok (.iaload, 1) ∧ decode cLaw_law 713 = .ok (.aload_n 0, 1) ∧ decode cLaw_law 714 = .ok (.iload 4, 2) ∧ decode cLaw_law 716 = .ok (.iconst 2, 1) ∧ decode cLaw_law 717 = .ok (.iadd, 1) ∧ decode cLaw_law 718 = .ok (.iaload, 1) ∧ decode cLaw_law 719 = .ok (.aload_n 3, 1) ∧ decode cLaw_law 720 = .ok (.invokestatic 199, 3) ∧ decode cLaw_law 723 = .ok (.istore 5, 2) ∧ decode cLaw_law 725 = .ok (.aload_n 2, 1) ∧ decode cLaw_law 726 = .ok (.aload_n 0, 1) ∧ decode cLaw_law 727 = .ok (.iload 4, 2) ∧ decode cLaw_law 729 = .ok (.iconst 1, 1) ∧ decode cLaw_law 730 = .ok (.iadd, 1) ∧ decode cLaw_law 731 = .ok (.iaload, 1) ∧ decode cLaw_law 732 = .ok (.aload_n 0, 1) ∧ decode cLaw_law 733 = .ok (.iload 4, 2) ∧ decode cLaw_law 735 = .ok (.iconst 2, 1) ∧ decode cLaw_law 736 = .ok (.iadd, 1) ∧ decode cLaw_law 737 = .ok (.iaload, 1) ∧ decode cLaw_law 738 = .ok (.invokevirtual 201, 3) ∧ decode cLaw_law 741 = .ok (.istore 6, 2) ∧ decode cLaw_law 743 = .ok (.aload_n 2, 1) ∧ decode cLaw_law 744 = .ok (.invokevirtual 179, 3) ∧ decode cLaw_law 747 = .ok (.iload 5, 2) ∧ decode cLaw_law 749 = .ok (.if_icmp .eq 5, 3) ∧ decode cLaw_law 752 = .ok (.iconst 0, 1) ∧ True := Jvm.Free.DS.facts (code := cLaw_law) 706 [(.aload_n 1, 1), (.aload_n 0, 1), (.iload 4, 2), (.iconst 1, 1), (.iadd, 1), (.iaload, 1), (.aload_n 0, 1), (.iload 4, 2), (.iconst 2, 1), (.iadd, 1), (.iaload, 1), (.aload_n 3, 1), (.invokestatic 199, 3), (.istore 5, 2), (.aload_n 2, 1), (.aload_n 0, 1), (.iload 4, 2), (.iconst 1, 1), (.iadd, 1), (.iaload, 1), (.aload_n 0, 1), (.iload 4, 2), (.iconst 2, 1), (.iadd, 1), (.iaload, 1), (.invokevirtual 201, 3), (.istore 6, 2), (.aload_n 2, 1), (.invokevirtual 179, 3), (.iload 5, 2), (.if_icmp .eq 5, 3), (.iconst 0, 1)] (by decide +kernel) (by decide +kernel)
theorem dLaw_law_706 : decode cLaw_law 706 = .ok (.aload_n 1, 1) := zfLaw_law_706.1
theorem dLaw_law_707 : decode cLaw_law 707 = .ok (.aload_n 0, 1) := zfLaw_law_706.2.1
theorem dLaw_law_708 : decode cLaw_law 708 = .ok (.iload 4, 2) := zfLaw_law_706.2.2.1
theorem dLaw_law_710 : decode cLaw_law 710 = .ok (.iconst 1, 1) := zfLaw_law_706.2.2.2.1
theorem dLaw_law_711 : decode cLaw_law 711 = .ok (.iadd, 1) := zfLaw_law_706.2.2.2.2.1
theorem dLaw_law_712 : decode cLaw_law 712 = .ok (.iaload, 1) := zfLaw_law_706.2.2.2.2.2.1
theorem dLaw_law_713 : decode cLaw_law 713 = .ok (.aload_n 0, 1) := zfLaw_law_706.2.2.2.2.2.2.1
theorem dLaw_law_714 : decode cLaw_law 714 = .ok (.iload 4, 2) := zfLaw_law_706.2.2.2.2.2.2.2.1
theorem dLaw_law_716 : decode cLaw_law 716 = .ok (.iconst 2, 1) := zfLaw_law_706.2.2.2.2.2.2.2.2.1
theorem dLaw_law_717 : decode cLaw_law 717 = .ok (.iadd, 1) := zfLaw_law_706.2.2.2.2.2.2.2.2.2.1
theorem dLaw_law_718 : decode cLaw_law 718 = .ok (.iaload, 1) := zfLaw_law_706.2.2.2.2.2.2.2.2.2.2.1
theorem dLaw_law_719 : decode cLaw_law 719 = .ok (.aload_n 3, 1) := zfLaw_law_706.2.2.2.2.2.2.2.2.2.2.2.1
theorem dLaw_law_720 : decode cLaw_law 720 = .ok (.invokestatic 199, 3) := zfLaw_law_706.2.2.2.2.2.2.2.2.2.2.2.2.1
theorem dLaw_law_723 : decode cLaw_law 723 = .ok (.istore 5, 2) := zfLaw_law_706.2.2.2.2.2.2.2.2.2.2.2.2.2.1
theorem dLaw_law_725 : decode cLaw_law 725 = .ok (.aload_n 2, 1) := zfLaw_law_706.2.2.2.2.2.2.2.2.2.2.2.2.2.2.1
theorem dLaw_law_726 : decode cLaw_law 726 = .ok (.aload_n 0, 1) := zfLaw_law_706.2.2.2.2.2.2.2.2.2.2.2.2.2.2.2.1
theorem dLaw_law_727 : decode cLaw_law 727 = .ok (.iload 4, 2) := zfLaw_law_706.2.2.2.2.2.2.2.2.2.2.2.2.2.2.2.2.1
theorem dLaw_law_729 : decode cLaw_law 729 = .ok (.iconst 1, 1) := zfLaw_law_706.2.2.2.2.2.2.2.2.2.2.2.2.2.2.2.2.2.1
theorem dLaw_law_730 : decode cLaw_law 730 = .ok (.iadd, 1) := zfLaw_law_706.2.2.2.2.2.2.2.2.2.2.2.2.2.2.2.2.2.2.1
theorem dLaw_law_731 : decode cLaw_law 731 = .ok (.iaload, 1) := zfLaw_law_706.2.2.2.2.2.2.2.2.2.2.2.2.2.2.2.2.2.2.2.1
theorem dLaw_law_732 : decode cLaw_law 732 = .ok (.aload_n 0, 1) := zfLaw_law_706.2.2.2.2.2.2.2.2.2.2.2.2.2.2.2.2.2.2.2.2.1
theorem dLaw_law_733 : decode cLaw_law 733 = .ok (.iload 4, 2) := zfLaw_law_706.2.2.2.2.2.2.2.2.2.2.2.2.2.2.2.2.2.2.2.2.2.1
theorem dLaw_law_735 : decode cLaw_law 735 = .ok (.iconst 2, 1) := zfLaw_law_706.2.2.2.2.2.2.2.2.2.2.2.2.2.2.2.2.2.2.2.2.2.2.1
theorem dLaw_law_736 : decode cLaw_law 736 = .ok (.iadd, 1) := zfLaw_law_706.2.2.2.2.2.2.2.2.2.2.2.2.2.2.2.2.2.2.2.2.2.2.2.1
theorem dLaw_law_737 : decode cLaw_law 737 = .ok (.iaload, 1) := zfLaw_law_706.2.2.2.2.2.2.2.2.2.2.2.2.2.2.2.2.2.2.2.2.2.2.2.2.1
theorem dLaw_law_738 : decode cLaw_law 738 = .ok (.invokevirtual 201, 3) := zfLaw_law_706.2.2.2.2.2.2.2.2.2.2.2.2.2.2.2.2.2.2.2.2.2.2.2.2.2.1
theorem dLaw_law_741 : decode cLaw_law 741 = .ok (.istore 6, 2) := zfLaw_law_706.2.2.2.2.2.2.2.2.2.2.2.2.2.2.2.2.2.2.2.2.2.2.2.2.2.2.1
theorem dLaw_law_743 : decode cLaw_law 743 = .ok (.aload_n 2, 1) := zfLaw_law_706.2.2.2.2.2.2.2.2.2.2.2.2.2.2.2.2.2.2.2.2.2.2.2.2.2.2.2.1
theorem dLaw_law_744 : decode cLaw_law 744 = .ok (.invokevirtual 179, 3) := zfLaw_law_706.2.2.2.2.2.2.2.2.2.2.2.2.2.2.2.2.2.2.2.2.2.2.2.2.2.2.2.2.1
theorem dLaw_law_747 : decode cLaw_law 747 = .ok (.iload 5, 2) := zfLaw_law_706.2.2.2.2.2.2.2.2.2.2.2.2.2.2.2.2.2.2.2.2.2.2.2.2.2.2.2.2.2.1
theorem dLaw_law_749 : decode cLaw_law 749 = .ok (.if_icmp .eq 5, 3) := zfLaw_law_706.2.2.2.2.2.2.2.2.2.2.2.2.2.2.2.2.2.2.2.2.2.2.2.2.2.2.2.2.2.2.1
theorem dLaw_law_752 : decode cLaw_law 752 = .ok (.iconst 0, 1) := zfLaw_law_706.2.2.2.2.2.2.2.2.2.2.2.2.2.2.2.2.2.2.2.2.2.2.2.2.2.2.2.2.2.2.2.1
theorem zfLaw_law_753 : decode cLaw_law 753 = .ok (.ireturn, 1) ∧ decode cLaw_law 754 = .ok (.iload 5, 2) ∧ decode cLaw_law 756 = .ok (.ifCond .ne 16, 3) ∧ decode cLaw_law 759 = .ok (.aload_n 3, 1) ∧ decode cLaw_law 760 = .ok (.getfield 13, 3) ∧ decode cLaw_law 763 = .ok (.iload 6, 2) ∧ decode cLaw_law 765 = .ok (.i2l, 1) ∧ decode cLaw_law 766 = .ok (.lcmp, 1) ∧ decode cLaw_law 767 = .ok (.ifCond .eq 5, 3) ∧ decode cLaw_law 770 = .ok (.iconst 0, 1) ∧ decode cLaw_law 771 = .ok (.ireturn, 1) ∧ decode cLaw_law 772 = .ok (.goto 2682, 3) ∧ decode cLaw_law 775 = .ok (.aload_n 1, 1) ∧ decode cLaw_law 776 = .ok (.aload_n 0, 1) ∧ decode cLaw_law 777 = .ok (.iload 4, 2) ∧ decode cLaw_law 779 = .ok (.iconst 1, 1) ∧ decode cLaw_law 780 = .ok (.iadd, 1) ∧ decode cLaw_law 781 = .ok (.iaload, 1) ∧ decode cLaw_law 782 = .ok (.aload_n 0, 1) ∧ decode cLaw_law 783 = .ok (.iload 4, 2) ∧ decode cLaw_law 785 = .ok (.iconst 2, 1) ∧ decode cLaw_law 786 = .ok (.iadd, 1) ∧ decode cLaw_law 787 = .ok (.iaload, 1) ∧ decode cLaw_law 788 = .ok (.aload_n 0, 1) ∧ decode cLaw_law 789 = .ok (.iload 4, 2) ∧ decode cLaw_law 791 = .ok (.iconst 3, 1) ∧ decode cLaw_law 792 = .ok (.iadd, 1) ∧ decode cLaw_law 793 = .ok (.iaload, 1) ∧ decode cLaw_law 794 = .ok (.ifCond .eq 7, 3) ∧ decode cLaw_law 797 = .ok (.iconst 1, 1) ∧ decode cLaw_law 798 = .ok (.goto 4, 3) ∧ decode cLaw_law 801 = .ok (.iconst 0, 1) ∧ True := Jvm.Free.DS.facts (code := cLaw_law) 753 [(.ireturn, 1), (.iload 5, 2), (.ifCond .ne 16, 3), (.aload_n 3, 1), (.getfield 13, 3), (.iload 6, 2), (.i2l, 1), (.lcmp, 1), (.ifCond .eq 5, 3), (.iconst 0, 1), (.ireturn, 1), (.goto 2682, 3), (.aload_n 1, 1), (.aload_n 0, 1), (.iload 4, 2), (.iconst 1, 1), (.iadd, 1), (.iaload, 1), (.aload_n 0, 1), (.iload 4, 2), (.iconst 2, 1), (.iadd, 1), (.iaload, 1), (.aload_n 0, 1), (.iload 4, 2), (.iconst 3, 1), (.iadd, 1), (.iaload, 1), (.ifCond .eq 7, 3), (.iconst 1, 1), (.goto 4, 3), (.iconst 0, 1)] (by decide +kernel) (by decide +kernel)
theorem dLaw_law_753 : decode cLaw_law 753 = .ok (.ireturn, 1) := zfLaw_law_753.1
theorem dLaw_law_754 : decode cLaw_law 754 = .ok (.iload 5, 2) := zfLaw_law_753.2.1
theorem dLaw_law_756 : decode cLaw_law 756 = .ok (.ifCond .ne 16, 3) := zfLaw_law_753.2.2.1
theorem dLaw_law_759 : decode cLaw_law 759 = .ok (.aload_n 3, 1) := zfLaw_law_753.2.2.2.1
theorem dLaw_law_760 : decode cLaw_law 760 = .ok (.getfield 13, 3) := zfLaw_law_753.2.2.2.2.1
theorem dLaw_law_763 : decode cLaw_law 763 = .ok (.iload 6, 2) := zfLaw_law_753.2.2.2.2.2.1
theorem dLaw_law_765 : decode cLaw_law 765 = .ok (.i2l, 1) := zfLaw_law_753.2.2.2.2.2.2.1
theorem dLaw_law_766 : decode cLaw_law 766 = .ok (.lcmp, 1) := zfLaw_law_753.2.2.2.2.2.2.2.1
theorem dLaw_law_767 : decode cLaw_law 767 = .ok (.ifCond .eq 5, 3) := zfLaw_law_753.2.2.2.2.2.2.2.2.1
theorem dLaw_law_770 : decode cLaw_law 770 = .ok (.iconst 0, 1) := zfLaw_law_753.2.2.2.2.2.2.2.2.2.1
theorem dLaw_law_771 : decode cLaw_law 771 = .ok (.ireturn, 1) := zfLaw_law_753.2.2.2.2.2.2.2.2.2.2.1
theorem dLaw_law_772 : decode cLaw_law 772 = .ok (.goto 2682, 3) := zfLaw_law_753.2.2.2.2.2.2.2.2.2.2.2.1
theorem dLaw_law_775 : decode cLaw_law 775 = .ok (.aload_n 1, 1) := zfLaw_law_753.2.2.2.2.2.2.2.2.2.2.2.2.1
theorem dLaw_law_776 : decode cLaw_law 776 = .ok (.aload_n 0, 1) := zfLaw_law_753.2.2.2.2.2.2.2.2.2.2.2.2.2.1
theorem dLaw_law_777 : decode cLaw_law 777 = .ok (.iload 4, 2) := zfLaw_law_753.2.2.2.2.2.2.2.2.2.2.2.2.2.2.1
theorem dLaw_law_779 : decode cLaw_law 779 = .ok (.iconst 1, 1) := zfLaw_law_753.2.2.2.2.2.2.2.2.2.2.2.2.2.2.2.1
theorem dLaw_law_780 : decode cLaw_law 780 = .ok (.iadd, 1) := zfLaw_law_753.2.2.2.2.2.2.2.2.2.2.2.2.2.2.2.2.1
theorem dLaw_law_781 : decode cLaw_law 781 = .ok (.iaload, 1) := zfLaw_law_753.2.2.2.2.2.2.2.2.2.2.2.2.2.2.2.2.2.1
theorem dLaw_law_782 : decode cLaw_law 782 = .ok (.aload_n 0, 1) := zfLaw_law_753.2.2.2.2.2.2.2.2.2.2.2.2.2.2.2.2.2.2.1
theorem dLaw_law_783 : decode cLaw_law 783 = .ok (.iload 4, 2) := zfLaw_law_753.2.2.2.2.2.2.2.2.2.2.2.2.2.2.2.2.2.2.2.1
theorem dLaw_law_785 : decode cLaw_law 785 = .ok (.iconst 2, 1) := zfLaw_law_753.2.2.2.2.2.2.2.2.2.2.2.2.2.2.2.2.2.2.2.2.1
theorem dLaw_law_786 : decode cLaw_law 786 = .ok (.iadd, 1) := zfLaw_law_753.2.2.2.2.2.2.2.2.2.2.2.2.2.2.2.2.2.2.2.2.2.1
theorem dLaw_law_787 : decode cLaw_law 787 = .ok (.iaload, 1) := zfLaw_law_753.2.2.2.2.2.2.2.2.2.2.2.2.2.2.2.2.2.2.2.2.2.2.1
theorem dLaw_law_788 : decode cLaw_law 788 = .ok (.aload_n 0, 1) := zfLaw_law_753.2.2.2.2.2.2.2.2.2.2.2.2.2.2.2.2.2.2.2.2.2.2.2.1
theorem dLaw_law_789 : decode cLaw_law 789 = .ok (.iload 4, 2) := zfLaw_law_753.2.2.2.2.2.2.2.2.2.2.2.2.2.2.2.2.2.2.2.2.2.2.2.2.1
theorem dLaw_law_791 : decode cLaw_law 791 = .ok (.iconst 3, 1) := zfLaw_law_753.2.2.2.2.2.2.2.2.2.2.2.2.2.2.2.2.2.2.2.2.2.2.2.2.2.1
theorem dLaw_law_792 : decode cLaw_law 792 = .ok (.iadd, 1) := zfLaw_law_753.2.2.2.2.2.2.2.2.2.2.2.2.2.2.2.2.2.2.2.2.2.2.2.2.2.2.1
theorem dLaw_law_793 : decode cLaw_law 793 = .ok (.iaload, 1) := zfLaw_law_753.2.2.2.2.2.2.2.2.2.2.2.2.2.2.2.2.2.2.2.2.2.2.2.2.2.2.2.1
theorem dLaw_law_794 : decode cLaw_law 794 = .ok (.ifCond .eq 7, 3) := zfLaw_law_753.2.2.2.2.2.2.2.2.2.2.2.2.2.2.2.2.2.2.2.2.2.2.2.2.2.2.2.2.1
theorem dLaw_law_797 : decode cLaw_law 797 = .ok (.iconst 1, 1) := zfLaw_law_753.2.2.2.2.2.2.2.2.2.2.2.2.2.2.2.2.2.2.2.2.2.2.2.2.2.2.2.2.2.1
theorem dLaw_law_798 : decode cLaw_law 798 = .ok (.goto 4, 3) := zfLaw_law_753.2.2.2.2.2.2.2.2.2.2.2.2.2.2.2.2.2.2.2.2.2.2.2.2.2.2.2.2.2.2.1
theorem dLaw_law_801 : decode cLaw_law 801 = .ok (.iconst 0, 1) := zfLaw_law_753.2.2.2.2.2.2.2.2.2.2.2.2.2.2.2.2.2.2.2.2.2.2.2.2.2.2.2.2.2.2.2.1
theorem zfLaw_law_802 : decode cLaw_law 802 = .ok (.aload_n 3, 1) ∧ decode cLaw_law 803 = .ok (.invokestatic 202, 3) ∧ decode cLaw_law 806 = .ok (.istore 5, 2) ∧ decode cLaw_law 808 = .ok (.aload_n 2, 1) ∧ decode cLaw_law 809 = .ok (.aload_n 0, 1) ∧ decode cLaw_law 810 = .ok (.iload 4, 2) ∧ decode cLaw_law 812 = .ok (.iconst 1, 1) ∧ decode cLaw_law 813 = .ok (.iadd, 1) ∧ decode cLaw_law 814 = .ok (.iaload, 1) ∧ decode cLaw_law 815 = .ok (.aload_n 0, 1) ∧ decode cLaw_law 816 = .ok (.iload 4, 2) ∧ decode cLaw_law 818 = .ok (.iconst 2, 1) ∧ decode cLaw_law 819 = .ok (.iadd, 1) ∧ decode cLaw_law 820 = .ok (.iaload, 1) ∧ decode cLaw_law 821 = .ok (.aload_n 0, 1) ∧ decode cLaw_law 822 = .ok (.iload 4, 2) ∧ decode cLaw_law 824 = .ok (.iconst 3, 1) ∧ decode cLaw_law 825 = .ok (.iadd, 1) ∧ decode cLaw_law 826 = .ok (.iaload, 1) ∧ decode cLaw_law 827 = .ok (.ifCond .eq 7, 3) ∧ decode cLaw_law 830 = .ok (.iconst 1, 1) ∧ decode cLaw_law 831 = .ok (.goto 4, 3) ∧ decode cLaw_law 834 = .ok (.iconst 0, 1) ∧ decode cLaw_law 835 = .ok (.invokevirtual 205, 3) ∧ decode cLaw_law 838 = .ok (.istore 6, 2) ∧ decode cLaw_law 840 = .ok (.aload_n 2, 1) ∧ decode cLaw_law 841 = .ok (.invokevirtual 179, 3) ∧ decode cLaw_law 844 = .ok (.iload 5, 2) ∧ decode cLaw_law 846 = .ok (.if_icmp .eq 5, 3) ∧ decode cLaw_law 849 = .ok (.iconst 0, 1) ∧ decode cLaw_law 850 = .ok (.ireturn, 1) ∧ decode cLaw_law 851 = .ok (.iload 5, 2) ∧ True := Jvm.Free.DS.facts (code := cLaw_law) 802 [(.aload_n 3, 1), (.invokestatic 202, 3), (.istore 5, 2), (.aload_n 2, 1), (.aload_n 0, 1), (.iload 4, 2), (.iconst 1, 1), (.iadd, 1), (.iaload, 1), (.aload_n 0, 1), (.iload 4, 2), (.iconst 2, 1), (.iadd, 1), (.iaload, 1), (.aload_n 0, 1), (.iload 4, 2), (.iconst 3, 1), (.iadd, 1), (.iaload, 1), (.ifCond .eq 7, 3), (.iconst 1, 1), (.goto 4, 3), (.iconst 0, 1), (.invokevirtual 205, 3), (.istore 6, 2), (.aload_n 2, 1), (.invokevirtual 179, 3), (.iload 5, 2), (.if_icmp .eq 5, 3), (.iconst 0, 1), (.ireturn, 1), (.iload 5, 2)] (by decide +kernel) (by decide +kernel)
theorem dLaw_law_802 : decode cLaw_law 802 = .ok (.aload_n 3, 1) := zfLaw_law_802.1
theorem dLaw_law_803 : decode cLaw_law 803 = .ok (.invokestatic 202, 3) := zfLaw_law_802.2.1
theorem dLaw_law_806 : decode cLaw_law 806 = .ok (.istore 5, 2) := zfLaw_law_802.2.2.1
theorem dLaw_law_808 : decode cLaw_law 808 = .ok (.aload_n 2, 1) := zfLaw_law_802.2.2.2.1
theorem dLaw_law_809 : decode cLaw_law 809 = .ok (.aload_n 0, 1) := zfLaw_law_802.2.2.2.2.1
theorem dLaw_law_810 : decode cLaw_law 810 = .ok (.iload 4, 2) := zfLaw_law_802.2.2.2.2.2.1
theorem dLaw_law_812 : decode cLaw_law 812 = .ok (.iconst 1, 1) := zfLaw_law_802.2.2.2.2.2.2.1
theorem dLaw_law_813 : decode cLaw_law 813 = .ok (.iadd, 1) := zfLaw_law_802.2.2.2.2.2.2.2.1
theorem dLaw_law_814 : decode cLaw_law 814 = .ok (.iaload, 1) := zfLaw_law_802.2.2.2.2.2.2.2.2.1
theorem dLaw_law_815 : decode cLaw_law 815 = .ok (.aload_n 0, 1) := zfLaw_law_802.2.2.2.2.2.2.2.2.2.1
theorem dLaw_law_816 : decode cLaw_law 816 = .ok (.iload 4, 2) := zfLaw_law_802.2.2.2.2.2.2.2.2.2.2.1
theorem dLaw_law_818 : decode cLaw_law 818 = .ok (.iconst 2, 1) := zfLaw_law_802.2.2.2.2.2.2.2.2.2.2.2.1
theorem dLaw_law_819 : decode cLaw_law 819 = .ok (.iadd, 1) := zfLaw_law_802.2.2.2.2.2.2.2.2.2.2.2.2.1
theorem dLaw_law_820 : decode cLaw_law 820 = .ok (.iaload, 1) := zfLaw_law_802.2.2.2.2.2.2.2.2.2.2.2.2.2.1
theorem dLaw_law_821 : decode cLaw_law 821 = .ok (.aload_n 0, 1) := zfLaw_law_802.2.2.2.2.2.2.2.2.2.2.2.2.2.2.1
theorem dLaw_law_822 : decode cLaw_law 822 = .ok (.iload 4, 2) := zfLaw_law_802.2.2.2.2.2.2.2.2.2.2.2.2.2.2.2.1
theorem dLaw_law_824 : decode cLaw_law 824 = .ok (.iconst 3, 1) := zfLaw_law_802.2.2.2.2.2.2.2.2.2.2.2.2.2.2.2.2.1
theorem dLaw_law_825 : decode cLaw_law 825 = .ok (.iadd, 1) := zfLaw_law_802.2.2.2.2.2.2.2.2.2.2.2.2.2.2.2.2.2.1
theorem dLaw_law_826 : decode cLaw_law 826 = .ok (.iaload, 1) := zfLaw_law_802.2.2.2.2.2.2.2.2.2.2.2.2.2.2.2.2.2.2.1
theorem dLaw_law_827 : decode cLaw_law 827 = .ok (.ifCond .eq 7, 3) := zfLaw_law_802.2.2.2.2.2.2.2.2.2.2.2.2.2.2.2.2.2.2.2.1
theorem dLaw_law_830 : decode cLaw_law 830 = .ok (.iconst 1, 1) := zfLaw_law_802.2.2.2.2.2.2.2.2.2.2.2.2.2.2.2.2.2.2.2.2.1
theorem dLaw_law_831 : decode cLaw_law 831 = .ok (.goto 4, 3) := zfLaw_law_802.2.2.2.2.2.2.2.2.2.2.2.2.2.2.2.2.2.2.2.2.2.1
theorem dLaw_law_834 : decode cLaw_law 834 = .ok (.iconst 0, 1) := zfLaw_law_802.2.2.2.2.2.2.2.2.2.2.2.2.2.2.2.2.2.2.2.2.2.2.1
theorem dLaw_law_835 : decode cLaw_law 835 = .ok (.invokevirtual 205, 3) := zfLaw_law_802.2.2.2.2.2.2.2.2.2.2.2.2.2.2.2.2.2.2.2.2.2.2.2.1
theorem dLaw_law_838 : decode cLaw_law 838 = .ok (.istore 6, 2) := zfLaw_law_802.2.2.2.2.2.2.2.2.2.2.2.2.2.2.2.2.2.2.2.2.2.2.2.2.1
theorem dLaw_law_840 : decode cLaw_law 840 = .ok (.aload_n 2, 1) := zfLaw_law_802.2.2.2.2.2.2.2.2.2.2.2.2.2.2.2.2.2.2.2.2.2.2.2.2.2.1
theorem dLaw_law_841 : decode cLaw_law 841 = .ok (.invokevirtual 179, 3) := zfLaw_law_802.2.2.2.2.2.2.2.2.2.2.2.2.2.2.2.2.2.2.2.2.2.2.2.2.2.2.1
theorem dLaw_law_844 : decode cLaw_law 844 = .ok (.iload 5, 2) := zfLaw_law_802.2.2.2.2.2.2.2.2.2.2.2.2.2.2.2.2.2.2.2.2.2.2.2.2.2.2.2.1
theorem dLaw_law_846 : decode cLaw_law 846 = .ok (.if_icmp .eq 5, 3) := zfLaw_law_802.2.2.2.2.2.2.2.2.2.2.2.2.2.2.2.2.2.2.2.2.2.2.2.2.2.2.2.2.1
theorem dLaw_law_849 : decode cLaw_law 849 = .ok (.iconst 0, 1) := zfLaw_law_802.2.2.2.2.2.2.2.2.2.2.2.2.2.2.2.2.2.2.2.2.2.2.2.2.2.2.2.2.2.1
theorem dLaw_law_850 : decode cLaw_law 850 = .ok (.ireturn, 1) := zfLaw_law_802.2.2.2.2.2.2.2.2.2.2.2.2.2.2.2.2.2.2.2.2.2.2.2.2.2.2.2.2.2.2.1
theorem dLaw_law_851 : decode cLaw_law 851 = .ok (.iload 5, 2) := zfLaw_law_802.2.2.2.2.2.2.2.2.2.2.2.2.2.2.2.2.2.2.2.2.2.2.2.2.2.2.2.2.2.2.2.1
theorem zfLaw_law_853 : decode cLaw_law 853 = .ok (.ifCond .ne 23, 3) ∧ decode cLaw_law 856 = .ok (.aload_n 3, 1) ∧ decode cLaw_law 857 = .ok (.getfield 13, 3) ∧ decode cLaw_law 860 = .ok (.iload 6, 2) ∧ decode cLaw_law 862 = .ok (.ifCond .eq 7, 3) ∧ decode cLaw_law 865 = .ok (.lconst 1, 1) ∧ decode cLaw_law 866 = .ok (.goto 4, 3) ∧ decode cLaw_law 869 = .ok (.lconst 0, 1) ∧ decode cLaw_law 870 = .ok (.lcmp, 1) ∧ decode cLaw_law 871 = .ok (.ifCond .eq 5, 3) ∧ decode cLaw_law 874 = .ok (.iconst 0, 1) ∧ decode cLaw_law 875 = .ok (.ireturn, 1) ∧ decode cLaw_law 876 = .ok (.goto 2578, 3) ∧ decode cLaw_law 879 = .ok (.aload_n 1, 1) ∧ decode cLaw_law 880 = .ok (.aload_n 0, 1) ∧ decode cLaw_law 881 = .ok (.iload 4, 2) ∧ decode cLaw_law 883 = .ok (.iconst 1, 1) ∧ decode cLaw_law 884 = .ok (.iadd, 1) ∧ decode cLaw_law 885 = .ok (.iaload, 1) ∧ decode cLaw_law 886 = .ok (.aload_n 0, 1) ∧ decode cLaw_law 887 = .ok (.iload 4, 2) ∧ decode cLaw_law 889 = .ok (.iconst 2, 1) ∧ decode cLaw_law 890 = .ok (.iadd, 1) ∧ decode cLaw_law 891 = .ok (.iaload, 1) ∧ decode cLaw_law 892 = .ok (.aload_n 3, 1) ∧ decode cLaw_law 893 = .ok (.invokestatic 206, 3) ∧ decode cLaw_law 896 = .ok (.istore 5, 2) ∧ decode cLaw_law 898 = .ok (.aload_n 2, 1) ∧ decode cLaw_law 899 = .ok (.aload_n 0, 1) ∧ decode cLaw_law 900 = .ok (.iload 4, 2) ∧ decode cLaw_law 902 = .ok (.iconst 1, 1) ∧ decode cLaw_law 903 = .ok (.iadd, 1) ∧ True := Jvm.Free.DS.facts (code := cLaw_law) 853 [(.ifCond .ne 23, 3), (.aload_n 3, 1), (.getfield 13, 3), (.iload 6, 2), (.ifCond .eq 7, 3), (.lconst 1, 1), (.goto 4, 3), (.lconst 0, 1), (.lcmp, 1), (.ifCond .eq 5, 3), (.iconst 0, 1), (.ireturn, 1), (.goto 2578, 3), (.aload_n 1, 1), (.aload_n 0, 1), (.iload 4, 2), (.iconst 1, 1), (.iadd, 1), (.iaload, 1), (.aload_n 0, 1), (.iload 4, 2), (.iconst 2, 1), (.iadd, 1), (.iaload, 1), (.aload_n 3, 1), (.invokestatic 206, 3), (.istore 5, 2), (.aload_n 2, 1), (.aload_n 0, 1), (.iload 4, 2), (.iconst 1, 1), (.iadd, 1)] (by decide +kernel) (by decide +kernel)
theorem dLaw_law_853 : decode cLaw_law 853 = .ok (.ifCond .ne 23, 3) := zfLaw_law_853.1
theorem dLaw_law_856 : decode cLaw_law 856 = .ok (.aload_n 3, 1) := zfLaw_law_853.2.1
theorem dLaw_law_857 : decode cLaw_law 857 = .ok (.getfield 13, 3) := zfLaw_law_853.2.2.1
theorem dLaw_law_860 : decode cLaw_law 860 = .ok (.iload 6, 2) := zfLaw_law_853.2.2.2.1
theorem dLaw_law_862 : decode cLaw_law 862 = .ok (.ifCond .eq 7, 3) := zfLaw_law_853.2.2.2.2.1
theorem dLaw_law_865 : decode cLaw_law 865 = .ok (.lconst 1, 1) := zfLaw_law_853.2.2.2.2.2.1
theorem dLaw_law_866 : decode cLaw_law 866 = .ok (.goto 4, 3) := zfLaw_law_853.2.2.2.2.2.2.1
theorem dLaw_law_869 : decode cLaw_law 869 = .ok (.lconst 0, 1) := zfLaw_law_853.2.2.2.2.2.2.2.1
theorem dLaw_law_870 : decode cLaw_law 870 = .ok (.lcmp, 1) := zfLaw_law_853.2.2.2.2.2.2.2.2.1
theorem dLaw_law_871 : decode cLaw_law 871 = .ok (.ifCond .eq 5, 3) := zfLaw_law_853.2.2.2.2.2.2.2.2.2.1
theorem dLaw_law_874 : decode cLaw_law 874 = .ok (.iconst 0, 1) := zfLaw_law_853.2.2.2.2.2.2.2.2.2.2.1
theorem dLaw_law_875 : decode cLaw_law 875 = .ok (.ireturn, 1) := zfLaw_law_853.2.2.2.2.2.2.2.2.2.2.2.1
theorem dLaw_law_876 : decode cLaw_law 876 = .ok (.goto 2578, 3) := zfLaw_law_853.2.2.2.2.2.2.2.2.2.2.2.2.1
theorem dLaw_law_879 : decode cLaw_law 879 = .ok (.aload_n 1, 1) := zfLaw_law_853.2.2.2.2.2.2.2.2.2.2.2.2.2.1
theorem dLaw_law_880 : decode cLaw_law 880 = .ok (.aload_n 0, 1) := zfLaw_law_853.2.2.2.2.2.2.2.2.2.2.2.2.2.2.1
theorem dLaw_law_881 : decode cLaw_law 881 = .ok (.iload 4, 2) := zfLaw_law_853.2.2.2.2.2.2.2.2.2.2.2.2.2.2.2.1
theorem dLaw_law_883 : decode cLaw_law 883 = .ok (.iconst 1, 1) := zfLaw_law_853.2.2.2.2.2.2.2.2.2.2.2.2.2.2.2.2.1
theorem dLaw_law_884 : decode cLaw_law 884 = .ok (.iadd, 1) := zfLaw_law_853.2.2.2.2.2.2.2.2.2.2.2.2.2.2.2.2.2.1
theorem dLaw_law_885 : decode cLaw_law 885 = .ok (.iaload, 1) := zfLaw_law_853.2.2.2.2.2.2.2.2.2.2.2.2.2.2.2.2.2.2.1
theorem dLaw_law_886 : decode cLaw_law 886 = .ok (.aload_n 0, 1) := zfLaw_law_853.2.2.2.2.2.2.2.2.2.2.2.2.2.2.2.2.2.2.2.1
theorem dLaw_law_887 : decode cLaw_law 887 = .ok (.iload 4, 2) := zfLaw_law_853.2.2.2.2.2.2.2.2.2.2.2.2.2.2.2.2.2.2.2.2.1
theorem dLaw_law_889 : decode cLaw_law 889 = .ok (.iconst 2, 1) := zfLaw_law_853.2.2.2.2.2.2.2.2.2.2.2.2.2.2.2.2.2.2.2.2.2.1
theorem dLaw_law_890 : decode cLaw_law 890 = .ok (.iadd, 1) := zfLaw_law_853.2.2.2.2.2.2.2.2.2.2.2.2.2.2.2.2.2.2.2.2.2.2.1
theorem dLaw_law_891 : decode cLaw_law 891 = .ok (.iaload, 1) := zfLaw_law_853.2.2.2.2.2.2.2.2.2.2.2.2.2.2.2.2.2.2.2.2.2.2.2.1
theorem dLaw_law_892 : decode cLaw_law 892 = .ok (.aload_n 3, 1) := zfLaw_law_853.2.2.2.2.2.2.2.2.2.2.2.2.2.2.2.2.2.2.2.2.2.2.2.2.1
theorem dLaw_law_893 : decode cLaw_law 893 = .ok (.invokestatic 206, 3) := zfLaw_law_853.2.2.2.2.2.2.2.2.2.2.2.2.2.2.2.2.2.2.2.2.2.2.2.2.2.1
theorem dLaw_law_896 : decode cLaw_law 896 = .ok (.istore 5, 2) := zfLaw_law_853.2.2.2.2.2.2.2.2.2.2.2.2.2.2.2.2.2.2.2.2.2.2.2.2.2.2.1
theorem dLaw_law_898 : decode cLaw_law 898 = .ok (.aload_n 2, 1) := zfLaw_law_853.2.2.2.2.2.2.2.2.2.2.2.2.2.2.2.2.2.2.2.2.2.2.2.2.2.2.2.1
theorem dLaw_law_899 : decode cLaw_law 899 = .ok (.aload_n 0, 1) := zfLaw_law_853.2.2.2.2.2.2.2.2.2.2.2.2.2.2.2.2.2.2.2.2.2.2.2.2.2.2.2.2.1
theorem dLaw_law_900 : decode cLaw_law 900 = .ok (.iload 4, 2) := zfLaw_law_853.2.2.2.2.2.2.2.2.2.2.2.2.2.2.2.2.2.2.2.2.2.2.2.2.2.2.2.2.2.1
theorem dLaw_law_902 : decode cLaw_law 902 = .ok (.iconst 1, 1) := zfLaw_law_853.2.2.2.2.2.2.2.2.2.2.2.2.2.2.2.2.2.2.2.2.2.2.2.2.2.2.2.2.2.2.1
theorem dLaw_law_903 : decode cLaw_law 903 = .ok (.iadd, 1) := zfLaw_law_853.2.2.2.2.2.2.2.2.2.2.2.2.2.2.2.2.2.2.2.2.2.2.2.2.2.2.2.2.2.2.2.1
theorem zfLaw_law_904 : decode cLaw_law 904 = .ok (.iaload, 1) ∧ decode cLaw_law 905 = .ok (.aload_n 0, 1) ∧ decode cLaw_law 906 = .ok (.iload 4, 2) ∧ decode cLaw_law 908 = .ok (.iconst 2, 1) ∧ decode cLaw_law 909 = .ok (.iadd, 1) ∧ decode cLaw_law 910 = .ok (.iaload, 1) ∧ decode cLaw_law 911 = .ok (.invokevirtual 208, 3) ∧ decode cLaw_law 914 = .ok (.istore 6, 2) ∧ decode cLaw_law 916 = .ok (.aload_n 2, 1) ∧ decode cLaw_law 917 = .ok (.invokevirtual 179, 3) ∧ decode cLaw_law 920 = .ok (.iload 5, 2) ∧ decode cLaw_law 922 = .ok (.if_icmp .eq 5, 3) ∧ decode cLaw_law 925 = .ok (.iconst 0, 1) ∧ decode cLaw_law 926 = .ok (.ireturn, 1) ∧ decode cLaw_law 927 = .ok (.iload 5, 2) ∧ decode cLaw_law 929 = .ok (.ifCond .ne 16, 3) ∧ decode cLaw_law 932 = .ok (.aload_n 3, 1) ∧ decode cLaw_law 933 = .ok (.getfield 13, 3) ∧ decode cLaw_law 936 = .ok (.iload 6, 2) ∧ decode cLaw_law 938 = .ok (.i2l, 1) ∧ decode cLaw_law 939 = .ok (.lcmp, 1) ∧ decode cLaw_law 940 = .ok (.ifCond .eq 5, 3) ∧ decode cLaw_law 943 = .ok (.iconst 0, 1) ∧ decode cLaw_law 944 = .ok (.ireturn, 1) ∧ decode cLaw_law 945 = .ok (.goto 2509, 3) ∧ decode cLaw_law 948 = .ok (.aload_n 1, 1) ∧ decode cLaw_law 949 = .ok (.aload_n 0, 1) ∧ decode cLaw_law 950 = .ok (.iload 4, 2) ∧ decode cLaw_law 952 = .ok (.iconst 1, 1) ∧ decode cLaw_law 953 = .ok (.iadd, 1) ∧ decode cLaw_law 954 = .ok (.iaload, 1) ∧ decode cLaw_law 955 = .ok (.aload_n 0, 1) ∧ True := Jvm.Free.DS.facts (code := cLaw_law) 904 [(.iaload, 1), (.aload_n 0, 1), (.iload 4, 2), (.iconst 2, 1), (.iadd, 1), (.iaload, 1), (.invokevirtual 208, 3), (.istore 6, 2), (.aload_n 2, 1), (.invokevirtual 179, 3), (.iload 5, 2), (.if_icmp .eq 5, 3), (.iconst 0, 1), (.ireturn, 1), (.iload 5, 2), (.ifCond .ne 16, 3), (.aload_n 3, 1), (.getfield 13, 3), (.iload 6, 2), (.i2l, 1), (.lcmp, 1), (.ifCond .eq 5, 3), (.iconst 0, 1), (.ireturn, 1), (.goto 2509, 3), (.aload_n 1, 1), (.aload_n 0, 1), (.iload 4, 2), (.iconst 1, 1), (.iadd, 1), (.iaload, 1), (.aload_n 0, 1)] (by decide +kernel) (by decide +kernel)
theorem dLaw_law_904 : decode cLaw_law 904 = .ok (.iaload, 1) := zfLaw_law_904.1
theorem dLaw_law_905 : decode cLaw_law 905 = .ok (.aload_n 0, 1) := zfLaw_law_904.2.1
theorem dLaw_law_906 : decode cLaw_law 906 = .ok (.iload 4, 2) := zfLaw_law_904.2.2.1
theorem dLaw_law_908 : decode cLaw_law 908 = .ok (.iconst 2, 1) := zfLaw_law_904.2.2.2.1
theorem dLaw_law_909 : decode cLaw_law 909 = .ok (.iadd, 1) := zfLaw_law_904.2.2.2.2.1
theorem dLaw_law_910 : decode cLaw_law 910 = .ok (.iaload, 1) := zfLaw_law_904.2.2.2.2.2.1
theorem dLaw_law_911 : decode cLaw_law 911 = .ok (.invokevirtual 208, 3) := zfLaw_law_904.2.2.2.2.2.2.1
theorem dLaw_law_914 : decode cLaw_law 914 = .ok (.istore 6, 2) := zfLaw_law_904.2.2.2.2.2.2.2.1
theorem dLaw_law_916 : decode cLaw_law 916 = .ok (.aload_n 2, 1) := zfLaw_law_904.2.2.2.2.2.2.2.2.1
theorem dLaw_law_917 : decode cLaw_law 917 = .ok (.invokevirtual 179, 3) := zfLaw_law_904.2.2.2.2.2.2.2.2.2.1
theorem dLaw_law_920 : decode cLaw_law 920 = .ok (.iload 5, 2) := zfLaw_law_904.2.2.2.2.2.2.2.2.2.2.1
theorem dLaw_law_922 : decode cLaw_law 922 = .ok (.if_icmp .eq 5, 3) := zfLaw_law_904.2.2.2.2.2.2.2.2.2.2.2.1
theorem dLaw_law_925 : decode cLaw_law 925 = .ok (.iconst 0, 1) := zfLaw_law_904.2.2.2.2.2.2.2.2.2.2.2.2.1
theorem dLaw_law_926 : decode cLaw_law 926 = .ok (.ireturn, 1) := zfLaw_law_904.2.2.2.2.2.2.2.2.2.2.2.2.2.1
theorem dLaw_law_927 : decode cLaw_law 927 = .ok (.iload 5, 2) := zfLaw_law_904.2.2.2.2.2.2.2.2.2.2.2.2.2.2.1
theorem dLaw_law_929 : decode cLaw_law 929 = .ok (.ifCond .ne 16, 3) := zfLaw_law_904.2.2.2.2.2.2.2.2.2.2.2.2.2.2.2.1
theorem dLaw_law_932 : decode cLaw_law 932 = .ok (.aload_n 3, 1) := zfLaw_law_904.2.2.2.2.2.2.2.2.2.2.2.2.2.2.2.2.1
theorem dLaw_law_933 : decode cLaw_law 933 = .ok (.getfield 13, 3) := zfLaw_law_904.2.2.2.2.2.2.2.2.2.2.2.2.2.2.2.2.2.1
theorem dLaw_law_936 : decode cLaw_law 936 = .ok (.iload 6, 2) := zfLaw_law_904.2.2.2.2.2.2.2.2.2.2.2.2.2.2.2.2.2.2.1
theorem dLaw_law_938 : decode cLaw_law 938 = .ok (.i2l, 1) := zfLaw_law_904.2.2.2.2.2.2.2.2.2.2.2.2.2.2.2.2.2.2.2.1
theorem dLaw_law_939 : decode cLaw_law 939 = .ok (.lcmp, 1) := zfLaw_law_904.2.2.2.2.2.2.2.2.2.2.2.2.2.2.2.2.2.2.2.2.1
theorem dLaw_law_940 : decode cLaw_law 940 = .ok (.ifCond .eq 5, 3) := zfLaw_law_904.2.2.2.2.2.2.2.2.2.2.2.2.2.2.2.2.2.2.2.2.2.1
theorem dLaw_law_943 : decode cLaw_law 943 = .ok (.iconst 0, 1) := zfLaw_law_904.2.2.2.2.2.2.2.2.2.2.2.2.2.2.2.2.2.2.2.2.2.2.1
theorem dLaw_law_944 : decode cLaw_law 944 = .ok (.ireturn, 1) := zfLaw_law_904.2.2.2.2.2.2.2.2.2.2.2.2.2.2.2.2.2.2.2.2.2.2.2.1
theorem dLaw_law_945 : decode cLaw_law 945 = .ok (.goto 2509, 3) := zfLaw_law_904.2.2.2.2.2.2.2.2.2.2.2.2.2.2.2.2.2.2.2.2.2.2.2.2.1
theorem dLaw_law_948 : decode cLaw_law 948 = .ok (.aload_n 1, 1) := zfLaw_law_904.2.2.2.2.2.2.2.2.2.2.2.2.2.2.2.2.2.2.2.2.2.2.2.2.2.1
theorem dLaw_law_949 : decode cLaw_law 949 = .ok (.aload_n 0, 1) := zfLaw_law_904.2.2.2.2.2.2.2.2.2.2.2.2.2.2.2.2.2.2.2.2.2.2.2.2.2.2.1
theorem dLaw_law_950 : decode cLaw_law 950 = .ok (.iload 4, 2) := zfLaw_law_904.2.2.2.2.2.2.2.2.2.2.2.2.2.2.2.2.2.2.2.2.2.2.2.2.2.2.2.1
theorem dLaw_law_952 : decode cLaw_law 952 = .ok (.iconst 1, 1) := zfLaw_law_904.2.2.2.2.2.2.2.2.2.2.2.2.2.2.2.2.2.2.2.2.2.2.2.2.2.2.2.2.1
theorem dLaw_law_953 : decode cLaw_law 953 = .ok (.iadd, 1) := zfLaw_law_904.2.2.2.2.2.2.2.2.2.2.2.2.2.2.2.2.2.2.2.2.2.2.2.2.2.2.2.2.2.1
theorem dLaw_law_954 : decode cLaw_law 954 = .ok (.iaload, 1) := zfLaw_law_904.2.2.2.2.2.2.2.2.2.2.2.2.2.2.2.2.2.2.2.2.2.2.2.2.2.2.2.2.2.2.1
theorem dLaw_law_955 : decode cLaw_law 955 = .ok (.aload_n 0, 1) := zfLaw_law_904.2.2.2.2.2.2.2.2.2.2.2.2.2.2.2.2.2.2.2.2.2.2.2.2.2.2.2.2.2.2.2.1
theorem zfLaw_law_956 : decode cLaw_law 956 = .ok (.iload 4, 2) ∧ decode cLaw_law 958 = .ok (.iconst 2, 1) ∧ decode cLaw_law 959 = .ok (.iadd, 1) ∧ decode cLaw_law 960 = .ok (.iaload, 1) ∧ decode cLaw_law 961 = .ok (.aload_n 0, 1) ∧ decode cLaw_law 962 = .ok (.iload 4, 2) ∧ decode cLaw_law 964 = .ok (.iconst 3, 1) ∧ decode cLaw_law 965 = .ok (.iadd, 1) ∧ decode cLaw_law 966 = .ok (.iaload, 1) ∧ decode cLaw_law 967 = .ok (.ifCond .eq 7, 3) ∧ decode cLaw_law 970 = .ok (.iconst 1, 1) ∧ decode cLaw_law 971 = .ok (.goto 4, 3) ∧ decode cLaw_law 974 = .ok (.iconst 0, 1) ∧ decode cLaw_law 975 = .ok (.aload_n 3, 1) ∧ decode cLaw_law 976 = .ok (.invokestatic 209, 3) ∧ decode cLaw_law 979 = .ok (.istore 5, 2) ∧ decode cLaw_law 981 = .ok (.aload_n 2, 1) ∧ decode cLaw_law 982 = .ok (.aload_n 0, 1) ∧ decode cLaw_law 983 = .ok (.iload 4, 2) ∧ decode cLaw_law 985 = .ok (.iconst 1, 1) ∧ decode cLaw_law 986 = .ok (.iadd, 1) ∧ decode cLaw_law 987 = .ok (.iaload, 1) ∧ decode cLaw_law 988 = .ok (.aload_n 0, 1) ∧ decode cLaw_law 989 = .ok (.iload 4, 2) ∧ decode cLaw_law 991 = .ok (.iconst 2, 1) ∧ decode cLaw_law 992 = .ok (.iadd, 1) ∧ decode cLaw_law 993 = .ok (.iaload, 1) ∧ decode cLaw_law 994 = .ok (.aload_n 0, 1) ∧ decode cLaw_law 995 = .ok (.iload 4, 2) ∧ decode cLaw_law 997 = .ok (.iconst 3, 1) ∧ decode cLaw_law 998 = .ok (.iadd, 1) ∧ decode cLaw_law 999 = .ok (.iaload, 1) ∧ True := Jvm.Free.DS.facts (code := cLaw_law) 956 [(.iload 4, 2), (.iconst 2, 1), (.iadd, 1), (.iaload, 1), (.aload_n 0, 1), (.iload 4, 2), (.iconst 3, 1), (.iadd, 1), (.iaload, 1), (.ifCond .eq 7, 3), (.iconst 1, 1), (.goto 4, 3), (.iconst 0, 1), (.aload_n 3, 1), (.invokestatic 209, 3), (.istore 5, 2), (.aload_n 2, 1), (.aload_n 0, 1), (.iload 4, 2), (.iconst 1, 1), (.iadd, 1), (.iaload, 1), (.aload_n 0, 1), (.iload 4, 2), (.iconst 2, 1), (.iadd, 1), (.iaload, 1), (.aload_n 0, 1), (.iload 4, 2), (.iconst 3, 1), (.iadd, 1), (.iaload, 1)] (by decide +kernel) (by decide +kernel)
theorem dLaw_law_956 : decode cLaw_law 956 = .ok (.iload 4, 2) := zfLaw_law_956.1
theorem dLaw_law_958 : decode cLaw_law 958 = .ok (.iconst 2, 1) := zfLaw_law_956.2.1
theorem dLaw_law_959 : decode cLaw_law 959 = .ok (.iadd, 1) := zfLaw_law_956.2.2.1
theorem dLaw_law_960 : decode cLaw_law 960 = .ok (.iaload, 1) := zfLaw_law_956.2.2.2.1
theorem dLaw_law_961 : decode cLaw_law 961 = .ok (.aload_n 0, 1) := zfLaw_law_956.2.2.2.2.1
theorem dLaw_law_962 : decode cLaw_law 962 = .ok (.iload 4, 2) := zfLaw_law_956.2.2.2.2.2.1
theorem dLaw_law_964 : decode cLaw_law 964 = .ok (.iconst 3, 1) := zfLaw_law_956.2.2.2.2.2.2.1
theorem dLaw_law_965 : decode cLaw_law 965 = .ok (.iadd, 1) := zfLaw_law_956.2.2.2.2.2.2.2.1
theorem dLaw_law_966 : decode cLaw_law 966 = .ok (.iaload, 1) := zfLaw_law_956.2.2.2.2.2.2.2.2.1
theorem dLaw_law_967 : decode cLaw_law 967 = .ok (.ifCond .eq 7, 3) := zfLaw_law_956.2.2.2.2.2.2.2.2.2.1
theorem dLaw_law_970 : decode cLaw_law 970 = .ok (.iconst 1, 1) := zfLaw_law_956.2.2.2.2.2.2.2.2.2.2.1
theorem dLaw_law_971 : decode cLaw_law 971 = .ok (.goto 4, 3) := zfLaw_law_956.2.2.2.2.2.2.2.2.2.2.2.1
theorem dLaw_law_974 : decode cLaw_law 974 = .ok (.iconst 0, 1) := zfLaw_law_956.2.2.2.2.2.2.2.2.2.2.2.2.1
theorem dLaw_law_975 : decode cLaw_law 975 = .ok (.aload_n 3, 1) := zfLaw_law_956.2.2.2.2.2.2.2.2.2.2.2.2.2.1
theorem dLaw_law_976 : decode cLaw_law 976 = .ok (.invokestatic 209, 3) := zfLaw_law_956.2.2.2.2.2.2.2.2.2.2.2.2.2.2.1
theorem dLaw_law_979 : decode cLaw_law 979 = .ok (.istore 5, 2) := zfLaw_law_956.2.2.2.2.2.2.2.2.2.2.2.2.2.2.2.1
theorem dLaw_law_981 : decode cLaw_law 981 = .ok (.aload_n 2, 1) := zfLaw_law_956.2.2.2.2.2.2.2.2.2.2.2.2.2.2.2.2.1
theorem dLaw_law_982 : decode cLaw_law 982 = .ok (.aload_n 0, 1) := zfLaw_law_956.2.2.2.2.2.2.2.2.2.2.2.2.2.2.2.2.2.1
theorem dLaw_law_983 : decode cLaw_law 983 = .ok (.iload 4, 2) := zfLaw_law_956.2.2.2.2.2.2.2.2.2.2.2.2.2.2.2.2.2.2.1
theorem dLaw_law_985 : decode cLaw_law 985 = .ok (.iconst 1, 1) := zfLaw_law_956.2.2.2.2.2.2.2.2.2.2.2.2.2.2.2.2.2.2.2.1
theorem dLaw_law_986 : decode cLaw_law 986 = .ok (.iadd, 1) := zfLaw_law_956.2.2.2.2.2.2.2.2.2.2.2.2.2.2.2.2.2.2.2.2.1
theorem dLaw_law_987 : decode cLaw_law 987 = .ok (.iaload, 1) := zfLaw_law_956.2.2.2.2.2.2.2.2.2.2.2.2.2.2.2.2.2.2.2.2.2.1
theorem dLaw_law_988 : decode cLaw_law 988 = .ok (.aload_n 0, 1) := zfLaw_law_956.2.2.2.2.2.2.2.2.2.2.2.2.2.2.2.2.2.2.2.2.2.2.1
theorem dLaw_law_989 : decode cLaw_law 989 = .ok (.iload 4, 2) := zfLaw_law_956.2.2.2.2.2.2.2.2.2.2.2.2.2.2.2.2.2.2.2.2.2.2.2.1
theorem dLaw_law_991 : decode cLaw_law 991 = .ok (.iconst 2, 1) := zfLaw_law_956.2.2.2.2.2.2.2.2.2.2.2.2.2.2.2.2.2.2.2.2.2.2.2.2.1
theorem dLaw_law_992 : decode cLaw_law 992 = .ok (.iadd, 1) := zfLaw_law_956.2.2.2.2.2.2.2.2.2.2.2.2.2.2.2.2.2.2.2.2.2.2.2.2.2.1
theorem dLaw_law_993 : decode cLaw_law 993 = .ok (.iaload, 1) := zfLaw_law_956.2.2.2.2.2.2.2.2.2.2.2.2.2.2.2.2.2.2.2.2.2.2.2.2.2.2.1
theorem dLaw_law_994 : decode cLaw_law 994 = .ok (.aload_n 0, 1) := zfLaw_law_956.2.2.2.2.2.2.2.2.2.2.2.2.2.2.2.2.2.2.2.2.2.2.2.2.2.2.2.1
theorem dLaw_law_995 : decode cLaw_law 995 = .ok (.iload 4, 2) := zfLaw_law_956.2.2.2.2.2.2.2.2.2.2.2.2.2.2.2.2.2.2.2.2.2.2.2.2.2.2.2.2.1
theorem dLaw_law_997 : decode cLaw_law 997 = .ok (.iconst 3, 1) := zfLaw_law_956.2.2.2.2.2.2.2.2.2.2.2.2.2.2.2.2.2.2.2.2.2.2.2.2.2.2.2.2.2.1
theorem dLaw_law_998 : decode cLaw_law 998 = .ok (.iadd, 1) := zfLaw_law_956.2.2.2.2.2.2.2.2.2.2.2.2.2.2.2.2.2.2.2.2.2.2.2.2.2.2.2.2.2.2.1
theorem dLaw_law_999 : decode cLaw_law 999 = .ok (.iaload, 1) := zfLaw_law_956.2.2.2.2.2.2.2.2.2.2.2.2.2.2.2.2.2.2.2.2.2.2.2.2.2.2.2.2.2.2.2.1
theorem zfLaw_law_1000 : decode cLaw_law 1000 = .ok (.ifCond .eq 7, 3) ∧ decode cLaw_law 1003 = .ok (.iconst 1, 1) ∧ decode cLaw_law 1004 = .ok (.goto 4, 3) ∧ decode cLaw_law 1007 = .ok (.iconst 0, 1) ∧ decode cLaw_law 1008 = .ok (.invokevirtual 211, 3) ∧ decode cLaw_law 1011 = .ok (.istore 6, 2) ∧ decode cLaw_law 1013 = .ok (.aload_n 2, 1) ∧ decode cLaw_law 1014 = .ok (.invokevirtual 179, 3) ∧ decode cLaw_law 1017 = .ok (.iload 5, 2) ∧ decode cLaw_law 1019 = .ok (.if_icmp .eq 5, 3) ∧ decode cLaw_law 1022 = .ok (.iconst 0, 1) ∧ decode cLaw_law 1023 = .ok (.ireturn, 1) ∧ decode cLaw_law 1024 = .ok (.iload 5, 2) ∧ decode cLaw_law 1026 = .ok (.ifCond .ne 16, 3) ∧ decode cLaw_law 1029 = .ok (.aload_n 3, 1) ∧ decode cLaw_law 1030 = .ok (.getfield 13, 3) ∧ decode cLaw_law 1033 = .ok (.iload 6, 2) ∧ decode cLaw_law 1035 = .ok (.i2l, 1) ∧ decode cLaw_law 1036 = .ok (.lcmp, 1) ∧ decode cLaw_law 1037 = .ok (.ifCond .eq 5, 3) ∧ decode cLaw_law 1040 = .ok (.iconst 0, 1) ∧ decode cLaw_law 1041 = .ok (.ireturn, 1) ∧ decode cLaw_law 1042 = .ok (.goto 2412, 3) ∧ decode cLaw_law 1045 = .ok (.aload_n 1, 1) ∧ decode cLaw_law 1046 = .ok (.aload_n 0, 1) ∧ decode cLaw_law 1047 = .ok (.iload 4, 2) ∧ decode cLaw_law 1049 = .ok (.iconst 1, 1) ∧ decode cLaw_law 1050 = .ok (.iadd, 1) ∧ decode cLaw_law 1051 = .ok (.iaload, 1) ∧ decode cLaw_law 1052 = .ok (.aload_n 0, 1) ∧ decode cLaw_law 1053 = .ok (.iload 4, 2) ∧ decode cLaw_law 1055 = .ok (.iconst 2, 1) ∧ True := Jvm.Free.DS.facts (code := cLaw_law) 1000 [(.ifCond .eq 7, 3), (.iconst 1, 1), (.goto 4, 3), (.iconst 0, 1), (.invokevirtual 211, 3), (.istore 6, 2), (.aload_n 2, 1), (.invokevirtual 179, 3), (.iload 5, 2), (.if_icmp .eq 5, 3), (.iconst 0, 1), (.ireturn, 1), (.iload 5, 2), (.ifCond .ne 16, 3), (.aload_n 3, 1), (.getfield 13, 3), (.iload 6, 2), (.i2l, 1), (.lcmp, 1), (.ifCond .eq 5, 3), (.iconst 0, 1), (.ireturn, 1), (.goto 2412, 3), (.aload_n 1, 1), (.aload_n 0, 1), (.iload 4, 2), (.iconst 1, 1), (.iadd, 1), (.iaload, 1), (.aload_n 0, 1), (.iload 4, 2), (.iconst 2, 1)] (by decide +kernel) (by decide +kernel)
theorem dLaw_law_1000 : decode cLaw_law 1000 = .ok (.ifCond .eq 7, 3) := zfLaw_law_1000.1
theorem dLaw_law_1003 : decode cLaw_law 1003 = .ok (.iconst 1, 1) := zfLaw_law_1000.2.1
theorem dLaw_law_1004 : decode cLaw_law 1004 = .ok (.goto 4, 3) := zfLaw_law_1000.2.2.1
theorem dLaw_law_1007 : decode cLaw_law 1007 = .ok (.iconst 0, 1) := zfLaw_law_1000.2.2.2.1
theorem dLaw_law_1008 : decode cLaw_law 1008 = .ok (.invokevirtual 211, 3) := zfLaw_law_1000.2.2.2.2.1
theorem dLaw_law_1011 : decode cLaw_law 1011 = .ok (.istore 6, 2) := zfLaw_law_1000.2.2.2.2.2.1
theorem dLaw_law_1013 : decode cLaw_law 1013 = .ok (.aload_n 2, 1) := zfLaw_law_1000.2.2.2.2.2.2.1
theorem dLaw_law_1014 : decode cLaw_law 1014 = .ok (.invokevirtual 179, 3) := zfLaw_law_1000.2.2.2.2.2.2.2.1
theorem dLaw_law_1017 : decode cLaw_law 1017 = .ok (.iload 5, 2) := zfLaw_law_1000.2.2.2.2.2.2.2.2.1
theorem dLaw_law_1019 : decode cLaw_law 1019 = .ok (.if_icmp .eq 5, 3) := zfLaw_law_1000.2.2.2.2.2.2.2.2.2.1
theorem dLaw_law_1022 : decode cLaw_law 1022 = .ok (.iconst 0, 1) := zfLaw_law_1000.2.2.2.2.2.2.2.2.2.2.1
theorem dLaw_law_1023 : decode cLaw_law 1023 = .ok (.ireturn, 1) := zfLaw_law_1000.2.2.2.2.2.2.2.2.2.2.2.1
theorem dLaw_law_1024 : decode cLaw_law 1024 = .ok (.iload 5, 2) := zfLaw_law_1000.2.2.2.2.2.2.2.2.2.2.2.2.1
theorem dLaw_law_1026 : decode cLaw_law 1026 = .ok (.ifCond .ne 16, 3) := zfLaw_law_1000.2.2.2.2.2.2.2.2.2.2.2.2.2.1
theorem dLaw_law_1029 : decode cLaw_law 1029 = .ok (.aload_n 3, 1) := zfLaw_law_1000.2.2.2.2.2.2.2.2.2.2.2.2.2.2.1
theorem dLaw_law_1030 : decode cLaw_law 1030 = .ok (.getfield 13, 3) := zfLaw_law_1000.2.2.2.2.2.2.2.2.2.2.2.2.2.2.2.1
theorem dLaw_law_1033 : decode cLaw_law 1033 = .ok (.iload 6, 2) := zfLaw_law_1000.2.2.2.2.2.2.2.2.2.2.2.2.2.2.2.2.1
theorem dLaw_law_1035 : decode cLaw_law 1035 = .ok (.i2l, 1) := zfLaw_law_1000.2.2.2.2.2.2.2.2.2.2.2.2.2.2.2.2.2.1
theorem dLaw_law_1036 : decode cLaw_law 1036 = .ok (.lcmp, 1) := zfLaw_law_1000.2.2.2.2.2.2.2.2.2.2.2.2.2.2.2.2.2.2.1
theorem dLaw_law_1037 : decode cLaw_law 1037 = .ok (.ifCond .eq 5, 3) := zfLaw_law_1000.2.2.2.2.2.2.2.2.2.2.2.2.2.2.2.2.2.2.2.1
theorem dLaw_law_1040 : decode cLaw_law 1040 = .ok (.iconst 0, 1) := zfLaw_law_1000.2.2.2.2.2.2.2.2.2.2.2.2.2.2.2.2.2.2.2.2.1
theorem dLaw_law_1041 : decode cLaw_law 1041 = .ok (.ireturn, 1) := zfLaw_law_1000.2.2.2.2.2.2.2.2.2.2.2.2.2.2.2.2.2.2.2.2.2.1
theorem dLaw_law_1042 : decode cLaw_law 1042 = .ok (.goto 2412, 3) := zfLaw_law_1000.2.2.2.2.2.2.2.2.2.2.2.2.2.2.2.2.2.2.2.2.2.2.1
theorem dLaw_law_1045 : decode cLaw_law 1045 = .ok (.aload_n 1, 1) := zfLaw_law_1000.2.2.2.2.2.2.2.2.2.2.2.2.2.2.2.2.2.2.2.2.2.2.2.1
theorem dLaw_law_1046 : decode cLaw_law 1046 = .ok (.aload_n 0, 1) := zfLaw_law_1000.2.2.2.2.2.2.2.2.2.2.2.2.2.2.2.2.2.2.2.2.2.2.2.2.1
theorem dLaw_law_1047 : decode cLaw_law 1047 = .ok (.iload 4, 2) := zfLaw_law_1000.2.2.2.2.2.2.2.2.2.2.2.2.2.2.2.2.2.2.2.2.2.2.2.2.2.1
theorem dLaw_law_1049 : decode cLaw_law 1049 = .ok (.iconst 1, 1) := zfLaw_law_1000.2.2.2.2.2.2.2.2.2.2.2.2.2.2.2.2.2.2.2.2.2.2.2.2.2.2.1
theorem dLaw_law_1050 : decode cLaw_law 1050 = .ok (.iadd, 1) := zfLaw_law_1000.2.2.2.2.2.2.2.2.2.2.2.2.2.2.2.2.2.2.2.2.2.2.2.2.2.2.2.1
theorem dLaw_law_1051 : decode cLaw_law 1051 = .ok (.iaload, 1) := zfLaw_law_1000.2.2.2.2.2.2.2.2.2.2.2.2.2.2.2.2.2.2.2.2.2.2.2.2.2.2.2.2.1
theorem dLaw_law_1052 : decode cLaw_law 1052 = .ok (.aload_n 0, 1) := zfLaw_law_1000.2.2.2.2.2.2.2.2.2.2.2.2.2.2.2.2.2.2.2.2.2.2.2.2.2.2.2.2.2.1
theorem dLaw_law_1053 : decode cLaw_law 1053 = .ok (.iload 4, 2) := zfLaw_law_1000.2.2.2.2.2.2.2.2.2.2.2.2.2.2.2.2.2.2.2.2.2.2.2.2.2.2.2.2.2.2.1
theorem dLaw_law_1055 : decode cLaw_law 1055 = .ok (.iconst 2, 1) := zfLaw_law_1000.2.2.2.2.2.2.2.2.2.2.2.2.2.2.2.2.2.2.2.2.2.2.2.2.2.2.2.2.2.2.2.1
theorem zfLaw_law_1056 : decode cLaw_law 1056 = .ok (.iadd, 1) ∧ decode cLaw_law 1057 = .ok (.iaload, 1) ∧ decode cLaw_law 1058 = .ok (.aload_n 3, 1) ∧ decode cLaw_law 1059 = .ok (.invokestatic 212, 3) ∧ decode cLaw_law 1062 = .ok (.istore 5, 2) ∧ decode cLaw_law 1064 = .ok (.aload_n 2, 1) ∧ decode cLaw_law 1065 = .ok (.aload_n 0, 1) ∧ decode cLaw_law 1066 = .ok (.iload 4, 2) ∧ decode cLaw_law 1068 = .ok (.iconst 1, 1) ∧ decode cLaw_law 1069 = .ok (.iadd, 1) ∧ decode cLaw_law 1070 = .ok (.iaload, 1) ∧ decode cLaw_law 1071 = .ok (.aload_n 0, 1) ∧ decode cLaw_law 1072 = .ok (.iload 4, 2) ∧ decode cLaw_law 1074 = .ok (.iconst 2, 1) ∧ decode cLaw_law 1075 = .ok (.iadd, 1) ∧ decode cLaw_law 1076 = .ok (.iaload, 1) ∧ decode cLaw_law 1077 = .ok (.invokevirtual 214, 3) ∧ decode cLaw_law 1080 = .ok (.istore 6, 2) ∧ decode cLaw_law 1082 = .ok (.aload_n 2, 1) ∧ decode cLaw_law 1083 = .ok (.invokevirtual 179, 3) ∧ decode cLaw_law 1086 = .ok (.iload 5, 2) ∧ decode cLaw_law 1088 = .ok (.if_icmp .eq 5, 3) ∧ decode cLaw_law 1091 = .ok (.iconst 0, 1) ∧ decode cLaw_law 1092 = .ok (.ireturn, 1) ∧ decode cLaw_law 1093 = .ok (.iload 5, 2) ∧ decode cLaw_law 1095 = .ok (.ifCond .ne 23, 3) ∧ decode cLaw_law 1098 = .ok (.aload_n 3, 1) ∧ decode cLaw_law 1099 = .ok (.getfield 13, 3) ∧ decode cLaw_law 1102 = .ok (.iload 6, 2) ∧ decode cLaw_law 1104 = .ok (.ifCond .eq 7, 3) ∧ decode cLaw_law 1107 = .ok (.lconst 1, 1) ∧ decode cLaw_law 1108 = .ok (.goto 4, 3) ∧ True := Jvm.Free.DS.facts (code := cLaw_law) 1056 [(.iadd, 1), (.iaload, 1), (.aload_n 3, 1), (.invokestatic 212, 3), (.istore 5, 2), (.aload_n 2, 1), (.aload_n 0, 1), (.iload 4, 2), (.iconst 1, 1), (.iadd, 1), (.iaload, 1), (.aload_n 0, 1), (.iload 4, 2), (.iconst 2, 1), (.iadd, 1), (.iaload, 1), (.invokevirtual 214, 3), (.istore 6, 2), (.aload_n 2, 1), (.invokevirtual 179, 3), (.iload 5, 2), (.if_icmp .eq 5, 3), (.iconst 0, 1), (.ireturn, 1), (.iload 5, 2), (.ifCond .ne 23, 3), (.aload_n 3, 1), (.getfield 13, 3), (.iload 6, 2), (.ifCond .eq 7, 3), (.lconst 1, 1), (.goto 4, 3)] (by decide +kernel) (by decide +kernel)
theorem dLaw_law_1056 : decode cLaw_law 1056 = .ok (.iadd, 1) := zfLaw_law_1056.1
theorem dLaw_law_1057 : decode cLaw_law 1057 = .ok (.iaload, 1) := zfLaw_law_1056.2.1
theorem dLaw_law_1058 : decode cLaw_law 1058 = .ok (.aload_n 3, 1) := zfLaw_law_1056.2.2.1
theorem dLaw_law_1059 : decode cLaw_law 1059 = .ok (.invokestatic 212, 3) := zfLaw_law_1056.2.2.2.1
theorem dLaw_law_1062 : decode cLaw_law 1062 = .ok (.istore 5, 2) := zfLaw_law_1056.2.2.2.2.1
theorem dLaw_law_1064 : decode cLaw_law 1064 = .ok (.aload_n 2, 1) := zfLaw_law_1056.2.2.2.2.2.1
theorem dLaw_law_1065 : decode cLaw_law 1065 = .ok (.aload_n 0, 1) := zfLaw_law_1056.2.2.2.2.2.2.1
theorem dLaw_law_1066 : decode cLaw_law 1066 = .ok (.iload 4, 2) := zfLaw_law_1056.2.2.2.2.2.2.2.1
theorem dLaw_law_1068 : decode cLaw_law 1068 = .ok (.iconst 1, 1) := zfLaw_law_1056.2.2.2.2.2.2.2.2.1
theorem dLaw_law_1069 : decode cLaw_law 1069 = .ok (.iadd, 1) := zfLaw_law_1056.2.2.2.2.2.2.2.2.2.1
theorem dLaw_law_1070 : decode cLaw_law 1070 = .ok (.iaload, 1) := zfLaw_law_1056.2.2.2.2.2.2.2.2.2.2.1
theorem dLaw_law_1071 : decode cLaw_law 1071 = .ok (.aload_n 0, 1) := zfLaw_law_1056.2.2.2.2.2.2.2.2.2.2.2.1
theorem dLaw_law_1072 : decode cLaw_law 1072 = .ok (.iload 4, 2) := zfLaw_law_1056.2.2.2.2.2.2.2.2.2.2.2.2.1
theorem dLaw_law_1074 : decode cLaw_law 1074 = .ok (.iconst 2, 1) := zfLaw_law_1056.2.2.2.2.2.2.2.2.2.2.2.2.2.1
theorem dLaw_law_1075 : decode cLaw_law 1075 = .ok (.iadd, 1) := zfLaw_law_1056.2.2.2.2.2.2.2.2.2.2.2.2.2.2.1
theorem dLaw_law_1076 : decode cLaw_law 1076 = .ok (.iaload, 1) := zfLaw_law_1056.2.2.2.2.2.2.2.2.2.2.2.2.2.2.2.1
theorem dLaw_law_1077 : decode cLaw_law 1077 = .ok (.invokevirtual 214, 3) := zfLaw_law_1056.2.2.2.2.2.2.2.2.2.2.2.2.2.2.2.2.1
theorem dLaw_law_1080 : decode cLaw_law 1080 = .ok (.istore 6, 2) := zfLaw_law_1056.2.2.2.2.2.2.2.2.2.2.2.2.2.2.2.2.2.1
theorem dLaw_law_1082 : decode cLaw_law 1082 = .ok (.aload_n 2, 1) := zfLaw_law_1056.2.2.2.2.2.2.2.2.2.2.2.2.2.2.2.2.2.2.1
theorem dLaw_law_1083 : decode cLaw_law 1083 = .ok (.invokevirtual 179, 3) := zfLaw_law_1056.2.2.2.2.2.2.2.2.2.2.2.2.2.2.2.2.2.2.2.1
theorem dLaw_law_1086 : decode cLaw_law 1086 = .ok (.iload 5, 2) := zfLaw_law_1056.2.2.2.2.2.2.2.2.2.2.2.2.2.2.2.2.2.2.2.2.1
theorem dLaw_law_1088 : decode cLaw_law 1088 = .ok (.if_icmp .eq 5, 3) := zfLaw_law_1056.2.2.2.2.2.2.2.2.2.2.2.2.2.2.2.2.2.2.2.2.2.1
theorem dLaw_law_1091 : decode cLaw_law 1091 = .ok (.iconst 0, 1) := zfLaw_law_1056.2.2.2.2.2.2.2.2.2.2.2.2.2.2.2.2.2.2.2.2.2.2.1
theorem dLaw_law_1092 : decode cLaw_law 1092 = .ok (.ireturn, 1) := zfLaw_law_1056.2.2.2.2.2.2.2.2.2.2.2.2.2.2.2.2.2.2.2.2.2.2.2.1
theorem dLaw_law_1093 : decode cLaw_law 1093 = .ok (.iload 5, 2) := zfLaw_law_1056.2.2.2.2.2.2.2.2.2.2.2.2.2.2.2.2.2.2.2.2.2.2.2.2.1
theorem dLaw_law_1095 : decode cLaw_law 1095 = .ok (.ifCond .ne 23, 3) := zfLaw_law_1056.2.2.2.2.2.2.2.2.2.2.2.2.2.2.2.2.2.2.2.2.2.2.2.2.2.1
theorem dLaw_law_1098 : decode cLaw_law 1098 = .ok (.aload_n 3, 1) := zfLaw_law_1056.2.2.2.2.2.2.2.2.2.2.2.2.2.2.2.2.2.2.2.2.2.2.2.2.2.2.1
theorem dLaw_law_1099 : decode cLaw_law 1099 = .ok (.getfield 13, 3) := zfLaw_law_1056.2.2.2.2.2.2.2.2.2.2.2.2.2.2.2.2.2.2.2.2.2.2.2.2.2.2.2.1
theorem dLaw_law_1102 : decode cLaw_law 1102 = .ok (.iload 6, 2) := zfLaw_law_1056.2.2.2.2.2.2.2.2.2.2.2.2.2.2.2.2.2.2.2.2.2.2.2.2.2.2.2.2.1
theorem dLaw_law_1104 : decode cLaw_law 1104 = .ok (.ifCond .eq 7, 3) := zfLaw_law_1056.2.2.2.2.2.2.2.2.2.2.2.2.2.2.2.2.2.2.2.2.2.2.2.2.2.2.2.2.2.1
theorem dLaw_law_1107 : decode cLaw_law 1107 = .ok (.lconst 1, 1) := zfLaw_law_1056.2.2.2.2.2.2.2.2.2.2.2.2.2.2.2.2.2.2.2.2.2.2.2.2.2.2.2.2.2.2.1
theorem dLaw_law_1108 : decode cLaw_law 1108 = .ok (.goto 4, 3) := zfLaw_law_1056.2.2.2.2.2.2.2.2.2.2.2.2.2.2.2.2.2.2.2.2.2.2.2.2.2.2.2.2.2.2.2.1
theorem zfLaw_law_1111 : decode cLaw_law 1111 = .ok (.lconst 0, 1) ∧ decode cLaw_law 1112 = .ok (.lcmp, 1) ∧ decode cLaw_law 1113 = .ok (.ifCond .eq 5, 3) ∧ decode cLaw_law 1116 = .ok (.iconst 0, 1) ∧ decode cLaw_law 1117 = .ok (.ireturn, 1) ∧ decode cLaw_law 1118 = .ok (.goto 2336, 3) ∧ decode cLaw_law 1121 = .ok (.aload_n 1, 1) ∧ decode cLaw_law 1122 = .ok (.aload_n 0, 1) ∧ decode cLaw_law 1123 = .ok (.iload 4, 2) ∧ decode cLaw_law 1125 = .ok (.iconst 1, 1) ∧ decode cLaw_law 1126 = .ok (.iadd, 1) ∧ decode cLaw_law 1127 = .ok (.iaload, 1) ∧ decode cLaw_law 1128 = .ok (.aload_n 3, 1) ∧ decode cLaw_law 1129 = .ok (.invokestatic 215, 3) ∧ decode cLaw_law 1132 = .ok (.istore 5, 2) ∧ decode cLaw_law 1134 = .ok (.aload_n 2, 1) ∧ decode cLaw_law 1135 = .ok (.aload_n 0, 1) ∧ decode cLaw_law 1136 = .ok (.iload 4, 2) ∧ decode cLaw_law 1138 = .ok (.iconst 1, 1) ∧ decode cLaw_law 1139 = .ok (.iadd, 1) ∧ decode cLaw_law 1140 = .ok (.iaload, 1) ∧ decode cLaw_law 1141 = .ok (.invokevirtual 218, 3) ∧ decode cLaw_law 1144 = .ok (.istore 6, 2) ∧ decode cLaw_law 1146 = .ok (.aload_n 2, 1) ∧ decode cLaw_law 1147 = .ok (.invokevirtual 179, 3) ∧ decode cLaw_law 1150 = .ok (.iload 5, 2) ∧ decode cLaw_law 1152 = .ok (.if_icmp .eq 5, 3) ∧ decode cLaw_law 1155 = .ok (.iconst 0, 1) ∧ decode cLaw_law 1156 = .ok (.ireturn, 1) ∧ decode cLaw_law 1157 = .ok (.iload 5, 2) ∧ decode cLaw_law 1159 = .ok (.ifCond .ne 16, 3) ∧ decode cLaw_law 1162 = .ok (.aload_n 3, 1) ∧ True := Jvm.Free.DS.facts (code := cLaw_law) 1111 [(.lconst 0, 1), (.lcmp, 1), (.ifCond .eq 5, 3), (.iconst 0, 1), (.ireturn, 1), (.goto 2336, 3), (.aload_n 1, 1), (.aload_n 0, 1), (.iload 4, 2), (.iconst 1, 1), (.iadd, 1), (.iaload, 1), (.aload_n 3, 1), (.invokestatic 215, 3), (.istore 5, 2), (.aload_n 2, 1), (.aload_n 0, 1), (.iload 4, 2), (.iconst 1, 1), (.iadd, 1), (.iaload, 1), (.invokevirtual 218, 3), (.istore 6, 2), (.aload_n 2, 1), (.invokevirtual 179, 3), (.iload 5, 2), (.if_icmp .eq 5, 3), (.iconst 0, 1), (.ireturn, 1), (.iload 5, 2), (.ifCond .ne 16, 3), (.aload_n 3, 1)] (by decide +kernel) (by decide +kernel)
theorem dLaw_law_1111 : decode cLaw_law 1111 = .ok (.lconst 0, 1) := zfLaw_law_1111.1
theorem dLaw_law_1112 : decode cLaw_law 1112 = .ok (.lcmp, 1) := zfLaw_law_1111.2.1
theorem dLaw_law_1113 : decode cLaw_law 1113 = .ok (.ifCond .eq 5, 3) := zfLaw_law_1111.2.2.1
theorem dLaw_law_1116 : decode cLaw_law 1116 = .ok (.iconst 0, 1) := zfLaw_law_1111.2.2.2.1
theorem dLaw_law_1117 : decode cLaw_law 1117 = .ok (.ireturn, 1) := zfLaw_law_1111.2.2.2.2.1
theorem dLaw_law_1118 : decode cLaw_law 1118 = .ok (.goto 2336, 3) := zfLaw_law_1111.2.2.2.2.2.1
theorem dLaw_law_1121 : decode cLaw_law 1121 = .ok (.aload_n 1, 1) := zfLaw_law_1111.2.2.2.2.2.2.1
theorem dLaw_law_1122 : decode cLaw_law 1122 = .ok (.aload_n 0, 1) := zfLaw_law_1111.2.2.2.2.2.2.2.1
theorem dLaw_law_1123 : decode cLaw_law 1123 = .ok (.iload 4, 2) := zfLaw_law_1111.2.2.2.2.2.2.2.2.1
theorem dLaw_law_1125 : decode cLaw_law 1125 = .ok (.iconst 1, 1) := zfLaw_law_1111.2.2.2.2.2.2.2.2.2.1
theorem dLaw_law_1126 : decode cLaw_law 1126 = .ok (.iadd, 1) := zfLaw_law_1111.2.2.2.2.2.2.2.2.2.2.1
theorem dLaw_law_1127 : decode cLaw_law 1127 = .ok (.iaload, 1) := zfLaw_law_1111.2.2.2.2.2.2.2.2.2.2.2.1
theorem dLaw_law_1128 : decode cLaw_law 1128 = .ok (.aload_n 3, 1) := zfLaw_law_1111.2.2.2.2.2.2.2.2.2.2.2.2.1
theorem dLaw_law_1129 : decode cLaw_law 1129 = .ok (.invokestatic 215, 3) := zfLaw_law_1111.2.2.2.2.2.2.2.2.2.2.2.2.2.1
theorem dLaw_law_1132 : decode cLaw_law 1132 = .ok (.istore 5, 2) := zfLaw_law_1111.2.2.2.2.2.2.2.2.2.2.2.2.2.2.1
theorem dLaw_law_1134 : decode cLaw_law 1134 = .ok (.aload_n 2, 1) := zfLaw_law_1111.2.2.2.2.2.2.2.2.2.2.2.2.2.2.2.1
theorem dLaw_law_1135 : decode cLaw_law 1135 = .ok (.aload_n 0, 1) := zfLaw_law_1111.2.2.2.2.2.2.2.2.2.2.2.2.2.2.2.2.1
theorem dLaw_law_1136 : decode cLaw_law 1136 = .ok (.iload 4, 2) := zfLaw_law_1111.2.2.2.2.2.2.2.2.2.2.2.2.2.2.2.2.2.1
theorem dLaw_law_1138 : decode cLaw_law 1138 = .ok (.iconst 1, 1) := zfLaw_law_1111.2.2.2.2.2.2.2.2.2.2.2.2.2.2.2.2.2.2.1
theorem dLaw_law_1139 : decode cLaw_law 1139 = .ok (.iadd, 1) := zfLaw_law_1111.2.2.2.2.2.2.2.2.2.2.2.2.2.2.2.2.2.2.2.1
theorem dLaw_law_1140 : decode cLaw_law 1140 = .ok (.iaload, 1) := zfLaw_law_1111.2.2.2.2.2.2.2.2.2.2.2.2.2.2.2.2.2.2.2.2.1
theorem dLaw_law_1141 : decode cLaw_law 1141 = .ok (.invokevirtual 218, 3) := zfLaw_law_1111.2.2.2.2.2.2.2.2.2.2.2.2.2.2.2.2.2.2.2.2.2.1
theorem dLaw_law_1144 : decode cLaw_law 1144 = .ok (.istore 6, 2) := zfLaw_law_1111.2.2.2.2.2.2.2.2.2.2.2.2.2.2.2.2.2.2.2.2.2.2.1
theorem dLaw_law_1146 : decode cLaw_law 1146 = .ok (.aload_n 2, 1) := zfLaw_law_1111.2.2.2.2.2.2.2.2.2.2.2.2.2.2.2.2.2.2.2.2.2.2.2.1
theorem dLaw_law_1147 : decode cLaw_law 1147 = .ok (.invokevirtual 179, 3) := zfLaw_law_1111.2.2.2.2.2.2.2.2.2.2.2.2.2.2.2.2.2.2.2.2.2.2.2.2.1
theorem dLaw_law_1150 : decode cLaw_law 1150 = .ok (.iload 5, 2) := zfLaw_law_1111.2.2.2.2.2.2.2.2.2.2.2.2.2.2.2.2.2.2.2.2.2.2.2.2.2.1
theorem dLaw_law_1152 : decode cLaw_law 1152 = .ok (.if_icmp .eq 5, 3) := zfLaw_law_1111.2.2.2.2.2.2.2.2.2.2.2.2.2.2.2.2.2.2.2.2.2.2.2.2.2.2.1
theorem dLaw_law_1155 : decode cLaw_law 1155 = .ok (.iconst 0, 1) := zfLaw_law_1111.2.2.2.2.2.2.2.2.2.2.2.2.2.2.2.2.2.2.2.2.2.2.2.2.2.2.2.1
theorem dLaw_law_1156 : decode cLaw_law 1156 = .ok (.ireturn, 1) := zfLaw_law_1111.2.2.2.2.2.2.2.2.2.2.2.2.2.2.2.2.2.2.2.2.2.2.2.2.2.2.2.2.1
theorem dLaw_law_1157 : decode cLaw_law 1157 = .ok (.iload 5, 2) := zfLaw_law_1111.2.2.2.2.2.2.2.2.2.2.2.2.2.2.2.2.2.2.2.2.2.2.2.2.2.2.2.2.2.1
theorem dLaw_law_1159 : decode cLaw_law 1159 = .ok (.ifCond .ne 16, 3) := zfLaw_law_1111.2.2.2.2.2.2.2.2.2.2.2.2.2.2.2.2.2.2.2.2.2.2.2.2.2.2.2.2.2.2.1
theorem dLaw_law_1162 : decode cLaw_law 1162 = .ok (.aload_n 3, 1) := zfLaw_law_1111.2.2.2.2.2.2.2.2.2.2.2.2.2.2.2.2.2.2.2.2.2.2.2.2.2.2.2.2.2.2.2.1
theorem zfLaw_law_1163 : decode cLaw_law 1163 = .ok (.getfield 13, 3) ∧ decode cLaw_law 1166 = .ok (.iload 6, 2) ∧ decode cLaw_law 1168 = .ok (.i2l, 1) ∧ decode cLaw_law 1169 = .ok (.lcmp, 1) ∧ decode cLaw_law 1170 = .ok (.ifCond .eq 5, 3) ∧ decode cLaw_law 1173 = .ok (.iconst 0, 1) ∧ decode cLaw_law 1174 = .ok (.ireturn, 1) ∧ decode cLaw_law 1175 = .ok (.goto 2279, 3) ∧ decode cLaw_law 1178 = .ok (.aload_n 1, 1) ∧ decode cLaw_law 1179 = .ok (.aload_n 0, 1) ∧ decode cLaw_law 1180 = .ok (.iload 4, 2) ∧ decode cLaw_law 1182 = .ok (.iconst 1, 1) ∧ decode cLaw_law 1183 = .ok (.iadd, 1) ∧ decode cLaw_law 1184 = .ok (.iaload, 1) ∧ decode cLaw_law 1185 = .ok (.aload_n 0, 1) ∧ decode cLaw_law 1186 = .ok (.iload 4, 2) ∧ decode cLaw_law 1188 = .ok (.iconst 2, 1) ∧ decode cLaw_law 1189 = .ok (.iadd, 1) ∧ decode cLaw_law 1190 = .ok (.iaload, 1) ∧ decode cLaw_law 1191 = .ok (.ifCond .eq 7, 3) ∧ decode cLaw_law 1194 = .ok (.iconst 1, 1) ∧ decode cLaw_law 1195 = .ok (.goto 4, 3) ∧ decode cLaw_law 1198 = .ok (.iconst 0, 1) ∧ decode cLaw_law 1199 = .ok (.aload_n 3, 1) ∧ decode cLaw_law 1200 = .ok (.invokestatic 219, 3) ∧ decode cLaw_law 1203 = .ok (.istore 5, 2) ∧ decode cLaw_law 1205 = .ok (.aload_n 2, 1) ∧ decode cLaw_law 1206 = .ok (.aload_n 0, 1) ∧ decode cLaw_law 1207 = .ok (.iload 4, 2) ∧ decode cLaw_law 1209 = .ok (.iconst 1, 1) ∧ decode cLaw_law 1210 = .ok (.iadd, 1) ∧ decode cLaw_law 1211 = .ok (.iaload, 1) ∧ True := Jvm.Free.DS.facts (code := cLaw_law) 1163 [(.getfield 13, 3), (.iload 6, 2), (.i2l, 1), (.lcmp, 1), (.ifCond .eq 5, 3), (.iconst 0, 1), (.ireturn, 1), (.goto 2279, 3), (.aload_n 1, 1), (.aload_n 0, 1), (.iload 4, 2), (.iconst 1, 1), (.iadd, 1), (.iaload, 1), (.aload_n 0, 1), (.iload 4, 2), (.iconst 2, 1), (.iadd, 1), (.iaload, 1), (.ifCond .eq 7, 3), (.iconst 1, 1), (.goto 4, 3), (.iconst 0, 1), (.aload_n 3, 1), (.invokestatic 219, 3), (.istore 5, 2), (.aload_n 2, 1), (.aload_n 0, 1), (.iload 4, 2), (.iconst 1, 1), (.iadd, 1), (.iaload, 1)] (by decide +kernel) (by decide +kernel)
theorem dLaw_law_1163 : decode cLaw_law 1163 = .ok (.getfield 13, 3) := zfLaw_law_1163.1
theorem dLaw_law_1166 : decode cLaw_law 1166 = .ok (.iload 6, 2) := zfLaw_law_1163.2.1
theorem dLaw_law_1168 : decode cLaw_law 1168 = .ok (.i2l, 1) := zfLaw_law_1163.2.2.1
theorem dLaw_law_1169 : decode cLaw_law 1169 = .ok (.lcmp, 1) := zfLaw_law_1163.2.2.2.1
theorem dLaw_law_1170 : decode cLaw_law 1170 = .ok (.ifCond .eq 5, 3) := zfLaw_law_1163.2.2.2.2.1
theorem dLaw_law_1173 : decode cLaw_law 1173 = .ok (.iconst 0, 1) := zfLaw_law_1163.2.2.2.2.2.1
theorem dLaw_law_1174 : decode cLaw_law 1174 = .ok (.ireturn, 1) := zfLaw_law_1163.2.2.2.2.2.2.1
theorem dLaw_law_1175 : decode cLaw_law 1175 = .ok (.goto 2279, 3) := zfLaw_law_1163.2.2.2.2.2.2.2.1
theorem dLaw_law_1178 : decode cLaw_law 1178 = .ok (.aload_n 1, 1) := zfLaw_law_1163.2.2.2.2.2.2.2.2.1
theorem dLaw_law_1179 : decode cLaw_law 1179 = .ok (.aload_n 0, 1) := zfLaw_law_1163.2.2.2.2.2.2.2.2.2.1
theorem dLaw_law_1180 : decode cLaw_law 1180 = .ok (.iload 4, 2) := zfLaw_law_1163.2.2.2.2.2.2.2.2.2.2.1
theorem dLaw_law_1182 : decode cLaw_law 1182 = .ok (.iconst 1, 1) := zfLaw_law_1163.2.2.2.2.2.2.2.2.2.2.2.1
theorem dLaw_law_1183 : decode cLaw_law 1183 = .ok (.iadd, 1) := zfLaw_law_1163.2.2.2.2.2.2.2.2.2.2.2.2.1
theorem dLaw_law_1184 : decode cLaw_law 1184 = .ok (.iaload, 1) := zfLaw_law_1163.2.2.2.2.2.2.2.2.2.2.2.2.2.1
theorem dLaw_law_1185 : decode cLaw_law 1185 = .ok (.aload_n 0, 1) := zfLaw_law_1163.2.2.2.2.2.2.2.2.2.2.2.2.2.2.1
theorem dLaw_law_1186 : decode cLaw_law 1186 = .ok (.iload 4, 2) := zfLaw_law_1163.2.2.2.2.2.2.2.2.2.2.2.2.2.2.2.1
theorem dLaw_law_1188 : decode cLaw_law 1188 = .ok (.iconst 2, 1) := zfLaw_law_1163.2.2.2.2.2.2.2.2.2.2.2.2.2.2.2.2.1
theorem dLaw_law_1189 : decode cLaw_law 1189 = .ok (.iadd, 1) := zfLaw_law_1163.2.2.2.2.2.2.2.2.2.2.2.2.2.2.2.2.2.1
theorem dLaw_law_1190 : decode cLaw_law 1190 = .ok (.iaload, 1) := zfLaw_law_1163.2.2.2.2.2.2.2.2.2.2.2.2.2.2.2.2.2.2.1
theorem dLaw_law_1191 : decode cLaw_law 1191 = .ok (.ifCond .eq 7, 3) := zfLaw_law_1163.2.2.2.2.2.2.2.2.2.2.2.2.2.2.2.2.2.2.2.1
theorem dLaw_law_1194 : decode cLaw_law 1194 = .ok (.iconst 1, 1) := zfLaw_law_1163.2.2.2.2.2.2.2.2.2.2.2.2.2.2.2.2.2.2.2.2.1
theorem dLaw_law_1195 : decode cLaw_law 1195 = .ok (.goto 4, 3) := zfLaw_law_1163.2.2.2.2.2.2.2.2.2.2.2.2.2.2.2.2.2.2.2.2.2.1
theorem dLaw_law_1198 : decode cLaw_law 1198 = .ok (.iconst 0, 1) := zfLaw_law_1163.2.2.2.2.2.2.2.2.2.2.2.2.2.2.2.2.2.2.2.2.2.2.1
theorem dLaw_law_1199 : decode cLaw_law 1199 = .ok (.aload_n 3, 1) := zfLaw_law_1163.2.2.2.2.2.2.2.2.2.2.2.2.2.2.2.2.2.2.2.2.2.2.2.1
theorem dLaw_law_1200 : decode cLaw_law 1200 = .ok (.invokestatic 219, 3) := zfLaw_law_1163.2.2.2.2.2.2.2.2.2.2.2.2.2.2.2.2.2.2.2.2.2.2.2.2.1
theorem dLaw_law_1203 : decode cLaw_law 1203 = .ok (.istore 5, 2) := zfLaw_law_1163.2.2.2.2.2.2.2.2.2.2.2.2.2.2.2.2.2.2.2.2.2.2.2.2.2.1
theorem dLaw_law_1205 : decode cLaw_law 1205 = .ok (.aload_n 2, 1) := zfLaw_law_1163.2.2.2.2.2.2.2.2.2.2.2.2.2.2.2.2.2.2.2.2.2.2.2.2.2.2.1
theorem dLaw_law_1206 : decode cLaw_law 1206 = .ok (.aload_n 0, 1) := zfLaw_law_1163.2.2.2.2.2.2.2.2.2.2.2.2.2.2.2.2.2.2.2.2.2.2.2.2.2.2.2.1
theorem dLaw_law_1207 : decode cLaw_law 1207 = .ok (.iload 4, 2) := zfLaw_law_1163.2.2.2.2.2.2.2.2.2.2.2.2.2.2.2.2.2.2.2.2.2.2.2.2.2.2.2.2.1
theorem dLaw_law_1209 : decode cLaw_law 1209 = .ok (.iconst 1, 1) := zfLaw_law_1163.2.2.2.2.2.2.2.2.2.2.2.2.2.2.2.2.2.2.2.2.2.2.2.2.2.2.2.2.2.1
theorem dLaw_law_1210 : decode cLaw_law 1210 = .ok (.iadd, 1) := zfLaw_law_1163.2.2.2.2.2.2.2.2.2.2.2.2.2.2.2.2.2.2.2.2.2.2.2.2.2.2.2.2.2.2.1
theorem dLaw_law_1211 : decode cLaw_law 1211 = .ok (.iaload, 1) := zfLaw_law_1163.2.2.2.2.2.2.2.2.2.2.2.2.2.2.2.2.2.2.2.2.2.2.2.2.2.2.2.2.2.2.2.1
theorem zfLaw_law_1212 : decode cLaw_law 1212 = .ok (.aload_n 0, 1) ∧ decode cLaw_law 1213 = .ok (.iload 4, 2) ∧ decode cLaw_law 1215 = .ok (.iconst 2, 1) ∧ decode cLaw_law 1216 = .ok (.iadd, 1) ∧ decode cLaw_law 1217 = .ok (.iaload, 1) ∧ decode cLaw_law 1218 = .ok (.ifCond .eq 7, 3) ∧ decode cLaw_law 1221 = .ok (.iconst 1, 1) ∧ decode cLaw_law 1222 = .ok (.goto 4, 3) ∧ decode cLaw_law 1225 = .ok (.iconst 0, 1) ∧ decode cLaw_law 1226 = .ok (.invokevirtual 222, 3) ∧ decode cLaw_law 1229 = .ok (.astore 6, 2) ∧ decode cLaw_law 1231 = .ok (.aload_n 2, 1) ∧ decode cLaw_law 1232 = .ok (.invokevirtual 179, 3) ∧ decode cLaw_law 1235 = .ok (.iload 5, 2) ∧ decode cLaw_law 1237 = .ok (.if_icmp .eq 5, 3) ∧ decode cLaw_law 1240 = .ok (.iconst 0, 1) ∧ decode cLaw_law 1241 = .ok (.ireturn, 1) ∧ decode cLaw_law 1242 = .ok (.iload 5, 2) ∧ decode cLaw_law 1244 = .ok (.ifCond .ne 17, 3) ∧ decode cLaw_law 1247 = .ok (.aload_n 3, 1) ∧ decode cLaw_law 1248 = .ok (.getfield 65, 3) ∧ decode cLaw_law 1251 = .ok (.aload 6, 2) ∧ decode cLaw_law 1253 = .ok (.invokevirtual 223, 3) ∧ decode cLaw_law 1256 = .ok (.ifCond .ne 5, 3) ∧ decode cLaw_law 1259 = .ok (.iconst 0, 1) ∧ decode cLaw_law 1260 = .ok (.ireturn, 1) ∧ decode cLaw_law 1261 = .ok (.goto 2193, 3) ∧ decode cLaw_law 1264 = .ok (.aload_n 1, 1) ∧ decode cLaw_law 1265 = .ok (.aload_n 0, 1) ∧ decode cLaw_law 1266 = .ok (.iload 4, 2) ∧ decode cLaw_law 1268 = .ok (.iconst 1, 1) ∧ decode cLaw_law 1269 = .ok (.iadd, 1) ∧ True := Jvm.Free.DS.facts (code := cLaw_law) 1212 [(.aload_n 0, 1), (.iload 4, 2), (.iconst 2, 1), (.iadd, 1), (.iaload, 1), (.ifCond .eq 7, 3), (.iconst 1, 1), (.goto 4, 3), (.iconst 0, 1), (.invokevirtual 222, 3), (.astore 6, 2), (.aload_n 2, 1), (.invokevirtual 179, 3), (.iload 5, 2), (.if_icmp .eq 5, 3), (.iconst 0, 1), (.ireturn, 1), (.iload 5, 2), (.ifCond .ne 17, 3), (.aload_n 3, 1), (.getfield 65, 3), (.aload 6, 2), (.invokevirtual 223, 3), (.ifCond .ne 5, 3), (.iconst 0, 1), (.ireturn, 1), (.goto 2193, 3), (.aload_n 1, 1), (.aload_n 0, 1), (.iload 4, 2), (.iconst 1, 1), (.iadd, 1)] (by decide +kernel) (by decide +kernel)
theorem dLaw_law_1212 : decode cLaw_law 1212 = .ok (.aload_n 0, 1) := zfLaw_law_1212.1
theorem dLaw_law_1213 : decode cLaw_law 1213 = .ok (.iload 4, 2) := zfLaw_law_1212.2.1
theorem dLaw_law_1215 : decode cLaw_law 1215 = .ok (.iconst 2, 1) := zfLaw_law_1212.2.2.1
theorem dLaw_law_1216 : decode cLaw_law 1216 = .ok (.iadd, 1) := zfLaw_law_1212.2.2.2.1
theorem dLaw_law_1217 : decode cLaw_law 1217 = .ok (.iaload, 1) := zfLaw_law_1212.2.2.2.2.1
theorem dLaw_law_1218 : decode cLaw_law 1218 = .ok (.ifCond .eq 7, 3) := zfLaw_law_1212.2.2.2.2.2.1
theorem dLaw_law_1221 : decode cLaw_law 1221 = .ok (.iconst 1, 1) := zfLaw_law_1212.2.2.2.2.2.2.1
theorem dLaw_law_1222 : decode cLaw_law 1222 = .ok (.goto 4, 3) := zfLaw_law_1212.2.2.2.2.2.2.2.1
theorem dLaw_law_1225 : decode cLaw_law 1225 = .ok (.iconst 0, 1) := zfLaw_law_1212.2.2.2.2.2.2.2.2.1
theorem dLaw_law_1226 : decode cLaw_law 1226 = .ok (.invokevirtual 222, 3) := zfLaw_law_1212.2.2.2.2.2.2.2.2.2.1
theorem dLaw_law_1229 : decode cLaw_law 1229 = .ok (.astore 6, 2) := zfLaw_law_1212.2.2.2.2.2.2.2.2.2.2.1
theorem dLaw_law_1231 : decode cLaw_law 1231 = .ok (.aload_n 2, 1) := zfLaw_law_1212.2.2.2.2.2.2.2.2.2.2.2.1
theorem dLaw_law_1232 : decode cLaw_law 1232 = .ok (.invokevirtual 179, 3) := zfLaw_law_1212.2.2.2.2.2.2.2.2.2.2.2.2.1
theorem dLaw_law_1235 : decode cLaw_law 1235 = .ok (.iload 5, 2) := zfLaw_law_1212.2.2.2.2.2.2.2.2.2.2.2.2.2.1
theorem dLaw_law_1237 : decode cLaw_law 1237 = .ok (.if_icmp .eq 5, 3) := zfLaw_law_1212.2.2.2.2.2.2.2.2.2.2.2.2.2.2.1
theorem dLaw_law_1240 : decode cLaw_law 1240 = .ok (.iconst 0, 1) := zfLaw_law_1212.2.2.2.2.2.2.2.2.2.2.2.2.2.2.2.1
theorem dLaw_law_1241 : decode cLaw_law 1241 = .ok (.ireturn, 1) := zfLaw_law_1212.2.2.2.2.2.2.2.2.2.2.2.2.2.2.2.2.1
theorem dLaw_law_1242 : decode cLaw_law 1242 = .ok (.iload 5, 2) := zfLaw_law_1212.2.2.2.2.2.2.2.2.2.2.2.2.2.2.2.2.2.1
theorem dLaw_law_1244 : decode cLaw_law 1244 = .ok (.ifCond .ne 17, 3) := zfLaw_law_1212.2.2.2.2.2.2.2.2.2.2.2.2.2.2.2.2.2.2.1
theorem dLaw_law_1247 : decode cLaw_law 1247 = .ok (.aload_n 3, 1) := zfLaw_law_1212.2.2.2.2.2.2.2.2.2.2.2.2.2.2.2.2.2.2.2.1
theorem dLaw_law_1248 : decode cLaw_law 1248 = .ok (.getfield 65, 3) := zfLaw_law_1212.2.2.2.2.2.2.2.2.2.2.2.2.2.2.2.2.2.2.2.2.1
theorem dLaw_law_1251 : decode cLaw_law 1251 = .ok (.aload 6, 2) := zfLaw_law_1212.2.2.2.2.2.2.2.2.2.2.2.2.2.2.2.2.2.2.2.2.2.1
theorem dLaw_law_1253 : decode cLaw_law 1253 = .ok (.invokevirtual 223, 3) := zfLaw_law_1212.2.2.2.2.2.2.2.2.2.2.2.2.2.2.2.2.2.2.2.2.2.2.1
theorem dLaw_law_1256 : decode cLaw_law 1256 = .ok (.ifCond .ne 5, 3) := zfLaw_law_1212.2.2.2.2.2.2.2.2.2.2.2.2.2.2.2.2.2.2.2.2.2.2.2.1
theorem dLaw_law_1259 : decode cLaw_law 1259 = .ok (.iconst 0, 1) := zfLaw_law_1212.2.2.2.2.2.2.2.2.2.2.2.2.2.2.2.2.2.2.2.2.2.2.2.2.1
theorem dLaw_law_1260 : decode cLaw_law 1260 = .ok (.ireturn, 1) := zfLaw_law_1212.2.2.2.2.2.2.2.2.2.2.2.2.2.2.2.2.2.2.2.2.2.2.2.2.2.1
theorem dLaw_law_1261 : decode cLaw_law 1261 = .ok (.goto 2193, 3) := zfLaw_law_1212.2.2.2.2.2.2.2.2.2.2.2.2.2.2.2.2.2.2.2.2.2.2.2.2.2.2.1
theorem dLaw_law_1264 : decode cLaw_law 1264 = .ok (.aload_n 1, 1) := zfLaw_law_1212.2.2.2.2.2.2.2.2.2.2.2.2.2.2.2.2.2.2.2.2.2.2.2.2.2.2.2.1
theorem dLaw_law_1265 : decode cLaw_law 1265 = .ok (.aload_n 0, 1) := zfLaw_law_1212.2.2.2.2.2.2.2.2.2.2.2.2.2.2.2.2.2.2.2.2.2.2.2.2.2.2.2.2.1
theorem dLaw_law_1266 : decode cLaw_law 1266 = .ok (.iload 4, 2) := zfLaw_law_1212.2.2.2.2.2.2.2.2.2.2.2.2.2.2.2.2.2.2.2.2.2.2.2.2.2.2.2.2.2.1
theorem dLaw_law_1268 : decode cLaw_law 1268 = .ok (.iconst 1, 1) := zfLaw_law_1212.2.2.2.2.2.2.2.2.2.2.2.2.2.2.2.2.2.2.2.2.2.2.2.2.2.2.2.2.2.2.1
theorem dLaw_law_1269 : decode cLaw_law 1269 = .ok (.iadd, 1) := zfLaw_law_1212.2.2.2.2.2.2.2.2.2.2.2.2.2.2.2.2.2.2.2.2.2.2.2.2.2.2.2.2.2.2.2.1
theorem zfLaw_law_1270 : decode cLaw_law 1270 = .ok (.iaload, 1) ∧ decode cLaw_law 1271 = .ok (.aload_n 3, 1) ∧ decode cLaw_law 1272 = .ok (.invokestatic 229, 3) ∧ decode cLaw_law 1275 = .ok (.istore 5, 2) ∧ decode cLaw_law 1277 = .ok (.aload_n 2, 1) ∧ decode cLaw_law 1278 = .ok (.aload_n 0, 1) ∧ decode cLaw_law 1279 = .ok (.iload 4, 2) ∧ decode cLaw_law 1281 = .ok (.iconst 1, 1) ∧ decode cLaw_law 1282 = .ok (.iadd, 1) ∧ decode cLaw_law 1283 = .ok (.iaload, 1) ∧ decode cLaw_law 1284 = .ok (.invokevirtual 231, 3) ∧ decode cLaw_law 1287 = .ok (.istore 6, 2) ∧ decode cLaw_law 1289 = .ok (.aload_n 2, 1) ∧ decode cLaw_law 1290 = .ok (.invokevirtual 179, 3) ∧ decode cLaw_law 1293 = .ok (.iload 5, 2) ∧ decode cLaw_law 1295 = .ok (.if_icmp .eq 5, 3) ∧ decode cLaw_law 1298 = .ok (.iconst 0, 1) ∧ decode cLaw_law 1299 = .ok (.ireturn, 1) ∧ decode cLaw_law 1300 = .ok (.iload 5, 2) ∧ decode cLaw_law 1302 = .ok (.ifCond .ne 16, 3) ∧ decode cLaw_law 1305 = .ok (.aload_n 3, 1) ∧ decode cLaw_law 1306 = .ok (.getfield 13, 3) ∧ decode cLaw_law 1309 = .ok (.iload 6, 2) ∧ decode cLaw_law 1311 = .ok (.i2l, 1) ∧ decode cLaw_law 1312 = .ok (.lcmp, 1) ∧ decode cLaw_law 1313 = .ok (.ifCond .eq 5, 3) ∧ decode cLaw_law 1316 = .ok (.iconst 0, 1) ∧ decode cLaw_law 1317 = .ok (.ireturn, 1) ∧ decode cLaw_law 1318 = .ok (.goto 2136, 3) ∧ decode cLaw_law 1321 = .ok (.aload_n 1, 1) ∧ decode cLaw_law 1322 = .ok (.aload_n 0, 1) ∧ decode cLaw_law 1323 = .ok (.iload 4, 2) ∧ True := Jvm.Free.DS.facts (code := cLaw_law) 1270 [(.iaload, 1), (.aload_n 3, 1), (.invokestatic 229, 3), (.istore 5, 2), (.aload_n 2, 1), (.aload_n 0, 1), (.iload 4, 2), (.iconst 1, 1), (.iadd, 1), (.iaload, 1), (.invokevirtual 231, 3), (.istore 6, 2), (.aload_n 2, 1), (.invokevirtual 179, 3), (.iload 5, 2), (.if_icmp .eq 5, 3), (.iconst 0, 1), (.ireturn, 1), (.iload 5, 2), (.ifCond .ne 16, 3), (.aload_n 3, 1), (.getfield 13, 3), (.iload 6, 2), (.i2l, 1), (.lcmp, 1), (.ifCond .eq 5, 3), (.iconst 0, 1), (.ireturn, 1), (.goto 2136, 3), (.aload_n 1, 1), (.aload_n 0, 1), (.iload 4, 2)] (by decide +kernel) (by decide +kernel)
theorem dLaw_law_1270 : decode cLaw_law 1270 = .ok (.iaload, 1) := zfLaw_law_1270.1
theorem dLaw_law_1271 : decode cLaw_law 1271 = .ok (.aload_n 3, 1) := zfLaw_law_1270.2.1
theorem dLaw_law_1272 : decode cLaw_law 1272 = .ok (.invokestatic 229, 3) := zfLaw_law_1270.2.2.1
theorem dLaw_law_1275 : decode cLaw_law 1275 = .ok (.istore 5, 2) := zfLaw_law_1270.2.2.2.1
theorem dLaw_law_1277 : decode cLaw_law 1277 = .ok (.aload_n 2, 1) := zfLaw_law_1270.2.2.2.2.1
theorem dLaw_law_1278 : decode cLaw_law 1278 = .ok (.aload_n 0, 1) := zfLaw_law_1270.2.2.2.2.2.1
theorem dLaw_law_1279 : decode cLaw_law 1279 = .ok (.iload 4, 2) := zfLaw_law_1270.2.2.2.2.2.2.1
theorem dLaw_law_1281 : decode cLaw_law 1281 = .ok (.iconst 1, 1) := zfLaw_law_1270.2.2.2.2.2.2.2.1
theorem dLaw_law_1282 : decode cLaw_law 1282 = .ok (.iadd, 1) := zfLaw_law_1270.2.2.2.2.2.2.2.2.1
theorem dLaw_law_1283 : decode cLaw_law 1283 = .ok (.iaload, 1) := zfLaw_law_1270.2.2.2.2.2.2.2.2.2.1
theorem dLaw_law_1284 : decode cLaw_law 1284 = .ok (.invokevirtual 231, 3) := zfLaw_law_1270.2.2.2.2.2.2.2.2.2.2.1
theorem dLaw_law_1287 : decode cLaw_law 1287 = .ok (.istore 6, 2) := zfLaw_law_1270.2.2.2.2.2.2.2.2.2.2.2.1
theorem dLaw_law_1289 : decode cLaw_law 1289 = .ok (.aload_n 2, 1) := zfLaw_law_1270.2.2.2.2.2.2.2.2.2.2.2.2.1
theorem dLaw_law_1290 : decode cLaw_law 1290 = .ok (.invokevirtual 179, 3) := zfLaw_law_1270.2.2.2.2.2.2.2.2.2.2.2.2.2.1
theorem dLaw_law_1293 : decode cLaw_law 1293 = .ok (.iload 5, 2) := zfLaw_law_1270.2.2.2.2.2.2.2.2.2.2.2.2.2.2.1
theorem dLaw_law_1295 : decode cLaw_law 1295 = .ok (.if_icmp .eq 5, 3) := zfLaw_law_1270.2.2.2.2.2.2.2.2.2.2.2.2.2.2.2.1
theorem dLaw_law_1298 : decode cLaw_law 1298 = .ok (.iconst 0, 1) := zfLaw_law_1270.2.2.2.2.2.2.2.2.2.2.2.2.2.2.2.2.1
theorem dLaw_law_1299 : decode cLaw_law 1299 = .ok (.ireturn, 1) := zfLaw_law_1270.2.2.2.2.2.2.2.2.2.2.2.2.2.2.2.2.2.1
theorem dLaw_law_1300 : decode cLaw_law 1300 = .ok (.iload 5, 2) := zfLaw_law_1270.2.2.2.2.2.2.2.2.2.2.2.2.2.2.2.2.2.2.1
theorem dLaw_law_1302 : decode cLaw_law 1302 = .ok (.ifCond .ne 16, 3) := zfLaw_law_1270.2.2.2.2.2.2.2.2.2.2.2.2.2.2.2.2.2.2.2.1
theorem dLaw_law_1305 : decode cLaw_law 1305 = .ok (.aload_n 3, 1) := zfLaw_law_1270.2.2.2.2.2.2.2.2.2.2.2.2.2.2.2.2.2.2.2.2.1
theorem dLaw_law_1306 : decode cLaw_law 1306 = .ok (.getfield 13, 3) := zfLaw_law_1270.2.2.2.2.2.2.2.2.2.2.2.2.2.2.2.2.2.2.2.2.2.1
theorem dLaw_law_1309 : decode cLaw_law 1309 = .ok (.iload 6, 2) := zfLaw_law_1270.2.2.2.2.2.2.2.2.2.2.2.2.2.2.2.2.2.2.2.2.2.2.1
theorem dLaw_law_1311 : decode cLaw_law 1311 = .ok (.i2l, 1) := zfLaw_law_1270.2.2.2.2.2.2.2.2.2.2.2.2.2.2.2.2.2.2.2.2.2.2.2.1
theorem dLaw_law_1312 : decode cLaw_law 1312 = .ok (.lcmp, 1) := zfLaw_law_1270.2.2.2.2.2.2.2.2.2.2.2.2.2.2.2.2.2.2.2.2.2.2.2.2.1
theorem dLaw_law_1313 : decode cLaw_law 1313 = .ok (.ifCond .eq 5, 3) := zfLaw_law_1270.2.2.2.2.2.2.2.2.2.2.2.2.2.2.2.2.2.2.2.2.2.2.2.2.2.1
theorem dLaw_law_1316 : decode cLaw_law 1316 = .ok (.iconst 0, 1) := zfLaw_law_1270.2.2.2.2.2.2.2.2.2.2.2.2.2.2.2.2.2.2.2.2.2.2.2.2.2.2.1
theorem dLaw_law_1317 : decode cLaw_law 1317 = .ok (.ireturn, 1) := zfLaw_law_1270.2.2.2.2.2.2.2.2.2.2.2.2.2.2.2.2.2.2.2.2.2.2.2.2.2.2.2.1
theorem dLaw_law_1318 : decode cLaw_law 1318 = .ok (.goto 2136, 3) := zfLaw_law_1270.2.2.2.2.2.2.2.2.2.2.2.2.2.2.2.2.2.2.2.2.2.2.2.2.2.2.2.2.1
theorem dLaw_law_1321 : decode cLaw_law 1321 = .ok (.aload_n 1, 1) := zfLaw_law_1270.2.2.2.2.2.2.2.2.2.2.2.2.2.2.2.2.2.2.2.2.2.2.2.2.2.2.2.2.2.1
theorem dLaw_law_1322 : decode cLaw_law 1322 = .ok (.aload_n 0, 1) := zfLaw_law_1270.2.2.2.2.2.2.2.2.2.2.2.2.2.2.2.2.2.2.2.2.2.2.2.2.2.2.2.2.2.2.1
theorem dLaw_law_1323 : decode cLaw_law 1323 = .ok (.iload 4, 2) := zfLaw_law_1270.2.2.2.2.2.2.2.2.2.2.2.2.2.2.2.2.2.2.2.2.2.2.2.2.2.2.2.2.2.2.2.1
theorem zfLaw_law_1325 : decode cLaw_law 1325 = .ok (.iconst 1, 1) ∧ decode cLaw_law 1326 = .ok (.iadd, 1) ∧ decode cLaw_law 1327 = .ok (.iaload, 1) ∧ decode cLaw_law 1328 = .ok (.aload_n 0, 1) ∧ decode cLaw_law 1329 = .ok (.iload 4, 2) ∧ decode cLaw_law 1331 = .ok (.iconst 2, 1) ∧ decode cLaw_law 1332 = .ok (.iadd, 1) ∧ decode cLaw_law 1333 = .ok (.iaload, 1) ∧ decode cLaw_law 1334 = .ok (.aload_n 3, 1) ∧ decode cLaw_law 1335 = .ok (.invokestatic 232, 3) ∧ decode cLaw_law 1338 = .ok (.istore 5, 2) ∧ decode cLaw_law 1340 = .ok (.aload_n 2, 1) ∧ decode cLaw_law 1341 = .ok (.aload_n 0, 1) ∧ decode cLaw_law 1342 = .ok (.iload 4, 2) ∧ decode cLaw_law 1344 = .ok (.iconst 1, 1) ∧ decode cLaw_law 1345 = .ok (.iadd, 1) ∧ decode cLaw_law 1346 = .ok (.iaload, 1) ∧ decode cLaw_law 1347 = .ok (.aload_n 0, 1) ∧ decode cLaw_law 1348 = .ok (.iload 4, 2) ∧ decode cLaw_law 1350 = .ok (.iconst 2, 1) ∧ decode cLaw_law 1351 = .ok (.iadd, 1) ∧ decode cLaw_law 1352 = .ok (.iaload, 1) ∧ decode cLaw_law 1353 = .ok (.invokevirtual 234, 3) ∧ decode cLaw_law 1356 = .ok (.istore 6, 2) ∧ decode cLaw_law 1358 = .ok (.aload_n 2, 1) ∧ decode cLaw_law 1359 = .ok (.invokevirtual 179, 3) ∧ decode cLaw_law 1362 = .ok (.iload 5, 2) ∧ decode cLaw_law 1364 = .ok (.if_icmp .eq 5, 3) ∧ decode cLaw_law 1367 = .ok (.iconst 0, 1) ∧ decode cLaw_law 1368 = .ok (.ireturn, 1) ∧ decode cLaw_law 1369 = .ok (.iload 5, 2) ∧ decode cLaw_law 1371 = .ok (.ifCond .ne 16, 3) ∧ True := Jvm.Free.DS.facts (code := cLaw_law) 1325 [(.iconst 1, 1), (.iadd, 1), (.iaload, 1), (.aload_n 0, 1), (.iload 4, 2), (.iconst 2, 1), (.iadd, 1), (.iaload, 1), (.aload_n 3, 1), (.invokestatic 232, 3), (.istore 5, 2), (.aload_n 2, 1), (.aload_n 0, 1), (.iload 4, 2), (.iconst 1, 1), (.iadd, 1), (.iaload, 1), (.aload_n 0, 1), (.iload 4, 2), (.iconst 2, 1), (.iadd, 1), (.iaload, 1), (.invokevirtual 234, 3), (.istore 6, 2), (.aload_n 2, 1), (.invokevirtual 179, 3), (.iload 5, 2), (.if_icmp .eq 5, 3), (.iconst 0, 1), (.ireturn, 1), (.iload 5, 2), (.ifCond .ne 16, 3)] (by decide +kernel) (by decide +kernel)
theorem dLaw_law_1325 : decode cLaw_law 1325 = .ok (.iconst 1, 1) := zfLaw_law_1325.1
theorem dLaw_law_1326 : decode cLaw_law 1326 = .ok (.iadd, 1) := zfLaw_law_1325.2.1
theorem dLaw_law_1327 : decode cLaw_law 1327 = .ok (.iaload, 1) := zfLaw_law_1325.2.2.1
theorem dLaw_law_1328 : decode cLaw_law 1328 = .ok (.aload_n 0, 1) := zfLaw_law_1325.2.2.2.1
theorem dLaw_law_1329 : decode cLaw_law 1329 = .ok (.iload 4, 2) := zfLaw_law_1325.2.2.2.2.1
theorem dLaw_law_1331 : decode cLaw_law 1331 = .ok (.iconst 2, 1) := zfLaw_law_1325.2.2.2.2.2.1
theorem dLaw_law_1332 : decode cLaw_law 1332 = .ok (.iadd, 1) := zfLaw_law_1325.2.2.2.2.2.2.1
theorem dLaw_law_1333 : decode cLaw_law 1333 = .ok (.iaload, 1) := zfLaw_law_1325.2.2.2.2.2.2.2.1
theorem dLaw_law_1334 : decode cLaw_law 1334 = .ok (.aload_n 3, 1) := zfLaw_law_1325.2.2.2.2.2.2.2.2.1
theorem dLaw_law_1335 : decode cLaw_law 1335 = .ok (.invokestatic 232, 3) := zfLaw_law_1325.2.2.2.2.2.2.2.2.2.1
theorem dLaw_law_1338 : decode cLaw_law 1338 = .ok (.istore 5, 2) := zfLaw_law_1325.2.2.2.2.2.2.2.2.2.2.1
theorem dLaw_law_1340 : decode cLaw_law 1340 = .ok (.aload_n 2, 1) := zfLaw_law_1325.2.2.2.2.2.2.2.2.2.2.2.1
theorem dLaw_law_1341 : decode cLaw_law 1341 = .ok (.aload_n 0, 1) := zfLaw_law_1325.2.2.2.2.2.2.2.2.2.2.2.2.1
theorem dLaw_law_1342 : decode cLaw_law 1342 = .ok (.iload 4, 2) := zfLaw_law_1325.2.2.2.2.2.2.2.2.2.2.2.2.2.1
theorem dLaw_law_1344 : decode cLaw_law 1344 = .ok (.iconst 1, 1) := zfLaw_law_1325.2.2.2.2.2.2.2.2.2.2.2.2.2.2.1
theorem dLaw_law_1345 : decode cLaw_law 1345 = .ok (.iadd, 1) := zfLaw_law_1325.2.2.2.2.2.2.2.2.2.2.2.2.2.2.2.1
theorem dLaw_law_1346 : decode cLaw_law 1346 = .ok (.iaload, 1) := zfLaw_law_1325.2.2.2.2.2.2.2.2.2.2.2.2.2.2.2.2.1
theorem dLaw_law_1347 : decode cLaw_law 1347 = .ok (.aload_n 0, 1) := zfLaw_law_1325.2.2.2.2.2.2.2.2.2.2.2.2.2.2.2.2.2.1
theorem dLaw_law_1348 : decode cLaw_law 1348 = .ok (.iload 4, 2) := zfLaw_law_1325.2.2.2.2.2.2.2.2.2.2.2.2.2.2.2.2.2.2.1
theorem dLaw_law_1350 : decode cLaw_law 1350 = .ok (.iconst 2, 1) := zfLaw_law_1325.2.2.2.2.2.2.2.2.2.2.2.2.2.2.2.2.2.2.2.1
theorem dLaw_law_1351 : decode cLaw_law 1351 = .ok (.iadd, 1) := zfLaw_law_1325.2.2.2.2.2.2.2.2.2.2.2.2.2.2.2.2.2.2.2.2.1
theorem dLaw_law_1352 : decode cLaw_law 1352 = .ok (.iaload, 1) := zfLaw_law_1325.2.2.2.2.2.2.2.2.2.2.2.2.2.2.2.2.2.2.2.2.2.1
theorem dLaw_law_1353 : decode cLaw_law 1353 = .ok (.invokevirtual 234, 3) := zfLaw_law_1325.2.2.2.2.2.2.2.2.2.2.2.2.2.2.2.2.2.2.2.2.2.2.1
theorem dLaw_law_1356 : decode cLaw_law 1356 = .ok (.istore 6, 2) := zfLaw_law_1325.2.2.2.2.2.2.2.2.2.2.2.2.2.2.2.2.2.2.2.2.2.2.2.1
theorem dLaw_law_1358 : decode cLaw_law 1358 = .ok (.aload_n 2, 1) := zfLaw_law_1325.2.2.2.2.2.2.2.2.2.2.2.2.2.2.2.2.2.2.2.2.2.2.2.2.1
theorem dLaw_law_1359 : decode cLaw_law 1359 = .ok (.invokevirtual 179, 3) := zfLaw_law_1325.2.2.2.2.2.2.2.2.2.2.2.2.2.2.2.2.2.2.2.2.2.2.2.2.2.1
theorem dLaw_law_1362 : decode cLaw_law 1362 = .ok (.iload 5, 2) := zfLaw_law_1325.2.2.2.2.2.2.2.2.2.2.2.2.2.2.2.2.2.2.2.2.2.2.2.2.2.2.1
theorem dLaw_law_1364 : decode cLaw_law 1364 = .ok (.if_icmp .eq 5, 3) := zfLaw_law_1325.2.2.2.2.2.2.2.2.2.2.2.2.2.2.2.2.2.2.2.2.2.2.2.2.2.2.2.1
theorem dLaw_law_1367 : decode cLaw_law 1367 = .ok (.iconst 0, 1) := zfLaw_law_1325.2.2.2.2.2.2.2.2.2.2.2.2.2.2.2.2.2.2.2.2.2.2.2.2.2.2.2.2.1
theorem dLaw_law_1368 : decode cLaw_law 1368 = .ok (.ireturn, 1) := zfLaw_law_1325.2.2.2.2.2.2.2.2.2.2.2.2.2.2.2.2.2.2.2.2.2.2.2.2.2.2.2.2.2.1
theorem dLaw_law_1369 : decode cLaw_law 1369 = .ok (.iload 5, 2) := zfLaw_law_1325.2.2.2.2.2.2.2.2.2.2.2.2.2.2.2.2.2.2.2.2.2.2.2.2.2.2.2.2.2.2.1
theorem dLaw_law_1371 : decode cLaw_law 1371 = .ok (.ifCond .ne 16, 3) := zfLaw_law_1325.2.2.2.2.2.2.2.2.2.2.2.2.2.2.2.2.2.2.2.2.2.2.2.2.2.2.2.2.2.2.2.1
theorem zfLaw_law_1374 : decode cLaw_law 1374 = .ok (.aload_n 3, 1) ∧ decode cLaw_law 1375 = .ok (.getfield 13, 3) ∧ decode cLaw_law 1378 = .ok (.iload 6, 2) ∧ decode cLaw_law 1380 = .ok (.i2l, 1) ∧ decode cLaw_law 1381 = .ok (.lcmp, 1) ∧ decode cLaw_law 1382 = .ok (.ifCond .eq 5, 3) ∧ decode cLaw_law 1385 = .ok (.iconst 0, 1) ∧ decode cLaw_law 1386 = .ok (.ireturn, 1) ∧ decode cLaw_law 1387 = .ok (.goto 2067, 3) ∧ decode cLaw_law 1390 = .ok (.aload_n 1, 1) ∧ decode cLaw_law 1391 = .ok (.aload_n 0, 1) ∧ decode cLaw_law 1392 = .ok (.iload 4, 2) ∧ decode cLaw_law 1394 = .ok (.iconst 1, 1) ∧ decode cLaw_law 1395 = .ok (.iadd, 1) ∧ decode cLaw_law 1396 = .ok (.iaload, 1) ∧ decode cLaw_law 1397 = .ok (.aload_n 0, 1) ∧ decode cLaw_law 1398 = .ok (.iload 4, 2) ∧ decode cLaw_law 1400 = .ok (.iconst 2, 1) ∧ decode cLaw_law 1401 = .ok (.iadd, 1) ∧ decode cLaw_law 1402 = .ok (.iaload, 1) ∧ decode cLaw_law 1403 = .ok (.aload_n 0, 1) ∧ decode cLaw_law 1404 = .ok (.iload 4, 2) ∧ decode cLaw_law 1406 = .ok (.iconst 3, 1) ∧ decode cLaw_law 1407 = .ok (.iadd, 1) ∧ decode cLaw_law 1408 = .ok (.iaload, 1) ∧ decode cLaw_law 1409 = .ok (.aload_n 3, 1) ∧ decode cLaw_law 1410 = .ok (.invokestatic 235, 3) ∧ decode cLaw_law 1413 = .ok (.istore 5, 2) ∧ decode cLaw_law 1415 = .ok (.aload_n 2, 1) ∧ decode cLaw_law 1416 = .ok (.aload_n 0, 1) ∧ decode cLaw_law 1417 = .ok (.iload 4, 2) ∧ decode cLaw_law 1419 = .ok (.iconst 1, 1) ∧ True := Jvm.Free.DS.facts (code := cLaw_law) 1374 [(.aload_n 3, 1), (.getfield 13, 3), (.iload 6, 2), (.i2l, 1), (.lcmp, 1), (.ifCond .eq 5, 3), (.iconst 0, 1), (.ireturn, 1), (.goto 2067, 3), (.aload_n 1, 1), (.aload_n 0, 1), (.iload 4, 2), (.iconst 1, 1), (.iadd, 1), (.iaload, 1), (.aload_n 0, 1), (.iload 4, 2), (.iconst 2, 1), (.iadd, 1), (.iaload, 1), (.aload_n 0, 1), (.iload 4, 2), (.iconst 3, 1), (.iadd, 1), (.iaload, 1), (.aload_n 3, 1), (.invokestatic 235, 3), (.istore 5, 2), (.aload_n 2, 1), (.aload_n 0, 1), (.iload 4, 2), (.iconst 1, 1)] (by decide +kernel) (by decide +kernel)
theorem dLaw_law_1374 : decode cLaw_law 1374 = .ok (.aload_n 3, 1) := zfLaw_law_1374.1
theorem dLaw_law_1375 : decode cLaw_law 1375 = .ok (.getfield 13, 3) := zfLaw_law_1374.2.1
theorem dLaw_law_1378 : decode cLaw_law 1378 = .ok (.iload 6, 2) := zfLaw_law_1374.2.2.1
theorem dLaw_law_1380 : decode cLaw_law 1380 = .ok (.i2l, 1) := zfLaw_law_1374.2.2.2.1
theorem dLaw_law_1381 : decode cLaw_law 1381 = .ok (.lcmp, 1) := zfLaw_law_1374.2.2.2.2.1
theorem dLaw_law_1382 : decode cLaw_law 1382 = .ok (.ifCond .eq 5, 3) := zfLaw_law_1374.2.2.2.2.2.1
theorem dLaw_law_1385 : decode cLaw_law 1385 = .ok (.iconst 0, 1) := zfLaw_law_1374.2.2.2.2.2.2.1
theorem dLaw_law_1386 : decode cLaw_law 1386 = .ok (.ireturn, 1) := zfLaw_law_1374.2.2.2.2.2.2.2.1
theorem dLaw_law_1387 : decode cLaw_law 1387 = .ok (.goto 2067, 3) := zfLaw_law_1374.2.2.2.2.2.2.2.2.1
theorem dLaw_law_1390 : decode cLaw_law 1390 = .ok (.aload_n 1, 1) := zfLaw_law_1374.2.2.2.2.2.2.2.2.2.1
theorem dLaw_law_1391 : decode cLaw_law 1391 = .ok (.aload_n 0, 1) := zfLaw_law_1374.2.2.2.2.2.2.2.2.2.2.1
theorem dLaw_law_1392 : decode cLaw_law 1392 = .ok (.iload 4, 2) := zfLaw_law_1374.2.2.2.2.2.2.2.2.2.2.2.1
theorem dLaw_law_1394 : decode cLaw_law 1394 = .ok (.iconst 1, 1) := zfLaw_law_1374.2.2.2.2.2.2.2.2.2.2.2.2.1
theorem dLaw_law_1395 : decode cLaw_law 1395 = .ok (.iadd, 1) := zfLaw_law_1374.2.2.2.2.2.2.2.2.2.2.2.2.2.1
theorem dLaw_law_1396 : decode cLaw_law 1396 = .ok (.iaload, 1) := zfLaw_law_1374.2.2.2.2.2.2.2.2.2.2.2.2.2.2.1
theorem dLaw_law_1397 : decode cLaw_law 1397 = .ok (.aload_n 0, 1) := zfLaw_law_1374.2.2.2.2.2.2.2.2.2.2.2.2.2.2.2.1
theorem dLaw_law_1398 : decode cLaw_law 1398 = .ok (.iload 4, 2) := zfLaw_law_1374.2.2.2.2.2.2.2.2.2.2.2.2.2.2.2.2.1
theorem dLaw_law_1400 : decode cLaw_law 1400 = .ok (.iconst 2, 1) := zfLaw_law_1374.2.2.2.2.2.2.2.2.2.2.2.2.2.2.2.2.2.1
theorem dLaw_law_1401 : decode cLaw_law 1401 = .ok (.iadd, 1) := zfLaw_law_1374.2.2.2.2.2.2.2.2.2.2.2.2.2.2.2.2.2.2.1
theorem dLaw_law_1402 : decode cLaw_law 1402 = .ok (.iaload, 1) := zfLaw_law_1374.2.2.2.2.2.2.2.2.2.2.2.2.2.2.2.2.2.2.2.1
theorem dLaw_law_1403 : decode cLaw_law 1403 = .ok (.aload_n 0, 1) := zfLaw_law_1374.2.2.2.2.2.2.2.2.2.2.2.2.2.2.2.2.2.2.2.2.1
theorem dLaw_law_1404 : decode cLaw_law 1404 = .ok (.iload 4, 2) := zfLaw_law_1374.2.2.2.2.2.2.2.2.2.2.2.2.2.2.2.2.2.2.2.2.2.1
theorem dLaw_law_1406 : decode cLaw_law 1406 = .ok (.iconst 3, 1) := zfLaw_law_1374.2.2.2.2.2.2.2.2.2.2.2.2.2.2.2.2.2.2.2.2.2.2.1
theorem dLaw_law_1407 : decode cLaw_law 1407 = .ok (.iadd, 1) := zfLaw_law_1374.2.2.2.2.2.2.2.2.2.2.2.2.2.2.2.2.2.2.2.2.2.2.2.1
theorem dLaw_law_1408 : decode cLaw_law 1408 = .ok (.iaload, 1) := zfLaw_law_1374.2.2.2.2.2.2.2.2.2.2.2.2.2.2.2.2.2.2.2.2.2.2.2.2.1
theorem dLaw_law_1409 : decode cLaw_law 1409 = .ok (.aload_n 3, 1) := zfLaw_law_1374.2.2.2.2.2.2.2.2.2.2.2.2.2.2.2.2.2.2.2.2.2.2.2.2.2.1
theorem dLaw_law_1410 : decode cLaw_law 1410 = .ok (.invokestatic 235, 3) := zfLaw_law_1374.2.2.2.2.2.2.2.2.2.2.2.2.2.2.2.2.2.2.2.2.2.2.2.2.2.2.1
theorem dLaw_law_1413 : decode cLaw_law 1413 = .ok (.istore 5, 2) := zfLaw_law_1374.2.2.2.2.2.2.2.2.2.2.2.2.2.2.2.2.2.2.2.2.2.2.2.2.2.2.2.1
theorem dLaw_law_1415 : decode cLaw_law 1415 = .ok (.aload_n 2, 1) := zfLaw_law_1374.2.2.2.2.2.2.2.2.2.2.2.2.2.2.2.2.2.2.2.2.2.2.2.2.2.2.2.2.1
theorem dLaw_law_1416 : decode cLaw_law 1416 = .ok (.aload_n 0, 1) := zfLaw_law_1374.2.2.2.2.2.2.2.2.2.2.2.2.2.2.2.2.2.2.2.2.2.2.2.2.2.2.2.2.2.1
theorem dLaw_law_1417 : decode cLaw_law 1417 = .ok (.iload 4, 2) := zfLaw_law_1374.2.2.2.2.2.2.2.2.2.2.2.2.2.2.2.2.2.2.2.2.2.2.2.2.2.2.2.2.2.2.1
theorem dLaw_law_1419 : decode cLaw_law 1419 = .ok (.iconst 1, 1) := zfLaw_law_1374.2.2.2.2.2.2.2.2.2.2.2.2.2.2.2.2.2.2.2.2.2.2.2.2.2.2.2.2.2.2.2.1
theorem zfLaw_law_1420 : decode cLaw_law 1420 = .ok (.iadd, 1) ∧ decode cLaw_law 1421 = .ok (.iaload, 1) ∧ decode cLaw_law 1422 = .ok (.aload_n 0, 1) ∧ decode cLaw_law 1423 = .ok (.iload 4, 2) ∧ decode cLaw_law 1425 = .ok (.iconst 2, 1) ∧ decode cLaw_law 1426 = .ok (.iadd, 1) ∧ decode cLaw_law 1427 = .ok (.iaload, 1) ∧ decode cLaw_law 1428 = .ok (.aload_n 0, 1) ∧ decode cLaw_law 1429 = .ok (.iload 4, 2) ∧ decode cLaw_law 1431 = .ok (.iconst 3, 1) ∧ decode cLaw_law 1432 = .ok (.iadd, 1) ∧ decode cLaw_law 1433 = .ok (.iaload, 1) ∧ decode cLaw_law 1434 = .ok (.invokevirtual 237, 3) ∧ decode cLaw_law 1437 = .ok (.istore 6, 2) ∧ decode cLaw_law 1439 = .ok (.aload_n 2, 1) ∧ decode cLaw_law 1440 = .ok (.invokevirtual 179, 3) ∧ decode cLaw_law 1443 = .ok (.iload 5, 2) ∧ decode cLaw_law 1445 = .ok (.if_icmp .eq 5, 3) ∧ decode cLaw_law 1448 = .ok (.iconst 0, 1) ∧ decode cLaw_law 1449 = .ok (.ireturn, 1) ∧ decode cLaw_law 1450 = .ok (.iload 5, 2) ∧ decode cLaw_law 1452 = .ok (.ifCond .ne 16, 3) ∧ decode cLaw_law 1455 = .ok (.aload_n 3, 1) ∧ decode cLaw_law 1456 = .ok (.getfield 13, 3) ∧ decode cLaw_law 1459 = .ok (.iload 6, 2) ∧ decode cLaw_law 1461 = .ok (.i2l, 1) ∧ decode cLaw_law 1462 = .ok (.lcmp, 1) ∧ decode cLaw_law 1463 = .ok (.ifCond .eq 5, 3) ∧ decode cLaw_law 1466 = .ok (.iconst 0, 1) ∧ decode cLaw_law 1467 = .ok (.ireturn, 1) ∧ decode cLaw_law 1468 = .ok (.goto 1986, 3) ∧ decode cLaw_law 1471 = .ok (.aload_n 1, 1) ∧ True := Jvm.Free.DS.facts (code := cLaw_law) 1420 [(.iadd, 1), (.iaload, 1), (.aload_n 0, 1), (.iload 4, 2), (.iconst 2, 1), (.iadd, 1), (.iaload, 1), (.aload_n 0, 1), (.iload 4, 2), (.iconst 3, 1), (.iadd, 1), (.iaload, 1), (.invokevirtual 237, 3), (.istore 6, 2), (.aload_n 2, 1), (.invokevirtual 179, 3), (.iload 5, 2), (.if_icmp .eq 5, 3), (.iconst 0, 1), (.ireturn, 1), (.iload 5, 2), (.ifCond .ne 16, 3), (.aload_n 3, 1), (.getfield 13, 3), (.iload 6, 2), (.i2l, 1), (.lcmp, 1), (.ifCond .eq 5, 3), (.iconst 0, 1), (.ireturn, 1), (.goto 1986, 3), (.aload_n 1, 1)] (by decide +kernel) (by decide +kernel)
theorem dLaw_law_1420 : decode cLaw_law 1420 = .ok (.iadd, 1) := zfLaw_law_1420.1
theorem dLaw_law_1421 : decode cLaw_law 1421 = .ok (.iaload, 1) := zfLaw_law_1420.2.1
theorem dLaw_law_1422 : decode cLaw_law 1422 = .ok (.aload_n 0, 1) := zfLaw_law_1420.2.2.1
theorem dLaw_law_1423 : decode cLaw_law 1423 = .ok (.iload 4, 2) := zfLaw_law_1420.2.2.2.1
theorem dLaw_law_1425 : decode cLaw_law 1425 = .ok (.iconst 2, 1) := zfLaw_law_1420.2.2.2.2.1
theorem dLaw_law_1426 : decode cLaw_law 1426 = .ok (.iadd, 1) := zfLaw_law_1420.2.2.2.2.2.1
theorem dLaw_law_1427 : decode cLaw_law 1427 = .ok (.iaload, 1) := zfLaw_law_1420.2.2.2.2.2.2.1
theorem dLaw_law_1428 : decode cLaw_law 1428 = .ok (.aload_n 0, 1) := zfLaw_law_1420.2.2.2.2.2.2.2.1
theorem dLaw_law_1429 : decode cLaw_law 1429 = .ok (.iload 4, 2) := zfLaw_law_1420.2.2.2.2.2.2.2.2.1
theorem dLaw_law_1431 : decode cLaw_law 1431 = .ok (.iconst 3, 1) := zfLaw_law_1420.2.2.2.2.2.2.2.2.2.1
theorem dLaw_law_1432 : decode cLaw_law 1432 = .ok (.iadd, 1) := zfLaw_law_1420.2.2.2.2.2.2.2.2.2.2.1
theorem dLaw_law_1433 : decode cLaw_law 1433 = .ok (.iaload, 1) := zfLaw_law_1420.2.2.2.2.2.2.2.2.2.2.2.1
theorem dLaw_law_1434 : decode cLaw_law 1434 = .ok (.invokevirtual 237, 3) := zfLaw_law_1420.2.2.2.2.2.2.2.2.2.2.2.2.1
theorem dLaw_law_1437 : decode cLaw_law 1437 = .ok (.istore 6, 2) := zfLaw_law_1420.2.2.2.2.2.2.2.2.2.2.2.2.2.1
theorem dLaw_law_1439 : decode cLaw_law 1439 = .ok (.aload_n 2, 1) := zfLaw_law_1420.2.2.2.2.2.2.2.2.2.2.2.2.2.2.1
theorem dLaw_law_1440 : decode cLaw_law 1440 = .ok (.invokevirtual 179, 3) := zfLaw_law_1420.2.2.2.2.2.2.2.2.2.2.2.2.2.2.2.1
theorem dLaw_law_1443 : decode cLaw_law 1443 = .ok (.iload 5, 2) := zfLaw_law_1420.2.2.2.2.2.2.2.2.2.2.2.2.2.2.2.2.1
theorem dLaw_law_1445 : decode cLaw_law 1445 = .ok (.if_icmp .eq 5, 3) := zfLaw_law_1420.2.2.2.2.2.2.2.2.2.2.2.2.2.2.2.2.2.1
theorem dLaw_law_1448 : decode cLaw_law 1448 = .ok (.iconst 0, 1) := zfLaw_law_1420.2.2.2.2.2.2.2.2.2.2.2.2.2.2.2.2.2.2.1
theorem dLaw_law_1449 : decode cLaw_law 1449 = .ok (.ireturn, 1) := zfLaw_law_1420.2.2.2.2.2.2.2.2.2.2.2.2.2.2.2.2.2.2.2.1
theorem dLaw_law_1450 : decode cLaw_law 1450 = .ok (.iload 5, 2) := zfLaw_law_1420.2.2.2.2.2.2.2.2.2.2.2.2.2.2.2.2.2.2.2.2.1
theorem dLaw_law_1452 : decode cLaw_law 1452 = .ok (.ifCond .ne 16, 3) := zfLaw_law_1420.2.2.2.2.2.2.2.2.2.2.2.2.2.2.2.2.2.2.2.2.2.1
theorem dLaw_law_1455 : decode cLaw_law 1455 = .ok (.aload_n 3, 1) := zfLaw_law_1420.2.2.2.2.2.2.2.2.2.2.2.2.2.2.2.2.2.2.2.2.2.2.1
theorem dLaw_law_1456 : decode cLaw_law 1456 = .ok (.getfield 13, 3) := zfLaw_law_1420.2.2.2.2.2.2.2.2.2.2.2.2.2.2.2.2.2.2.2.2.2.2.2.1
theorem dLaw_law_1459 : decode cLaw_law 1459 = .ok (.iload 6, 2) := zfLaw_law_1420.2.2.2.2.2.2.2.2.2.2.2.2.2.2.2.2.2.2.2.2.2.2.2.2.1
theorem dLaw_law_1461 : decode cLaw_law 1461 = .ok (.i2l, 1) := zfLaw_law_1420.2.2.2.2.2.2.2.2.2.2.2.2.2.2.2.2.2.2.2.2.2.2.2.2.2.1
theorem dLaw_law_1462 : decode cLaw_law 1462 = .ok (.lcmp, 1) := zfLaw_law_1420.2.2.2.2.2.2.2.2.2.2.2.2.2.2.2.2.2.2.2.2.2.2.2.2.2.2.1
theorem dLaw_law_1463 : decode cLaw_law 1463 = .ok (.ifCond .eq 5, 3) := zfLaw_law_1420.2.2.2.2.2.2.2.2.2.2.2.2.2.2.2.2.2.2.2.2.2.2.2.2.2.2.2.1
theorem dLaw_law_1466 : decode cLaw_law 1466 = .ok (.iconst 0, 1) := zfLaw_law_1420.2.2.2.2.2.2.2.2.2.2.2.2.2.2.2.2.2.2.2.2.2.2.2.2.2.2.2.2.1
theorem dLaw_law_1467 : decode cLaw_law 1467 = .ok (.ireturn, 1) := zfLaw_law_1420.2.2.2.2.2.2.2.2.2.2.2.2.2.2.2.2.2.2.2.2.2.2.2.2.2.2.2.2.2.1
theorem dLaw_law_1468 : decode cLaw_law 1468 = .ok (.goto 1986, 3) := zfLaw_law_1420.2.2.2.2.2.2.2.2.2.2.2.2.2.2.2.2.2.2.2.2.2.2.2.2.2.2.2.2.2.2.1
theorem dLaw_law_1471 : decode cLaw_law 1471 = .ok (.aload_n 1, 1) := zfLaw_law_1420.2.2.2.2.2.2.2.2.2.2.2.2.2.2.2.2.2.2.2.2.2.2.2.2.2.2.2.2.2.2.2.1
theorem zfLaw_law_1472 : decode cLaw_law 1472 = .ok (.aload_n 0, 1) ∧ decode cLaw_law 1473 = .ok (.iload 4, 2) ∧ decode cLaw_law 1475 = .ok (.iconst 1, 1) ∧ decode cLaw_law 1476 = .ok (.iadd, 1) ∧ decode cLaw_law 1477 = .ok (.iaload, 1) ∧ decode cLaw_law 1478 = .ok (.aload_n 0, 1) ∧ decode cLaw_law 1479 = .ok (.iload 4, 2) ∧ decode cLaw_law 1481 = .ok (.iconst 2, 1) ∧ decode cLaw_law 1482 = .ok (.iadd, 1) ∧ decode cLaw_law 1483 = .ok (.iaload, 1) ∧ decode cLaw_law 1484 = .ok (.aload_n 3, 1) ∧ decode cLaw_law 1485 = .ok (.invokestatic 238, 3) ∧ decode cLaw_law 1488 = .ok (.istore 5, 2) ∧ decode cLaw_law 1490 = .ok (.aload_n 2, 1) ∧ decode cLaw_law 1491 = .ok (.aload_n 0, 1) ∧ decode cLaw_law 1492 = .ok (.iload 4, 2) ∧ decode cLaw_law 1494 = .ok (.iconst 1, 1) ∧ decode cLaw_law 1495 = .ok (.iadd, 1) ∧ decode cLaw_law 1496 = .ok (.iaload, 1) ∧ decode cLaw_law 1497 = .ok (.aload_n 0, 1) ∧ decode cLaw_law 1498 = .ok (.iload 4, 2) ∧ decode cLaw_law 1500 = .ok (.iconst 2, 1) ∧ decode cLaw_law 1501 = .ok (.iadd, 1) ∧ decode cLaw_law 1502 = .ok (.iaload, 1) ∧ decode cLaw_law 1503 = .ok (.invokevirtual 240, 3) ∧ decode cLaw_law 1506 = .ok (.istore 6, 2) ∧ decode cLaw_law 1508 = .ok (.aload_n 2, 1) ∧ decode cLaw_law 1509 = .ok (.invokevirtual 179, 3) ∧ decode cLaw_law 1512 = .ok (.iload 5, 2) ∧ decode cLaw_law 1514 = .ok (.if_icmp .eq 5, 3) ∧ decode cLaw_law 1517 = .ok (.iconst 0, 1) ∧ decode cLaw_law 1518 = .ok (.ireturn, 1) ∧ True := Jvm.Free.DS.facts (code := cLaw_law) 1472 [(.aload_n 0, 1), (.iload 4, 2), (.iconst 1, 1), (.iadd, 1), (.iaload, 1), (.aload_n 0, 1), (.iload 4, 2), (.iconst 2, 1), (.iadd, 1), (.iaload, 1), (.aload_n 3, 1), (.invokestatic 238, 3), (.istore 5, 2), (.aload_n 2, 1), (.aload_n 0, 1), (.iload 4, 2), (.iconst 1, 1), (.iadd, 1), (.iaload, 1), (.aload_n 0, 1), (.iload 4, 2), (.iconst 2, 1), (.iadd, 1), (.iaload, 1), (.invokevirtual 240, 3), (.istore 6, 2), (.aload_n 2, 1), (.invokevirtual 179, 3), (.iload 5, 2), (.if_icmp .eq 5, 3), (.iconst 0, 1), (.ireturn, 1)] (by decide +kernel) (by decide +kernel)
theorem dLaw_law_1472 : decode cLaw_law 1472 = .ok (.aload_n 0, 1) := zfLaw_law_1472.1
theorem dLaw_law_1473 : decode cLaw_law 1473 = .ok (.iload 4, 2) := zfLaw_law_1472.2.1
theorem dLaw_law_1475 : decode cLaw_law 1475 = .ok (.iconst 1, 1) := zfLaw_law_1472.2.2.1
theorem dLaw_law_1476 : decode cLaw_law 1476 = .ok (.iadd, 1) := zfLaw_law_1472.2.2.2.1
theorem dLaw_law_1477 : decode cLaw_law 1477 = .ok (.iaload, 1) := zfLaw_law_1472.2.2.2.2.1
theorem dLaw_law_1478 : decode cLaw_law 1478 = .ok (.aload_n 0, 1) := zfLaw_law_1472.2.2.2.2.2.1
theorem dLaw_law_1479 : decode cLaw_law 1479 = .ok (.iload 4, 2) := zfLaw_law_1472.2.2.2.2.2.2.1
theorem dLaw_law_1481 : decode cLaw_law 1481 = .ok (.iconst 2, 1) := zfLaw_law_1472.2.2.2.2.2.2.2.1
theorem dLaw_law_1482 : decode cLaw_law 1482 = .ok (.iadd, 1) := zfLaw_law_1472.2.2.2.2.2.2.2.2.1
theorem dLaw_law_1483 : decode cLaw_law 1483 = .ok (.iaload, 1) := zfLaw_law_1472.2.2.2.2.2.2.2.2.2.1
theorem dLaw_law_1484 : decode cLaw_law 1484 = .ok (.aload_n 3, 1) := zfLaw_law_1472.2.2.2.2.2.2.2.2.2.2.1
theorem dLaw_law_1485 : decode cLaw_law 1485 = .ok (.invokestatic 238, 3) := zfLaw_law_1472.2.2.2.2.2.2.2.2.2.2.2.1
theorem dLaw_law_1488 : decode cLaw_law 1488 = .ok (.istore 5, 2) := zfLaw_law_1472.2.2.2.2.2.2.2.2.2.2.2.2.1
theorem dLaw_law_1490 : decode cLaw_law 1490 = .ok (.aload_n 2, 1) := zfLaw_law_1472.2.2.2.2.2.2.2.2.2.2.2.2.2.1
theorem dLaw_law_1491 : decode cLaw_law 1491 = .ok (.aload_n 0, 1) := zfLaw_law_1472.2.2.2.2.2.2.2.2.2.2.2.2.2.2.1
theorem dLaw_law_1492 : decode cLaw_law 1492 = .ok (.iload 4, 2) := zfLaw_law_1472.2.2.2.2.2.2.2.2.2.2.2.2.2.2.2.1
theorem dLaw_law_1494 : decode cLaw_law 1494 = .ok (.iconst 1, 1) := zfLaw_law_1472.2.2.2.2.2.2.2.2.2.2.2.2.2.2.2.2.1
theorem dLaw_law_1495 : decode cLaw_law 1495 = .ok (.iadd, 1) := zfLaw_law_1472.2.2.2.2.2.2.2.2.2.2.2.2.2.2.2.2.2.1
theorem dLaw_law_1496 : decode cLaw_law 1496 = .ok (.iaload, 1) := zfLaw_law_1472.2.2.2.2.2.2.2.2.2.2.2.2.2.2.2.2.2.2.1
theorem dLaw_law_1497 : decode cLaw_law 1497 = .ok (.aload_n 0, 1) := zfLaw_law_1472.2.2.2.2.2.2.2.2.2.2.2.2.2.2.2.2.2.2.2.1
theorem dLaw_law_1498 : decode cLaw_law 1498 = .ok (.iload 4, 2) := zfLaw_law_1472.2.2.2.2.2.2.2.2.2.2.2.2.2.2.2.2.2.2.2.2.1
theorem dLaw_law_1500 : decode cLaw_law 1500 = .ok (.iconst 2, 1) := zfLaw_law_1472.2.2.2.2.2.2.2.2.2.2.2.2.2.2.2.2.2.2.2.2.2.1
theorem dLaw_law_1501 : decode cLaw_law 1501 = .ok (.iadd, 1) := zfLaw_law_1472.2.2.2.2.2.2.2.2.2.2.2.2.2.2.2.2.2.2.2.2.2.2.1
theorem dLaw_law_1502 : decode cLaw_law 1502 = .ok (.iaload, 1) := zfLaw_law_1472.2.2.2.2.2.2.2.2.2.2.2.2.2.2.2.2.2.2.2.2.2.2.2.1
theorem dLaw_law_1503 : decode cLaw_law 1503 = .ok (.invokevirtual 240, 3) := zfLaw_law_1472.2.2.2.2.2.2.2.2.2.2.2.2.2.2.2.2.2.2.2.2.2.2.2.2.1
theorem dLaw_law_1506 : decode cLaw_law 1506 = .ok (.istore 6, 2) := zfLaw_law_1472.2.2.2.2.2.2.2.2.2.2.2.2.2.2.2.2.2.2.2.2.2.2.2.2.2.1
theorem dLaw_law_1508 : decode cLaw_law 1508 = .ok (.aload_n 2, 1) := zfLaw_law_1472.2.2.2.2.2.2.2.2.2.2.2.2.2.2.2.2.2.2.2.2.2.2.2.2.2.2.1
theorem dLaw_law_1509 : decode cLaw_law 1509 = .ok (.invokevirtual 179, 3) := zfLaw_law_1472.2.2.2.2.2.2.2.2.2.2.2.2.2.2.2.2.2.2.2.2.2.2.2.2.2.2.2.1
theorem dLaw_law_1512 : decode cLaw_law 1512 = .ok (.iload 5, 2) := zfLaw_law_1472.2.2.2.2.2.2.2.2.2.2.2.2.2.2.2.2.2.2.2.2.2.2.2.2.2.2.2.2.1
theorem dLaw_law_1514 : decode cLaw_law 1514 = .ok (.if_icmp .eq 5, 3) := zfLaw_law_1472.2.2.2.2.2.2.2.2.2.2.2.2.2.2.2.2.2.2.2.2.2.2.2.2.2.2.2.2.2.1
theorem dLaw_law_1517 : decode cLaw_law 1517 = .ok (.iconst 0, 1) := zfLaw_law_1472.2.2.2.2.2.2.2.2.2.2.2.2.2.2.2.2.2.2.2.2.2.2.2.2.2.2.2.2.2.2.1
theorem dLaw_law_1518 : decode cLaw_law 1518 = .ok (.ireturn, 1) := zfLaw_law_1472.2.2.2.2.2.2.2.2.2.2.2.2.2.2.2.2.2.2.2.2.2.2.2.2.2.2.2.2.2.2.2.1
theorem zfLaw_law_1519 : decode cLaw_law 1519 = .ok (.iload 5, 2) ∧ decode cLaw_law 1521 = .ok (.ifCond .ne 16, 3) ∧ decode cLaw_law 1524 = .ok (.aload_n 3, 1) ∧ decode cLaw_law 1525 = .ok (.getfield 13, 3) ∧ decode cLaw_law 1528 = .ok (.iload 6, 2) ∧ decode cLaw_law 1530 = .ok (.i2l, 1) ∧ decode cLaw_law 1531 = .ok (.lcmp, 1) ∧ decode cLaw_law 1532 = .ok (.ifCond .eq 5, 3) ∧ decode cLaw_law 1535 = .ok (.iconst 0, 1) ∧ decode cLaw_law 1536 = .ok (.ireturn, 1) ∧ decode cLaw_law 1537 = .ok (.goto 1917, 3) ∧ decode cLaw_law 1540 = .ok (.aload_n 1, 1) ∧ decode cLaw_law 1541 = .ok (.aload_n 0, 1) ∧ decode cLaw_law 1542 = .ok (.iload 4, 2) ∧ decode cLaw_law 1544 = .ok (.iconst 1, 1) ∧ decode cLaw_law 1545 = .ok (.iadd, 1) ∧ decode cLaw_law 1546 = .ok (.iaload, 1) ∧ decode cLaw_law 1547 = .ok (.aload_n 0, 1) ∧ decode cLaw_law 1548 = .ok (.iload 4, 2) ∧ decode cLaw_law 1550 = .ok (.iconst 2, 1) ∧ decode cLaw_law 1551 = .ok (.iadd, 1) ∧ decode cLaw_law 1552 = .ok (.iaload, 1) ∧ decode cLaw_law 1553 = .ok (.aload_n 3, 1) ∧ decode cLaw_law 1554 = .ok (.invokestatic 241, 3) ∧ decode cLaw_law 1557 = .ok (.istore 5, 2) ∧ decode cLaw_law 1559 = .ok (.aload_n 2, 1) ∧ decode cLaw_law 1560 = .ok (.aload_n 0, 1) ∧ decode cLaw_law 1561 = .ok (.iload 4, 2) ∧ decode cLaw_law 1563 = .ok (.iconst 1, 1) ∧ decode cLaw_law 1564 = .ok (.iadd, 1) ∧ decode cLaw_law 1565 = .ok (.iaload, 1) ∧ decode cLaw_law 1566 = .ok (.aload_n 0, 1) ∧ True := Jvm.Free.DS.facts (code := cLaw_law) 1519 [(.iload 5, 2), (.ifCond .ne 16, 3), (.aload_n 3, 1), (.getfield 13, 3), (.iload 6, 2), (.i2l, 1), (.lcmp, 1), (.ifCond .eq 5, 3), (.iconst 0, 1), (.ireturn, 1), (.goto 1917, 3), (.aload_n 1, 1), (.aload_n 0, 1), (.iload 4, 2), (.iconst 1, 1), (.iadd, 1), (.iaload, 1), (.aload_n 0, 1), (.iload 4, 2), (.iconst 2, 1), (.iadd, 1), (.iaload, 1), (.aload_n 3, 1), (.invokestatic 241, 3), (.istore 5, 2), (.aload_n 2, 1), (.aload_n 0, 1), (.iload 4, 2), (.iconst 1, 1), (.iadd, 1), (.iaload, 1), (.aload_n 0, 1)] (by decide +kernel) (by decide +kernel)
theorem dLaw_law_1519 : decode cLaw_law 1519 = .ok (.iload 5, 2) := zfLaw_law_1519.1
theorem dLaw_law_1521 : decode cLaw_law 1521 = .ok (.ifCond .ne 16, 3) := zfLaw_law_1519.2.1
theorem dLaw_law_1524 : decode cLaw_law 1524 = .ok (.aload_n 3, 1) := zfLaw_law_1519.2.2.1
theorem dLaw_law_1525 : decode cLaw_law 1525 = .ok (.getfield 13, 3) := zfLaw_law_1519.2.2.2.1
theorem dLaw_law_1528 : decode cLaw_law 1528 = .ok (.iload 6, 2) := zfLaw_law_1519.2.2.2.2.1
theorem dLaw_law_1530 : decode cLaw_law 1530 = .ok (.i2l, 1) := zfLaw_law_1519.2.2.2.2.2.1
theorem dLaw_law_1531 : decode cLaw_law 1531 = .ok (.lcmp, 1) := zfLaw_law_1519.2.2.2.2.2.2.1
theorem dLaw_law_1532 : decode cLaw_law 1532 = .ok (.ifCond .eq 5, 3) := zfLaw_law_1519.2.2.2.2.2.2.2.1
theorem dLaw_law_1535 : decode cLaw_law 1535 = .ok (.iconst 0, 1) := zfLaw_law_1519.2.2.2.2.2.2.2.2.1
theorem dLaw_law_1536 : decode cLaw_law 1536 = .ok (.ireturn, 1) := zfLaw_law_1519.2.2.2.2.2.2.2.2.2.1
theorem dLaw_law_1537 : decode cLaw_law 1537 = .ok (.goto 1917, 3) := zfLaw_law_1519.2.2.2.2.2.2.2.2.2.2.1
theorem dLaw_law_1540 : decode cLaw_law 1540 = .ok (.aload_n 1, 1) := zfLaw_law_1519.2.2.2.2.2.2.2.2.2.2.2.1
theorem dLaw_law_1541 : decode cLaw_law 1541 = .ok (.aload_n 0, 1) := zfLaw_law_1519.2.2.2.2.2.2.2.2.2.2.2.2.1
theorem dLaw_law_1542 : decode cLaw_law 1542 = .ok (.iload 4, 2) := zfLaw_law_1519.2.2.2.2.2.2.2.2.2.2.2.2.2.1
theorem dLaw_law_1544 : decode cLaw_law 1544 = .ok (.iconst 1, 1) := zfLaw_law_1519.2.2.2.2.2.2.2.2.2.2.2.2.2.2.1
theorem dLaw_law_1545 : decode cLaw_law 1545 = .ok (.iadd, 1) := zfLaw_law_1519.2.2.2.2.2.2.2.2.2.2.2.2.2.2.2.1
theorem dLaw_law_1546 : decode cLaw_law 1546 = .ok (.iaload, 1) := zfLaw_law_1519.2.2.2.2.2.2.2.2.2.2.2.2.2.2.2.2.1
theorem dLaw_law_1547 : decode cLaw_law 1547 = .ok (.aload_n 0, 1) := zfLaw_law_1519.2.2.2.2.2.2.2.2.2.2.2.2.2.2.2.2.2.1
theorem dLaw_law_1548 : decode cLaw_law 1548 = .ok (.iload 4, 2) := zfLaw_law_1519.2.2.2.2.2.2.2.2.2.2.2.2.2.2.2.2.2.2.1
theorem dLaw_law_1550 : decode cLaw_law 1550 = .ok (.iconst 2, 1) := zfLaw_law_1519.2.2.2.2.2.2.2.2.2.2.2.2.2.2.2.2.2.2.2.1
theorem dLaw_law_1551 : decode cLaw_law 1551 = .ok (.iadd, 1) := zfLaw_law_1519.2.2.2.2.2.2.2.2.2.2.2.2.2.2.2.2.2.2.2.2.1
theorem dLaw_law_1552 : decode cLaw_law 1552 = .ok (.iaload, 1) := zfLaw_law_1519.2.2.2.2.2.2.2.2.2.2.2.2.2.2.2.2.2.2.2.2.2.1
theorem dLaw_law_1553 : decode cLaw_law 1553 = .ok (.aload_n 3, 1) := zfLaw_law_1519.2.2.2.2.2.2.2.2.2.2.2.2.2.2.2.2.2.2.2.2.2.2.1
theorem dLaw_law_1554 : decode cLaw_law 1554 = .ok (.invokestatic 241, 3) := zfLaw_law_1519.2.2.2.2.2.2.2.2.2.2.2.2.2.2.2.2.2.2.2.2.2.2.2.1
theorem dLaw_law_1557 : decode cLaw_law 1557 = .ok (.istore 5, 2) := zfLaw_law_1519.2.2.2.2.2.2.2.2.2.2.2.2.2.2.2.2.2.2.2.2.2.2.2.2.1
theorem dLaw_law_1559 : decode cLaw_law 1559 = .ok (.aload_n 2, 1) := zfLaw_law_1519.2.2.2.2.2.2.2.2.2.2.2.2.2.2.2.2.2.2.2.2.2.2.2.2.2.1
theorem dLaw_law_1560 : decode cLaw_law 1560 = .ok (.aload_n 0, 1) := zfLaw_law_1519.2.2.2.2.2.2.2.2.2.2.2.2.2.2.2.2.2.2.2.2.2.2.2.2.2.2.1
theorem dLaw_law_1561 : decode cLaw_law 1561 = .ok (.iload 4, 2) := zfLaw_law_1519.2.2.2.2.2.2.2.2.2.2.2.2.2.2.2.2.2.2.2.2.2.2.2.2.2.2.2.1
theorem dLaw_law_1563 : decode cLaw_law 1563 = .ok (.iconst 1, 1) := zfLaw_law_1519.2.2.2.2.2.2.2.2.2.2.2.2.2.2.2.2.2.2.2.2.2.2.2.2.2.2.2.2.1
theorem dLaw_law_1564 : decode cLaw_law 1564 = .ok (.iadd, 1) := zfLaw_law_1519.2.2.2.2.2.2.2.2.2.2.2.2.2.2.2.2.2.2.2.2.2.2.2.2.2.2.2.2.2.1
theorem dLaw_law_1565 : decode cLaw_law 1565 = .ok (.iaload, 1) := zfLaw_law_1519.2.2.2.2.2.2.2.2.2.2.2.2.2.2.2.2.2.2.2.2.2.2.2.2.2.2.2.2.2.2.1
theorem dLaw_law_1566 : decode cLaw_law 1566 = .ok (.aload_n 0, 1) := zfLaw_law_1519.2.2.2.2.2.2.2.2.2.2.2.2.2.2.2.2.2.2.2.2.2.2.2.2.2.2.2.2.2.2.2.1
theorem zfLaw_law_1567 : decode cLaw_law 1567 = .ok (.iload 4, 2) ∧ decode cLaw_law 1569 = .ok (.iconst 2, 1) ∧ decode cLaw_law 1570 = .ok (.iadd, 1) ∧ decode cLaw_law 1571 = .ok (.iaload, 1) ∧ decode cLaw_law 1572 = .ok (.invokevirtual 243, 3) ∧ decode cLaw_law 1575 = .ok (.istore 6, 2) ∧ decode cLaw_law 1577 = .ok (.aload_n 2, 1) ∧ decode cLaw_law 1578 = .ok (.invokevirtual 179, 3) ∧ decode cLaw_law 1581 = .ok (.iload 5, 2) ∧ decode cLaw_law 1583 = .ok (.if_icmp .eq 5, 3) ∧ decode cLaw_law 1586 = .ok (.iconst 0, 1) ∧ decode cLaw_law 1587 = .ok (.ireturn, 1) ∧ decode cLaw_law 1588 = .ok (.iload 5, 2) ∧ decode cLaw_law 1590 = .ok (.ifCond .ne 16, 3) ∧ decode cLaw_law 1593 = .ok (.aload_n 3, 1) ∧ decode cLaw_law 1594 = .ok (.getfield 13, 3) ∧ decode cLaw_law 1597 = .ok (.iload 6, 2) ∧ decode cLaw_law 1599 = .ok (.i2l, 1) ∧ decode cLaw_law 1600 = .ok (.lcmp, 1) ∧ decode cLaw_law 1601 = .ok (.ifCond .eq 5, 3) ∧ decode cLaw_law 1604 = .ok (.iconst 0, 1) ∧ decode cLaw_law 1605 = .ok (.ireturn, 1) ∧ decode cLaw_law 1606 = .ok (.goto 1848, 3) ∧ decode cLaw_law 1609 = .ok (.aload_n 1, 1) ∧ decode cLaw_law 1610 = .ok (.aload_n 0, 1) ∧ decode cLaw_law 1611 = .ok (.iload 4, 2) ∧ decode cLaw_law 1613 = .ok (.iconst 1, 1) ∧ decode cLaw_law 1614 = .ok (.iadd, 1) ∧ decode cLaw_law 1615 = .ok (.iaload, 1) ∧ decode cLaw_law 1616 = .ok (.aload_n 0, 1) ∧ decode cLaw_law 1617 = .ok (.iload 4, 2) ∧ decode cLaw_law 1619 = .ok (.iconst 2, 1) ∧ True := Jvm.Free.DS.facts (code := cLaw_law) 1567 [(.iload 4, 2), (.iconst 2, 1), (.iadd, 1), (.iaload, 1), (.invokevirtual 243, 3), (.istore 6, 2), (.aload_n 2, 1), (.invokevirtual 179, 3), (.iload 5, 2), (.if_icmp .eq 5, 3), (.iconst 0, 1), (.ireturn, 1), (.iload 5, 2), (.ifCond .ne 16, 3), (.aload_n 3, 1), (.getfield 13, 3), (.iload 6, 2), (.i2l, 1), (.lcmp, 1), (.ifCond .eq 5, 3), (.iconst 0, 1), (.ireturn, 1), (.goto 1848, 3), (.aload_n 1, 1), (.aload_n 0, 1), (.iload 4, 2), (.iconst 1, 1), (.iadd, 1), (.iaload, 1), (.aload_n 0, 1), (.iload 4, 2), (.iconst 2, 1)] (by decide +kernel) (by decide +kernel)
theorem dLaw_law_1567 : decode cLaw_law 1567 = .ok (.iload 4, 2) := zfLaw_law_1567.1
theorem dLaw_law_1569 : decode cLaw_law 1569 = .ok (.iconst 2, 1) := zfLaw_law_1567.2.1
theorem dLaw_law_1570 : decode cLaw_law 1570 = .ok (.iadd, 1) := zfLaw_law_1567.2.2.1
theorem dLaw_law_1571 : decode cLaw_law 1571 = .ok (.iaload, 1) := zfLaw_law_1567.2.2.2.1
theorem dLaw_law_1572 : decode cLaw_law 1572 = .ok (.invokevirtual 243, 3) := zfLaw_law_1567.2.2.2.2.1
theorem dLaw_law_1575 : decode cLaw_law 1575 = .ok (.istore 6, 2) := zfLaw_law_1567.2.2.2.2.2.1
theorem dLaw_law_1577 : decode cLaw_law 1577 = .ok (.aload_n 2, 1) := zfLaw_law_1567.2.2.2.2.2.2.1
theorem dLaw_law_1578 : decode cLaw_law 1578 = .ok (.invokevirtual 179, 3) := zfLaw_law_1567.2.2.2.2.2.2.2.1
theorem dLaw_law_1581 : decode cLaw_law 1581 = .ok (.iload 5, 2) := zfLaw_law_1567.2.2.2.2.2.2.2.2.1
theorem dLaw_law_1583 : decode cLaw_law 1583 = .ok (.if_icmp .eq 5, 3) := zfLaw_law_1567.2.2.2.2.2.2.2.2.2.1
theorem dLaw_law_1586 : decode cLaw_law 1586 = .ok (.iconst 0, 1) := zfLaw_law_1567.2.2.2.2.2.2.2.2.2.2.1
theorem dLaw_law_1587 : decode cLaw_law 1587 = .ok (.ireturn, 1) := zfLaw_law_1567.2.2.2.2.2.2.2.2.2.2.2.1
theorem dLaw_law_1588 : decode cLaw_law 1588 = .ok (.iload 5, 2) := zfLaw_law_1567.2.2.2.2.2.2.2.2.2.2.2.2.1
theorem dLaw_law_1590 : decode cLaw_law 1590 = .ok (.ifCond .ne 16, 3) := zfLaw_law_1567.2.2.2.2.2.2.2.2.2.2.2.2.2.1
theorem dLaw_law_1593 : decode cLaw_law 1593 = .ok (.aload_n 3, 1) := zfLaw_law_1567.2.2.2.2.2.2.2.2.2.2.2.2.2.2.1
theorem dLaw_law_1594 : decode cLaw_law 1594 = .ok (.getfield 13, 3) := zfLaw_law_1567.2.2.2.2.2.2.2.2.2.2.2.2.2.2.2.1
theorem dLaw_law_1597 : decode cLaw_law 1597 = .ok (.iload 6, 2) := zfLaw_law_1567.2.2.2.2.2.2.2.2.2.2.2.2.2.2.2.2.1
theorem dLaw_law_1599 : decode cLaw_law 1599 = .ok (.i2l, 1) := zfLaw_law_1567.2.2.2.2.2.2.2.2.2.2.2.2.2.2.2.2.2.1
theorem dLaw_law_1600 : decode cLaw_law 1600 = .ok (.lcmp, 1) := zfLaw_law_1567.2.2.2.2.2.2.2.2.2.2.2.2.2.2.2.2.2.2.1
theorem dLaw_law_1601 : decode cLaw_law 1601 = .ok (.ifCond .eq 5, 3) := zfLaw_law_1567.2.2.2.2.2.2.2.2.2.2.2.2.2.2.2.2.2.2.2.1
theorem dLaw_law_1604 : decode cLaw_law 1604 = .ok (.iconst 0, 1) := zfLaw_law_1567.2.2.2.2.2.2.2.2.2.2.2.2.2.2.2.2.2.2.2.2.1
theorem dLaw_law_1605 : decode cLaw_law 1605 = .ok (.ireturn, 1) := zfLaw_law_1567.2.2.2.2.2.2.2.2.2.2.2.2.2.2.2.2.2.2.2.2.2.1
theorem dLaw_law_1606 : decode cLaw_law 1606 = .ok (.goto 1848, 3) := zfLaw_law_1567.2.2.2.2.2.2.2.2.2.2.2.2.2.2.2.2.2.2.2.2.2.2.1
theorem dLaw_law_1609 : decode cLaw_law 1609 = .ok (.aload_n 1, 1) := zfLaw_law_1567.2.2.2.2.2.2.2.2.2.2.2.2.2.2.2.2.2.2.2.2.2.2.2.1
theorem dLaw_law_1610 : decode cLaw_law 1610 = .ok (.aload_n 0, 1) := zfLaw_law_1567.2.2.2.2.2.2.2.2.2.2.2.2.2.2.2.2.2.2.2.2.2.2.2.2.1
theorem dLaw_law_1611 : decode cLaw_law 1611 = .ok (.iload 4, 2) := zfLaw_law_1567.2.2.2.2.2.2.2.2.2.2.2.2.2.2.2.2.2.2.2.2.2.2.2.2.2.1
theorem dLaw_law_1613 : decode cLaw_law 1613 = .ok (.iconst 1, 1) := zfLaw_law_1567.2.2.2.2.2.2.2.2.2.2.2.2.2.2.2.2.2.2.2.2.2.2.2.2.2.2.1
theorem dLaw_law_1614 : decode cLaw_law 1614 = .ok (.iadd, 1) := zfLaw_law_1567.2.2.2.2.2.2.2.2.2.2.2.2.2.2.2.2.2.2.2.2.2.2.2.2.2.2.2.1
theorem dLaw_law_1615 : decode cLaw_law 1615 = .ok (.iaload, 1) := zfLaw_law_1567.2.2.2.2.2.2.2.2.2.2.2.2.2.2.2.2.2.2.2.2.2.2.2.2.2.2.2.2.1
theorem dLaw_law_1616 : decode cLaw_law 1616 = .ok (.aload_n 0, 1) := zfLaw_law_1567.2.2.2.2.2.2.2.2.2.2.2.2.2.2.2.2.2.2.2.2.2.2.2.2.2.2.2.2.2.1
theorem dLaw_law_1617 : decode cLaw_law 1617 = .ok (.iload 4, 2) := zfLaw_law_1567.2.2.2.2.2.2.2.2.2.2.2.2.2.2.2.2.2.2.2.2.2.2.2.2.2.2.2.2.2.2.1
theorem dLaw_law_1619 : decode cLaw_law 1619 = .ok (.iconst 2, 1) := zfLaw_law_1567.2.2.2.2.2.2.2.2.2.2.2.2.2.2.2.2.2.2.2.2.2.2.2.2.2.2.2.2.2.2.2.1
theorem zfLaw_law_1620 : decode cLaw_law 1620 = .ok (.iadd, 1) ∧ decode cLaw_law 1621 = .ok (.iaload, 1) ∧ decode cLaw_law 1622 = .ok (.aload_n 3, 1) ∧ decode cLaw_law 1623 = .ok (.invokestatic 244, 3) ∧ decode cLaw_law 1626 = .ok (.istore 5, 2) ∧ decode cLaw_law 1628 = .ok (.aload_n 2, 1) ∧ decode cLaw_law 1629 = .ok (.aload_n 0, 1) ∧ decode cLaw_law 1630 = .ok (.iload 4, 2) ∧ decode cLaw_law 1632 = .ok (.iconst 1, 1) ∧ decode cLaw_law 1633 = .ok (.iadd, 1) ∧ decode cLaw_law 1634 = .ok (.iaload, 1) ∧ decode cLaw_law 1635 = .ok (.aload_n 0, 1) ∧ decode cLaw_law 1636 = .ok (.iload 4, 2) ∧ decode cLaw_law 1638 = .ok (.iconst 2, 1) ∧ decode cLaw_law 1639 = .ok (.iadd, 1) ∧ decode cLaw_law 1640 = .ok (.iaload, 1) ∧ decode cLaw_law 1641 = .ok (.invokevirtual 246, 3) ∧ decode cLaw_law 1644 = .ok (.istore 6, 2) ∧ decode cLaw_law 1646 = .ok (.aload_n 2, 1) ∧ decode cLaw_law 1647 = .ok (.invokevirtual 179, 3) ∧ decode cLaw_law 1650 = .ok (.iload 5, 2) ∧ decode cLaw_law 1652 = .ok (.if_icmp .eq 5, 3) ∧ decode cLaw_law 1655 = .ok (.iconst 0, 1) ∧ decode cLaw_law 1656 = .ok (.ireturn, 1) ∧ decode cLaw_law 1657 = .ok (.iload 5, 2) ∧ decode cLaw_law 1659 = .ok (.ifCond .ne 16, 3) ∧ decode cLaw_law 1662 = .ok (.aload_n 3, 1) ∧ decode cLaw_law 1663 = .ok (.getfield 13, 3) ∧ decode cLaw_law 1666 = .ok (.iload 6, 2) ∧ decode cLaw_law 1668 = .ok (.i2l, 1) ∧ decode cLaw_law 1669 = .ok (.lcmp, 1) ∧ decode cLaw_law 1670 = .ok (.ifCond .eq 5, 3) ∧ True := Jvm.Free.DS.facts (code := cLaw_law) 1620 [(.iadd, 1), (.iaload, 1), (.aload_n 3, 1), (.invokestatic 244, 3), (.istore 5, 2), (.aload_n 2, 1), (.aload_n 0, 1), (.iload 4, 2), (.iconst 1, 1), (.iadd, 1), (.iaload, 1), (.aload_n 0, 1), (.iload 4, 2), (.iconst 2, 1), (.iadd, 1), (.iaload, 1), (.invokevirtual 246, 3), (.istore 6, 2), (.aload_n 2, 1), (.invokevirtual 179, 3), (.iload 5, 2), (.if_icmp .eq 5, 3), (.iconst 0, 1), (.ireturn, 1), (.iload 5, 2), (.ifCond .ne 16, 3), (.aload_n 3, 1), (.getfield 13, 3), (.iload 6, 2), (.i2l, 1), (.lcmp, 1), (.ifCond .eq 5, 3)] (by decide +kernel) (by decide +kernel)
theorem dLaw_law_1620 : decode cLaw_law 1620 = .ok (.iadd, 1) := zfLaw_law_1620.1
theorem dLaw_law_1621 : decode cLaw_law 1621 = .ok (.iaload, 1) := zfLaw_law_1620.2.1
theorem dLaw_law_1622 : decode cLaw_law 1622 = .ok (.aload_n 3, 1) := zfLaw_law_1620.2.2.1
theorem dLaw_law_1623 : decode cLaw_law 1623 = .ok (.invokestatic 244, 3) := zfLaw_law_1620.2.2.2.1
theorem dLaw_law_1626 : decode cLaw_law 1626 = .ok (.istore 5, 2) := zfLaw_law_1620.2.2.2.2.1
theorem dLaw_law_1628 : decode cLaw_law 1628 = .ok (.aload_n 2, 1) := zfLaw_law_1620.2.2.2.2.2.1
theorem dLaw_law_1629 : decode cLaw_law 1629 = .ok (.aload_n 0, 1) := zfLaw_law_1620.2.2.2.2.2.2.1
theorem dLaw_law_1630 : decode cLaw_law 1630 = .ok (.iload 4, 2) := zfLaw_law_1620.2.2.2.2.2.2.2.1
theorem dLaw_law_1632 : decode cLaw_law 1632 = .ok (.iconst 1, 1) := zfLaw_law_1620.2.2.2.2.2.2.2.2.1
theorem dLaw_law_1633 : decode cLaw_law 1633 = .ok (.iadd, 1) := zfLaw_law_1620.2.2.2.2.2.2.2.2.2.1
theorem dLaw_law_1634 : decode cLaw_law 1634 = .ok (.iaload, 1) := zfLaw_law_1620.2.2.2.2.2.2.2.2.2.2.1
theorem dLaw_law_1635 : decode cLaw_law 1635 = .ok (.aload_n 0, 1) := zfLaw_law_1620.2.2.2.2.2.2.2.2.2.2.2.1
theorem dLaw_law_1636 : decode cLaw_law 1636 = .ok (.iload 4, 2) := zfLaw_law_1620.2.2.2.2.2.2.2.2.2.2.2.2.1
theorem dLaw_law_1638 : decode cLaw_law 1638 = .ok (.iconst 2, 1) := zfLaw_law_1620.2.2.2.2.2.2.2.2.2.2.2.2.2.1
theorem dLaw_law_1639 : decode cLaw_law 1639 = .ok (.iadd, 1) := zfLaw_law_1620.2.2.2.2.2.2.2.2.2.2.2.2.2.2.1
theorem dLaw_law_1640 : decode cLaw_law 1640 = .ok (.iaload, 1) := zfLaw_law_1620.2.2.2.2.2.2.2.2.2.2.2.2.2.2.2.1
theorem dLaw_law_1641 : decode cLaw_law 1641 = .ok (.invokevirtual 246, 3) := zfLaw_law_1620.2.2.2.2.2.2.2.2.2.2.2.2.2.2.2.2.1
theorem dLaw_law_1644 : decode cLaw_law 1644 = .ok (.istore 6, 2) := zfLaw_law_1620.2.2.2.2.2.2.2.2.2.2.2.2.2.2.2.2.2.1
theorem dLaw_law_1646 : decode cLaw_law 1646 = .ok (.aload_n 2, 1) := zfLaw_law_1620.2.2.2.2.2.2.2.2.2.2.2.2.2.2.2.2.2.2.1
theorem dLaw_law_1647 : decode cLaw_law 1647 = .ok (.invokevirtual 179, 3) := zfLaw_law_1620.2.2.2.2.2.2.2.2.2.2.2.2.2.2.2.2.2.2.2.1
theorem dLaw_law_1650 : decode cLaw_law 1650 = .ok (.iload 5, 2) := zfLaw_law_1620.2.2.2.2.2.2.2.2.2.2.2.2.2.2.2.2.2.2.2.2.1
theorem dLaw_law_1652 : decode cLaw_law 1652 = .ok (.if_icmp .eq 5, 3) := zfLaw_law_1620.2.2.2.2.2.2.2.2.2.2.2.2.2.2.2.2.2.2.2.2.2.1
theorem dLaw_law_1655 : decode cLaw_law 1655 = .ok (.iconst 0, 1) := zfLaw_law_1620.2.2.2.2.2.2.2.2.2.2.2.2.2.2.2.2.2.2.2.2.2.2.1
theorem dLaw_law_1656 : decode cLaw_law 1656 = .ok (.ireturn, 1) := zfLaw_law_1620.2.2.2.2.2.2.2.2.2.2.2.2.2.2.2.2.2.2.2.2.2.2.2.1
theorem dLaw_law_1657 : decode cLaw_law 1657 = .ok (.iload 5, 2) := zfLaw_law_1620.2.2.2.2.2.2.2.2.2.2.2.2.2.2.2.2.2.2.2.2.2.2.2.2.1
theorem dLaw_law_1659 : decode cLaw_law 1659 = .ok (.ifCond .ne 16, 3) := zfLaw_law_1620.2.2.2.2.2.2.2.2.2.2.2.2.2.2.2.2.2.2.2.2.2.2.2.2.2.1
theorem dLaw_law_1662 : decode cLaw_law 1662 = .ok (.aload_n 3, 1) := zfLaw_law_1620.2.2.2.2.2.2.2.2.2.2.2.2.2.2.2.2.2.2.2.2.2.2.2.2.2.2.1
theorem dLaw_law_1663 : decode cLaw_law 1663 = .ok (.getfield 13, 3) := zfLaw_law_1620.2.2.2.2.2.2.2.2.2.2.2.2.2.2.2.2.2.2.2.2.2.2.2.2.2.2.2.1
theorem dLaw_law_1666 : decode cLaw_law 1666 = .ok (.iload 6, 2) := zfLaw_law_1620.2.2.2.2.2.2.2.2.2.2.2.2.2.2.2.2.2.2.2.2.2.2.2.2.2.2.2.2.1
theorem dLaw_law_1668 : decode cLaw_law 1668 = .ok (.i2l, 1) := zfLaw_law_1620.2.2.2.2.2.2.2.2.2.2.2.2.2.2.2.2.2.2.2.2.2.2.2.2.2.2.2.2.2.1
theorem dLaw_law_1669 : decode cLaw_law 1669 = .ok (.lcmp, 1) := zfLaw_law_1620.2.2.2.2.2.2.2.2.2.2.2.2.2.2.2.2.2.2.2.2.2.2.2.2.2.2.2.2.2.2.1
theorem dLaw_law_1670 : decode cLaw_law 1670 = .ok (.ifCond .eq 5, 3) := zfLaw_law_1620.2.2.2.2.2.2.2.2.2.2.2.2.2.2.2.2.2.2.2.2.2.2.2.2.2.2.2.2.2.2.2.1
theorem zfLaw_law_1673 : decode cLaw_law 1673 = .ok (.iconst 0, 1) ∧ decode cLaw_law 1674 = .ok (.ireturn, 1) ∧ decode cLaw_law 1675 = .ok (.goto 1779, 3) ∧ decode cLaw_law 1678 = .ok (.aload_n 1, 1) ∧ decode cLaw_law 1679 = .ok (.aload_n 0, 1) ∧ decode cLaw_law 1680 = .ok (.iload 4, 2) ∧ decode cLaw_law 1682 = .ok (.iconst 1, 1) ∧ decode cLaw_law 1683 = .ok (.iadd, 1) ∧ decode cLaw_law 1684 = .ok (.iaload, 1) ∧ decode cLaw_law 1685 = .ok (.aload_n 0, 1) ∧ decode cLaw_law 1686 = .ok (.iload 4, 2) ∧ decode cLaw_law 1688 = .ok (.iconst 2, 1) ∧ decode cLaw_law 1689 = .ok (.iadd, 1) ∧ decode cLaw_law 1690 = .ok (.iaload, 1) ∧ decode cLaw_law 1691 = .ok (.aload_n 0, 1) ∧ decode cLaw_law 1692 = .ok (.iload 4, 2) ∧ decode cLaw_law 1694 = .ok (.iconst 3, 1) ∧ decode cLaw_law 1695 = .ok (.iadd, 1) ∧ decode cLaw_law 1696 = .ok (.iaload, 1) ∧ decode cLaw_law 1697 = .ok (.aload_n 3, 1) ∧ decode cLaw_law 1698 = .ok (.invokestatic 247, 3) ∧ decode cLaw_law 1701 = .ok (.istore 5, 2) ∧ decode cLaw_law 1703 = .ok (.aload_n 2, 1) ∧ decode cLaw_law 1704 = .ok (.aload_n 0, 1) ∧ decode cLaw_law 1705 = .ok (.iload 4, 2) ∧ decode cLaw_law 1707 = .ok (.iconst 1, 1) ∧ decode cLaw_law 1708 = .ok (.iadd, 1) ∧ decode cLaw_law 1709 = .ok (.iaload, 1) ∧ decode cLaw_law 1710 = .ok (.aload_n 0, 1) ∧ decode cLaw_law 1711 = .ok (.iload 4, 2) ∧ decode cLaw_law 1713 = .ok (.iconst 2, 1) ∧ decode cLaw_law 1714 = .ok (.iadd, 1) ∧ True := Jvm.Free.DS.facts (code := cLaw_law) 1673 [(.iconst 0, 1), (.ireturn, 1), (.goto 1779, 3), (.aload_n 1, 1), (.aload_n 0, 1), (.iload 4, 2), (.iconst 1, 1), (.iadd, 1), (.iaload, 1), (.aload_n 0, 1), (.iload 4, 2), (.iconst 2, 1), (.iadd, 1), (.iaload, 1), (.aload_n 0, 1), (.iload 4, 2), (.iconst 3, 1), (.iadd, 1), (.iaload, 1), (.aload_n 3, 1), (.invokestatic 247, 3), (.istore 5, 2), (.aload_n 2, 1), (.aload_n 0, 1), (.iload 4, 2), (.iconst 1, 1), (.iadd, 1), (.iaload, 1), (.aload_n 0, 1), (.iload 4, 2), (.iconst 2, 1), (.iadd, 1)] (by decide +kernel) (by decide +kernel)
theorem dLaw_law_1673 : decode cLaw_law 1673 = .ok (.iconst 0, 1) := zfLaw_law_1673.1
theorem dLaw_law_1674 : decode cLaw_law 1674 = .ok (.ireturn, 1) := zfLaw_law_1673.2.1
theorem dLaw_law_1675 : decode cLaw_law 1675 = .ok (.goto 1779, 3) := zfLaw_law_1673.2.2.1
theorem dLaw_law_1678 : decode cLaw_law 1678 = .ok (.aload_n 1, 1) := zfLaw_law_1673.2.2.2.1
theorem dLaw_law_1679 : decode cLaw_law 1679 = .ok (.aload_n 0, 1) := zfLaw_law_1673.2.2.2.2.1
theorem dLaw_law_1680 : decode cLaw_law 1680 = .ok (.iload 4, 2) := zfLaw_law_1673.2.2.2.2.2.1
theorem dLaw_law_1682 : decode cLaw_law 1682 = .ok (.iconst 1, 1) := zfLaw_law_1673.2.2.2.2.2.2.1
theorem dLaw_law_1683 : decode cLaw_law 1683 = .ok (.iadd, 1) := zfLaw_law_1673.2.2.2.2.2.2.2.1
theorem dLaw_law_1684 : decode cLaw_law 1684 = .ok (.iaload, 1) := zfLaw_law_1673.2.2.2.2.2.2.2.2.1
theorem dLaw_law_1685 : decode cLaw_law 1685 = .ok (.aload_n 0, 1) := zfLaw_law_1673.2.2.2.2.2.2.2.2.2.1
theorem dLaw_law_1686 : decode cLaw_law 1686 = .ok (.iload 4, 2) := zfLaw_law_1673.2.2.2.2.2.2.2.2.2.2.1
theorem dLaw_law_1688 : decode cLaw_law 1688 = .ok (.iconst 2, 1) := zfLaw_law_1673.2.2.2.2.2.2.2.2.2.2.2.1
theorem dLaw_law_1689 : decode cLaw_law 1689 = .ok (.iadd, 1) := zfLaw_law_1673.2.2.2.2.2.2.2.2.2.2.2.2.1
theorem dLaw_law_1690 : decode cLaw_law 1690 = .ok (.iaload, 1) := zfLaw_law_1673.2.2.2.2.2.2.2.2.2.2.2.2.2.1
theorem dLaw_law_1691 : decode cLaw_law 1691 = .ok (.aload_n 0, 1) := zfLaw_law_1673.2.2.2.2.2.2.2.2.2.2.2.2.2.2.1
theorem dLaw_law_1692 : decode cLaw_law 1692 = .ok (.iload 4, 2) := zfLaw_law_1673.2.2.2.2.2.2.2.2.2.2.2.2.2.2.2.1
theorem dLaw_law_1694 : decode cLaw_law 1694 = .ok (.iconst 3, 1) := zfLaw_law_1673.2.2.2.2.2.2.2.2.2.2.2.2.2.2.2.2.1
theorem dLaw_law_1695 : decode cLaw_law 1695 = .ok (.iadd, 1) := zfLaw_law_1673.2.2.2.2.2.2.2.2.2.2.2.2.2.2.2.2.2.1
theorem dLaw_law_1696 : decode cLaw_law 1696 = .ok (.iaload, 1) := zfLaw_law_1673.2.2.2.2.2.2.2.2.2.2.2.2.2.2.2.2.2.2.1
theorem dLaw_law_1697 : decode cLaw_law 1697 = .ok (.aload_n 3, 1) := zfLaw_law_1673.2.2.2.2.2.2.2.2.2.2.2.2.2.2.2.2.2.2.2.1
theorem dLaw_law_1698 : decode cLaw_law 1698 = .ok (.invokestatic 247, 3) := zfLaw_law_1673.2.2.2.2.2.2.2.2.2.2.2.2.2.2.2.2.2.2.2.2.1
theorem dLaw_law_1701 : decode cLaw_law 1701 = .ok (.istore 5, 2) := zfLaw_law_1673.2.2.2.2.2.2.2.2.2.2.2.2.2.2.2.2.2.2.2.2.2.1
theorem dLaw_law_1703 : decode cLaw_law 1703 = .ok (.aload_n 2, 1) := zfLaw_law_1673.2.2.2.2.2.2.2.2.2.2.2.2.2.2.2.2.2.2.2.2.2.2.1
theorem dLaw_law_1704 : decode cLaw_law 1704 = .ok (.aload_n 0, 1) := zfLaw_law_1673.2.2.2.2.2.2.2.2.2.2.2.2.2.2.2.2.2.2.2.2.2.2.2.1
theorem dLaw_law_1705 : decode cLaw_law 1705 = .ok (.iload 4, 2) := zfLaw_law_1673.2.2.2.2.2.2.2.2.2.2.2.2.2.2.2.2.2.2.2.2.2.2.2.2.1
theorem dLaw_law_1707 : decode cLaw_law 1707 = .ok (.iconst 1, 1) := zfLaw_law_1673.2.2.2.2.2.2.2.2.2.2.2.2.2.2.2.2.2.2.2.2.2.2.2.2.2.1
theorem dLaw_law_1708 : decode cLaw_law 1708 = .ok (.iadd, 1) := zfLaw_law_1673.2.2.2.2.2.2.2.2.2.2.2.2.2.2.2.2.2.2.2.2.2.2.2.2.2.2.1
theorem dLaw_law_1709 : decode cLaw_law 1709 = .ok (.iaload, 1) := zfLaw_law_1673.2.2.2.2.2.2.2.2.2.2.2.2.2.2.2.2.2.2.2.2.2.2.2.2.2.2.2.1
theorem dLaw_law_1710 : decode cLaw_law 1710 = .ok (.aload_n 0, 1) := zfLaw_law_1673.2.2.2.2.2.2.2.2.2.2.2.2.2.2.2.2.2.2.2.2.2.2.2.2.2.2.2.2.1
theorem dLaw_law_1711 : decode cLaw_law 1711 = .ok (.iload 4, 2) := zfLaw_law_1673.2.2.2.2.2.2.2.2.2.2.2.2.2.2.2.2.2.2.2.2.2.2.2.2.2.2.2.2.2.1
theorem dLaw_law_1713 : decode cLaw_law 1713 = .ok (.iconst 2, 1) := zfLaw_law_1673.2.2.2.2.2.2.2.2.2.2.2.2.2.2.2.2.2.2.2.2.2.2.2.2.2.2.2.2.2.2.1
theorem dLaw_law_1714 : decode cLaw_law 1714 = .ok (.iadd, 1) := zfLaw_law_1673.2.2.2.2.2.2.2.2.2.2.2.2.2.2.2.2.2.2.2.2.2.2.2.2.2.2.2.2.2.2.2.1
theorem zfLaw_law_1715 : decode cLaw_law 1715 = .ok (.iaload, 1) ∧ decode cLaw_law 1716 = .ok (.aload_n 0, 1) ∧ decode cLaw_law 1717 = .ok (.iload 4, 2) ∧ decode cLaw_law 1719 = .ok (.iconst 3, 1) ∧ decode cLaw_law 1720 = .ok (.iadd, 1) ∧ decode cLaw_law 1721 = .ok (.iaload, 1) ∧ decode cLaw_law 1722 = .ok (.invokevirtual 249, 3) ∧ decode cLaw_law 1725 = .ok (.istore 6, 2) ∧ decode cLaw_law 1727 = .ok (.aload_n 2, 1) ∧ decode cLaw_law 1728 = .ok (.invokevirtual 179, 3) ∧ decode cLaw_law 1731 = .ok (.iload 5, 2) ∧ decode cLaw_law 1733 = .ok (.if_icmp .eq 5, 3) ∧ decode cLaw_law 1736 = .ok (.iconst 0, 1) ∧ decode cLaw_law 1737 = .ok (.ireturn, 1) ∧ decode cLaw_law 1738 = .ok (.iload 5, 2) ∧ decode cLaw_law 1740 = .ok (.ifCond .ne 16, 3) ∧ decode cLaw_law 1743 = .ok (.aload_n 3, 1) ∧ decode cLaw_law 1744 = .ok (.getfield 13, 3) ∧ decode cLaw_law 1747 = .ok (.iload 6, 2) ∧ decode cLaw_law 1749 = .ok (.i2l, 1) ∧ decode cLaw_law 1750 = .ok (.lcmp, 1) ∧ decode cLaw_law 1751 = .ok (.ifCond .eq 5, 3) ∧ decode cLaw_law 1754 = .ok (.iconst 0, 1) ∧ decode cLaw_law 1755 = .ok (.ireturn, 1) ∧ decode cLaw_law 1756 = .ok (.goto 1698, 3) ∧ decode cLaw_law 1759 = .ok (.aload_n 1, 1) ∧ decode cLaw_law 1760 = .ok (.aload_n 0, 1) ∧ decode cLaw_law 1761 = .ok (.iload 4, 2) ∧ decode cLaw_law 1763 = .ok (.iconst 1, 1) ∧ decode cLaw_law 1764 = .ok (.iadd, 1) ∧ decode cLaw_law 1765 = .ok (.iaload, 1) ∧ decode cLaw_law 1766 = .ok (.aload_n 0, 1) ∧ True := Jvm.Free.DS.facts (code := cLaw_law) 1715 [(.iaload, 1), (.aload_n 0, 1), (.iload 4, 2), (.iconst 3, 1), (.iadd, 1), (.iaload, 1), (.invokevirtual 249, 3), (.istore 6, 2), (.aload_n 2, 1), (.invokevirtual 179, 3), (.iload 5, 2), (.if_icmp .eq 5, 3), (.iconst 0, 1), (.ireturn, 1), (.iload 5, 2), (.ifCond .ne 16, 3), (.aload_n 3, 1), (.getfield 13, 3), (.iload 6, 2), (.i2l, 1), (.lcmp, 1), (.ifCond .eq 5, 3), (.iconst 0, 1), (.ireturn, 1), (.goto 1698, 3), (.aload_n 1, 1), (.aload_n 0, 1), (.iload 4, 2), (.iconst 1, 1), (.iadd, 1), (.iaload, 1), (.aload_n 0, 1)] (by decide +kernel) (by decide +kernel)
theorem dLaw_law_1715 : decode cLaw_law 1715 = .ok (.iaload, 1) := zfLaw_law_1715.1
theorem dLaw_law_1716 : decode cLaw_law 1716 = .ok (.aload_n 0, 1) := zfLaw_law_1715.2.1
theorem dLaw_law_1717 : decode cLaw_law 1717 = .ok (.iload 4, 2) := zfLaw_law_1715.2.2.1
theorem dLaw_law_1719 : decode cLaw_law 1719 = .ok (.iconst 3, 1) := zfLaw_law_1715.2.2.2.1
theorem dLaw_law_1720 : decode cLaw_law 1720 = .ok (.iadd, 1) := zfLaw_law_1715.2.2.2.2.1
theorem dLaw_law_1721 : decode cLaw_law 1721 = .ok (.iaload, 1) := zfLaw_law_1715.2.2.2.2.2.1
theorem dLaw_law_1722 : decode cLaw_law 1722 = .ok (.invokevirtual 249, 3) := zfLaw_law_1715.2.2.2.2.2.2.1
theorem dLaw_law_1725 : decode cLaw_law 1725 = .ok (.istore 6, 2) := zfLaw_law_1715.2.2.2.2.2.2.2.1
theorem dLaw_law_1727 : decode cLaw_law 1727 = .ok (.aload_n 2, 1) := zfLaw_law_1715.2.2.2.2.2.2.2.2.1
theorem dLaw_law_1728 : decode cLaw_law 1728 = .ok (.invokevirtual 179, 3) := zfLaw_law_1715.2.2.2.2.2.2.2.2.2.1
theorem dLaw_law_1731 : decode cLaw_law 1731 = .ok (.iload 5, 2) := zfLaw_law_1715.2.2.2.2.2.2.2.2.2.2.1
theorem dLaw_law_1733 : decode cLaw_law 1733 = .ok (.if_icmp .eq 5, 3) := zfLaw_law_1715.2.2.2.2.2.2.2.2.2.2.2.1
theorem dLaw_law_1736 : decode cLaw_law 1736 = .ok (.iconst 0, 1) := zfLaw_law_1715.2.2.2.2.2.2.2.2.2.2.2.2.1
theorem dLaw_law_1737 : decode cLaw_law 1737 = .ok (.ireturn, 1) := zfLaw_law_1715.2.2.2.2.2.2.2.2.2.2.2.2.2.1
theorem dLaw_law_1738 : decode cLaw_law 1738 = .ok (.iload 5, 2) := zfLaw_law_1715.2.2.2.2.2.2.2.2.2.2.2.2.2.2.1
theorem dLaw_law_1740 : decode cLaw_law 1740 = .ok (.ifCond .ne 16, 3) := zfLaw_law_1715.2.2.2.2.2.2.2.2.2.2.2.2.2.2.2.1
theorem dLaw_law_1743 : decode cLaw_law 1743 = .ok (.aload_n 3, 1) := zfLaw_law_1715.2.2.2.2.2.2.2.2.2.2.2.2.2.2.2.2.1
theorem dLaw_law_1744 : decode cLaw_law 1744 = .ok (.getfield 13, 3) := zfLaw_law_1715.2.2.2.2.2.2.2.2.2.2.2.2.2.2.2.2.2.1
theorem dLaw_law_1747 : decode cLaw_law 1747 = .ok (.iload 6, 2) := zfLaw_law_1715.2.2.2.2.2.2.2.2.2.2.2.2.2.2.2.2.2.2.1
theorem dLaw_law_1749 : decode cLaw_law 1749 = .ok (.i2l, 1) := zfLaw_law_1715.2.2.2.2.2.2.2.2.2.2.2.2.2.2.2.2.2.2.2.1
theorem dLaw_law_1750 : decode cLaw_law 1750 = .ok (.lcmp, 1) := zfLaw_law_1715.2.2.2.2.2.2.2.2.2.2.2.2.2.2.2.2.2.2.2.2.1
theorem dLaw_law_1751 : decode cLaw_law 1751 = .ok (.ifCond .eq 5, 3) := zfLaw_law_1715.2.2.2.2.2.2.2.2.2.2.2.2.2.2.2.2.2.2.2.2.2.1
theorem dLaw_law_1754 : decode cLaw_law 1754 = .ok (.iconst 0, 1) := zfLaw_law_1715.2.2.2.2.2.2.2.2.2.2.2.2.2.2.2.2.2.2.2.2.2.2.1
theorem dLaw_law_1755 : decode cLaw_law 1755 = .ok (.ireturn, 1) := zfLaw_law_1715.2.2.2.2.2.2.2.2.2.2.2.2.2.2.2.2.2.2.2.2.2.2.2.1
theorem dLaw_law_1756 : decode cLaw_law 1756 = .ok (.goto 1698, 3) := zfLaw_law_1715.2.2.2.2.2.2.2.2.2.2.2.2.2.2.2.2.2.2.2.2.2.2.2.2.1
theorem dLaw_law_1759 : decode cLaw_law 1759 = .ok (.aload_n 1, 1) := zfLaw_law_1715.2.2.2.2.2.2.2.2.2.2.2.2.2.2.2.2.2.2.2.2.2.2.2.2.2.1
theorem dLaw_law_1760 : decode cLaw_law 1760 = .ok (.aload_n 0, 1) := zfLaw_law_1715.2.2.2.2.2.2.2.2.2.2.2.2.2.2.2.2.2.2.2.2.2.2.2.2.2.2.1
theorem dLaw_law_1761 : decode cLaw_law 1761 = .ok (.iload 4, 2) := zfLaw_law_1715.2.2.2.2.2.2.2.2.2.2.2.2.2.2.2.2.2.2.2.2.2.2.2.2.2.2.2.1
theorem dLaw_law_1763 : decode cLaw_law 1763 = .ok (.iconst 1, 1) := zfLaw_law_1715.2.2.2.2.2.2.2.2.2.2.2.2.2.2.2.2.2.2.2.2.2.2.2.2.2.2.2.2.1
theorem dLaw_law_1764 : decode cLaw_law 1764 = .ok (.iadd, 1) := zfLaw_law_1715.2.2.2.2.2.2.2.2.2.2.2.2.2.2.2.2.2.2.2.2.2.2.2.2.2.2.2.2.2.1
theorem dLaw_law_1765 : decode cLaw_law 1765 = .ok (.iaload, 1) := zfLaw_law_1715.2.2.2.2.2.2.2.2.2.2.2.2.2.2.2.2.2.2.2.2.2.2.2.2.2.2.2.2.2.2.1
theorem dLaw_law_1766 : decode cLaw_law 1766 = .ok (.aload_n 0, 1) := zfLaw_law_1715.2.2.2.2.2.2.2.2.2.2.2.2.2.2.2.2.2.2.2.2.2.2.2.2.2.2.2.2.2.2.2.1
theorem zfLaw_law_1767 : decode cLaw_law 1767 = .ok (.iload 4, 2) ∧ decode cLaw_law 1769 = .ok (.iconst 2, 1) ∧ decode cLaw_law 1770 = .ok (.iadd, 1) ∧ decode cLaw_law 1771 = .ok (.iaload, 1) ∧ decode cLaw_law 1772 = .ok (.aload_n 0, 1) ∧ decode cLaw_law 1773 = .ok (.iload 4, 2) ∧ decode cLaw_law 1775 = .ok (.iconst 3, 1) ∧ decode cLaw_law 1776 = .ok (.iadd, 1) ∧ decode cLaw_law 1777 = .ok (.iaload, 1) ∧ decode cLaw_law 1778 = .ok (.aload_n 3, 1) ∧ decode cLaw_law 1779 = .ok (.invokestatic 250, 3) ∧ decode cLaw_law 1782 = .ok (.istore 5, 2) ∧ decode cLaw_law 1784 = .ok (.aload_n 2, 1) ∧ decode cLaw_law 1785 = .ok (.aload_n 0, 1) ∧ decode cLaw_law 1786 = .ok (.iload 4, 2) ∧ decode cLaw_law 1788 = .ok (.iconst 1, 1) ∧ decode cLaw_law 1789 = .ok (.iadd, 1) ∧ decode cLaw_law 1790 = .ok (.iaload, 1) ∧ decode cLaw_law 1791 = .ok (.aload_n 0, 1) ∧ decode cLaw_law 1792 = .ok (.iload 4, 2) ∧ decode cLaw_law 1794 = .ok (.iconst 2, 1) ∧ decode cLaw_law 1795 = .ok (.iadd, 1) ∧ decode cLaw_law 1796 = .ok (.iaload, 1) ∧ decode cLaw_law 1797 = .ok (.aload_n 0, 1) ∧ decode cLaw_law 1798 = .ok (.iload 4, 2) ∧ decode cLaw_law 1800 = .ok (.iconst 3, 1) ∧ decode cLaw_law 1801 = .ok (.iadd, 1) ∧ decode cLaw_law 1802 = .ok (.iaload, 1) ∧ decode cLaw_law 1803 = .ok (.invokevirtual 252, 3) ∧ decode cLaw_law 1806 = .ok (.istore 6, 2) ∧ decode cLaw_law 1808 = .ok (.aload_n 2, 1) ∧ decode cLaw_law 1809 = .ok (.invokevirtual 179, 3) ∧ True := Jvm.Free.DS.facts (code := cLaw_law) 1767 [(.iload 4, 2), (.iconst 2, 1), (.iadd, 1), (.iaload, 1), (.aload_n 0, 1), (.iload 4, 2), (.iconst 3, 1), (.iadd, 1), (.iaload, 1), (.aload_n 3, 1), (.invokestatic 250, 3), (.istore 5, 2), (.aload_n 2, 1), (.aload_n 0, 1), (.iload 4, 2), (.iconst 1, 1), (.iadd, 1), (.iaload, 1), (.aload_n 0, 1), (.iload 4, 2), (.iconst 2, 1), (.iadd, 1), (.iaload, 1), (.aload_n 0, 1), (.iload 4, 2), (.iconst 3, 1), (.iadd, 1), (.iaload, 1), (.invokevirtual 252, 3), (.istore 6, 2), (.aload_n 2, 1), (.invokevirtual 179, 3)] (by decide +kernel) (by decide +kernel)
theorem dLaw_law_1767 : decode cLaw_law 1767 = .ok (.iload 4, 2) := zfLaw_law_1767.1
theorem dLaw_law_1769 : decode cLaw_law 1769 = .ok (.iconst 2, 1) := zfLaw_law_1767.2.1
theorem dLaw_law_1770 : decode cLaw_law 1770 = .ok (.iadd, 1) := zfLaw_law_1767.2.2.1
theorem dLaw_law_1771 : decode cLaw_law 1771 = .ok (.iaload, 1) := zfLaw_law_1767.2.2.2.1
theorem dLaw_law_1772 : decode cLaw_law 1772 = .ok (.aload_n 0, 1) := zfLaw_law_1767.2.2.2.2.1
theorem dLaw_law_1773 : decode cLaw_law 1773 = .ok (.iload 4, 2) := zfLaw_law_1767.2.2.2.2.2.1
theorem dLaw_law_1775 : decode cLaw_law 1775 = .ok (.iconst 3, 1) := zfLaw_law_1767.2.2.2.2.2.2.1
theorem dLaw_law_1776 : decode cLaw_law 1776 = .ok (.iadd, 1) := zfLaw_law_1767.2.2.2.2.2.2.2.1
theorem dLaw_law_1777 : decode cLaw_law 1777 = .ok (.iaload, 1) := zfLaw_law_1767.2.2.2.2.2.2.2.2.1
theorem dLaw_law_1778 : decode cLaw_law 1778 = .ok (.aload_n 3, 1) := zfLaw_law_1767.2.2.2.2.2.2.2.2.2.1
theorem dLaw_law_1779 : decode cLaw_law 1779 = .ok (.invokestatic 250, 3) := zfLaw_law_1767.2.2.2.2.2.2.2.2.2.2.1
theorem dLaw_law_1782 : decode cLaw_law 1782 = .ok (.istore 5, 2) := zfLaw_law_1767.2.2.2.2.2.2.2.2.2.2.2.1
theorem dLaw_law_1784 : decode cLaw_law 1784 = .ok (.aload_n 2, 1) := zfLaw_law_1767.2.2.2.2.2.2.2.2.2.2.2.2.1
theorem dLaw_law_1785 : decode cLaw_law 1785 = .ok (.aload_n 0, 1) := zfLaw_law_1767.2.2.2.2.2.2.2.2.2.2.2.2.2.1
theorem dLaw_law_1786 : decode cLaw_law 1786 = .ok (.iload 4, 2) := zfLaw_law_1767.2.2.2.2.2.2.2.2.2.2.2.2.2.2.1
theorem dLaw_law_1788 : decode cLaw_law 1788 = .ok (.iconst 1, 1) := zfLaw_law_1767.2.2.2.2.2.2.2.2.2.2.2.2.2.2.2.1
theorem dLaw_law_1789 : decode cLaw_law 1789 = .ok (.iadd, 1) := zfLaw_law_1767.2.2.2.2.2.2.2.2.2.2.2.2.2.2.2.2.1
theorem dLaw_law_1790 : decode cLaw_law 1790 = .ok (.iaload, 1) := zfLaw_law_1767.2.2.2.2.2.2.2.2.2.2.2.2.2.2.2.2.2.1
theorem dLaw_law_1791 : decode cLaw_law 1791 = .ok (.aload_n 0, 1) := zfLaw_law_1767.2.2.2.2.2.2.2.2.2.2.2.2.2.2.2.2.2.2.1
theorem dLaw_law_1792 : decode cLaw_law 1792 = .ok (.iload 4, 2) := zfLaw_law_1767.2.2.2.2.2.2.2.2.2.2.2.2.2.2.2.2.2.2.2.1
theorem dLaw_law_1794 : decode cLaw_law 1794 = .ok (.iconst 2, 1) := zfLaw_law_1767.2.2.2.2.2.2.2.2.2.2.2.2.2.2.2.2.2.2.2.2.1
theorem dLaw_law_1795 : decode cLaw_law 1795 = .ok (.iadd, 1) := zfLaw_law_1767.2.2.2.2.2.2.2.2.2.2.2.2.2.2.2.2.2.2.2.2.2.1
theorem dLaw_law_1796 : decode cLaw_law 1796 = .ok (.iaload, 1) := zfLaw_law_1767.2.2.2.2.2.2.2.2.2.2.2.2.2.2.2.2.2.2.2.2.2.2.1
theorem dLaw_law_1797 : decode cLaw_law 1797 = .ok (.aload_n 0, 1) := zfLaw_law_1767.2.2.2.2.2.2.2.2.2.2.2.2.2.2.2.2.2.2.2.2.2.2.2.1
theorem dLaw_law_1798 : decode cLaw_law 1798 = .ok (.iload 4, 2) := zfLaw_law_1767.2.2.2.2.2.2.2.2.2.2.2.2.2.2.2.2.2.2.2.2.2.2.2.2.1
theorem dLaw_law_1800 : decode cLaw_law 1800 = .ok (.iconst 3, 1) := zfLaw_law_1767.2.2.2.2.2.2.2.2.2.2.2.2.2.2.2.2.2.2.2.2.2.2.2.2.2.1
theorem dLaw_law_1801 : decode cLaw_law 1801 = .ok (.iadd, 1) := zfLaw_law_1767.2.2.2.2.2.2.2.2.2.2.2.2.2.2.2.2.2.2.2.2.2.2.2.2.2.2.1
theorem dLaw_law_1802 : decode cLaw_law 1802 = .ok (.iaload, 1) := zfLaw_law_1767.2.2.2.2.2.2.2.2.2.2.2.2.2.2.2.2.2.2.2.2.2.2.2.2.2.2.2.1
theorem dLaw_law_1803 : decode cLaw_law 1803 = .ok (.invokevirtual 252, 3) := zfLaw_law_1767.2.2.2.2.2.2.2.2.2.2.2.2.2.2.2.2.2.2.2.2.2.2.2.2.2.2.2.2.1
theorem dLaw_law_1806 : decode cLaw_law 1806 = .ok (.istore 6, 2) := zfLaw_law_1767.2.2.2.2.2.2.2.2.2.2.2.2.2.2.2.2.2.2.2.2.2.2.2.2.2.2.2.2.2.1
theorem dLaw_law_1808 : decode cLaw_law 1808 = .ok (.aload_n 2, 1) := zfLaw_law_1767.2.2.2.2.2.2.2.2.2.2.2.2.2.2.2.2.2.2.2.2.2.2.2.2.2.2.2.2.2.2.1
theorem dLaw_law_1809 : decode cLaw_law 1809 = .ok (.invokevirtual 179, 3) := zfLaw_law_1767.2.2.2.2.2.2.2.2.2.2.2.2.2.2.2.2.2.2.2.2.2.2.2.2.2.2.2.2.2.2.2.1
theorem zfLaw_law_1812 : decode cLaw_law 1812 = .ok (.iload 5, 2) ∧ decode cLaw_law 1814 = .ok (.if_icmp .eq 5, 3) ∧ decode cLaw_law 1817 = .ok (.iconst 0, 1) ∧ decode cLaw_law 1818 = .ok (.ireturn, 1) ∧ decode cLaw_law 1819 = .ok (.iload 5, 2) ∧ decode cLaw_law 1821 = .ok (.ifCond .ne 16, 3) ∧ decode cLaw_law 1824 = .ok (.aload_n 3, 1) ∧ decode cLaw_law 1825 = .ok (.getfield 13, 3) ∧ decode cLaw_law 1828 = .ok (.iload 6, 2) ∧ decode cLaw_law 1830 = .ok (.i2l, 1) ∧ decode cLaw_law 1831 = .ok (.lcmp, 1) ∧ decode cLaw_law 1832 = .ok (.ifCond .eq 5, 3) ∧ decode cLaw_law 1835 = .ok (.iconst 0, 1) ∧ decode cLaw_law 1836 = .ok (.ireturn, 1) ∧ decode cLaw_law 1837 = .ok (.goto 1617, 3) ∧ decode cLaw_law 1840 = .ok (.aload_n 1, 1) ∧ decode cLaw_law 1841 = .ok (.aload_n 0, 1) ∧ decode cLaw_law 1842 = .ok (.iload 4, 2) ∧ decode cLaw_law 1844 = .ok (.iconst 1, 1) ∧ decode cLaw_law 1845 = .ok (.iadd, 1) ∧ decode cLaw_law 1846 = .ok (.iaload, 1) ∧ decode cLaw_law 1847 = .ok (.aload_n 3, 1) ∧ decode cLaw_law 1848 = .ok (.invokestatic 253, 3) ∧ decode cLaw_law 1851 = .ok (.istore 5, 2) ∧ decode cLaw_law 1853 = .ok (.aload_n 2, 1) ∧ decode cLaw_law 1854 = .ok (.aload_n 0, 1) ∧ decode cLaw_law 1855 = .ok (.iload 4, 2) ∧ decode cLaw_law 1857 = .ok (.iconst 1, 1) ∧ decode cLaw_law 1858 = .ok (.iadd, 1) ∧ decode cLaw_law 1859 = .ok (.iaload, 1) ∧ decode cLaw_law 1860 = .ok (.invokevirtual 255, 3) ∧ decode cLaw_law 1863 = .ok (.istore 6, 2) ∧ True := Jvm.Free.DS.facts (code := cLaw_law) 1812 [(.iload 5, 2), (.if_icmp .eq 5, 3), (.iconst 0, 1), (.ireturn, 1), (.iload 5, 2), (.ifCond .ne 16, 3), (.aload_n 3, 1), (.getfield 13, 3), (.iload 6, 2), (.i2l, 1), (.lcmp, 1), (.ifCond .eq 5, 3), (.iconst 0, 1), (.ireturn, 1), (.goto 1617, 3), (.aload_n 1, 1), (.aload_n 0, 1), (.iload 4, 2), (.iconst 1, 1), (.iadd, 1), (.iaload, 1), (.aload_n 3, 1), (.invokestatic 253, 3), (.istore 5, 2), (.aload_n 2, 1), (.aload_n 0, 1), (.iload 4, 2), (.iconst 1, 1), (.iadd, 1), (.iaload, 1), (.invokevirtual 255, 3), (.istore 6, 2)] (by decide +kernel) (by decide +kernel)
theorem dLaw_law_1812 : decode cLaw_law 1812 = .ok (.iload 5, 2) := zfLaw_law_1812.1
theorem dLaw_law_1814 : decode cLaw_law 1814 = .ok (.if_icmp .eq 5, 3) := zfLaw_law_1812.2.1
theorem dLaw_law_1817 : decode cLaw_law 1817 = .ok (.iconst 0, 1) := zfLaw_law_1812.2.2.1
theorem dLaw_law_1818 : decode cLaw_law 1818 = .ok (.ireturn, 1) := zfLaw_law_1812.2.2.2.1
theorem dLaw_law_1819 : decode cLaw_law 1819 = .ok (.iload 5, 2) := zfLaw_law_1812.2.2.2.2.1
theorem dLaw_law_1821 : decode cLaw_law 1821 = .ok (.ifCond .ne 16, 3) := zfLaw_law_1812.2.2.2.2.2.1
theorem dLaw_law_1824 : decode cLaw_law 1824 = .ok (.aload_n 3, 1) := zfLaw_law_1812.2.2.2.2.2.2.1
theorem dLaw_law_1825 : decode cLaw_law 1825 = .ok (.getfield 13, 3) := zfLaw_law_1812.2.2.2.2.2.2.2.1
theorem dLaw_law_1828 : decode cLaw_law 1828 = .ok (.iload 6, 2) := zfLaw_law_1812.2.2.2.2.2.2.2.2.1
theorem dLaw_law_1830 : decode cLaw_law 1830 = .ok (.i2l, 1) := zfLaw_law_1812.2.2.2.2.2.2.2.2.2.1
theorem dLaw_law_1831 : decode cLaw_law 1831 = .ok (.lcmp, 1) := zfLaw_law_1812.2.2.2.2.2.2.2.2.2.2.1
theorem dLaw_law_1832 : decode cLaw_law 1832 = .ok (.ifCond .eq 5, 3) := zfLaw_law_1812.2.2.2.2.2.2.2.2.2.2.2.1
theorem dLaw_law_1835 : decode cLaw_law 1835 = .ok (.iconst 0, 1) := zfLaw_law_1812.2.2.2.2.2.2.2.2.2.2.2.2.1
theorem dLaw_law_1836 : decode cLaw_law 1836 = .ok (.ireturn, 1) := zfLaw_law_1812.2.2.2.2.2.2.2.2.2.2.2.2.2.1
theorem dLaw_law_1837 : decode cLaw_law 1837 = .ok (.goto 1617, 3) := zfLaw_law_1812.2.2.2.2.2.2.2.2.2.2.2.2.2.2.1
theorem dLaw_law_1840 : decode cLaw_law 1840 = .ok (.aload_n 1, 1) := zfLaw_law_1812.2.2.2.2.2.2.2.2.2.2.2.2.2.2.2.1
theorem dLaw_law_1841 : decode cLaw_law 1841 = .ok (.aload_n 0, 1) := zfLaw_law_1812.2.2.2.2.2.2.2.2.2.2.2.2.2.2.2.2.1
theorem dLaw_law_1842 : decode cLaw_law 1842 = .ok (.iload 4, 2) := zfLaw_law_1812.2.2.2.2.2.2.2.2.2.2.2.2.2.2.2.2.2.1
theorem dLaw_law_1844 : decode cLaw_law 1844 = .ok (.iconst 1, 1) := zfLaw_law_1812.2.2.2.2.2.2.2.2.2.2.2.2.2.2.2.2.2.2.1
theorem dLaw_law_1845 : decode cLaw_law 1845 = .ok (.iadd, 1) := zfLaw_law_1812.2.2.2.2.2.2.2.2.2.2.2.2.2.2.2.2.2.2.2.1
theorem dLaw_law_1846 : decode cLaw_law 1846 = .ok (.iaload, 1) := zfLaw_law_1812.2.2.2.2.2.2.2.2.2.2.2.2.2.2.2.2.2.2.2.2.1
theorem dLaw_law_1847 : decode cLaw_law 1847 = .ok (.aload_n 3, 1) := zfLaw_law_1812.2.2.2.2.2.2.2.2.2.2.2.2.2.2.2.2.2.2.2.2.2.1
theorem dLaw_law_1848 : decode cLaw_law 1848 = .ok (.invokestatic 253, 3) := zfLaw_law_1812.2.2.2.2.2.2.2.2.2.2.2.2.2.2.2.2.2.2.2.2.2.2.1
theorem dLaw_law_1851 : decode cLaw_law 1851 = .ok (.istore 5, 2) := zfLaw_law_1812.2.2.2.2.2.2.2.2.2.2.2.2.2.2.2.2.2.2.2.2.2.2.2.1
theorem dLaw_law_1853 : decode cLaw_law 1853 = .ok (.aload_n 2, 1) := zfLaw_law_1812.2.2.2.2.2.2.2.2.2.2.2.2.2.2.2.2.2.2.2.2.2.2.2.2.1
theorem dLaw_law_1854 : decode cLaw_law 1854 = .ok (.aload_n 0, 1) := zfLaw_law_1812.2.2.2.2.2.2.2.2.2.2.2.2.2.2.2.2.2.2.2.2.2.2.2.2.2.1
theorem dLaw_law_1855 : decode cLaw_law 1855 = .ok (.iload 4, 2) := zfLaw_law_1812.2.2.2.2.2.2.2.2.2.2.2.2.2.2.2.2.2.2.2.2.2.2.2.2.2.2.1
theorem dLaw_law_1857 : decode cLaw_law 1857 = .ok (.iconst 1, 1) := zfLaw_law_1812.2.2.2.2.2.2.2.2.2.2.2.2.2.2.2.2.2.2.2.2.2.2.2.2.2.2.2.1
theorem dLaw_law_1858 : decode cLaw_law 1858 = .ok (.iadd, 1) := zfLaw_law_1812.2.2.2.2.2.2.2.2.2.2.2.2.2.2.2.2.2.2.2.2.2.2.2.2.2.2.2.2.1
theorem dLaw_law_1859 : decode cLaw_law 1859 = .ok (.iaload, 1) := zfLaw_law_1812.2.2.2.2.2.2.2.2.2.2.2.2.2.2.2.2.2.2.2.2.2.2.2.2.2.2.2.2.2.1
theorem dLaw_law_1860 : decode cLaw_law 1860 = .ok (.invokevirtual 255, 3) := zfLaw_law_1812.2.2.2.2.2.2.2.2.2.2.2.2.2.2.2.2.2.2.2.2.2.2.2.2.2.2.2.2.2.2.1
theorem dLaw_law_1863 : decode cLaw_law 1863 = .ok (.istore 6, 2) := zfLaw_law_1812.2.2.2.2.2.2.2.2.2.2.2.2.2.2.2.2.2.2.2.2.2.2.2.2.2.2.2.2.2.2.2.1
theorem zfLaw_law_1865 : decode cLaw_law 1865 = .ok (.aload_n 2, 1) ∧ decode cLaw_law 1866 = .ok (.invokevirtual 179, 3) ∧ decode cLaw_law 1869 = .ok (.iload 5, 2) ∧ decode cLaw_law 1871 = .ok (.if_icmp .eq 5, 3) ∧ decode cLaw_law 1874 = .ok (.iconst 0, 1) ∧ decode cLaw_law 1875 = .ok (.ireturn, 1) ∧ decode cLaw_law 1876 = .ok (.iload 5, 2) ∧ decode cLaw_law 1878 = .ok (.ifCond .ne 16, 3) ∧ decode cLaw_law 1881 = .ok (.aload_n 3, 1) ∧ decode cLaw_law 1882 = .ok (.getfield 13, 3) ∧ decode cLaw_law 1885 = .ok (.iload 6, 2) ∧ decode cLaw_law 1887 = .ok (.i2l, 1) ∧ decode cLaw_law 1888 = .ok (.lcmp, 1) ∧ decode cLaw_law 1889 = .ok (.ifCond .eq 5, 3) ∧ decode cLaw_law 1892 = .ok (.iconst 0, 1) ∧ decode cLaw_law 1893 = .ok (.ireturn, 1) ∧ decode cLaw_law 1894 = .ok (.goto 1560, 3) ∧ decode cLaw_law 1897 = .ok (.aload_n 1, 1) ∧ decode cLaw_law 1898 = .ok (.aload_n 0, 1) ∧ decode cLaw_law 1899 = .ok (.iload 4, 2) ∧ decode cLaw_law 1901 = .ok (.iconst 1, 1) ∧ decode cLaw_law 1902 = .ok (.iadd, 1) ∧ decode cLaw_law 1903 = .ok (.iaload, 1) ∧ decode cLaw_law 1904 = .ok (.aload_n 0, 1) ∧ decode cLaw_law 1905 = .ok (.iload 4, 2) ∧ decode cLaw_law 1907 = .ok (.iconst 2, 1) ∧ decode cLaw_law 1908 = .ok (.iadd, 1) ∧ decode cLaw_law 1909 = .ok (.iaload, 1) ∧ decode cLaw_law 1910 = .ok (.aload_n 0, 1) ∧ decode cLaw_law 1911 = .ok (.iload 4, 2) ∧ decode cLaw_law 1913 = .ok (.iconst 3, 1) ∧ decode cLaw_law 1914 = .ok (.iadd, 1) ∧ True := Jvm.Free.DS.facts (code := cLaw_law) 1865 [(.aload_n 2, 1), (.invokevirtual 179, 3), (.iload 5, 2), (.if_icmp .eq 5, 3), (.iconst 0, 1), (.ireturn, 1), (.iload 5, 2), (.ifCond .ne 16, 3), (.aload_n 3, 1), (.getfield 13, 3), (.iload 6, 2), (.i2l, 1), (.lcmp, 1), (.ifCond .eq 5, 3), (.iconst 0, 1), (.ireturn, 1), (.goto 1560, 3), (.aload_n 1, 1), (.aload_n 0, 1), (.iload 4, 2), (.iconst 1, 1), (.iadd, 1), (.iaload, 1), (.aload_n 0, 1), (.iload 4, 2), (.iconst 2, 1), (.iadd, 1), (.iaload, 1), (.aload_n 0, 1), (.iload 4, 2), (.iconst 3, 1), (.iadd, 1)] (by decide +kernel) (by decide +kernel)
theorem dLaw_law_1865 : decode cLaw_law 1865 = .ok (.aload_n 2, 1) := zfLaw_law_1865.1
theorem dLaw_law_1866 : decode cLaw_law 1866 = .ok (.invokevirtual 179, 3) := zfLaw_law_1865.2.1
theorem dLaw_law_1869 : decode cLaw_law 1869 = .ok (.iload 5, 2) := zfLaw_law_1865.2.2.1
theorem dLaw_law_1871 : decode cLaw_law 1871 = .ok (.if_icmp .eq 5, 3) := zfLaw_law_1865.2.2.2.1
theorem dLaw_law_1874 : decode cLaw_law 1874 = .ok (.iconst 0, 1) := zfLaw_law_1865.2.2.2.2.1
theorem dLaw_law_1875 : decode cLaw_law 1875 = .ok (.ireturn, 1) := zfLaw_law_1865.2.2.2.2.2.1
theorem dLaw_law_1876 : decode cLaw_law 1876 = .ok (.iload 5, 2) := zfLaw_law_1865.2.2.2.2.2.2.1
theorem dLaw_law_1878 : decode cLaw_law 1878 = .ok (.ifCond .ne 16, 3) := zfLaw_law_1865.2.2.2.2.2.2.2.1
theorem dLaw_law_1881 : decode cLaw_law 1881 = .ok (.aload_n 3, 1) := zfLaw_law_1865.2.2.2.2.2.2.2.2.1
theorem dLaw_law_1882 : decode cLaw_law 1882 = .ok (.getfield 13, 3) := zfLaw_law_1865.2.2.2.2.2.2.2.2.2.1
theorem dLaw_law_1885 : decode cLaw_law 1885 = .ok (.iload 6, 2) := zfLaw_law_1865.2.2.2.2.2.2.2.2.2.2.1
theorem dLaw_law_1887 : decode cLaw_law 1887 = .ok (.i2l, 1) := zfLaw_law_1865.2.2.2.2.2.2.2.2.2.2.2.1
theorem dLaw_law_1888 : decode cLaw_law 1888 = .ok (.lcmp, 1) := zfLaw_law_1865.2.2.2.2.2.2.2.2.2.2.2.2.1
theorem dLaw_law_1889 : decode cLaw_law 1889 = .ok (.ifCond .eq 5, 3) := zfLaw_law_1865.2.2.2.2.2.2.2.2.2.2.2.2.2.1
theorem dLaw_law_1892 : decode cLaw_law 1892 = .ok (.iconst 0, 1) := zfLaw_law_1865.2.2.2.2.2.2.2.2.2.2.2.2.2.2.1
theorem dLaw_law_1893 : decode cLaw_law 1893 = .ok (.ireturn, 1) := zfLaw_law_1865.2.2.2.2.2.2.2.2.2.2.2.2.2.2.2.1
theorem dLaw_law_1894 : decode cLaw_law 1894 = .ok (.goto 1560, 3) := zfLaw_law_1865.2.2.2.2.2.2.2.2.2.2.2.2.2.2.2.2.1
theorem dLaw_law_1897 : decode cLaw_law 1897 = .ok (.aload_n 1, 1) := zfLaw_law_1865.2.2.2.2.2.2.2.2.2.2.2.2.2.2.2.2.2.1
theorem dLaw_law_1898 : decode cLaw_law 1898 = .ok (.aload_n 0, 1) := zfLaw_law_1865.2.2.2.2.2.2.2.2.2.2.2.2.2.2.2.2.2.2.1
theorem dLaw_law_1899 : decode cLaw_law 1899 = .ok (.iload 4, 2) := zfLaw_law_1865.2.2.2.2.2.2.2.2.2.2.2.2.2.2.2.2.2.2.2.1
theorem dLaw_law_1901 : decode cLaw_law 1901 = .ok (.iconst 1, 1) := zfLaw_law_1865.2.2.2.2.2.2.2.2.2.2.2.2.2.2.2.2.2.2.2.2.1
theorem dLaw_law_1902 : decode cLaw_law 1902 = .ok (.iadd, 1) := zfLaw_law_1865.2.2.2.2.2.2.2.2.2.2.2.2.2.2.2.2.2.2.2.2.2.1
theorem dLaw_law_1903 : decode cLaw_law 1903 = .ok (.iaload, 1) := zfLaw_law_1865.2.2.2.2.2.2.2.2.2.2.2.2.2.2.2.2.2.2.2.2.2.2.1
theorem dLaw_law_1904 : decode cLaw_law 1904 = .ok (.aload_n 0, 1) := zfLaw_law_1865.2.2.2.2.2.2.2.2.2.2.2.2.2.2.2.2.2.2.2.2.2.2.2.1
theorem dLaw_law_1905 : decode cLaw_law 1905 = .ok (.iload 4, 2) := zfLaw_law_1865.2.2.2.2.2.2.2.2.2.2.2.2.2.2.2.2.2.2.2.2.2.2.2.2.1
theorem dLaw_law_1907 : decode cLaw_law 1907 = .ok (.iconst 2, 1) := zfLaw_law_1865.2.2.2.2.2.2.2.2.2.2.2.2.2.2.2.2.2.2.2.2.2.2.2.2.2.1
theorem dLaw_law_1908 : decode cLaw_law 1908 = .ok (.iadd, 1) := zfLaw_law_1865.2.2.2.2.2.2.2.2.2.2.2.2.2.2.2.2.2.2.2.2.2.2.2.2.2.2.1
theorem dLaw_law_1909 : decode cLaw_law 1909 = .ok (.iaload, 1) := zfLaw_law_1865.2.2.2.2.2.2.2.2.2.2.2.2.2.2.2.2.2.2.2.2.2.2.2.2.2.2.2.1
theorem dLaw_law_1910 : decode cLaw_law 1910 = .ok (.aload_n 0, 1) := zfLaw_law_1865.2.2.2.2.2.2.2.2.2.2.2.2.2.2.2.2.2.2.2.2.2.2.2.2.2.2.2.2.1
theorem dLaw_law_1911 : decode cLaw_law 1911 = .ok (.iload 4, 2) := zfLaw_law_1865.2.2.2.2.2.2.2.2.2.2.2.2.2.2.2.2.2.2.2.2.2.2.2.2.2.2.2.2.2.1
theorem dLaw_law_1913 : decode cLaw_law 1913 = .ok (.iconst 3, 1) := zfLaw_law_1865.2.2.2.2.2.2.2.2.2.2.2.2.2.2.2.2.2.2.2.2.2.2.2.2.2.2.2.2.2.2.1
theorem dLaw_law_1914 : decode cLaw_law 1914 = .ok (.iadd, 1) := zfLaw_law_1865.2.2.2.2.2.2.2.2.2.2.2.2.2.2.2.2.2.2.2.2.2.2.2.2.2.2.2.2.2.2.2.1
theorem zfLaw_law_1915 : decode cLaw_law 1915 = .ok (.iaload, 1) ∧ decode cLaw_law 1916 = .ok (.aload_n 3, 1) ∧ decode cLaw_law 1917 = .ok (.invokestatic 256, 3) ∧ decode cLaw_law 1920 = .ok (.istore 5, 2) ∧ decode cLaw_law 1922 = .ok (.aload_n 2, 1) ∧ decode cLaw_law 1923 = .ok (.aload_n 0, 1) ∧ decode cLaw_law 1924 = .ok (.iload 4, 2) ∧ decode cLaw_law 1926 = .ok (.iconst 1, 1) ∧ decode cLaw_law 1927 = .ok (.iadd, 1) ∧ decode cLaw_law 1928 = .ok (.iaload, 1) ∧ decode cLaw_law 1929 = .ok (.aload_n 0, 1) ∧ decode cLaw_law 1930 = .ok (.iload 4, 2) ∧ decode cLaw_law 1932 = .ok (.iconst 2, 1) ∧ decode cLaw_law 1933 = .ok (.iadd, 1) ∧ decode cLaw_law 1934 = .ok (.iaload, 1) ∧ decode cLaw_law 1935 = .ok (.aload_n 0, 1) ∧ decode cLaw_law 1936 = .ok (.iload 4, 2) ∧ decode cLaw_law 1938 = .ok (.iconst 3, 1) ∧ decode cLaw_law 1939 = .ok (.iadd, 1) ∧ decode cLaw_law 1940 = .ok (.iaload, 1) ∧ decode cLaw_law 1941 = .ok (.invokevirtual 258, 3) ∧ decode cLaw_law 1944 = .ok (.istore 6, 2) ∧ decode cLaw_law 1946 = .ok (.aload_n 2, 1) ∧ decode cLaw_law 1947 = .ok (.invokevirtual 179, 3) ∧ decode cLaw_law 1950 = .ok (.iload 5, 2) ∧ decode cLaw_law 1952 = .ok (.if_icmp .eq 5, 3) ∧ decode cLaw_law 1955 = .ok (.iconst 0, 1) ∧ decode cLaw_law 1956 = .ok (.ireturn, 1) ∧ decode cLaw_law 1957 = .ok (.iload 5, 2) ∧ decode cLaw_law 1959 = .ok (.ifCond .ne 16, 3) ∧ decode cLaw_law 1962 = .ok (.aload_n 3, 1) ∧ decode cLaw_law 1963 = .ok (.getfield 13, 3) ∧ True := Jvm.Free.DS.facts (code := cLaw_law) 1915 [(.iaload, 1), (.aload_n 3, 1), (.invokestatic 256, 3), (.istore 5, 2), (.aload_n 2, 1), (.aload_n 0, 1), (.iload 4, 2), (.iconst 1, 1), (.iadd, 1), (.iaload, 1), (.aload_n 0, 1), (.iload 4, 2), (.iconst 2, 1), (.iadd, 1), (.iaload, 1), (.aload_n 0, 1), (.iload 4, 2), (.iconst 3, 1), (.iadd, 1), (.iaload, 1), (.invokevirtual 258, 3), (.istore 6, 2), (.aload_n 2, 1), (.invokevirtual 179, 3), (.iload 5, 2), (.if_icmp .eq 5, 3), (.iconst 0, 1), (.ireturn, 1), (.iload 5, 2), (.ifCond .ne 16, 3), (.aload_n 3, 1), (.getfield 13, 3)] (by decide +kernel) (by decide +kernel)
theorem dLaw_law_1915 : decode cLaw_law 1915 = .ok (.iaload, 1) := zfLaw_law_1915.1
theorem dLaw_law_1916 : decode cLaw_law 1916 = .ok (.aload_n 3, 1) := zfLaw_law_1915.2.1
theorem dLaw_law_1917 : decode cLaw_law 1917 = .ok (.invokestatic 256, 3) := zfLaw_law_1915.2.2.1
theorem dLaw_law_1920 : decode cLaw_law 1920 = .ok (.istore 5, 2) := zfLaw_law_1915.2.2.2.1
theorem dLaw_law_1922 : decode cLaw_law 1922 = .ok (.aload_n 2, 1) := zfLaw_law_1915.2.2.2.2.1
theorem dLaw_law_1923 : decode cLaw_law 1923 = .ok (.aload_n 0, 1) := zfLaw_law_1915.2.2.2.2.2.1
theorem dLaw_law_1924 : decode cLaw_law 1924 = .ok (.iload 4, 2) := zfLaw_law_1915.2.2.2.2.2.2.1
theorem dLaw_law_1926 : decode cLaw_law 1926 = .ok (.iconst 1, 1) := zfLaw_law_1915.2.2.2.2.2.2.2.1
theorem dLaw_law_1927 : decode cLaw_law 1927 = .ok (.iadd, 1) := zfLaw_law_1915.2.2.2.2.2.2.2.2.1
theorem dLaw_law_1928 : decode cLaw_law 1928 = .ok (.iaload, 1) := zfLaw_law_1915.2.2.2.2.2.2.2.2.2.1
theorem dLaw_law_1929 : decode cLaw_law 1929 = .ok (.aload_n 0, 1) := zfLaw_law_1915.2.2.2.2.2.2.2.2.2.2.1
theorem dLaw_law_1930 : decode cLaw_law 1930 = .ok (.iload 4, 2) := zfLaw_law_1915.2.2.2.2.2.2.2.2.2.2.2.1
theorem dLaw_law_1932 : decode cLaw_law 1932 = .ok (.iconst 2, 1) := zfLaw_law_1915.2.2.2.2.2.2.2.2.2.2.2.2.1
theorem dLaw_law_1933 : decode cLaw_law 1933 = .ok (.iadd, 1) := zfLaw_law_1915.2.2.2.2.2.2.2.2.2.2.2.2.2.1
theorem dLaw_law_1934 : decode cLaw_law 1934 = .ok (.iaload, 1) := zfLaw_law_1915.2.2.2.2.2.2.2.2.2.2.2.2.2.2.1
theorem dLaw_law_1935 : decode cLaw_law 1935 = .ok (.aload_n 0, 1) := zfLaw_law_1915.2.2.2.2.2.2.2.2.2.2.2.2.2.2.2.1
theorem dLaw_law_1936 : decode cLaw_law 1936 = .ok (.iload 4, 2) := zfLaw_law_1915.2.2.2.2.2.2.2.2.2.2.2.2.2.2.2.2.1
theorem dLaw_law_1938 : decode cLaw_law 1938 = .ok (.iconst 3, 1) := zfLaw_law_1915.2.2.2.2.2.2.2.2.2.2.2.2.2.2.2.2.2.1
theorem dLaw_law_1939 : decode cLaw_law 1939 = .ok (.iadd, 1) := zfLaw_law_1915.2.2.2.2.2.2.2.2.2.2.2.2.2.2.2.2.2.2.1
theorem dLaw_law_1940 : decode cLaw_law 1940 = .ok (.iaload, 1) := zfLaw_law_1915.2.2.2.2.2.2.2.2.2.2.2.2.2.2.2.2.2.2.2.1
theorem dLaw_law_1941 : decode cLaw_law 1941 = .ok (.invokevirtual 258, 3) := zfLaw_law_1915.2.2.2.2.2.2.2.2.2.2.2.2.2.2.2.2.2.2.2.2.1
theorem dLaw_law_1944 : decode cLaw_law 1944 = .ok (.istore 6, 2) := zfLaw_law_1915.2.2.2.2.2.2.2.2.2.2.2.2.2.2.2.2.2.2.2.2.2.1
theorem dLaw_law_1946 : decode cLaw_law 1946 = .ok (.aload_n 2, 1) := zfLaw_law_1915.2.2.2.2.2.2.2.2.2.2.2.2.2.2.2.2.2.2.2.2.2.2.1
theorem dLaw_law_1947 : decode cLaw_law 1947 = .ok (.invokevirtual 179, 3) := zfLaw_law_1915.2.2.2.2.2.2.2.2.2.2.2.2.2.2.2.2.2.2.2.2.2.2.2.1
theorem dLaw_law_1950 : decode cLaw_law 1950 = .ok (.iload 5, 2) := zfLaw_law_1915.2.2.2.2.2.2.2.2.2.2.2.2.2.2.2.2.2.2.2.2.2.2.2.2.1
theorem dLaw_law_1952 : decode cLaw_law 1952 = .ok (.if_icmp .eq 5, 3) := zfLaw_law_1915.2.2.2.2.2.2.2.2.2.2.2.2.2.2.2.2.2.2.2.2.2.2.2.2.2.1
theorem dLaw_law_1955 : decode cLaw_law 1955 = .ok (.iconst 0, 1) := zfLaw_law_1915.2.2.2.2.2.2.2.2.2.2.2.2.2.2.2.2.2.2.2.2.2.2.2.2.2.2.1
theorem dLaw_law_1956 : decode cLaw_law 1956 = .ok (.ireturn, 1) := zfLaw_law_1915.2.2.2.2.2.2.2.2.2.2.2.2.2.2.2.2.2.2.2.2.2.2.2.2.2.2.2.1
theorem dLaw_law_1957 : decode cLaw_law 1957 = .ok (.iload 5, 2) := zfLaw_law_1915.2.2.2.2.2.2.2.2.2.2.2.2.2.2.2.2.2.2.2.2.2.2.2.2.2.2.2.2.1
theorem dLaw_law_1959 : decode cLaw_law 1959 = .ok (.ifCond .ne 16, 3) := zfLaw_law_1915.2.2.2.2.2.2.2.2.2.2.2.2.2.2.2.2.2.2.2.2.2.2.2.2.2.2.2.2.2.1
theorem dLaw_law_1962 : decode cLaw_law 1962 = .ok (.aload_n 3, 1) := zfLaw_law_1915.2.2.2.2.2.2.2.2.2.2.2.2.2.2.2.2.2.2.2.2.2.2.2.2.2.2.2.2.2.2.1
theorem dLaw_law_1963 : decode cLaw_law 1963 = .ok (.getfield 13, 3) := zfLaw_law_1915.2.2.2.2.2.2.2.2.2.2.2.2.2.2.2.2.2.2.2.2.2.2.2.2.2.2.2.2.2.2.2.1
theorem zfLaw_law_1966 : decode cLaw_law 1966 = .ok (.iload 6, 2) ∧ decode cLaw_law 1968 = .ok (.i2l, 1) ∧ decode cLaw_law 1969 = .ok (.lcmp, 1) ∧ decode cLaw_law 1970 = .ok (.ifCond .eq 5, 3) ∧ decode cLaw_law 1973 = .ok (.iconst 0, 1) ∧ decode cLaw_law 1974 = .ok (.ireturn, 1) ∧ decode cLaw_law 1975 = .ok (.goto 1479, 3) ∧ decode cLaw_law 1978 = .ok (.aload_n 1, 1) ∧ decode cLaw_law 1979 = .ok (.aload_n 0, 1) ∧ decode cLaw_law 1980 = .ok (.iload 4, 2) ∧ decode cLaw_law 1982 = .ok (.iconst 1, 1) ∧ decode cLaw_law 1983 = .ok (.iadd, 1) ∧ decode cLaw_law 1984 = .ok (.iaload, 1) ∧ decode cLaw_law 1985 = .ok (.aload_n 0, 1) ∧ decode cLaw_law 1986 = .ok (.iload 4, 2) ∧ decode cLaw_law 1988 = .ok (.iconst 2, 1) ∧ decode cLaw_law 1989 = .ok (.iadd, 1) ∧ decode cLaw_law 1990 = .ok (.iaload, 1) ∧ decode cLaw_law 1991 = .ok (.aload_n 3, 1) ∧ decode cLaw_law 1992 = .ok (.invokestatic 259, 3) ∧ decode cLaw_law 1995 = .ok (.istore 5, 2) ∧ decode cLaw_law 1997 = .ok (.aload_n 2, 1) ∧ decode cLaw_law 1998 = .ok (.aload_n 0, 1) ∧ decode cLaw_law 1999 = .ok (.iload 4, 2) ∧ decode cLaw_law 2001 = .ok (.iconst 1, 1) ∧ decode cLaw_law 2002 = .ok (.iadd, 1) ∧ decode cLaw_law 2003 = .ok (.iaload, 1) ∧ decode cLaw_law 2004 = .ok (.aload_n 0, 1) ∧ decode cLaw_law 2005 = .ok (.iload 4, 2) ∧ decode cLaw_law 2007 = .ok (.iconst 2, 1) ∧ decode cLaw_law 2008 = .ok (.iadd, 1) ∧ decode cLaw_law 2009 = .ok (.iaload, 1) ∧ True := Jvm.Free.DS.facts (code := cLaw_law) 1966 [(.iload 6, 2), (.i2l, 1), (.lcmp, 1), (.ifCond .eq 5, 3), (.iconst 0, 1), (.ireturn, 1), (.goto 1479, 3), (.aload_n 1, 1), (.aload_n 0, 1), (.iload 4, 2), (.iconst 1, 1), (.iadd, 1), (.iaload, 1), (.aload_n 0, 1), (.iload 4, 2), (.iconst 2, 1), (.iadd, 1), (.iaload, 1), (.aload_n 3, 1), (.invokestatic 259, 3), (.istore 5, 2), (.aload_n 2, 1), (.aload_n 0, 1), (.iload 4, 2), (.iconst 1, 1), (.iadd, 1), (.iaload, 1), (.aload_n 0, 1), (.iload 4, 2), (.iconst 2, 1), (.iadd, 1), (.iaload, 1)] (by decide +kernel) (by decide +kernel)
theorem dLaw_law_1966 : decode cLaw_law 1966 = .ok (.iload 6, 2) := zfLaw_law_1966.1
theorem dLaw_law_1968 : decode cLaw_law 1968 = .ok (.i2l, 1) := zfLaw_law_1966.2.1
theorem dLaw_law_1969 : decode cLaw_law 1969 = .ok (.lcmp, 1) := zfLaw_law_1966.2.2.1
theorem dLaw_law_1970 : decode cLaw_law 1970 = .ok (.ifCond .eq 5, 3) := zfLaw_law_1966.2.2.2.1
theorem dLaw_law_1973 : decode cLaw_law 1973 = .ok (.iconst 0, 1) := zfLaw_law_1966.2.2.2.2.1
theorem dLaw_law_1974 : decode cLaw_law 1974 = .ok (.ireturn, 1) := zfLaw_law_1966.2.2.2.2.2.1
theorem dLaw_law_1975 : decode cLaw_law 1975 = .ok (.goto 1479, 3) := zfLaw_law_1966.2.2.2.2.2.2.1
theorem dLaw_law_1978 : decode cLaw_law 1978 = .ok (.aload_n 1, 1) := zfLaw_law_1966.2.2.2.2.2.2.2.1
theorem dLaw_law_1979 : decode cLaw_law 1979 = .ok (.aload_n 0, 1) := zfLaw_law_1966.2.2.2.2.2.2.2.2.1
theorem dLaw_law_1980 : decode cLaw_law 1980 = .ok (.iload 4, 2) := zfLaw_law_1966.2.2.2.2.2.2.2.2.2.1
theorem dLaw_law_1982 : decode cLaw_law 1982 = .ok (.iconst 1, 1) := zfLaw_law_1966.2.2.2.2.2.2.2.2.2.2.1
theorem dLaw_law_1983 : decode cLaw_law 1983 = .ok (.iadd, 1) := zfLaw_law_1966.2.2.2.2.2.2.2.2.2.2.2.1
theorem dLaw_law_1984 : decode cLaw_law 1984 = .ok (.iaload, 1) := zfLaw_law_1966.2.2.2.2.2.2.2.2.2.2.2.2.1
theorem dLaw_law_1985 : decode cLaw_law 1985 = .ok (.aload_n 0, 1) := zfLaw_law_1966.2.2.2.2.2.2.2.2.2.2.2.2.2.1
theorem dLaw_law_1986 : decode cLaw_law 1986 = .ok (.iload 4, 2) := zfLaw_law_1966.2.2.2.2.2.2.2.2.2.2.2.2.2.2.1
theorem dLaw_law_1988 : decode cLaw_law 1988 = .ok (.iconst 2, 1) := zfLaw_law_1966.2.2.2.2.2.2.2.2.2.2.2.2.2.2.2.1
theorem dLaw_law_1989 : decode cLaw_law 1989 = .ok (.iadd, 1) := zfLaw_law_1966.2.2.2.2.2.2.2.2.2.2.2.2.2.2.2.2.1
theorem dLaw_law_1990 : decode cLaw_law 1990 = .ok (.iaload, 1) := zfLaw_law_1966.2.2.2.2.2.2.2.2.2.2.2.2.2.2.2.2.2.1
theorem dLaw_law_1991 : decode cLaw_law 1991 = .ok (.aload_n 3, 1) := zfLaw_law_1966.2.2.2.2.2.2.2.2.2.2.2.2.2.2.2.2.2.2.1
theorem dLaw_law_1992 : decode cLaw_law 1992 = .ok (.invokestatic 259, 3) := zfLaw_law_1966.2.2.2.2.2.2.2.2.2.2.2.2.2.2.2.2.2.2.2.1
theorem dLaw_law_1995 : decode cLaw_law 1995 = .ok (.istore 5, 2) := zfLaw_law_1966.2.2.2.2.2.2.2.2.2.2.2.2.2.2.2.2.2.2.2.2.1
theorem dLaw_law_1997 : decode cLaw_law 1997 = .ok (.aload_n 2, 1) := zfLaw_law_1966.2.2.2.2.2.2.2.2.2.2.2.2.2.2.2.2.2.2.2.2.2.1
theorem dLaw_law_1998 : decode cLaw_law 1998 = .ok (.aload_n 0, 1) := zfLaw_law_1966.2.2.2.2.2.2.2.2.2.2.2.2.2.2.2.2.2.2.2.2.2.2.1
theorem dLaw_law_1999 : decode cLaw_law 1999 = .ok (.iload 4, 2) := zfLaw_law_1966.2.2.2.2.2.2.2.2.2.2.2.2.2.2.2.2.2.2.2.2.2.2.2.1
theorem dLaw_law_2001 : decode cLaw_law 2001 = .ok (.iconst 1, 1) := zfLaw_law_1966.2.2.2.2.2.2.2.2.2.2.2.2.2.2.2.2.2.2.2.2.2.2.2.2.1
theorem dLaw_law_2002 : decode cLaw_law 2002 = .ok (.iadd, 1) := zfLaw_law_1966.2.2.2.2.2.2.2.2.2.2.2.2.2.2.2.2.2.2.2.2.2.2.2.2.2.1
theorem dLaw_law_2003 : decode cLaw_law 2003 = .ok (.iaload, 1) := zfLaw_law_1966.2.2.2.2.2.2.2.2.2.2.2.2.2.2.2.2.2.2.2.2.2.2.2.2.2.2.1
theorem dLaw_law_2004 : decode cLaw_law 2004 = .ok (.aload_n 0, 1) := zfLaw_law_1966.2.2.2.2.2.2.2.2.2.2.2.2.2.2.2.2.2.2.2.2.2.2.2.2.2.2.2.1
theorem dLaw_law_2005 : decode cLaw_law 2005 = .ok (.iload 4, 2) := zfLaw_law_1966.2.2.2.2.2.2.2.2.2.2.2.2.2.2.2.2.2.2.2.2.2.2.2.2.2.2.2.2.1
theorem dLaw_law_2007 : decode cLaw_law 2007 = .ok (.iconst 2, 1) := zfLaw_law_1966.2.2.2.2.2.2.2.2.2.2.2.2.2.2.2.2.2.2.2.2.2.2.2.2.2.2.2.2.2.1
theorem dLaw_law_2008 : decode cLaw_law 2008 = .ok (.iadd, 1) := zfLaw_law_1966.2.2.2.2.2.2.2.2.2.2.2.2.2.2.2.2.2.2.2.2.2.2.2.2.2.2.2.2.2.2.1
theorem dLaw_law_2009 : decode cLaw_law 2009 = .ok (.iaload, 1) := zfLaw_law_1966.2.2.2.2.2.2.2.2.2.2.2.2.2.2.2.2.2.2.2.2.2.2.2.2.2.2.2.2.2.2.2.1
theorem zfLaw_law_2010 : decode cLaw_law 2010 = .ok (.invokevirtual 261, 3) ∧ decode cLaw_law 2013 = .ok (.istore 6, 2) ∧ decode cLaw_law 2015 = .ok (.aload_n 2, 1) ∧ decode cLaw_law 2016 = .ok (.invokevirtual 179, 3) ∧ decode cLaw_law 2019 = .ok (.iload 5, 2) ∧ decode cLaw_law 2021 = .ok (.if_icmp .eq 5, 3) ∧ decode cLaw_law 2024 = .ok (.iconst 0, 1) ∧ decode cLaw_law 2025 = .ok (.ireturn, 1) ∧ decode cLaw_law 2026 = .ok (.iload 5, 2) ∧ decode cLaw_law 2028 = .ok (.ifCond .ne 23, 3) ∧ decode cLaw_law 2031 = .ok (.aload_n 3, 1) ∧ decode cLaw_law 2032 = .ok (.getfield 13, 3) ∧ decode cLaw_law 2035 = .ok (.iload 6, 2) ∧ decode cLaw_law 2037 = .ok (.ifCond .eq 7, 3) ∧ decode cLaw_law 2040 = .ok (.lconst 1, 1) ∧ decode cLaw_law 2041 = .ok (.goto 4, 3) ∧ decode cLaw_law 2044 = .ok (.lconst 0, 1) ∧ decode cLaw_law 2045 = .ok (.lcmp, 1) ∧ decode cLaw_law 2046 = .ok (.ifCond .eq 5, 3) ∧ decode cLaw_law 2049 = .ok (.iconst 0, 1) ∧ decode cLaw_law 2050 = .ok (.ireturn, 1) ∧ decode cLaw_law 2051 = .ok (.goto 1403, 3) ∧ decode cLaw_law 2054 = .ok (.aload_n 1, 1) ∧ decode cLaw_law 2055 = .ok (.aload_n 0, 1) ∧ decode cLaw_law 2056 = .ok (.iload 4, 2) ∧ decode cLaw_law 2058 = .ok (.iconst 1, 1) ∧ decode cLaw_law 2059 = .ok (.iadd, 1) ∧ decode cLaw_law 2060 = .ok (.iaload, 1) ∧ decode cLaw_law 2061 = .ok (.aload_n 3, 1) ∧ decode cLaw_law 2062 = .ok (.invokestatic 262, 3) ∧ decode cLaw_law 2065 = .ok (.istore 5, 2) ∧ decode cLaw_law 2067 = .ok (.aload_n 2, 1) ∧ True := Jvm.Free.DS.facts (code := cLaw_law) 2010 [(.invokevirtual 261, 3), (.istore 6, 2), (.aload_n 2, 1), (.invokevirtual 179, 3), (.iload 5, 2), (.if_icmp .eq 5, 3), (.iconst 0, 1), (.ireturn, 1), (.iload 5, 2), (.ifCond .ne 23, 3), (.aload_n 3, 1), (.getfield 13, 3), (.iload 6, 2), (.ifCond .eq 7, 3), (.lconst 1, 1), (.goto 4, 3), (.lconst 0, 1), (.lcmp, 1), (.ifCond .eq 5, 3), (.iconst 0, 1), (.ireturn, 1), (.goto 1403, 3), (.aload_n 1, 1), (.aload_n 0, 1), (.iload 4, 2), (.iconst 1, 1), (.iadd, 1), (.iaload, 1), (.aload_n 3, 1), (.invokestatic 262, 3), (.istore 5, 2), (.aload_n 2, 1)] (by decide +kernel) (by decide +kernel)
theorem dLaw_law_2010 : decode cLaw_law 2010 = .ok (.invokevirtual 261, 3) := zfLaw_law_2010.1
theorem dLaw_law_2013 : decode cLaw_law 2013 = .ok (.istore 6, 2) := zfLaw_law_2010.2.1
theorem dLaw_law_2015 : decode cLaw_law 2015 = .ok (.aload_n 2, 1) := zfLaw_law_2010.2.2.1
theorem dLaw_law_2016 : decode cLaw_law 2016 = .ok (.invokevirtual 179, 3) := zfLaw_law_2010.2.2.2.1
theorem dLaw_law_2019 : decode cLaw_law 2019 = .ok (.iload 5, 2) := zfLaw_law_2010.2.2.2.2.1
theorem dLaw_law_2021 : decode cLaw_law 2021 = .ok (.if_icmp .eq 5, 3) := zfLaw_law_2010.2.2.2.2.2.1
theorem dLaw_law_2024 : decode cLaw_law 2024 = .ok (.iconst 0, 1) := zfLaw_law_2010.2.2.2.2.2.2.1
theorem dLaw_law_2025 : decode cLaw_law 2025 = .ok (.ireturn, 1) := zfLaw_law_2010.2.2.2.2.2.2.2.1
theorem dLaw_law_2026 : decode cLaw_law 2026 = .ok (.iload 5, 2) := zfLaw_law_2010.2.2.2.2.2.2.2.2.1
theorem dLaw_law_2028 : decode cLaw_law 2028 = .ok (.ifCond .ne 23, 3) := zfLaw_law_2010.2.2.2.2.2.2.2.2.2.1
theorem dLaw_law_2031 : decode cLaw_law 2031 = .ok (.aload_n 3, 1) := zfLaw_law_2010.2.2.2.2.2.2.2.2.2.2.1
theorem dLaw_law_2032 : decode cLaw_law 2032 = .ok (.getfield 13, 3) := zfLaw_law_2010.2.2.2.2.2.2.2.2.2.2.2.1
theorem dLaw_law_2035 : decode cLaw_law 2035 = .ok (.iload 6, 2) := zfLaw_law_2010.2.2.2.2.2.2.2.2.2.2.2.2.1
theorem dLaw_law_2037 : decode cLaw_law 2037 = .ok (.ifCond .eq 7, 3) := zfLaw_law_2010.2.2.2.2.2.2.2.2.2.2.2.2.2.1
theorem dLaw_law_2040 : decode cLaw_law 2040 = .ok (.lconst 1, 1) := zfLaw_law_2010.2.2.2.2.2.2.2.2.2.2.2.2.2.2.1
theorem dLaw_law_2041 : decode cLaw_law 2041 = .ok (.goto 4, 3) := zfLaw_law_2010.2.2.2.2.2.2.2.2.2.2.2.2.2.2.2.1
theorem dLaw_law_2044 : decode cLaw_law 2044 = .ok (.lconst 0, 1) := zfLaw_law_2010.2.2.2.2.2.2.2.2.2.2.2.2.2.2.2.2.1
theorem dLaw_law_2045 : decode cLaw_law 2045 = .ok (.lcmp, 1) := zfLaw_law_2010.2.2.2.2.2.2.2.2.2.2.2.2.2.2.2.2.2.1
theorem dLaw_law_2046 : decode cLaw_law 2046 = .ok (.ifCond .eq 5, 3) := zfLaw_law_2010.2.2.2.2.2.2.2.2.2.2.2.2.2.2.2.2.2.2.1
theorem dLaw_law_2049 : decode cLaw_law 2049 = .ok (.iconst 0, 1) := zfLaw_law_2010.2.2.2.2.2.2.2.2.2.2.2.2.2.2.2.2.2.2.2.1
theorem dLaw_law_2050 : decode cLaw_law 2050 = .ok (.ireturn, 1) := zfLaw_law_2010.2.2.2.2.2.2.2.2.2.2.2.2.2.2.2.2.2.2.2.2.1
theorem dLaw_law_2051 : decode cLaw_law 2051 = .ok (.goto 1403, 3) := zfLaw_law_2010.2.2.2.2.2.2.2.2.2.2.2.2.2.2.2.2.2.2.2.2.2.1
theorem dLaw_law_2054 : decode cLaw_law 2054 = .ok (.aload_n 1, 1) := zfLaw_law_2010.2.2.2.2.2.2.2.2.2.2.2.2.2.2.2.2.2.2.2.2.2.2.1
theorem dLaw_law_2055 : decode cLaw_law 2055 = .ok (.aload_n 0, 1) := zfLaw_law_2010.2.2.2.2.2.2.2.2.2.2.2.2.2.2.2.2.2.2.2.2.2.2.2.1
theorem dLaw_law_2056 : decode cLaw_law 2056 = .ok (.iload 4, 2) := zfLaw_law_2010.2.2.2.2.2.2.2.2.2.2.2.2.2.2.2.2.2.2.2.2.2.2.2.2.1
theorem dLaw_law_2058 : decode cLaw_law 2058 = .ok (.iconst 1, 1) := zfLaw_law_2010.2.2.2.2.2.2.2.2.2.2.2.2.2.2.2.2.2.2.2.2.2.2.2.2.2.1
theorem dLaw_law_2059 : decode cLaw_law 2059 = .ok (.iadd, 1) := zfLaw_law_2010.2.2.2.2.2.2.2.2.2.2.2.2.2.2.2.2.2.2.2.2.2.2.2.2.2.2.1
theorem dLaw_law_2060 : decode cLaw_law 2060 = .ok (.iaload, 1) := zfLaw_law_2010.2.2.2.2.2.2.2.2.2.2.2.2.2.2.2.2.2.2.2.2.2.2.2.2.2.2.2.1
theorem dLaw_law_2061 : decode cLaw_law 2061 = .ok (.aload_n 3, 1) := zfLaw_law_2010.2.2.2.2.2.2.2.2.2.2.2.2.2.2.2.2.2.2.2.2.2.2.2.2.2.2.2.2.1
theorem dLaw_law_2062 : decode cLaw_law 2062 = .ok (.invokestatic 262, 3) := zfLaw_law_2010.2.2.2.2.2.2.2.2.2.2.2.2.2.2.2.2.2.2.2.2.2.2.2.2.2.2.2.2.2.1
theorem dLaw_law_2065 : decode cLaw_law 2065 = .ok (.istore 5, 2) := zfLaw_law_2010.2.2.2.2.2.2.2.2.2.2.2.2.2.2.2.2.2.2.2.2.2.2.2.2.2.2.2.2.2.2.1
theorem dLaw_law_2067 : decode cLaw_law 2067 = .ok (.aload_n 2, 1) := zfLaw_law_2010.2.2.2.2.2.2.2.2.2.2.2.2.2.2.2.2.2.2.2.2.2.2.2.2.2.2.2.2.2.2.2.1
theorem zfLaw_law_2068 : decode cLaw_law 2068 = .ok (.aload_n 0, 1) ∧ decode cLaw_law 2069 = .ok (.iload 4, 2) ∧ decode cLaw_law 2071 = .ok (.iconst 1, 1) ∧ decode cLaw_law 2072 = .ok (.iadd, 1) ∧ decode cLaw_law 2073 = .ok (.iaload, 1) ∧ decode cLaw_law 2074 = .ok (.invokevirtual 264, 3) ∧ decode cLaw_law 2077 = .ok (.istore 6, 2) ∧ decode cLaw_law 2079 = .ok (.aload_n 2, 1) ∧ decode cLaw_law 2080 = .ok (.invokevirtual 179, 3) ∧ decode cLaw_law 2083 = .ok (.iload 5, 2) ∧ decode cLaw_law 2085 = .ok (.if_icmp .eq 5, 3) ∧ decode cLaw_law 2088 = .ok (.iconst 0, 1) ∧ decode cLaw_law 2089 = .ok (.ireturn, 1) ∧ decode cLaw_law 2090 = .ok (.iload 5, 2) ∧ decode cLaw_law 2092 = .ok (.ifCond .ne 23, 3) ∧ decode cLaw_law 2095 = .ok (.aload_n 3, 1) ∧ decode cLaw_law 2096 = .ok (.getfield 13, 3) ∧ decode cLaw_law 2099 = .ok (.iload 6, 2) ∧ decode cLaw_law 2101 = .ok (.ifCond .eq 7, 3) ∧ decode cLaw_law 2104 = .ok (.lconst 1, 1) ∧ decode cLaw_law 2105 = .ok (.goto 4, 3) ∧ decode cLaw_law 2108 = .ok (.lconst 0, 1) ∧ decode cLaw_law 2109 = .ok (.lcmp, 1) ∧ decode cLaw_law 2110 = .ok (.ifCond .eq 5, 3) ∧ decode cLaw_law 2113 = .ok (.iconst 0, 1) ∧ decode cLaw_law 2114 = .ok (.ireturn, 1) ∧ decode cLaw_law 2115 = .ok (.goto 1339, 3) ∧ decode cLaw_law 2118 = .ok (.aload_n 1, 1) ∧ decode cLaw_law 2119 = .ok (.aload_n 0, 1) ∧ decode cLaw_law 2120 = .ok (.iload 4, 2) ∧ decode cLaw_law 2122 = .ok (.iconst 1, 1) ∧ decode cLaw_law 2123 = .ok (.iadd, 1) ∧ True := Jvm.Free.DS.facts (code := cLaw_law) 2068 [(.aload_n 0, 1), (.iload 4, 2), (.iconst 1, 1), (.iadd, 1), (.iaload, 1), (.invokevirtual 264, 3), (.istore 6, 2), (.aload_n 2, 1), (.invokevirtual 179, 3), (.iload 5, 2), (.if_icmp .eq 5, 3), (.iconst 0, 1), (.ireturn, 1), (.iload 5, 2), (.ifCond .ne 23, 3), (.aload_n 3, 1), (.getfield 13, 3), (.iload 6, 2), (.ifCond .eq 7, 3), (.lconst 1, 1), (.goto 4, 3), (.lconst 0, 1), (.lcmp, 1), (.ifCond .eq 5, 3), (.iconst 0, 1), (.ireturn, 1), (.goto 1339, 3), (.aload_n 1, 1), (.aload_n 0, 1), (.iload 4, 2), (.iconst 1, 1), (.iadd, 1)] (by decide +kernel) (by decide +kernel)
theorem dLaw_law_2068 : decode cLaw_law 2068 = .ok (.aload_n 0, 1) := zfLaw_law_2068.1
theorem dLaw_law_2069 : decode cLaw_law 2069 = .ok (.iload 4, 2) := zfLaw_law_2068.2.1
theorem dLaw_law_2071 : decode cLaw_law 2071 = .ok (.iconst 1, 1) := zfLaw_law_2068.2.2.1
theorem dLaw_law_2072 : decode cLaw_law 2072 = .ok (.iadd, 1) := zfLaw_law_2068.2.2.2.1
theorem dLaw_law_2073 : decode cLaw_law 2073 = .ok (.iaload, 1) := zfLaw_law_2068.2.2.2.2.1
theorem dLaw_law_2074 : decode cLaw_law 2074 = .ok (.invokevirtual 264, 3) := zfLaw_law_2068.2.2.2.2.2.1
theorem dLaw_law_2077 : decode cLaw_law 2077 = .ok (.istore 6, 2) := zfLaw_law_2068.2.2.2.2.2.2.1
theorem dLaw_law_2079 : decode cLaw_law 2079 = .ok (.aload_n 2, 1) := zfLaw_law_2068.2.2.2.2.2.2.2.1
theorem dLaw_law_2080 : decode cLaw_law 2080 = .ok (.invokevirtual 179, 3) := zfLaw_law_2068.2.2.2.2.2.2.2.2.1
theorem dLaw_law_2083 : decode cLaw_law 2083 = .ok (.iload 5, 2) := zfLaw_law_2068.2.2.2.2.2.2.2.2.2.1
theorem dLaw_law_2085 : decode cLaw_law 2085 = .ok (.if_icmp .eq 5, 3) := zfLaw_law_2068.2.2.2.2.2.2.2.2.2.2.1
theorem dLaw_law_2088 : decode cLaw_law 2088 = .ok (.iconst 0, 1) := zfLaw_law_2068.2.2.2.2.2.2.2.2.2.2.2.1
theorem dLaw_law_2089 : decode cLaw_law 2089 = .ok (.ireturn, 1) := zfLaw_law_2068.2.2.2.2.2.2.2.2.2.2.2.2.1
theorem dLaw_law_2090 : decode cLaw_law 2090 = .ok (.iload 5, 2) := zfLaw_law_2068.2.2.2.2.2.2.2.2.2.2.2.2.2.1
theorem dLaw_law_2092 : decode cLaw_law 2092 = .ok (.ifCond .ne 23, 3) := zfLaw_law_2068.2.2.2.2.2.2.2.2.2.2.2.2.2.2.1
theorem dLaw_law_2095 : decode cLaw_law 2095 = .ok (.aload_n 3, 1) := zfLaw_law_2068.2.2.2.2.2.2.2.2.2.2.2.2.2.2.2.1
theorem dLaw_law_2096 : decode cLaw_law 2096 = .ok (.getfield 13, 3) := zfLaw_law_2068.2.2.2.2.2.2.2.2.2.2.2.2.2.2.2.2.1
theorem dLaw_law_2099 : decode cLaw_law 2099 = .ok (.iload 6, 2) := zfLaw_law_2068.2.2.2.2.2.2.2.2.2.2.2.2.2.2.2.2.2.1
theorem dLaw_law_2101 : decode cLaw_law 2101 = .ok (.ifCond .eq 7, 3) := zfLaw_law_2068.2.2.2.2.2.2.2.2.2.2.2.2.2.2.2.2.2.2.1
theorem dLaw_law_2104 : decode cLaw_law 2104 = .ok (.lconst 1, 1) := zfLaw_law_2068.2.2.2.2.2.2.2.2.2.2.2.2.2.2.2.2.2.2.2.1
theorem dLaw_law_2105 : decode cLaw_law 2105 = .ok (.goto 4, 3) := zfLaw_law_2068.2.2.2.2.2.2.2.2.2.2.2.2.2.2.2.2.2.2.2.2.1
theorem dLaw_law_2108 : decode cLaw_law 2108 = .ok (.lconst 0, 1) := zfLaw_law_2068.2.2.2.2.2.2.2.2.2.2.2.2.2.2.2.2.2.2.2.2.2.1
theorem dLaw_law_2109 : decode cLaw_law 2109 = .ok (.lcmp, 1) := zfLaw_law_2068.2.2.2.2.2.2.2.2.2.2.2.2.2.2.2.2.2.2.2.2.2.2.1
theorem dLaw_law_2110 : decode cLaw_law 2110 = .ok (.ifCond .eq 5, 3) := zfLaw_law_2068.2.2.2.2.2.2.2.2.2.2.2.2.2.2.2.2.2.2.2.2.2.2.2.1
theorem dLaw_law_2113 : decode cLaw_law 2113 = .ok (.iconst 0, 1) := zfLaw_law_2068.2.2.2.2.2.2.2.2.2.2.2.2.2.2.2.2.2.2.2.2.2.2.2.2.1
theorem dLaw_law_2114 : decode cLaw_law 2114 = .ok (.ireturn, 1) := zfLaw_law_2068.2.2.2.2.2.2.2.2.2.2.2.2.2.2.2.2.2.2.2.2.2.2.2.2.2.1
theorem dLaw_law_2115 : decode cLaw_law 2115 = .ok (.goto 1339, 3) := zfLaw_law_2068.2.2.2.2.2.2.2.2.2.2.2.2.2.2.2.2.2.2.2.2.2.2.2.2.2.2.1
theorem dLaw_law_2118 : decode cLaw_law 2118 = .ok (.aload_n 1, 1) := zfLaw_law_2068.2.2.2.2.2.2.2.2.2.2.2.2.2.2.2.2.2.2.2.2.2.2.2.2.2.2.2.1
theorem dLaw_law_2119 : decode cLaw_law 2119 = .ok (.aload_n 0, 1) := zfLaw_law_2068.2.2.2.2.2.2.2.2.2.2.2.2.2.2.2.2.2.2.2.2.2.2.2.2.2.2.2.2.1
theorem dLaw_law_2120 : decode cLaw_law 2120 = .ok (.iload 4, 2) := zfLaw_law_2068.2.2.2.2.2.2.2.2.2.2.2.2.2.2.2.2.2.2.2.2.2.2.2.2.2.2.2.2.2.1
theorem dLaw_law_2122 : decode cLaw_law 2122 = .ok (.iconst 1, 1) := zfLaw_law_2068.2.2.2.2.2.2.2.2.2.2.2.2.2.2.2.2.2.2.2.2.2.2.2.2.2.2.2.2.2.2.1
theorem dLaw_law_2123 : decode cLaw_law 2123 = .ok (.iadd, 1) := zfLaw_law_2068.2.2.2.2.2.2.2.2.2.2.2.2.2.2.2.2.2.2.2.2.2.2.2.2.2.2.2.2.2.2.2.1
theorem zfLaw_law_2124 : decode cLaw_law 2124 = .ok (.iaload, 1) ∧ decode cLaw_law 2125 = .ok (.aload_n 0, 1) ∧ decode cLaw_law 2126 = .ok (.iload 4, 2) ∧ decode cLaw_law 2128 = .ok (.iconst 2, 1) ∧ decode cLaw_law 2129 = .ok (.iadd, 1) ∧ decode cLaw_law 2130 = .ok (.iaload, 1) ∧ decode cLaw_law 2131 = .ok (.aload_n 0, 1) ∧ decode cLaw_law 2132 = .ok (.iload 4, 2) ∧ decode cLaw_law 2134 = .ok (.iconst 3, 1) ∧ decode cLaw_law 2135 = .ok (.iadd, 1) ∧ decode cLaw_law 2136 = .ok (.iaload, 1) ∧ decode cLaw_law 2137 = .ok (.aload_n 3, 1) ∧ decode cLaw_law 2138 = .ok (.invokestatic 265, 3) ∧ decode cLaw_law 2141 = .ok (.istore 5, 2) ∧ decode cLaw_law 2143 = .ok (.aload_n 2, 1) ∧ decode cLaw_law 2144 = .ok (.aload_n 0, 1) ∧ decode cLaw_law 2145 = .ok (.iload 4, 2) ∧ decode cLaw_law 2147 = .ok (.iconst 1, 1) ∧ decode cLaw_law 2148 = .ok (.iadd, 1) ∧ decode cLaw_law 2149 = .ok (.iaload, 1) ∧ decode cLaw_law 2150 = .ok (.aload_n 0, 1) ∧ decode cLaw_law 2151 = .ok (.iload 4, 2) ∧ decode cLaw_law 2153 = .ok (.iconst 2, 1) ∧ decode cLaw_law 2154 = .ok (.iadd, 1) ∧ decode cLaw_law 2155 = .ok (.iaload, 1) ∧ decode cLaw_law 2156 = .ok (.aload_n 0, 1) ∧ decode cLaw_law 2157 = .ok (.iload 4, 2) ∧ decode cLaw_law 2159 = .ok (.iconst 3, 1) ∧ decode cLaw_law 2160 = .ok (.iadd, 1) ∧ decode cLaw_law 2161 = .ok (.iaload, 1) ∧ decode cLaw_law 2162 = .ok (.invokevirtual 267, 3) ∧ decode cLaw_law 2165 = .ok (.istore 6, 2) ∧ True := Jvm.Free.DS.facts (code := cLaw_law) 2124 [(.iaload, 1), (.aload_n 0, 1), (.iload 4, 2), (.iconst 2, 1), (.iadd, 1), (.iaload, 1), (.aload_n 0, 1), (.iload 4, 2), (.iconst 3, 1), (.iadd, 1), (.iaload, 1), (.aload_n 3, 1), (.invokestatic 265, 3), (.istore 5, 2), (.aload_n 2, 1), (.aload_n 0, 1), (.iload 4, 2), (.iconst 1, 1), (.iadd, 1), (.iaload, 1), (.aload_n 0, 1), (.iload 4, 2), (.iconst 2, 1), (.iadd, 1), (.iaload, 1), (.aload_n 0, 1), (.iload 4, 2), (.iconst 3, 1), (.iadd, 1), (.iaload, 1), (.invokevirtual 267, 3), (.istore 6, 2)] (by decide +kernel) (by decide +kernel)
theorem dLaw_law_2124 : decode cLaw_law 2124 = .ok (.iaload, 1) := zfLaw_law_2124.1
theorem dLaw_law_2125 : decode cLaw_law 2125 = .ok (.aload_n 0, 1) := zfLaw_law_2124.2.1
theorem dLaw_law_2126 : decode cLaw_law 2126 = .ok (.iload 4, 2) := zfLaw_law_2124.2.2.1
theorem dLaw_law_2128 : decode cLaw_law 2128 = .ok (.iconst 2, 1) := zfLaw_law_2124.2.2.2.1
theorem dLaw_law_2129 : decode cLaw_law 2129 = .ok (.iadd, 1) := zfLaw_law_2124.2.2.2.2.1
theorem dLaw_law_2130 : decode cLaw_law 2130 = .ok (.iaload, 1) := zfLaw_law_2124.2.2.2.2.2.1
theorem dLaw_law_2131 : decode cLaw_law 2131 = .ok (.aload_n 0, 1) := zfLaw_law_2124.2.2.2.2.2.2.1
theorem dLaw_law_2132 : decode cLaw_law 2132 = .ok (.iload 4, 2) := zfLaw_law_2124.2.2.2.2.2.2.2.1
theorem dLaw_law_2134 : decode cLaw_law 2134 = .ok (.iconst 3, 1) := zfLaw_law_2124.2.2.2.2.2.2.2.2.1
theorem dLaw_law_2135 : decode cLaw_law 2135 = .ok (.iadd, 1) := zfLaw_law_2124.2.2.2.2.2.2.2.2.2.1
theorem dLaw_law_2136 : decode cLaw_law 2136 = .ok (.iaload, 1) := zfLaw_law_2124.2.2.2.2.2.2.2.2.2.2.1
theorem dLaw_law_2137 : decode cLaw_law 2137 = .ok (.aload_n 3, 1) := zfLaw_law_2124.2.2.2.2.2.2.2.2.2.2.2.1
theorem dLaw_law_2138 : decode cLaw_law 2138 = .ok (.invokestatic 265, 3) := zfLaw_law_2124.2.2.2.2.2.2.2.2.2.2.2.2.1
theorem dLaw_law_2141 : decode cLaw_law 2141 = .ok (.istore 5, 2) := zfLaw_law_2124.2.2.2.2.2.2.2.2.2.2.2.2.2.1
theorem dLaw_law_2143 : decode cLaw_law 2143 = .ok (.aload_n 2, 1) := zfLaw_law_2124.2.2.2.2.2.2.2.2.2.2.2.2.2.2.1
theorem dLaw_law_2144 : decode cLaw_law 2144 = .ok (.aload_n 0, 1) := zfLaw_law_2124.2.2.2.2.2.2.2.2.2.2.2.2.2.2.2.1
theorem dLaw_law_2145 : decode cLaw_law 2145 = .ok (.iload 4, 2) := zfLaw_law_2124.2.2.2.2.2.2.2.2.2.2.2.2.2.2.2.2.1
theorem dLaw_law_2147 : decode cLaw_law 2147 = .ok (.iconst 1, 1) := zfLaw_law_2124.2.2.2.2.2.2.2.2.2.2.2.2.2.2.2.2.2.1
theorem dLaw_law_2148 : decode cLaw_law 2148 = .ok (.iadd, 1) := zfLaw_law_2124.2.2.2.2.2.2.2.2.2.2.2.2.2.2.2.2.2.2.1
theorem dLaw_law_2149 : decode cLaw_law 2149 = .ok (.iaload, 1) := zfLaw_law_2124.2.2.2.2.2.2.2.2.2.2.2.2.2.2.2.2.2.2.2.1
theorem dLaw_law_2150 : decode cLaw_law 2150 = .ok (.aload_n 0, 1) := zfLaw_law_2124.2.2.2.2.2.2.2.2.2.2.2.2.2.2.2.2.2.2.2.2.1
theorem dLaw_law_2151 : decode cLaw_law 2151 = .ok (.iload 4, 2) := zfLaw_law_2124.2.2.2.2.2.2.2.2.2.2.2.2.2.2.2.2.2.2.2.2.2.1
theorem dLaw_law_2153 : decode cLaw_law 2153 = .ok (.iconst 2, 1) := zfLaw_law_2124.2.2.2.2.2.2.2.2.2.2.2.2.2.2.2.2.2.2.2.2.2.2.1
theorem dLaw_law_2154 : decode cLaw_law 2154 = .ok (.iadd, 1) := zfLaw_law_2124.2.2.2.2.2.2.2.2.2.2.2.2.2.2.2.2.2.2.2.2.2.2.2.1
theorem dLaw_law_2155 : decode cLaw_law 2155 = .ok (.iaload, 1) := zfLaw_law_2124.2.2.2.2.2.2.2.2.2.2.2.2.2.2.2.2.2.2.2.2.2.2.2.2.1
theorem dLaw_law_2156 : decode cLaw_law 2156 = .ok (.aload_n 0, 1) := zfLaw_law_2124.2.2.2.2.2.2.2.2.2.2.2.2.2.2.2.2.2.2.2.2.2.2.2.2.2.1
theorem dLaw_law_2157 : decode cLaw_law 2157 = .ok (.iload 4, 2) := zfLaw_law_2124.2.2.2.2.2.2.2.2.2.2.2.2.2.2.2.2.2.2.2.2.2.2.2.2.2.2.1
theorem dLaw_law_2159 : decode cLaw_law 2159 = .ok (.iconst 3, 1) := zfLaw_law_2124.2.2.2.2.2.2.2.2.2.2.2.2.2.2.2.2.2.2.2.2.2.2.2.2.2.2.2.1
theorem dLaw_law_2160 : decode cLaw_law 2160 = .ok (.iadd, 1) := zfLaw_law_2124.2.2.2.2.2.2.2.2.2.2.2.2.2.2.2.2.2.2.2.2.2.2.2.2.2.2.2.2.1
theorem dLaw_law_2161 : decode cLaw_law 2161 = .ok (.iaload, 1) := zfLaw_law_2124.2.2.2.2.2.2.2.2.2.2.2.2.2.2.2.2.2.2.2.2.2.2.2.2.2.2.2.2.2.1
theorem dLaw_law_2162 : decode cLaw_law 2162 = .ok (.invokevirtual 267, 3) := zfLaw_law_2124.2.2.2.2.2.2.2.2.2.2.2.2.2.2.2.2.2.2.2.2.2.2.2.2.2.2.2.2.2.2.1
theorem dLaw_law_2165 : decode cLaw_law 2165 = .ok (.istore 6, 2) := zfLaw_law_2124.2.2.2.2.2.2.2.2.2.2.2.2.2.2.2.2.2.2.2.2.2.2.2.2.2.2.2.2.2.2.2.1
theorem zfLaw_law_2167 : decode cLaw_law 2167 = .ok (.aload_n 2, 1) ∧ decode cLaw_law 2168 = .ok (.invokevirtual 179, 3) ∧ decode cLaw_law 2171 = .ok (.iload 5, 2) ∧ decode cLaw_law 2173 = .ok (.if_icmp .eq 5, 3) ∧ decode cLaw_law 2176 = .ok (.iconst 0, 1) ∧ decode cLaw_law 2177 = .ok (.ireturn, 1) ∧ decode cLaw_law 2178 = .ok (.iload 5, 2) ∧ decode cLaw_law 2180 = .ok (.ifCond .ne 16, 3) ∧ decode cLaw_law 2183 = .ok (.aload_n 3, 1) ∧ decode cLaw_law 2184 = .ok (.getfield 13, 3) ∧ decode cLaw_law 2187 = .ok (.iload 6, 2) ∧ decode cLaw_law 2189 = .ok (.i2l, 1) ∧ decode cLaw_law 2190 = .ok (.lcmp, 1) ∧ decode cLaw_law 2191 = .ok (.ifCond .eq 5, 3) ∧ decode cLaw_law 2194 = .ok (.iconst 0, 1) ∧ decode cLaw_law 2195 = .ok (.ireturn, 1) ∧ decode cLaw_law 2196 = .ok (.goto 1258, 3) ∧ decode cLaw_law 2199 = .ok (.aload_n 1, 1) ∧ decode cLaw_law 2200 = .ok (.aload_n 0, 1) ∧ decode cLaw_law 2201 = .ok (.iload 4, 2) ∧ decode cLaw_law 2203 = .ok (.iconst 1, 1) ∧ decode cLaw_law 2204 = .ok (.iadd, 1) ∧ decode cLaw_law 2205 = .ok (.iaload, 1) ∧ decode cLaw_law 2206 = .ok (.aload_n 3, 1) ∧ decode cLaw_law 2207 = .ok (.invokestatic 268, 3) ∧ decode cLaw_law 2210 = .ok (.istore 5, 2) ∧ decode cLaw_law 2212 = .ok (.aload_n 2, 1) ∧ decode cLaw_law 2213 = .ok (.aload_n 0, 1) ∧ decode cLaw_law 2214 = .ok (.iload 4, 2) ∧ decode cLaw_law 2216 = .ok (.iconst 1, 1) ∧ decode cLaw_law 2217 = .ok (.iadd, 1) ∧ decode cLaw_law 2218 = .ok (.iaload, 1) ∧ True := Jvm.Free.DS.facts (code := cLaw_law) 2167 [(.aload_n 2, 1), (.invokevirtual 179, 3), (.iload 5, 2), (.if_icmp .eq 5, 3), (.iconst 0, 1), (.ireturn, 1), (.iload 5, 2), (.ifCond .ne 16, 3), (.aload_n 3, 1), (.getfield 13, 3), (.iload 6, 2), (.i2l, 1), (.lcmp, 1), (.ifCond .eq 5, 3), (.iconst 0, 1), (.ireturn, 1), (.goto 1258, 3), (.aload_n 1, 1), (.aload_n 0, 1), (.iload 4, 2), (.iconst 1, 1), (.iadd, 1), (.iaload, 1), (.aload_n 3, 1), (.invokestatic 268, 3), (.istore 5, 2), (.aload_n 2, 1), (.aload_n 0, 1), (.iload 4, 2), (.iconst 1, 1), (.iadd, 1), (.iaload, 1)] (by decide +kernel) (by decide +kernel)
theorem dLaw_law_2167 : decode cLaw_law 2167 = .ok (.aload_n 2, 1) := zfLaw_law_2167.1
theorem dLaw_law_2168 : decode cLaw_law 2168 = .ok (.invokevirtual 179, 3) := zfLaw_law_2167.2.1
theorem dLaw_law_2171 : decode cLaw_law 2171 = .ok (.iload 5, 2) := zfLaw_law_2167.2.2.1
theorem dLaw_law_2173 : decode cLaw_law 2173 = .ok (.if_icmp .eq 5, 3) := zfLaw_law_2167.2.2.2.1
theorem dLaw_law_2176 : decode cLaw_law 2176 = .ok (.iconst 0, 1) := zfLaw_law_2167.2.2.2.2.1
theorem dLaw_law_2177 : decode cLaw_law 2177 = .ok (.ireturn, 1) := zfLaw_law_2167.2.2.2.2.2.1
theorem dLaw_law_2178 : decode cLaw_law 2178 = .ok (.iload 5, 2) := zfLaw_law_2167.2.2.2.2.2.2.1
theorem dLaw_law_2180 : decode cLaw_law 2180 = .ok (.ifCond .ne 16, 3) := zfLaw_law_2167.2.2.2.2.2.2.2.1
theorem dLaw_law_2183 : decode cLaw_law 2183 = .ok (.aload_n 3, 1) := zfLaw_law_2167.2.2.2.2.2.2.2.2.1
theorem dLaw_law_2184 : decode cLaw_law 2184 = .ok (.getfield 13, 3) := zfLaw_law_2167.2.2.2.2.2.2.2.2.2.1
theorem dLaw_law_2187 : decode cLaw_law 2187 = .ok (.iload 6, 2) := zfLaw_law_2167.2.2.2.2.2.2.2.2.2.2.1
theorem dLaw_law_2189 : decode cLaw_law 2189 = .ok (.i2l, 1) := zfLaw_law_2167.2.2.2.2.2.2.2.2.2.2.2.1
theorem dLaw_law_2190 : decode cLaw_law 2190 = .ok (.lcmp, 1) := zfLaw_law_2167.2.2.2.2.2.2.2.2.2.2.2.2.1
theorem dLaw_law_2191 : decode cLaw_law 2191 = .ok (.ifCond .eq 5, 3) := zfLaw_law_2167.2.2.2.2.2.2.2.2.2.2.2.2.2.1
theorem dLaw_law_2194 : decode cLaw_law 2194 = .ok (.iconst 0, 1) := zfLaw_law_2167.2.2.2.2.2.2.2.2.2.2.2.2.2.2.1
theorem dLaw_law_2195 : decode cLaw_law 2195 = .ok (.ireturn, 1) := zfLaw_law_2167.2.2.2.2.2.2.2.2.2.2.2.2.2.2.2.1
theorem dLaw_law_2196 : decode cLaw_law 2196 = .ok (.goto 1258, 3) := zfLaw_law_2167.2.2.2.2.2.2.2.2.2.2.2.2.2.2.2.2.1
theorem dLaw_law_2199 : decode cLaw_law 2199 = .ok (.aload_n 1, 1) := zfLaw_law_2167.2.2.2.2.2.2.2.2.2.2.2.2.2.2.2.2.2.1
theorem dLaw_law_2200 : decode cLaw_law 2200 = .ok (.aload_n 0, 1) := zfLaw_law_2167.2.2.2.2.2.2.2.2.2.2.2.2.2.2.2.2.2.2.1
theorem dLaw_law_2201 : decode cLaw_law 2201 = .ok (.iload 4, 2) := zfLaw_law_2167.2.2.2.2.2.2.2.2.2.2.2.2.2.2.2.2.2.2.2.1
theorem dLaw_law_2203 : decode cLaw_law 2203 = .ok (.iconst 1, 1) := zfLaw_law_2167.2.2.2.2.2.2.2.2.2.2.2.2.2.2.2.2.2.2.2.2.1
theorem dLaw_law_2204 : decode cLaw_law 2204 = .ok (.iadd, 1) := zfLaw_law_2167.2.2.2.2.2.2.2.2.2.2.2.2.2.2.2.2.2.2.2.2.2.1
theorem dLaw_law_2205 : decode cLaw_law 2205 = .ok (.iaload, 1) := zfLaw_law_2167.2.2.2.2.2.2.2.2.2.2.2.2.2.2.2.2.2.2.2.2.2.2.1
theorem dLaw_law_2206 : decode cLaw_law 2206 = .ok (.aload_n 3, 1) := zfLaw_law_2167.2.2.2.2.2.2.2.2.2.2.2.2.2.2.2.2.2.2.2.2.2.2.2.1
theorem dLaw_law_2207 : decode cLaw_law 2207 = .ok (.invokestatic 268, 3) := zfLaw_law_2167.2.2.2.2.2.2.2.2.2.2.2.2.2.2.2.2.2.2.2.2.2.2.2.2.1
theorem dLaw_law_2210 : decode cLaw_law 2210 = .ok (.istore 5, 2) := zfLaw_law_2167.2.2.2.2.2.2.2.2.2.2.2.2.2.2.2.2.2.2.2.2.2.2.2.2.2.1
theorem dLaw_law_2212 : decode cLaw_law 2212 = .ok (.aload_n 2, 1) := zfLaw_law_2167.2.2.2.2.2.2.2.2.2.2.2.2.2.2.2.2.2.2.2.2.2.2.2.2.2.2.1
theorem dLaw_law_2213 : decode cLaw_law 2213 = .ok (.aload_n 0, 1) := zfLaw_law_2167.2.2.2.2.2.2.2.2.2.2.2.2.2.2.2.2.2.2.2.2.2.2.2.2.2.2.2.1
theorem dLaw_law_2214 : decode cLaw_law 2214 = .ok (.iload 4, 2) := zfLaw_law_2167.2.2.2.2.2.2.2.2.2.2.2.2.2.2.2.2.2.2.2.2.2.2.2.2.2.2.2.2.1
theorem dLaw_law_2216 : decode cLaw_law 2216 = .ok (.iconst 1, 1) := zfLaw_law_2167.2.2.2.2.2.2.2.2.2.2.2.2.2.2.2.2.2.2.2.2.2.2.2.2.2.2.2.2.2.1
theorem dLaw_law_2217 : decode cLaw_law 2217 = .ok (.iadd, 1) := zfLaw_law_2167.2.2.2.2.2.2.2.2.2.2.2.2.2.2.2.2.2.2.2.2.2.2.2.2.2.2.2.2.2.2.1
theorem dLaw_law_2218 : decode cLaw_law 2218 = .ok (.iaload, 1) := zfLaw_law_2167.2.2.2.2.2.2.2.2.2.2.2.2.2.2.2.2.2.2.2.2.2.2.2.2.2.2.2.2.2.2.2.1
theorem zfLaw_law_2219 : decode cLaw_law 2219 = .ok (.invokevirtual 270, 3) ∧ decode cLaw_law 2222 = .ok (.istore 6, 2) ∧ decode cLaw_law 2224 = .ok (.aload_n 2, 1) ∧ decode cLaw_law 2225 = .ok (.invokevirtual 179, 3) ∧ decode cLaw_law 2228 = .ok (.iload 5, 2) ∧ decode cLaw_law 2230 = .ok (.if_icmp .eq 5, 3) ∧ decode cLaw_law 2233 = .ok (.iconst 0, 1) ∧ decode cLaw_law 2234 = .ok (.ireturn, 1) ∧ decode cLaw_law 2235 = .ok (.iload 5, 2) ∧ decode cLaw_law 2237 = .ok (.ifCond .ne 23, 3) ∧ decode cLaw_law 2240 = .ok (.aload_n 3, 1) ∧ decode cLaw_law 2241 = .ok (.getfield 13, 3) ∧ decode cLaw_law 2244 = .ok (.iload 6, 2) ∧ decode cLaw_law 2246 = .ok (.ifCond .eq 7, 3) ∧ decode cLaw_law 2249 = .ok (.lconst 1, 1) ∧ decode cLaw_law 2250 = .ok (.goto 4, 3) ∧ decode cLaw_law 2253 = .ok (.lconst 0, 1) ∧ decode cLaw_law 2254 = .ok (.lcmp, 1) ∧ decode cLaw_law 2255 = .ok (.ifCond .eq 5, 3) ∧ decode cLaw_law 2258 = .ok (.iconst 0, 1) ∧ decode cLaw_law 2259 = .ok (.ireturn, 1) ∧ decode cLaw_law 2260 = .ok (.goto 1194, 3) ∧ decode cLaw_law 2263 = .ok (.aload_n 1, 1) ∧ decode cLaw_law 2264 = .ok (.aload_n 0, 1) ∧ decode cLaw_law 2265 = .ok (.iload 4, 2) ∧ decode cLaw_law 2267 = .ok (.iconst 1, 1) ∧ decode cLaw_law 2268 = .ok (.iadd, 1) ∧ decode cLaw_law 2269 = .ok (.iaload, 1) ∧ decode cLaw_law 2270 = .ok (.aload_n 3, 1) ∧ decode cLaw_law 2271 = .ok (.invokestatic 271, 3) ∧ decode cLaw_law 2274 = .ok (.istore 5, 2) ∧ decode cLaw_law 2276 = .ok (.aload_n 2, 1) ∧ True := Jvm.Free.DS.facts (code := cLaw_law) 2219 [(.invokevirtual 270, 3), (.istore 6, 2), (.aload_n 2, 1), (.invokevirtual 179, 3), (.iload 5, 2), (.if_icmp .eq 5, 3), (.iconst 0, 1), (.ireturn, 1), (.iload 5, 2), (.ifCond .ne 23, 3), (.aload_n 3, 1), (.getfield 13, 3), (.iload 6, 2), (.ifCond .eq 7, 3), (.lconst 1, 1), (.goto 4, 3), (.lconst 0, 1), (.lcmp, 1), (.ifCond .eq 5, 3), (.iconst 0, 1), (.ireturn, 1), (.goto 1194, 3), (.aload_n 1, 1), (.aload_n 0, 1), (.iload 4, 2), (.iconst 1, 1), (.iadd, 1), (.iaload, 1), (.aload_n 3, 1), (.invokestatic 271, 3), (.istore 5, 2), (.aload_n 2, 1)] (by decide +kernel) (by decide +kernel)
theorem dLaw_law_2219 : decode cLaw_law 2219 = .ok (.invokevirtual 270, 3) := zfLaw_law_2219.1
theorem dLaw_law_2222 : decode cLaw_law 2222 = .ok (.istore 6, 2) := zfLaw_law_2219.2.1
theorem dLaw_law_2224 : decode cLaw_law 2224 = .ok (.aload_n 2, 1) := zfLaw_law_2219.2.2.1
theorem dLaw_law_2225 : decode cLaw_law 2225 = .ok (.invokevirtual 179, 3) := zfLaw_law_2219.2.2.2.1
theorem dLaw_law_2228 : decode cLaw_law 2228 = .ok (.iload 5, 2) := zfLaw_law_2219.2.2.2.2.1
theorem dLaw_law_2230 : decode cLaw_law 2230 = .ok (.if_icmp .eq 5, 3) := zfLaw_law_2219.2.2.2.2.2.1
theorem dLaw_law_2233 : decode cLaw_law 2233 = .ok (.iconst 0, 1) := zfLaw_law_2219.2.2.2.2.2.2.1
theorem dLaw_law_2234 : decode cLaw_law 2234 = .ok (.ireturn, 1) := zfLaw_law_2219.2.2.2.2.2.2.2.1
theorem dLaw_law_2235 : decode cLaw_law 2235 = .ok (.iload 5, 2) := zfLaw_law_2219.2.2.2.2.2.2.2.2.1
theorem dLaw_law_2237 : decode cLaw_law 2237 = .ok (.ifCond .ne 23, 3) := zfLaw_law_2219.2.2.2.2.2.2.2.2.2.1
theorem dLaw_law_2240 : decode cLaw_law 2240 = .ok (.aload_n 3, 1) := zfLaw_law_2219.2.2.2.2.2.2.2.2.2.2.1
theorem dLaw_law_2241 : decode cLaw_law 2241 = .ok (.getfield 13, 3) := zfLaw_law_2219.2.2.2.2.2.2.2.2.2.2.2.1
theorem dLaw_law_2244 : decode cLaw_law 2244 = .ok (.iload 6, 2) := zfLaw_law_2219.2.2.2.2.2.2.2.2.2.2.2.2.1
theorem dLaw_law_2246 : decode cLaw_law 2246 = .ok (.ifCond .eq 7, 3) := zfLaw_law_2219.2.2.2.2.2.2.2.2.2.2.2.2.2.1
theorem dLaw_law_2249 : decode cLaw_law 2249 = .ok (.lconst 1, 1) := zfLaw_law_2219.2.2.2.2.2.2.2.2.2.2.2.2.2.2.1
theorem dLaw_law_2250 : decode cLaw_law 2250 = .ok (.goto 4, 3) := zfLaw_law_2219.2.2.2.2.2.2.2.2.2.2.2.2.2.2.2.1
theorem dLaw_law_2253 : decode cLaw_law 2253 = .ok (.lconst 0, 1) := zfLaw_law_2219.2.2.2.2.2.2.2.2.2.2.2.2.2.2.2.2.1
theorem dLaw_law_2254 : decode cLaw_law 2254 = .ok (.lcmp, 1) := zfLaw_law_2219.2.2.2.2.2.2.2.2.2.2.2.2.2.2.2.2.2.1
theorem dLaw_law_2255 : decode cLaw_law 2255 = .ok (.ifCond .eq 5, 3) := zfLaw_law_2219.2.2.2.2.2.2.2.2.2.2.2.2.2.2.2.2.2.2.1
theorem dLaw_law_2258 : decode cLaw_law 2258 = .ok (.iconst 0, 1) := zfLaw_law_2219.2.2.2.2.2.2.2.2.2.2.2.2.2.2.2.2.2.2.2.1
theorem dLaw_law_2259 : decode cLaw_law 2259 = .ok (.ireturn, 1) := zfLaw_law_2219.2.2.2.2.2.2.2.2.2.2.2.2.2.2.2.2.2.2.2.2.1
theorem dLaw_law_2260 : decode cLaw_law 2260 = .ok (.goto 1194, 3) := zfLaw_law_2219.2.2.2.2.2.2.2.2.2.2.2.2.2.2.2.2.2.2.2.2.2.1
theorem dLaw_law_2263 : decode cLaw_law 2263 = .ok (.aload_n 1, 1) := zfLaw_law_2219.2.2.2.2.2.2.2.2.2.2.2.2.2.2.2.2.2.2.2.2.2.2.1
theorem dLaw_law_2264 : decode cLaw_law 2264 = .ok (.aload_n 0, 1) := zfLaw_law_2219.2.2.2.2.2.2.2.2.2.2.2.2.2.2.2.2.2.2.2.2.2.2.2.1
theorem dLaw_law_2265 : decode cLaw_law 2265 = .ok (.iload 4, 2) := zfLaw_law_2219.2.2.2.2.2.2.2.2.2.2.2.2.2.2.2.2.2.2.2.2.2.2.2.2.1
theorem dLaw_law_2267 : decode cLaw_law 2267 = .ok (.iconst 1, 1) := zfLaw_law_2219.2.2.2.2.2.2.2.2.2.2.2.2.2.2.2.2.2.2.2.2.2.2.2.2.2.1
theorem dLaw_law_2268 : decode cLaw_law 2268 = .ok (.iadd, 1) := zfLaw_law_2219.2.2.2.2.2.2.2.2.2.2.2.2.2.2.2.2.2.2.2.2.2.2.2.2.2.2.1
theorem dLaw_law_2269 : decode cLaw_law 2269 = .ok (.iaload, 1) := zfLaw_law_2219.2.2.2.2.2.2.2.2.2.2.2.2.2.2.2.2.2.2.2.2.2.2.2.2.2.2.2.1
theorem dLaw_law_2270 : decode cLaw_law 2270 = .ok (.aload_n 3, 1) := zfLaw_law_2219.2.2.2.2.2.2.2.2.2.2.2.2.2.2.2.2.2.2.2.2.2.2.2.2.2.2.2.2.1
theorem dLaw_law_2271 : decode cLaw_law 2271 = .ok (.invokestatic 271, 3) := zfLaw_law_2219.2.2.2.2.2.2.2.2.2.2.2.2.2.2.2.2.2.2.2.2.2.2.2.2.2.2.2.2.2.1
theorem dLaw_law_2274 : decode cLaw_law 2274 = .ok (.istore 5, 2) := zfLaw_law_2219.2.2.2.2.2.2.2.2.2.2.2.2.2.2.2.2.2.2.2.2.2.2.2.2.2.2.2.2.2.2.1
theorem dLaw_law_2276 : decode cLaw_law 2276 = .ok (.aload_n 2, 1) := zfLaw_law_2219.2.2.2.2.2.2.2.2.2.2.2.2.2.2.2.2.2.2.2.2.2.2.2.2.2.2.2.2.2.2.2.1
theorem zfLaw_law_2277 : decode cLaw_law 2277 = .ok (.aload_n 0, 1) ∧ decode cLaw_law 2278 = .ok (.iload 4, 2) ∧ decode cLaw_law 2280 = .ok (.iconst 1, 1) ∧ decode cLaw_law 2281 = .ok (.iadd, 1) ∧ decode cLaw_law 2282 = .ok (.iaload, 1) ∧ decode cLaw_law 2283 = .ok (.invokevirtual 273, 3) ∧ decode cLaw_law 2286 = .ok (.istore 6, 2) ∧ decode cLaw_law 2288 = .ok (.aload_n 2, 1) ∧ decode cLaw_law 2289 = .ok (.invokevirtual 179, 3) ∧ decode cLaw_law 2292 = .ok (.iload 5, 2) ∧ decode cLaw_law 2294 = .ok (.if_icmp .eq 5, 3) ∧ decode cLaw_law 2297 = .ok (.iconst 0, 1) ∧ decode cLaw_law 2298 = .ok (.ireturn, 1) ∧ decode cLaw_law 2299 = .ok (.iload 5, 2) ∧ decode cLaw_law 2301 = .ok (.ifCond .ne 16, 3) ∧ decode cLaw_law 2304 = .ok (.aload_n 3, 1) ∧ decode cLaw_law 2305 = .ok (.getfield 13, 3) ∧ decode cLaw_law 2308 = .ok (.iload 6, 2) ∧ decode cLaw_law 2310 = .ok (.i2l, 1) ∧ decode cLaw_law 2311 = .ok (.lcmp, 1) ∧ decode cLaw_law 2312 = .ok (.ifCond .eq 5, 3) ∧ decode cLaw_law 2315 = .ok (.iconst 0, 1) ∧ decode cLaw_law 2316 = .ok (.ireturn, 1) ∧ decode cLaw_law 2317 = .ok (.goto 1137, 3) ∧ decode cLaw_law 2320 = .ok (.aload_n 1, 1) ∧ decode cLaw_law 2321 = .ok (.aload_n 0, 1) ∧ decode cLaw_law 2322 = .ok (.iload 4, 2) ∧ decode cLaw_law 2324 = .ok (.iconst 1, 1) ∧ decode cLaw_law 2325 = .ok (.iadd, 1) ∧ decode cLaw_law 2326 = .ok (.iaload, 1) ∧ decode cLaw_law 2327 = .ok (.aload_n 3, 1) ∧ decode cLaw_law 2328 = .ok (.invokestatic 274, 3) ∧ True := Jvm.Free.DS.facts (code := cLaw_law) 2277 [(.aload_n 0, 1), (.iload 4, 2), (.iconst 1, 1), (.iadd, 1), (.iaload, 1), (.invokevirtual 273, 3), (.istore 6, 2), (.aload_n 2, 1), (.invokevirtual 179, 3), (.iload 5, 2), (.if_icmp .eq 5, 3), (.iconst 0, 1), (.ireturn, 1), (.iload 5, 2), (.ifCond .ne 16, 3), (.aload_n 3, 1), (.getfield 13, 3), (.iload 6, 2), (.i2l, 1), (.lcmp, 1), (.ifCond .eq 5, 3), (.iconst 0, 1), (.ireturn, 1), (.goto 1137, 3), (.aload_n 1, 1), (.aload_n 0, 1), (.iload 4, 2), (.iconst 1, 1), (.iadd, 1), (.iaload, 1), (.aload_n 3, 1), (.invokestatic 274, 3)] (by decide +kernel) (by decide +kernel)
theorem dLaw_law_2277 : decode cLaw_law 2277 = .ok (.aload_n 0, 1) := zfLaw_law_2277.1
theorem dLaw_law_2278 : decode cLaw_law 2278 = .ok (.iload 4, 2) := zfLaw_law_2277.2.1
theorem dLaw_law_2280 : decode cLaw_law 2280 = .ok (.iconst 1, 1) := zfLaw_law_2277.2.2.1
theorem dLaw_law_2281 : decode cLaw_law 2281 = .ok (.iadd, 1) := zfLaw_law_2277.2.2.2.1
theorem dLaw_law_2282 : decode cLaw_law 2282 = .ok (.iaload, 1) := zfLaw_law_2277.2.2.2.2.1
theorem dLaw_law_2283 : decode cLaw_law 2283 = .ok (.invokevirtual 273, 3) := zfLaw_law_2277.2.2.2.2.2.1
theorem dLaw_law_2286 : decode cLaw_law 2286 = .ok (.istore 6, 2) := zfLaw_law_2277.2.2.2.2.2.2.1
theorem dLaw_law_2288 : decode cLaw_law 2288 = .ok (.aload_n 2, 1) := zfLaw_law_2277.2.2.2.2.2.2.2.1
theorem dLaw_law_2289 : decode cLaw_law 2289 = .ok (.invokevirtual 179, 3) := zfLaw_law_2277.2.2.2.2.2.2.2.2.1
theorem dLaw_law_2292 : decode cLaw_law 2292 = .ok (.iload 5, 2) := zfLaw_law_2277.2.2.2.2.2.2.2.2.2.1
theorem dLaw_law_2294 : decode cLaw_law 2294 = .ok (.if_icmp .eq 5, 3) := zfLaw_law_2277.2.2.2.2.2.2.2.2.2.2.1
theorem dLaw_law_2297 : decode cLaw_law 2297 = .ok (.iconst 0, 1) := zfLaw_law_2277.2.2.2.2.2.2.2.2.2.2.2.1
theorem dLaw_law_2298 : decode cLaw_law 2298 = .ok (.ireturn, 1) := zfLaw_law_2277.2.2.2.2.2.2.2.2.2.2.2.2.1
theorem dLaw_law_2299 : decode cLaw_law 2299 = .ok (.iload 5, 2) := zfLaw_law_2277.2.2.2.2.2.2.2.2.2.2.2.2.2.1
theorem dLaw_law_2301 : decode cLaw_law 2301 = .ok (.ifCond .ne 16, 3) := zfLaw_law_2277.2.2.2.2.2.2.2.2.2.2.2.2.2.2.1
theorem dLaw_law_2304 : decode cLaw_law 2304 = .ok (.aload_n 3, 1) := zfLaw_law_2277.2.2.2.2.2.2.2.2.2.2.2.2.2.2.2.1
theorem dLaw_law_2305 : decode cLaw_law 2305 = .ok (.getfield 13, 3) := zfLaw_law_2277.2.2.2.2.2.2.2.2.2.2.2.2.2.2.2.2.1
theorem dLaw_law_2308 : decode cLaw_law 2308 = .ok (.iload 6, 2) := zfLaw_law_2277.2.2.2.2.2.2.2.2.2.2.2.2.2.2.2.2.2.1
theorem dLaw_law_2310 : decode cLaw_law 2310 = .ok (.i2l, 1) := zfLaw_law_2277.2.2.2.2.2.2.2.2.2.2.2.2.2.2.2.2.2.2.1
theorem dLaw_law_2311 : decode cLaw_law 2311 = .ok (.lcmp, 1) := zfLaw_law_2277.2.2.2.2.2.2.2.2.2.2.2.2.2.2.2.2.2.2.2.1
theorem dLaw_law_2312 : decode cLaw_law 2312 = .ok (.ifCond .eq 5, 3) := zfLaw_law_2277.2.2.2.2.2.2.2.2.2.2.2.2.2.2.2.2.2.2.2.2.1
theorem dLaw_law_2315 : decode cLaw_law 2315 = .ok (.iconst 0, 1) := zfLaw_law_2277.2.2.2.2.2.2.2.2.2.2.2.2.2.2.2.2.2.2.2.2.2.1
theorem dLaw_law_2316 : decode cLaw_law 2316 = .ok (.ireturn, 1) := zfLaw_law_2277.2.2.2.2.2.2.2.2.2.2.2.2.2.2.2.2.2.2.2.2.2.2.1
theorem dLaw_law_2317 : decode cLaw_law 2317 = .ok (.goto 1137, 3) := zfLaw_law_2277.2.2.2.2.2.2.2.2.2.2.2.2.2.2.2.2.2.2.2.2.2.2.2.1
theorem dLaw_law_2320 : decode cLaw_law 2320 = .ok (.aload_n 1, 1) := zfLaw_law_2277.2.2.2.2.2.2.2.2.2.2.2.2.2.2.2.2.2.2.2.2.2.2.2.2.1
theorem dLaw_law_2321 : decode cLaw_law 2321 = .ok (.aload_n 0, 1) := zfLaw_law_2277.2.2.2.2.2.2.2.2.2.2.2.2.2.2.2.2.2.2.2.2.2.2.2.2.2.1
theorem dLaw_law_2322 : decode cLaw_law 2322 = .ok (.iload 4, 2) := zfLaw_law_2277.2.2.2.2.2.2.2.2.2.2.2.2.2.2.2.2.2.2.2.2.2.2.2.2.2.2.1
theorem dLaw_law_2324 : decode cLaw_law 2324 = .ok (.iconst 1, 1) := zfLaw_law_2277.2.2.2.2.2.2.2.2.2.2.2.2.2.2.2.2.2.2.2.2.2.2.2.2.2.2.2.1
theorem dLaw_law_2325 : decode cLaw_law 2325 = .ok (.iadd, 1) := zfLaw_law_2277.2.2.2.2.2.2.2.2.2.2.2.2.2.2.2.2.2.2.2.2.2.2.2.2.2.2.2.2.1
theorem dLaw_law_2326 : decode cLaw_law 2326 = .ok (.iaload, 1) := zfLaw_law_2277.2.2.2.2.2.2.2.2.2.2.2.2.2.2.2.2.2.2.2.2.2.2.2.2.2.2.2.2.2.1
theorem dLaw_law_2327 : decode cLaw_law 2327 = .ok (.aload_n 3, 1) := zfLaw_law_2277.2.2.2.2.2.2.2.2.2.2.2.2.2.2.2.2.2.2.2.2.2.2.2.2.2.2.2.2.2.2.1
theorem dLaw_law_2328 : decode cLaw_law 2328 = .ok (.invokestatic 274, 3) := zfLaw_law_2277.2.2.2.2.2.2.2.2.2.2.2.2.2.2.2.2.2.2.2.2.2.2.2.2.2.2.2.2.2.2.2.1
theorem zfLaw_law_2331 : decode cLaw_law 2331 = .ok (.istore 5, 2) ∧ decode cLaw_law 2333 = .ok (.aload_n 2, 1) ∧ decode cLaw_law 2334 = .ok (.aload_n 0, 1) ∧ decode cLaw_law 2335 = .ok (.iload 4, 2) ∧ decode cLaw_law 2337 = .ok (.iconst 1, 1) ∧ decode cLaw_law 2338 = .ok (.iadd, 1) ∧ decode cLaw_law 2339 = .ok (.iaload, 1) ∧ decode cLaw_law 2340 = .ok (.invokevirtual 276, 3) ∧ decode cLaw_law 2343 = .ok (.istore 6, 2) ∧ decode cLaw_law 2345 = .ok (.aload_n 2, 1) ∧ decode cLaw_law 2346 = .ok (.invokevirtual 179, 3) ∧ decode cLaw_law 2349 = .ok (.iload 5, 2) ∧ decode cLaw_law 2351 = .ok (.if_icmp .eq 5, 3) ∧ decode cLaw_law 2354 = .ok (.iconst 0, 1) ∧ decode cLaw_law 2355 = .ok (.ireturn, 1) ∧ decode cLaw_law 2356 = .ok (.iload 5, 2) ∧ decode cLaw_law 2358 = .ok (.ifCond .ne 16, 3) ∧ decode cLaw_law 2361 = .ok (.aload_n 3, 1) ∧ decode cLaw_law 2362 = .ok (.getfield 13, 3) ∧ decode cLaw_law 2365 = .ok (.iload 6, 2) ∧ decode cLaw_law 2367 = .ok (.i2l, 1) ∧ decode cLaw_law 2368 = .ok (.lcmp, 1) ∧ decode cLaw_law 2369 = .ok (.ifCond .eq 5, 3) ∧ decode cLaw_law 2372 = .ok (.iconst 0, 1) ∧ decode cLaw_law 2373 = .ok (.ireturn, 1) ∧ decode cLaw_law 2374 = .ok (.goto 1080, 3) ∧ decode cLaw_law 2377 = .ok (.aload_n 1, 1) ∧ decode cLaw_law 2378 = .ok (.aload_n 0, 1) ∧ decode cLaw_law 2379 = .ok (.iload 4, 2) ∧ decode cLaw_law 2381 = .ok (.iconst 1, 1) ∧ decode cLaw_law 2382 = .ok (.iadd, 1) ∧ decode cLaw_law 2383 = .ok (.iaload, 1) ∧ True := Jvm.Free.DS.facts (code := cLaw_law) 2331 [(.istore 5, 2), (.aload_n 2, 1), (.aload_n 0, 1), (.iload 4, 2), (.iconst 1, 1), (.iadd, 1), (.iaload, 1), (.invokevirtual 276, 3), (.istore 6, 2), (.aload_n 2, 1), (.invokevirtual 179, 3), (.iload 5, 2), (.if_icmp .eq 5, 3), (.iconst 0, 1), (.ireturn, 1), (.iload 5, 2), (.ifCond .ne 16, 3), (.aload_n 3, 1), (.getfield 13, 3), (.iload 6, 2), (.i2l, 1), (.lcmp, 1), (.ifCond .eq 5, 3), (.iconst 0, 1), (.ireturn, 1), (.goto 1080, 3), (.aload_n 1, 1), (.aload_n 0, 1), (.iload 4, 2), (.iconst 1, 1), (.iadd, 1), (.iaload, 1)] (by decide +kernel) (by decide +kernel)
theorem dLaw_law_2331 : decode cLaw_law 2331 = .ok (.istore 5, 2) := zfLaw_law_2331.1
theorem dLaw_law_2333 : decode cLaw_law 2333 = .ok (.aload_n 2, 1) := zfLaw_law_2331.2.1
theorem dLaw_law_2334 : decode cLaw_law 2334 = .ok (.aload_n 0, 1) := zfLaw_law_2331.2.2.1
theorem dLaw_law_2335 : decode cLaw_law 2335 = .ok (.iload 4, 2) := zfLaw_law_2331.2.2.2.1
theorem dLaw_law_2337 : decode cLaw_law 2337 = .ok (.iconst 1, 1) := zfLaw_law_2331.2.2.2.2.1
theorem dLaw_law_2338 : decode cLaw_law 2338 = .ok (.iadd, 1) := zfLaw_law_2331.2.2.2.2.2.1
theorem dLaw_law_2339 : decode cLaw_law 2339 = .ok (.iaload, 1) := zfLaw_law_2331.2.2.2.2.2.2.1
theorem dLaw_law_2340 : decode cLaw_law 2340 = .ok (.invokevirtual 276, 3) := zfLaw_law_2331.2.2.2.2.2.2.2.1
theorem dLaw_law_2343 : decode cLaw_law 2343 = .ok (.istore 6, 2) := zfLaw_law_2331.2.2.2.2.2.2.2.2.1
theorem dLaw_law_2345 : decode cLaw_law 2345 = .ok (.aload_n 2, 1) := zfLaw_law_2331.2.2.2.2.2.2.2.2.2.1
theorem dLaw_law_2346 : decode cLaw_law 2346 = .ok (.invokevirtual 179, 3) := zfLaw_law_2331.2.2.2.2.2.2.2.2.2.2.1
theorem dLaw_law_2349 : decode cLaw_law 2349 = .ok (.iload 5, 2) := zfLaw_law_2331.2.2.2.2.2.2.2.2.2.2.2.1
theorem dLaw_law_2351 : decode cLaw_law 2351 = .ok (.if_icmp .eq 5, 3) := zfLaw_law_2331.2.2.2.2.2.2.2.2.2.2.2.2.1
theorem dLaw_law_2354 : decode cLaw_law 2354 = .ok (.iconst 0, 1) := zfLaw_law_2331.2.2.2.2.2.2.2.2.2.2.2.2.2.1
theorem dLaw_law_2355 : decode cLaw_law 2355 = .ok (.ireturn, 1) := zfLaw_law_2331.2.2.2.2.2.2.2.2.2.2.2.2.2.2.1
theorem dLaw_law_2356 : decode cLaw_law 2356 = .ok (.iload 5, 2) := zfLaw_law_2331.2.2.2.2.2.2.2.2.2.2.2.2.2.2.2.1
theorem dLaw_law_2358 : decode cLaw_law 2358 = .ok (.ifCond .ne 16, 3) := zfLaw_law_2331.2.2.2.2.2.2.2.2.2.2.2.2.2.2.2.2.1
theorem dLaw_law_2361 : decode cLaw_law 2361 = .ok (.aload_n 3, 1) := zfLaw_law_2331.2.2.2.2.2.2.2.2.2.2.2.2.2.2.2.2.2.1
theorem dLaw_law_2362 : decode cLaw_law 2362 = .ok (.getfield 13, 3) := zfLaw_law_2331.2.2.2.2.2.2.2.2.2.2.2.2.2.2.2.2.2.2.1
theorem dLaw_law_2365 : decode cLaw_law 2365 = .ok (.iload 6, 2) := zfLaw_law_2331.2.2.2.2.2.2.2.2.2.2.2.2.2.2.2.2.2.2.2.1
theorem dLaw_law_2367 : decode cLaw_law 2367 = .ok (.i2l, 1) := zfLaw_law_2331.2.2.2.2.2.2.2.2.2.2.2.2.2.2.2.2.2.2.2.2.1
theorem dLaw_law_2368 : decode cLaw_law 2368 = .ok (.lcmp, 1) := zfLaw_law_2331.2.2.2.2.2.2.2.2.2.2.2.2.2.2.2.2.2.2.2.2.2.1
theorem dLaw_law_2369 : decode cLaw_law 2369 = .ok (.ifCond .eq 5, 3) := zfLaw_law_2331.2.2.2.2.2.2.2.2.2.2.2.2.2.2.2.2.2.2.2.2.2.2.1
theorem dLaw_law_2372 : decode cLaw_law 2372 = .ok (.iconst 0, 1) := zfLaw_law_2331.2.2.2.2.2.2.2.2.2.2.2.2.2.2.2.2.2.2.2.2.2.2.2.1
theorem dLaw_law_2373 : decode cLaw_law 2373 = .ok (.ireturn, 1) := zfLaw_law_2331.2.2.2.2.2.2.2.2.2.2.2.2.2.2.2.2.2.2.2.2.2.2.2.2.1
theorem dLaw_law_2374 : decode cLaw_law 2374 = .ok (.goto 1080, 3) := zfLaw_law_2331.2.2.2.2.2.2.2.2.2.2.2.2.2.2.2.2.2.2.2.2.2.2.2.2.2.1
theorem dLaw_law_2377 : decode cLaw_law 2377 = .ok (.aload_n 1, 1) := zfLaw_law_2331.2.2.2.2.2.2.2.2.2.2.2.2.2.2.2.2.2.2.2.2.2.2.2.2.2.2.1
theorem dLaw_law_2378 : decode cLaw_law 2378 = .ok (.aload_n 0, 1) := zfLaw_law_2331.2.2.2.2.2.2.2.2.2.2.2.2.2.2.2.2.2.2.2.2.2.2.2.2.2.2.2.1
theorem dLaw_law_2379 : decode cLaw_law 2379 = .ok (.iload 4, 2) := zfLaw_law_2331.2.2.2.2.2.2.2.2.2.2.2.2.2.2.2.2.2.2.2.2.2.2.2.2.2.2.2.2.1
theorem dLaw_law_2381 : decode cLaw_law 2381 = .ok (.iconst 1, 1) := zfLaw_law_2331.2.2.2.2.2.2.2.2.2.2.2.2.2.2.2.2.2.2.2.2.2.2.2.2.2.2.2.2.2.1
theorem dLaw_law_2382 : decode cLaw_law 2382 = .ok (.iadd, 1) := zfLaw_law_2331.2.2.2.2.2.2.2.2.2.2.2.2.2.2.2.2.2.2.2.2.2.2.2.2.2.2.2.2.2.2.1
theorem dLaw_law_2383 : decode cLaw_law 2383 = .ok (.iaload, 1) := zfLaw_law_2331.2.2.2.2.2.2.2.2.2.2.2.2.2.2.2.2.2.2.2.2.2.2.2.2.2.2.2.2.2.2.2.1
theorem zfLaw_law_2384 : decode cLaw_law 2384 = .ok (.aload_n 0, 1) ∧ decode cLaw_law 2385 = .ok (.iload 4, 2) ∧ decode cLaw_law 2387 = .ok (.iconst 2, 1) ∧ decode cLaw_law 2388 = .ok (.iadd, 1) ∧ decode cLaw_law 2389 = .ok (.iaload, 1) ∧ decode cLaw_law 2390 = .ok (.aload_n 3, 1) ∧ decode cLaw_law 2391 = .ok (.invokestatic 277, 3) ∧ decode cLaw_law 2394 = .ok (.istore 5, 2) ∧ decode cLaw_law 2396 = .ok (.aload_n 2, 1) ∧ decode cLaw_law 2397 = .ok (.aload_n 0, 1) ∧ decode cLaw_law 2398 = .ok (.iload 4, 2) ∧ decode cLaw_law 2400 = .ok (.iconst 1, 1) ∧ decode cLaw_law 2401 = .ok (.iadd, 1) ∧ decode cLaw_law 2402 = .ok (.iaload, 1) ∧ decode cLaw_law 2403 = .ok (.aload_n 0, 1) ∧ decode cLaw_law 2404 = .ok (.iload 4, 2) ∧ decode cLaw_law 2406 = .ok (.iconst 2, 1) ∧ decode cLaw_law 2407 = .ok (.iadd, 1) ∧ decode cLaw_law 2408 = .ok (.iaload, 1) ∧ decode cLaw_law 2409 = .ok (.invokevirtual 279, 3) ∧ decode cLaw_law 2412 = .ok (.istore 6, 2) ∧ decode cLaw_law 2414 = .ok (.aload_n 2, 1) ∧ decode cLaw_law 2415 = .ok (.invokevirtual 179, 3) ∧ decode cLaw_law 2418 = .ok (.iload 5, 2) ∧ decode cLaw_law 2420 = .ok (.if_icmp .eq 5, 3) ∧ decode cLaw_law 2423 = .ok (.iconst 0, 1) ∧ decode cLaw_law 2424 = .ok (.ireturn, 1) ∧ decode cLaw_law 2425 = .ok (.iload 5, 2) ∧ decode cLaw_law 2427 = .ok (.ifCond .ne 16, 3) ∧ decode cLaw_law 2430 = .ok (.aload_n 3, 1) ∧ decode cLaw_law 2431 = .ok (.getfield 13, 3) ∧ decode cLaw_law 2434 = .ok (.iload 6, 2) ∧ True := Jvm.Free.DS.facts (code := cLaw_law) 2384 [(.aload_n 0, 1), (.iload 4, 2), (.iconst 2, 1), (.iadd, 1), (.iaload, 1), (.aload_n 3, 1), (.invokestatic 277, 3), (.istore 5, 2), (.aload_n 2, 1), (.aload_n 0, 1), (.iload 4, 2), (.iconst 1, 1), (.iadd, 1), (.iaload, 1), (.aload_n 0, 1), (.iload 4, 2), (.iconst 2, 1), (.iadd, 1), (.iaload, 1), (.invokevirtual 279, 3), (.istore 6, 2), (.aload_n 2, 1), (.invokevirtual 179, 3), (.iload 5, 2), (.if_icmp .eq 5, 3), (.iconst 0, 1), (.ireturn, 1), (.iload 5, 2), (.ifCond .ne 16, 3), (.aload_n 3, 1), (.getfield 13, 3), (.iload 6, 2)] (by decide +kernel) (by decide +kernel)
theorem dLaw_law_2384 : decode cLaw_law 2384 = .ok (.aload_n 0, 1) := zfLaw_law_2384.1
theorem dLaw_law_2385 : decode cLaw_law 2385 = .ok (.iload 4, 2) := zfLaw_law_2384.2.1
theorem dLaw_law_2387 : decode cLaw_law 2387 = .ok (.iconst 2, 1) := zfLaw_law_2384.2.2.1
theorem dLaw_law_2388 : decode cLaw_law 2388 = .ok (.iadd, 1) := zfLaw_law_2384.2.2.2.1
theorem dLaw_law_2389 : decode cLaw_law 2389 = .ok (.iaload, 1) := zfLaw_law_2384.2.2.2.2.1
theorem dLaw_law_2390 : decode cLaw_law 2390 = .ok (.aload_n 3, 1) := zfLaw_law_2384.2.2.2.2.2.1
theorem dLaw_law_2391 : decode cLaw_law 2391 = .ok (.invokestatic 277, 3) := zfLaw_law_2384.2.2.2.2.2.2.1
theorem dLaw_law_2394 : decode cLaw_law 2394 = .ok (.istore 5, 2) := zfLaw_law_2384.2.2.2.2.2.2.2.1
theorem dLaw_law_2396 : decode cLaw_law 2396 = .ok (.aload_n 2, 1) := zfLaw_law_2384.2.2.2.2.2.2.2.2.1
theorem dLaw_law_2397 : decode cLaw_law 2397 = .ok (.aload_n 0, 1) := zfLaw_law_2384.2.2.2.2.2.2.2.2.2.1
theorem dLaw_law_2398 : decode cLaw_law 2398 = .ok (.iload 4, 2) := zfLaw_law_2384.2.2.2.2.2.2.2.2.2.2.1
theorem dLaw_law_2400 : decode cLaw_law 2400 = .ok (.iconst 1, 1) := zfLaw_law_2384.2.2.2.2.2.2.2.2.2.2.2.1
theorem dLaw_law_2401 : decode cLaw_law 2401 = .ok (.iadd, 1) := zfLaw_law_2384.2.2.2.2.2.2.2.2.2.2.2.2.1
theorem dLaw_law_2402 : decode cLaw_law 2402 = .ok (.iaload, 1) := zfLaw_law_2384.2.2.2.2.2.2.2.2.2.2.2.2.2.1
theorem dLaw_law_2403 : decode cLaw_law 2403 = .ok (.aload_n 0, 1) := zfLaw_law_2384.2.2.2.2.2.2.2.2.2.2.2.2.2.2.1
theorem dLaw_law_2404 : decode cLaw_law 2404 = .ok (.iload 4, 2) := zfLaw_law_2384.2.2.2.2.2.2.2.2.2.2.2.2.2.2.2.1
theorem dLaw_law_2406 : decode cLaw_law 2406 = .ok (.iconst 2, 1) := zfLaw_law_2384.2.2.2.2.2.2.2.2.2.2.2.2.2.2.2.2.1
theorem dLaw_law_2407 : decode cLaw_law 2407 = .ok (.iadd, 1) := zfLaw_law_2384.2.2.2.2.2.2.2.2.2.2.2.2.2.2.2.2.2.1
theorem dLaw_law_2408 : decode cLaw_law 2408 = .ok (.iaload, 1) := zfLaw_law_2384.2.2.2.2.2.2.2.2.2.2.2.2.2.2.2.2.2.2.1
theorem dLaw_law_2409 : decode cLaw_law 2409 = .ok (.invokevirtual 279, 3) := zfLaw_law_2384.2.2.2.2.2.2.2.2.2.2.2.2.2.2.2.2.2.2.2.1
theorem dLaw_law_2412 : decode cLaw_law 2412 = .ok (.istore 6, 2) := zfLaw_law_2384.2.2.2.2.2.2.2.2.2.2.2.2.2.2.2.2.2.2.2.2.1
theorem dLaw_law_2414 : decode cLaw_law 2414 = .ok (.aload_n 2, 1) := zfLaw_law_2384.2.2.2.2.2.2.2.2.2.2.2.2.2.2.2.2.2.2.2.2.2.1
theorem dLaw_law_2415 : decode cLaw_law 2415 = .ok (.invokevirtual 179, 3) := zfLaw_law_2384.2.2.2.2.2.2.2.2.2.2.2.2.2.2.2.2.2.2.2.2.2.2.1
theorem dLaw_law_2418 : decode cLaw_law 2418 = .ok (.iload 5, 2) := zfLaw_law_2384.2.2.2.2.2.2.2.2.2.2.2.2.2.2.2.2.2.2.2.2.2.2.2.1
theorem dLaw_law_2420 : decode cLaw_law 2420 = .ok (.if_icmp .eq 5, 3) := zfLaw_law_2384.2.2.2.2.2.2.2.2.2.2.2.2.2.2.2.2.2.2.2.2.2.2.2.2.1
theorem dLaw_law_2423 : decode cLaw_law 2423 = .ok (.iconst 0, 1) := zfLaw_law_2384.2.2.2.2.2.2.2.2.2.2.2.2.2.2.2.2.2.2.2.2.2.2.2.2.2.1
theorem dLaw_law_2424 : decode cLaw_law 2424 = .ok (.ireturn, 1) := zfLaw_law_2384.2.2.2.2.2.2.2.2.2.2.2.2.2.2.2.2.2.2.2.2.2.2.2.2.2.2.1
theorem dLaw_law_2425 : decode cLaw_law 2425 = .ok (.iload 5, 2) := zfLaw_law_2384.2.2.2.2.2.2.2.2.2.2.2.2.2.2.2.2.2.2.2.2.2.2.2.2.2.2.2.1
theorem dLaw_law_2427 : decode cLaw_law 2427 = .ok (.ifCond .ne 16, 3) := zfLaw_law_2384.2.2.2.2.2.2.2.2.2.2.2.2.2.2.2.2.2.2.2.2.2.2.2.2.2.2.2.2.1
theorem dLaw_law_2430 : decode cLaw_law 2430 = .ok (.aload_n 3, 1) := zfLaw_law_2384.2.2.2.2.2.2.2.2.2.2.2.2.2.2.2.2.2.2.2.2.2.2.2.2.2.2.2.2.2.1
theorem dLaw_law_2431 : decode cLaw_law 2431 = .ok (.getfield 13, 3) := zfLaw_law_2384.2.2.2.2.2.2.2.2.2.2.2.2.2.2.2.2.2.2.2.2.2.2.2.2.2.2.2.2.2.2.1
theorem dLaw_law_2434 : decode cLaw_law 2434 = .ok (.iload 6, 2) := zfLaw_law_2384.2.2.2.2.2.2.2.2.2.2.2.2.2.2.2.2.2.2.2.2.2.2.2.2.2.2.2.2.2.2.2.1
theorem zfLaw_law_2436 : decode cLaw_law 2436 = .ok (.i2l, 1) ∧ decode cLaw_law 2437 = .ok (.lcmp, 1) ∧ decode cLaw_law 2438 = .ok (.ifCond .eq 5, 3) ∧ decode cLaw_law 2441 = .ok (.iconst 0, 1) ∧ decode cLaw_law 2442 = .ok (.ireturn, 1) ∧ decode cLaw_law 2443 = .ok (.goto 1011, 3) ∧ decode cLaw_law 2446 = .ok (.aload_n 1, 1) ∧ decode cLaw_law 2447 = .ok (.aload_n 0, 1) ∧ decode cLaw_law 2448 = .ok (.iload 4, 2) ∧ decode cLaw_law 2450 = .ok (.iconst 1, 1) ∧ decode cLaw_law 2451 = .ok (.iadd, 1) ∧ decode cLaw_law 2452 = .ok (.iaload, 1) ∧ decode cLaw_law 2453 = .ok (.aload_n 3, 1) ∧ decode cLaw_law 2454 = .ok (.invokestatic 280, 3) ∧ decode cLaw_law 2457 = .ok (.istore 5, 2) ∧ decode cLaw_law 2459 = .ok (.aload_n 2, 1) ∧ decode cLaw_law 2460 = .ok (.aload_n 0, 1) ∧ decode cLaw_law 2461 = .ok (.iload 4, 2) ∧ decode cLaw_law 2463 = .ok (.iconst 1, 1) ∧ decode cLaw_law 2464 = .ok (.iadd, 1) ∧ decode cLaw_law 2465 = .ok (.iaload, 1) ∧ decode cLaw_law 2466 = .ok (.invokevirtual 282, 3) ∧ decode cLaw_law 2469 = .ok (.istore 6, 2) ∧ decode cLaw_law 2471 = .ok (.aload_n 2, 1) ∧ decode cLaw_law 2472 = .ok (.invokevirtual 179, 3) ∧ decode cLaw_law 2475 = .ok (.iload 5, 2) ∧ decode cLaw_law 2477 = .ok (.if_icmp .eq 5, 3) ∧ decode cLaw_law 2480 = .ok (.iconst 0, 1) ∧ decode cLaw_law 2481 = .ok (.ireturn, 1) ∧ decode cLaw_law 2482 = .ok (.iload 5, 2) ∧ decode cLaw_law 2484 = .ok (.ifCond .ne 16, 3) ∧ decode cLaw_law 2487 = .ok (.aload_n 3, 1) ∧ True := Jvm.Free.DS.facts (code := cLaw_law) 2436 [(.i2l, 1), (.lcmp, 1), (.ifCond .eq 5, 3), (.iconst 0, 1), (.ireturn, 1), (.goto 1011, 3), (.aload_n 1, 1), (.aload_n 0, 1), (.iload 4, 2), (.iconst 1, 1), (.iadd, 1), (.iaload, 1), (.aload_n 3, 1), (.invokestatic 280, 3), (.istore 5, 2), (.aload_n 2, 1), (.aload_n 0, 1), (.iload 4, 2), (.iconst 1, 1), (.iadd, 1), (.iaload, 1), (.invokevirtual 282, 3), (.istore 6, 2), (.aload_n 2, 1), (.invokevirtual 179, 3), (.iload 5, 2), (.if_icmp .eq 5, 3), (.iconst 0, 1), (.ireturn, 1), (.iload 5, 2), (.ifCond .ne 16, 3), (.aload_n 3, 1)] (by decide +kernel) (by decide +kernel)
theorem dLaw_law_2436 : decode cLaw_law 2436 = .ok (.i2l, 1) := zfLaw_law_2436.1
theorem dLaw_law_2437 : decode cLaw_law 2437 = .ok (.lcmp, 1) := zfLaw_law_2436.2.1
theorem dLaw_law_2438 : decode cLaw_law 2438 = .ok (.ifCond .eq 5, 3) := zfLaw_law_2436.2.2.1
theorem dLaw_law_2441 : decode cLaw_law 2441 = .ok (.iconst 0, 1) := zfLaw_law_2436.2.2.2.1
theorem dLaw_law_2442 : decode cLaw_law 2442 = .ok (.ireturn, 1) := zfLaw_law_2436.2.2.2.2.1
theorem dLaw_law_2443 : decode cLaw_law 2443 = .ok (.goto 1011, 3) := zfLaw_law_2436.2.2.2.2.2.1
theorem dLaw_law_2446 : decode cLaw_law 2446 = .ok (.aload_n 1, 1) := zfLaw_law_2436.2.2.2.2.2.2.1
theorem dLaw_law_2447 : decode cLaw_law 2447 = .ok (.aload_n 0, 1) := zfLaw_law_2436.2.2.2.2.2.2.2.1
theorem dLaw_law_2448 : decode cLaw_law 2448 = .ok (.iload 4, 2) := zfLaw_law_2436.2.2.2.2.2.2.2.2.1
theorem dLaw_law_2450 : decode cLaw_law 2450 = .ok (.iconst 1, 1) := zfLaw_law_2436.2.2.2.2.2.2.2.2.2.1
theorem dLaw_law_2451 : decode cLaw_law 2451 = .ok (.iadd, 1) := zfLaw_law_2436.2.2.2.2.2.2.2.2.2.2.1
theorem dLaw_law_2452 : decode cLaw_law 2452 = .ok (.iaload, 1) := zfLaw_law_2436.2.2.2.2.2.2.2.2.2.2.2.1
theorem dLaw_law_2453 : decode cLaw_law 2453 = .ok (.aload_n 3, 1) := zfLaw_law_2436.2.2.2.2.2.2.2.2.2.2.2.2.1
theorem dLaw_law_2454 : decode cLaw_law 2454 = .ok (.invokestatic 280, 3) := zfLaw_law_2436.2.2.2.2.2.2.2.2.2.2.2.2.2.1
theorem dLaw_law_2457 : decode cLaw_law 2457 = .ok (.istore 5, 2) := zfLaw_law_2436.2.2.2.2.2.2.2.2.2.2.2.2.2.2.1
theorem dLaw_law_2459 : decode cLaw_law 2459 = .ok (.aload_n 2, 1) := zfLaw_law_2436.2.2.2.2.2.2.2.2.2.2.2.2.2.2.2.1
theorem dLaw_law_2460 : decode cLaw_law 2460 = .ok (.aload_n 0, 1) := zfLaw_law_2436.2.2.2.2.2.2.2.2.2.2.2.2.2.2.2.2.1
theorem dLaw_law_2461 : decode cLaw_law 2461 = .ok (.iload 4, 2) := zfLaw_law_2436.2.2.2.2.2.2.2.2.2.2.2.2.2.2.2.2.2.1
theorem dLaw_law_2463 : decode cLaw_law 2463 = .ok (.iconst 1, 1) := zfLaw_law_2436.2.2.2.2.2.2.2.2.2.2.2.2.2.2.2.2.2.2.1
theorem dLaw_law_2464 : decode cLaw_law 2464 = .ok (.iadd, 1) := zfLaw_law_2436.2.2.2.2.2.2.2.2.2.2.2.2.2.2.2.2.2.2.2.1
theorem dLaw_law_2465 : decode cLaw_law 2465 = .ok (.iaload, 1) := zfLaw_law_2436.2.2.2.2.2.2.2.2.2.2.2.2.2.2.2.2.2.2.2.2.1
theorem dLaw_law_2466 : decode cLaw_law 2466 = .ok (.invokevirtual 282, 3) := zfLaw_law_2436.2.2.2.2.2.2.2.2.2.2.2.2.2.2.2.2.2.2.2.2.2.1
theorem dLaw_law_2469 : decode cLaw_law 2469 = .ok (.istore 6, 2) := zfLaw_law_2436.2.2.2.2.2.2.2.2.2.2.2.2.2.2.2.2.2.2.2.2.2.2.1
theorem dLaw_law_2471 : decode cLaw_law 2471 = .ok (.aload_n 2, 1) := zfLaw_law_2436.2.2.2.2.2.2.2.2.2.2.2.2.2.2.2.2.2.2.2.2.2.2.2.1
theorem dLaw_law_2472 : decode cLaw_law 2472 = .ok (.invokevirtual 179, 3) := zfLaw_law_2436.2.2.2.2.2.2.2.2.2.2.2.2.2.2.2.2.2.2.2.2.2.2.2.2.1
theorem dLaw_law_2475 : decode cLaw_law 2475 = .ok (.iload 5, 2) := zfLaw_law_2436.2.2.2.2.2.2.2.2.2.2.2.2.2.2.2.2.2.2.2.2.2.2.2.2.2.1
theorem dLaw_law_2477 : decode cLaw_law 2477 = .ok (.if_icmp .eq 5, 3) := zfLaw_law_2436.2.2.2.2.2.2.2.2.2.2.2.2.2.2.2.2.2.2.2.2.2.2.2.2.2.2.1
theorem dLaw_law_2480 : decode cLaw_law 2480 = .ok (.iconst 0, 1) := zfLaw_law_2436.2.2.2.2.2.2.2.2.2.2.2.2.2.2.2.2.2.2.2.2.2.2.2.2.2.2.2.1
theorem dLaw_law_2481 : decode cLaw_law 2481 = .ok (.ireturn, 1) := zfLaw_law_2436.2.2.2.2.2.2.2.2.2.2.2.2.2.2.2.2.2.2.2.2.2.2.2.2.2.2.2.2.1
theorem dLaw_law_2482 : decode cLaw_law 2482 = .ok (.iload 5, 2) := zfLaw_law_2436.2.2.2.2.2.2.2.2.2.2.2.2.2.2.2.2.2.2.2.2.2.2.2.2.2.2.2.2.2.1
theorem dLaw_law_2484 : decode cLaw_law 2484 = .ok (.ifCond .ne 16, 3) := zfLaw_law_2436.2.2.2.2.2.2.2.2.2.2.2.2.2.2.2.2.2.2.2.2.2.2.2.2.2.2.2.2.2.2.1
theorem dLaw_law_2487 : decode cLaw_law 2487 = .ok (.aload_n 3, 1) := zfLaw_law_2436.2.2.2.2.2.2.2.2.2.2.2.2.2.2.2.2.2.2.2.2.2.2.2.2.2.2.2.2.2.2.2.1
theorem zfLaw_law_2488 : decode cLaw_law 2488 = .ok (.getfield 13, 3) ∧ decode cLaw_law 2491 = .ok (.iload 6, 2) ∧ decode cLaw_law 2493 = .ok (.i2l, 1) ∧ decode cLaw_law 2494 = .ok (.lcmp, 1) ∧ decode cLaw_law 2495 = .ok (.ifCond .eq 5, 3) ∧ decode cLaw_law 2498 = .ok (.iconst 0, 1) ∧ decode cLaw_law 2499 = .ok (.ireturn, 1) ∧ decode cLaw_law 2500 = .ok (.goto 954, 3) ∧ decode cLaw_law 2503 = .ok (.aload_n 1, 1) ∧ decode cLaw_law 2504 = .ok (.aload_n 0, 1) ∧ decode cLaw_law 2505 = .ok (.iload 4, 2) ∧ decode cLaw_law 2507 = .ok (.iconst 1, 1) ∧ decode cLaw_law 2508 = .ok (.iadd, 1) ∧ decode cLaw_law 2509 = .ok (.iaload, 1) ∧ decode cLaw_law 2510 = .ok (.aload_n 0, 1) ∧ decode cLaw_law 2511 = .ok (.iload 4, 2) ∧ decode cLaw_law 2513 = .ok (.iconst 2, 1) ∧ decode cLaw_law 2514 = .ok (.iadd, 1) ∧ decode cLaw_law 2515 = .ok (.iaload, 1) ∧ decode cLaw_law 2516 = .ok (.aload_n 3, 1) ∧ decode cLaw_law 2517 = .ok (.invokestatic 283, 3) ∧ decode cLaw_law 2520 = .ok (.istore 5, 2) ∧ decode cLaw_law 2522 = .ok (.aload_n 2, 1) ∧ decode cLaw_law 2523 = .ok (.aload_n 0, 1) ∧ decode cLaw_law 2524 = .ok (.iload 4, 2) ∧ decode cLaw_law 2526 = .ok (.iconst 1, 1) ∧ decode cLaw_law 2527 = .ok (.iadd, 1) ∧ decode cLaw_law 2528 = .ok (.iaload, 1) ∧ decode cLaw_law 2529 = .ok (.aload_n 0, 1) ∧ decode cLaw_law 2530 = .ok (.iload 4, 2) ∧ decode cLaw_law 2532 = .ok (.iconst 2, 1) ∧ decode cLaw_law 2533 = .ok (.iadd, 1) ∧ True := Jvm.Free.DS.facts (code := cLaw_law) 2488 [(.getfield 13, 3), (.iload 6, 2), (.i2l, 1), (.lcmp, 1), (.ifCond .eq 5, 3), (.iconst 0, 1), (.ireturn, 1), (.goto 954, 3), (.aload_n 1, 1), (.aload_n 0, 1), (.iload 4, 2), (.iconst 1, 1), (.iadd, 1), (.iaload, 1), (.aload_n 0, 1), (.iload 4, 2), (.iconst 2, 1), (.iadd, 1), (.iaload, 1), (.aload_n 3, 1), (.invokestatic 283, 3), (.istore 5, 2), (.aload_n 2, 1), (.aload_n 0, 1), (.iload 4, 2), (.iconst 1, 1), (.iadd, 1), (.iaload, 1), (.aload_n 0, 1), (.iload 4, 2), (.iconst 2, 1), (.iadd, 1)] (by decide +kernel) (by decide +kernel)
theorem dLaw_law_2488 : decode cLaw_law 2488 = .ok (.getfield 13, 3) := zfLaw_law_2488.1
theorem dLaw_law_2491 : decode cLaw_law 2491 = .ok (.iload 6, 2) := zfLaw_law_2488.2.1
theorem dLaw_law_2493 : decode cLaw_law 2493 = .ok (.i2l, 1) := zfLaw_law_2488.2.2.1
theorem dLaw_law_2494 : decode cLaw_law 2494 = .ok (.lcmp, 1) := zfLaw_law_2488.2.2.2.1
theorem dLaw_law_2495 : decode cLaw_law 2495 = .ok (.ifCond .eq 5, 3) := zfLaw_law_2488.2.2.2.2.1
theorem dLaw_law_2498 : decode cLaw_law 2498 = .ok (.iconst 0, 1) := zfLaw_law_2488.2.2.2.2.2.1
theorem dLaw_law_2499 : decode cLaw_law 2499 = .ok (.ireturn, 1) := zfLaw_law_2488.2.2.2.2.2.2.1
theorem dLaw_law_2500 : decode cLaw_law 2500 = .ok (.goto 954, 3) := zfLaw_law_2488.2.2.2.2.2.2.2.1
theorem dLaw_law_2503 : decode cLaw_law 2503 = .ok (.aload_n 1, 1) := zfLaw_law_2488.2.2.2.2.2.2.2.2.1
theorem dLaw_law_2504 : decode cLaw_law 2504 = .ok (.aload_n 0, 1) := zfLaw_law_2488.2.2.2.2.2.2.2.2.2.1
theorem dLaw_law_2505 : decode cLaw_law 2505 = .ok (.iload 4, 2) := zfLaw_law_2488.2.2.2.2.2.2.2.2.2.2.1
theorem dLaw_law_2507 : decode cLaw_law 2507 = .ok (.iconst 1, 1) := zfLaw_law_2488.2.2.2.2.2.2.2.2.2.2.2.1
theorem dLaw_law_2508 : decode cLaw_law 2508 = .ok (.iadd, 1) := zfLaw_law_2488.2.2.2.2.2.2.2.2.2.2.2.2.1
theorem dLaw_law_2509 : decode cLaw_law 2509 = .ok (.iaload, 1) := zfLaw_law_2488.2.2.2.2.2.2.2.2.2.2.2.2.2.1
theorem dLaw_law_2510 : decode cLaw_law 2510 = .ok (.aload_n 0, 1) := zfLaw_law_2488.2.2.2.2.2.2.2.2.2.2.2.2.2.2.1
theorem dLaw_law_2511 : decode cLaw_law 2511 = .ok (.iload 4, 2) := zfLaw_law_2488.2.2.2.2.2.2.2.2.2.2.2.2.2.2.2.1
theorem dLaw_law_2513 : decode cLaw_law 2513 = .ok (.iconst 2, 1) := zfLaw_law_2488.2.2.2.2.2.2.2.2.2.2.2.2.2.2.2.2.1
theorem dLaw_law_2514 : decode cLaw_law 2514 = .ok (.iadd, 1) := zfLaw_law_2488.2.2.2.2.2.2.2.2.2.2.2.2.2.2.2.2.2.1
theorem dLaw_law_2515 : decode cLaw_law 2515 = .ok (.iaload, 1) := zfLaw_law_2488.2.2.2.2.2.2.2.2.2.2.2.2.2.2.2.2.2.2.1
theorem dLaw_law_2516 : decode cLaw_law 2516 = .ok (.aload_n 3, 1) := zfLaw_law_2488.2.2.2.2.2.2.2.2.2.2.2.2.2.2.2.2.2.2.2.1
theorem dLaw_law_2517 : decode cLaw_law 2517 = .ok (.invokestatic 283, 3) := zfLaw_law_2488.2.2.2.2.2.2.2.2.2.2.2.2.2.2.2.2.2.2.2.2.1
theorem dLaw_law_2520 : decode cLaw_law 2520 = .ok (.istore 5, 2) := zfLaw_law_2488.2.2.2.2.2.2.2.2.2.2.2.2.2.2.2.2.2.2.2.2.2.1
theorem dLaw_law_2522 : decode cLaw_law 2522 = .ok (.aload_n 2, 1) := zfLaw_law_2488.2.2.2.2.2.2.2.2.2.2.2.2.2.2.2.2.2.2.2.2.2.2.1
theorem dLaw_law_2523 : decode cLaw_law 2523 = .ok (.aload_n 0, 1) := zfLaw_law_2488.2.2.2.2.2.2.2.2.2.2.2.2.2.2.2.2.2.2.2.2.2.2.2.1
theorem dLaw_law_2524 : decode cLaw_law 2524 = .ok (.iload 4, 2) := zfLaw_law_2488.2.2.2.2.2.2.2.2.2.2.2.2.2.2.2.2.2.2.2.2.2.2.2.2.1
theorem dLaw_law_2526 : decode cLaw_law 2526 = .ok (.iconst 1, 1) := zfLaw_law_2488.2.2.2.2.2.2.2.2.2.2.2.2.2.2.2.2.2.2.2.2.2.2.2.2.2.1
theorem dLaw_law_2527 : decode cLaw_law 2527 = .ok (.iadd, 1) := zfLaw_law_2488.2.2.2.2.2.2.2.2.2.2.2.2.2.2.2.2.2.2.2.2.2.2.2.2.2.2.1
theorem dLaw_law_2528 : decode cLaw_law 2528 = .ok (.iaload, 1) := zfLaw_law_2488.2.2.2.2.2.2.2.2.2.2.2.2.2.2.2.2.2.2.2.2.2.2.2.2.2.2.2.1
theorem dLaw_law_2529 : decode cLaw_law 2529 = .ok (.aload_n 0, 1) := zfLaw_law_2488.2.2.2.2.2.2.2.2.2.2.2.2.2.2.2.2.2.2.2.2.2.2.2.2.2.2.2.2.1
theorem dLaw_law_2530 : decode cLaw_law 2530 = .ok (.iload 4, 2) := zfLaw_law_2488.2.2.2.2.2.2.2.2.2.2.2.2.2.2.2.2.2.2.2.2.2.2.2.2.2.2.2.2.2.1
theorem dLaw_law_2532 : decode cLaw_law 2532 = .ok (.iconst 2, 1) := zfLaw_law_2488.2.2.2.2.2.2.2.2.2.2.2.2.2.2.2.2.2.2.2.2.2.2.2.2.2.2.2.2.2.2.1
theorem dLaw_law_2533 : decode cLaw_law 2533 = .ok (.iadd, 1) := zfLaw_law_2488.2.2.2.2.2.2.2.2.2.2.2.2.2.2.2.2.2.2.2.2.2.2.2.2.2.2.2.2.2.2.2.1
theorem zfLaw_law_2534 : decode cLaw_law 2534 = .ok (.iaload, 1) ∧ decode cLaw_law 2535 = .ok (.invokevirtual 285, 3) ∧ decode cLaw_law 2538 = .ok (.istore 6, 2) ∧ decode cLaw_law 2540 = .ok (.aload_n 2, 1) ∧ decode cLaw_law 2541 = .ok (.invokevirtual 179, 3) ∧ decode cLaw_law 2544 = .ok (.iload 5, 2) ∧ decode cLaw_law 2546 = .ok (.if_icmp .eq 5, 3) ∧ decode cLaw_law 2549 = .ok (.iconst 0, 1) ∧ decode cLaw_law 2550 = .ok (.ireturn, 1) ∧ decode cLaw_law 2551 = .ok (.iload 5, 2) ∧ decode cLaw_law 2553 = .ok (.ifCond .ne 16, 3) ∧ decode cLaw_law 2556 = .ok (.aload_n 3, 1) ∧ decode cLaw_law 2557 = .ok (.getfield 13, 3) ∧ decode cLaw_law 2560 = .ok (.iload 6, 2) ∧ decode cLaw_law 2562 = .ok (.i2l, 1) ∧ decode cLaw_law 2563 = .ok (.lcmp, 1) ∧ decode cLaw_law 2564 = .ok (.ifCond .eq 5, 3) ∧ decode cLaw_law 2567 = .ok (.iconst 0, 1) ∧ decode cLaw_law 2568 = .ok (.ireturn, 1) ∧ decode cLaw_law 2569 = .ok (.goto 885, 3) ∧ decode cLaw_law 2572 = .ok (.aload_n 1, 1) ∧ decode cLaw_law 2573 = .ok (.aload_n 0, 1) ∧ decode cLaw_law 2574 = .ok (.iload 4, 2) ∧ decode cLaw_law 2576 = .ok (.iconst 1, 1) ∧ decode cLaw_law 2577 = .ok (.iadd, 1) ∧ decode cLaw_law 2578 = .ok (.iaload, 1) ∧ decode cLaw_law 2579 = .ok (.aload_n 0, 1) ∧ decode cLaw_law 2580 = .ok (.iload 4, 2) ∧ decode cLaw_law 2582 = .ok (.iconst 2, 1) ∧ decode cLaw_law 2583 = .ok (.iadd, 1) ∧ decode cLaw_law 2584 = .ok (.iaload, 1) ∧ decode cLaw_law 2585 = .ok (.aload_n 3, 1) ∧ True := Jvm.Free.DS.facts (code := cLaw_law) 2534 [(.iaload, 1), (.invokevirtual 285, 3), (.istore 6, 2), (.aload_n 2, 1), (.invokevirtual 179, 3), (.iload 5, 2), (.if_icmp .eq 5, 3), (.iconst 0, 1), (.ireturn, 1), (.iload 5, 2), (.ifCond .ne 16, 3), (.aload_n 3, 1), (.getfield 13, 3), (.iload 6, 2), (.i2l, 1), (.lcmp, 1), (.ifCond .eq 5, 3), (.iconst 0, 1), (.ireturn, 1), (.goto 885, 3), (.aload_n 1, 1), (.aload_n 0, 1), (.iload 4, 2), (.iconst 1, 1), (.iadd, 1), (.iaload, 1), (.aload_n 0, 1), (.iload 4, 2), (.iconst 2, 1), (.iadd, 1), (.iaload, 1), (.aload_n 3, 1)] (by decide +kernel) (by decide +kernel)
theorem dLaw_law_2534 : decode cLaw_law 2534 = .ok (.iaload, 1) := zfLaw_law_2534.1
theorem dLaw_law_2535 : decode cLaw_law 2535 = .ok (.invokevirtual 285, 3) := zfLaw_law_2534.2.1
theorem dLaw_law_2538 : decode cLaw_law 2538 = .ok (.istore 6, 2) := zfLaw_law_2534.2.2.1
theorem dLaw_law_2540 : decode cLaw_law 2540 = .ok (.aload_n 2, 1) := zfLaw_law_2534.2.2.2.1
theorem dLaw_law_2541 : decode cLaw_law 2541 = .ok (.invokevirtual 179, 3) := zfLaw_law_2534.2.2.2.2.1
theorem dLaw_law_2544 : decode cLaw_law 2544 = .ok (.iload 5, 2) := zfLaw_law_2534.2.2.2.2.2.1
theorem dLaw_law_2546 : decode cLaw_law 2546 = .ok (.if_icmp .eq 5, 3) := zfLaw_law_2534.2.2.2.2.2.2.1
theorem dLaw_law_2549 : decode cLaw_law 2549 = .ok (.iconst 0, 1) := zfLaw_law_2534.2.2.2.2.2.2.2.1
theorem dLaw_law_2550 : decode cLaw_law 2550 = .ok (.ireturn, 1) := zfLaw_law_2534.2.2.2.2.2.2.2.2.1
theorem dLaw_law_2551 : decode cLaw_law 2551 = .ok (.iload 5, 2) := zfLaw_law_2534.2.2.2.2.2.2.2.2.2.1
theorem dLaw_law_2553 : decode cLaw_law 2553 = .ok (.ifCond .ne 16, 3) := zfLaw_law_2534.2.2.2.2.2.2.2.2.2.2.1
theorem dLaw_law_2556 : decode cLaw_law 2556 = .ok (.aload_n 3, 1) := zfLaw_law_2534.2.2.2.2.2.2.2.2.2.2.2.1
theorem dLaw_law_2557 : decode cLaw_law 2557 = .ok (.getfield 13, 3) := zfLaw_law_2534.2.2.2.2.2.2.2.2.2.2.2.2.1
theorem dLaw_law_2560 : decode cLaw_law 2560 = .ok (.iload 6, 2) := zfLaw_law_2534.2.2.2.2.2.2.2.2.2.2.2.2.2.1
theorem dLaw_law_2562 : decode cLaw_law 2562 = .ok (.i2l, 1) := zfLaw_law_2534.2.2.2.2.2.2.2.2.2.2.2.2.2.2.1
theorem dLaw_law_2563 : decode cLaw_law 2563 = .ok (.lcmp, 1) := zfLaw_law_2534.2.2.2.2.2.2.2.2.2.2.2.2.2.2.2.1
theorem dLaw_law_2564 : decode cLaw_law 2564 = .ok (.ifCond .eq 5, 3) := zfLaw_law_2534.2.2.2.2.2.2.2.2.2.2.2.2.2.2.2.2.1
theorem dLaw_law_2567 : decode cLaw_law 2567 = .ok (.iconst 0, 1) := zfLaw_law_2534.2.2.2.2.2.2.2.2.2.2.2.2.2.2.2.2.2.1
theorem dLaw_law_2568 : decode cLaw_law 2568 = .ok (.ireturn, 1) := zfLaw_law_2534.2.2.2.2.2.2.2.2.2.2.2.2.2.2.2.2.2.2.1
theorem dLaw_law_2569 : decode cLaw_law 2569 = .ok (.goto 885, 3) := zfLaw_law_2534.2.2.2.2.2.2.2.2.2.2.2.2.2.2.2.2.2.2.2.1
theorem dLaw_law_2572 : decode cLaw_law 2572 = .ok (.aload_n 1, 1) := zfLaw_law_2534.2.2.2.2.2.2.2.2.2.2.2.2.2.2.2.2.2.2.2.2.1
theorem dLaw_law_2573 : decode cLaw_law 2573 = .ok (.aload_n 0, 1) := zfLaw_law_2534.2.2.2.2.2.2.2.2.2.2.2.2.2.2.2.2.2.2.2.2.2.1
theorem dLaw_law_2574 : decode cLaw_law 2574 = .ok (.iload 4, 2) := zfLaw_law_2534.2.2.2.2.2.2.2.2.2.2.2.2.2.2.2.2.2.2.2.2.2.2.1
theorem dLaw_law_2576 : decode cLaw_law 2576 = .ok (.iconst 1, 1) := zfLaw_law_2534.2.2.2.2.2.2.2.2.2.2.2.2.2.2.2.2.2.2.2.2.2.2.2.1
theorem dLaw_law_2577 : decode cLaw_law 2577 = .ok (.iadd, 1) := zfLaw_law_2534.2.2.2.2.2.2.2.2.2.2.2.2.2.2.2.2.2.2.2.2.2.2.2.2.1
theorem dLaw_law_2578 : decode cLaw_law 2578 = .ok (.iaload, 1) := zfLaw_law_2534.2.2.2.2.2.2.2.2.2.2.2.2.2.2.2.2.2.2.2.2.2.2.2.2.2.1
theorem dLaw_law_2579 : decode cLaw_law 2579 = .ok (.aload_n 0, 1) := zfLaw_law_2534.2.2.2.2.2.2.2.2.2.2.2.2.2.2.2.2.2.2.2.2.2.2.2.2.2.2.1
theorem dLaw_law_2580 : decode cLaw_law 2580 = .ok (.iload 4, 2) := zfLaw_law_2534.2.2.2.2.2.2.2.2.2.2.2.2.2.2.2.2.2.2.2.2.2.2.2.2.2.2.2.1
theorem dLaw_law_2582 : decode cLaw_law 2582 = .ok (.iconst 2, 1) := zfLaw_law_2534.2.2.2.2.2.2.2.2.2.2.2.2.2.2.2.2.2.2.2.2.2.2.2.2.2.2.2.2.1
theorem dLaw_law_2583 : decode cLaw_law 2583 = .ok (.iadd, 1) := zfLaw_law_2534.2.2.2.2.2.2.2.2.2.2.2.2.2.2.2.2.2.2.2.2.2.2.2.2.2.2.2.2.2.1
theorem dLaw_law_2584 : decode cLaw_law 2584 = .ok (.iaload, 1) := zfLaw_law_2534.2.2.2.2.2.2.2.2.2.2.2.2.2.2.2.2.2.2.2.2.2.2.2.2.2.2.2.2.2.2.1
theorem dLaw_law_2585 : decode cLaw_law 2585 = .ok (.aload_n 3, 1) := zfLaw_law_2534.2.2.2.2.2.2.2.2.2.2.2.2.2.2.2.2.2.2.2.2.2.2.2.2.2.2.2.2.2.2.2.1
theorem zfLaw_law_2586 : decode cLaw_law 2586 = .ok (.invokestatic 286, 3) ∧ decode cLaw_law 2589 = .ok (.istore 5, 2) ∧ decode cLaw_law 2591 = .ok (.aload_n 2, 1) ∧ decode cLaw_law 2592 = .ok (.aload_n 0, 1) ∧ decode cLaw_law 2593 = .ok (.iload 4, 2) ∧ decode cLaw_law 2595 = .ok (.iconst 1, 1) ∧ decode cLaw_law 2596 = .ok (.iadd, 1) ∧ decode cLaw_law 2597 = .ok (.iaload, 1) ∧ decode cLaw_law 2598 = .ok (.aload_n 0, 1) ∧ decode cLaw_law 2599 = .ok (.iload 4, 2) ∧ decode cLaw_law 2601 = .ok (.iconst 2, 1) ∧ decode cLaw_law 2602 = .ok (.iadd, 1) ∧ decode cLaw_law 2603 = .ok (.iaload, 1) ∧ decode cLaw_law 2604 = .ok (.invokevirtual 288, 3) ∧ decode cLaw_law 2607 = .ok (.istore 6, 2) ∧ decode cLaw_law 2609 = .ok (.aload_n 2, 1) ∧ decode cLaw_law 2610 = .ok (.invokevirtual 179, 3) ∧ decode cLaw_law 2613 = .ok (.iload 5, 2) ∧ decode cLaw_law 2615 = .ok (.if_icmp .eq 5, 3) ∧ decode cLaw_law 2618 = .ok (.iconst 0, 1) ∧ decode cLaw_law 2619 = .ok (.ireturn, 1) ∧ decode cLaw_law 2620 = .ok (.iload 5, 2) ∧ decode cLaw_law 2622 = .ok (.ifCond .ne 16, 3) ∧ decode cLaw_law 2625 = .ok (.aload_n 3, 1) ∧ decode cLaw_law 2626 = .ok (.getfield 13, 3) ∧ decode cLaw_law 2629 = .ok (.iload 6, 2) ∧ decode cLaw_law 2631 = .ok (.i2l, 1) ∧ decode cLaw_law 2632 = .ok (.lcmp, 1) ∧ decode cLaw_law 2633 = .ok (.ifCond .eq 5, 3) ∧ decode cLaw_law 2636 = .ok (.iconst 0, 1) ∧ decode cLaw_law 2637 = .ok (.ireturn, 1) ∧ decode cLaw_law 2638 = .ok (.goto 816, 3) ∧ True := Jvm.Free.DS.facts (code := cLaw_law) 2586 [(.invokestatic 286, 3), (.istore 5, 2), (.aload_n 2, 1), (.aload_n 0, 1), (.iload 4, 2), (.iconst 1, 1), (.iadd, 1), (.iaload, 1), (.aload_n 0, 1), (.iload 4, 2), (.iconst 2, 1), (.iadd, 1), (.iaload, 1), (.invokevirtual 288, 3), (.istore 6, 2), (.aload_n 2, 1), (.invokevirtual 179, 3), (.iload 5, 2), (.if_icmp .eq 5, 3), (.iconst 0, 1), (.ireturn, 1), (.iload 5, 2), (.ifCond .ne 16, 3), (.aload_n 3, 1), (.getfield 13, 3), (.iload 6, 2), (.i2l, 1), (.lcmp, 1), (.ifCond .eq 5, 3), (.iconst 0, 1), (.ireturn, 1), (.goto 816, 3)] (by decide +kernel) (by decide +kernel)
theorem dLaw_law_2586 : decode cLaw_law 2586 = .ok (.invokestatic 286, 3) := zfLaw_law_2586.1
theorem dLaw_law_2589 : decode cLaw_law 2589 = .ok (.istore 5, 2) := zfLaw_law_2586.2.1
theorem dLaw_law_2591 : decode cLaw_law 2591 = .ok (.aload_n 2, 1) := zfLaw_law_2586.2.2.1
theorem dLaw_law_2592 : decode cLaw_law 2592 = .ok (.aload_n 0, 1) := zfLaw_law_2586.2.2.2.1
theorem dLaw_law_2593 : decode cLaw_law 2593 = .ok (.iload 4, 2) := zfLaw_law_2586.2.2.2.2.1
theorem dLaw_law_2595 : decode cLaw_law 2595 = .ok (.iconst 1, 1) := zfLaw_law_2586.2.2.2.2.2.1
theorem dLaw_law_2596 : decode cLaw_law 2596 = .ok (.iadd, 1) := zfLaw_law_2586.2.2.2.2.2.2.1
theorem dLaw_law_2597 : decode cLaw_law 2597 = .ok (.iaload, 1) := zfLaw_law_2586.2.2.2.2.2.2.2.1
theorem dLaw_law_2598 : decode cLaw_law 2598 = .ok (.aload_n 0, 1) := zfLaw_law_2586.2.2.2.2.2.2.2.2.1
theorem dLaw_law_2599 : decode cLaw_law 2599 = .ok (.iload 4, 2) := zfLaw_law_2586.2.2.2.2.2.2.2.2.2.1
theorem dLaw_law_2601 : decode cLaw_law 2601 = .ok (.iconst 2, 1) := zfLaw_law_2586.2.2.2.2.2.2.2.2.2.2.1
theorem dLaw_law_2602 : decode cLaw_law 2602 = .ok (.iadd, 1) := zfLaw_law_2586.2.2.2.2.2.2.2.2.2.2.2.1
theorem dLaw_law_2603 : decode cLaw_law 2603 = .ok (.iaload, 1) := zfLaw_law_2586.2.2.2.2.2.2.2.2.2.2.2.2.1
theorem dLaw_law_2604 : decode cLaw_law 2604 = .ok (.invokevirtual 288, 3) := zfLaw_law_2586.2.2.2.2.2.2.2.2.2.2.2.2.2.1
theorem dLaw_law_2607 : decode cLaw_law 2607 = .ok (.istore 6, 2) := zfLaw_law_2586.2.2.2.2.2.2.2.2.2.2.2.2.2.2.1
theorem dLaw_law_2609 : decode cLaw_law 2609 = .ok (.aload_n 2, 1) := zfLaw_law_2586.2.2.2.2.2.2.2.2.2.2.2.2.2.2.2.1
theorem dLaw_law_2610 : decode cLaw_law 2610 = .ok (.invokevirtual 179, 3) := zfLaw_law_2586.2.2.2.2.2.2.2.2.2.2.2.2.2.2.2.2.1
theorem dLaw_law_2613 : decode cLaw_law 2613 = .ok (.iload 5, 2) := zfLaw_law_2586.2.2.2.2.2.2.2.2.2.2.2.2.2.2.2.2.2.1
theorem dLaw_law_2615 : decode cLaw_law 2615 = .ok (.if_icmp .eq 5, 3) := zfLaw_law_2586.2.2.2.2.2.2.2.2.2.2.2.2.2.2.2.2.2.2.1
theorem dLaw_law_2618 : decode cLaw_law 2618 = .ok (.iconst 0, 1) := zfLaw_law_2586.2.2.2.2.2.2.2.2.2.2.2.2.2.2.2.2.2.2.2.1
theorem dLaw_law_2619 : decode cLaw_law 2619 = .ok (.ireturn, 1) := zfLaw_law_2586.2.2.2.2.2.2.2.2.2.2.2.2.2.2.2.2.2.2.2.2.1
theorem dLaw_law_2620 : decode cLaw_law 2620 = .ok (.iload 5, 2) := zfLaw_law_2586.2.2.2.2.2.2.2.2.2.2.2.2.2.2.2.2.2.2.2.2.2.1
theorem dLaw_law_2622 : decode cLaw_law 2622 = .ok (.ifCond .ne 16, 3) := zfLaw_law_2586.2.2.2.2.2.2.2.2.2.2.2.2.2.2.2.2.2.2.2.2.2.2.1
theorem dLaw_law_2625 : decode cLaw_law 2625 = .ok (.aload_n 3, 1) := zfLaw_law_2586.2.2.2.2.2.2.2.2.2.2.2.2.2.2.2.2.2.2.2.2.2.2.2.1
theorem dLaw_law_2626 : decode cLaw_law 2626 = .ok (.getfield 13, 3) := zfLaw_law_2586.2.2.2.2.2.2.2.2.2.2.2.2.2.2.2.2.2.2.2.2.2.2.2.2.1
theorem dLaw_law_2629 : decode cLaw_law 2629 = .ok (.iload 6, 2) := zfLaw_law_2586.2.2.2.2.2.2.2.2.2.2.2.2.2.2.2.2.2.2.2.2.2.2.2.2.2.1
theorem dLaw_law_2631 : decode cLaw_law 2631 = .ok (.i2l, 1) := zfLaw_law_2586.2.2.2.2.2.2.2.2.2.2.2.2.2.2.2.2.2.2.2.2.2.2.2.2.2.2.1
theorem dLaw_law_2632 : decode cLaw_law 2632 = .ok (.lcmp, 1) := zfLaw_law_2586.2.2.2.2.2.2.2.2.2.2.2.2.2.2.2.2.2.2.2.2.2.2.2.2.2.2.2.1
theorem dLaw_law_2633 : decode cLaw_law 2633 = .ok (.ifCond .eq 5, 3) := zfLaw_law_2586.2.2.2.2.2.2.2.2.2.2.2.2.2.2.2.2.2.2.2.2.2.2.2.2.2.2.2.2.1
theorem dLaw_law_2636 : decode cLaw_law 2636 = .ok (.iconst 0, 1) := zfLaw_law_2586.2.2.2.2.2.2.2.2.2.2.2.2.2.2.2.2.2.2.2.2.2.2.2.2.2.2.2.2.2.1
theorem dLaw_law_2637 : decode cLaw_law 2637 = .ok (.ireturn, 1) := zfLaw_law_2586.2.2.2.2.2.2.2.2.2.2.2.2.2.2.2.2.2.2.2.2.2.2.2.2.2.2.2.2.2.2.1
theorem dLaw_law_2638 : decode cLaw_law 2638 = .ok (.goto 816, 3) := zfLaw_law_2586.2.2.2.2.2.2.2.2.2.2.2.2.2.2.2.2.2.2.2.2.2.2.2.2.2.2.2.2.2.2.2.1
theorem zfLaw_law_2641 : decode cLaw_law 2641 = .ok (.aload_n 1, 1) ∧ decode cLaw_law 2642 = .ok (.aload_n 0, 1) ∧ decode cLaw_law 2643 = .ok (.iload 4, 2) ∧ decode cLaw_law 2645 = .ok (.iconst 1, 1) ∧ decode cLaw_law 2646 = .ok (.iadd, 1) ∧ decode cLaw_law 2647 = .ok (.iaload, 1) ∧ decode cLaw_law 2648 = .ok (.aload_n 0, 1) ∧ decode cLaw_law 2649 = .ok (.iload 4, 2) ∧ decode cLaw_law 2651 = .ok (.iconst 2, 1) ∧ decode cLaw_law 2652 = .ok (.iadd, 1) ∧ decode cLaw_law 2653 = .ok (.iaload, 1) ∧ decode cLaw_law 2654 = .ok (.aload_n 3, 1) ∧ decode cLaw_law 2655 = .ok (.invokestatic 289, 3) ∧ decode cLaw_law 2658 = .ok (.istore 5, 2) ∧ decode cLaw_law 2660 = .ok (.aload_n 2, 1) ∧ decode cLaw_law 2661 = .ok (.aload_n 0, 1) ∧ decode cLaw_law 2662 = .ok (.iload 4, 2) ∧ decode cLaw_law 2664 = .ok (.iconst 1, 1) ∧ decode cLaw_law 2665 = .ok (.iadd, 1) ∧ decode cLaw_law 2666 = .ok (.iaload, 1) ∧ decode cLaw_law 2667 = .ok (.aload_n 0, 1) ∧ decode cLaw_law 2668 = .ok (.iload 4, 2) ∧ decode cLaw_law 2670 = .ok (.iconst 2, 1) ∧ decode cLaw_law 2671 = .ok (.iadd, 1) ∧ decode cLaw_law 2672 = .ok (.iaload, 1) ∧ decode cLaw_law 2673 = .ok (.invokevirtual 291, 3) ∧ decode cLaw_law 2676 = .ok (.istore 6, 2) ∧ decode cLaw_law 2678 = .ok (.aload_n 2, 1) ∧ decode cLaw_law 2679 = .ok (.invokevirtual 179, 3) ∧ decode cLaw_law 2682 = .ok (.iload 5, 2) ∧ decode cLaw_law 2684 = .ok (.if_icmp .eq 5, 3) ∧ decode cLaw_law 2687 = .ok (.iconst 0, 1) ∧ True := Jvm.Free.DS.facts (code := cLaw_law) 2641 [(.aload_n 1, 1), (.aload_n 0, 1), (.iload 4, 2), (.iconst 1, 1), (.iadd, 1), (.iaload, 1), (.aload_n 0, 1), (.iload 4, 2), (.iconst 2, 1), (.iadd, 1), (.iaload, 1), (.aload_n 3, 1), (.invokestatic 289, 3), (.istore 5, 2), (.aload_n 2, 1), (.aload_n 0, 1), (.iload 4, 2), (.iconst 1, 1), (.iadd, 1), (.iaload, 1), (.aload_n 0, 1), (.iload 4, 2), (.iconst 2, 1), (.iadd, 1), (.iaload, 1), (.invokevirtual 291, 3), (.istore 6, 2), (.aload_n 2, 1), (.invokevirtual 179, 3), (.iload 5, 2), (.if_icmp .eq 5, 3), (.iconst 0, 1)] (by decide +kernel) (by decide +kernel)
theorem dLaw_law_2641 : decode cLaw_law 2641 = .ok (.aload_n 1, 1) := zfLaw_law_2641.1
theorem dLaw_law_2642 : decode cLaw_law 2642 = .ok (.aload_n 0, 1) := zfLaw_law_2641.2.1
theorem dLaw_law_2643 : decode cLaw_law 2643 = .ok (.iload 4, 2) := zfLaw_law_2641.2.2.1
theorem dLaw_law_2645 : decode cLaw_law 2645 = .ok (.iconst 1, 1) := zfLaw_law_2641.2.2.2.1
theorem dLaw_law_2646 : decode cLaw_law 2646 = .ok (.iadd, 1) := zfLaw_law_2641.2.2.2.2.1
theorem dLaw_law_2647 : decode cLaw_law 2647 = .ok (.iaload, 1) := zfLaw_law_2641.2.2.2.2.2.1
theorem dLaw_law_2648 : decode cLaw_law 2648 = .ok (.aload_n 0, 1) := zfLaw_law_2641.2.2.2.2.2.2.1
theorem dLaw_law_2649 : decode cLaw_law 2649 = .ok (.iload 4, 2) := zfLaw_law_2641.2.2.2.2.2.2.2.1
theorem dLaw_law_2651 : decode cLaw_law 2651 = .ok (.iconst 2, 1) := zfLaw_law_2641.2.2.2.2.2.2.2.2.1
theorem dLaw_law_2652 : decode cLaw_law 2652 = .ok (.iadd, 1) := zfLaw_law_2641.2.2.2.2.2.2.2.2.2.1
theorem dLaw_law_2653 : decode cLaw_law 2653 = .ok (.iaload, 1) := zfLaw_law_2641.2.2.2.2.2.2.2.2.2.2.1
theorem dLaw_law_2654 : decode cLaw_law 2654 = .ok (.aload_n 3, 1) := zfLaw_law_2641.2.2.2.2.2.2.2.2.2.2.2.1
theorem dLaw_law_2655 : decode cLaw_law 2655 = .ok (.invokestatic 289, 3) := zfLaw_law_2641.2.2.2.2.2.2.2.2.2.2.2.2.1
theorem dLaw_law_2658 : decode cLaw_law 2658 = .ok (.istore 5, 2) := zfLaw_law_2641.2.2.2.2.2.2.2.2.2.2.2.2.2.1
theorem dLaw_law_2660 : decode cLaw_law 2660 = .ok (.aload_n 2, 1) := zfLaw_law_2641.2.2.2.2.2.2.2.2.2.2.2.2.2.2.1
theorem dLaw_law_2661 : decode cLaw_law 2661 = .ok (.aload_n 0, 1) := zfLaw_law_2641.2.2.2.2.2.2.2.2.2.2.2.2.2.2.2.1
theorem dLaw_law_2662 : decode cLaw_law 2662 = .ok (.iload 4, 2) := zfLaw_law_2641.2.2.2.2.2.2.2.2.2.2.2.2.2.2.2.2.1
theorem dLaw_law_2664 : decode cLaw_law 2664 = .ok (.iconst 1, 1) := zfLaw_law_2641.2.2.2.2.2.2.2.2.2.2.2.2.2.2.2.2.2.1
theorem dLaw_law_2665 : decode cLaw_law 2665 = .ok (.iadd, 1) := zfLaw_law_2641.2.2.2.2.2.2.2.2.2.2.2.2.2.2.2.2.2.2.1
theorem dLaw_law_2666 : decode cLaw_law 2666 = .ok (.iaload, 1) := zfLaw_law_2641.2.2.2.2.2.2.2.2.2.2.2.2.2.2.2.2.2.2.2.1
theorem dLaw_law_2667 : decode cLaw_law 2667 = .ok (.aload_n 0, 1) := zfLaw_law_2641.2.2.2.2.2.2.2.2.2.2.2.2.2.2.2.2.2.2.2.2.1
theorem dLaw_law_2668 : decode cLaw_law 2668 = .ok (.iload 4, 2) := zfLaw_law_2641.2.2.2.2.2.2.2.2.2.2.2.2.2.2.2.2.2.2.2.2.2.1
theorem dLaw_law_2670 : decode cLaw_law 2670 = .ok (.iconst 2, 1) := zfLaw_law_2641.2.2.2.2.2.2.2.2.2.2.2.2.2.2.2.2.2.2.2.2.2.2.1
theorem dLaw_law_2671 : decode cLaw_law 2671 = .ok (.iadd, 1) := zfLaw_law_2641.2.2.2.2.2.2.2.2.2.2.2.2.2.2.2.2.2.2.2.2.2.2.2.1
theorem dLaw_law_2672 : decode cLaw_law 2672 = .ok (.iaload, 1) := zfLaw_law_2641.2.2.2.2.2.2.2.2.2.2.2.2.2.2.2.2.2.2.2.2.2.2.2.2.1
theorem dLaw_law_2673 : decode cLaw_law 2673 = .ok (.invokevirtual 291, 3) := zfLaw_law_2641.2.2.2.2.2.2.2.2.2.2.2.2.2.2.2.2.2.2.2.2.2.2.2.2.2.1
theorem dLaw_law_2676 : decode cLaw_law 2676 = .ok (.istore 6, 2) := zfLaw_law_2641.2.2.2.2.2.2.2.2.2.2.2.2.2.2.2.2.2.2.2.2.2.2.2.2.2.2.1
theorem dLaw_law_2678 : decode cLaw_law 2678 = .ok (.aload_n 2, 1) := zfLaw_law_2641.2.2.2.2.2.2.2.2.2.2.2.2.2.2.2.2.2.2.2.2.2.2.2.2.2.2.2.1
theorem dLaw_law_2679 : decode cLaw_law 2679 = .ok (.invokevirtual 179, 3) := zfLaw_law_2641.2.2.2.2.2.2.2.2.2.2.2.2.2.2.2.2.2.2.2.2.2.2.2.2.2.2.2.2.1
theorem dLaw_law_2682 : decode cLaw_law 2682 = .ok (.iload 5, 2) := zfLaw_law_2641.2.2.2.2.2.2.2.2.2.2.2.2.2.2.2.2.2.2.2.2.2.2.2.2.2.2.2.2.2.1
theorem dLaw_law_2684 : decode cLaw_law 2684 = .ok (.if_icmp .eq 5, 3) := zfLaw_law_2641.2.2.2.2.2.2.2.2.2.2.2.2.2.2.2.2.2.2.2.2.2.2.2.2.2.2.2.2.2.2.1
theorem dLaw_law_2687 : decode cLaw_law 2687 = .ok (.iconst 0, 1) := zfLaw_law_2641.2.2.2.2.2.2.2.2.2.2.2.2.2.2.2.2.2.2.2.2.2.2.2.2.2.2.2.2.2.2.2.1
theorem zfLaw_law_2688 : decode cLaw_law 2688 = .ok (.ireturn, 1) ∧ decode cLaw_law 2689 = .ok (.iload 5, 2) ∧ decode cLaw_law 2691 = .ok (.ifCond .ne 16, 3) ∧ decode cLaw_law 2694 = .ok (.aload_n 3, 1) ∧ decode cLaw_law 2695 = .ok (.getfield 13, 3) ∧ decode cLaw_law 2698 = .ok (.iload 6, 2) ∧ decode cLaw_law 2700 = .ok (.i2l, 1) ∧ decode cLaw_law 2701 = .ok (.lcmp, 1) ∧ decode cLaw_law 2702 = .ok (.ifCond .eq 5, 3) ∧ decode cLaw_law 2705 = .ok (.iconst 0, 1) ∧ decode cLaw_law 2706 = .ok (.ireturn, 1) ∧ decode cLaw_law 2707 = .ok (.goto 747, 3) ∧ decode cLaw_law 2710 = .ok (.aload_n 1, 1) ∧ decode cLaw_law 2711 = .ok (.aload_n 0, 1) ∧ decode cLaw_law 2712 = .ok (.iload 4, 2) ∧ decode cLaw_law 2714 = .ok (.iconst 1, 1) ∧ decode cLaw_law 2715 = .ok (.iadd, 1) ∧ decode cLaw_law 2716 = .ok (.iaload, 1) ∧ decode cLaw_law 2717 = .ok (.aload_n 0, 1) ∧ decode cLaw_law 2718 = .ok (.iload 4, 2) ∧ decode cLaw_law 2720 = .ok (.iconst 2, 1) ∧ decode cLaw_law 2721 = .ok (.iadd, 1) ∧ decode cLaw_law 2722 = .ok (.iaload, 1) ∧ decode cLaw_law 2723 = .ok (.aload_n 3, 1) ∧ decode cLaw_law 2724 = .ok (.invokestatic 292, 3) ∧ decode cLaw_law 2727 = .ok (.istore 5, 2) ∧ decode cLaw_law 2729 = .ok (.aload_n 2, 1) ∧ decode cLaw_law 2730 = .ok (.aload_n 0, 1) ∧ decode cLaw_law 2731 = .ok (.iload 4, 2) ∧ decode cLaw_law 2733 = .ok (.iconst 1, 1) ∧ decode cLaw_law 2734 = .ok (.iadd, 1) ∧ decode cLaw_law 2735 = .ok (.iaload, 1) ∧ True := Jvm.Free.DS.facts (code := cLaw_law) 2688 [(.ireturn, 1), (.iload 5, 2), (.ifCond .ne 16, 3), (.aload_n 3, 1), (.getfield 13, 3), (.iload 6, 2), (.i2l, 1), (.lcmp, 1), (.ifCond .eq 5, 3), (.iconst 0, 1), (.ireturn, 1), (.goto 747, 3), (.aload_n 1, 1), (.aload_n 0, 1), (.iload 4, 2), (.iconst 1, 1), (.iadd, 1), (.iaload, 1), (.aload_n 0, 1), (.iload 4, 2), (.iconst 2, 1), (.iadd, 1), (.iaload, 1), (.aload_n 3, 1), (.invokestatic 292, 3), (.istore 5, 2), (.aload_n 2, 1), (.aload_n 0, 1), (.iload 4, 2), (.iconst 1, 1), (.iadd, 1), (.iaload, 1)] (by decide +kernel) (by decide +kernel)
theorem dLaw_law_2688 : decode cLaw_law 2688 = .ok (.ireturn, 1) := zfLaw_law_2688.1
theorem dLaw_law_2689 : decode cLaw_law 2689 = .ok (.iload 5, 2) := zfLaw_law_2688.2.1
theorem dLaw_law_2691 : decode cLaw_law 2691 = .ok (.ifCond .ne 16, 3) := zfLaw_law_2688.2.2.1
theorem dLaw_law_2694 : decode cLaw_law 2694 = .ok (.aload_n 3, 1) := zfLaw_law_2688.2.2.2.1
theorem dLaw_law_2695 : decode cLaw_law 2695 = .ok (.getfield 13, 3) := zfLaw_law_2688.2.2.2.2.1
theorem dLaw_law_2698 : decode cLaw_law 2698 = .ok (.iload 6, 2) := zfLaw_law_2688.2.2.2.2.2.1
theorem dLaw_law_2700 : decode cLaw_law 2700 = .ok (.i2l, 1) := zfLaw_law_2688.2.2.2.2.2.2.1
theorem dLaw_law_2701 : decode cLaw_law 2701 = .ok (.lcmp, 1) := zfLaw_law_2688.2.2.2.2.2.2.2.1
theorem dLaw_law_2702 : decode cLaw_law 2702 = .ok (.ifCond .eq 5, 3) := zfLaw_law_2688.2.2.2.2.2.2.2.2.1
theorem dLaw_law_2705 : decode cLaw_law 2705 = .ok (.iconst 0, 1) := zfLaw_law_2688.2.2.2.2.2.2.2.2.2.1
theorem dLaw_law_2706 : decode cLaw_law 2706 = .ok (.ireturn, 1) := zfLaw_law_2688.2.2.2.2.2.2.2.2.2.2.1
theorem dLaw_law_2707 : decode cLaw_law 2707 = .ok (.goto 747, 3) := zfLaw_law_2688.2.2.2.2.2.2.2.2.2.2.2.1
theorem dLaw_law_2710 : decode cLaw_law 2710 = .ok (.aload_n 1, 1) := zfLaw_law_2688.2.2.2.2.2.2.2.2.2.2.2.2.1
theorem dLaw_law_2711 : decode cLaw_law 2711 = .ok (.aload_n 0, 1) := zfLaw_law_2688.2.2.2.2.2.2.2.2.2.2.2.2.2.1
theorem dLaw_law_2712 : decode cLaw_law 2712 = .ok (.iload 4, 2) := zfLaw_law_2688.2.2.2.2.2.2.2.2.2.2.2.2.2.2.1
theorem dLaw_law_2714 : decode cLaw_law 2714 = .ok (.iconst 1, 1) := zfLaw_law_2688.2.2.2.2.2.2.2.2.2.2.2.2.2.2.2.1
theorem dLaw_law_2715 : decode cLaw_law 2715 = .ok (.iadd, 1) := zfLaw_law_2688.2.2.2.2.2.2.2.2.2.2.2.2.2.2.2.2.1
theorem dLaw_law_2716 : decode cLaw_law 2716 = .ok (.iaload, 1) := zfLaw_law_2688.2.2.2.2.2.2.2.2.2.2.2.2.2.2.2.2.2.1
theorem dLaw_law_2717 : decode cLaw_law 2717 = .ok (.aload_n 0, 1) := zfLaw_law_2688.2.2.2.2.2.2.2.2.2.2.2.2.2.2.2.2.2.2.1
theorem dLaw_law_2718 : decode cLaw_law 2718 = .ok (.iload 4, 2) := zfLaw_law_2688.2.2.2.2.2.2.2.2.2.2.2.2.2.2.2.2.2.2.2.1
theorem dLaw_law_2720 : decode cLaw_law 2720 = .ok (.iconst 2, 1) := zfLaw_law_2688.2.2.2.2.2.2.2.2.2.2.2.2.2.2.2.2.2.2.2.2.1
theorem dLaw_law_2721 : decode cLaw_law 2721 = .ok (.iadd, 1) := zfLaw_law_2688.2.2.2.2.2.2.2.2.2.2.2.2.2.2.2.2.2.2.2.2.2.1
theorem dLaw_law_2722 : decode cLaw_law 2722 = .ok (.iaload, 1) := zfLaw_law_2688.2.2.2.2.2.2.2.2.2.2.2.2.2.2.2.2.2.2.2.2.2.2.1
theorem dLaw_law_2723 : decode cLaw_law 2723 = .ok (.aload_n 3, 1) := zfLaw_law_2688.2.2.2.2.2.2.2.2.2.2.2.2.2.2.2.2.2.2.2.2.2.2.2.1
theorem dLaw_law_2724 : decode cLaw_law 2724 = .ok (.invokestatic 292, 3) := zfLaw_law_2688.2.2.2.2.2.2.2.2.2.2.2.2.2.2.2.2.2.2.2.2.2.2.2.2.1
theorem dLaw_law_2727 : decode cLaw_law 2727 = .ok (.istore 5, 2) := zfLaw_law_2688.2.2.2.2.2.2.2.2.2.2.2.2.2.2.2.2.2.2.2.2.2.2.2.2.2.1
theorem dLaw_law_2729 : decode cLaw_law 2729 = .ok (.aload_n 2, 1) := zfLaw_law_2688.2.2.2.2.2.2.2.2.2.2.2.2.2.2.2.2.2.2.2.2.2.2.2.2.2.2.1
theorem dLaw_law_2730 : decode cLaw_law 2730 = .ok (.aload_n 0, 1) := zfLaw_law_2688.2.2.2.2.2.2.2.2.2.2.2.2.2.2.2.2.2.2.2.2.2.2.2.2.2.2.2.1
theorem dLaw_law_2731 : decode cLaw_law 2731 = .ok (.iload 4, 2) := zfLaw_law_2688.2.2.2.2.2.2.2.2.2.2.2.2.2.2.2.2.2.2.2.2.2.2.2.2.2.2.2.2.1
theorem dLaw_law_2733 : decode cLaw_law 2733 = .ok (.iconst 1, 1) := zfLaw_law_2688.2.2.2.2.2.2.2.2.2.2.2.2.2.2.2.2.2.2.2.2.2.2.2.2.2.2.2.2.2.1
theorem dLaw_law_2734 : decode cLaw_law 2734 = .ok (.iadd, 1) := zfLaw_law_2688.2.2.2.2.2.2.2.2.2.2.2.2.2.2.2.2.2.2.2.2.2.2.2.2.2.2.2.2.2.2.1
theorem dLaw_law_2735 : decode cLaw_law 2735 = .ok (.iaload, 1) := zfLaw_law_2688.2.2.2.2.2.2.2.2.2.2.2.2.2.2.2.2.2.2.2.2.2.2.2.2.2.2.2.2.2.2.2.1
theorem zfLaw_law_2736 : decode cLaw_law 2736 = .ok (.aload_n 0, 1) ∧ decode cLaw_law 2737 = .ok (.iload 4, 2) ∧ decode cLaw_law 2739 = .ok (.iconst 2, 1) ∧ decode cLaw_law 2740 = .ok (.iadd, 1) ∧ decode cLaw_law 2741 = .ok (.iaload, 1) ∧ decode cLaw_law 2742 = .ok (.invokevirtual 294, 3) ∧ decode cLaw_law 2745 = .ok (.istore 6, 2) ∧ decode cLaw_law 2747 = .ok (.aload_n 2, 1) ∧ decode cLaw_law 2748 = .ok (.invokevirtual 179, 3) ∧ decode cLaw_law 2751 = .ok (.iload 5, 2) ∧ decode cLaw_law 2753 = .ok (.if_icmp .eq 5, 3) ∧ decode cLaw_law 2756 = .ok (.iconst 0, 1) ∧ decode cLaw_law 2757 = .ok (.ireturn, 1) ∧ decode cLaw_law 2758 = .ok (.iload 5, 2) ∧ decode cLaw_law 2760 = .ok (.ifCond .ne 16, 3) ∧ decode cLaw_law 2763 = .ok (.aload_n 3, 1) ∧ decode cLaw_law 2764 = .ok (.getfield 13, 3) ∧ decode cLaw_law 2767 = .ok (.iload 6, 2) ∧ decode cLaw_law 2769 = .ok (.i2l, 1) ∧ decode cLaw_law 2770 = .ok (.lcmp, 1) ∧ decode cLaw_law 2771 = .ok (.ifCond .eq 5, 3) ∧ decode cLaw_law 2774 = .ok (.iconst 0, 1) ∧ decode cLaw_law 2775 = .ok (.ireturn, 1) ∧ decode cLaw_law 2776 = .ok (.goto 678, 3) ∧ decode cLaw_law 2779 = .ok (.aload_n 1, 1) ∧ decode cLaw_law 2780 = .ok (.aload_n 0, 1) ∧ decode cLaw_law 2781 = .ok (.iload 4, 2) ∧ decode cLaw_law 2783 = .ok (.iconst 1, 1) ∧ decode cLaw_law 2784 = .ok (.iadd, 1) ∧ decode cLaw_law 2785 = .ok (.iaload, 1) ∧ decode cLaw_law 2786 = .ok (.aload_n 0, 1) ∧ decode cLaw_law 2787 = .ok (.iload 4, 2) ∧ True := Jvm.Free.DS.facts (code := cLaw_law) 2736 [(.aload_n 0, 1), (.iload 4, 2), (.iconst 2, 1), (.iadd, 1), (.iaload, 1), (.invokevirtual 294, 3), (.istore 6, 2), (.aload_n 2, 1), (.invokevirtual 179, 3), (.iload 5, 2), (.if_icmp .eq 5, 3), (.iconst 0, 1), (.ireturn, 1), (.iload 5, 2), (.ifCond .ne 16, 3), (.aload_n 3, 1), (.getfield 13, 3), (.iload 6, 2), (.i2l, 1), (.lcmp, 1), (.ifCond .eq 5, 3), (.iconst 0, 1), (.ireturn, 1), (.goto 678, 3), (.aload_n 1, 1), (.aload_n 0, 1), (.iload 4, 2), (.iconst 1, 1), (.iadd, 1), (.iaload, 1), (.aload_n 0, 1), (.iload 4, 2)] (by decide +kernel) (by decide +kernel)
theorem dLaw_law_2736 : decode cLaw_law 2736 = .ok (.aload_n 0, 1) := zfLaw_law_2736.1
theorem dLaw_law_2737 : decode cLaw_law 2737 = .ok (.iload 4, 2) := zfLaw_law_2736.2.1
theorem dLaw_law_2739 : decode cLaw_law 2739 = .ok (.iconst 2, 1) := zfLaw_law_2736.2.2.1
theorem dLaw_law_2740 : decode cLaw_law 2740 = .ok (.iadd, 1) := zfLaw_law_2736.2.2.2.1
theorem dLaw_law_2741 : decode cLaw_law 2741 = .ok (.iaload, 1) := zfLaw_law_2736.2.2.2.2.1
theorem dLaw_law_2742 : decode cLaw_law 2742 = .ok (.invokevirtual 294, 3) := zfLaw_law_2736.2.2.2.2.2.1
theorem dLaw_law_2745 : decode cLaw_law 2745 = .ok (.istore 6, 2) := zfLaw_law_2736.2.2.2.2.2.2.1
theorem dLaw_law_2747 : decode cLaw_law 2747 = .ok (.aload_n 2, 1) := zfLaw_law_2736.2.2.2.2.2.2.2.1
theorem dLaw_law_2748 : decode cLaw_law 2748 = .ok (.invokevirtual 179, 3) := zfLaw_law_2736.2.2.2.2.2.2.2.2.1
theorem dLaw_law_2751 : decode cLaw_law 2751 = .ok (.iload 5, 2) := zfLaw_law_2736.2.2.2.2.2.2.2.2.2.1
theorem dLaw_law_2753 : decode cLaw_law 2753 = .ok (.if_icmp .eq 5, 3) := zfLaw_law_2736.2.2.2.2.2.2.2.2.2.2.1
theorem dLaw_law_2756 : decode cLaw_law 2756 = .ok (.iconst 0, 1) := zfLaw_law_2736.2.2.2.2.2.2.2.2.2.2.2.1
theorem dLaw_law_2757 : decode cLaw_law 2757 = .ok (.ireturn, 1) := zfLaw_law_2736.2.2.2.2.2.2.2.2.2.2.2.2.1
theorem dLaw_law_2758 : decode cLaw_law 2758 = .ok (.iload 5, 2) := zfLaw_law_2736.2.2.2.2.2.2.2.2.2.2.2.2.2.1
theorem dLaw_law_2760 : decode cLaw_law 2760 = .ok (.ifCond .ne 16, 3) := zfLaw_law_2736.2.2.2.2.2.2.2.2.2.2.2.2.2.2.1
theorem dLaw_law_2763 : decode cLaw_law 2763 = .ok (.aload_n 3, 1) := zfLaw_law_2736.2.2.2.2.2.2.2.2.2.2.2.2.2.2.2.1
theorem dLaw_law_2764 : decode cLaw_law 2764 = .ok (.getfield 13, 3) := zfLaw_law_2736.2.2.2.2.2.2.2.2.2.2.2.2.2.2.2.2.1
theorem dLaw_law_2767 : decode cLaw_law 2767 = .ok (.iload 6, 2) := zfLaw_law_2736.2.2.2.2.2.2.2.2.2.2.2.2.2.2.2.2.2.1
theorem dLaw_law_2769 : decode cLaw_law 2769 = .ok (.i2l, 1) := zfLaw_law_2736.2.2.2.2.2.2.2.2.2.2.2.2.2.2.2.2.2.2.1
theorem dLaw_law_2770 : decode cLaw_law 2770 = .ok (.lcmp, 1) := zfLaw_law_2736.2.2.2.2.2.2.2.2.2.2.2.2.2.2.2.2.2.2.2.1
theorem dLaw_law_2771 : decode cLaw_law 2771 = .ok (.ifCond .eq 5, 3) := zfLaw_law_2736.2.2.2.2.2.2.2.2.2.2.2.2.2.2.2.2.2.2.2.2.1
theorem dLaw_law_2774 : decode cLaw_law 2774 = .ok (.iconst 0, 1) := zfLaw_law_2736.2.2.2.2.2.2.2.2.2.2.2.2.2.2.2.2.2.2.2.2.2.1
theorem dLaw_law_2775 : decode cLaw_law 2775 = .ok (.ireturn, 1) := zfLaw_law_2736.2.2.2.2.2.2.2.2.2.2.2.2.2.2.2.2.2.2.2.2.2.2.1
theorem dLaw_law_2776 : decode cLaw_law 2776 = .ok (.goto 678, 3) := zfLaw_law_2736.2.2.2.2.2.2.2.2.2.2.2.2.2.2.2.2.2.2.2.2.2.2.2.1
theorem dLaw_law_2779 : decode cLaw_law 2779 = .ok (.aload_n 1, 1) := zfLaw_law_2736.2.2.2.2.2.2.2.2.2.2.2.2.2.2.2.2.2.2.2.2.2.2.2.2.1
theorem dLaw_law_2780 : decode cLaw_law 2780 = .ok (.aload_n 0, 1) := zfLaw_law_2736.2.2.2.2.2.2.2.2.2.2.2.2.2.2.2.2.2.2.2.2.2.2.2.2.2.1
theorem dLaw_law_2781 : decode cLaw_law 2781 = .ok (.iload 4, 2) := zfLaw_law_2736.2.2.2.2.2.2.2.2.2.2.2.2.2.2.2.2.2.2.2.2.2.2.2.2.2.2.1
theorem dLaw_law_2783 : decode cLaw_law 2783 = .ok (.iconst 1, 1) := zfLaw_law_2736.2.2.2.2.2.2.2.2.2.2.2.2.2.2.2.2.2.2.2.2.2.2.2.2.2.2.2.1
theorem dLaw_law_2784 : decode cLaw_law 2784 = .ok (.iadd, 1) := zfLaw_law_2736.2.2.2.2.2.2.2.2.2.2.2.2.2.2.2.2.2.2.2.2.2.2.2.2.2.2.2.2.1
theorem dLaw_law_2785 : decode cLaw_law 2785 = .ok (.iaload, 1) := zfLaw_law_2736.2.2.2.2.2.2.2.2.2.2.2.2.2.2.2.2.2.2.2.2.2.2.2.2.2.2.2.2.2.1
theorem dLaw_law_2786 : decode cLaw_law 2786 = .ok (.aload_n 0, 1) := zfLaw_law_2736.2.2.2.2.2.2.2.2.2.2.2.2.2.2.2.2.2.2.2.2.2.2.2.2.2.2.2.2.2.2.1
theorem dLaw_law_2787 : decode cLaw_law 2787 = .ok (.iload 4, 2) := zfLaw_law_2736.2.2.2.2.2.2.2.2.2.2.2.2.2.2.2.2.2.2.2.2.2.2.2.2.2.2.2.2.2.2.2.1
theorem zfLaw_law_2789 : decode cLaw_law 2789 = .ok (.iconst 2, 1) ∧ decode cLaw_law 2790 = .ok (.iadd, 1) ∧ decode cLaw_law 2791 = .ok (.iaload, 1) ∧ decode cLaw_law 2792 = .ok (.aload_n 3, 1) ∧ decode cLaw_law 2793 = .ok (.invokestatic 295, 3) ∧ decode cLaw_law 2796 = .ok (.istore 5, 2) ∧ decode cLaw_law 2798 = .ok (.aload_n 2, 1) ∧ decode cLaw_law 2799 = .ok (.aload_n 0, 1) ∧ decode cLaw_law 2800 = .ok (.iload 4, 2) ∧ decode cLaw_law 2802 = .ok (.iconst 1, 1) ∧ decode cLaw_law 2803 = .ok (.iadd, 1) ∧ decode cLaw_law 2804 = .ok (.iaload, 1) ∧ decode cLaw_law 2805 = .ok (.aload_n 0, 1) ∧ decode cLaw_law 2806 = .ok (.iload 4, 2) ∧ decode cLaw_law 2808 = .ok (.iconst 2, 1) ∧ decode cLaw_law 2809 = .ok (.iadd, 1) ∧ decode cLaw_law 2810 = .ok (.iaload, 1) ∧ decode cLaw_law 2811 = .ok (.invokevirtual 297, 3) ∧ decode cLaw_law 2814 = .ok (.istore 6, 2) ∧ decode cLaw_law 2816 = .ok (.aload_n 2, 1) ∧ decode cLaw_law 2817 = .ok (.invokevirtual 179, 3) ∧ decode cLaw_law 2820 = .ok (.iload 5, 2) ∧ decode cLaw_law 2822 = .ok (.if_icmp .eq 5, 3) ∧ decode cLaw_law 2825 = .ok (.iconst 0, 1) ∧ decode cLaw_law 2826 = .ok (.ireturn, 1) ∧ decode cLaw_law 2827 = .ok (.iload 5, 2) ∧ decode cLaw_law 2829 = .ok (.ifCond .ne 16, 3) ∧ decode cLaw_law 2832 = .ok (.aload_n 3, 1) ∧ decode cLaw_law 2833 = .ok (.getfield 13, 3) ∧ decode cLaw_law 2836 = .ok (.iload 6, 2) ∧ decode cLaw_law 2838 = .ok (.i2l, 1) ∧ decode cLaw_law 2839 = .ok (.lcmp, 1) ∧ True := Jvm.Free.DS.facts (code := cLaw_law) 2789 [(.iconst 2, 1), (.iadd, 1), (.iaload, 1), (.aload_n 3, 1), (.invokestatic 295, 3), (.istore 5, 2), (.aload_n 2, 1), (.aload_n 0, 1), (.iload 4, 2), (.iconst 1, 1), (.iadd, 1), (.iaload, 1), (.aload_n 0, 1), (.iload 4, 2), (.iconst 2, 1), (.iadd, 1), (.iaload, 1), (.invokevirtual 297, 3), (.istore 6, 2), (.aload_n 2, 1), (.invokevirtual 179, 3), (.iload 5, 2), (.if_icmp .eq 5, 3), (.iconst 0, 1), (.ireturn, 1), (.iload 5, 2), (.ifCond .ne 16, 3), (.aload_n 3, 1), (.getfield 13, 3), (.iload 6, 2), (.i2l, 1), (.lcmp, 1)] (by decide +kernel) (by decide +kernel)
theorem dLaw_law_2789 : decode cLaw_law 2789 = .ok (.iconst 2, 1) := zfLaw_law_2789.1
theorem dLaw_law_2790 : decode cLaw_law 2790 = .ok (.iadd, 1) := zfLaw_law_2789.2.1
theorem dLaw_law_2791 : decode cLaw_law 2791 = .ok (.iaload, 1) := zfLaw_law_2789.2.2.1
theorem dLaw_law_2792 : decode cLaw_law 2792 = .ok (.aload_n 3, 1) := zfLaw_law_2789.2.2.2.1
theorem dLaw_law_2793 : decode cLaw_law 2793 = .ok (.invokestatic 295, 3) := zfLaw_law_2789.2.2.2.2.1
theorem dLaw_law_2796 : decode cLaw_law 2796 = .ok (.istore 5, 2) := zfLaw_law_2789.2.2.2.2.2.1
theorem dLaw_law_2798 : decode cLaw_law 2798 = .ok (.aload_n 2, 1) := zfLaw_law_2789.2.2.2.2.2.2.1
theorem dLaw_law_2799 : decode cLaw_law 2799 = .ok (.aload_n 0, 1) := zfLaw_law_2789.2.2.2.2.2.2.2.1
theorem dLaw_law_2800 : decode cLaw_law 2800 = .ok (.iload 4, 2) := zfLaw_law_2789.2.2.2.2.2.2.2.2.1
theorem dLaw_law_2802 : decode cLaw_law 2802 = .ok (.iconst 1, 1) := zfLaw_law_2789.2.2.2.2.2.2.2.2.2.1
theorem dLaw_law_2803 : decode cLaw_law 2803 = .ok (.iadd, 1) := zfLaw_law_2789.2.2.2.2.2.2.2.2.2.2.1
theorem dLaw_law_2804 : decode cLaw_law 2804 = .ok (.iaload, 1) := zfLaw_law_2789.2.2.2.2.2.2.2.2.2.2.2.1
theorem dLaw_law_2805 : decode cLaw_law 2805 = .ok (.aload_n 0, 1) := zfLaw_law_2789.2.2.2.2.2.2.2.2.2.2.2.2.1
theorem dLaw_law_2806 : decode cLaw_law 2806 = .ok (.iload 4, 2) := zfLaw_law_2789.2.2.2.2.2.2.2.2.2.2.2.2.2.1
theorem dLaw_law_2808 : decode cLaw_law 2808 = .ok (.iconst 2, 1) := zfLaw_law_2789.2.2.2.2.2.2.2.2.2.2.2.2.2.2.1
theorem dLaw_law_2809 : decode cLaw_law 2809 = .ok (.iadd, 1) := zfLaw_law_2789.2.2.2.2.2.2.2.2.2.2.2.2.2.2.2.1
theorem dLaw_law_2810 : decode cLaw_law 2810 = .ok (.iaload, 1) := zfLaw_law_2789.2.2.2.2.2.2.2.2.2.2.2.2.2.2.2.2.1
theorem dLaw_law_2811 : decode cLaw_law 2811 = .ok (.invokevirtual 297, 3) := zfLaw_law_2789.2.2.2.2.2.2.2.2.2.2.2.2.2.2.2.2.2.1
theorem dLaw_law_2814 : decode cLaw_law 2814 = .ok (.istore 6, 2) := zfLaw_law_2789.2.2.2.2.2.2.2.2.2.2.2.2.2.2.2.2.2.2.1
theorem dLaw_law_2816 : decode cLaw_law 2816 = .ok (.aload_n 2, 1) := zfLaw_law_2789.2.2.2.2.2.2.2.2.2.2.2.2.2.2.2.2.2.2.2.1
theorem dLaw_law_2817 : decode cLaw_law 2817 = .ok (.invokevirtual 179, 3) := zfLaw_law_2789.2.2.2.2.2.2.2.2.2.2.2.2.2.2.2.2.2.2.2.2.1
theorem dLaw_law_2820 : decode cLaw_law 2820 = .ok (.iload 5, 2) := zfLaw_law_2789.2.2.2.2.2.2.2.2.2.2.2.2.2.2.2.2.2.2.2.2.2.1
theorem dLaw_law_2822 : decode cLaw_law 2822 = .ok (.if_icmp .eq 5, 3) := zfLaw_law_2789.2.2.2.2.2.2.2.2.2.2.2.2.2.2.2.2.2.2.2.2.2.2.1
theorem dLaw_law_2825 : decode cLaw_law 2825 = .ok (.iconst 0, 1) := zfLaw_law_2789.2.2.2.2.2.2.2.2.2.2.2.2.2.2.2.2.2.2.2.2.2.2.2.1
theorem dLaw_law_2826 : decode cLaw_law 2826 = .ok (.ireturn, 1) := zfLaw_law_2789.2.2.2.2.2.2.2.2.2.2.2.2.2.2.2.2.2.2.2.2.2.2.2.2.1
theorem dLaw_law_2827 : decode cLaw_law 2827 = .ok (.iload 5, 2) := zfLaw_law_2789.2.2.2.2.2.2.2.2.2.2.2.2.2.2.2.2.2.2.2.2.2.2.2.2.2.1
theorem dLaw_law_2829 : decode cLaw_law 2829 = .ok (.ifCond .ne 16, 3) := zfLaw_law_2789.2.2.2.2.2.2.2.2.2.2.2.2.2.2.2.2.2.2.2.2.2.2.2.2.2.2.1
theorem dLaw_law_2832 : decode cLaw_law 2832 = .ok (.aload_n 3, 1) := zfLaw_law_2789.2.2.2.2.2.2.2.2.2.2.2.2.2.2.2.2.2.2.2.2.2.2.2.2.2.2.2.1
theorem dLaw_law_2833 : decode cLaw_law 2833 = .ok (.getfield 13, 3) := zfLaw_law_2789.2.2.2.2.2.2.2.2.2.2.2.2.2.2.2.2.2.2.2.2.2.2.2.2.2.2.2.2.1
theorem dLaw_law_2836 : decode cLaw_law 2836 = .ok (.iload 6, 2) := zfLaw_law_2789.2.2.2.2.2.2.2.2.2.2.2.2.2.2.2.2.2.2.2.2.2.2.2.2.2.2.2.2.2.1
theorem dLaw_law_2838 : decode cLaw_law 2838 = .ok (.i2l, 1) := zfLaw_law_2789.2.2.2.2.2.2.2.2.2.2.2.2.2.2.2.2.2.2.2.2.2.2.2.2.2.2.2.2.2.2.1
theorem dLaw_law_2839 : decode cLaw_law 2839 = .ok (.lcmp, 1) := zfLaw_law_2789.2.2.2.2.2.2.2.2.2.2.2.2.2.2.2.2.2.2.2.2.2.2.2.2.2.2.2.2.2.2.2.1
theorem zfLaw_law_2840 : decode cLaw_law 2840 = .ok (.ifCond .eq 5, 3) ∧ decode cLaw_law 2843 = .ok (.iconst 0, 1) ∧ decode cLaw_law 2844 = .ok (.ireturn, 1) ∧ decode cLaw_law 2845 = .ok (.goto 609, 3) ∧ decode cLaw_law 2848 = .ok (.aload_n 1, 1) ∧ decode cLaw_law 2849 = .ok (.aload_n 0, 1) ∧ decode cLaw_law 2850 = .ok (.iload 4, 2) ∧ decode cLaw_law 2852 = .ok (.iconst 1, 1) ∧ decode cLaw_law 2853 = .ok (.iadd, 1) ∧ decode cLaw_law 2854 = .ok (.iaload, 1) ∧ decode cLaw_law 2855 = .ok (.aload_n 3, 1) ∧ decode cLaw_law 2856 = .ok (.invokestatic 298, 3) ∧ decode cLaw_law 2859 = .ok (.istore 5, 2) ∧ decode cLaw_law 2861 = .ok (.aload_n 2, 1) ∧ decode cLaw_law 2862 = .ok (.aload_n 0, 1) ∧ decode cLaw_law 2863 = .ok (.iload 4, 2) ∧ decode cLaw_law 2865 = .ok (.iconst 1, 1) ∧ decode cLaw_law 2866 = .ok (.iadd, 1) ∧ decode cLaw_law 2867 = .ok (.iaload, 1) ∧ decode cLaw_law 2868 = .ok (.invokevirtual 300, 3) ∧ decode cLaw_law 2871 = .ok (.istore 6, 2) ∧ decode cLaw_law 2873 = .ok (.aload_n 2, 1) ∧ decode cLaw_law 2874 = .ok (.invokevirtual 179, 3) ∧ decode cLaw_law 2877 = .ok (.iload 5, 2) ∧ decode cLaw_law 2879 = .ok (.if_icmp .eq 5, 3) ∧ decode cLaw_law 2882 = .ok (.iconst 0, 1) ∧ decode cLaw_law 2883 = .ok (.ireturn, 1) ∧ decode cLaw_law 2884 = .ok (.iload 5, 2) ∧ decode cLaw_law 2886 = .ok (.ifCond .ne 16, 3) ∧ decode cLaw_law 2889 = .ok (.aload_n 3, 1) ∧ decode cLaw_law 2890 = .ok (.getfield 13, 3) ∧ decode cLaw_law 2893 = .ok (.iload 6, 2) ∧ True := Jvm.Free.DS.facts (code := cLaw_law) 2840 [(.ifCond .eq 5, 3), (.iconst 0, 1), (.ireturn, 1), (.goto 609, 3), (.aload_n 1, 1), (.aload_n 0, 1), (.iload 4, 2), (.iconst 1, 1), (.iadd, 1), (.iaload, 1), (.aload_n 3, 1), (.invokestatic 298, 3), (.istore 5, 2), (.aload_n 2, 1), (.aload_n 0, 1), (.iload 4, 2), (.iconst 1, 1), (.iadd, 1), (.iaload, 1), (.invokevirtual 300, 3), (.istore 6, 2), (.aload_n 2, 1), (.invokevirtual 179, 3), (.iload 5, 2), (.if_icmp .eq 5, 3), (.iconst 0, 1), (.ireturn, 1), (.iload 5, 2), (.ifCond .ne 16, 3), (.aload_n 3, 1), (.getfield 13, 3), (.iload 6, 2)] (by decide +kernel) (by decide +kernel)
theorem dLaw_law_2840 : decode cLaw_law 2840 = .ok (.ifCond .eq 5, 3) := zfLaw_law_2840.1
theorem dLaw_law_2843 : decode cLaw_law 2843 = .ok (.iconst 0, 1) := zfLaw_law_2840.2.1
theorem dLaw_law_2844 : decode cLaw_law 2844 = .ok (.ireturn, 1) := zfLaw_law_2840.2.2.1
theorem dLaw_law_2845 : decode cLaw_law 2845 = .ok (.goto 609, 3) := zfLaw_law_2840.2.2.2.1
theorem dLaw_law_2848 : decode cLaw_law 2848 = .ok (.aload_n 1, 1) := zfLaw_law_2840.2.2.2.2.1
theorem dLaw_law_2849 : decode cLaw_law 2849 = .ok (.aload_n 0, 1) := zfLaw_law_2840.2.2.2.2.2.1
theorem dLaw_law_2850 : decode cLaw_law 2850 = .ok (.iload 4, 2) := zfLaw_law_2840.2.2.2.2.2.2.1
theorem dLaw_law_2852 : decode cLaw_law 2852 = .ok (.iconst 1, 1) := zfLaw_law_2840.2.2.2.2.2.2.2.1
theorem dLaw_law_2853 : decode cLaw_law 2853 = .ok (.iadd, 1) := zfLaw_law_2840.2.2.2.2.2.2.2.2.1
theorem dLaw_law_2854 : decode cLaw_law 2854 = .ok (.iaload, 1) := zfLaw_law_2840.2.2.2.2.2.2.2.2.2.1
theorem dLaw_law_2855 : decode cLaw_law 2855 = .ok (.aload_n 3, 1) := zfLaw_law_2840.2.2.2.2.2.2.2.2.2.2.1
theorem dLaw_law_2856 : decode cLaw_law 2856 = .ok (.invokestatic 298, 3) := zfLaw_law_2840.2.2.2.2.2.2.2.2.2.2.2.1
theorem dLaw_law_2859 : decode cLaw_law 2859 = .ok (.istore 5, 2) := zfLaw_law_2840.2.2.2.2.2.2.2.2.2.2.2.2.1
theorem dLaw_law_2861 : decode cLaw_law 2861 = .ok (.aload_n 2, 1) := zfLaw_law_2840.2.2.2.2.2.2.2.2.2.2.2.2.2.1
theorem dLaw_law_2862 : decode cLaw_law 2862 = .ok (.aload_n 0, 1) := zfLaw_law_2840.2.2.2.2.2.2.2.2.2.2.2.2.2.2.1
theorem dLaw_law_2863 : decode cLaw_law 2863 = .ok (.iload 4, 2) := zfLaw_law_2840.2.2.2.2.2.2.2.2.2.2.2.2.2.2.2.1
theorem dLaw_law_2865 : decode cLaw_law 2865 = .ok (.iconst 1, 1) := zfLaw_law_2840.2.2.2.2.2.2.2.2.2.2.2.2.2.2.2.2.1
theorem dLaw_law_2866 : decode cLaw_law 2866 = .ok (.iadd, 1) := zfLaw_law_2840.2.2.2.2.2.2.2.2.2.2.2.2.2.2.2.2.2.1
theorem dLaw_law_2867 : decode cLaw_law 2867 = .ok (.iaload, 1) := zfLaw_law_2840.2.2.2.2.2.2.2.2.2.2.2.2.2.2.2.2.2.2.1
theorem dLaw_law_2868 : decode cLaw_law 2868 = .ok (.invokevirtual 300, 3) := zfLaw_law_2840.2.2.2.2.2.2.2.2.2.2.2.2.2.2.2.2.2.2.2.1
theorem dLaw_law_2871 : decode cLaw_law 2871 = .ok (.istore 6, 2) := zfLaw_law_2840.2.2.2.2.2.2.2.2.2.2.2.2.2.2.2.2.2.2.2.2.1
theorem dLaw_law_2873 : decode cLaw_law 2873 = .ok (.aload_n 2, 1) := zfLaw_law_2840.2.2.2.2.2.2.2.2.2.2.2.2.2.2.2.2.2.2.2.2.2.1
theorem dLaw_law_2874 : decode cLaw_law 2874 = .ok (.invokevirtual 179, 3) := zfLaw_law_2840.2.2.2.2.2.2.2.2.2.2.2.2.2.2.2.2.2.2.2.2.2.2.1
theorem dLaw_law_2877 : decode cLaw_law 2877 = .ok (.iload 5, 2) := zfLaw_law_2840.2.2.2.2.2.2.2.2.2.2.2.2.2.2.2.2.2.2.2.2.2.2.2.1
theorem dLaw_law_2879 : decode cLaw_law 2879 = .ok (.if_icmp .eq 5, 3) := zfLaw_law_2840.2.2.2.2.2.2.2.2.2.2.2.2.2.2.2.2.2.2.2.2.2.2.2.2.1
theorem dLaw_law_2882 : decode cLaw_law 2882 = .ok (.iconst 0, 1) := zfLaw_law_2840.2.2.2.2.2.2.2.2.2.2.2.2.2.2.2.2.2.2.2.2.2.2.2.2.2.1
theorem dLaw_law_2883 : decode cLaw_law 2883 = .ok (.ireturn, 1) := zfLaw_law_2840.2.2.2.2.2.2.2.2.2.2.2.2.2.2.2.2.2.2.2.2.2.2.2.2.2.2.1
theorem dLaw_law_2884 : decode cLaw_law 2884 = .ok (.iload 5, 2) := zfLaw_law_2840.2.2.2.2.2.2.2.2.2.2.2.2.2.2.2.2.2.2.2.2.2.2.2.2.2.2.2.1
theorem dLaw_law_2886 : decode cLaw_law 2886 = .ok (.ifCond .ne 16, 3) := zfLaw_law_2840.2.2.2.2.2.2.2.2.2.2.2.2.2.2.2.2.2.2.2.2.2.2.2.2.2.2.2.2.1
theorem dLaw_law_2889 : decode cLaw_law 2889 = .ok (.aload_n 3, 1) := zfLaw_law_2840.2.2.2.2.2.2.2.2.2.2.2.2.2.2.2.2.2.2.2.2.2.2.2.2.2.2.2.2.2.1
theorem dLaw_law_2890 : decode cLaw_law 2890 = .ok (.getfield 13, 3) := zfLaw_law_2840.2.2.2.2.2.2.2.2.2.2.2.2.2.2.2.2.2.2.2.2.2.2.2.2.2.2.2.2.2.2.1
theorem dLaw_law_2893 : decode cLaw_law 2893 = .ok (.iload 6, 2) := zfLaw_law_2840.2.2.2.2.2.2.2.2.2.2.2.2.2.2.2.2.2.2.2.2.2.2.2.2.2.2.2.2.2.2.2.1
theorem zfLaw_law_2895 : decode cLaw_law 2895 = .ok (.i2l, 1) ∧ decode cLaw_law 2896 = .ok (.lcmp, 1) ∧ decode cLaw_law 2897 = .ok (.ifCond .eq 5, 3) ∧ decode cLaw_law 2900 = .ok (.iconst 0, 1) ∧ decode cLaw_law 2901 = .ok (.ireturn, 1) ∧ decode cLaw_law 2902 = .ok (.goto 552, 3) ∧ decode cLaw_law 2905 = .ok (.aload_n 1, 1) ∧ decode cLaw_law 2906 = .ok (.aload_n 0, 1) ∧ decode cLaw_law 2907 = .ok (.iload 4, 2) ∧ decode cLaw_law 2909 = .ok (.iconst 1, 1) ∧ decode cLaw_law 2910 = .ok (.iadd, 1) ∧ decode cLaw_law 2911 = .ok (.iaload, 1) ∧ decode cLaw_law 2912 = .ok (.aload_n 3, 1) ∧ decode cLaw_law 2913 = .ok (.invokestatic 301, 3) ∧ decode cLaw_law 2916 = .ok (.istore 5, 2) ∧ decode cLaw_law 2918 = .ok (.aload_n 2, 1) ∧ decode cLaw_law 2919 = .ok (.aload_n 0, 1) ∧ decode cLaw_law 2920 = .ok (.iload 4, 2) ∧ decode cLaw_law 2922 = .ok (.iconst 1, 1) ∧ decode cLaw_law 2923 = .ok (.iadd, 1) ∧ decode cLaw_law 2924 = .ok (.iaload, 1) ∧ decode cLaw_law 2925 = .ok (.invokevirtual 303, 3) ∧ decode cLaw_law 2928 = .ok (.istore 6, 2) ∧ decode cLaw_law 2930 = .ok (.aload_n 2, 1) ∧ decode cLaw_law 2931 = .ok (.invokevirtual 179, 3) ∧ decode cLaw_law 2934 = .ok (.iload 5, 2) ∧ decode cLaw_law 2936 = .ok (.if_icmp .eq 5, 3) ∧ decode cLaw_law 2939 = .ok (.iconst 0, 1) ∧ decode cLaw_law 2940 = .ok (.ireturn, 1) ∧ decode cLaw_law 2941 = .ok (.iload 5, 2) ∧ decode cLaw_law 2943 = .ok (.ifCond .ne 16, 3) ∧ decode cLaw_law 2946 = .ok (.aload_n 3, 1) ∧ True := Jvm.Free.DS.facts (code := cLaw_law) 2895 [(.i2l, 1), (.lcmp, 1), (.ifCond .eq 5, 3), (.iconst 0, 1), (.ireturn, 1), (.goto 552, 3), (.aload_n 1, 1), (.aload_n 0, 1), (.iload 4, 2), (.iconst 1, 1), (.iadd, 1), (.iaload, 1), (.aload_n 3, 1), (.invokestatic 301, 3), (.istore 5, 2), (.aload_n 2, 1), (.aload_n 0, 1), (.iload 4, 2), (.iconst 1, 1), (.iadd, 1), (.iaload, 1), (.invokevirtual 303, 3), (.istore 6, 2), (.aload_n 2, 1), (.invokevirtual 179, 3), (.iload 5, 2), (.if_icmp .eq 5, 3), (.iconst 0, 1), (.ireturn, 1), (.iload 5, 2), (.ifCond .ne 16, 3), (.aload_n 3, 1)] (by decide +kernel) (by decide +kernel)
theorem dLaw_law_2895 : decode cLaw_law 2895 = .ok (.i2l, 1) := zfLaw_law_2895.1
theorem dLaw_law_2896 : decode cLaw_law 2896 = .ok (.lcmp, 1) := zfLaw_law_2895.2.1
theorem dLaw_law_2897 : decode cLaw_law 2897 = .ok (.ifCond .eq 5, 3) := zfLaw_law_2895.2.2.1
theorem dLaw_law_2900 : decode cLaw_law 2900 = .ok (.iconst 0, 1) := zfLaw_law_2895.2.2.2.1
theorem dLaw_law_2901 : decode cLaw_law 2901 = .ok (.ireturn, 1) := zfLaw_law_2895.2.2.2.2.1
theorem dLaw_law_2902 : decode cLaw_law 2902 = .ok (.goto 552, 3) := zfLaw_law_2895.2.2.2.2.2.1
theorem dLaw_law_2905 : decode cLaw_law 2905 = .ok (.aload_n 1, 1) := zfLaw_law_2895.2.2.2.2.2.2.1
theorem dLaw_law_2906 : decode cLaw_law 2906 = .ok (.aload_n 0, 1) := zfLaw_law_2895.2.2.2.2.2.2.2.1
theorem dLaw_law_2907 : decode cLaw_law 2907 = .ok (.iload 4, 2) := zfLaw_law_2895.2.2.2.2.2.2.2.2.1
theorem dLaw_law_2909 : decode cLaw_law 2909 = .ok (.iconst 1, 1) := zfLaw_law_2895.2.2.2.2.2.2.2.2.2.1
theorem dLaw_law_2910 : decode cLaw_law 2910 = .ok (.iadd, 1) := zfLaw_law_2895.2.2.2.2.2.2.2.2.2.2.1
theorem dLaw_law_2911 : decode cLaw_law 2911 = .ok (.iaload, 1) := zfLaw_law_2895.2.2.2.2.2.2.2.2.2.2.2.1
theorem dLaw_law_2912 : decode cLaw_law 2912 = .ok (.aload_n 3, 1) := zfLaw_law_2895.2.2.2.2.2.2.2.2.2.2.2.2.1
theorem dLaw_law_2913 : decode cLaw_law 2913 = .ok (.invokestatic 301, 3) := zfLaw_law_2895.2.2.2.2.2.2.2.2.2.2.2.2.2.1
theorem dLaw_law_2916 : decode cLaw_law 2916 = .ok (.istore 5, 2) := zfLaw_law_2895.2.2.2.2.2.2.2.2.2.2.2.2.2.2.1
theorem dLaw_law_2918 : decode cLaw_law 2918 = .ok (.aload_n 2, 1) := zfLaw_law_2895.2.2.2.2.2.2.2.2.2.2.2.2.2.2.2.1
theorem dLaw_law_2919 : decode cLaw_law 2919 = .ok (.aload_n 0, 1) := zfLaw_law_2895.2.2.2.2.2.2.2.2.2.2.2.2.2.2.2.2.1
theorem dLaw_law_2920 : decode cLaw_law 2920 = .ok (.iload 4, 2) := zfLaw_law_2895.2.2.2.2.2.2.2.2.2.2.2.2.2.2.2.2.2.1
theorem dLaw_law_2922 : decode cLaw_law 2922 = .ok (.iconst 1, 1) := zfLaw_law_2895.2.2.2.2.2.2.2.2.2.2.2.2.2.2.2.2.2.2.1
theorem dLaw_law_2923 : decode cLaw_law 2923 = .ok (.iadd, 1) := zfLaw_law_2895.2.2.2.2.2.2.2.2.2.2.2.2.2.2.2.2.2.2.2.1
theorem dLaw_law_2924 : decode cLaw_law 2924 = .ok (.iaload, 1) := zfLaw_law_2895.2.2.2.2.2.2.2.2.2.2.2.2.2.2.2.2.2.2.2.2.1
theorem dLaw_law_2925 : decode cLaw_law 2925 = .ok (.invokevirtual 303, 3) := zfLaw_law_2895.2.2.2.2.2.2.2.2.2.2.2.2.2.2.2.2.2.2.2.2.2.1
theorem dLaw_law_2928 : decode cLaw_law 2928 = .ok (.istore 6, 2) := zfLaw_law_2895.2.2.2.2.2.2.2.2.2.2.2.2.2.2.2.2.2.2.2.2.2.2.1
theorem dLaw_law_2930 : decode cLaw_law 2930 = .ok (.aload_n 2, 1) := zfLaw_law_2895.2.2.2.2.2.2.2.2.2.2.2.2.2.2.2.2.2.2.2.2.2.2.2.1
theorem dLaw_law_2931 : decode cLaw_law 2931 = .ok (.invokevirtual 179, 3) := zfLaw_law_2895.2.2.2.2.2.2.2.2.2.2.2.2.2.2.2.2.2.2.2.2.2.2.2.2.1
theorem dLaw_law_2934 : decode cLaw_law 2934 = .ok (.iload 5, 2) := zfLaw_law_2895.2.2.2.2.2.2.2.2.2.2.2.2.2.2.2.2.2.2.2.2.2.2.2.2.2.1
theorem dLaw_law_2936 : decode cLaw_law 2936 = .ok (.if_icmp .eq 5, 3) := zfLaw_law_2895.2.2.2.2.2.2.2.2.2.2.2.2.2.2.2.2.2.2.2.2.2.2.2.2.2.2.1
theorem dLaw_law_2939 : decode cLaw_law 2939 = .ok (.iconst 0, 1) := zfLaw_law_2895.2.2.2.2.2.2.2.2.2.2.2.2.2.2.2.2.2.2.2.2.2.2.2.2.2.2.2.1
theorem dLaw_law_2940 : decode cLaw_law 2940 = .ok (.ireturn, 1) := zfLaw_law_2895.2.2.2.2.2.2.2.2.2.2.2.2.2.2.2.2.2.2.2.2.2.2.2.2.2.2.2.2.1
theorem dLaw_law_2941 : decode cLaw_law 2941 = .ok (.iload 5, 2) := zfLaw_law_2895.2.2.2.2.2.2.2.2.2.2.2.2.2.2.2.2.2.2.2.2.2.2.2.2.2.2.2.2.2.1
theorem dLaw_law_2943 : decode cLaw_law 2943 = .ok (.ifCond .ne 16, 3) := zfLaw_law_2895.2.2.2.2.2.2.2.2.2.2.2.2.2.2.2.2.2.2.2.2.2.2.2.2.2.2.2.2.2.2.1
theorem dLaw_law_2946 : decode cLaw_law 2946 = .ok (.aload_n 3, 1) := zfLaw_law_2895.2.2.2.2.2.2.2.2.2.2.2.2.2.2.2.2.2.2.2.2.2.2.2.2.2.2.2.2.2.2.2.1
theorem zfLaw_law_2947 : decode cLaw_law 2947 = .ok (.getfield 13, 3) ∧ decode cLaw_law 2950 = .ok (.iload 6, 2) ∧ decode cLaw_law 2952 = .ok (.i2l, 1) ∧ decode cLaw_law 2953 = .ok (.lcmp, 1) ∧ decode cLaw_law 2954 = .ok (.ifCond .eq 5, 3) ∧ decode cLaw_law 2957 = .ok (.iconst 0, 1) ∧ decode cLaw_law 2958 = .ok (.ireturn, 1) ∧ decode cLaw_law 2959 = .ok (.goto 495, 3) ∧ decode cLaw_law 2962 = .ok (.aload_n 1, 1) ∧ decode cLaw_law 2963 = .ok (.aload_n 0, 1) ∧ decode cLaw_law 2964 = .ok (.iload 4, 2) ∧ decode cLaw_law 2966 = .ok (.iconst 1, 1) ∧ decode cLaw_law 2967 = .ok (.iadd, 1) ∧ decode cLaw_law 2968 = .ok (.iaload, 1) ∧ decode cLaw_law 2969 = .ok (.aload_n 3, 1) ∧ decode cLaw_law 2970 = .ok (.invokestatic 304, 3) ∧ decode cLaw_law 2973 = .ok (.istore 5, 2) ∧ decode cLaw_law 2975 = .ok (.aload_n 2, 1) ∧ decode cLaw_law 2976 = .ok (.aload_n 0, 1) ∧ decode cLaw_law 2977 = .ok (.iload 4, 2) ∧ decode cLaw_law 2979 = .ok (.iconst 1, 1) ∧ decode cLaw_law 2980 = .ok (.iadd, 1) ∧ decode cLaw_law 2981 = .ok (.iaload, 1) ∧ decode cLaw_law 2982 = .ok (.invokevirtual 306, 3) ∧ decode cLaw_law 2985 = .ok (.istore 6, 2) ∧ decode cLaw_law 2987 = .ok (.aload_n 2, 1) ∧ decode cLaw_law 2988 = .ok (.invokevirtual 179, 3) ∧ decode cLaw_law 2991 = .ok (.iload 5, 2) ∧ decode cLaw_law 2993 = .ok (.if_icmp .eq 5, 3) ∧ decode cLaw_law 2996 = .ok (.iconst 0, 1) ∧ decode cLaw_law 2997 = .ok (.ireturn, 1) ∧ decode cLaw_law 2998 = .ok (.iload 5, 2) ∧ True := Jvm.Free.DS.facts (code := cLaw_law) 2947 [(.getfield 13, 3), (.iload 6, 2), (.i2l, 1), (.lcmp, 1), (.ifCond .eq 5, 3), (.iconst 0, 1), (.ireturn, 1), (.goto 495, 3), (.aload_n 1, 1), (.aload_n 0, 1), (.iload 4, 2), (.iconst 1, 1), (.iadd, 1), (.iaload, 1), (.aload_n 3, 1), (.invokestatic 304, 3), (.istore 5, 2), (.aload_n 2, 1), (.aload_n 0, 1), (.iload 4, 2), (.iconst 1, 1), (.iadd, 1), (.iaload, 1), (.invokevirtual 306, 3), (.istore 6, 2), (.aload_n 2, 1), (.invokevirtual 179, 3), (.iload 5, 2), (.if_icmp .eq 5, 3), (.iconst 0, 1), (.ireturn, 1), (.iload 5, 2)] (by decide +kernel) (by decide +kernel)
theorem dLaw_law_2947 : decode cLaw_law 2947 = .ok (.getfield 13, 3) := zfLaw_law_2947.1
theorem dLaw_law_2950 : decode cLaw_law 2950 = .ok (.iload 6, 2) := zfLaw_law_2947.2.1
theorem dLaw_law_2952 : decode cLaw_law 2952 = .ok (.i2l, 1) := zfLaw_law_2947.2.2.1
theorem dLaw_law_2953 : decode cLaw_law 2953 = .ok (.lcmp, 1) := zfLaw_law_2947.2.2.2.1
theorem dLaw_law_2954 : decode cLaw_law 2954 = .ok (.ifCond .eq 5, 3) := zfLaw_law_2947.2.2.2.2.1
theorem dLaw_law_2957 : decode cLaw_law 2957 = .ok (.iconst 0, 1) := zfLaw_law_2947.2.2.2.2.2.1
theorem dLaw_law_2958 : decode cLaw_law 2958 = .ok (.ireturn, 1) := zfLaw_law_2947.2.2.2.2.2.2.1
theorem dLaw_law_2959 : decode cLaw_law 2959 = .ok (.goto 495, 3) := zfLaw_law_2947.2.2.2.2.2.2.2.1
theorem dLaw_law_2962 : decode cLaw_law 2962 = .ok (.aload_n 1, 1) := zfLaw_law_2947.2.2.2.2.2.2.2.2.1
theorem dLaw_law_2963 : decode cLaw_law 2963 = .ok (.aload_n 0, 1) := zfLaw_law_2947.2.2.2.2.2.2.2.2.2.1
theorem dLaw_law_2964 : decode cLaw_law 2964 = .ok (.iload 4, 2) := zfLaw_law_2947.2.2.2.2.2.2.2.2.2.2.1
theorem dLaw_law_2966 : decode cLaw_law 2966 = .ok (.iconst 1, 1) := zfLaw_law_2947.2.2.2.2.2.2.2.2.2.2.2.1
theorem dLaw_law_2967 : decode cLaw_law 2967 = .ok (.iadd, 1) := zfLaw_law_2947.2.2.2.2.2.2.2.2.2.2.2.2.1
theorem dLaw_law_2968 : decode cLaw_law 2968 = .ok (.iaload, 1) := zfLaw_law_2947.2.2.2.2.2.2.2.2.2.2.2.2.2.1
theorem dLaw_law_2969 : decode cLaw_law 2969 = .ok (.aload_n 3, 1) := zfLaw_law_2947.2.2.2.2.2.2.2.2.2.2.2.2.2.2.1
theorem dLaw_law_2970 : decode cLaw_law 2970 = .ok (.invokestatic 304, 3) := zfLaw_law_2947.2.2.2.2.2.2.2.2.2.2.2.2.2.2.2.1
theorem dLaw_law_2973 : decode cLaw_law 2973 = .ok (.istore 5, 2) := zfLaw_law_2947.2.2.2.2.2.2.2.2.2.2.2.2.2.2.2.2.1
theorem dLaw_law_2975 : decode cLaw_law 2975 = .ok (.aload_n 2, 1) := zfLaw_law_2947.2.2.2.2.2.2.2.2.2.2.2.2.2.2.2.2.2.1
theorem dLaw_law_2976 : decode cLaw_law 2976 = .ok (.aload_n 0, 1) := zfLaw_law_2947.2.2.2.2.2.2.2.2.2.2.2.2.2.2.2.2.2.2.1
theorem dLaw_law_2977 : decode cLaw_law 2977 = .ok (.iload 4, 2) := zfLaw_law_2947.2.2.2.2.2.2.2.2.2.2.2.2.2.2.2.2.2.2.2.1
theorem dLaw_law_2979 : decode cLaw_law 2979 = .ok (.iconst 1, 1) := zfLaw_law_2947.2.2.2.2.2.2.2.2.2.2.2.2.2.2.2.2.2.2.2.2.1
theorem dLaw_law_2980 : decode cLaw_law 2980 = .ok (.iadd, 1) := zfLaw_law_2947.2.2.2.2.2.2.2.2.2.2.2.2.2.2.2.2.2.2.2.2.2.1
theorem dLaw_law_2981 : decode cLaw_law 2981 = .ok (.iaload, 1) := zfLaw_law_2947.2.2.2.2.2.2.2.2.2.2.2.2.2.2.2.2.2.2.2.2.2.2.1
theorem dLaw_law_2982 : decode cLaw_law 2982 = .ok (.invokevirtual 306, 3) := zfLaw_law_2947.2.2.2.2.2.2.2.2.2.2.2.2.2.2.2.2.2.2.2.2.2.2.2.1
theorem dLaw_law_2985 : decode cLaw_law 2985 = .ok (.istore 6, 2) := zfLaw_law_2947.2.2.2.2.2.2.2.2.2.2.2.2.2.2.2.2.2.2.2.2.2.2.2.2.1
theorem dLaw_law_2987 : decode cLaw_law 2987 = .ok (.aload_n 2, 1) := zfLaw_law_2947.2.2.2.2.2.2.2.2.2.2.2.2.2.2.2.2.2.2.2.2.2.2.2.2.2.1
theorem dLaw_law_2988 : decode cLaw_law 2988 = .ok (.invokevirtual 179, 3) := zfLaw_law_2947.2.2.2.2.2.2.2.2.2.2.2.2.2.2.2.2.2.2.2.2.2.2.2.2.2.2.1
theorem dLaw_law_2991 : decode cLaw_law 2991 = .ok (.iload 5, 2) := zfLaw_law_2947.2.2.2.2.2.2.2.2.2.2.2.2.2.2.2.2.2.2.2.2.2.2.2.2.2.2.2.1
theorem dLaw_law_2993 : decode cLaw_law 2993 = .ok (.if_icmp .eq 5, 3) := zfLaw_law_2947.2.2.2.2.2.2.2.2.2.2.2.2.2.2.2.2.2.2.2.2.2.2.2.2.2.2.2.2.1
theorem dLaw_law_2996 : decode cLaw_law 2996 = .ok (.iconst 0, 1) := zfLaw_law_2947.2.2.2.2.2.2.2.2.2.2.2.2.2.2.2.2.2.2.2.2.2.2.2.2.2.2.2.2.2.1
theorem dLaw_law_2997 : decode cLaw_law 2997 = .ok (.ireturn, 1) := zfLaw_law_2947.2.2.2.2.2.2.2.2.2.2.2.2.2.2.2.2.2.2.2.2.2.2.2.2.2.2.2.2.2.2.1
theorem dLaw_law_2998 : decode cLaw_law 2998 = .ok (.iload 5, 2) := zfLaw_law_2947.2.2.2.2.2.2.2.2.2.2.2.2.2.2.2.2.2.2.2.2.2.2.2.2.2.2.2.2.2.2.2.1
theorem zfLaw_law_3000 : decode cLaw_law 3000 = .ok (.ifCond .ne 16, 3) ∧ decode cLaw_law 3003 = .ok (.aload_n 3, 1) ∧ decode cLaw_law 3004 = .ok (.getfield 13, 3) ∧ decode cLaw_law 3007 = .ok (.iload 6, 2) ∧ decode cLaw_law 3009 = .ok (.i2l, 1) ∧ decode cLaw_law 3010 = .ok (.lcmp, 1) ∧ decode cLaw_law 3011 = .ok (.ifCond .eq 5, 3) ∧ decode cLaw_law 3014 = .ok (.iconst 0, 1) ∧ decode cLaw_law 3015 = .ok (.ireturn, 1) ∧ decode cLaw_law 3016 = .ok (.goto 438, 3) ∧ decode cLaw_law 3019 = .ok (.aload_n 1, 1) ∧ decode cLaw_law 3020 = .ok (.aload_n 0, 1) ∧ decode cLaw_law 3021 = .ok (.iload 4, 2) ∧ decode cLaw_law 3023 = .ok (.iconst 1, 1) ∧ decode cLaw_law 3024 = .ok (.iadd, 1) ∧ decode cLaw_law 3025 = .ok (.iaload, 1) ∧ decode cLaw_law 3026 = .ok (.aload_n 0, 1) ∧ decode cLaw_law 3027 = .ok (.iload 4, 2) ∧ decode cLaw_law 3029 = .ok (.iconst 2, 1) ∧ decode cLaw_law 3030 = .ok (.iadd, 1) ∧ decode cLaw_law 3031 = .ok (.iaload, 1) ∧ decode cLaw_law 3032 = .ok (.aload_n 3, 1) ∧ decode cLaw_law 3033 = .ok (.invokestatic 307, 3) ∧ decode cLaw_law 3036 = .ok (.istore 5, 2) ∧ decode cLaw_law 3038 = .ok (.aload_n 2, 1) ∧ decode cLaw_law 3039 = .ok (.aload_n 0, 1) ∧ decode cLaw_law 3040 = .ok (.iload 4, 2) ∧ decode cLaw_law 3042 = .ok (.iconst 1, 1) ∧ decode cLaw_law 3043 = .ok (.iadd, 1) ∧ decode cLaw_law 3044 = .ok (.iaload, 1) ∧ decode cLaw_law 3045 = .ok (.aload_n 0, 1) ∧ decode cLaw_law 3046 = .ok (.iload 4, 2) ∧ True := Jvm.Free.DS.facts (code := cLaw_law) 3000 [(.ifCond .ne 16, 3), (.aload_n 3, 1), (.getfield 13, 3), (.iload 6, 2), (.i2l, 1), (.lcmp, 1), (.ifCond .eq 5, 3), (.iconst 0, 1), (.ireturn, 1), (.goto 438, 3), (.aload_n 1, 1), (.aload_n 0, 1), (.iload 4, 2), (.iconst 1, 1), (.iadd, 1), (.iaload, 1), (.aload_n 0, 1), (.iload 4, 2), (.iconst 2, 1), (.iadd, 1), (.iaload, 1), (.aload_n 3, 1), (.invokestatic 307, 3), (.istore 5, 2), (.aload_n 2, 1), (.aload_n 0, 1), (.iload 4, 2), (.iconst 1, 1), (.iadd, 1), (.iaload, 1), (.aload_n 0, 1), (.iload 4, 2)] (by decide +kernel) (by decide +kernel)
theorem dLaw_law_3000 : decode cLaw_law 3000 = .ok (.ifCond .ne 16, 3) := zfLaw_law_3000.1
theorem dLaw_law_3003 : decode cLaw_law 3003 = .ok (.aload_n 3, 1) := zfLaw_law_3000.2.1
theorem dLaw_law_3004 : decode cLaw_law 3004 = .ok (.getfield 13, 3) := zfLaw_law_3000.2.2.1
theorem dLaw_law_3007 : decode cLaw_law 3007 = .ok (.iload 6, 2) := zfLaw_law_3000.2.2.2.1
theorem dLaw_law_3009 : decode cLaw_law 3009 = .ok (.i2l, 1) := zfLaw_law_3000.2.2.2.2.1
theorem dLaw_law_3010 : decode cLaw_law 3010 = .ok (.lcmp, 1) := zfLaw_law_3000.2.2.2.2.2.1
theorem dLaw_law_3011 : decode cLaw_law 3011 = .ok (.ifCond .eq 5, 3) := zfLaw_law_3000.2.2.2.2.2.2.1
theorem dLaw_law_3014 : decode cLaw_law 3014 = .ok (.iconst 0, 1) := zfLaw_law_3000.2.2.2.2.2.2.2.1
theorem dLaw_law_3015 : decode cLaw_law 3015 = .ok (.ireturn, 1) := zfLaw_law_3000.2.2.2.2.2.2.2.2.1
theorem dLaw_law_3016 : decode cLaw_law 3016 = .ok (.goto 438, 3) := zfLaw_law_3000.2.2.2.2.2.2.2.2.2.1
theorem dLaw_law_3019 : decode cLaw_law 3019 = .ok (.aload_n 1, 1) := zfLaw_law_3000.2.2.2.2.2.2.2.2.2.2.1
theorem dLaw_law_3020 : decode cLaw_law 3020 = .ok (.aload_n 0, 1) := zfLaw_law_3000.2.2.2.2.2.2.2.2.2.2.2.1
theorem dLaw_law_3021 : decode cLaw_law 3021 = .ok (.iload 4, 2) := zfLaw_law_3000.2.2.2.2.2.2.2.2.2.2.2.2.1
theorem dLaw_law_3023 : decode cLaw_law 3023 = .ok (.iconst 1, 1) := zfLaw_law_3000.2.2.2.2.2.2.2.2.2.2.2.2.2.1
theorem dLaw_law_3024 : decode cLaw_law 3024 = .ok (.iadd, 1) := zfLaw_law_3000.2.2.2.2.2.2.2.2.2.2.2.2.2.2.1
theorem dLaw_law_3025 : decode cLaw_law 3025 = .ok (.iaload, 1) := zfLaw_law_3000.2.2.2.2.2.2.2.2.2.2.2.2.2.2.2.1
theorem dLaw_law_3026 : decode cLaw_law 3026 = .ok (.aload_n 0, 1) := zfLaw_law_3000.2.2.2.2.2.2.2.2.2.2.2.2.2.2.2.2.1
theorem dLaw_law_3027 : decode cLaw_law 3027 = .ok (.iload 4, 2) := zfLaw_law_3000.2.2.2.2.2.2.2.2.2.2.2.2.2.2.2.2.2.1
theorem dLaw_law_3029 : decode cLaw_law 3029 = .ok (.iconst 2, 1) := zfLaw_law_3000.2.2.2.2.2.2.2.2.2.2.2.2.2.2.2.2.2.2.1
theorem dLaw_law_3030 : decode cLaw_law 3030 = .ok (.iadd, 1) := zfLaw_law_3000.2.2.2.2.2.2.2.2.2.2.2.2.2.2.2.2.2.2.2.1
theorem dLaw_law_3031 : decode cLaw_law 3031 = .ok (.iaload, 1) := zfLaw_law_3000.2.2.2.2.2.2.2.2.2.2.2.2.2.2.2.2.2.2.2.2.1
theorem dLaw_law_3032 : decode cLaw_law 3032 = .ok (.aload_n 3, 1) := zfLaw_law_3000.2.2.2.2.2.2.2.2.2.2.2.2.2.2.2.2.2.2.2.2.2.1
theorem dLaw_law_3033 : decode cLaw_law 3033 = .ok (.invokestatic 307, 3) := zfLaw_law_3000.2.2.2.2.2.2.2.2.2.2.2.2.2.2.2.2.2.2.2.2.2.2.1
theorem dLaw_law_3036 : decode cLaw_law 3036 = .ok (.istore 5, 2) := zfLaw_law_3000.2.2.2.2.2.2.2.2.2.2.2.2.2.2.2.2.2.2.2.2.2.2.2.1
theorem dLaw_law_3038 : decode cLaw_law 3038 = .ok (.aload_n 2, 1) := zfLaw_law_3000.2.2.2.2.2.2.2.2.2.2.2.2.2.2.2.2.2.2.2.2.2.2.2.2.1
theorem dLaw_law_3039 : decode cLaw_law 3039 = .ok (.aload_n 0, 1) := zfLaw_law_3000.2.2.2.2.2.2.2.2.2.2.2.2.2.2.2.2.2.2.2.2.2.2.2.2.2.1
theorem dLaw_law_3040 : decode cLaw_law 3040 = .ok (.iload 4, 2) := zfLaw_law_3000.2.2.2.2.2.2.2.2.2.2.2.2.2.2.2.2.2.2.2.2.2.2.2.2.2.2.1
theorem dLaw_law_3042 : decode cLaw_law 3042 = .ok (.iconst 1, 1) := zfLaw_law_3000.2.2.2.2.2.2.2.2.2.2.2.2.2.2.2.2.2.2.2.2.2.2.2.2.2.2.2.1
theorem dLaw_law_3043 : decode cLaw_law 3043 = .ok (.iadd, 1) := zfLaw_law_3000.2.2.2.2.2.2.2.2.2.2.2.2.2.2.2.2.2.2.2.2.2.2.2.2.2.2.2.2.1
theorem dLaw_law_3044 : decode cLaw_law 3044 = .ok (.iaload, 1) := zfLaw_law_3000.2.2.2.2.2.2.2.2.2.2.2.2.2.2.2.2.2.2.2.2.2.2.2.2.2.2.2.2.2.1
theorem dLaw_law_3045 : decode cLaw_law 3045 = .ok (.aload_n 0, 1) := zfLaw_law_3000.2.2.2.2.2.2.2.2.2.2.2.2.2.2.2.2.2.2.2.2.2.2.2.2.2.2.2.2.2.2.1
theorem dLaw_law_3046 : decode cLaw_law 3046 = .ok (.iload 4, 2) := zfLaw_law_3000.2.2.2.2.2.2.2.2.2.2.2.2.2.2.2.2.2.2.2.2.2.2.2.2.2.2.2.2.2.2.2.1
theorem zfLaw_law_3048 : decode cLaw_law 3048 = .ok (.iconst 2, 1) ∧ decode cLaw_law 3049 = .ok (.iadd, 1) ∧ decode cLaw_law 3050 = .ok (.iaload, 1) ∧ decode cLaw_law 3051 = .ok (.invokevirtual 309, 3) ∧ decode cLaw_law 3054 = .ok (.istore 6, 2) ∧ decode cLaw_law 3056 = .ok (.aload_n 2, 1) ∧ decode cLaw_law 3057 = .ok (.invokevirtual 179, 3) ∧ decode cLaw_law 3060 = .ok (.iload 5, 2) ∧ decode cLaw_law 3062 = .ok (.if_icmp .eq 5, 3) ∧ decode cLaw_law 3065 = .ok (.iconst 0, 1) ∧ decode cLaw_law 3066 = .ok (.ireturn, 1) ∧ decode cLaw_law 3067 = .ok (.iload 5, 2) ∧ decode cLaw_law 3069 = .ok (.ifCond .ne 16, 3) ∧ decode cLaw_law 3072 = .ok (.aload_n 3, 1) ∧ decode cLaw_law 3073 = .ok (.getfield 13, 3) ∧ decode cLaw_law 3076 = .ok (.iload 6, 2) ∧ decode cLaw_law 3078 = .ok (.i2l, 1) ∧ decode cLaw_law 3079 = .ok (.lcmp, 1) ∧ decode cLaw_law 3080 = .ok (.ifCond .eq 5, 3) ∧ decode cLaw_law 3083 = .ok (.iconst 0, 1) ∧ decode cLaw_law 3084 = .ok (.ireturn, 1) ∧ decode cLaw_law 3085 = .ok (.goto 369, 3) ∧ decode cLaw_law 3088 = .ok (.aload_n 1, 1) ∧ decode cLaw_law 3089 = .ok (.aload_n 0, 1) ∧ decode cLaw_law 3090 = .ok (.iload 4, 2) ∧ decode cLaw_law 3092 = .ok (.iconst 1, 1) ∧ decode cLaw_law 3093 = .ok (.iadd, 1) ∧ decode cLaw_law 3094 = .ok (.iaload, 1) ∧ decode cLaw_law 3095 = .ok (.aload_n 3, 1) ∧ decode cLaw_law 3096 = .ok (.invokestatic 310, 3) ∧ decode cLaw_law 3099 = .ok (.istore 5, 2) ∧ decode cLaw_law 3101 = .ok (.aload_n 2, 1) ∧ True := Jvm.Free.DS.facts (code := cLaw_law) 3048 [(.iconst 2, 1), (.iadd, 1), (.iaload, 1), (.invokevirtual 309, 3), (.istore 6, 2), (.aload_n 2, 1), (.invokevirtual 179, 3), (.iload 5, 2), (.if_icmp .eq 5, 3), (.iconst 0, 1), (.ireturn, 1), (.iload 5, 2), (.ifCond .ne 16, 3), (.aload_n 3, 1), (.getfield 13, 3), (.iload 6, 2), (.i2l, 1), (.lcmp, 1), (.ifCond .eq 5, 3), (.iconst 0, 1), (.ireturn, 1), (.goto 369, 3), (.aload_n 1, 1), (.aload_n 0, 1), (.iload 4, 2), (.iconst 1, 1), (.iadd, 1), (.iaload, 1), (.aload_n 3, 1), (.invokestatic 310, 3), (.istore 5, 2), (.aload_n 2, 1)] (by decide +kernel) (by decide +kernel)
theorem dLaw_law_3048 : decode cLaw_law 3048 = .ok (.iconst 2, 1) := zfLaw_law_3048.1
theorem dLaw_law_3049 : decode cLaw_law 3049 = .ok (.iadd, 1) := zfLaw_law_3048.2.1
theorem dLaw_law_3050 : decode cLaw_law 3050 = .ok (.iaload, 1) := zfLaw_law_3048.2.2.1
theorem dLaw_law_3051 : decode cLaw_law 3051 = .ok (.invokevirtual 309, 3) := zfLaw_law_3048.2.2.2.1
theorem dLaw_law_3054 : decode cLaw_law 3054 = .ok (.istore 6, 2) := zfLaw_law_3048.2.2.2.2.1
theorem dLaw_law_3056 : decode cLaw_law 3056 = .ok (.aload_n 2, 1) := zfLaw_law_3048.2.2.2.2.2.1
theorem dLaw_law_3057 : decode cLaw_law 3057 = .ok (.invokevirtual 179, 3) := zfLaw_law_3048.2.2.2.2.2.2.1
theorem dLaw_law_3060 : decode cLaw_law 3060 = .ok (.iload 5, 2) := zfLaw_law_3048.2.2.2.2.2.2.2.1
theorem dLaw_law_3062 : decode cLaw_law 3062 = .ok (.if_icmp .eq 5, 3) := zfLaw_law_3048.2.2.2.2.2.2.2.2.1
theorem dLaw_law_3065 : decode cLaw_law 3065 = .ok (.iconst 0, 1) := zfLaw_law_3048.2.2.2.2.2.2.2.2.2.1
theorem dLaw_law_3066 : decode cLaw_law 3066 = .ok (.ireturn, 1) := zfLaw_law_3048.2.2.2.2.2.2.2.2.2.2.1
theorem dLaw_law_3067 : decode cLaw_law 3067 = .ok (.iload 5, 2) := zfLaw_law_3048.2.2.2.2.2.2.2.2.2.2.2.1
theorem dLaw_law_3069 : decode cLaw_law 3069 = .ok (.ifCond .ne 16, 3) := zfLaw_law_3048.2.2.2.2.2.2.2.2.2.2.2.2.1
theorem dLaw_law_3072 : decode cLaw_law 3072 = .ok (.aload_n 3, 1) := zfLaw_law_3048.2.2.2.2.2.2.2.2.2.2.2.2.2.1
theorem dLaw_law_3073 : decode cLaw_law 3073 = .ok (.getfield 13, 3) := zfLaw_law_3048.2.2.2.2.2.2.2.2.2.2.2.2.2.2.1
theorem dLaw_law_3076 : decode cLaw_law 3076 = .ok (.iload 6, 2) := zfLaw_law_3048.2.2.2.2.2.2.2.2.2.2.2.2.2.2.2.1
theorem dLaw_law_3078 : decode cLaw_law 3078 = .ok (.i2l, 1) := zfLaw_law_3048.2.2.2.2.2.2.2.2.2.2.2.2.2.2.2.2.1
theorem dLaw_law_3079 : decode cLaw_law 3079 = .ok (.lcmp, 1) := zfLaw_law_3048.2.2.2.2.2.2.2.2.2.2.2.2.2.2.2.2.2.1
theorem dLaw_law_3080 : decode cLaw_law 3080 = .ok (.ifCond .eq 5, 3) := zfLaw_law_3048.2.2.2.2.2.2.2.2.2.2.2.2.2.2.2.2.2.2.1
theorem dLaw_law_3083 : decode cLaw_law 3083 = .ok (.iconst 0, 1) := zfLaw_law_3048.2.2.2.2.2.2.2.2.2.2.2.2.2.2.2.2.2.2.2.1
theorem dLaw_law_3084 : decode cLaw_law 3084 = .ok (.ireturn, 1) := zfLaw_law_3048.2.2.2.2.2.2.2.2.2.2.2.2.2.2.2.2.2.2.2.2.1
theorem dLaw_law_3085 : decode cLaw_law 3085 = .ok (.goto 369, 3) := zfLaw_law_3048.2.2.2.2.2.2.2.2.2.2.2.2.2.2.2.2.2.2.2.2.2.1
theorem dLaw_law_3088 : decode cLaw_law 3088 = .ok (.aload_n 1, 1) := zfLaw_law_3048.2.2.2.2.2.2.2.2.2.2.2.2.2.2.2.2.2.2.2.2.2.2.1
theorem dLaw_law_3089 : decode cLaw_law 3089 = .ok (.aload_n 0, 1) := zfLaw_law_3048.2.2.2.2.2.2.2.2.2.2.2.2.2.2.2.2.2.2.2.2.2.2.2.1
theorem dLaw_law_3090 : decode cLaw_law 3090 = .ok (.iload 4, 2) := zfLaw_law_3048.2.2.2.2.2.2.2.2.2.2.2.2.2.2.2.2.2.2.2.2.2.2.2.2.1
theorem dLaw_law_3092 : decode cLaw_law 3092 = .ok (.iconst 1, 1) := zfLaw_law_3048.2.2.2.2.2.2.2.2.2.2.2.2.2.2.2.2.2.2.2.2.2.2.2.2.2.1
theorem dLaw_law_3093 : decode cLaw_law 3093 = .ok (.iadd, 1) := zfLaw_law_3048.2.2.2.2.2.2.2.2.2.2.2.2.2.2.2.2.2.2.2.2.2.2.2.2.2.2.1
theorem dLaw_law_3094 : decode cLaw_law 3094 = .ok (.iaload, 1) := zfLaw_law_3048.2.2.2.2.2.2.2.2.2.2.2.2.2.2.2.2.2.2.2.2.2.2.2.2.2.2.2.1
theorem dLaw_law_3095 : decode cLaw_law 3095 = .ok (.aload_n 3, 1) := zfLaw_law_3048.2.2.2.2.2.2.2.2.2.2.2.2.2.2.2.2.2.2.2.2.2.2.2.2.2.2.2.2.1
theorem dLaw_law_3096 : decode cLaw_law 3096 = .ok (.invokestatic 310, 3) := zfLaw_law_3048.2.2.2.2.2.2.2.2.2.2.2.2.2.2.2.2.2.2.2.2.2.2.2.2.2.2.2.2.2.1
theorem dLaw_law_3099 : decode cLaw_law 3099 = .ok (.istore 5, 2) := zfLaw_law_3048.2.2.2.2.2.2.2.2.2.2.2.2.2.2.2.2.2.2.2.2.2.2.2.2.2.2.2.2.2.2.1
theorem dLaw_law_3101 : decode cLaw_law 3101 = .ok (.aload_n 2, 1) := zfLaw_law_3048.2.2.2.2.2.2.2.2.2.2.2.2.2.2.2.2.2.2.2.2.2.2.2.2.2.2.2.2.2.2.2.1
theorem zfLaw_law_3102 : decode cLaw_law 3102 = .ok (.aload_n 0, 1) ∧ decode cLaw_law 3103 = .ok (.iload 4, 2) ∧ decode cLaw_law 3105 = .ok (.iconst 1, 1) ∧ decode cLaw_law 3106 = .ok (.iadd, 1) ∧ decode cLaw_law 3107 = .ok (.iaload, 1) ∧ decode cLaw_law 3108 = .ok (.invokevirtual 312, 3) ∧ decode cLaw_law 3111 = .ok (.istore 6, 2) ∧ decode cLaw_law 3113 = .ok (.aload_n 2, 1) ∧ decode cLaw_law 3114 = .ok (.invokevirtual 179, 3) ∧ decode cLaw_law 3117 = .ok (.iload 5, 2) ∧ decode cLaw_law 3119 = .ok (.if_icmp .eq 5, 3) ∧ decode cLaw_law 3122 = .ok (.iconst 0, 1) ∧ decode cLaw_law 3123 = .ok (.ireturn, 1) ∧ decode cLaw_law 3124 = .ok (.iload 5, 2) ∧ decode cLaw_law 3126 = .ok (.ifCond .ne 16, 3) ∧ decode cLaw_law 3129 = .ok (.aload_n 3, 1) ∧ decode cLaw_law 3130 = .ok (.getfield 13, 3) ∧ decode cLaw_law 3133 = .ok (.iload 6, 2) ∧ decode cLaw_law 3135 = .ok (.i2l, 1) ∧ decode cLaw_law 3136 = .ok (.lcmp, 1) ∧ decode cLaw_law 3137 = .ok (.ifCond .eq 5, 3) ∧ decode cLaw_law 3140 = .ok (.iconst 0, 1) ∧ decode cLaw_law 3141 = .ok (.ireturn, 1) ∧ decode cLaw_law 3142 = .ok (.goto 312, 3) ∧ decode cLaw_law 3145 = .ok (.aload_n 1, 1) ∧ decode cLaw_law 3146 = .ok (.aload_n 0, 1) ∧ decode cLaw_law 3147 = .ok (.iload 4, 2) ∧ decode cLaw_law 3149 = .ok (.iconst 1, 1) ∧ decode cLaw_law 3150 = .ok (.iadd, 1) ∧ decode cLaw_law 3151 = .ok (.iaload, 1) ∧ decode cLaw_law 3152 = .ok (.aload_n 3, 1) ∧ decode cLaw_law 3153 = .ok (.invokestatic 313, 3) ∧ True := Jvm.Free.DS.facts (code := cLaw_law) 3102 [(.aload_n 0, 1), (.iload 4, 2), (.iconst 1, 1), (.iadd, 1), (.iaload, 1), (.invokevirtual 312, 3), (.istore 6, 2), (.aload_n 2, 1), (.invokevirtual 179, 3), (.iload 5, 2), (.if_icmp .eq 5, 3), (.iconst 0, 1), (.ireturn, 1), (.iload 5, 2), (.ifCond .ne 16, 3), (.aload_n 3, 1), (.getfield 13, 3), (.iload 6, 2), (.i2l, 1), (.lcmp, 1), (.ifCond .eq 5, 3), (.iconst 0, 1), (.ireturn, 1), (.goto 312, 3), (.aload_n 1, 1), (.aload_n 0, 1), (.iload 4, 2), (.iconst 1, 1), (.iadd, 1), (.iaload, 1), (.aload_n 3, 1), (.invokestatic 313, 3)] (by decide +kernel) (by decide +kernel)
theorem dLaw_law_3102 : decode cLaw_law 3102 = .ok (.aload_n 0, 1) := zfLaw_law_3102.1
theorem dLaw_law_3103 : decode cLaw_law 3103 = .ok (.iload 4, 2) := zfLaw_law_3102.2.1
theorem dLaw_law_3105 : decode cLaw_law 3105 = .ok (.iconst 1, 1) := zfLaw_law_3102.2.2.1
theorem dLaw_law_3106 : decode cLaw_law 3106 = .ok (.iadd, 1) := zfLaw_law_3102.2.2.2.1
theorem dLaw_law_3107 : decode cLaw_law 3107 = .ok (.iaload, 1) := zfLaw_law_3102.2.2.2.2.1
theorem dLaw_law_3108 : decode cLaw_law 3108 = .ok (.invokevirtual 312, 3) := zfLaw_law_3102.2.2.2.2.2.1
theorem dLaw_law_3111 : decode cLaw_law 3111 = .ok (.istore 6, 2) := zfLaw_law_3102.2.2.2.2.2.2.1
theorem dLaw_law_3113 : decode cLaw_law 3113 = .ok (.aload_n 2, 1) := zfLaw_law_3102.2.2.2.2.2.2.2.1
theorem dLaw_law_3114 : decode cLaw_law 3114 = .ok (.invokevirtual 179, 3) := zfLaw_law_3102.2.2.2.2.2.2.2.2.1
theorem dLaw_law_3117 : decode cLaw_law 3117 = .ok (.iload 5, 2) := zfLaw_law_3102.2.2.2.2.2.2.2.2.2.1
theorem dLaw_law_3119 : decode cLaw_law 3119 = .ok (.if_icmp .eq 5, 3) := zfLaw_law_3102.2.2.2.2.2.2.2.2.2.2.1
theorem dLaw_law_3122 : decode cLaw_law 3122 = .ok (.iconst 0, 1) := zfLaw_law_3102.2.2.2.2.2.2.2.2.2.2.2.1
theorem dLaw_law_3123 : decode cLaw_law 3123 = .ok (.ireturn, 1) := zfLaw_law_3102.2.2.2.2.2.2.2.2.2.2.2.2.1
theorem dLaw_law_3124 : decode cLaw_law 3124 = .ok (.iload 5, 2) := zfLaw_law_3102.2.2.2.2.2.2.2.2.2.2.2.2.2.1
theorem dLaw_law_3126 : decode cLaw_law 3126 = .ok (.ifCond .ne 16, 3) := zfLaw_law_3102.2.2.2.2.2.2.2.2.2.2.2.2.2.2.1
theorem dLaw_law_3129 : decode cLaw_law 3129 = .ok (.aload_n 3, 1) := zfLaw_law_3102.2.2.2.2.2.2.2.2.2.2.2.2.2.2.2.1
theorem dLaw_law_3130 : decode cLaw_law 3130 = .ok (.getfield 13, 3) := zfLaw_law_3102.2.2.2.2.2.2.2.2.2.2.2.2.2.2.2.2.1
theorem dLaw_law_3133 : decode cLaw_law 3133 = .ok (.iload 6, 2) := zfLaw_law_3102.2.2.2.2.2.2.2.2.2.2.2.2.2.2.2.2.2.1
theorem dLaw_law_3135 : decode cLaw_law 3135 = .ok (.i2l, 1) := zfLaw_law_3102.2.2.2.2.2.2.2.2.2.2.2.2.2.2.2.2.2.2.1
theorem dLaw_law_3136 : decode cLaw_law 3136 = .ok (.lcmp, 1) := zfLaw_law_3102.2.2.2.2.2.2.2.2.2.2.2.2.2.2.2.2.2.2.2.1
theorem dLaw_law_3137 : decode cLaw_law 3137 = .ok (.ifCond .eq 5, 3) := zfLaw_law_3102.2.2.2.2.2.2.2.2.2.2.2.2.2.2.2.2.2.2.2.2.1
theorem dLaw_law_3140 : decode cLaw_law 3140 = .ok (.iconst 0, 1) := zfLaw_law_3102.2.2.2.2.2.2.2.2.2.2.2.2.2.2.2.2.2.2.2.2.2.1
theorem dLaw_law_3141 : decode cLaw_law 3141 = .ok (.ireturn, 1) := zfLaw_law_3102.2.2.2.2.2.2.2.2.2.2.2.2.2.2.2.2.2.2.2.2.2.2.1
theorem dLaw_law_3142 : decode cLaw_law 3142 = .ok (.goto 312, 3) := zfLaw_law_3102.2.2.2.2.2.2.2.2.2.2.2.2.2.2.2.2.2.2.2.2.2.2.2.1
theorem dLaw_law_3145 : decode cLaw_law 3145 = .ok (.aload_n 1, 1) := zfLaw_law_3102.2.2.2.2.2.2.2.2.2.2.2.2.2.2.2.2.2.2.2.2.2.2.2.2.1
theorem dLaw_law_3146 : decode cLaw_law 3146 = .ok (.aload_n 0, 1) := zfLaw_law_3102.2.2.2.2.2.2.2.2.2.2.2.2.2.2.2.2.2.2.2.2.2.2.2.2.2.1
theorem dLaw_law_3147 : decode cLaw_law 3147 = .ok (.iload 4, 2) := zfLaw_law_3102.2.2.2.2.2.2.2.2.2.2.2.2.2.2.2.2.2.2.2.2.2.2.2.2.2.2.1
theorem dLaw_law_3149 : decode cLaw_law 3149 = .ok (.iconst 1, 1) := zfLaw_law_3102.2.2.2.2.2.2.2.2.2.2.2.2.2.2.2.2.2.2.2.2.2.2.2.2.2.2.2.1
theorem dLaw_law_3150 : decode cLaw_law 3150 = .ok (.iadd, 1) := zfLaw_law_3102.2.2.2.2.2.2.2.2.2.2.2.2.2.2.2.2.2.2.2.2.2.2.2.2.2.2.2.2.1
theorem dLaw_law_3151 : decode cLaw_law 3151 = .ok (.iaload, 1) := zfLaw_law_3102.2.2.2.2.2.2.2.2.2.2.2.2.2.2.2.2.2.2.2.2.2.2.2.2.2.2.2.2.2.1
theorem dLaw_law_3152 : decode cLaw_law 3152 = .ok (.aload_n 3, 1) := zfLaw_law_3102.2.2.2.2.2.2.2.2.2.2.2.2.2.2.2.2.2.2.2.2.2.2.2.2.2.2.2.2.2.2.1
theorem dLaw_law_3153 : decode cLaw_law 3153 = .ok (.invokestatic 313, 3) := zfLaw_law_3102.2.2.2.2.2.2.2.2.2.2.2.2.2.2.2.2.2.2.2.2.2.2.2.2.2.2.2.2.2.2.2.1
theorem zfLaw_law_3156 : decode cLaw_law 3156 = .ok (.istore 5, 2) ∧ decode cLaw_law 3158 = .ok (.aload_n 2, 1) ∧ decode cLaw_law 3159 = .ok (.aload_n 0, 1) ∧ decode cLaw_law 3160 = .ok (.iload 4, 2) ∧ decode cLaw_law 3162 = .ok (.iconst 1, 1) ∧ decode cLaw_law 3163 = .ok (.iadd, 1) ∧ decode cLaw_law 3164 = .ok (.iaload, 1) ∧ decode cLaw_law 3165 = .ok (.invokevirtual 315, 3) ∧ decode cLaw_law 3168 = .ok (.istore 6, 2) ∧ decode cLaw_law 3170 = .ok (.aload_n 2, 1) ∧ decode cLaw_law 3171 = .ok (.invokevirtual 179, 3) ∧ decode cLaw_law 3174 = .ok (.iload 5, 2) ∧ decode cLaw_law 3176 = .ok (.if_icmp .eq 5, 3) ∧ decode cLaw_law 3179 = .ok (.iconst 0, 1) ∧ decode cLaw_law 3180 = .ok (.ireturn, 1) ∧ decode cLaw_law 3181 = .ok (.iload 5, 2) ∧ decode cLaw_law 3183 = .ok (.ifCond .ne 16, 3) ∧ decode cLaw_law 3186 = .ok (.aload_n 3, 1) ∧ decode cLaw_law 3187 = .ok (.getfield 13, 3) ∧ decode cLaw_law 3190 = .ok (.iload 6, 2) ∧ decode cLaw_law 3192 = .ok (.i2l, 1) ∧ decode cLaw_law 3193 = .ok (.lcmp, 1) ∧ decode cLaw_law 3194 = .ok (.ifCond .eq 5, 3) ∧ decode cLaw_law 3197 = .ok (.iconst 0, 1) ∧ decode cLaw_law 3198 = .ok (.ireturn, 1) ∧ decode cLaw_law 3199 = .ok (.goto 255, 3) ∧ decode cLaw_law 3202 = .ok (.aload_n 1, 1) ∧ decode cLaw_law 3203 = .ok (.invokevirtual 316, 3) ∧ decode cLaw_law 3206 = .ok (.aload_n 2, 1) ∧ decode cLaw_law 3207 = .ok (.invokevirtual 319, 3) ∧ decode cLaw_law 3210 = .ok (.if_icmp .eq 244, 3) ∧ decode cLaw_law 3213 = .ok (.iconst 0, 1) ∧ True := Jvm.Free.DS.facts (code := cLaw_law) 3156 [(.istore 5, 2), (.aload_n 2, 1), (.aload_n 0, 1), (.iload 4, 2), (.iconst 1, 1), (.iadd, 1), (.iaload, 1), (.invokevirtual 315, 3), (.istore 6, 2), (.aload_n 2, 1), (.invokevirtual 179, 3), (.iload 5, 2), (.if_icmp .eq 5, 3), (.iconst 0, 1), (.ireturn, 1), (.iload 5, 2), (.ifCond .ne 16, 3), (.aload_n 3, 1), (.getfield 13, 3), (.iload 6, 2), (.i2l, 1), (.lcmp, 1), (.ifCond .eq 5, 3), (.iconst 0, 1), (.ireturn, 1), (.goto 255, 3), (.aload_n 1, 1), (.invokevirtual 316, 3), (.aload_n 2, 1), (.invokevirtual 319, 3), (.if_icmp .eq 244, 3), (.iconst 0, 1)] (by decide +kernel) (by decide +kernel)
theorem dLaw_law_3156 : decode cLaw_law 3156 = .ok (.istore 5, 2) := zfLaw_law_3156.1
theorem dLaw_law_3158 : decode cLaw_law 3158 = .ok (.aload_n 2, 1) := zfLaw_law_3156.2.1
theorem dLaw_law_3159 : decode cLaw_law 3159 = .ok (.aload_n 0, 1) := zfLaw_law_3156.2.2.1
theorem dLaw_law_3160 : decode cLaw_law 3160 = .ok (.iload 4, 2) := zfLaw_law_3156.2.2.2.1
theorem dLaw_law_3162 : decode cLaw_law 3162 = .ok (.iconst 1, 1) := zfLaw_law_3156.2.2.2.2.1
theorem dLaw_law_3163 : decode cLaw_law 3163 = .ok (.iadd, 1) := zfLaw_law_3156.2.2.2.2.2.1
theorem dLaw_law_3164 : decode cLaw_law 3164 = .ok (.iaload, 1) := zfLaw_law_3156.2.2.2.2.2.2.1
theorem dLaw_law_3165 : decode cLaw_law 3165 = .ok (.invokevirtual 315, 3) := zfLaw_law_3156.2.2.2.2.2.2.2.1
theorem dLaw_law_3168 : decode cLaw_law 3168 = .ok (.istore 6, 2) := zfLaw_law_3156.2.2.2.2.2.2.2.2.1
theorem dLaw_law_3170 : decode cLaw_law 3170 = .ok (.aload_n 2, 1) := zfLaw_law_3156.2.2.2.2.2.2.2.2.2.1
theorem dLaw_law_3171 : decode cLaw_law 3171 = .ok (.invokevirtual 179, 3) := zfLaw_law_3156.2.2.2.2.2.2.2.2.2.2.1
theorem dLaw_law_3174 : decode cLaw_law 3174 = .ok (.iload 5, 2) := zfLaw_law_3156.2.2.2.2.2.2.2.2.2.2.2.1
theorem dLaw_law_3176 : decode cLaw_law 3176 = .ok (.if_icmp .eq 5, 3) := zfLaw_law_3156.2.2.2.2.2.2.2.2.2.2.2.2.1
theorem dLaw_law_3179 : decode cLaw_law 3179 = .ok (.iconst 0, 1) := zfLaw_law_3156.2.2.2.2.2.2.2.2.2.2.2.2.2.1
theorem dLaw_law_3180 : decode cLaw_law 3180 = .ok (.ireturn, 1) := zfLaw_law_3156.2.2.2.2.2.2.2.2.2.2.2.2.2.2.1
theorem dLaw_law_3181 : decode cLaw_law 3181 = .ok (.iload 5, 2) := zfLaw_law_3156.2.2.2.2.2.2.2.2.2.2.2.2.2.2.2.1
theorem dLaw_law_3183 : decode cLaw_law 3183 = .ok (.ifCond .ne 16, 3) := zfLaw_law_3156.2.2.2.2.2.2.2.2.2.2.2.2.2.2.2.2.1
theorem dLaw_law_3186 : decode cLaw_law 3186 = .ok (.aload_n 3, 1) := zfLaw_law_3156.2.2.2.2.2.2.2.2.2.2.2.2.2.2.2.2.2.1
theorem dLaw_law_3187 : decode cLaw_law 3187 = .ok (.getfield 13, 3) := zfLaw_law_3156.2.2.2.2.2.2.2.2.2.2.2.2.2.2.2.2.2.2.1
theorem dLaw_law_3190 : decode cLaw_law 3190 = .ok (.iload 6, 2) := zfLaw_law_3156.2.2.2.2.2.2.2.2.2.2.2.2.2.2.2.2.2.2.2.1
theorem dLaw_law_3192 : decode cLaw_law 3192 = .ok (.i2l, 1) := zfLaw_law_3156.2.2.2.2.2.2.2.2.2.2.2.2.2.2.2.2.2.2.2.2.1
theorem dLaw_law_3193 : decode cLaw_law 3193 = .ok (.lcmp, 1) := zfLaw_law_3156.2.2.2.2.2.2.2.2.2.2.2.2.2.2.2.2.2.2.2.2.2.1
theorem dLaw_law_3194 : decode cLaw_law 3194 = .ok (.ifCond .eq 5, 3) := zfLaw_law_3156.2.2.2.2.2.2.2.2.2.2.2.2.2.2.2.2.2.2.2.2.2.2.1
theorem dLaw_law_3197 : decode cLaw_law 3197 = .ok (.iconst 0, 1) := zfLaw_law_3156.2.2.2.2.2.2.2.2.2.2.2.2.2.2.2.2.2.2.2.2.2.2.2.1
theorem dLaw_law_3198 : decode cLaw_law 3198 = .ok (.ireturn, 1) := zfLaw_law_3156.2.2.2.2.2.2.2.2.2.2.2.2.2.2.2.2.2.2.2.2.2.2.2.2.1
theorem dLaw_law_3199 : decode cLaw_law 3199 = .ok (.goto 255, 3) := zfLaw_law_3156.2.2.2.2.2.2.2.2.2.2.2.2.2.2.2.2.2.2.2.2.2.2.2.2.2.1
theorem dLaw_law_3202 : decode cLaw_law 3202 = .ok (.aload_n 1, 1) := zfLaw_law_3156.2.2.2.2.2.2.2.2.2.2.2.2.2.2.2.2.2.2.2.2.2.2.2.2.2.2.1
theorem dLaw_law_3203 : decode cLaw_law 3203 = .ok (.invokevirtual 316, 3) := zfLaw_law_3156.2.2.2.2.2.2.2.2.2.2.2.2.2.2.2.2.2.2.2.2.2.2.2.2.2.2.2.1
theorem dLaw_law_3206 : decode cLaw_law 3206 = .ok (.aload_n 2, 1) := zfLaw_law_3156.2.2.2.2.2.2.2.2.2.2.2.2.2.2.2.2.2.2.2.2.2.2.2.2.2.2.2.2.1
theorem dLaw_law_3207 : decode cLaw_law 3207 = .ok (.invokevirtual 319, 3) := zfLaw_law_3156.2.2.2.2.2.2.2.2.2.2.2.2.2.2.2.2.2.2.2.2.2.2.2.2.2.2.2.2.2.1
theorem dLaw_law_3210 : decode cLaw_law 3210 = .ok (.if_icmp .eq 244, 3) := zfLaw_law_3156.2.2.2.2.2.2.2.2.2.2.2.2.2.2.2.2.2.2.2.2.2.2.2.2.2.2.2.2.2.2.1
theorem dLaw_law_3213 : decode cLaw_law 3213 = .ok (.iconst 0, 1) := zfLaw_law_3156.2.2.2.2.2.2.2.2.2.2.2.2.2.2.2.2.2.2.2.2.2.2.2.2.2.2.2.2.2.2.2.1
theorem zfLaw_law_3214 : decode cLaw_law 3214 = .ok (.ireturn, 1) ∧ decode cLaw_law 3215 = .ok (.aload_n 1, 1) ∧ decode cLaw_law 3216 = .ok (.aload_n 0, 1) ∧ decode cLaw_law 3217 = .ok (.iload 4, 2) ∧ decode cLaw_law 3219 = .ok (.iconst 1, 1) ∧ decode cLaw_law 3220 = .ok (.iadd, 1) ∧ decode cLaw_law 3221 = .ok (.iaload, 1) ∧ decode cLaw_law 3222 = .ok (.aload_n 3, 1) ∧ decode cLaw_law 3223 = .ok (.invokestatic 320, 3) ∧ decode cLaw_law 3226 = .ok (.istore 5, 2) ∧ decode cLaw_law 3228 = .ok (.aload_n 2, 1) ∧ decode cLaw_law 3229 = .ok (.aload_n 0, 1) ∧ decode cLaw_law 3230 = .ok (.iload 4, 2) ∧ decode cLaw_law 3232 = .ok (.iconst 1, 1) ∧ decode cLaw_law 3233 = .ok (.iadd, 1) ∧ decode cLaw_law 3234 = .ok (.iaload, 1) ∧ decode cLaw_law 3235 = .ok (.invokevirtual 322, 3) ∧ decode cLaw_law 3238 = .ok (.istore 6, 2) ∧ decode cLaw_law 3240 = .ok (.aload_n 2, 1) ∧ decode cLaw_law 3241 = .ok (.invokevirtual 179, 3) ∧ decode cLaw_law 3244 = .ok (.iload 5, 2) ∧ decode cLaw_law 3246 = .ok (.if_icmp .eq 5, 3) ∧ decode cLaw_law 3249 = .ok (.iconst 0, 1) ∧ decode cLaw_law 3250 = .ok (.ireturn, 1) ∧ decode cLaw_law 3251 = .ok (.iload 5, 2) ∧ decode cLaw_law 3253 = .ok (.ifCond .ne 16, 3) ∧ decode cLaw_law 3256 = .ok (.aload_n 3, 1) ∧ decode cLaw_law 3257 = .ok (.getfield 13, 3) ∧ decode cLaw_law 3260 = .ok (.iload 6, 2) ∧ decode cLaw_law 3262 = .ok (.i2l, 1) ∧ decode cLaw_law 3263 = .ok (.lcmp, 1) ∧ decode cLaw_law 3264 = .ok (.ifCond .eq 5, 3) ∧ True := Jvm.Free.DS.facts (code := cLaw_law) 3214 [(.ireturn, 1), (.aload_n 1, 1), (.aload_n 0, 1), (.iload 4, 2), (.iconst 1, 1), (.iadd, 1), (.iaload, 1), (.aload_n 3, 1), (.invokestatic 320, 3), (.istore 5, 2), (.aload_n 2, 1), (.aload_n 0, 1), (.iload 4, 2), (.iconst 1, 1), (.iadd, 1), (.iaload, 1), (.invokevirtual 322, 3), (.istore 6, 2), (.aload_n 2, 1), (.invokevirtual 179, 3), (.iload 5, 2), (.if_icmp .eq 5, 3), (.iconst 0, 1), (.ireturn, 1), (.iload 5, 2), (.ifCond .ne 16, 3), (.aload_n 3, 1), (.getfield 13, 3), (.iload 6, 2), (.i2l, 1), (.lcmp, 1), (.ifCond .eq 5, 3)] (by decide +kernel) (by decide +kernel)
theorem dLaw_law_3214 : decode cLaw_law 3214 = .ok (.ireturn, 1) := zfLaw_law_3214.1
theorem dLaw_law_3215 : decode cLaw_law 3215 = .ok (.aload_n 1, 1) := zfLaw_law_3214.2.1
theorem dLaw_law_3216 : decode cLaw_law 3216 = .ok (.aload_n 0, 1) := zfLaw_law_3214.2.2.1
theorem dLaw_law_3217 : decode cLaw_law 3217 = .ok (.iload 4, 2) := zfLaw_law_3214.2.2.2.1
theorem dLaw_law_3219 : decode cLaw_law 3219 = .ok (.iconst 1, 1) := zfLaw_law_3214.2.2.2.2.1
theorem dLaw_law_3220 : decode cLaw_law 3220 = .ok (.iadd, 1) := zfLaw_law_3214.2.2.2.2.2.1
theorem dLaw_law_3221 : decode cLaw_law 3221 = .ok (.iaload, 1) := zfLaw_law_3214.2.2.2.2.2.2.1
theorem dLaw_law_3222 : decode cLaw_law 3222 = .ok (.aload_n 3, 1) := zfLaw_law_3214.2.2.2.2.2.2.2.1
theorem dLaw_law_3223 : decode cLaw_law 3223 = .ok (.invokestatic 320, 3) := zfLaw_law_3214.2.2.2.2.2.2.2.2.1
theorem dLaw_law_3226 : decode cLaw_law 3226 = .ok (.istore 5, 2) := zfLaw_law_3214.2.2.2.2.2.2.2.2.2.1
theorem dLaw_law_3228 : decode cLaw_law 3228 = .ok (.aload_n 2, 1) := zfLaw_law_3214.2.2.2.2.2.2.2.2.2.2.1
theorem dLaw_law_3229 : decode cLaw_law 3229 = .ok (.aload_n 0, 1) := zfLaw_law_3214.2.2.2.2.2.2.2.2.2.2.2.1
theorem dLaw_law_3230 : decode cLaw_law 3230 = .ok (.iload 4, 2) := zfLaw_law_3214.2.2.2.2.2.2.2.2.2.2.2.2.1
theorem dLaw_law_3232 : decode cLaw_law 3232 = .ok (.iconst 1, 1) := zfLaw_law_3214.2.2.2.2.2.2.2.2.2.2.2.2.2.1
theorem dLaw_law_3233 : decode cLaw_law 3233 = .ok (.iadd, 1) := zfLaw_law_3214.2.2.2.2.2.2.2.2.2.2.2.2.2.2.1
theorem dLaw_law_3234 : decode cLaw_law 3234 = .ok (.iaload, 1) := zfLaw_law_3214.2.2.2.2.2.2.2.2.2.2.2.2.2.2.2.1
theorem dLaw_law_3235 : decode cLaw_law 3235 = .ok (.invokevirtual 322, 3) := zfLaw_law_3214.2.2.2.2.2.2.2.2.2.2.2.2.2.2.2.2.1
theorem dLaw_law_3238 : decode cLaw_law 3238 = .ok (.istore 6, 2) := zfLaw_law_3214.2.2.2.2.2.2.2.2.2.2.2.2.2.2.2.2.2.1
theorem dLaw_law_3240 : decode cLaw_law 3240 = .ok (.aload_n 2, 1) := zfLaw_law_3214.2.2.2.2.2.2.2.2.2.2.2.2.2.2.2.2.2.2.1
theorem dLaw_law_3241 : decode cLaw_law 3241 = .ok (.invokevirtual 179, 3) := zfLaw_law_3214.2.2.2.2.2.2.2.2.2.2.2.2.2.2.2.2.2.2.2.1
theorem dLaw_law_3244 : decode cLaw_law 3244 = .ok (.iload 5, 2) := zfLaw_law_3214.2.2.2.2.2.2.2.2.2.2.2.2.2.2.2.2.2.2.2.2.1
theorem dLaw_law_3246 : decode cLaw_law 3246 = .ok (.if_icmp .eq 5, 3) := zfLaw_law_3214.2.2.2.2.2.2.2.2.2.2.2.2.2.2.2.2.2.2.2.2.2.1
theorem dLaw_law_3249 : decode cLaw_law 3249 = .ok (.iconst 0, 1) := zfLaw_law_3214.2.2.2.2.2.2.2.2.2.2.2.2.2.2.2.2.2.2.2.2.2.2.1
theorem dLaw_law_3250 : decode cLaw_law 3250 = .ok (.ireturn, 1) := zfLaw_law_3214.2.2.2.2.2.2.2.2.2.2.2.2.2.2.2.2.2.2.2.2.2.2.2.1
theorem dLaw_law_3251 : decode cLaw_law 3251 = .ok (.iload 5, 2) := zfLaw_law_3214.2.2.2.2.2.2.2.2.2.2.2.2.2.2.2.2.2.2.2.2.2.2.2.2.1
theorem dLaw_law_3253 : decode cLaw_law 3253 = .ok (.ifCond .ne 16, 3) := zfLaw_law_3214.2.2.2.2.2.2.2.2.2.2.2.2.2.2.2.2.2.2.2.2.2.2.2.2.2.1
theorem dLaw_law_3256 : decode cLaw_law 3256 = .ok (.aload_n 3, 1) := zfLaw_law_3214.2.2.2.2.2.2.2.2.2.2.2.2.2.2.2.2.2.2.2.2.2.2.2.2.2.2.1
theorem dLaw_law_3257 : decode cLaw_law 3257 = .ok (.getfield 13, 3) := zfLaw_law_3214.2.2.2.2.2.2.2.2.2.2.2.2.2.2.2.2.2.2.2.2.2.2.2.2.2.2.2.1
theorem dLaw_law_3260 : decode cLaw_law 3260 = .ok (.iload 6, 2) := zfLaw_law_3214.2.2.2.2.2.2.2.2.2.2.2.2.2.2.2.2.2.2.2.2.2.2.2.2.2.2.2.2.1
theorem dLaw_law_3262 : decode cLaw_law 3262 = .ok (.i2l, 1) := zfLaw_law_3214.2.2.2.2.2.2.2.2.2.2.2.2.2.2.2.2.2.2.2.2.2.2.2.2.2.2.2.2.2.1
theorem dLaw_law_3263 : decode cLaw_law 3263 = .ok (.lcmp, 1) := zfLaw_law_3214.2.2.2.2.2.2.2.2.2.2.2.2.2.2.2.2.2.2.2.2.2.2.2.2.2.2.2.2.2.2.1
theorem dLaw_law_3264 : decode cLaw_law 3264 = .ok (.ifCond .eq 5, 3) := zfLaw_law_3214.2.2.2.2.2.2.2.2.2.2.2.2.2.2.2.2.2.2.2.2.2.2.2.2.2.2.2.2.2.2.2.1
theorem zfLaw_law_3267 : decode cLaw_law 3267 = .ok (.iconst 0, 1) ∧ decode cLaw_law 3268 = .ok (.ireturn, 1) ∧ decode cLaw_law 3269 = .ok (.goto 185, 3) ∧ decode cLaw_law 3272 = .ok (.aload_n 1, 1) ∧ decode cLaw_law 3273 = .ok (.invokevirtual 323, 3) ∧ decode cLaw_law 3276 = .ok (.aload_n 2, 1) ∧ decode cLaw_law 3277 = .ok (.invokevirtual 327, 3) ∧ decode cLaw_law 3280 = .ok (.invokevirtual 223, 3) ∧ decode cLaw_law 3283 = .ok (.ifCond .ne 171, 3) ∧ decode cLaw_law 3286 = .ok (.iconst 0, 1) ∧ decode cLaw_law 3287 = .ok (.ireturn, 1) ∧ decode cLaw_law 3288 = .ok (.aload_n 1, 1) ∧ decode cLaw_law 3289 = .ok (.aload_n 0, 1) ∧ decode cLaw_law 3290 = .ok (.iload 4, 2) ∧ decode cLaw_law 3292 = .ok (.iconst 1, 1) ∧ decode cLaw_law 3293 = .ok (.iadd, 1) ∧ decode cLaw_law 3294 = .ok (.iaload, 1) ∧ decode cLaw_law 3295 = .ok (.aload_n 0, 1) ∧ decode cLaw_law 3296 = .ok (.iload 4, 2) ∧ decode cLaw_law 3298 = .ok (.iconst 2, 1) ∧ decode cLaw_law 3299 = .ok (.iadd, 1) ∧ decode cLaw_law 3300 = .ok (.iaload, 1) ∧ decode cLaw_law 3301 = .ok (.aload_n 3, 1) ∧ decode cLaw_law 3302 = .ok (.invokestatic 328, 3) ∧ decode cLaw_law 3305 = .ok (.istore 5, 2) ∧ decode cLaw_law 3307 = .ok (.aload_n 2, 1) ∧ decode cLaw_law 3308 = .ok (.aload_n 0, 1) ∧ decode cLaw_law 3309 = .ok (.iload 4, 2) ∧ decode cLaw_law 3311 = .ok (.iconst 1, 1) ∧ decode cLaw_law 3312 = .ok (.iadd, 1) ∧ decode cLaw_law 3313 = .ok (.iaload, 1) ∧ decode cLaw_law 3314 = .ok (.aload_n 0, 1) ∧ True := Jvm.Free.DS.facts (code := cLaw_law) 3267 [(.iconst 0, 1), (.ireturn, 1), (.goto 185, 3), (.aload_n 1, 1), (.invokevirtual 323, 3), (.aload_n 2, 1), (.invokevirtual 327, 3), (.invokevirtual 223, 3), (.ifCond .ne 171, 3), (.iconst 0, 1), (.ireturn, 1), (.aload_n 1, 1), (.aload_n 0, 1), (.iload 4, 2), (.iconst 1, 1), (.iadd, 1), (.iaload, 1), (.aload_n 0, 1), (.iload 4, 2), (.iconst 2, 1), (.iadd, 1), (.iaload, 1), (.aload_n 3, 1), (.invokestatic 328, 3), (.istore 5, 2), (.aload_n 2, 1), (.aload_n 0, 1), (.iload 4, 2), (.iconst 1, 1), (.iadd, 1), (.iaload, 1), (.aload_n 0, 1)] (by decide +kernel) (by decide +kernel)
theorem dLaw_law_3267 : decode cLaw_law 3267 = .ok (.iconst 0, 1) := zfLaw_law_3267.1
theorem dLaw_law_3268 : decode cLaw_law 3268 = .ok (.ireturn, 1) := zfLaw_law_3267.2.1
theorem dLaw_law_3269 : decode cLaw_law 3269 = .ok (.goto 185, 3) := zfLaw_law_3267.2.2.1
theorem dLaw_law_3272 : decode cLaw_law 3272 = .ok (.aload_n 1, 1) := zfLaw_law_3267.2.2.2.1
theorem dLaw_law_3273 : decode cLaw_law 3273 = .ok (.invokevirtual 323, 3) := zfLaw_law_3267.2.2.2.2.1
theorem dLaw_law_3276 : decode cLaw_law 3276 = .ok (.aload_n 2, 1) := zfLaw_law_3267.2.2.2.2.2.1
theorem dLaw_law_3277 : decode cLaw_law 3277 = .ok (.invokevirtual 327, 3) := zfLaw_law_3267.2.2.2.2.2.2.1
theorem dLaw_law_3280 : decode cLaw_law 3280 = .ok (.invokevirtual 223, 3) := zfLaw_law_3267.2.2.2.2.2.2.2.1
theorem dLaw_law_3283 : decode cLaw_law 3283 = .ok (.ifCond .ne 171, 3) := zfLaw_law_3267.2.2.2.2.2.2.2.2.1
theorem dLaw_law_3286 : decode cLaw_law 3286 = .ok (.iconst 0, 1) := zfLaw_law_3267.2.2.2.2.2.2.2.2.2.1
theorem dLaw_law_3287 : decode cLaw_law 3287 = .ok (.ireturn, 1) := zfLaw_law_3267.2.2.2.2.2.2.2.2.2.2.1
theorem dLaw_law_3288 : decode cLaw_law 3288 = .ok (.aload_n 1, 1) := zfLaw_law_3267.2.2.2.2.2.2.2.2.2.2.2.1
theorem dLaw_law_3289 : decode cLaw_law 3289 = .ok (.aload_n 0, 1) := zfLaw_law_3267.2.2.2.2.2.2.2.2.2.2.2.2.1
theorem dLaw_law_3290 : decode cLaw_law 3290 = .ok (.iload 4, 2) := zfLaw_law_3267.2.2.2.2.2.2.2.2.2.2.2.2.2.1
theorem dLaw_law_3292 : decode cLaw_law 3292 = .ok (.iconst 1, 1) := zfLaw_law_3267.2.2.2.2.2.2.2.2.2.2.2.2.2.2.1
theorem dLaw_law_3293 : decode cLaw_law 3293 = .ok (.iadd, 1) := zfLaw_law_3267.2.2.2.2.2.2.2.2.2.2.2.2.2.2.2.1
theorem dLaw_law_3294 : decode cLaw_law 3294 = .ok (.iaload, 1) := zfLaw_law_3267.2.2.2.2.2.2.2.2.2.2.2.2.2.2.2.2.1
theorem dLaw_law_3295 : decode cLaw_law 3295 = .ok (.aload_n 0, 1) := zfLaw_law_3267.2.2.2.2.2.2.2.2.2.2.2.2.2.2.2.2.2.1
theorem dLaw_law_3296 : decode cLaw_law 3296 = .ok (.iload 4, 2) := zfLaw_law_3267.2.2.2.2.2.2.2.2.2.2.2.2.2.2.2.2.2.2.1
theorem dLaw_law_3298 : decode cLaw_law 3298 = .ok (.iconst 2, 1) := zfLaw_law_3267.2.2.2.2.2.2.2.2.2.2.2.2.2.2.2.2.2.2.2.1
theorem dLaw_law_3299 : decode cLaw_law 3299 = .ok (.iadd, 1) := zfLaw_law_3267.2.2.2.2.2.2.2.2.2.2.2.2.2.2.2.2.2.2.2.2.1
theorem dLaw_law_3300 : decode cLaw_law 3300 = .ok (.iaload, 1) := zfLaw_law_3267.2.2.2.2.2.2.2.2.2.2.2.2.2.2.2.2.2.2.2.2.2.1
theorem dLaw_law_3301 : decode cLaw_law 3301 = .ok (.aload_n 3, 1) := zfLaw_law_3267.2.2.2.2.2.2.2.2.2.2.2.2.2.2.2.2.2.2.2.2.2.2.1
theorem dLaw_law_3302 : decode cLaw_law 3302 = .ok (.invokestatic 328, 3) := zfLaw_law_3267.2.2.2.2.2.2.2.2.2.2.2.2.2.2.2.2.2.2.2.2.2.2.2.1
theorem dLaw_law_3305 : decode cLaw_law 3305 = .ok (.istore 5, 2) := zfLaw_law_3267.2.2.2.2.2.2.2.2.2.2.2.2.2.2.2.2.2.2.2.2.2.2.2.2.1
theorem dLaw_law_3307 : decode cLaw_law 3307 = .ok (.aload_n 2, 1) := zfLaw_law_3267.2.2.2.2.2.2.2.2.2.2.2.2.2.2.2.2.2.2.2.2.2.2.2.2.2.1
theorem dLaw_law_3308 : decode cLaw_law 3308 = .ok (.aload_n 0, 1) := zfLaw_law_3267.2.2.2.2.2.2.2.2.2.2.2.2.2.2.2.2.2.2.2.2.2.2.2.2.2.2.1
theorem dLaw_law_3309 : decode cLaw_law 3309 = .ok (.iload 4, 2) := zfLaw_law_3267.2.2.2.2.2.2.2.2.2.2.2.2.2.2.2.2.2.2.2.2.2.2.2.2.2.2.2.1
theorem dLaw_law_3311 : decode cLaw_law 3311 = .ok (.iconst 1, 1) := zfLaw_law_3267.2.2.2.2.2.2.2.2.2.2.2.2.2.2.2.2.2.2.2.2.2.2.2.2.2.2.2.2.1
theorem dLaw_law_3312 : decode cLaw_law 3312 = .ok (.iadd, 1) := zfLaw_law_3267.2.2.2.2.2.2.2.2.2.2.2.2.2.2.2.2.2.2.2.2.2.2.2.2.2.2.2.2.2.1
theorem dLaw_law_3313 : decode cLaw_law 3313 = .ok (.iaload, 1) := zfLaw_law_3267.2.2.2.2.2.2.2.2.2.2.2.2.2.2.2.2.2.2.2.2.2.2.2.2.2.2.2.2.2.2.1
theorem dLaw_law_3314 : decode cLaw_law 3314 = .ok (.aload_n 0, 1) := zfLaw_law_3267.2.2.2.2.2.2.2.2.2.2.2.2.2.2.2.2.2.2.2.2.2.2.2.2.2.2.2.2.2.2.2.1
theorem zfLaw_law_3315 : decode cLaw_law 3315 = .ok (.iload 4, 2) ∧ decode cLaw_law 3317 = .ok (.iconst 2, 1) ∧ decode cLaw_law 3318 = .ok (.iadd, 1) ∧ decode cLaw_law 3319 = .ok (.iaload, 1) ∧ decode cLaw_law 3320 = .ok (.invokevirtual 330, 3) ∧ decode cLaw_law 3323 = .ok (.istore 6, 2) ∧ decode cLaw_law 3325 = .ok (.aload_n 2, 1) ∧ decode cLaw_law 3326 = .ok (.invokevirtual 179, 3) ∧ decode cLaw_law 3329 = .ok (.iload 5, 2) ∧ decode cLaw_law 3331 = .ok (.if_icmp .eq 5, 3) ∧ decode cLaw_law 3334 = .ok (.iconst 0, 1) ∧ decode cLaw_law 3335 = .ok (.ireturn, 1) ∧ decode cLaw_law 3336 = .ok (.iload 5, 2) ∧ decode cLaw_law 3338 = .ok (.ifCond .ne 16, 3) ∧ decode cLaw_law 3341 = .ok (.aload_n 3, 1) ∧ decode cLaw_law 3342 = .ok (.getfield 13, 3) ∧ decode cLaw_law 3345 = .ok (.iload 6, 2) ∧ decode cLaw_law 3347 = .ok (.i2l, 1) ∧ decode cLaw_law 3348 = .ok (.lcmp, 1) ∧ decode cLaw_law 3349 = .ok (.ifCond .eq 5, 3) ∧ decode cLaw_law 3352 = .ok (.iconst 0, 1) ∧ decode cLaw_law 3353 = .ok (.ireturn, 1) ∧ decode cLaw_law 3354 = .ok (.goto 100, 3) ∧ decode cLaw_law 3357 = .ok (.aload_n 1, 1) ∧ decode cLaw_law 3358 = .ok (.aload_n 0, 1) ∧ decode cLaw_law 3359 = .ok (.iload 4, 2) ∧ decode cLaw_law 3361 = .ok (.iconst 1, 1) ∧ decode cLaw_law 3362 = .ok (.iadd, 1) ∧ decode cLaw_law 3363 = .ok (.iaload, 1) ∧ decode cLaw_law 3364 = .ok (.aload_n 3, 1) ∧ decode cLaw_law 3365 = .ok (.invokestatic 331, 3) ∧ decode cLaw_law 3368 = .ok (.istore 5, 2) ∧ True := Jvm.Free.DS.facts (code := cLaw_law) 3315 [(.iload 4, 2), (.iconst 2, 1), (.iadd, 1), (.iaload, 1), (.invokevirtual 330, 3), (.istore 6, 2), (.aload_n 2, 1), (.invokevirtual 179, 3), (.iload 5, 2), (.if_icmp .eq 5, 3), (.iconst 0, 1), (.ireturn, 1), (.iload 5, 2), (.ifCond .ne 16, 3), (.aload_n 3, 1), (.getfield 13, 3), (.iload 6, 2), (.i2l, 1), (.lcmp, 1), (.ifCond .eq 5, 3), (.iconst 0, 1), (.ireturn, 1), (.goto 100, 3), (.aload_n 1, 1), (.aload_n 0, 1), (.iload 4, 2), (.iconst 1, 1), (.iadd, 1), (.iaload, 1), (.aload_n 3, 1), (.invokestatic 331, 3), (.istore 5, 2)] (by decide +kernel) (by decide +kernel)
theorem dLaw_law_3315 : decode cLaw_law 3315 = .ok (.iload 4, 2) := zfLaw_law_3315.1
theorem dLaw_law_3317 : decode cLaw_law 3317 = .ok (.iconst 2, 1) := zfLaw_law_3315.2.1
theorem dLaw_law_3318 : decode cLaw_law 3318 = .ok (.iadd, 1) := zfLaw_law_3315.2.2.1
theorem dLaw_law_3319 : decode cLaw_law 3319 = .ok (.iaload, 1) := zfLaw_law_3315.2.2.2.1
theorem dLaw_law_3320 : decode cLaw_law 3320 = .ok (.invokevirtual 330, 3) := zfLaw_law_3315.2.2.2.2.1
theorem dLaw_law_3323 : decode cLaw_law 3323 = .ok (.istore 6, 2) := zfLaw_law_3315.2.2.2.2.2.1
theorem dLaw_law_3325 : decode cLaw_law 3325 = .ok (.aload_n 2, 1) := zfLaw_law_3315.2.2.2.2.2.2.1
theorem dLaw_law_3326 : decode cLaw_law 3326 = .ok (.invokevirtual 179, 3) := zfLaw_law_3315.2.2.2.2.2.2.2.1
theorem dLaw_law_3329 : decode cLaw_law 3329 = .ok (.iload 5, 2) := zfLaw_law_3315.2.2.2.2.2.2.2.2.1
theorem dLaw_law_3331 : decode cLaw_law 3331 = .ok (.if_icmp .eq 5, 3) := zfLaw_law_3315.2.2.2.2.2.2.2.2.2.1
theorem dLaw_law_3334 : decode cLaw_law 3334 = .ok (.iconst 0, 1) := zfLaw_law_3315.2.2.2.2.2.2.2.2.2.2.1
theorem dLaw_law_3335 : decode cLaw_law 3335 = .ok (.ireturn, 1) := zfLaw_law_3315.2.2.2.2.2.2.2.2.2.2.2.1
theorem dLaw_law_3336 : decode cLaw_law 3336 = .ok (.iload 5, 2) := zfLaw_law_3315.2.2.2.2.2.2.2.2.2.2.2.2.1
theorem dLaw_law_3338 : decode cLaw_law 3338 = .ok (.ifCond .ne 16, 3) := zfLaw_law_3315.2.2.2.2.2.2.2.2.2.2.2.2.2.1
theorem dLaw_law_3341 : decode cLaw_law 3341 = .ok (.aload_n 3, 1) := zfLaw_law_3315.2.2.2.2.2.2.2.2.2.2.2.2.2.2.1
theorem dLaw_law_3342 : decode cLaw_law 3342 = .ok (.getfield 13, 3) := zfLaw_law_3315.2.2.2.2.2.2.2.2.2.2.2.2.2.2.2.1
theorem dLaw_law_3345 : decode cLaw_law 3345 = .ok (.iload 6, 2) := zfLaw_law_3315.2.2.2.2.2.2.2.2.2.2.2.2.2.2.2.2.1
theorem dLaw_law_3347 : decode cLaw_law 3347 = .ok (.i2l, 1) := zfLaw_law_3315.2.2.2.2.2.2.2.2.2.2.2.2.2.2.2.2.2.1
theorem dLaw_law_3348 : decode cLaw_law 3348 = .ok (.lcmp, 1) := zfLaw_law_3315.2.2.2.2.2.2.2.2.2.2.2.2.2.2.2.2.2.2.1
theorem dLaw_law_3349 : decode cLaw_law 3349 = .ok (.ifCond .eq 5, 3) := zfLaw_law_3315.2.2.2.2.2.2.2.2.2.2.2.2.2.2.2.2.2.2.2.1
theorem dLaw_law_3352 : decode cLaw_law 3352 = .ok (.iconst 0, 1) := zfLaw_law_3315.2.2.2.2.2.2.2.2.2.2.2.2.2.2.2.2.2.2.2.2.1
theorem dLaw_law_3353 : decode cLaw_law 3353 = .ok (.ireturn, 1) := zfLaw_law_3315.2.2.2.2.2.2.2.2.2.2.2.2.2.2.2.2.2.2.2.2.2.1
theorem dLaw_law_3354 : decode cLaw_law 3354 = .ok (.goto 100, 3) := zfLaw_law_3315.2.2.2.2.2.2.2.2.2.2.2.2.2.2.2.2.2.2.2.2.2.2.1
theorem dLaw_law_3357 : decode cLaw_law 3357 = .ok (.aload_n 1, 1) := zfLaw_law_3315.2.2.2.2.2.2.2.2.2.2.2.2.2.2.2.2.2.2.2.2.2.2.2.1
theorem dLaw_law_3358 : decode cLaw_law 3358 = .ok (.aload_n 0, 1) := zfLaw_law_3315.2.2.2.2.2.2.2.2.2.2.2.2.2.2.2.2.2.2.2.2.2.2.2.2.1
theorem dLaw_law_3359 : decode cLaw_law 3359 = .ok (.iload 4, 2) := zfLaw_law_3315.2.2.2.2.2.2.2.2.2.2.2.2.2.2.2.2.2.2.2.2.2.2.2.2.2.1
theorem dLaw_law_3361 : decode cLaw_law 3361 = .ok (.iconst 1, 1) := zfLaw_law_3315.2.2.2.2.2.2.2.2.2.2.2.2.2.2.2.2.2.2.2.2.2.2.2.2.2.2.1
theorem dLaw_law_3362 : decode cLaw_law 3362 = .ok (.iadd, 1) := zfLaw_law_3315.2.2.2.2.2.2.2.2.2.2.2.2.2.2.2.2.2.2.2.2.2.2.2.2.2.2.2.1
theorem dLaw_law_3363 : decode cLaw_law 3363 = .ok (.iaload, 1) := zfLaw_law_3315.2.2.2.2.2.2.2.2.2.2.2.2.2.2.2.2.2.2.2.2.2.2.2.2.2.2.2.2.1
theorem dLaw_law_3364 : decode cLaw_law 3364 = .ok (.aload_n 3, 1) := zfLaw_law_3315.2.2.2.2.2.2.2.2.2.2.2.2.2.2.2.2.2.2.2.2.2.2.2.2.2.2.2.2.2.1
theorem dLaw_law_3365 : decode cLaw_law 3365 = .ok (.invokestatic 331, 3) := zfLaw_law_3315.2.2.2.2.2.2.2.2.2.2.2.2.2.2.2.2.2.2.2.2.2.2.2.2.2.2.2.2.2.2.1
theorem dLaw_law_3368 : decode cLaw_law 3368 = .ok (.istore 5, 2) := zfLaw_law_3315.2.2.2.2.2.2.2.2.2.2.2.2.2.2.2.2.2.2.2.2.2.2.2.2.2.2.2.2.2.2.2.1
theorem zfLaw_law_3370 : decode cLaw_law 3370 = .ok (.aload_n 2, 1) ∧ decode cLaw_law 3371 = .ok (.aload_n 0, 1) ∧ decode cLaw_law 3372 = .ok (.iload 4, 2) ∧ decode cLaw_law 3374 = .ok (.iconst 1, 1) ∧ decode cLaw_law 3375 = .ok (.iadd, 1) ∧ decode cLaw_law 3376 = .ok (.iaload, 1) ∧ decode cLaw_law 3377 = .ok (.invokevirtual 333, 3) ∧ decode cLaw_law 3380 = .ok (.istore 6, 2) ∧ decode cLaw_law 3382 = .ok (.aload_n 2, 1) ∧ decode cLaw_law 3383 = .ok (.invokevirtual 179, 3) ∧ decode cLaw_law 3386 = .ok (.iload 5, 2) ∧ decode cLaw_law 3388 = .ok (.if_icmp .eq 5, 3) ∧ decode cLaw_law 3391 = .ok (.iconst 0, 1) ∧ decode cLaw_law 3392 = .ok (.ireturn, 1) ∧ decode cLaw_law 3393 = .ok (.iload 5, 2) ∧ decode cLaw_law 3395 = .ok (.ifCond .ne 16, 3) ∧ decode cLaw_law 3398 = .ok (.aload_n 3, 1) ∧ decode cLaw_law 3399 = .ok (.getfield 13, 3) ∧ decode cLaw_law 3402 = .ok (.iload 6, 2) ∧ decode cLaw_law 3404 = .ok (.i2l, 1) ∧ decode cLaw_law 3405 = .ok (.lcmp, 1) ∧ decode cLaw_law 3406 = .ok (.ifCond .eq 5, 3) ∧ decode cLaw_law 3409 = .ok (.iconst 0, 1) ∧ decode cLaw_law 3410 = .ok (.ireturn, 1) ∧ decode cLaw_law 3411 = .ok (.goto 43, 3) ∧ decode cLaw_law 3414 = .ok (.aload_n 1, 1) ∧ decode cLaw_law 3415 = .ok (.invokevirtual 334, 3) ∧ decode cLaw_law 3418 = .ok (.aload_n 2, 1) ∧ decode cLaw_law 3419 = .ok (.invokevirtual 337, 3) ∧ decode cLaw_law 3422 = .ok (.if_icmp .eq 32, 3) ∧ decode cLaw_law 3425 = .ok (.iconst 0, 1) ∧ decode cLaw_law 3426 = .ok (.ireturn, 1) ∧ True := Jvm.Free.DS.facts (code := cLaw_law) 3370 [(.aload_n 2, 1), (.aload_n 0, 1), (.iload 4, 2), (.iconst 1, 1), (.iadd, 1), (.iaload, 1), (.invokevirtual 333, 3), (.istore 6, 2), (.aload_n 2, 1), (.invokevirtual 179, 3), (.iload 5, 2), (.if_icmp .eq 5, 3), (.iconst 0, 1), (.ireturn, 1), (.iload 5, 2), (.ifCond .ne 16, 3), (.aload_n 3, 1), (.getfield 13, 3), (.iload 6, 2), (.i2l, 1), (.lcmp, 1), (.ifCond .eq 5, 3), (.iconst 0, 1), (.ireturn, 1), (.goto 43, 3), (.aload_n 1, 1), (.invokevirtual 334, 3), (.aload_n 2, 1), (.invokevirtual 337, 3), (.if_icmp .eq 32, 3), (.iconst 0, 1), (.ireturn, 1)] (by decide +kernel) (by decide +kernel)
theorem dLaw_law_3370 : decode cLaw_law 3370 = .ok (.aload_n 2, 1) := zfLaw_law_3370.1
theorem dLaw_law_3371 : decode cLaw_law 3371 = .ok (.aload_n 0, 1) := zfLaw_law_3370.2.1
theorem dLaw_law_3372 : decode cLaw_law 3372 = .ok (.iload 4, 2) := zfLaw_law_3370.2.2.1
theorem dLaw_law_3374 : decode cLaw_law 3374 = .ok (.iconst 1, 1) := zfLaw_law_3370.2.2.2.1
theorem dLaw_law_3375 : decode cLaw_law 3375 = .ok (.iadd, 1) := zfLaw_law_3370.2.2.2.2.1
theorem dLaw_law_3376 : decode cLaw_law 3376 = .ok (.iaload, 1) := zfLaw_law_3370.2.2.2.2.2.1
theorem dLaw_law_3377 : decode cLaw_law 3377 = .ok (.invokevirtual 333, 3) := zfLaw_law_3370.2.2.2.2.2.2.1
theorem dLaw_law_3380 : decode cLaw_law 3380 = .ok (.istore 6, 2) := zfLaw_law_3370.2.2.2.2.2.2.2.1
theorem dLaw_law_3382 : decode cLaw_law 3382 = .ok (.aload_n 2, 1) := zfLaw_law_3370.2.2.2.2.2.2.2.2.1
theorem dLaw_law_3383 : decode cLaw_law 3383 = .ok (.invokevirtual 179, 3) := zfLaw_law_3370.2.2.2.2.2.2.2.2.2.1
theorem dLaw_law_3386 : decode cLaw_law 3386 = .ok (.iload 5, 2) := zfLaw_law_3370.2.2.2.2.2.2.2.2.2.2.1
theorem dLaw_law_3388 : decode cLaw_law 3388 = .ok (.if_icmp .eq 5, 3) := zfLaw_law_3370.2.2.2.2.2.2.2.2.2.2.2.1
theorem dLaw_law_3391 : decode cLaw_law 3391 = .ok (.iconst 0, 1) := zfLaw_law_3370.2.2.2.2.2.2.2.2.2.2.2.2.1
theorem dLaw_law_3392 : decode cLaw_law 3392 = .ok (.ireturn, 1) := zfLaw_law_3370.2.2.2.2.2.2.2.2.2.2.2.2.2.1
theorem dLaw_law_3393 : decode cLaw_law 3393 = .ok (.iload 5, 2) := zfLaw_law_3370.2.2.2.2.2.2.2.2.2.2.2.2.2.2.1
theorem dLaw_law_3395 : decode cLaw_law 3395 = .ok (.ifCond .ne 16, 3) := zfLaw_law_3370.2.2.2.2.2.2.2.2.2.2.2.2.2.2.2.1
theorem dLaw_law_3398 : decode cLaw_law 3398 = .ok (.aload_n 3, 1) := zfLaw_law_3370.2.2.2.2.2.2.2.2.2.2.2.2.2.2.2.2.1
theorem dLaw_law_3399 : decode cLaw_law 3399 = .ok (.getfield 13, 3) := zfLaw_law_3370.2.2.2.2.2.2.2.2.2.2.2.2.2.2.2.2.2.1
theorem dLaw_law_3402 : decode cLaw_law 3402 = .ok (.iload 6, 2) := zfLaw_law_3370.2.2.2.2.2.2.2.2.2.2.2.2.2.2.2.2.2.2.1
theorem dLaw_law_3404 : decode cLaw_law 3404 = .ok (.i2l, 1) := zfLaw_law_3370.2.2.2.2.2.2.2.2.2.2.2.2.2.2.2.2.2.2.2.1
theorem dLaw_law_3405 : decode cLaw_law 3405 = .ok (.lcmp, 1) := zfLaw_law_3370.2.2.2.2.2.2.2.2.2.2.2.2.2.2.2.2.2.2.2.2.1
theorem dLaw_law_3406 : decode cLaw_law 3406 = .ok (.ifCond .eq 5, 3) := zfLaw_law_3370.2.2.2.2.2.2.2.2.2.2.2.2.2.2.2.2.2.2.2.2.2.1
theorem dLaw_law_3409 : decode cLaw_law 3409 = .ok (.iconst 0, 1) := zfLaw_law_3370.2.2.2.2.2.2.2.2.2.2.2.2.2.2.2.2.2.2.2.2.2.2.1
theorem dLaw_law_3410 : decode cLaw_law 3410 = .ok (.ireturn, 1) := zfLaw_law_3370.2.2.2.2.2.2.2.2.2.2.2.2.2.2.2.2.2.2.2.2.2.2.2.1
theorem dLaw_law_3411 : decode cLaw_law 3411 = .ok (.goto 43, 3) := zfLaw_law_3370.2.2.2.2.2.2.2.2.2.2.2.2.2.2.2.2.2.2.2.2.2.2.2.2.1
theorem dLaw_law_3414 : decode cLaw_law 3414 = .ok (.aload_n 1, 1) := zfLaw_law_3370.2.2.2.2.2.2.2.2.2.2.2.2.2.2.2.2.2.2.2.2.2.2.2.2.2.1
theorem dLaw_law_3415 : decode cLaw_law 3415 = .ok (.invokevirtual 334, 3) := zfLaw_law_3370.2.2.2.2.2.2.2.2.2.2.2.2.2.2.2.2.2.2.2.2.2.2.2.2.2.2.1
theorem dLaw_law_3418 : decode cLaw_law 3418 = .ok (.aload_n 2, 1) := zfLaw_law_3370.2.2.2.2.2.2.2.2.2.2.2.2.2.2.2.2.2.2.2.2.2.2.2.2.2.2.2.1
theorem dLaw_law_3419 : decode cLaw_law 3419 = .ok (.invokevirtual 337, 3) := zfLaw_law_3370.2.2.2.2.2.2.2.2.2.2.2.2.2.2.2.2.2.2.2.2.2.2.2.2.2.2.2.2.1
theorem dLaw_law_3422 : decode cLaw_law 3422 = .ok (.if_icmp .eq 32, 3) := zfLaw_law_3370.2.2.2.2.2.2.2.2.2.2.2.2.2.2.2.2.2.2.2.2.2.2.2.2.2.2.2.2.2.1
theorem dLaw_law_3425 : decode cLaw_law 3425 = .ok (.iconst 0, 1) := zfLaw_law_3370.2.2.2.2.2.2.2.2.2.2.2.2.2.2.2.2.2.2.2.2.2.2.2.2.2.2.2.2.2.2.1
theorem dLaw_law_3426 : decode cLaw_law 3426 = .ok (.ireturn, 1) := zfLaw_law_3370.2.2.2.2.2.2.2.2.2.2.2.2.2.2.2.2.2.2.2.2.2.2.2.2.2.2.2.2.2.2.2.1
theorem zfLaw_law_3427 : decode cLaw_law 3427 = .ok (.aload_n 1, 1) ∧ decode cLaw_law 3428 = .ok (.invokevirtual 338, 3) ∧ decode cLaw_law 3431 = .ok (.aload_n 2, 1) ∧ decode cLaw_law 3432 = .ok (.invokevirtual 342, 3) ∧ decode cLaw_law 3435 = .ok (.if_icmp .eq 19, 3) ∧ decode cLaw_law 3438 = .ok (.iconst 0, 1) ∧ decode cLaw_law 3439 = .ok (.ireturn, 1) ∧ decode cLaw_law 3440 = .ok (.aload_n 1, 1) ∧ decode cLaw_law 3441 = .ok (.invokevirtual 343, 3) ∧ decode cLaw_law 3444 = .ok (.aload_n 2, 1) ∧ decode cLaw_law 3445 = .ok (.invokevirtual 347, 3) ∧ decode cLaw_law 3448 = .ok (.lcmp, 1) ∧ decode cLaw_law 3449 = .ok (.ifCond .eq 5, 3) ∧ decode cLaw_law 3452 = .ok (.iconst 0, 1) ∧ decode cLaw_law 3453 = .ok (.ireturn, 1) ∧ decode cLaw_law 3454 = .ok (.iinc 4 4, 3) ∧ decode cLaw_law 3457 = .ok (.goto (-3430), 3) ∧ decode cLaw_law 3460 = .ok (.iconst 1, 1) ∧ decode cLaw_law 3461 = .ok (.ireturn, 1) ∧ True := Jvm.Free.DS.facts (code := cLaw_law) 3427 [(.aload_n 1, 1), (.invokevirtual 338, 3), (.aload_n 2, 1), (.invokevirtual 342, 3), (.if_icmp .eq 19, 3), (.iconst 0, 1), (.ireturn, 1), (.aload_n 1, 1), (.invokevirtual 343, 3), (.aload_n 2, 1), (.invokevirtual 347, 3), (.lcmp, 1), (.ifCond .eq 5, 3), (.iconst 0, 1), (.ireturn, 1), (.iinc 4 4, 3), (.goto (-3430), 3), (.iconst 1, 1), (.ireturn, 1)] (by decide +kernel) (by decide +kernel)
theorem dLaw_law_3427 : decode cLaw_law 3427 = .ok (.aload_n 1, 1) := zfLaw_law_3427.1
theorem dLaw_law_3428 : decode cLaw_law 3428 = .ok (.invokevirtual 338, 3) := zfLaw_law_3427.2.1
theorem dLaw_law_3431 : decode cLaw_law 3431 = .ok (.aload_n 2, 1) := zfLaw_law_3427.2.2.1
theorem dLaw_law_3432 : decode cLaw_law 3432 = .ok (.invokevirtual 342, 3) := zfLaw_law_3427.2.2.2.1
theorem dLaw_law_3435 : decode cLaw_law 3435 = .ok (.if_icmp .eq 19, 3) := zfLaw_law_3427.2.2.2.2.1
theorem dLaw_law_3438 : decode cLaw_law 3438 = .ok (.iconst 0, 1) := zfLaw_law_3427.2.2.2.2.2.1
theorem dLaw_law_3439 : decode cLaw_law 3439 = .ok (.ireturn, 1) := zfLaw_law_3427.2.2.2.2.2.2.1
theorem dLaw_law_3440 : decode cLaw_law 3440 = .ok (.aload_n 1, 1) := zfLaw_law_3427.2.2.2.2.2.2.2.1
theorem dLaw_law_3441 : decode cLaw_law 3441 = .ok (.invokevirtual 343, 3) := zfLaw_law_3427.2.2.2.2.2.2.2.2.1
theorem dLaw_law_3444 : decode cLaw_law 3444 = .ok (.aload_n 2, 1) := zfLaw_law_3427.2.2.2.2.2.2.2.2.2.1
theorem dLaw_law_3445 : decode cLaw_law 3445 = .ok (.invokevirtual 347, 3) := zfLaw_law_3427.2.2.2.2.2.2.2.2.2.2.1
theorem dLaw_law_3448 : decode cLaw_law 3448 = .ok (.lcmp, 1) := zfLaw_law_3427.2.2.2.2.2.2.2.2.2.2.2.1
theorem dLaw_law_3449 : decode cLaw_law 3449 = .ok (.ifCond .eq 5, 3) := zfLaw_law_3427.2.2.2.2.2.2.2.2.2.2.2.2.1
theorem dLaw_law_3452 : decode cLaw_law 3452 = .ok (.iconst 0, 1) := zfLaw_law_3427.2.2.2.2.2.2.2.2.2.2.2.2.2.1
theorem dLaw_law_3453 : decode cLaw_law 3453 = .ok (.ireturn, 1) := zfLaw_law_3427.2.2.2.2.2.2.2.2.2.2.2.2.2.2.1
theorem dLaw_law_3454 : decode cLaw_law 3454 = .ok (.iinc 4 4, 3) := zfLaw_law_3427.2.2.2.2.2.2.2.2.2.2.2.2.2.2.2.1
theorem dLaw_law_3457 : decode cLaw_law 3457 = .ok (.goto (-3430), 3) := zfLaw_law_3427.2.2.2.2.2.2.2.2.2.2.2.2.2.2.2.2.1
theorem dLaw_law_3460 : decode cLaw_law 3460 = .ok (.iconst 1, 1) := zfLaw_law_3427.2.2.2.2.2.2.2.2.2.2.2.2.2.2.2.2.2.1
theorem dLaw_law_3461 : decode cLaw_law 3461 = .ok (.ireturn, 1) := zfLaw_law_3427.2.2.2.2.2.2.2.2.2.2.2.2.2.2.2.2.2.2.1
end
section
section LAW3
variable {G : zG} {l : Launch} {h h' h0 h1 h2 : zHp} {ad ma ma2 : Nat → Nat} {S S' : zSt} {th : Int} {b L : Nat} {xs : Nat → Int32} {bc bs pc : Nat} {ls : List (Option Value)} {st : List Value}
/-- what a case comes to: the state of both again -/
def zLK (G : zG) (l : Launch) (b L : Nat) (xs : Nat → Int32) (ad ma : Nat → Nat) (ou : Nat) (i : Int) (bc bs : Nat) : Prop := ∀ (bc' bs' : Nat) (h2 : zHp) (ma2 : Nat → Nat) (S2 : zSt) (y5 y6 : Option Value), zLi G h2 ad ma2 ou S2 → ma2 0 = ma 0 → bc ≤ bc' + 210 → bs ≤ bs' + 12100 → zR G l (zLJ G b L xs) bc' bs' h2 3454 [some (.ref b), some (.ref (ad 0)), some (.ref (ma 0)), some (.ref ou), some (zi i), y5, y6] []
theorem zSg_self (a : Int) : zSg a a = 0 := by unfold zSg; simp
theorem z_icmp_self {J : zJ} {a : Int} {off : Int} {tgt : Nat} (hd : decode J.1.2.1 pc = .ok (.if_icmp .eq off, 3)) (ht : (pc : Int) + off = (tgt : Int)) (k1 : zR G l J bc bs h tgt ls st) : zR G l J bc bs h pc ls (zi a :: zi a :: st) := by
  rw [zwd_i a]
  exact z_icmp_eq hd ht (zwd_r a) (zwd_r a) (fun _ => k1) (fun c => absurd rfl c)
theorem zwl_i (x : Int) : zl x = zl (Int64.ofInt x).toInt := congrArg Value.long (Int64.ofInt_toInt (Int64.ofInt x)).symm
theorem z_lcmp_self {J : zJ} {a : Int} (hd : decode J.1.2.1 pc = .ok (.lcmp, 1)) (k1 : zR G l J bc bs h (pc + 1) ls (zi 0 :: st)) : zR G l J bc bs h pc ls (zl a :: zl a :: st) := by
  rw [zwl_i a]
  have r1 := Int64.le_toInt (Int64.ofInt a)
  have r2 := Int64.toInt_lt (Int64.ofInt a)
  refine z_lcmpI ⟨by omega, by omega⟩ ⟨by omega, by omega⟩ hd ?_
  rw [zSg_self]
  exact k1
theorem c_Law_0 {ou : Nat} {i : Int} {y5 y6 : Option Value} (I : zLi G h ad ma ou S) (hi : 0 ≤ i ∧ i + 4 ≤ L) (hb1 : 210 ≤ bc) (hb2 : 12100 ≤ bs) (K : zLK G l b L xs ad ma ou i bc bs) : zR G l (zLJ G b L xs) bc bs h 256 [some (.ref b), some (.ref (ad 0)), some (.ref (ma 0)), some (.ref ou), some (zi i), y5, y6] [] := by
  obtain ⟨th, n0, sv, hC, hM, hO, okb, eo, n1, n2, n3⟩ := I
  have oka := okb.1
  have h16 : ∀ k, k < 4 → (S.1 k).length ≤ 16 := fun k hk => (hC.ls hk).len
  have x1 := zX9_r (xs := xs) (i + 1)
  have x2 := zX9_r (xs := xs) (i + 2)
  have x3 := zX9_r (xs := xs) (i + 3)
  refine z_aload_n dLaw_law_256 rfl ?_
  refine z_aload_n dLaw_law_257 rfl ?_
  refine z_iload dLaw_law_258 rfl ?_
  refine z_iconst dLaw_law_260 ?_
  refine z_iadd dLaw_law_261 ?_
  refine z_sld (by omega) dLaw_law_262 ?_
  refine z_aload_n dLaw_law_263 rfl ?_
  refine z_iload dLaw_law_264 rfl ?_
  refine z_iconst dLaw_law_266 ?_
  refine z_iadd dLaw_law_267 ?_
  refine z_sld (by omega) dLaw_law_268 ?_
  refine z_aload_n dLaw_law_269 rfl ?_
  refine z_iload dLaw_law_270 rfl ?_
  refine z_iconst dLaw_law_272 ?_
  refine z_iadd dLaw_law_273 ?_
  refine z_sld (by omega) dLaw_law_274 ?_
  refine z_aload_n dLaw_law_275 rfl ?_
  refine z_callSX (bc' := bc - 6) (bs' := bs - 36) MW_Law_put lk_Law_173 dLaw_law_276 (k_Law_put hC (zX9_r (xs := xs) (i + 1)) (zX9_r (xs := xs) (i + 2)) (zX9_r (xs := xs) (i + 3)) eo n1) rfl rfl (Nat.le_of_ble_eq_true rfl) (Nat.le_of_ble_eq_true rfl) (Nat.le_of_ble_eq_true rfl) (by omega) (by omega) (fun _ _ q => q.elim) ?_
  rintro _ h1 ⟨k5, z5, sv5, rfl, C1, f1, eo1, e5⟩
  have H1 : zMod G h1 ma S th := hM.mid n2 n3 f1
  refine z_istore dLaw_law_279 (Nat.le_of_ble_eq_true rfl) ?_
  refine z_aload_n dLaw_law_281 rfl ?_
  refine z_aload_n dLaw_law_282 rfl ?_
  refine z_iload dLaw_law_283 rfl ?_
  refine z_iconst dLaw_law_285 ?_
  refine z_iadd dLaw_law_286 ?_
  refine z_sld (by omega) dLaw_law_287 ?_
  refine z_aload_n dLaw_law_288 rfl ?_
  refine z_iload dLaw_law_289 rfl ?_
  refine z_iconst dLaw_law_291 ?_
  refine z_iadd dLaw_law_292 ?_
  refine z_sld (by omega) dLaw_law_293 ?_
  refine z_aload_n dLaw_law_294 rfl ?_
  refine z_iload dLaw_law_295 rfl ?_
  refine z_iconst dLaw_law_297 ?_
  refine z_iadd dLaw_law_298 ?_
  refine z_sld (by omega) dLaw_law_299 ?_
  refine z_callV (bc' := bc - 6 - 1) (bs' := bs - 36 - 61) MV_Mod_put lk_Law_178 dLaw_law_300 (k_Mod_put H1 (zX9_r (xs := xs) (i + 1)) (zX9_r (xs := xs) (i + 2)) (zX9_r (xs := xs) (i + 3)) h16) rfl rfl (Nat.le_of_ble_eq_true rfl) rfl H1.2.1 (Nat.le_of_ble_eq_true rfl) (Nat.le_of_ble_eq_true rfl) (by omega) (by omega) (fun _ _ q => q.elim) ?_
  rintro _ h2 ⟨ma2, th2, z6, rfl, m0, H2, F2, A2, e6⟩
  have hs : (k5 = th2 ∧ z5 = z6 ∧ k5 = 0) ∨ (k5 = th2 ∧ (k5 = 1 ∨ k5 = 2 ∨ k5 = 3)) := by
    rcases e5 with ⟨a5, b5⟩ | ⟨a5, b5⟩ | ⟨a5, b5⟩ | ⟨a5, b5⟩
    · rcases e6 with ⟨a6, b6⟩ | ⟨a6, b6⟩ | ⟨a6, b6⟩ | ⟨a6, b6⟩
      · exact Or.inl ⟨b5.trans b6.symm, Sum.inl.inj (a5.symm.trans a6), b5⟩
      · exact absurd (a5.symm.trans a6) (by first | (simp; done) | decide)
      · exact absurd (a5.symm.trans a6) (by first | (simp; done) | decide)
      · exact absurd (a5.symm.trans a6) (by first | (simp; done) | decide)
    · rcases e6 with ⟨a6, b6⟩ | ⟨a6, b6⟩ | ⟨a6, b6⟩ | ⟨a6, b6⟩
      · exact absurd (a5.symm.trans a6) (by first | (simp; done) | decide)
      · exact Or.inr ⟨b5.trans b6.symm, by omega⟩
      · exact absurd (a5.symm.trans a6) (by first | (simp; done) | decide)
      · exact absurd (a5.symm.trans a6) (by first | (simp; done) | decide)
    · rcases e6 with ⟨a6, b6⟩ | ⟨a6, b6⟩ | ⟨a6, b6⟩ | ⟨a6, b6⟩
      · exact absurd (a5.symm.trans a6) (by first | (simp; done) | decide)
      · exact absurd (a5.symm.trans a6) (by first | (simp; done) | decide)
      · exact Or.inr ⟨b5.trans b6.symm, by omega⟩
      · exact absurd (a5.symm.trans a6) (by first | (simp; done) | decide)
    · rcases e6 with ⟨a6, b6⟩ | ⟨a6, b6⟩ | ⟨a6, b6⟩ | ⟨a6, b6⟩
      · exact absurd (a5.symm.trans a6) (by first | (simp; done) | decide)
      · exact absurd (a5.symm.trans a6) (by first | (simp; done) | decide)
      · exact absurd (a5.symm.trans a6) (by first | (simp; done) | decide)
      · exact absurd (xE_put (Prod.ext a5 rfl)) (by decide)
  refine z_istore dLaw_law_303 (Nat.le_of_ble_eq_true rfl) ?_
  refine z_aload_n dLaw_law_305 rfl ?_
  rw [show ma 0 = ma2 0 from m0.symm]
  refine z_callV (bc' := bc - 6 - 1) (bs' := bs - 36 - 61) MV_Mod_thrown lk_Law_179 dLaw_law_306 (k_Mod_thrown H2) rfl rfl (Nat.le_of_ble_eq_true rfl) rfl H2.2.1 (Nat.le_of_ble_eq_true rfl) (Nat.le_of_ble_eq_true rfl) (by omega) (by omega) (fun _ _ q => q.elim) ?_
  rintro _ _ ⟨rfl, rfl⟩
  refine z_iload dLaw_law_309 rfl ?_
  refine z_icmp_eq (tgt := 316) dLaw_law_311 (by decide) (by omega) (by omega) (fun c1 => ?_) (fun c1 => ?_)
  · refine z_iload dLaw_law_316 rfl ?_
    refine z_if_ne (tgt := 334) dLaw_law_318 (by decide) (by omega) (fun c2 => ?_) (fun c2 => ?_)
    · refine z_goto (tgt := 3454) dLaw_law_334 (by decide) ?_
      rw [show ma2 0 = ma 0 from m0]
      exact K _ _ h2 ma2 _ _ _ (zLi.fin C1 eo1 n1 n2 n3 H2 F2 A2 (ok_put hO) (okb_put hO okb)) m0 (by omega) (by omega)
    · refine z_aload_n dLaw_law_321 rfl ?_
      refine z_getN (k := 0) fd_Out (by decide) fl_Law_13 dLaw_law_322 (F2 ou _ eo1 n2) rfl ?_
      refine z_iload dLaw_law_325 rfl ?_
      rw [show Value.int (zI z6) = Value.int (zI (zwd z6)) from zwd_i z6]
      refine z_i2l (zwd_r z6) dLaw_law_327 ?_
      refine z_lcmpI (zwd_64 z5) (zwd_64 z6) dLaw_law_328 ?_
      have e56 : z5 = z6 := by omega
      rw [e56, zSg_self]
      refine z_if_eq (tgt := 334) dLaw_law_329 (by decide) (by decide) (fun c3 => ?_) (fun c3 => ?_)
      · refine z_goto (tgt := 3454) dLaw_law_334 (by decide) ?_
        rw [show ma2 0 = ma 0 from m0]
        exact K _ _ h2 ma2 _ _ _ (zLi.fin C1 eo1 n1 n2 n3 H2 F2 A2 (ok_put hO) (okb_put hO okb)) m0 (by omega) (by omega)
      · exact absurd rfl c3
  · exfalso; omega
theorem c_Law_1 {ou : Nat} {i : Int} {y5 y6 : Option Value} (I : zLi G h ad ma ou S) (hi : 0 ≤ i ∧ i + 4 ≤ L) (hb1 : 210 ≤ bc) (hb2 : 12100 ≤ bs) (K : zLK G l b L xs ad ma ou i bc bs) : zR G l (zLJ G b L xs) bc bs h 337 [some (.ref b), some (.ref (ad 0)), some (.ref (ma 0)), some (.ref ou), some (zi i), y5, y6] [] := by
  obtain ⟨th, n0, sv, hC, hM, hO, okb, eo, n1, n2, n3⟩ := I
  have oka := okb.1
  have h16 : ∀ k, k < 4 → (S.1 k).length ≤ 16 := fun k hk => (hC.ls hk).len
  have x1 := zX9_r (xs := xs) (i + 1)
  have x2 := zX9_r (xs := xs) (i + 2)
  have x3 := zX9_r (xs := xs) (i + 3)
  refine z_aload_n dLaw_law_337 rfl ?_
  refine z_aload_n dLaw_law_338 rfl ?_
  refine z_iload dLaw_law_339 rfl ?_
  refine z_iconst dLaw_law_341 ?_
  refine z_iadd dLaw_law_342 ?_
  refine z_sld (by omega) dLaw_law_343 ?_
  refine z_aload_n dLaw_law_344 rfl ?_
  refine z_iload dLaw_law_345 rfl ?_
  refine z_iconst dLaw_law_347 ?_
  refine z_iadd dLaw_law_348 ?_
  refine z_sld (by omega) dLaw_law_349 ?_
  refine z_aload_n dLaw_law_350 rfl ?_
  refine z_callSX (bc' := bc - 6) (bs' := bs - 36) MW_Law_take lk_Law_183 dLaw_law_351 (k_Law_take hC (zX9_r (xs := xs) (i + 1)) (zX9_r (xs := xs) (i + 2)) eo n1) rfl rfl (Nat.le_of_ble_eq_true rfl) (Nat.le_of_ble_eq_true rfl) (Nat.le_of_ble_eq_true rfl) (by omega) (by omega) (fun _ _ q => q.elim) ?_
  rintro _ h1 ⟨k5, z5, sv5, rfl, C1, f1, eo1, e5⟩
  have H1 : zMod G h1 ma S th := hM.mid n2 n3 f1
  refine z_istore dLaw_law_354 (Nat.le_of_ble_eq_true rfl) ?_
  refine z_aload_n dLaw_law_356 rfl ?_
  refine z_aload_n dLaw_law_357 rfl ?_
  refine z_iload dLaw_law_358 rfl ?_
  refine z_iconst dLaw_law_360 ?_
  refine z_iadd dLaw_law_361 ?_
  refine z_sld (by omega) dLaw_law_362 ?_
  refine z_aload_n dLaw_law_363 rfl ?_
  refine z_iload dLaw_law_364 rfl ?_
  refine z_iconst dLaw_law_366 ?_
  refine z_iadd dLaw_law_367 ?_
  refine z_sld (by omega) dLaw_law_368 ?_
  refine z_callV (bc' := bc - 6 - 1) (bs' := bs - 36 - 60) MV_Mod_take lk_Law_186 dLaw_law_369 (k_Mod_take H1 (zX9_r (xs := xs) (i + 1)) (zX9_r (xs := xs) (i + 2)) h16) rfl rfl (Nat.le_of_ble_eq_true rfl) rfl H1.2.1 (Nat.le_of_ble_eq_true rfl) (Nat.le_of_ble_eq_true rfl) (by omega) (by omega) (fun _ _ q => q.elim) ?_
  rintro _ h2 ⟨ma2, th2, z6, rfl, m0, H2, F2, A2, e6⟩
  have hs : (k5 = th2 ∧ z5 = z6 ∧ k5 = 0) ∨ (k5 = th2 ∧ (k5 = 1 ∨ k5 = 2 ∨ k5 = 3)) := by
    rcases e5 with ⟨a5, b5⟩ | ⟨a5, b5⟩ | ⟨a5, b5⟩ | ⟨a5, b5⟩
    · rcases e6 with ⟨a6, b6⟩ | ⟨a6, b6⟩ | ⟨a6, b6⟩ | ⟨a6, b6⟩
      · exact Or.inl ⟨b5.trans b6.symm, Sum.inl.inj (a5.symm.trans a6), b5⟩
      · exact absurd (a5.symm.trans a6) (by first | (simp; done) | decide)
      · exact absurd (a5.symm.trans a6) (by first | (simp; done) | decide)
      · exact absurd (a5.symm.trans a6) (by first | (simp; done) | decide)
    · rcases e6 with ⟨a6, b6⟩ | ⟨a6, b6⟩ | ⟨a6, b6⟩ | ⟨a6, b6⟩
      · exact absurd (a5.symm.trans a6) (by first | (simp; done) | decide)
      · exact Or.inr ⟨b5.trans b6.symm, by omega⟩
      · exact absurd (a5.symm.trans a6) (by first | (simp; done) | decide)
      · exact absurd (a5.symm.trans a6) (by first | (simp; done) | decide)
    · rcases e6 with ⟨a6, b6⟩ | ⟨a6, b6⟩ | ⟨a6, b6⟩ | ⟨a6, b6⟩
      · exact absurd (a5.symm.trans a6) (by first | (simp; done) | decide)
      · exact absurd (a5.symm.trans a6) (by first | (simp; done) | decide)
      · exact Or.inr ⟨b5.trans b6.symm, by omega⟩
      · exact absurd (a5.symm.trans a6) (by first | (simp; done) | decide)
    · rcases e6 with ⟨a6, b6⟩ | ⟨a6, b6⟩ | ⟨a6, b6⟩ | ⟨a6, b6⟩
      · exact absurd (a5.symm.trans a6) (by first | (simp; done) | decide)
      · exact absurd (a5.symm.trans a6) (by first | (simp; done) | decide)
      · exact absurd (a5.symm.trans a6) (by first | (simp; done) | decide)
      · exact absurd (xE_take (Prod.ext a5 rfl)) (by decide)
  refine z_istore dLaw_law_372 (Nat.le_of_ble_eq_true rfl) ?_
  refine z_aload_n dLaw_law_374 rfl ?_
  rw [show ma 0 = ma2 0 from m0.symm]
  refine z_callV (bc' := bc - 6 - 1) (bs' := bs - 36 - 60) MV_Mod_thrown lk_Law_179 dLaw_law_375 (k_Mod_thrown H2) rfl rfl (Nat.le_of_ble_eq_true rfl) rfl H2.2.1 (Nat.le_of_ble_eq_true rfl) (Nat.le_of_ble_eq_true rfl) (by omega) (by omega) (fun _ _ q => q.elim) ?_
  rintro _ _ ⟨rfl, rfl⟩
  refine z_iload dLaw_law_378 rfl ?_
  refine z_icmp_eq (tgt := 385) dLaw_law_380 (by decide) (by omega) (by omega) (fun c1 => ?_) (fun c1 => ?_)
  · refine z_iload dLaw_law_385 rfl ?_
    refine z_if_ne (tgt := 403) dLaw_law_387 (by decide) (by omega) (fun c2 => ?_) (fun c2 => ?_)
    · refine z_goto (tgt := 3454) dLaw_law_403 (by decide) ?_
      rw [show ma2 0 = ma 0 from m0]
      exact K _ _ h2 ma2 _ _ _ (zLi.fin C1 eo1 n1 n2 n3 H2 F2 A2 (ok_take hO) (okb_take hO okb)) m0 (by omega) (by omega)
    · refine z_aload_n dLaw_law_390 rfl ?_
      refine z_getN (k := 0) fd_Out (by decide) fl_Law_13 dLaw_law_391 (F2 ou _ eo1 n2) rfl ?_
      refine z_iload dLaw_law_394 rfl ?_
      rw [show Value.int (zI z6) = Value.int (zI (zwd z6)) from zwd_i z6]
      refine z_i2l (zwd_r z6) dLaw_law_396 ?_
      refine z_lcmpI (zwd_64 z5) (zwd_64 z6) dLaw_law_397 ?_
      have e56 : z5 = z6 := by omega
      rw [e56, zSg_self]
      refine z_if_eq (tgt := 403) dLaw_law_398 (by decide) (by decide) (fun c3 => ?_) (fun c3 => ?_)
      · refine z_goto (tgt := 3454) dLaw_law_403 (by decide) ?_
        rw [show ma2 0 = ma 0 from m0]
        exact K _ _ h2 ma2 _ _ _ (zLi.fin C1 eo1 n1 n2 n3 H2 F2 A2 (ok_take hO) (okb_take hO okb)) m0 (by omega) (by omega)
      · exact absurd rfl c3
  · exfalso; omega
theorem c_Law_2 {ou : Nat} {i : Int} {y5 y6 : Option Value} (I : zLi G h ad ma ou S) (hi : 0 ≤ i ∧ i + 4 ≤ L) (hb1 : 210 ≤ bc) (hb2 : 12100 ≤ bs) (K : zLK G l b L xs ad ma ou i bc bs) : zR G l (zLJ G b L xs) bc bs h 406 [some (.ref b), some (.ref (ad 0)), some (.ref (ma 0)), some (.ref ou), some (zi i), y5, y6] [] := by
  obtain ⟨th, n0, sv, hC, hM, hO, okb, eo, n1, n2, n3⟩ := I
  have oka := okb.1
  have h16 : ∀ k, k < 4 → (S.1 k).length ≤ 16 := fun k hk => (hC.ls hk).len
  have x1 := zX9_r (xs := xs) (i + 1)
  have x2 := zX9_r (xs := xs) (i + 2)
  have x3 := zX9_r (xs := xs) (i + 3)
  refine z_aload_n dLaw_law_406 rfl ?_
  refine z_aload_n dLaw_law_407 rfl ?_
  refine z_iload dLaw_law_408 rfl ?_
  refine z_iconst dLaw_law_410 ?_
  refine z_iadd dLaw_law_411 ?_
  refine z_sld (by omega) dLaw_law_412 ?_
  refine z_aload_n dLaw_law_413 rfl ?_
  refine z_iload dLaw_law_414 rfl ?_
  refine z_iconst dLaw_law_416 ?_
  refine z_iadd dLaw_law_417 ?_
  refine z_sld (by omega) dLaw_law_418 ?_
  refine z_aload_n dLaw_law_419 rfl ?_
  refine z_callSX (bc' := bc - 6) (bs' := bs - 36) MW_Law_look lk_Law_187 dLaw_law_420 (k_Law_look hC (zX9_r (xs := xs) (i + 1)) (zX9_r (xs := xs) (i + 2)) eo n1) rfl rfl (Nat.le_of_ble_eq_true rfl) (Nat.le_of_ble_eq_true rfl) (Nat.le_of_ble_eq_true rfl) (by omega) (by omega) (fun _ _ q => q.elim) ?_
  rintro _ h1 ⟨k5, z5, sv5, rfl, C1, f1, eo1, e5⟩
  have H1 : zMod G h1 ma S th := hM.mid n2 n3 f1
  refine z_istore dLaw_law_423 (Nat.le_of_ble_eq_true rfl) ?_
  refine z_aload_n dLaw_law_425 rfl ?_
  refine z_aload_n dLaw_law_426 rfl ?_
  refine z_iload dLaw_law_427 rfl ?_
  refine z_iconst dLaw_law_429 ?_
  refine z_iadd dLaw_law_430 ?_
  refine z_sld (by omega) dLaw_law_431 ?_
  refine z_aload_n dLaw_law_432 rfl ?_
  refine z_iload dLaw_law_433 rfl ?_
  refine z_iconst dLaw_law_435 ?_
  refine z_iadd dLaw_law_436 ?_
  refine z_sld (by omega) dLaw_law_437 ?_
  refine z_callV (bc' := bc - 6 - 0) (bs' := bs - 36 - 0) MV_Mod_look lk_Law_189 dLaw_law_438 (k_Mod_look H1 (zX9_r (xs := xs) (i + 1)) (zX9_r (xs := xs) (i + 2))) rfl rfl (Nat.le_of_ble_eq_true rfl) rfl H1.2.1 (Nat.le_of_ble_eq_true rfl) (Nat.le_of_ble_eq_true rfl) (by omega) (by omega) (fun _ _ q => q.elim) ?_
  rintro _ h2 ⟨ma2, th2, z6, rfl, m0, H2, F2, A2, e6⟩
  have hs : (k5 = th2 ∧ z5 = z6 ∧ k5 = 0) ∨ (k5 = th2 ∧ (k5 = 1 ∨ k5 = 2 ∨ k5 = 3)) := by
    rcases e5 with ⟨a5, b5⟩ | ⟨a5, b5⟩ | ⟨a5, b5⟩ | ⟨a5, b5⟩
    · rcases e6 with ⟨a6, b6⟩ | ⟨a6, b6⟩ | ⟨a6, b6⟩ | ⟨a6, b6⟩
      · exact Or.inl ⟨b5.trans b6.symm, Sum.inl.inj (a5.symm.trans a6), b5⟩
      · exact absurd (a5.symm.trans a6) (by first | (simp; done) | decide)
      · exact absurd (a5.symm.trans a6) (by first | (simp; done) | decide)
      · exact absurd (a5.symm.trans a6) (by first | (simp; done) | decide)
    · rcases e6 with ⟨a6, b6⟩ | ⟨a6, b6⟩ | ⟨a6, b6⟩ | ⟨a6, b6⟩
      · exact absurd (a5.symm.trans a6) (by first | (simp; done) | decide)
      · exact Or.inr ⟨b5.trans b6.symm, by omega⟩
      · exact absurd (a5.symm.trans a6) (by first | (simp; done) | decide)
      · exact absurd (a5.symm.trans a6) (by first | (simp; done) | decide)
    · rcases e6 with ⟨a6, b6⟩ | ⟨a6, b6⟩ | ⟨a6, b6⟩ | ⟨a6, b6⟩
      · exact absurd (a5.symm.trans a6) (by first | (simp; done) | decide)
      · exact absurd (a5.symm.trans a6) (by first | (simp; done) | decide)
      · exact Or.inr ⟨b5.trans b6.symm, by omega⟩
      · exact absurd (a5.symm.trans a6) (by first | (simp; done) | decide)
    · rcases e6 with ⟨a6, b6⟩ | ⟨a6, b6⟩ | ⟨a6, b6⟩ | ⟨a6, b6⟩
      · exact absurd (a5.symm.trans a6) (by first | (simp; done) | decide)
      · exact absurd (a5.symm.trans a6) (by first | (simp; done) | decide)
      · exact absurd (a5.symm.trans a6) (by first | (simp; done) | decide)
      · exact absurd (xE_look (Prod.ext a5 rfl)) (by decide)
  refine z_istore dLaw_law_441 (Nat.le_of_ble_eq_true rfl) ?_
  refine z_aload_n dLaw_law_443 rfl ?_
  rw [show ma 0 = ma2 0 from m0.symm]
  refine z_callV (bc' := bc - 6 - 0) (bs' := bs - 36 - 0) MV_Mod_thrown lk_Law_179 dLaw_law_444 (k_Mod_thrown H2) rfl rfl (Nat.le_of_ble_eq_true rfl) rfl H2.2.1 (Nat.le_of_ble_eq_true rfl) (Nat.le_of_ble_eq_true rfl) (by omega) (by omega) (fun _ _ q => q.elim) ?_
  rintro _ _ ⟨rfl, rfl⟩
  refine z_iload dLaw_law_447 rfl ?_
  refine z_icmp_eq (tgt := 454) dLaw_law_449 (by decide) (by omega) (by omega) (fun c1 => ?_) (fun c1 => ?_)
  · refine z_iload dLaw_law_454 rfl ?_
    refine z_if_ne (tgt := 472) dLaw_law_456 (by decide) (by omega) (fun c2 => ?_) (fun c2 => ?_)
    · refine z_goto (tgt := 3454) dLaw_law_472 (by decide) ?_
      rw [show ma2 0 = ma 0 from m0]
      exact K _ _ h2 ma2 _ _ _ (zLi.fin C1 eo1 n1 n2 n3 H2 F2 A2 (ok_look hO) (okb_look hO okb)) m0 (by omega) (by omega)
    · refine z_aload_n dLaw_law_459 rfl ?_
      refine z_getN (k := 0) fd_Out (by decide) fl_Law_13 dLaw_law_460 (F2 ou _ eo1 n2) rfl ?_
      refine z_iload dLaw_law_463 rfl ?_
      rw [show Value.int (zI z6) = Value.int (zI (zwd z6)) from zwd_i z6]
      refine z_i2l (zwd_r z6) dLaw_law_465 ?_
      refine z_lcmpI (zwd_64 z5) (zwd_64 z6) dLaw_law_466 ?_
      have e56 : z5 = z6 := by omega
      rw [e56, zSg_self]
      refine z_if_eq (tgt := 472) dLaw_law_467 (by decide) (by decide) (fun c3 => ?_) (fun c3 => ?_)
      · refine z_goto (tgt := 3454) dLaw_law_472 (by decide) ?_
        rw [show ma2 0 = ma 0 from m0]
        exact K _ _ h2 ma2 _ _ _ (zLi.fin C1 eo1 n1 n2 n3 H2 F2 A2 (ok_look hO) (okb_look hO okb)) m0 (by omega) (by omega)
      · exact absurd rfl c3
  · exfalso; omega
theorem c_Law_3 {ou : Nat} {i : Int} {y5 y6 : Option Value} (I : zLi G h ad ma ou S) (hi : 0 ≤ i ∧ i + 4 ≤ L) (hb1 : 210 ≤ bc) (hb2 : 12100 ≤ bs) (K : zLK G l b L xs ad ma ou i bc bs) : zR G l (zLJ G b L xs) bc bs h 475 [some (.ref b), some (.ref (ad 0)), some (.ref (ma 0)), some (.ref ou), some (zi i), y5, y6] [] := by
  obtain ⟨th, n0, sv, hC, hM, hO, okb, eo, n1, n2, n3⟩ := I
  have oka := okb.1
  have h16 : ∀ k, k < 4 → (S.1 k).length ≤ 16 := fun k hk => (hC.ls hk).len
  have x1 := zX9_r (xs := xs) (i + 1)
  have x2 := zX9_r (xs := xs) (i + 2)
  have x3 := zX9_r (xs := xs) (i + 3)
  refine z_aload_n dLaw_law_475 rfl ?_
  refine z_aload_n dLaw_law_476 rfl ?_
  refine z_iload dLaw_law_477 rfl ?_
  refine z_iconst dLaw_law_479 ?_
  refine z_iadd dLaw_law_480 ?_
  refine z_sld (by omega) dLaw_law_481 ?_
  refine z_aload_n dLaw_law_482 rfl ?_
  refine z_iload dLaw_law_483 rfl ?_
  refine z_iconst dLaw_law_485 ?_
  refine z_iadd dLaw_law_486 ?_
  refine z_sld (by omega) dLaw_law_487 ?_
  refine z_aload_n dLaw_law_488 rfl ?_
  refine z_callSX (bc' := bc - 6) (bs' := bs - 36) MW_Law_get lk_Law_190 dLaw_law_489 (k_Law_get hC (zX9_r (xs := xs) (i + 1)) (zX9_r (xs := xs) (i + 2)) eo n1) rfl rfl (Nat.le_of_ble_eq_true rfl) (Nat.le_of_ble_eq_true rfl) (Nat.le_of_ble_eq_true rfl) (by omega) (by omega) (fun _ _ q => q.elim) ?_
  rintro _ h1 ⟨k5, z5, sv5, rfl, C1, f1, eo1, e5⟩
  have H1 : zMod G h1 ma S th := hM.mid n2 n3 f1
  refine z_istore dLaw_law_492 (Nat.le_of_ble_eq_true rfl) ?_
  refine z_aload_n dLaw_law_494 rfl ?_
  refine z_aload_n dLaw_law_495 rfl ?_
  refine z_iload dLaw_law_496 rfl ?_
  refine z_iconst dLaw_law_498 ?_
  refine z_iadd dLaw_law_499 ?_
  refine z_sld (by omega) dLaw_law_500 ?_
  refine z_aload_n dLaw_law_501 rfl ?_
  refine z_iload dLaw_law_502 rfl ?_
  refine z_iconst dLaw_law_504 ?_
  refine z_iadd dLaw_law_505 ?_
  refine z_sld (by omega) dLaw_law_506 ?_
  refine z_callV (bc' := bc - 6 - 0) (bs' := bs - 36 - 0) MV_Mod_get lk_Law_192 dLaw_law_507 (k_Mod_get H1 (zX9_r (xs := xs) (i + 1)) (zX9_r (xs := xs) (i + 2))) rfl rfl (Nat.le_of_ble_eq_true rfl) rfl H1.2.1 (Nat.le_of_ble_eq_true rfl) (Nat.le_of_ble_eq_true rfl) (by omega) (by omega) (fun _ _ q => q.elim) ?_
  rintro _ h2 ⟨ma2, th2, z6, rfl, m0, H2, F2, A2, e6⟩
  have hs : (k5 = th2 ∧ z5 = z6 ∧ k5 = 0) ∨ (k5 = th2 ∧ (k5 = 1 ∨ k5 = 2 ∨ k5 = 3)) := by
    rcases e5 with ⟨a5, b5⟩ | ⟨a5, b5⟩ | ⟨a5, b5⟩ | ⟨a5, b5⟩
    · rcases e6 with ⟨a6, b6⟩ | ⟨a6, b6⟩ | ⟨a6, b6⟩ | ⟨a6, b6⟩
      · exact Or.inl ⟨b5.trans b6.symm, Sum.inl.inj (a5.symm.trans a6), b5⟩
      · exact absurd (a5.symm.trans a6) (by first | (simp; done) | decide)
      · exact absurd (a5.symm.trans a6) (by first | (simp; done) | decide)
      · exact absurd (a5.symm.trans a6) (by first | (simp; done) | decide)
    · rcases e6 with ⟨a6, b6⟩ | ⟨a6, b6⟩ | ⟨a6, b6⟩ | ⟨a6, b6⟩
      · exact absurd (a5.symm.trans a6) (by first | (simp; done) | decide)
      · exact Or.inr ⟨b5.trans b6.symm, by omega⟩
      · exact absurd (a5.symm.trans a6) (by first | (simp; done) | decide)
      · exact absurd (a5.symm.trans a6) (by first | (simp; done) | decide)
    · rcases e6 with ⟨a6, b6⟩ | ⟨a6, b6⟩ | ⟨a6, b6⟩ | ⟨a6, b6⟩
      · exact absurd (a5.symm.trans a6) (by first | (simp; done) | decide)
      · exact absurd (a5.symm.trans a6) (by first | (simp; done) | decide)
      · exact absurd (xE_get (Prod.ext a5 rfl)) (by decide)
      · exact absurd (a5.symm.trans a6) (by first | (simp; done) | decide)
    · rcases e6 with ⟨a6, b6⟩ | ⟨a6, b6⟩ | ⟨a6, b6⟩ | ⟨a6, b6⟩
      · exact absurd (a5.symm.trans a6) (by first | (simp; done) | decide)
      · exact absurd (a5.symm.trans a6) (by first | (simp; done) | decide)
      · exact absurd (a5.symm.trans a6) (by first | (simp; done) | decide)
      · exact absurd (xE_get (Prod.ext a5 rfl)) (by decide)
  refine z_istore dLaw_law_510 (Nat.le_of_ble_eq_true rfl) ?_
  refine z_aload_n dLaw_law_512 rfl ?_
  rw [show ma 0 = ma2 0 from m0.symm]
  refine z_callV (bc' := bc - 6 - 0) (bs' := bs - 36 - 0) MV_Mod_thrown lk_Law_179 dLaw_law_513 (k_Mod_thrown H2) rfl rfl (Nat.le_of_ble_eq_true rfl) rfl H2.2.1 (Nat.le_of_ble_eq_true rfl) (Nat.le_of_ble_eq_true rfl) (by omega) (by omega) (fun _ _ q => q.elim) ?_
  rintro _ _ ⟨rfl, rfl⟩
  refine z_iload dLaw_law_516 rfl ?_
  refine z_icmp_eq (tgt := 523) dLaw_law_518 (by decide) (by omega) (by omega) (fun c1 => ?_) (fun c1 => ?_)
  · refine z_iload dLaw_law_523 rfl ?_
    refine z_if_ne (tgt := 541) dLaw_law_525 (by decide) (by omega) (fun c2 => ?_) (fun c2 => ?_)
    · refine z_goto (tgt := 3454) dLaw_law_541 (by decide) ?_
      rw [show ma2 0 = ma 0 from m0]
      exact K _ _ h2 ma2 _ _ _ (zLi.fin C1 eo1 n1 n2 n3 H2 F2 A2 (ok_get hO) (okb_get hO okb)) m0 (by omega) (by omega)
    · refine z_aload_n dLaw_law_528 rfl ?_
      refine z_getN (k := 0) fd_Out (by decide) fl_Law_13 dLaw_law_529 (F2 ou _ eo1 n2) rfl ?_
      refine z_iload dLaw_law_532 rfl ?_
      rw [show Value.int (zI z6) = Value.int (zI (zwd z6)) from zwd_i z6]
      refine z_i2l (zwd_r z6) dLaw_law_534 ?_
      refine z_lcmpI (zwd_64 z5) (zwd_64 z6) dLaw_law_535 ?_
      have e56 : z5 = z6 := by omega
      rw [e56, zSg_self]
      refine z_if_eq (tgt := 541) dLaw_law_536 (by decide) (by decide) (fun c3 => ?_) (fun c3 => ?_)
      · refine z_goto (tgt := 3454) dLaw_law_541 (by decide) ?_
        rw [show ma2 0 = ma 0 from m0]
        exact K _ _ h2 ma2 _ _ _ (zLi.fin C1 eo1 n1 n2 n3 H2 F2 A2 (ok_get hO) (okb_get hO okb)) m0 (by omega) (by omega)
      · exact absurd rfl c3
  · exfalso; omega
theorem c_Law_4 {ou : Nat} {i : Int} {y5 y6 : Option Value} (I : zLi G h ad ma ou S) (hi : 0 ≤ i ∧ i + 4 ≤ L) (hb1 : 210 ≤ bc) (hb2 : 12100 ≤ bs) (K : zLK G l b L xs ad ma ou i bc bs) : zR G l (zLJ G b L xs) bc bs h 544 [some (.ref b), some (.ref (ad 0)), some (.ref (ma 0)), some (.ref ou), some (zi i), y5, y6] [] := by
  obtain ⟨th, n0, sv, hC, hM, hO, okb, eo, n1, n2, n3⟩ := I
  have oka := okb.1
  have h16 : ∀ k, k < 4 → (S.1 k).length ≤ 16 := fun k hk => (hC.ls hk).len
  have x1 := zX9_r (xs := xs) (i + 1)
  have x2 := zX9_r (xs := xs) (i + 2)
  have x3 := zX9_r (xs := xs) (i + 3)
  refine z_aload_n dLaw_law_544 rfl ?_
  refine z_aload_n dLaw_law_545 rfl ?_
  refine z_iload dLaw_law_546 rfl ?_
  refine z_iconst dLaw_law_548 ?_
  refine z_iadd dLaw_law_549 ?_
  refine z_sld (by omega) dLaw_law_550 ?_
  refine z_aload_n dLaw_law_551 rfl ?_
  refine z_iload dLaw_law_552 rfl ?_
  refine z_iconst dLaw_law_554 ?_
  refine z_iadd dLaw_law_555 ?_
  refine z_sld (by omega) dLaw_law_556 ?_
  refine z_aload_n dLaw_law_557 rfl ?_
  refine z_iload dLaw_law_558 rfl ?_
  refine z_iconst dLaw_law_560 ?_
  refine z_iadd dLaw_law_561 ?_
  refine z_sld (by omega) dLaw_law_562 ?_
  refine z_aload_n dLaw_law_563 rfl ?_
  refine z_callSX (bc' := bc - 6) (bs' := bs - 36) MW_Law_set lk_Law_193 dLaw_law_564 (k_Law_set hC (zX9_r (xs := xs) (i + 1)) (zX9_r (xs := xs) (i + 2)) (zX9_r (xs := xs) (i + 3)) eo n1) rfl rfl (Nat.le_of_ble_eq_true rfl) (Nat.le_of_ble_eq_true rfl) (Nat.le_of_ble_eq_true rfl) (by omega) (by omega) (fun _ _ q => q.elim) ?_
  rintro _ h1 ⟨k5, z5, sv5, rfl, C1, f1, eo1, e5⟩
  have H1 : zMod G h1 ma S th := hM.mid n2 n3 f1
  refine z_istore dLaw_law_567 (Nat.le_of_ble_eq_true rfl) ?_
  refine z_aload_n dLaw_law_569 rfl ?_
  refine z_aload_n dLaw_law_570 rfl ?_
  refine z_iload dLaw_law_571 rfl ?_
  refine z_iconst dLaw_law_573 ?_
  refine z_iadd dLaw_law_574 ?_
  refine z_sld (by omega) dLaw_law_575 ?_
  refine z_aload_n dLaw_law_576 rfl ?_
  refine z_iload dLaw_law_577 rfl ?_
  refine z_iconst dLaw_law_579 ?_
  refine z_iadd dLaw_law_580 ?_
  refine z_sld (by omega) dLaw_law_581 ?_
  refine z_aload_n dLaw_law_582 rfl ?_
  refine z_iload dLaw_law_583 rfl ?_
  refine z_iconst dLaw_law_585 ?_
  refine z_iadd dLaw_law_586 ?_
  refine z_sld (by omega) dLaw_law_587 ?_
  refine z_callV (bc' := bc - 6 - 0) (bs' := bs - 36 - 0) MV_Mod_set lk_Law_195 dLaw_law_588 (k_Mod_set H1 (zX9_r (xs := xs) (i + 1)) (zX9_r (xs := xs) (i + 2)) (zX9_r (xs := xs) (i + 3))) rfl rfl (Nat.le_of_ble_eq_true rfl) rfl H1.2.1 (Nat.le_of_ble_eq_true rfl) (Nat.le_of_ble_eq_true rfl) (by omega) (by omega) (fun _ _ q => q.elim) ?_
  rintro _ h2 ⟨ma2, th2, z6, rfl, m0, H2, F2, A2, e6⟩
  have hs : (k5 = th2 ∧ z5 = z6 ∧ k5 = 0) ∨ (k5 = th2 ∧ (k5 = 1 ∨ k5 = 2 ∨ k5 = 3)) := by
    rcases e5 with ⟨a5, b5⟩ | ⟨a5, b5⟩ | ⟨a5, b5⟩ | ⟨a5, b5⟩
    · rcases e6 with ⟨a6, b6⟩ | ⟨a6, b6⟩ | ⟨a6, b6⟩ | ⟨a6, b6⟩
      · exact Or.inl ⟨b5.trans b6.symm, Sum.inl.inj (a5.symm.trans a6), b5⟩
      · exact absurd (a5.symm.trans a6) (by first | (simp; done) | decide)
      · exact absurd (a5.symm.trans a6) (by first | (simp; done) | decide)
      · exact absurd (a5.symm.trans a6) (by first | (simp; done) | decide)
    · rcases e6 with ⟨a6, b6⟩ | ⟨a6, b6⟩ | ⟨a6, b6⟩ | ⟨a6, b6⟩
      · exact absurd (a5.symm.trans a6) (by first | (simp; done) | decide)
      · exact Or.inr ⟨b5.trans b6.symm, by omega⟩
      · exact absurd (a5.symm.trans a6) (by first | (simp; done) | decide)
      · exact absurd (a5.symm.trans a6) (by first | (simp; done) | decide)
    · rcases e6 with ⟨a6, b6⟩ | ⟨a6, b6⟩ | ⟨a6, b6⟩ | ⟨a6, b6⟩
      · exact absurd (a5.symm.trans a6) (by first | (simp; done) | decide)
      · exact absurd (a5.symm.trans a6) (by first | (simp; done) | decide)
      · exact Or.inr ⟨b5.trans b6.symm, by omega⟩
      · exact absurd (a5.symm.trans a6) (by first | (simp; done) | decide)
    · rcases e6 with ⟨a6, b6⟩ | ⟨a6, b6⟩ | ⟨a6, b6⟩ | ⟨a6, b6⟩
      · exact absurd (a5.symm.trans a6) (by first | (simp; done) | decide)
      · exact absurd (a5.symm.trans a6) (by first | (simp; done) | decide)
      · exact absurd (a5.symm.trans a6) (by first | (simp; done) | decide)
      · exact absurd (xE_set (Prod.ext a5 rfl)) (by decide)
  refine z_istore dLaw_law_591 (Nat.le_of_ble_eq_true rfl) ?_
  refine z_aload_n dLaw_law_593 rfl ?_
  rw [show ma 0 = ma2 0 from m0.symm]
  refine z_callV (bc' := bc - 6 - 0) (bs' := bs - 36 - 0) MV_Mod_thrown lk_Law_179 dLaw_law_594 (k_Mod_thrown H2) rfl rfl (Nat.le_of_ble_eq_true rfl) rfl H2.2.1 (Nat.le_of_ble_eq_true rfl) (Nat.le_of_ble_eq_true rfl) (by omega) (by omega) (fun _ _ q => q.elim) ?_
  rintro _ _ ⟨rfl, rfl⟩
  refine z_iload dLaw_law_597 rfl ?_
  refine z_icmp_eq (tgt := 604) dLaw_law_599 (by decide) (by omega) (by omega) (fun c1 => ?_) (fun c1 => ?_)
  · refine z_iload dLaw_law_604 rfl ?_
    refine z_if_ne (tgt := 622) dLaw_law_606 (by decide) (by omega) (fun c2 => ?_) (fun c2 => ?_)
    · refine z_goto (tgt := 3454) dLaw_law_622 (by decide) ?_
      rw [show ma2 0 = ma 0 from m0]
      exact K _ _ h2 ma2 _ _ _ (zLi.fin C1 eo1 n1 n2 n3 H2 F2 A2 (ok_set hO) (okb_set hO okb)) m0 (by omega) (by omega)
    · refine z_aload_n dLaw_law_609 rfl ?_
      refine z_getN (k := 0) fd_Out (by decide) fl_Law_13 dLaw_law_610 (F2 ou _ eo1 n2) rfl ?_
      refine z_iload dLaw_law_613 rfl ?_
      rw [show Value.int (zI z6) = Value.int (zI (zwd z6)) from zwd_i z6]
      refine z_i2l (zwd_r z6) dLaw_law_615 ?_
      refine z_lcmpI (zwd_64 z5) (zwd_64 z6) dLaw_law_616 ?_
      have e56 : z5 = z6 := by omega
      rw [e56, zSg_self]
      refine z_if_eq (tgt := 622) dLaw_law_617 (by decide) (by decide) (fun c3 => ?_) (fun c3 => ?_)
      · refine z_goto (tgt := 3454) dLaw_law_622 (by decide) ?_
        rw [show ma2 0 = ma 0 from m0]
        exact K _ _ h2 ma2 _ _ _ (zLi.fin C1 eo1 n1 n2 n3 H2 F2 A2 (ok_set hO) (okb_set hO okb)) m0 (by omega) (by omega)
      · exact absurd rfl c3
  · exfalso; omega
theorem c_Law_5 {ou : Nat} {i : Int} {y5 y6 : Option Value} (I : zLi G h ad ma ou S) (hi : 0 ≤ i ∧ i + 4 ≤ L) (hb1 : 210 ≤ bc) (hb2 : 12100 ≤ bs) (K : zLK G l b L xs ad ma ou i bc bs) : zR G l (zLJ G b L xs) bc bs h 625 [some (.ref b), some (.ref (ad 0)), some (.ref (ma 0)), some (.ref ou), some (zi i), y5, y6] [] := by
  obtain ⟨th, n0, sv, hC, hM, hO, okb, eo, n1, n2, n3⟩ := I
  have oka := okb.1
  have h16 : ∀ k, k < 4 → (S.1 k).length ≤ 16 := fun k hk => (hC.ls hk).len
  have x1 := zX9_r (xs := xs) (i + 1)
  have x2 := zX9_r (xs := xs) (i + 2)
  have x3 := zX9_r (xs := xs) (i + 3)
  refine z_aload_n dLaw_law_625 rfl ?_
  refine z_aload_n dLaw_law_626 rfl ?_
  refine z_iload dLaw_law_627 rfl ?_
  refine z_iconst dLaw_law_629 ?_
  refine z_iadd dLaw_law_630 ?_
  refine z_sld (by omega) dLaw_law_631 ?_
  refine z_aload_n dLaw_law_632 rfl ?_
  refine z_iload dLaw_law_633 rfl ?_
  refine z_iconst dLaw_law_635 ?_
  refine z_iadd dLaw_law_636 ?_
  refine z_sld (by omega) dLaw_law_637 ?_
  refine z_aload_n dLaw_law_638 rfl ?_
  refine z_iload dLaw_law_639 rfl ?_
  refine z_iconst dLaw_law_641 ?_
  refine z_iadd dLaw_law_642 ?_
  refine z_sld (by omega) dLaw_law_643 ?_
  refine z_aload_n dLaw_law_644 rfl ?_
  refine z_callSX (bc' := bc - 6) (bs' := bs - 36) MW_Law_insert lk_Law_196 dLaw_law_645 (k_Law_insert hC (zX9_r (xs := xs) (i + 1)) (zX9_r (xs := xs) (i + 2)) (zX9_r (xs := xs) (i + 3)) eo n1) rfl rfl (Nat.le_of_ble_eq_true rfl) (Nat.le_of_ble_eq_true rfl) (Nat.le_of_ble_eq_true rfl) (by omega) (by omega) (fun _ _ q => q.elim) ?_
  rintro _ h1 ⟨k5, z5, sv5, rfl, C1, f1, eo1, e5⟩
  have H1 : zMod G h1 ma S th := hM.mid n2 n3 f1
  refine z_istore dLaw_law_648 (Nat.le_of_ble_eq_true rfl) ?_
  refine z_aload_n dLaw_law_650 rfl ?_
  refine z_aload_n dLaw_law_651 rfl ?_
  refine z_iload dLaw_law_652 rfl ?_
  refine z_iconst dLaw_law_654 ?_
  refine z_iadd dLaw_law_655 ?_
  refine z_sld (by omega) dLaw_law_656 ?_
  refine z_aload_n dLaw_law_657 rfl ?_
  refine z_iload dLaw_law_658 rfl ?_
  refine z_iconst dLaw_law_660 ?_
  refine z_iadd dLaw_law_661 ?_
  refine z_sld (by omega) dLaw_law_662 ?_
  refine z_aload_n dLaw_law_663 rfl ?_
  refine z_iload dLaw_law_664 rfl ?_
  refine z_iconst dLaw_law_666 ?_
  refine z_iadd dLaw_law_667 ?_
  refine z_sld (by omega) dLaw_law_668 ?_
  refine z_callV (bc' := bc - 6 - 1) (bs' := bs - 36 - 61) MV_Mod_insert lk_Law_198 dLaw_law_669 (k_Mod_insert H1 (zX9_r (xs := xs) (i + 1)) (zX9_r (xs := xs) (i + 2)) (zX9_r (xs := xs) (i + 3)) h16) rfl rfl (Nat.le_of_ble_eq_true rfl) rfl H1.2.1 (Nat.le_of_ble_eq_true rfl) (Nat.le_of_ble_eq_true rfl) (by omega) (by omega) (fun _ _ q => q.elim) ?_
  rintro _ h2 ⟨ma2, th2, z6, rfl, m0, H2, F2, A2, e6⟩
  have hs : (k5 = th2 ∧ z5 = z6 ∧ k5 = 0) ∨ (k5 = th2 ∧ (k5 = 1 ∨ k5 = 2 ∨ k5 = 3)) := by
    rcases e5 with ⟨a5, b5⟩ | ⟨a5, b5⟩ | ⟨a5, b5⟩ | ⟨a5, b5⟩
    · rcases e6 with ⟨a6, b6⟩ | ⟨a6, b6⟩ | ⟨a6, b6⟩ | ⟨a6, b6⟩
      · exact Or.inl ⟨b5.trans b6.symm, Sum.inl.inj (a5.symm.trans a6), b5⟩
      · exact absurd (a5.symm.trans a6) (by first | (simp; done) | decide)
      · exact absurd (a5.symm.trans a6) (by first | (simp; done) | decide)
      · exact absurd (a5.symm.trans a6) (by first | (simp; done) | decide)
    · rcases e6 with ⟨a6, b6⟩ | ⟨a6, b6⟩ | ⟨a6, b6⟩ | ⟨a6, b6⟩
      · exact absurd (a5.symm.trans a6) (by first | (simp; done) | decide)
      · exact Or.inr ⟨b5.trans b6.symm, by omega⟩
      · exact absurd (a5.symm.trans a6) (by first | (simp; done) | decide)
      · exact absurd (a5.symm.trans a6) (by first | (simp; done) | decide)
    · rcases e6 with ⟨a6, b6⟩ | ⟨a6, b6⟩ | ⟨a6, b6⟩ | ⟨a6, b6⟩
      · exact absurd (a5.symm.trans a6) (by first | (simp; done) | decide)
      · exact absurd (a5.symm.trans a6) (by first | (simp; done) | decide)
      · exact Or.inr ⟨b5.trans b6.symm, by omega⟩
      · exact absurd (a5.symm.trans a6) (by first | (simp; done) | decide)
    · rcases e6 with ⟨a6, b6⟩ | ⟨a6, b6⟩ | ⟨a6, b6⟩ | ⟨a6, b6⟩
      · exact absurd (a5.symm.trans a6) (by first | (simp; done) | decide)
      · exact absurd (a5.symm.trans a6) (by first | (simp; done) | decide)
      · exact absurd (a5.symm.trans a6) (by first | (simp; done) | decide)
      · exact absurd (xE_insert (Prod.ext a5 rfl)) (by decide)
  refine z_istore dLaw_law_672 (Nat.le_of_ble_eq_true rfl) ?_
  refine z_aload_n dLaw_law_674 rfl ?_
  rw [show ma 0 = ma2 0 from m0.symm]
  refine z_callV (bc' := bc - 6 - 1) (bs' := bs - 36 - 61) MV_Mod_thrown lk_Law_179 dLaw_law_675 (k_Mod_thrown H2) rfl rfl (Nat.le_of_ble_eq_true rfl) rfl H2.2.1 (Nat.le_of_ble_eq_true rfl) (Nat.le_of_ble_eq_true rfl) (by omega) (by omega) (fun _ _ q => q.elim) ?_
  rintro _ _ ⟨rfl, rfl⟩
  refine z_iload dLaw_law_678 rfl ?_
  refine z_icmp_eq (tgt := 685) dLaw_law_680 (by decide) (by omega) (by omega) (fun c1 => ?_) (fun c1 => ?_)
  · refine z_iload dLaw_law_685 rfl ?_
    refine z_if_ne (tgt := 703) dLaw_law_687 (by decide) (by omega) (fun c2 => ?_) (fun c2 => ?_)
    · refine z_goto (tgt := 3454) dLaw_law_703 (by decide) ?_
      rw [show ma2 0 = ma 0 from m0]
      exact K _ _ h2 ma2 _ _ _ (zLi.fin C1 eo1 n1 n2 n3 H2 F2 A2 (ok_insert hO) (okb_insert hO okb)) m0 (by omega) (by omega)
    · refine z_aload_n dLaw_law_690 rfl ?_
      refine z_getN (k := 0) fd_Out (by decide) fl_Law_13 dLaw_law_691 (F2 ou _ eo1 n2) rfl ?_
      refine z_iload dLaw_law_694 rfl ?_
      rw [show Value.int (zI z6) = Value.int (zI (zwd z6)) from zwd_i z6]
      refine z_i2l (zwd_r z6) dLaw_law_696 ?_
      refine z_lcmpI (zwd_64 z5) (zwd_64 z6) dLaw_law_697 ?_
      have e56 : z5 = z6 := by omega
      rw [e56, zSg_self]
      refine z_if_eq (tgt := 703) dLaw_law_698 (by decide) (by decide) (fun c3 => ?_) (fun c3 => ?_)
      · refine z_goto (tgt := 3454) dLaw_law_703 (by decide) ?_
        rw [show ma2 0 = ma 0 from m0]
        exact K _ _ h2 ma2 _ _ _ (zLi.fin C1 eo1 n1 n2 n3 H2 F2 A2 (ok_insert hO) (okb_insert hO okb)) m0 (by omega) (by omega)
      · exact absurd rfl c3
  · exfalso; omega
theorem c_Law_6 {ou : Nat} {i : Int} {y5 y6 : Option Value} (I : zLi G h ad ma ou S) (hi : 0 ≤ i ∧ i + 4 ≤ L) (hb1 : 210 ≤ bc) (hb2 : 12100 ≤ bs) (K : zLK G l b L xs ad ma ou i bc bs) : zR G l (zLJ G b L xs) bc bs h 706 [some (.ref b), some (.ref (ad 0)), some (.ref (ma 0)), some (.ref ou), some (zi i), y5, y6] [] := by
  obtain ⟨th, n0, sv, hC, hM, hO, okb, eo, n1, n2, n3⟩ := I
  have oka := okb.1
  have h16 : ∀ k, k < 4 → (S.1 k).length ≤ 16 := fun k hk => (hC.ls hk).len
  have x1 := zX9_r (xs := xs) (i + 1)
  have x2 := zX9_r (xs := xs) (i + 2)
  have x3 := zX9_r (xs := xs) (i + 3)
  refine z_aload_n dLaw_law_706 rfl ?_
  refine z_aload_n dLaw_law_707 rfl ?_
  refine z_iload dLaw_law_708 rfl ?_
  refine z_iconst dLaw_law_710 ?_
  refine z_iadd dLaw_law_711 ?_
  refine z_sld (by omega) dLaw_law_712 ?_
  refine z_aload_n dLaw_law_713 rfl ?_
  refine z_iload dLaw_law_714 rfl ?_
  refine z_iconst dLaw_law_716 ?_
  refine z_iadd dLaw_law_717 ?_
  refine z_sld (by omega) dLaw_law_718 ?_
  refine z_aload_n dLaw_law_719 rfl ?_
  refine z_callSX (bc' := bc - 6) (bs' := bs - 36) MW_Law_removeAt lk_Law_199 dLaw_law_720 (k_Law_removeAt hC (zX9_r (xs := xs) (i + 1)) (zX9_r (xs := xs) (i + 2)) eo n1) rfl rfl (Nat.le_of_ble_eq_true rfl) (Nat.le_of_ble_eq_true rfl) (Nat.le_of_ble_eq_true rfl) (by omega) (by omega) (fun _ _ q => q.elim) ?_
  rintro _ h1 ⟨k5, z5, sv5, rfl, C1, f1, eo1, e5⟩
  have H1 : zMod G h1 ma S th := hM.mid n2 n3 f1
  refine z_istore dLaw_law_723 (Nat.le_of_ble_eq_true rfl) ?_
  refine z_aload_n dLaw_law_725 rfl ?_
  refine z_aload_n dLaw_law_726 rfl ?_
  refine z_iload dLaw_law_727 rfl ?_
  refine z_iconst dLaw_law_729 ?_
  refine z_iadd dLaw_law_730 ?_
  refine z_sld (by omega) dLaw_law_731 ?_
  refine z_aload_n dLaw_law_732 rfl ?_
  refine z_iload dLaw_law_733 rfl ?_
  refine z_iconst dLaw_law_735 ?_
  refine z_iadd dLaw_law_736 ?_
  refine z_sld (by omega) dLaw_law_737 ?_
  refine z_callV (bc' := bc - 6 - 1) (bs' := bs - 36 - 60) MV_Mod_removeAt lk_Law_201 dLaw_law_738 (k_Mod_removeAt H1 (zX9_r (xs := xs) (i + 1)) (zX9_r (xs := xs) (i + 2)) h16) rfl rfl (Nat.le_of_ble_eq_true rfl) rfl H1.2.1 (Nat.le_of_ble_eq_true rfl) (Nat.le_of_ble_eq_true rfl) (by omega) (by omega) (fun _ _ q => q.elim) ?_
  rintro _ h2 ⟨ma2, th2, z6, rfl, m0, H2, F2, A2, e6⟩
  have hs : (k5 = th2 ∧ z5 = z6 ∧ k5 = 0) ∨ (k5 = th2 ∧ (k5 = 1 ∨ k5 = 2 ∨ k5 = 3)) := by
    rcases e5 with ⟨a5, b5⟩ | ⟨a5, b5⟩ | ⟨a5, b5⟩ | ⟨a5, b5⟩
    · rcases e6 with ⟨a6, b6⟩ | ⟨a6, b6⟩ | ⟨a6, b6⟩ | ⟨a6, b6⟩
      · exact Or.inl ⟨b5.trans b6.symm, Sum.inl.inj (a5.symm.trans a6), b5⟩
      · exact absurd (a5.symm.trans a6) (by first | (simp; done) | decide)
      · exact absurd (a5.symm.trans a6) (by first | (simp; done) | decide)
      · exact absurd (a5.symm.trans a6) (by first | (simp; done) | decide)
    · rcases e6 with ⟨a6, b6⟩ | ⟨a6, b6⟩ | ⟨a6, b6⟩ | ⟨a6, b6⟩
      · exact absurd (a5.symm.trans a6) (by first | (simp; done) | decide)
      · exact Or.inr ⟨b5.trans b6.symm, by omega⟩
      · exact absurd (a5.symm.trans a6) (by first | (simp; done) | decide)
      · exact absurd (a5.symm.trans a6) (by first | (simp; done) | decide)
    · rcases e6 with ⟨a6, b6⟩ | ⟨a6, b6⟩ | ⟨a6, b6⟩ | ⟨a6, b6⟩
      · exact absurd (a5.symm.trans a6) (by first | (simp; done) | decide)
      · exact absurd (a5.symm.trans a6) (by first | (simp; done) | decide)
      · exact absurd (xE_removeAt (Prod.ext a5 rfl)) (by decide)
      · exact absurd (a5.symm.trans a6) (by first | (simp; done) | decide)
    · rcases e6 with ⟨a6, b6⟩ | ⟨a6, b6⟩ | ⟨a6, b6⟩ | ⟨a6, b6⟩
      · exact absurd (a5.symm.trans a6) (by first | (simp; done) | decide)
      · exact absurd (a5.symm.trans a6) (by first | (simp; done) | decide)
      · exact absurd (a5.symm.trans a6) (by first | (simp; done) | decide)
      · exact absurd (xE_removeAt (Prod.ext a5 rfl)) (by decide)
  refine z_istore dLaw_law_741 (Nat.le_of_ble_eq_true rfl) ?_
  refine z_aload_n dLaw_law_743 rfl ?_
  rw [show ma 0 = ma2 0 from m0.symm]
  refine z_callV (bc' := bc - 6 - 1) (bs' := bs - 36 - 60) MV_Mod_thrown lk_Law_179 dLaw_law_744 (k_Mod_thrown H2) rfl rfl (Nat.le_of_ble_eq_true rfl) rfl H2.2.1 (Nat.le_of_ble_eq_true rfl) (Nat.le_of_ble_eq_true rfl) (by omega) (by omega) (fun _ _ q => q.elim) ?_
  rintro _ _ ⟨rfl, rfl⟩
  refine z_iload dLaw_law_747 rfl ?_
  refine z_icmp_eq (tgt := 754) dLaw_law_749 (by decide) (by omega) (by omega) (fun c1 => ?_) (fun c1 => ?_)
  · refine z_iload dLaw_law_754 rfl ?_
    refine z_if_ne (tgt := 772) dLaw_law_756 (by decide) (by omega) (fun c2 => ?_) (fun c2 => ?_)
    · refine z_goto (tgt := 3454) dLaw_law_772 (by decide) ?_
      rw [show ma2 0 = ma 0 from m0]
      exact K _ _ h2 ma2 _ _ _ (zLi.fin C1 eo1 n1 n2 n3 H2 F2 A2 (ok_removeAt hO) (okb_removeAt hO okb)) m0 (by omega) (by omega)
    · refine z_aload_n dLaw_law_759 rfl ?_
      refine z_getN (k := 0) fd_Out (by decide) fl_Law_13 dLaw_law_760 (F2 ou _ eo1 n2) rfl ?_
      refine z_iload dLaw_law_763 rfl ?_
      rw [show Value.int (zI z6) = Value.int (zI (zwd z6)) from zwd_i z6]
      refine z_i2l (zwd_r z6) dLaw_law_765 ?_
      refine z_lcmpI (zwd_64 z5) (zwd_64 z6) dLaw_law_766 ?_
      have e56 : z5 = z6 := by omega
      rw [e56, zSg_self]
      refine z_if_eq (tgt := 772) dLaw_law_767 (by decide) (by decide) (fun c3 => ?_) (fun c3 => ?_)
      · refine z_goto (tgt := 3454) dLaw_law_772 (by decide) ?_
        rw [show ma2 0 = ma 0 from m0]
        exact K _ _ h2 ma2 _ _ _ (zLi.fin C1 eo1 n1 n2 n3 H2 F2 A2 (ok_removeAt hO) (okb_removeAt hO okb)) m0 (by omega) (by omega)
      · exact absurd rfl c3
  · exfalso; omega
theorem c_Law_7 {ou : Nat} {i : Int} {y5 y6 : Option Value} (I : zLi G h ad ma ou S) (hi : 0 ≤ i ∧ i + 4 ≤ L) (hb1 : 210 ≤ bc) (hb2 : 12100 ≤ bs) (K : zLK G l b L xs ad ma ou i bc bs) : zR G l (zLJ G b L xs) bc bs h 775 [some (.ref b), some (.ref (ad 0)), some (.ref (ma 0)), some (.ref ou), some (zi i), y5, y6] [] := by
  obtain ⟨th, n0, sv, hC, hM, hO, okb, eo, n1, n2, n3⟩ := I
  have oka := okb.1
  have h16 : ∀ k, k < 4 → (S.1 k).length ≤ 16 := fun k hk => (hC.ls hk).len
  have x1 := zX9_r (xs := xs) (i + 1)
  have x2 := zX9_r (xs := xs) (i + 2)
  have x3 := zX9_r (xs := xs) (i + 3)
  refine z_aload_n dLaw_law_775 rfl ?_
  refine z_aload_n dLaw_law_776 rfl ?_
  refine z_iload dLaw_law_777 rfl ?_
  refine z_iconst dLaw_law_779 ?_
  refine z_iadd dLaw_law_780 ?_
  refine z_sld (by omega) dLaw_law_781 ?_
  refine z_aload_n dLaw_law_782 rfl ?_
  refine z_iload dLaw_law_783 rfl ?_
  refine z_iconst dLaw_law_785 ?_
  refine z_iadd dLaw_law_786 ?_
  refine z_sld (by omega) dLaw_law_787 ?_
  refine z_aload_n dLaw_law_788 rfl ?_
  refine z_iload dLaw_law_789 rfl ?_
  refine z_iconst dLaw_law_791 ?_
  refine z_iadd dLaw_law_792 ?_
  refine z_sld (by omega) dLaw_law_793 ?_
  refine z_if_eq (tgt := 801) dLaw_law_794 (by decide) (by omega) (fun c1a => ?_) (fun c1b => ?_)
  · refine z_iconst dLaw_law_801 ?_
    refine z_aload_n dLaw_law_802 rfl ?_
    refine z_callSX (bc' := bc - 6) (bs' := bs - 36) MW_Law_drop lk_Law_202 dLaw_law_803 (k_Law_drop (Or.inl rfl) hC (zX9_r (xs := xs) (i + 1)) (zX9_r (xs := xs) (i + 2)) (by decide) eo n1) rfl rfl (Nat.le_of_ble_eq_true rfl) (Nat.le_of_ble_eq_true rfl) (Nat.le_of_ble_eq_true rfl) (by omega) (by omega) (fun _ _ q => q.elim) ?_
    rintro _ h1 ⟨k5, z5, sv5, rfl, C1, f1, eo1, e5⟩
    have H1 : zMod G h1 ma S th := hM.mid n2 n3 f1
    refine z_istore dLaw_law_806 (Nat.le_of_ble_eq_true rfl) ?_
    refine z_aload_n dLaw_law_808 rfl ?_
    refine z_aload_n dLaw_law_809 rfl ?_
    refine z_iload dLaw_law_810 rfl ?_
    refine z_iconst dLaw_law_812 ?_
    refine z_iadd dLaw_law_813 ?_
    refine z_sld (by omega) dLaw_law_814 ?_
    refine z_aload_n dLaw_law_815 rfl ?_
    refine z_iload dLaw_law_816 rfl ?_
    refine z_iconst dLaw_law_818 ?_
    refine z_iadd dLaw_law_819 ?_
    refine z_sld (by omega) dLaw_law_820 ?_
    refine z_aload_n dLaw_law_821 rfl ?_
    refine z_iload dLaw_law_822 rfl ?_
    refine z_iconst dLaw_law_824 ?_
    refine z_iadd dLaw_law_825 ?_
    refine z_sld (by omega) dLaw_law_826 ?_
    refine z_if_eq (tgt := 834) dLaw_law_827 (by decide) (by omega) (fun c2a => ?_) (fun c2b => ?_)
    · refine z_iconst dLaw_law_834 ?_
      refine z_callV (bc' := bc - 6 - 1) (bs' := bs - 36 - 60) MV_Mod_drop lk_Law_205 dLaw_law_835 (k_Mod_drop H1 (zX9_r (xs := xs) (i + 1)) (zX9_r (xs := xs) (i + 2)) (by decide) h16 (Or.inl rfl)) rfl rfl (Nat.le_of_ble_eq_true rfl) rfl H1.2.1 (Nat.le_of_ble_eq_true rfl) (Nat.le_of_ble_eq_true rfl) (by omega) (by omega) (fun _ _ q => q.elim) ?_
      rintro _ h2 ⟨ma2, th2, z6, rfl, m0, H2, F2, A2, e6⟩
      have hs : (k5 = th2 ∧ z5 = z6 ∧ k5 = 0 ∧ (z5 = 0 ∨ z5 = 1)) ∨ (k5 = th2 ∧ (k5 = 1 ∨ k5 = 2 ∨ k5 = 3)) := by
        rcases e5 with ⟨a5, b5⟩ | ⟨a5, b5⟩ | ⟨a5, b5⟩ | ⟨a5, b5⟩
        · rcases e6 with ⟨a6, b6⟩ | ⟨a6, b6⟩ | ⟨a6, b6⟩ | ⟨a6, b6⟩
          · exact Or.inl ⟨b5.trans b6.symm, Sum.inl.inj (a5.symm.trans a6), b5, xB_drop (Prod.ext a5 rfl)⟩
          · exact absurd (a5.symm.trans a6) (by first | (simp; done) | decide)
          · exact absurd (a5.symm.trans a6) (by first | (simp; done) | decide)
          · exact absurd (a5.symm.trans a6) (by first | (simp; done) | decide)
        · rcases e6 with ⟨a6, b6⟩ | ⟨a6, b6⟩ | ⟨a6, b6⟩ | ⟨a6, b6⟩
          · exact absurd (a5.symm.trans a6) (by first | (simp; done) | decide)
          · exact Or.inr ⟨b5.trans b6.symm, by omega⟩
          · exact absurd (a5.symm.trans a6) (by first | (simp; done) | decide)
          · exact absurd (a5.symm.trans a6) (by first | (simp; done) | decide)
        · rcases e6 with ⟨a6, b6⟩ | ⟨a6, b6⟩ | ⟨a6, b6⟩ | ⟨a6, b6⟩
          · exact absurd (a5.symm.trans a6) (by first | (simp; done) | decide)
          · exact absurd (a5.symm.trans a6) (by first | (simp; done) | decide)
          · exact absurd (xE_drop (Prod.ext a5 rfl)) (by decide)
          · exact absurd (a5.symm.trans a6) (by first | (simp; done) | decide)
        · rcases e6 with ⟨a6, b6⟩ | ⟨a6, b6⟩ | ⟨a6, b6⟩ | ⟨a6, b6⟩
          · exact absurd (a5.symm.trans a6) (by first | (simp; done) | decide)
          · exact absurd (a5.symm.trans a6) (by first | (simp; done) | decide)
          · exact absurd (a5.symm.trans a6) (by first | (simp; done) | decide)
          · exact absurd (xE_drop (Prod.ext a5 rfl)) (by decide)
      refine z_istore dLaw_law_838 (Nat.le_of_ble_eq_true rfl) ?_
      refine z_aload_n dLaw_law_840 rfl ?_
      rw [show ma 0 = ma2 0 from m0.symm]
      refine z_callV (bc' := bc - 6 - 1) (bs' := bs - 36 - 60) MV_Mod_thrown lk_Law_179 dLaw_law_841 (k_Mod_thrown H2) rfl rfl (Nat.le_of_ble_eq_true rfl) rfl H2.2.1 (Nat.le_of_ble_eq_true rfl) (Nat.le_of_ble_eq_true rfl) (by omega) (by omega) (fun _ _ q => q.elim) ?_
      rintro _ _ ⟨rfl, rfl⟩
      refine z_iload dLaw_law_844 rfl ?_
      refine z_icmp_eq (tgt := 851) dLaw_law_846 (by decide) (by omega) (by omega) (fun c1 => ?_) (fun c1 => ?_)
      · refine z_iload dLaw_law_851 rfl ?_
        refine z_if_ne (tgt := 876) dLaw_law_853 (by decide) (by omega) (fun c2 => ?_) (fun c2 => ?_)
        · refine z_goto (tgt := 3454) dLaw_law_876 (by decide) ?_
          rw [show ma2 0 = ma 0 from m0]
          exact K _ _ h2 ma2 _ _ _ (zLi.fin C1 eo1 n1 n2 n3 H2 F2 A2 (ok_drop hO) (okb_drop hO okb)) m0 (by omega) (by omega)
        · refine z_aload_n dLaw_law_856 rfl ?_
          refine z_getN (k := 0) fd_Out (by decide) fl_Law_13 dLaw_law_857 (F2 ou _ eo1 n2) rfl ?_
          refine z_iload dLaw_law_860 rfl ?_
          have e56 : z5 = z6 := by omega
          refine z_if_eq (tgt := 869) dLaw_law_862 (by decide) (by omega) (fun c3 => ?_) (fun c3 => ?_)
          · refine z_lconst dLaw_law_869 0 rfl ?_
            have e0 : zwd z5 = 0 := by rw [show z5 = 0 by omega]; decide
            rw [e0]
            refine z_lcmpI (by decide) (by decide) dLaw_law_870 ?_
            rw [zSg_self]
            refine z_if_eq (tgt := 876) dLaw_law_871 (by decide) (by decide) (fun c4 => ?_) (fun c4 => ?_)
            · refine z_goto (tgt := 3454) dLaw_law_876 (by decide) ?_
              rw [show ma2 0 = ma 0 from m0]
              exact K _ _ h2 ma2 _ _ _ (zLi.fin C1 eo1 n1 n2 n3 H2 F2 A2 (ok_drop hO) (okb_drop hO okb)) m0 (by omega) (by omega)
            · exact absurd rfl c4
          · refine z_lconst dLaw_law_865 1 rfl ?_
            refine z_goto (tgt := 870) dLaw_law_866 (by decide) ?_
            have e0 : zwd z5 = 1 := by rw [show z5 = 1 by omega]; decide
            rw [e0]
            refine z_lcmpI (by decide) (by decide) dLaw_law_870 ?_
            rw [zSg_self]
            refine z_if_eq (tgt := 876) dLaw_law_871 (by decide) (by decide) (fun c4 => ?_) (fun c4 => ?_)
            · refine z_goto (tgt := 3454) dLaw_law_876 (by decide) ?_
              rw [show ma2 0 = ma 0 from m0]
              exact K _ _ h2 ma2 _ _ _ (zLi.fin C1 eo1 n1 n2 n3 H2 F2 A2 (ok_drop hO) (okb_drop hO okb)) m0 (by omega) (by omega)
            · exact absurd rfl c4
      · exfalso; omega
    · exact absurd c1a c2b
  · refine z_iconst dLaw_law_797 ?_
    refine z_goto (tgt := 802) dLaw_law_798 (by decide) ?_
    refine z_aload_n dLaw_law_802 rfl ?_
    refine z_callSX (bc' := bc - 6) (bs' := bs - 36) MW_Law_drop lk_Law_202 dLaw_law_803 (k_Law_drop (Or.inr rfl) hC (zX9_r (xs := xs) (i + 1)) (zX9_r (xs := xs) (i + 2)) (by decide) eo n1) rfl rfl (Nat.le_of_ble_eq_true rfl) (Nat.le_of_ble_eq_true rfl) (Nat.le_of_ble_eq_true rfl) (by omega) (by omega) (fun _ _ q => q.elim) ?_
    rintro _ h1 ⟨k5, z5, sv5, rfl, C1, f1, eo1, e5⟩
    have H1 : zMod G h1 ma S th := hM.mid n2 n3 f1
    refine z_istore dLaw_law_806 (Nat.le_of_ble_eq_true rfl) ?_
    refine z_aload_n dLaw_law_808 rfl ?_
    refine z_aload_n dLaw_law_809 rfl ?_
    refine z_iload dLaw_law_810 rfl ?_
    refine z_iconst dLaw_law_812 ?_
    refine z_iadd dLaw_law_813 ?_
    refine z_sld (by omega) dLaw_law_814 ?_
    refine z_aload_n dLaw_law_815 rfl ?_
    refine z_iload dLaw_law_816 rfl ?_
    refine z_iconst dLaw_law_818 ?_
    refine z_iadd dLaw_law_819 ?_
    refine z_sld (by omega) dLaw_law_820 ?_
    refine z_aload_n dLaw_law_821 rfl ?_
    refine z_iload dLaw_law_822 rfl ?_
    refine z_iconst dLaw_law_824 ?_
    refine z_iadd dLaw_law_825 ?_
    refine z_sld (by omega) dLaw_law_826 ?_
    refine z_if_eq (tgt := 834) dLaw_law_827 (by decide) (by omega) (fun c2a => ?_) (fun c2b => ?_)
    · exact absurd c2a c1b
    · refine z_iconst dLaw_law_830 ?_
      refine z_goto (tgt := 835) dLaw_law_831 (by decide) ?_
      refine z_callV (bc' := bc - 6 - 1) (bs' := bs - 36 - 60) MV_Mod_drop lk_Law_205 dLaw_law_835 (k_Mod_drop H1 (zX9_r (xs := xs) (i + 1)) (zX9_r (xs := xs) (i + 2)) (by decide) h16 (Or.inr rfl)) rfl rfl (Nat.le_of_ble_eq_true rfl) rfl H1.2.1 (Nat.le_of_ble_eq_true rfl) (Nat.le_of_ble_eq_true rfl) (by omega) (by omega) (fun _ _ q => q.elim) ?_
      rintro _ h2 ⟨ma2, th2, z6, rfl, m0, H2, F2, A2, e6⟩
      have hs : (k5 = th2 ∧ z5 = z6 ∧ k5 = 0 ∧ (z5 = 0 ∨ z5 = 1)) ∨ (k5 = th2 ∧ (k5 = 1 ∨ k5 = 2 ∨ k5 = 3)) := by
        rcases e5 with ⟨a5, b5⟩ | ⟨a5, b5⟩ | ⟨a5, b5⟩ | ⟨a5, b5⟩
        · rcases e6 with ⟨a6, b6⟩ | ⟨a6, b6⟩ | ⟨a6, b6⟩ | ⟨a6, b6⟩
          · exact Or.inl ⟨b5.trans b6.symm, Sum.inl.inj (a5.symm.trans a6), b5, xB_drop (Prod.ext a5 rfl)⟩
          · exact absurd (a5.symm.trans a6) (by first | (simp; done) | decide)
          · exact absurd (a5.symm.trans a6) (by first | (simp; done) | decide)
          · exact absurd (a5.symm.trans a6) (by first | (simp; done) | decide)
        · rcases e6 with ⟨a6, b6⟩ | ⟨a6, b6⟩ | ⟨a6, b6⟩ | ⟨a6, b6⟩
          · exact absurd (a5.symm.trans a6) (by first | (simp; done) | decide)
          · exact Or.inr ⟨b5.trans b6.symm, by omega⟩
          · exact absurd (a5.symm.trans a6) (by first | (simp; done) | decide)
          · exact absurd (a5.symm.trans a6) (by first | (simp; done) | decide)
        · rcases e6 with ⟨a6, b6⟩ | ⟨a6, b6⟩ | ⟨a6, b6⟩ | ⟨a6, b6⟩
          · exact absurd (a5.symm.trans a6) (by first | (simp; done) | decide)
          · exact absurd (a5.symm.trans a6) (by first | (simp; done) | decide)
          · exact absurd (xE_drop (Prod.ext a5 rfl)) (by decide)
          · exact absurd (a5.symm.trans a6) (by first | (simp; done) | decide)
        · rcases e6 with ⟨a6, b6⟩ | ⟨a6, b6⟩ | ⟨a6, b6⟩ | ⟨a6, b6⟩
          · exact absurd (a5.symm.trans a6) (by first | (simp; done) | decide)
          · exact absurd (a5.symm.trans a6) (by first | (simp; done) | decide)
          · exact absurd (a5.symm.trans a6) (by first | (simp; done) | decide)
          · exact absurd (xE_drop (Prod.ext a5 rfl)) (by decide)
      refine z_istore dLaw_law_838 (Nat.le_of_ble_eq_true rfl) ?_
      refine z_aload_n dLaw_law_840 rfl ?_
      rw [show ma 0 = ma2 0 from m0.symm]
      refine z_callV (bc' := bc - 6 - 1) (bs' := bs - 36 - 60) MV_Mod_thrown lk_Law_179 dLaw_law_841 (k_Mod_thrown H2) rfl rfl (Nat.le_of_ble_eq_true rfl) rfl H2.2.1 (Nat.le_of_ble_eq_true rfl) (Nat.le_of_ble_eq_true rfl) (by omega) (by omega) (fun _ _ q => q.elim) ?_
      rintro _ _ ⟨rfl, rfl⟩
      refine z_iload dLaw_law_844 rfl ?_
      refine z_icmp_eq (tgt := 851) dLaw_law_846 (by decide) (by omega) (by omega) (fun c1 => ?_) (fun c1 => ?_)
      · refine z_iload dLaw_law_851 rfl ?_
        refine z_if_ne (tgt := 876) dLaw_law_853 (by decide) (by omega) (fun c2 => ?_) (fun c2 => ?_)
        · refine z_goto (tgt := 3454) dLaw_law_876 (by decide) ?_
          rw [show ma2 0 = ma 0 from m0]
          exact K _ _ h2 ma2 _ _ _ (zLi.fin C1 eo1 n1 n2 n3 H2 F2 A2 (ok_drop hO) (okb_drop hO okb)) m0 (by omega) (by omega)
        · refine z_aload_n dLaw_law_856 rfl ?_
          refine z_getN (k := 0) fd_Out (by decide) fl_Law_13 dLaw_law_857 (F2 ou _ eo1 n2) rfl ?_
          refine z_iload dLaw_law_860 rfl ?_
          have e56 : z5 = z6 := by omega
          refine z_if_eq (tgt := 869) dLaw_law_862 (by decide) (by omega) (fun c3 => ?_) (fun c3 => ?_)
          · refine z_lconst dLaw_law_869 0 rfl ?_
            have e0 : zwd z5 = 0 := by rw [show z5 = 0 by omega]; decide
            rw [e0]
            refine z_lcmpI (by decide) (by decide) dLaw_law_870 ?_
            rw [zSg_self]
            refine z_if_eq (tgt := 876) dLaw_law_871 (by decide) (by decide) (fun c4 => ?_) (fun c4 => ?_)
            · refine z_goto (tgt := 3454) dLaw_law_876 (by decide) ?_
              rw [show ma2 0 = ma 0 from m0]
              exact K _ _ h2 ma2 _ _ _ (zLi.fin C1 eo1 n1 n2 n3 H2 F2 A2 (ok_drop hO) (okb_drop hO okb)) m0 (by omega) (by omega)
            · exact absurd rfl c4
          · refine z_lconst dLaw_law_865 1 rfl ?_
            refine z_goto (tgt := 870) dLaw_law_866 (by decide) ?_
            have e0 : zwd z5 = 1 := by rw [show z5 = 1 by omega]; decide
            rw [e0]
            refine z_lcmpI (by decide) (by decide) dLaw_law_870 ?_
            rw [zSg_self]
            refine z_if_eq (tgt := 876) dLaw_law_871 (by decide) (by decide) (fun c4 => ?_) (fun c4 => ?_)
            · refine z_goto (tgt := 3454) dLaw_law_876 (by decide) ?_
              rw [show ma2 0 = ma 0 from m0]
              exact K _ _ h2 ma2 _ _ _ (zLi.fin C1 eo1 n1 n2 n3 H2 F2 A2 (ok_drop hO) (okb_drop hO okb)) m0 (by omega) (by omega)
            · exact absurd rfl c4
      · exfalso; omega
theorem c_Law_8 {ou : Nat} {i : Int} {y5 y6 : Option Value} (I : zLi G h ad ma ou S) (hi : 0 ≤ i ∧ i + 4 ≤ L) (hb1 : 210 ≤ bc) (hb2 : 12100 ≤ bs) (K : zLK G l b L xs ad ma ou i bc bs) : zR G l (zLJ G b L xs) bc bs h 879 [some (.ref b), some (.ref (ad 0)), some (.ref (ma 0)), some (.ref ou), some (zi i), y5, y6] [] := by
  obtain ⟨th, n0, sv, hC, hM, hO, okb, eo, n1, n2, n3⟩ := I
  have oka := okb.1
  have h16 : ∀ k, k < 4 → (S.1 k).length ≤ 16 := fun k hk => (hC.ls hk).len
  have x1 := zX9_r (xs := xs) (i + 1)
  have x2 := zX9_r (xs := xs) (i + 2)
  have x3 := zX9_r (xs := xs) (i + 3)
  refine z_aload_n dLaw_law_879 rfl ?_
  refine z_aload_n dLaw_law_880 rfl ?_
  refine z_iload dLaw_law_881 rfl ?_
  refine z_iconst dLaw_law_883 ?_
  refine z_iadd dLaw_law_884 ?_
  refine z_sld (by omega) dLaw_law_885 ?_
  refine z_aload_n dLaw_law_886 rfl ?_
  refine z_iload dLaw_law_887 rfl ?_
  refine z_iconst dLaw_law_889 ?_
  refine z_iadd dLaw_law_890 ?_
  refine z_sld (by omega) dLaw_law_891 ?_
  refine z_aload_n dLaw_law_892 rfl ?_
  refine z_callSX (bc' := bc - 6) (bs' := bs - 36) MW_Law_thin lk_Law_206 dLaw_law_893 (k_Law_thin hC (zX9_r (xs := xs) (i + 1)) (zX9_r (xs := xs) (i + 2)) eo n1) rfl rfl (Nat.le_of_ble_eq_true rfl) (Nat.le_of_ble_eq_true rfl) (Nat.le_of_ble_eq_true rfl) (by omega) (by omega) (fun _ _ q => q.elim) ?_
  rintro _ h1 ⟨k5, z5, sv5, rfl, C1, f1, eo1, e5⟩
  have H1 : zMod G h1 ma S th := hM.mid n2 n3 f1
  refine z_istore dLaw_law_896 (Nat.le_of_ble_eq_true rfl) ?_
  refine z_aload_n dLaw_law_898 rfl ?_
  refine z_aload_n dLaw_law_899 rfl ?_
  refine z_iload dLaw_law_900 rfl ?_
  refine z_iconst dLaw_law_902 ?_
  refine z_iadd dLaw_law_903 ?_
  refine z_sld (by omega) dLaw_law_904 ?_
  refine z_aload_n dLaw_law_905 rfl ?_
  refine z_iload dLaw_law_906 rfl ?_
  refine z_iconst dLaw_law_908 ?_
  refine z_iadd dLaw_law_909 ?_
  refine z_sld (by omega) dLaw_law_910 ?_
  refine z_callV (bc' := bc - 6 - 16) (bs' := bs - 36 - 960) MV_Mod_thin lk_Law_208 dLaw_law_911 (k_Mod_thin H1 (zX9_r (xs := xs) (i + 1)) (zX9_r (xs := xs) (i + 2)) h16) rfl rfl (Nat.le_of_ble_eq_true rfl) rfl H1.2.1 (Nat.le_of_ble_eq_true rfl) (Nat.le_of_ble_eq_true rfl) (by omega) (by omega) (fun _ _ q => q.elim) ?_
  rintro _ h2 ⟨ma2, th2, z6, rfl, m0, H2, F2, A2, e6⟩
  have hs : (k5 = th2 ∧ z5 = z6 ∧ k5 = 0) ∨ (k5 = th2 ∧ (k5 = 1 ∨ k5 = 2 ∨ k5 = 3)) := by
    rcases e5 with ⟨a5, b5⟩ | ⟨a5, b5⟩ | ⟨a5, b5⟩ | ⟨a5, b5⟩
    · rcases e6 with ⟨a6, b6⟩ | ⟨a6, b6⟩ | ⟨a6, b6⟩ | ⟨a6, b6⟩
      · exact Or.inl ⟨b5.trans b6.symm, Sum.inl.inj (a5.symm.trans a6), b5⟩
      · exact absurd (a5.symm.trans a6) (by first | (simp; done) | decide)
      · exact absurd (a5.symm.trans a6) (by first | (simp; done) | decide)
      · exact absurd (a5.symm.trans a6) (by first | (simp; done) | decide)
    · rcases e6 with ⟨a6, b6⟩ | ⟨a6, b6⟩ | ⟨a6, b6⟩ | ⟨a6, b6⟩
      · exact absurd (a5.symm.trans a6) (by first | (simp; done) | decide)
      · exact Or.inr ⟨b5.trans b6.symm, by omega⟩
      · exact absurd (a5.symm.trans a6) (by first | (simp; done) | decide)
      · exact absurd (a5.symm.trans a6) (by first | (simp; done) | decide)
    · rcases e6 with ⟨a6, b6⟩ | ⟨a6, b6⟩ | ⟨a6, b6⟩ | ⟨a6, b6⟩
      · exact absurd (a5.symm.trans a6) (by first | (simp; done) | decide)
      · exact absurd (a5.symm.trans a6) (by first | (simp; done) | decide)
      · exact absurd (xE_thin (Prod.ext a5 rfl)) (by decide)
      · exact absurd (a5.symm.trans a6) (by first | (simp; done) | decide)
    · rcases e6 with ⟨a6, b6⟩ | ⟨a6, b6⟩ | ⟨a6, b6⟩ | ⟨a6, b6⟩
      · exact absurd (a5.symm.trans a6) (by first | (simp; done) | decide)
      · exact absurd (a5.symm.trans a6) (by first | (simp; done) | decide)
      · exact absurd (a5.symm.trans a6) (by first | (simp; done) | decide)
      · exact absurd (xE_thin (Prod.ext a5 rfl)) (by decide)
  refine z_istore dLaw_law_914 (Nat.le_of_ble_eq_true rfl) ?_
  refine z_aload_n dLaw_law_916 rfl ?_
  rw [show ma 0 = ma2 0 from m0.symm]
  refine z_callV (bc' := bc - 6 - 16) (bs' := bs - 36 - 960) MV_Mod_thrown lk_Law_179 dLaw_law_917 (k_Mod_thrown H2) rfl rfl (Nat.le_of_ble_eq_true rfl) rfl H2.2.1 (Nat.le_of_ble_eq_true rfl) (Nat.le_of_ble_eq_true rfl) (by omega) (by omega) (fun _ _ q => q.elim) ?_
  rintro _ _ ⟨rfl, rfl⟩
  refine z_iload dLaw_law_920 rfl ?_
  refine z_icmp_eq (tgt := 927) dLaw_law_922 (by decide) (by omega) (by omega) (fun c1 => ?_) (fun c1 => ?_)
  · refine z_iload dLaw_law_927 rfl ?_
    refine z_if_ne (tgt := 945) dLaw_law_929 (by decide) (by omega) (fun c2 => ?_) (fun c2 => ?_)
    · refine z_goto (tgt := 3454) dLaw_law_945 (by decide) ?_
      rw [show ma2 0 = ma 0 from m0]
      exact K _ _ h2 ma2 _ _ _ (zLi.fin C1 eo1 n1 n2 n3 H2 F2 A2 (ok_thin hO) (okb_thin hO okb)) m0 (by omega) (by omega)
    · refine z_aload_n dLaw_law_932 rfl ?_
      refine z_getN (k := 0) fd_Out (by decide) fl_Law_13 dLaw_law_933 (F2 ou _ eo1 n2) rfl ?_
      refine z_iload dLaw_law_936 rfl ?_
      rw [show Value.int (zI z6) = Value.int (zI (zwd z6)) from zwd_i z6]
      refine z_i2l (zwd_r z6) dLaw_law_938 ?_
      refine z_lcmpI (zwd_64 z5) (zwd_64 z6) dLaw_law_939 ?_
      have e56 : z5 = z6 := by omega
      rw [e56, zSg_self]
      refine z_if_eq (tgt := 945) dLaw_law_940 (by decide) (by decide) (fun c3 => ?_) (fun c3 => ?_)
      · refine z_goto (tgt := 3454) dLaw_law_945 (by decide) ?_
        rw [show ma2 0 = ma 0 from m0]
        exact K _ _ h2 ma2 _ _ _ (zLi.fin C1 eo1 n1 n2 n3 H2 F2 A2 (ok_thin hO) (okb_thin hO okb)) m0 (by omega) (by omega)
      · exact absurd rfl c3
  · exfalso; omega
theorem c_Law_9 {ou : Nat} {i : Int} {y5 y6 : Option Value} (I : zLi G h ad ma ou S) (hi : 0 ≤ i ∧ i + 4 ≤ L) (hb1 : 210 ≤ bc) (hb2 : 12100 ≤ bs) (K : zLK G l b L xs ad ma ou i bc bs) : zR G l (zLJ G b L xs) bc bs h 948 [some (.ref b), some (.ref (ad 0)), some (.ref (ma 0)), some (.ref ou), some (zi i), y5, y6] [] := by
  obtain ⟨th, n0, sv, hC, hM, hO, okb, eo, n1, n2, n3⟩ := I
  have oka := okb.1
  have h16 : ∀ k, k < 4 → (S.1 k).length ≤ 16 := fun k hk => (hC.ls hk).len
  have x1 := zX9_r (xs := xs) (i + 1)
  have x2 := zX9_r (xs := xs) (i + 2)
  have x3 := zX9_r (xs := xs) (i + 3)
  refine z_aload_n dLaw_law_948 rfl ?_
  refine z_aload_n dLaw_law_949 rfl ?_
  refine z_iload dLaw_law_950 rfl ?_
  refine z_iconst dLaw_law_952 ?_
  refine z_iadd dLaw_law_953 ?_
  refine z_sld (by omega) dLaw_law_954 ?_
  refine z_aload_n dLaw_law_955 rfl ?_
  refine z_iload dLaw_law_956 rfl ?_
  refine z_iconst dLaw_law_958 ?_
  refine z_iadd dLaw_law_959 ?_
  refine z_sld (by omega) dLaw_law_960 ?_
  refine z_aload_n dLaw_law_961 rfl ?_
  refine z_iload dLaw_law_962 rfl ?_
  refine z_iconst dLaw_law_964 ?_
  refine z_iadd dLaw_law_965 ?_
  refine z_sld (by omega) dLaw_law_966 ?_
  refine z_if_eq (tgt := 974) dLaw_law_967 (by decide) (by omega) (fun c1a => ?_) (fun c1b => ?_)
  · refine z_iconst dLaw_law_974 ?_
    refine z_aload_n dLaw_law_975 rfl ?_
    refine z_callSX (bc' := bc - 6) (bs' := bs - 36) MW_Law_indexOf lk_Law_209 dLaw_law_976 (k_Law_indexOf (Or.inl rfl) hC (zX9_r (xs := xs) (i + 1)) (zX9_r (xs := xs) (i + 2)) (by decide) eo n1) rfl rfl (Nat.le_of_ble_eq_true rfl) (Nat.le_of_ble_eq_true rfl) (Nat.le_of_ble_eq_true rfl) (by omega) (by omega) (fun _ _ q => q.elim) ?_
    rintro _ h1 ⟨k5, z5, sv5, rfl, C1, f1, eo1, e5⟩
    have H1 : zMod G h1 ma S th := hM.mid n2 n3 f1
    refine z_istore dLaw_law_979 (Nat.le_of_ble_eq_true rfl) ?_
    refine z_aload_n dLaw_law_981 rfl ?_
    refine z_aload_n dLaw_law_982 rfl ?_
    refine z_iload dLaw_law_983 rfl ?_
    refine z_iconst dLaw_law_985 ?_
    refine z_iadd dLaw_law_986 ?_
    refine z_sld (by omega) dLaw_law_987 ?_
    refine z_aload_n dLaw_law_988 rfl ?_
    refine z_iload dLaw_law_989 rfl ?_
    refine z_iconst dLaw_law_991 ?_
    refine z_iadd dLaw_law_992 ?_
    refine z_sld (by omega) dLaw_law_993 ?_
    refine z_aload_n dLaw_law_994 rfl ?_
    refine z_iload dLaw_law_995 rfl ?_
    refine z_iconst dLaw_law_997 ?_
    refine z_iadd dLaw_law_998 ?_
    refine z_sld (by omega) dLaw_law_999 ?_
    refine z_if_eq (tgt := 1007) dLaw_law_1000 (by decide) (by omega) (fun c2a => ?_) (fun c2b => ?_)
    · refine z_iconst dLaw_law_1007 ?_
      refine z_callV (bc' := bc - 6 - 0) (bs' := bs - 36 - 0) MV_Mod_indexOf lk_Law_211 dLaw_law_1008 (k_Mod_indexOf H1 (zX9_r (xs := xs) (i + 1)) (zX9_r (xs := xs) (i + 2)) (by decide) (Or.inl rfl)) rfl rfl (Nat.le_of_ble_eq_true rfl) rfl H1.2.1 (Nat.le_of_ble_eq_true rfl) (Nat.le_of_ble_eq_true rfl) (by omega) (by omega) (fun _ _ q => q.elim) ?_
      rintro _ h2 ⟨ma2, th2, z6, rfl, m0, H2, F2, A2, e6⟩
      have hs : (k5 = th2 ∧ z5 = z6 ∧ k5 = 0) ∨ (k5 = th2 ∧ (k5 = 1 ∨ k5 = 2 ∨ k5 = 3)) := by
        rcases e5 with ⟨a5, b5⟩ | ⟨a5, b5⟩ | ⟨a5, b5⟩ | ⟨a5, b5⟩
        · rcases e6 with ⟨a6, b6⟩ | ⟨a6, b6⟩ | ⟨a6, b6⟩ | ⟨a6, b6⟩
          · exact Or.inl ⟨b5.trans b6.symm, Sum.inl.inj (a5.symm.trans a6), b5⟩
          · exact absurd (a5.symm.trans a6) (by first | (simp; done) | decide)
          · exact absurd (a5.symm.trans a6) (by first | (simp; done) | decide)
          · exact absurd (a5.symm.trans a6) (by first | (simp; done) | decide)
        · rcases e6 with ⟨a6, b6⟩ | ⟨a6, b6⟩ | ⟨a6, b6⟩ | ⟨a6, b6⟩
          · exact absurd (a5.symm.trans a6) (by first | (simp; done) | decide)
          · exact Or.inr ⟨b5.trans b6.symm, by omega⟩
          · exact absurd (a5.symm.trans a6) (by first | (simp; done) | decide)
          · exact absurd (a5.symm.trans a6) (by first | (simp; done) | decide)
        · rcases e6 with ⟨a6, b6⟩ | ⟨a6, b6⟩ | ⟨a6, b6⟩ | ⟨a6, b6⟩
          · exact absurd (a5.symm.trans a6) (by first | (simp; done) | decide)
          · exact absurd (a5.symm.trans a6) (by first | (simp; done) | decide)
          · exact absurd (xE_indexOf (Prod.ext a5 rfl)) (by decide)
          · exact absurd (a5.symm.trans a6) (by first | (simp; done) | decide)
        · rcases e6 with ⟨a6, b6⟩ | ⟨a6, b6⟩ | ⟨a6, b6⟩ | ⟨a6, b6⟩
          · exact absurd (a5.symm.trans a6) (by first | (simp; done) | decide)
          · exact absurd (a5.symm.trans a6) (by first | (simp; done) | decide)
          · exact absurd (a5.symm.trans a6) (by first | (simp; done) | decide)
          · exact absurd (xE_indexOf (Prod.ext a5 rfl)) (by decide)
      refine z_istore dLaw_law_1011 (Nat.le_of_ble_eq_true rfl) ?_
      refine z_aload_n dLaw_law_1013 rfl ?_
      rw [show ma 0 = ma2 0 from m0.symm]
      refine z_callV (bc' := bc - 6 - 0) (bs' := bs - 36 - 0) MV_Mod_thrown lk_Law_179 dLaw_law_1014 (k_Mod_thrown H2) rfl rfl (Nat.le_of_ble_eq_true rfl) rfl H2.2.1 (Nat.le_of_ble_eq_true rfl) (Nat.le_of_ble_eq_true rfl) (by omega) (by omega) (fun _ _ q => q.elim) ?_
      rintro _ _ ⟨rfl, rfl⟩
      refine z_iload dLaw_law_1017 rfl ?_
      refine z_icmp_eq (tgt := 1024) dLaw_law_1019 (by decide) (by omega) (by omega) (fun c1 => ?_) (fun c1 => ?_)
      · refine z_iload dLaw_law_1024 rfl ?_
        refine z_if_ne (tgt := 1042) dLaw_law_1026 (by decide) (by omega) (fun c2 => ?_) (fun c2 => ?_)
        · refine z_goto (tgt := 3454) dLaw_law_1042 (by decide) ?_
          rw [show ma2 0 = ma 0 from m0]
          exact K _ _ h2 ma2 _ _ _ (zLi.fin C1 eo1 n1 n2 n3 H2 F2 A2 (ok_indexOf hO) (okb_indexOf hO okb)) m0 (by omega) (by omega)
        · refine z_aload_n dLaw_law_1029 rfl ?_
          refine z_getN (k := 0) fd_Out (by decide) fl_Law_13 dLaw_law_1030 (F2 ou _ eo1 n2) rfl ?_
          refine z_iload dLaw_law_1033 rfl ?_
          rw [show Value.int (zI z6) = Value.int (zI (zwd z6)) from zwd_i z6]
          refine z_i2l (zwd_r z6) dLaw_law_1035 ?_
          refine z_lcmpI (zwd_64 z5) (zwd_64 z6) dLaw_law_1036 ?_
          have e56 : z5 = z6 := by omega
          rw [e56, zSg_self]
          refine z_if_eq (tgt := 1042) dLaw_law_1037 (by decide) (by decide) (fun c3 => ?_) (fun c3 => ?_)
          · refine z_goto (tgt := 3454) dLaw_law_1042 (by decide) ?_
            rw [show ma2 0 = ma 0 from m0]
            exact K _ _ h2 ma2 _ _ _ (zLi.fin C1 eo1 n1 n2 n3 H2 F2 A2 (ok_indexOf hO) (okb_indexOf hO okb)) m0 (by omega) (by omega)
          · exact absurd rfl c3
      · exfalso; omega
    · exact absurd c1a c2b
  · refine z_iconst dLaw_law_970 ?_
    refine z_goto (tgt := 975) dLaw_law_971 (by decide) ?_
    refine z_aload_n dLaw_law_975 rfl ?_
    refine z_callSX (bc' := bc - 6) (bs' := bs - 36) MW_Law_indexOf lk_Law_209 dLaw_law_976 (k_Law_indexOf (Or.inr rfl) hC (zX9_r (xs := xs) (i + 1)) (zX9_r (xs := xs) (i + 2)) (by decide) eo n1) rfl rfl (Nat.le_of_ble_eq_true rfl) (Nat.le_of_ble_eq_true rfl) (Nat.le_of_ble_eq_true rfl) (by omega) (by omega) (fun _ _ q => q.elim) ?_
    rintro _ h1 ⟨k5, z5, sv5, rfl, C1, f1, eo1, e5⟩
    have H1 : zMod G h1 ma S th := hM.mid n2 n3 f1
    refine z_istore dLaw_law_979 (Nat.le_of_ble_eq_true rfl) ?_
    refine z_aload_n dLaw_law_981 rfl ?_
    refine z_aload_n dLaw_law_982 rfl ?_
    refine z_iload dLaw_law_983 rfl ?_
    refine z_iconst dLaw_law_985 ?_
    refine z_iadd dLaw_law_986 ?_
    refine z_sld (by omega) dLaw_law_987 ?_
    refine z_aload_n dLaw_law_988 rfl ?_
    refine z_iload dLaw_law_989 rfl ?_
    refine z_iconst dLaw_law_991 ?_
    refine z_iadd dLaw_law_992 ?_
    refine z_sld (by omega) dLaw_law_993 ?_
    refine z_aload_n dLaw_law_994 rfl ?_
    refine z_iload dLaw_law_995 rfl ?_
    refine z_iconst dLaw_law_997 ?_
    refine z_iadd dLaw_law_998 ?_
    refine z_sld (by omega) dLaw_law_999 ?_
    refine z_if_eq (tgt := 1007) dLaw_law_1000 (by decide) (by omega) (fun c2a => ?_) (fun c2b => ?_)
    · exact absurd c2a c1b
    · refine z_iconst dLaw_law_1003 ?_
      refine z_goto (tgt := 1008) dLaw_law_1004 (by decide) ?_
      refine z_callV (bc' := bc - 6 - 0) (bs' := bs - 36 - 0) MV_Mod_indexOf lk_Law_211 dLaw_law_1008 (k_Mod_indexOf H1 (zX9_r (xs := xs) (i + 1)) (zX9_r (xs := xs) (i + 2)) (by decide) (Or.inr rfl)) rfl rfl (Nat.le_of_ble_eq_true rfl) rfl H1.2.1 (Nat.le_of_ble_eq_true rfl) (Nat.le_of_ble_eq_true rfl) (by omega) (by omega) (fun _ _ q => q.elim) ?_
      rintro _ h2 ⟨ma2, th2, z6, rfl, m0, H2, F2, A2, e6⟩
      have hs : (k5 = th2 ∧ z5 = z6 ∧ k5 = 0) ∨ (k5 = th2 ∧ (k5 = 1 ∨ k5 = 2 ∨ k5 = 3)) := by
        rcases e5 with ⟨a5, b5⟩ | ⟨a5, b5⟩ | ⟨a5, b5⟩ | ⟨a5, b5⟩
        · rcases e6 with ⟨a6, b6⟩ | ⟨a6, b6⟩ | ⟨a6, b6⟩ | ⟨a6, b6⟩
          · exact Or.inl ⟨b5.trans b6.symm, Sum.inl.inj (a5.symm.trans a6), b5⟩
          · exact absurd (a5.symm.trans a6) (by first | (simp; done) | decide)
          · exact absurd (a5.symm.trans a6) (by first | (simp; done) | decide)
          · exact absurd (a5.symm.trans a6) (by first | (simp; done) | decide)
        · rcases e6 with ⟨a6, b6⟩ | ⟨a6, b6⟩ | ⟨a6, b6⟩ | ⟨a6, b6⟩
          · exact absurd (a5.symm.trans a6) (by first | (simp; done) | decide)
          · exact Or.inr ⟨b5.trans b6.symm, by omega⟩
          · exact absurd (a5.symm.trans a6) (by first | (simp; done) | decide)
          · exact absurd (a5.symm.trans a6) (by first | (simp; done) | decide)
        · rcases e6 with ⟨a6, b6⟩ | ⟨a6, b6⟩ | ⟨a6, b6⟩ | ⟨a6, b6⟩
          · exact absurd (a5.symm.trans a6) (by first | (simp; done) | decide)
          · exact absurd (a5.symm.trans a6) (by first | (simp; done) | decide)
          · exact absurd (xE_indexOf (Prod.ext a5 rfl)) (by decide)
          · exact absurd (a5.symm.trans a6) (by first | (simp; done) | decide)
        · rcases e6 with ⟨a6, b6⟩ | ⟨a6, b6⟩ | ⟨a6, b6⟩ | ⟨a6, b6⟩
          · exact absurd (a5.symm.trans a6) (by first | (simp; done) | decide)
          · exact absurd (a5.symm.trans a6) (by first | (simp; done) | decide)
          · exact absurd (a5.symm.trans a6) (by first | (simp; done) | decide)
          · exact absurd (xE_indexOf (Prod.ext a5 rfl)) (by decide)
      refine z_istore dLaw_law_1011 (Nat.le_of_ble_eq_true rfl) ?_
      refine z_aload_n dLaw_law_1013 rfl ?_
      rw [show ma 0 = ma2 0 from m0.symm]
      refine z_callV (bc' := bc - 6 - 0) (bs' := bs - 36 - 0) MV_Mod_thrown lk_Law_179 dLaw_law_1014 (k_Mod_thrown H2) rfl rfl (Nat.le_of_ble_eq_true rfl) rfl H2.2.1 (Nat.le_of_ble_eq_true rfl) (Nat.le_of_ble_eq_true rfl) (by omega) (by omega) (fun _ _ q => q.elim) ?_
      rintro _ _ ⟨rfl, rfl⟩
      refine z_iload dLaw_law_1017 rfl ?_
      refine z_icmp_eq (tgt := 1024) dLaw_law_1019 (by decide) (by omega) (by omega) (fun c1 => ?_) (fun c1 => ?_)
      · refine z_iload dLaw_law_1024 rfl ?_
        refine z_if_ne (tgt := 1042) dLaw_law_1026 (by decide) (by omega) (fun c2 => ?_) (fun c2 => ?_)
        · refine z_goto (tgt := 3454) dLaw_law_1042 (by decide) ?_
          rw [show ma2 0 = ma 0 from m0]
          exact K _ _ h2 ma2 _ _ _ (zLi.fin C1 eo1 n1 n2 n3 H2 F2 A2 (ok_indexOf hO) (okb_indexOf hO okb)) m0 (by omega) (by omega)
        · refine z_aload_n dLaw_law_1029 rfl ?_
          refine z_getN (k := 0) fd_Out (by decide) fl_Law_13 dLaw_law_1030 (F2 ou _ eo1 n2) rfl ?_
          refine z_iload dLaw_law_1033 rfl ?_
          rw [show Value.int (zI z6) = Value.int (zI (zwd z6)) from zwd_i z6]
          refine z_i2l (zwd_r z6) dLaw_law_1035 ?_
          refine z_lcmpI (zwd_64 z5) (zwd_64 z6) dLaw_law_1036 ?_
          have e56 : z5 = z6 := by omega
          rw [e56, zSg_self]
          refine z_if_eq (tgt := 1042) dLaw_law_1037 (by decide) (by decide) (fun c3 => ?_) (fun c3 => ?_)
          · refine z_goto (tgt := 3454) dLaw_law_1042 (by decide) ?_
            rw [show ma2 0 = ma 0 from m0]
            exact K _ _ h2 ma2 _ _ _ (zLi.fin C1 eo1 n1 n2 n3 H2 F2 A2 (ok_indexOf hO) (okb_indexOf hO okb)) m0 (by omega) (by omega)
          · exact absurd rfl c3
      · exfalso; omega
theorem c_Law_10 {ou : Nat} {i : Int} {y5 y6 : Option Value} (I : zLi G h ad ma ou S) (hi : 0 ≤ i ∧ i + 4 ≤ L) (hb1 : 210 ≤ bc) (hb2 : 12100 ≤ bs) (K : zLK G l b L xs ad ma ou i bc bs) : zR G l (zLJ G b L xs) bc bs h 1045 [some (.ref b), some (.ref (ad 0)), some (.ref (ma 0)), some (.ref ou), some (zi i), y5, y6] [] := by
  obtain ⟨th, n0, sv, hC, hM, hO, okb, eo, n1, n2, n3⟩ := I
  have oka := okb.1
  have h16 : ∀ k, k < 4 → (S.1 k).length ≤ 16 := fun k hk => (hC.ls hk).len
  have x1 := zX9_r (xs := xs) (i + 1)
  have x2 := zX9_r (xs := xs) (i + 2)
  have x3 := zX9_r (xs := xs) (i + 3)
  refine z_aload_n dLaw_law_1045 rfl ?_
  refine z_aload_n dLaw_law_1046 rfl ?_
  refine z_iload dLaw_law_1047 rfl ?_
  refine z_iconst dLaw_law_1049 ?_
  refine z_iadd dLaw_law_1050 ?_
  refine z_sld (by omega) dLaw_law_1051 ?_
  refine z_aload_n dLaw_law_1052 rfl ?_
  refine z_iload dLaw_law_1053 rfl ?_
  refine z_iconst dLaw_law_1055 ?_
  refine z_iadd dLaw_law_1056 ?_
  refine z_sld (by omega) dLaw_law_1057 ?_
  refine z_aload_n dLaw_law_1058 rfl ?_
  refine z_callSX (bc' := bc - 6) (bs' := bs - 36) MW_Law_has lk_Law_212 dLaw_law_1059 (k_Law_has hC (zX9_r (xs := xs) (i + 1)) (zX9_r (xs := xs) (i + 2)) eo n1) rfl rfl (Nat.le_of_ble_eq_true rfl) (Nat.le_of_ble_eq_true rfl) (Nat.le_of_ble_eq_true rfl) (by omega) (by omega) (fun _ _ q => q.elim) ?_
  rintro _ h1 ⟨k5, z5, sv5, rfl, C1, f1, eo1, e5⟩
  have H1 : zMod G h1 ma S th := hM.mid n2 n3 f1
  refine z_istore dLaw_law_1062 (Nat.le_of_ble_eq_true rfl) ?_
  refine z_aload_n dLaw_law_1064 rfl ?_
  refine z_aload_n dLaw_law_1065 rfl ?_
  refine z_iload dLaw_law_1066 rfl ?_
  refine z_iconst dLaw_law_1068 ?_
  refine z_iadd dLaw_law_1069 ?_
  refine z_sld (by omega) dLaw_law_1070 ?_
  refine z_aload_n dLaw_law_1071 rfl ?_
  refine z_iload dLaw_law_1072 rfl ?_
  refine z_iconst dLaw_law_1074 ?_
  refine z_iadd dLaw_law_1075 ?_
  refine z_sld (by omega) dLaw_law_1076 ?_
  refine z_callV (bc' := bc - 6 - 0) (bs' := bs - 36 - 0) MV_Mod_has lk_Law_214 dLaw_law_1077 (k_Mod_has H1 (zX9_r (xs := xs) (i + 1)) (zX9_r (xs := xs) (i + 2))) rfl rfl (Nat.le_of_ble_eq_true rfl) rfl H1.2.1 (Nat.le_of_ble_eq_true rfl) (Nat.le_of_ble_eq_true rfl) (by omega) (by omega) (fun _ _ q => q.elim) ?_
  rintro _ h2 ⟨ma2, th2, z6, rfl, m0, H2, F2, A2, e6⟩
  have hs : (k5 = th2 ∧ z5 = z6 ∧ k5 = 0 ∧ (z5 = 0 ∨ z5 = 1)) ∨ (k5 = th2 ∧ (k5 = 1 ∨ k5 = 2 ∨ k5 = 3)) := by
    rcases e5 with ⟨a5, b5⟩ | ⟨a5, b5⟩ | ⟨a5, b5⟩ | ⟨a5, b5⟩
    · rcases e6 with ⟨a6, b6⟩ | ⟨a6, b6⟩ | ⟨a6, b6⟩ | ⟨a6, b6⟩
      · exact Or.inl ⟨b5.trans b6.symm, Sum.inl.inj (a5.symm.trans a6), b5, xB_has (Prod.ext a5 rfl)⟩
      · exact absurd (a5.symm.trans a6) (by first | (simp; done) | decide)
      · exact absurd (a5.symm.trans a6) (by first | (simp; done) | decide)
      · exact absurd (a5.symm.trans a6) (by first | (simp; done) | decide)
    · rcases e6 with ⟨a6, b6⟩ | ⟨a6, b6⟩ | ⟨a6, b6⟩ | ⟨a6, b6⟩
      · exact absurd (a5.symm.trans a6) (by first | (simp; done) | decide)
      · exact Or.inr ⟨b5.trans b6.symm, by omega⟩
      · exact absurd (a5.symm.trans a6) (by first | (simp; done) | decide)
      · exact absurd (a5.symm.trans a6) (by first | (simp; done) | decide)
    · rcases e6 with ⟨a6, b6⟩ | ⟨a6, b6⟩ | ⟨a6, b6⟩ | ⟨a6, b6⟩
      · exact absurd (a5.symm.trans a6) (by first | (simp; done) | decide)
      · exact absurd (a5.symm.trans a6) (by first | (simp; done) | decide)
      · exact absurd (xE_has (Prod.ext a5 rfl)) (by decide)
      · exact absurd (a5.symm.trans a6) (by first | (simp; done) | decide)
    · rcases e6 with ⟨a6, b6⟩ | ⟨a6, b6⟩ | ⟨a6, b6⟩ | ⟨a6, b6⟩
      · exact absurd (a5.symm.trans a6) (by first | (simp; done) | decide)
      · exact absurd (a5.symm.trans a6) (by first | (simp; done) | decide)
      · exact absurd (a5.symm.trans a6) (by first | (simp; done) | decide)
      · exact absurd (xE_has (Prod.ext a5 rfl)) (by decide)
  refine z_istore dLaw_law_1080 (Nat.le_of_ble_eq_true rfl) ?_
  refine z_aload_n dLaw_law_1082 rfl ?_
  rw [show ma 0 = ma2 0 from m0.symm]
  refine z_callV (bc' := bc - 6 - 0) (bs' := bs - 36 - 0) MV_Mod_thrown lk_Law_179 dLaw_law_1083 (k_Mod_thrown H2) rfl rfl (Nat.le_of_ble_eq_true rfl) rfl H2.2.1 (Nat.le_of_ble_eq_true rfl) (Nat.le_of_ble_eq_true rfl) (by omega) (by omega) (fun _ _ q => q.elim) ?_
  rintro _ _ ⟨rfl, rfl⟩
  refine z_iload dLaw_law_1086 rfl ?_
  refine z_icmp_eq (tgt := 1093) dLaw_law_1088 (by decide) (by omega) (by omega) (fun c1 => ?_) (fun c1 => ?_)
  · refine z_iload dLaw_law_1093 rfl ?_
    refine z_if_ne (tgt := 1118) dLaw_law_1095 (by decide) (by omega) (fun c2 => ?_) (fun c2 => ?_)
    · refine z_goto (tgt := 3454) dLaw_law_1118 (by decide) ?_
      rw [show ma2 0 = ma 0 from m0]
      exact K _ _ h2 ma2 _ _ _ (zLi.fin C1 eo1 n1 n2 n3 H2 F2 A2 (ok_has hO) (okb_has hO okb)) m0 (by omega) (by omega)
    · refine z_aload_n dLaw_law_1098 rfl ?_
      refine z_getN (k := 0) fd_Out (by decide) fl_Law_13 dLaw_law_1099 (F2 ou _ eo1 n2) rfl ?_
      refine z_iload dLaw_law_1102 rfl ?_
      have e56 : z5 = z6 := by omega
      refine z_if_eq (tgt := 1111) dLaw_law_1104 (by decide) (by omega) (fun c3 => ?_) (fun c3 => ?_)
      · refine z_lconst dLaw_law_1111 0 rfl ?_
        have e0 : zwd z5 = 0 := by rw [show z5 = 0 by omega]; decide
        rw [e0]
        refine z_lcmpI (by decide) (by decide) dLaw_law_1112 ?_
        rw [zSg_self]
        refine z_if_eq (tgt := 1118) dLaw_law_1113 (by decide) (by decide) (fun c4 => ?_) (fun c4 => ?_)
        · refine z_goto (tgt := 3454) dLaw_law_1118 (by decide) ?_
          rw [show ma2 0 = ma 0 from m0]
          exact K _ _ h2 ma2 _ _ _ (zLi.fin C1 eo1 n1 n2 n3 H2 F2 A2 (ok_has hO) (okb_has hO okb)) m0 (by omega) (by omega)
        · exact absurd rfl c4
      · refine z_lconst dLaw_law_1107 1 rfl ?_
        refine z_goto (tgt := 1112) dLaw_law_1108 (by decide) ?_
        have e0 : zwd z5 = 1 := by rw [show z5 = 1 by omega]; decide
        rw [e0]
        refine z_lcmpI (by decide) (by decide) dLaw_law_1112 ?_
        rw [zSg_self]
        refine z_if_eq (tgt := 1118) dLaw_law_1113 (by decide) (by decide) (fun c4 => ?_) (fun c4 => ?_)
        · refine z_goto (tgt := 3454) dLaw_law_1118 (by decide) ?_
          rw [show ma2 0 = ma 0 from m0]
          exact K _ _ h2 ma2 _ _ _ (zLi.fin C1 eo1 n1 n2 n3 H2 F2 A2 (ok_has hO) (okb_has hO okb)) m0 (by omega) (by omega)
        · exact absurd rfl c4
  · exfalso; omega
theorem c_Law_11 {ou : Nat} {i : Int} {y5 y6 : Option Value} (I : zLi G h ad ma ou S) (hi : 0 ≤ i ∧ i + 4 ≤ L) (hb1 : 210 ≤ bc) (hb2 : 12100 ≤ bs) (K : zLK G l b L xs ad ma ou i bc bs) : zR G l (zLJ G b L xs) bc bs h 1121 [some (.ref b), some (.ref (ad 0)), some (.ref (ma 0)), some (.ref ou), some (zi i), y5, y6] [] := by
  obtain ⟨th, n0, sv, hC, hM, hO, okb, eo, n1, n2, n3⟩ := I
  have oka := okb.1
  have h16 : ∀ k, k < 4 → (S.1 k).length ≤ 16 := fun k hk => (hC.ls hk).len
  have x1 := zX9_r (xs := xs) (i + 1)
  have x2 := zX9_r (xs := xs) (i + 2)
  have x3 := zX9_r (xs := xs) (i + 3)
  refine z_aload_n dLaw_law_1121 rfl ?_
  refine z_aload_n dLaw_law_1122 rfl ?_
  refine z_iload dLaw_law_1123 rfl ?_
  refine z_iconst dLaw_law_1125 ?_
  refine z_iadd dLaw_law_1126 ?_
  refine z_sld (by omega) dLaw_law_1127 ?_
  refine z_aload_n dLaw_law_1128 rfl ?_
  refine z_callSX (bc' := bc - 6) (bs' := bs - 36) MW_Law_size lk_Law_215 dLaw_law_1129 (k_Law_size hC (zX9_r (xs := xs) (i + 1)) eo n1) rfl rfl (Nat.le_of_ble_eq_true rfl) (Nat.le_of_ble_eq_true rfl) (Nat.le_of_ble_eq_true rfl) (by omega) (by omega) (fun _ _ q => q.elim) ?_
  rintro _ h1 ⟨k5, z5, sv5, rfl, C1, f1, eo1, e5⟩
  have H1 : zMod G h1 ma S th := hM.mid n2 n3 f1
  refine z_istore dLaw_law_1132 (Nat.le_of_ble_eq_true rfl) ?_
  refine z_aload_n dLaw_law_1134 rfl ?_
  refine z_aload_n dLaw_law_1135 rfl ?_
  refine z_iload dLaw_law_1136 rfl ?_
  refine z_iconst dLaw_law_1138 ?_
  refine z_iadd dLaw_law_1139 ?_
  refine z_sld (by omega) dLaw_law_1140 ?_
  refine z_callV (bc' := bc - 6 - 0) (bs' := bs - 36 - 0) MV_Mod_size lk_Law_218 dLaw_law_1141 (k_Mod_size H1 (zX9_r (xs := xs) (i + 1))) rfl rfl (Nat.le_of_ble_eq_true rfl) rfl H1.2.1 (Nat.le_of_ble_eq_true rfl) (Nat.le_of_ble_eq_true rfl) (by omega) (by omega) (fun _ _ q => q.elim) ?_
  rintro _ h2 ⟨ma2, th2, z6, rfl, m0, H2, F2, A2, e6⟩
  have hs : (k5 = th2 ∧ z5 = z6 ∧ k5 = 0) ∨ (k5 = th2 ∧ (k5 = 1 ∨ k5 = 2 ∨ k5 = 3)) := by
    rcases e5 with ⟨a5, b5⟩ | ⟨a5, b5⟩ | ⟨a5, b5⟩ | ⟨a5, b5⟩
    · rcases e6 with ⟨a6, b6⟩ | ⟨a6, b6⟩ | ⟨a6, b6⟩ | ⟨a6, b6⟩
      · exact Or.inl ⟨b5.trans b6.symm, Sum.inl.inj (a5.symm.trans a6), b5⟩
      · exact absurd (a5.symm.trans a6) (by first | (simp; done) | decide)
      · exact absurd (a5.symm.trans a6) (by first | (simp; done) | decide)
      · exact absurd (a5.symm.trans a6) (by first | (simp; done) | decide)
    · rcases e6 with ⟨a6, b6⟩ | ⟨a6, b6⟩ | ⟨a6, b6⟩ | ⟨a6, b6⟩
      · exact absurd (a5.symm.trans a6) (by first | (simp; done) | decide)
      · exact Or.inr ⟨b5.trans b6.symm, by omega⟩
      · exact absurd (a5.symm.trans a6) (by first | (simp; done) | decide)
      · exact absurd (a5.symm.trans a6) (by first | (simp; done) | decide)
    · rcases e6 with ⟨a6, b6⟩ | ⟨a6, b6⟩ | ⟨a6, b6⟩ | ⟨a6, b6⟩
      · exact absurd (a5.symm.trans a6) (by first | (simp; done) | decide)
      · exact absurd (a5.symm.trans a6) (by first | (simp; done) | decide)
      · exact absurd (xE_size (Prod.ext a5 rfl)) (by decide)
      · exact absurd (a5.symm.trans a6) (by first | (simp; done) | decide)
    · rcases e6 with ⟨a6, b6⟩ | ⟨a6, b6⟩ | ⟨a6, b6⟩ | ⟨a6, b6⟩
      · exact absurd (a5.symm.trans a6) (by first | (simp; done) | decide)
      · exact absurd (a5.symm.trans a6) (by first | (simp; done) | decide)
      · exact absurd (a5.symm.trans a6) (by first | (simp; done) | decide)
      · exact absurd (xE_size (Prod.ext a5 rfl)) (by decide)
  refine z_istore dLaw_law_1144 (Nat.le_of_ble_eq_true rfl) ?_
  refine z_aload_n dLaw_law_1146 rfl ?_
  rw [show ma 0 = ma2 0 from m0.symm]
  refine z_callV (bc' := bc - 6 - 0) (bs' := bs - 36 - 0) MV_Mod_thrown lk_Law_179 dLaw_law_1147 (k_Mod_thrown H2) rfl rfl (Nat.le_of_ble_eq_true rfl) rfl H2.2.1 (Nat.le_of_ble_eq_true rfl) (Nat.le_of_ble_eq_true rfl) (by omega) (by omega) (fun _ _ q => q.elim) ?_
  rintro _ _ ⟨rfl, rfl⟩
  refine z_iload dLaw_law_1150 rfl ?_
  refine z_icmp_eq (tgt := 1157) dLaw_law_1152 (by decide) (by omega) (by omega) (fun c1 => ?_) (fun c1 => ?_)
  · refine z_iload dLaw_law_1157 rfl ?_
    refine z_if_ne (tgt := 1175) dLaw_law_1159 (by decide) (by omega) (fun c2 => ?_) (fun c2 => ?_)
    · refine z_goto (tgt := 3454) dLaw_law_1175 (by decide) ?_
      rw [show ma2 0 = ma 0 from m0]
      exact K _ _ h2 ma2 _ _ _ (zLi.fin C1 eo1 n1 n2 n3 H2 F2 A2 (ok_size hO) (okb_size hO okb)) m0 (by omega) (by omega)
    · refine z_aload_n dLaw_law_1162 rfl ?_
      refine z_getN (k := 0) fd_Out (by decide) fl_Law_13 dLaw_law_1163 (F2 ou _ eo1 n2) rfl ?_
      refine z_iload dLaw_law_1166 rfl ?_
      rw [show Value.int (zI z6) = Value.int (zI (zwd z6)) from zwd_i z6]
      refine z_i2l (zwd_r z6) dLaw_law_1168 ?_
      refine z_lcmpI (zwd_64 z5) (zwd_64 z6) dLaw_law_1169 ?_
      have e56 : z5 = z6 := by omega
      rw [e56, zSg_self]
      refine z_if_eq (tgt := 1175) dLaw_law_1170 (by decide) (by decide) (fun c3 => ?_) (fun c3 => ?_)
      · refine z_goto (tgt := 3454) dLaw_law_1175 (by decide) ?_
        rw [show ma2 0 = ma 0 from m0]
        exact K _ _ h2 ma2 _ _ _ (zLi.fin C1 eo1 n1 n2 n3 H2 F2 A2 (ok_size hO) (okb_size hO okb)) m0 (by omega) (by omega)
      · exact absurd rfl c3
  · exfalso; omega
theorem c_Law_12 {ou : Nat} {i : Int} {y5 y6 : Option Value} (I : zLi G h ad ma ou S) (hi : 0 ≤ i ∧ i + 4 ≤ L) (hb1 : 210 ≤ bc) (hb2 : 12100 ≤ bs) (K : zLK G l b L xs ad ma ou i bc bs) : zR G l (zLJ G b L xs) bc bs h 1178 [some (.ref b), some (.ref (ad 0)), some (.ref (ma 0)), some (.ref ou), some (zi i), y5, y6] [] := by
  obtain ⟨th, n0, sv, hC, hM, hO, okb, eo, n1, n2, n3⟩ := I
  have oka := okb.1
  have h16 : ∀ k, k < 4 → (S.1 k).length ≤ 16 := fun k hk => (hC.ls hk).len
  have x1 := zX9_r (xs := xs) (i + 1)
  have x2 := zX9_r (xs := xs) (i + 2)
  have x3 := zX9_r (xs := xs) (i + 3)
  refine z_aload_n dLaw_law_1178 rfl ?_
  refine z_aload_n dLaw_law_1179 rfl ?_
  refine z_iload dLaw_law_1180 rfl ?_
  refine z_iconst dLaw_law_1182 ?_
  refine z_iadd dLaw_law_1183 ?_
  refine z_sld (by omega) dLaw_law_1184 ?_
  refine z_aload_n dLaw_law_1185 rfl ?_
  refine z_iload dLaw_law_1186 rfl ?_
  refine z_iconst dLaw_law_1188 ?_
  refine z_iadd dLaw_law_1189 ?_
  refine z_sld (by omega) dLaw_law_1190 ?_
  refine z_if_eq (tgt := 1198) dLaw_law_1191 (by decide) (by omega) (fun c1a => ?_) (fun c1b => ?_)
  · refine z_iconst dLaw_law_1198 ?_
    refine z_aload_n dLaw_law_1199 rfl ?_
    refine z_callSX (bc' := bc - 37) (bs' := bs - 606) MW_Law_text lk_Law_219 dLaw_law_1200 (k_Law_text hC (zX9_r (xs := xs) (i + 1)) (Or.inl rfl) eo n1) rfl rfl (Nat.le_of_ble_eq_true rfl) (Nat.le_of_ble_eq_true rfl) (Nat.le_of_ble_eq_true rfl) (by omega) (by omega) (fun _ _ q => q.elim) ?_
    rintro _ h1 ⟨k5, sv5, rfl, f1, eo1, e5⟩
    have C1 : zCls G h1 ad S := hC.exo n1 f1
    have H1 : zMod G h1 ma S th := hM.exo n2 f1
    refine z_istore dLaw_law_1203 (Nat.le_of_ble_eq_true rfl) ?_
    refine z_aload_n dLaw_law_1205 rfl ?_
    refine z_aload_n dLaw_law_1206 rfl ?_
    refine z_iload dLaw_law_1207 rfl ?_
    refine z_iconst dLaw_law_1209 ?_
    refine z_iadd dLaw_law_1210 ?_
    refine z_sld (by omega) dLaw_law_1211 ?_
    refine z_aload_n dLaw_law_1212 rfl ?_
    refine z_iload dLaw_law_1213 rfl ?_
    refine z_iconst dLaw_law_1215 ?_
    refine z_iadd dLaw_law_1216 ?_
    refine z_sld (by omega) dLaw_law_1217 ?_
    refine z_if_eq (tgt := 1225) dLaw_law_1218 (by decide) (by omega) (fun c2a => ?_) (fun c2b => ?_)
    · refine z_iconst dLaw_law_1225 ?_
      refine z_callV (bc' := bc - 37 - 113) (bs' := bs - 606 - 9405) MV_Mod_text lk_Law_222 dLaw_law_1226 (k_Mod_text H1 (zX9_r (xs := xs) (i + 1)) (Or.inl rfl) h16) rfl rfl (Nat.le_of_ble_eq_true rfl) rfl H1.2.1 (Nat.le_of_ble_eq_true rfl) (Nat.le_of_ble_eq_true rfl) (by omega) (by omega) (fun _ _ q => q.elim) ?_
      rintro _ h2 ⟨s6, n6, T6, rfl, S6, th2, H2, F2, e6⟩
      have hs : k5 = th2 ∧ (k5 = 0 ∨ k5 = 1) := by
        rcases e5 with ⟨a5, b5, -⟩ | ⟨a5, b5⟩ <;> rcases e6 with ⟨a6, b6, -⟩ | ⟨a6, b6⟩ <;> omega
      refine z_astore dLaw_law_1229 (Nat.le_of_ble_eq_true rfl) ?_
      refine z_aload_n dLaw_law_1231 rfl ?_
      refine z_callV (bc' := bc - 37 - 113) (bs' := bs - 606 - 9405) MV_Mod_thrown lk_Law_179 dLaw_law_1232 (k_Mod_thrown H2) rfl rfl (Nat.le_of_ble_eq_true rfl) rfl H2.2.1 (Nat.le_of_ble_eq_true rfl) (Nat.le_of_ble_eq_true rfl) (by omega) (by omega) (fun _ _ q => q.elim) ?_
      rintro _ _ ⟨rfl, rfl⟩
      refine z_iload dLaw_law_1235 rfl ?_
      refine z_icmp_eq (tgt := 1242) dLaw_law_1237 (by decide) (by omega) (by omega) (fun c1 => ?_) (fun c1 => ?_)
      · refine z_iload dLaw_law_1242 rfl ?_
        refine z_if_ne (tgt := 1261) dLaw_law_1244 (by decide) (by omega) (fun c2 => ?_) (fun c2 => ?_)
        · refine z_goto (tgt := 3454) dLaw_law_1261 (by decide) ?_
          exact K _ _ h2 ma _ _ _ (zLi.fin C1 eo1 n1 n2 n3 H2 F2.fr (fun _ _ => Or.inl rfl) hO okb) rfl (by omega) (by omega)
        · obtain ⟨s5, n5, rfl, S5⟩ : ∃ s n9, sv5 = .ref s ∧ zSr G h1 s n9 (zTe S (zX9 xs (i + 1)) 0) := by
            rcases e5 with ⟨-, -, q⟩ | ⟨q, -⟩
            · exact q
            · omega
          have T56 : T6 = zTe S (zX9 xs (i + 1)) 0 := by
            rcases e6 with ⟨-, -, q⟩ | ⟨q, -⟩
            · exact q
            · omega
          have rng : 0 ≤ zX9 xs (i + 1) ∧ zX9 xs (i + 1) < 4 := by
            rcases e5 with ⟨-, q, -⟩ | ⟨q, -⟩
            · exact q
            · omega
          rw [T56] at S6
          have S5a := S5.put H1.2.1 (by decide) F2
          obtain rfl : n5 = n6 := S5.len.symm.trans S6.len
          have hn9 : n5 ≤ 1000 := by
            rw [← S5.len]
            exact Nat.le_trans (zTl_le _) (by have := h16 (zX9 xs (i + 1)).toNat (by omega); omega)
          refine z_aload_n dLaw_law_1247 rfl ?_
          refine z_getN (k := 1) fd_Out (by decide) fl_Law_65 dLaw_law_1248 (F2 ou _ (n2 0 (by omega)) eo1) rfl ?_
          refine z_aload dLaw_law_1251 rfl ?_
          refine z_callVR MV_Str_equals_9ea2d lk_Law_223 dLaw_law_1253 (k_Str_equals S5a S6 hn9) rfl rfl (Nat.le_of_ble_eq_true rfl) S5a.recv (Nat.le_of_ble_eq_true rfl) (Nat.le_of_ble_eq_true rfl) (Nat.le_of_eq (Nat.zero_add _)) (Nat.le_of_eq (Nat.zero_add _)) (fun _ _ q => q.elim) ?_
          rintro _ _ ⟨rfl, rfl⟩
          refine z_if_ne (tgt := 1261) dLaw_law_1256 (by decide) (by decide) (fun _ => ?_) (fun c => absurd c (by decide))
          refine z_goto (tgt := 3454) dLaw_law_1261 (by decide) ?_
          exact K _ _ h2 ma _ _ _ (zLi.fin C1 eo1 n1 n2 n3 H2 F2.fr (fun _ _ => Or.inl rfl) hO okb) rfl (by omega) (by omega)
      · exfalso; omega
    · exact absurd c1a c2b
  · refine z_iconst dLaw_law_1194 ?_
    refine z_goto (tgt := 1199) dLaw_law_1195 (by decide) ?_
    refine z_aload_n dLaw_law_1199 rfl ?_
    refine z_callSX (bc' := bc - 37) (bs' := bs - 606) MW_Law_text lk_Law_219 dLaw_law_1200 (k_Law_text hC (zX9_r (xs := xs) (i + 1)) (Or.inr rfl) eo n1) rfl rfl (Nat.le_of_ble_eq_true rfl) (Nat.le_of_ble_eq_true rfl) (Nat.le_of_ble_eq_true rfl) (by omega) (by omega) (fun _ _ q => q.elim) ?_
    rintro _ h1 ⟨k5, sv5, rfl, f1, eo1, e5⟩
    have C1 : zCls G h1 ad S := hC.exo n1 f1
    have H1 : zMod G h1 ma S th := hM.exo n2 f1
    refine z_istore dLaw_law_1203 (Nat.le_of_ble_eq_true rfl) ?_
    refine z_aload_n dLaw_law_1205 rfl ?_
    refine z_aload_n dLaw_law_1206 rfl ?_
    refine z_iload dLaw_law_1207 rfl ?_
    refine z_iconst dLaw_law_1209 ?_
    refine z_iadd dLaw_law_1210 ?_
    refine z_sld (by omega) dLaw_law_1211 ?_
    refine z_aload_n dLaw_law_1212 rfl ?_
    refine z_iload dLaw_law_1213 rfl ?_
    refine z_iconst dLaw_law_1215 ?_
    refine z_iadd dLaw_law_1216 ?_
    refine z_sld (by omega) dLaw_law_1217 ?_
    refine z_if_eq (tgt := 1225) dLaw_law_1218 (by decide) (by omega) (fun c2a => ?_) (fun c2b => ?_)
    · exact absurd c2a c1b
    · refine z_iconst dLaw_law_1221 ?_
      refine z_goto (tgt := 1226) dLaw_law_1222 (by decide) ?_
      refine z_callV (bc' := bc - 37 - 113) (bs' := bs - 606 - 9405) MV_Mod_text lk_Law_222 dLaw_law_1226 (k_Mod_text H1 (zX9_r (xs := xs) (i + 1)) (Or.inr rfl) h16) rfl rfl (Nat.le_of_ble_eq_true rfl) rfl H1.2.1 (Nat.le_of_ble_eq_true rfl) (Nat.le_of_ble_eq_true rfl) (by omega) (by omega) (fun _ _ q => q.elim) ?_
      rintro _ h2 ⟨s6, n6, T6, rfl, S6, th2, H2, F2, e6⟩
      have hs : k5 = th2 ∧ (k5 = 0 ∨ k5 = 1) := by
        rcases e5 with ⟨a5, b5, -⟩ | ⟨a5, b5⟩ <;> rcases e6 with ⟨a6, b6, -⟩ | ⟨a6, b6⟩ <;> omega
      refine z_astore dLaw_law_1229 (Nat.le_of_ble_eq_true rfl) ?_
      refine z_aload_n dLaw_law_1231 rfl ?_
      refine z_callV (bc' := bc - 37 - 113) (bs' := bs - 606 - 9405) MV_Mod_thrown lk_Law_179 dLaw_law_1232 (k_Mod_thrown H2) rfl rfl (Nat.le_of_ble_eq_true rfl) rfl H2.2.1 (Nat.le_of_ble_eq_true rfl) (Nat.le_of_ble_eq_true rfl) (by omega) (by omega) (fun _ _ q => q.elim) ?_
      rintro _ _ ⟨rfl, rfl⟩
      refine z_iload dLaw_law_1235 rfl ?_
      refine z_icmp_eq (tgt := 1242) dLaw_law_1237 (by decide) (by omega) (by omega) (fun c1 => ?_) (fun c1 => ?_)
      · refine z_iload dLaw_law_1242 rfl ?_
        refine z_if_ne (tgt := 1261) dLaw_law_1244 (by decide) (by omega) (fun c2 => ?_) (fun c2 => ?_)
        · refine z_goto (tgt := 3454) dLaw_law_1261 (by decide) ?_
          exact K _ _ h2 ma _ _ _ (zLi.fin C1 eo1 n1 n2 n3 H2 F2.fr (fun _ _ => Or.inl rfl) hO okb) rfl (by omega) (by omega)
        · obtain ⟨s5, n5, rfl, S5⟩ : ∃ s n9, sv5 = .ref s ∧ zSr G h1 s n9 (zTe S (zX9 xs (i + 1)) 1) := by
            rcases e5 with ⟨-, -, q⟩ | ⟨q, -⟩
            · exact q
            · omega
          have T56 : T6 = zTe S (zX9 xs (i + 1)) 1 := by
            rcases e6 with ⟨-, -, q⟩ | ⟨q, -⟩
            · exact q
            · omega
          have rng : 0 ≤ zX9 xs (i + 1) ∧ zX9 xs (i + 1) < 4 := by
            rcases e5 with ⟨-, q, -⟩ | ⟨q, -⟩
            · exact q
            · omega
          rw [T56] at S6
          have S5a := S5.put H1.2.1 (by decide) F2
          obtain rfl : n5 = n6 := S5.len.symm.trans S6.len
          have hn9 : n5 ≤ 1000 := by
            rw [← S5.len]
            exact Nat.le_trans (zTl_le _) (by have := h16 (zX9 xs (i + 1)).toNat (by omega); omega)
          refine z_aload_n dLaw_law_1247 rfl ?_
          refine z_getN (k := 1) fd_Out (by decide) fl_Law_65 dLaw_law_1248 (F2 ou _ (n2 0 (by omega)) eo1) rfl ?_
          refine z_aload dLaw_law_1251 rfl ?_
          refine z_callVR MV_Str_equals_9ea2d lk_Law_223 dLaw_law_1253 (k_Str_equals S5a S6 hn9) rfl rfl (Nat.le_of_ble_eq_true rfl) S5a.recv (Nat.le_of_ble_eq_true rfl) (Nat.le_of_ble_eq_true rfl) (Nat.le_of_eq (Nat.zero_add _)) (Nat.le_of_eq (Nat.zero_add _)) (fun _ _ q => q.elim) ?_
          rintro _ _ ⟨rfl, rfl⟩
          refine z_if_ne (tgt := 1261) dLaw_law_1256 (by decide) (by decide) (fun _ => ?_) (fun c => absurd c (by decide))
          refine z_goto (tgt := 3454) dLaw_law_1261 (by decide) ?_
          exact K _ _ h2 ma _ _ _ (zLi.fin C1 eo1 n1 n2 n3 H2 F2.fr (fun _ _ => Or.inl rfl) hO okb) rfl (by omega) (by omega)
      · exfalso; omega
theorem c_Law_13 {ou : Nat} {i : Int} {y5 y6 : Option Value} (I : zLi G h ad ma ou S) (hi : 0 ≤ i ∧ i + 4 ≤ L) (hb1 : 210 ≤ bc) (hb2 : 12100 ≤ bs) (K : zLK G l b L xs ad ma ou i bc bs) : zR G l (zLJ G b L xs) bc bs h 1264 [some (.ref b), some (.ref (ad 0)), some (.ref (ma 0)), some (.ref ou), some (zi i), y5, y6] [] := by
  obtain ⟨th, n0, sv, hC, hM, hO, okb, eo, n1, n2, n3⟩ := I
  have oka := okb.1
  have h16 : ∀ k, k < 4 → (S.1 k).length ≤ 16 := fun k hk => (hC.ls hk).len
  have x1 := zX9_r (xs := xs) (i + 1)
  have x2 := zX9_r (xs := xs) (i + 2)
  have x3 := zX9_r (xs := xs) (i + 3)
  refine z_aload_n dLaw_law_1264 rfl ?_
  refine z_aload_n dLaw_law_1265 rfl ?_
  refine z_iload dLaw_law_1266 rfl ?_
  refine z_iconst dLaw_law_1268 ?_
  refine z_iadd dLaw_law_1269 ?_
  refine z_sld (by omega) dLaw_law_1270 ?_
  refine z_aload_n dLaw_law_1271 rfl ?_
  refine z_callSX (bc' := bc - 6) (bs' := bs - 36) MW_Law_clear lk_Law_229 dLaw_law_1272 (k_Law_clear hC (zX9_r (xs := xs) (i + 1)) eo n1) rfl rfl (Nat.le_of_ble_eq_true rfl) (Nat.le_of_ble_eq_true rfl) (Nat.le_of_ble_eq_true rfl) (by omega) (by omega) (fun _ _ q => q.elim) ?_
  rintro _ h1 ⟨k5, z5, sv5, rfl, C1, f1, eo1, e5⟩
  have H1 : zMod G h1 ma S th := hM.mid n2 n3 f1
  refine z_istore dLaw_law_1275 (Nat.le_of_ble_eq_true rfl) ?_
  refine z_aload_n dLaw_law_1277 rfl ?_
  refine z_aload_n dLaw_law_1278 rfl ?_
  refine z_iload dLaw_law_1279 rfl ?_
  refine z_iconst dLaw_law_1281 ?_
  refine z_iadd dLaw_law_1282 ?_
  refine z_sld (by omega) dLaw_law_1283 ?_
  refine z_callV (bc' := bc - 6 - 1) (bs' := bs - 36 - 0) MV_Mod_clear lk_Law_231 dLaw_law_1284 (k_Mod_clear H1 (zX9_r (xs := xs) (i + 1)) h16) rfl rfl (Nat.le_of_ble_eq_true rfl) rfl H1.2.1 (Nat.le_of_ble_eq_true rfl) (Nat.le_of_ble_eq_true rfl) (by omega) (by omega) (fun _ _ q => q.elim) ?_
  rintro _ h2 ⟨ma2, th2, z6, rfl, m0, H2, F2, A2, e6⟩
  have hs : (k5 = th2 ∧ z5 = z6 ∧ k5 = 0) ∨ (k5 = th2 ∧ (k5 = 1 ∨ k5 = 2 ∨ k5 = 3)) := by
    rcases e5 with ⟨a5, b5⟩ | ⟨a5, b5⟩ | ⟨a5, b5⟩ | ⟨a5, b5⟩
    · rcases e6 with ⟨a6, b6⟩ | ⟨a6, b6⟩ | ⟨a6, b6⟩ | ⟨a6, b6⟩
      · exact Or.inl ⟨b5.trans b6.symm, Sum.inl.inj (a5.symm.trans a6), b5⟩
      · exact absurd (a5.symm.trans a6) (by first | (simp; done) | decide)
      · exact absurd (a5.symm.trans a6) (by first | (simp; done) | decide)
      · exact absurd (a5.symm.trans a6) (by first | (simp; done) | decide)
    · rcases e6 with ⟨a6, b6⟩ | ⟨a6, b6⟩ | ⟨a6, b6⟩ | ⟨a6, b6⟩
      · exact absurd (a5.symm.trans a6) (by first | (simp; done) | decide)
      · exact Or.inr ⟨b5.trans b6.symm, by omega⟩
      · exact absurd (a5.symm.trans a6) (by first | (simp; done) | decide)
      · exact absurd (a5.symm.trans a6) (by first | (simp; done) | decide)
    · rcases e6 with ⟨a6, b6⟩ | ⟨a6, b6⟩ | ⟨a6, b6⟩ | ⟨a6, b6⟩
      · exact absurd (a5.symm.trans a6) (by first | (simp; done) | decide)
      · exact absurd (a5.symm.trans a6) (by first | (simp; done) | decide)
      · exact absurd (xE_clear (Prod.ext a5 rfl)) (by decide)
      · exact absurd (a5.symm.trans a6) (by first | (simp; done) | decide)
    · rcases e6 with ⟨a6, b6⟩ | ⟨a6, b6⟩ | ⟨a6, b6⟩ | ⟨a6, b6⟩
      · exact absurd (a5.symm.trans a6) (by first | (simp; done) | decide)
      · exact absurd (a5.symm.trans a6) (by first | (simp; done) | decide)
      · exact absurd (a5.symm.trans a6) (by first | (simp; done) | decide)
      · exact absurd (xE_clear (Prod.ext a5 rfl)) (by decide)
  refine z_istore dLaw_law_1287 (Nat.le_of_ble_eq_true rfl) ?_
  refine z_aload_n dLaw_law_1289 rfl ?_
  rw [show ma 0 = ma2 0 from m0.symm]
  refine z_callV (bc' := bc - 6 - 1) (bs' := bs - 36 - 0) MV_Mod_thrown lk_Law_179 dLaw_law_1290 (k_Mod_thrown H2) rfl rfl (Nat.le_of_ble_eq_true rfl) rfl H2.2.1 (Nat.le_of_ble_eq_true rfl) (Nat.le_of_ble_eq_true rfl) (by omega) (by omega) (fun _ _ q => q.elim) ?_
  rintro _ _ ⟨rfl, rfl⟩
  refine z_iload dLaw_law_1293 rfl ?_
  refine z_icmp_eq (tgt := 1300) dLaw_law_1295 (by decide) (by omega) (by omega) (fun c1 => ?_) (fun c1 => ?_)
  · refine z_iload dLaw_law_1300 rfl ?_
    refine z_if_ne (tgt := 1318) dLaw_law_1302 (by decide) (by omega) (fun c2 => ?_) (fun c2 => ?_)
    · refine z_goto (tgt := 3454) dLaw_law_1318 (by decide) ?_
      rw [show ma2 0 = ma 0 from m0]
      exact K _ _ h2 ma2 _ _ _ (zLi.fin C1 eo1 n1 n2 n3 H2 F2 A2 (ok_clear hO) (okb_clear hO okb)) m0 (by omega) (by omega)
    · refine z_aload_n dLaw_law_1305 rfl ?_
      refine z_getN (k := 0) fd_Out (by decide) fl_Law_13 dLaw_law_1306 (F2 ou _ eo1 n2) rfl ?_
      refine z_iload dLaw_law_1309 rfl ?_
      rw [show Value.int (zI z6) = Value.int (zI (zwd z6)) from zwd_i z6]
      refine z_i2l (zwd_r z6) dLaw_law_1311 ?_
      refine z_lcmpI (zwd_64 z5) (zwd_64 z6) dLaw_law_1312 ?_
      have e56 : z5 = z6 := by omega
      rw [e56, zSg_self]
      refine z_if_eq (tgt := 1318) dLaw_law_1313 (by decide) (by decide) (fun c3 => ?_) (fun c3 => ?_)
      · refine z_goto (tgt := 3454) dLaw_law_1318 (by decide) ?_
        rw [show ma2 0 = ma 0 from m0]
        exact K _ _ h2 ma2 _ _ _ (zLi.fin C1 eo1 n1 n2 n3 H2 F2 A2 (ok_clear hO) (okb_clear hO okb)) m0 (by omega) (by omega)
      · exact absurd rfl c3
  · exfalso; omega
theorem c_Law_14 {ou : Nat} {i : Int} {y5 y6 : Option Value} (I : zLi G h ad ma ou S) (hi : 0 ≤ i ∧ i + 4 ≤ L) (hb1 : 210 ≤ bc) (hb2 : 12100 ≤ bs) (K : zLK G l b L xs ad ma ou i bc bs) : zR G l (zLJ G b L xs) bc bs h 1321 [some (.ref b), some (.ref (ad 0)), some (.ref (ma 0)), some (.ref ou), some (zi i), y5, y6] [] := by
  obtain ⟨th, n0, sv, hC, hM, hO, okb, eo, n1, n2, n3⟩ := I
  have oka := okb.1
  have h16 : ∀ k, k < 4 → (S.1 k).length ≤ 16 := fun k hk => (hC.ls hk).len
  have x1 := zX9_r (xs := xs) (i + 1)
  have x2 := zX9_r (xs := xs) (i + 2)
  have x3 := zX9_r (xs := xs) (i + 3)
  refine z_aload_n dLaw_law_1321 rfl ?_
  refine z_aload_n dLaw_law_1322 rfl ?_
  refine z_iload dLaw_law_1323 rfl ?_
  refine z_iconst dLaw_law_1325 ?_
  refine z_iadd dLaw_law_1326 ?_
  refine z_sld (by omega) dLaw_law_1327 ?_
  refine z_aload_n dLaw_law_1328 rfl ?_
  refine z_iload dLaw_law_1329 rfl ?_
  refine z_iconst dLaw_law_1331 ?_
  refine z_iadd dLaw_law_1332 ?_
  refine z_sld (by omega) dLaw_law_1333 ?_
  refine z_aload_n dLaw_law_1334 rfl ?_
  refine z_callSX (bc' := bc - 6) (bs' := bs - 36) MW_Law_append lk_Law_232 dLaw_law_1335 (k_Law_append hC (zX9_r (xs := xs) (i + 1)) (zX9_r (xs := xs) (i + 2)) eo n1) rfl rfl (Nat.le_of_ble_eq_true rfl) (Nat.le_of_ble_eq_true rfl) (Nat.le_of_ble_eq_true rfl) (by omega) (by omega) (fun _ _ q => q.elim) ?_
  rintro _ h1 ⟨k5, z5, sv5, rfl, C1, f1, eo1, e5⟩
  have H1 : zMod G h1 ma S th := hM.mid n2 n3 f1
  refine z_istore dLaw_law_1338 (Nat.le_of_ble_eq_true rfl) ?_
  refine z_aload_n dLaw_law_1340 rfl ?_
  refine z_aload_n dLaw_law_1341 rfl ?_
  refine z_iload dLaw_law_1342 rfl ?_
  refine z_iconst dLaw_law_1344 ?_
  refine z_iadd dLaw_law_1345 ?_
  refine z_sld (by omega) dLaw_law_1346 ?_
  refine z_aload_n dLaw_law_1347 rfl ?_
  refine z_iload dLaw_law_1348 rfl ?_
  refine z_iconst dLaw_law_1350 ?_
  refine z_iadd dLaw_law_1351 ?_
  refine z_sld (by omega) dLaw_law_1352 ?_
  refine z_callV (bc' := bc - 6 - 16) (bs' := bs - 36 - 976) MV_Mod_append lk_Law_234 dLaw_law_1353 (k_Mod_append H1 (zX9_r (xs := xs) (i + 1)) (zX9_r (xs := xs) (i + 2)) h16) rfl rfl (Nat.le_of_ble_eq_true rfl) rfl H1.2.1 (Nat.le_of_ble_eq_true rfl) (Nat.le_of_ble_eq_true rfl) (by omega) (by omega) (fun _ _ q => q.elim) ?_
  rintro _ h2 ⟨ma2, th2, z6, rfl, m0, H2, F2, A2, e6⟩
  have hs : (k5 = th2 ∧ z5 = z6 ∧ k5 = 0) ∨ (k5 = th2 ∧ (k5 = 1 ∨ k5 = 2 ∨ k5 = 3)) := by
    rcases e5 with ⟨a5, b5⟩ | ⟨a5, b5⟩ | ⟨a5, b5⟩ | ⟨a5, b5⟩
    · rcases e6 with ⟨a6, b6⟩ | ⟨a6, b6⟩ | ⟨a6, b6⟩ | ⟨a6, b6⟩
      · exact Or.inl ⟨b5.trans b6.symm, Sum.inl.inj (a5.symm.trans a6), b5⟩
      · exact absurd (a5.symm.trans a6) (by first | (simp; done) | decide)
      · exact absurd (a5.symm.trans a6) (by first | (simp; done) | decide)
      · exact absurd (a5.symm.trans a6) (by first | (simp; done) | decide)
    · rcases e6 with ⟨a6, b6⟩ | ⟨a6, b6⟩ | ⟨a6, b6⟩ | ⟨a6, b6⟩
      · exact absurd (a5.symm.trans a6) (by first | (simp; done) | decide)
      · exact Or.inr ⟨b5.trans b6.symm, by omega⟩
      · exact absurd (a5.symm.trans a6) (by first | (simp; done) | decide)
      · exact absurd (a5.symm.trans a6) (by first | (simp; done) | decide)
    · rcases e6 with ⟨a6, b6⟩ | ⟨a6, b6⟩ | ⟨a6, b6⟩ | ⟨a6, b6⟩
      · exact absurd (a5.symm.trans a6) (by first | (simp; done) | decide)
      · exact absurd (a5.symm.trans a6) (by first | (simp; done) | decide)
      · exact absurd (xE_append (Prod.ext a5 rfl)) (by decide)
      · exact absurd (a5.symm.trans a6) (by first | (simp; done) | decide)
    · rcases e6 with ⟨a6, b6⟩ | ⟨a6, b6⟩ | ⟨a6, b6⟩ | ⟨a6, b6⟩
      · exact absurd (a5.symm.trans a6) (by first | (simp; done) | decide)
      · exact absurd (a5.symm.trans a6) (by first | (simp; done) | decide)
      · exact absurd (a5.symm.trans a6) (by first | (simp; done) | decide)
      · exact absurd (xE_append (Prod.ext a5 rfl)) (by decide)
  refine z_istore dLaw_law_1356 (Nat.le_of_ble_eq_true rfl) ?_
  refine z_aload_n dLaw_law_1358 rfl ?_
  rw [show ma 0 = ma2 0 from m0.symm]
  refine z_callV (bc' := bc - 6 - 16) (bs' := bs - 36 - 976) MV_Mod_thrown lk_Law_179 dLaw_law_1359 (k_Mod_thrown H2) rfl rfl (Nat.le_of_ble_eq_true rfl) rfl H2.2.1 (Nat.le_of_ble_eq_true rfl) (Nat.le_of_ble_eq_true rfl) (by omega) (by omega) (fun _ _ q => q.elim) ?_
  rintro _ _ ⟨rfl, rfl⟩
  refine z_iload dLaw_law_1362 rfl ?_
  refine z_icmp_eq (tgt := 1369) dLaw_law_1364 (by decide) (by omega) (by omega) (fun c1 => ?_) (fun c1 => ?_)
  · refine z_iload dLaw_law_1369 rfl ?_
    refine z_if_ne (tgt := 1387) dLaw_law_1371 (by decide) (by omega) (fun c2 => ?_) (fun c2 => ?_)
    · refine z_goto (tgt := 3454) dLaw_law_1387 (by decide) ?_
      rw [show ma2 0 = ma 0 from m0]
      exact K _ _ h2 ma2 _ _ _ (zLi.fin C1 eo1 n1 n2 n3 H2 F2 A2 (ok_append hO) (okb_append hO okb)) m0 (by omega) (by omega)
    · refine z_aload_n dLaw_law_1374 rfl ?_
      refine z_getN (k := 0) fd_Out (by decide) fl_Law_13 dLaw_law_1375 (F2 ou _ eo1 n2) rfl ?_
      refine z_iload dLaw_law_1378 rfl ?_
      rw [show Value.int (zI z6) = Value.int (zI (zwd z6)) from zwd_i z6]
      refine z_i2l (zwd_r z6) dLaw_law_1380 ?_
      refine z_lcmpI (zwd_64 z5) (zwd_64 z6) dLaw_law_1381 ?_
      have e56 : z5 = z6 := by omega
      rw [e56, zSg_self]
      refine z_if_eq (tgt := 1387) dLaw_law_1382 (by decide) (by decide) (fun c3 => ?_) (fun c3 => ?_)
      · refine z_goto (tgt := 3454) dLaw_law_1387 (by decide) ?_
        rw [show ma2 0 = ma 0 from m0]
        exact K _ _ h2 ma2 _ _ _ (zLi.fin C1 eo1 n1 n2 n3 H2 F2 A2 (ok_append hO) (okb_append hO okb)) m0 (by omega) (by omega)
      · exact absurd rfl c3
  · exfalso; omega
theorem c_Law_15 {ou : Nat} {i : Int} {y5 y6 : Option Value} (I : zLi G h ad ma ou S) (hi : 0 ≤ i ∧ i + 4 ≤ L) (hb1 : 210 ≤ bc) (hb2 : 12100 ≤ bs) (K : zLK G l b L xs ad ma ou i bc bs) : zR G l (zLJ G b L xs) bc bs h 1390 [some (.ref b), some (.ref (ad 0)), some (.ref (ma 0)), some (.ref ou), some (zi i), y5, y6] [] := by
  obtain ⟨th, n0, sv, hC, hM, hO, okb, eo, n1, n2, n3⟩ := I
  have oka := okb.1
  have h16 : ∀ k, k < 4 → (S.1 k).length ≤ 16 := fun k hk => (hC.ls hk).len
  have x1 := zX9_r (xs := xs) (i + 1)
  have x2 := zX9_r (xs := xs) (i + 2)
  have x3 := zX9_r (xs := xs) (i + 3)
  refine z_aload_n dLaw_law_1390 rfl ?_
  refine z_aload_n dLaw_law_1391 rfl ?_
  refine z_iload dLaw_law_1392 rfl ?_
  refine z_iconst dLaw_law_1394 ?_
  refine z_iadd dLaw_law_1395 ?_
  refine z_sld (by omega) dLaw_law_1396 ?_
  refine z_aload_n dLaw_law_1397 rfl ?_
  refine z_iload dLaw_law_1398 rfl ?_
  refine z_iconst dLaw_law_1400 ?_
  refine z_iadd dLaw_law_1401 ?_
  refine z_sld (by omega) dLaw_law_1402 ?_
  refine z_aload_n dLaw_law_1403 rfl ?_
  refine z_iload dLaw_law_1404 rfl ?_
  refine z_iconst dLaw_law_1406 ?_
  refine z_iadd dLaw_law_1407 ?_
  refine z_sld (by omega) dLaw_law_1408 ?_
  refine z_aload_n dLaw_law_1409 rfl ?_
  refine z_callSX (bc' := bc - 6) (bs' := bs - 36) MW_Law_appendAt lk_Law_235 dLaw_law_1410 (k_Law_appendAt hC (zX9_r (xs := xs) (i + 1)) (zX9_r (xs := xs) (i + 2)) (zX9_r (xs := xs) (i + 3)) eo n1) rfl rfl (Nat.le_of_ble_eq_true rfl) (Nat.le_of_ble_eq_true rfl) (Nat.le_of_ble_eq_true rfl) (by omega) (by omega) (fun _ _ q => q.elim) ?_
  rintro _ h1 ⟨k5, z5, sv5, rfl, C1, f1, eo1, e5⟩
  have H1 : zMod G h1 ma S th := hM.mid n2 n3 f1
  refine z_istore dLaw_law_1413 (Nat.le_of_ble_eq_true rfl) ?_
  refine z_aload_n dLaw_law_1415 rfl ?_
  refine z_aload_n dLaw_law_1416 rfl ?_
  refine z_iload dLaw_law_1417 rfl ?_
  refine z_iconst dLaw_law_1419 ?_
  refine z_iadd dLaw_law_1420 ?_
  refine z_sld (by omega) dLaw_law_1421 ?_
  refine z_aload_n dLaw_law_1422 rfl ?_
  refine z_iload dLaw_law_1423 rfl ?_
  refine z_iconst dLaw_law_1425 ?_
  refine z_iadd dLaw_law_1426 ?_
  refine z_sld (by omega) dLaw_law_1427 ?_
  refine z_aload_n dLaw_law_1428 rfl ?_
  refine z_iload dLaw_law_1429 rfl ?_
  refine z_iconst dLaw_law_1431 ?_
  refine z_iadd dLaw_law_1432 ?_
  refine z_sld (by omega) dLaw_law_1433 ?_
  refine z_callV (bc' := bc - 6 - 16) (bs' := bs - 36 - 976) MV_Mod_appendAt lk_Law_237 dLaw_law_1434 (k_Mod_appendAt H1 (zX9_r (xs := xs) (i + 1)) (zX9_r (xs := xs) (i + 2)) (zX9_r (xs := xs) (i + 3)) h16) rfl rfl (Nat.le_of_ble_eq_true rfl) rfl H1.2.1 (Nat.le_of_ble_eq_true rfl) (Nat.le_of_ble_eq_true rfl) (by omega) (by omega) (fun _ _ q => q.elim) ?_
  rintro _ h2 ⟨ma2, th2, z6, rfl, m0, H2, F2, A2, e6⟩
  have hs : (k5 = th2 ∧ z5 = z6 ∧ k5 = 0) ∨ (k5 = th2 ∧ (k5 = 1 ∨ k5 = 2 ∨ k5 = 3)) := by
    rcases e5 with ⟨a5, b5⟩ | ⟨a5, b5⟩ | ⟨a5, b5⟩ | ⟨a5, b5⟩
    · rcases e6 with ⟨a6, b6⟩ | ⟨a6, b6⟩ | ⟨a6, b6⟩ | ⟨a6, b6⟩
      · exact Or.inl ⟨b5.trans b6.symm, Sum.inl.inj (a5.symm.trans a6), b5⟩
      · exact absurd (a5.symm.trans a6) (by first | (simp; done) | decide)
      · exact absurd (a5.symm.trans a6) (by first | (simp; done) | decide)
      · exact absurd (a5.symm.trans a6) (by first | (simp; done) | decide)
    · rcases e6 with ⟨a6, b6⟩ | ⟨a6, b6⟩ | ⟨a6, b6⟩ | ⟨a6, b6⟩
      · exact absurd (a5.symm.trans a6) (by first | (simp; done) | decide)
      · exact Or.inr ⟨b5.trans b6.symm, by omega⟩
      · exact absurd (a5.symm.trans a6) (by first | (simp; done) | decide)
      · exact absurd (a5.symm.trans a6) (by first | (simp; done) | decide)
    · rcases e6 with ⟨a6, b6⟩ | ⟨a6, b6⟩ | ⟨a6, b6⟩ | ⟨a6, b6⟩
      · exact absurd (a5.symm.trans a6) (by first | (simp; done) | decide)
      · exact absurd (a5.symm.trans a6) (by first | (simp; done) | decide)
      · exact absurd (xE_appendAt (Prod.ext a5 rfl)) (by decide)
      · exact absurd (a5.symm.trans a6) (by first | (simp; done) | decide)
    · rcases e6 with ⟨a6, b6⟩ | ⟨a6, b6⟩ | ⟨a6, b6⟩ | ⟨a6, b6⟩
      · exact absurd (a5.symm.trans a6) (by first | (simp; done) | decide)
      · exact absurd (a5.symm.trans a6) (by first | (simp; done) | decide)
      · exact absurd (a5.symm.trans a6) (by first | (simp; done) | decide)
      · exact absurd (xE_appendAt (Prod.ext a5 rfl)) (by decide)
  refine z_istore dLaw_law_1437 (Nat.le_of_ble_eq_true rfl) ?_
  refine z_aload_n dLaw_law_1439 rfl ?_
  rw [show ma 0 = ma2 0 from m0.symm]
  refine z_callV (bc' := bc - 6 - 16) (bs' := bs - 36 - 976) MV_Mod_thrown lk_Law_179 dLaw_law_1440 (k_Mod_thrown H2) rfl rfl (Nat.le_of_ble_eq_true rfl) rfl H2.2.1 (Nat.le_of_ble_eq_true rfl) (Nat.le_of_ble_eq_true rfl) (by omega) (by omega) (fun _ _ q => q.elim) ?_
  rintro _ _ ⟨rfl, rfl⟩
  refine z_iload dLaw_law_1443 rfl ?_
  refine z_icmp_eq (tgt := 1450) dLaw_law_1445 (by decide) (by omega) (by omega) (fun c1 => ?_) (fun c1 => ?_)
  · refine z_iload dLaw_law_1450 rfl ?_
    refine z_if_ne (tgt := 1468) dLaw_law_1452 (by decide) (by omega) (fun c2 => ?_) (fun c2 => ?_)
    · refine z_goto (tgt := 3454) dLaw_law_1468 (by decide) ?_
      rw [show ma2 0 = ma 0 from m0]
      exact K _ _ h2 ma2 _ _ _ (zLi.fin C1 eo1 n1 n2 n3 H2 F2 A2 (ok_appendAt hO) (okb_appendAt hO okb)) m0 (by omega) (by omega)
    · refine z_aload_n dLaw_law_1455 rfl ?_
      refine z_getN (k := 0) fd_Out (by decide) fl_Law_13 dLaw_law_1456 (F2 ou _ eo1 n2) rfl ?_
      refine z_iload dLaw_law_1459 rfl ?_
      rw [show Value.int (zI z6) = Value.int (zI (zwd z6)) from zwd_i z6]
      refine z_i2l (zwd_r z6) dLaw_law_1461 ?_
      refine z_lcmpI (zwd_64 z5) (zwd_64 z6) dLaw_law_1462 ?_
      have e56 : z5 = z6 := by omega
      rw [e56, zSg_self]
      refine z_if_eq (tgt := 1468) dLaw_law_1463 (by decide) (by decide) (fun c3 => ?_) (fun c3 => ?_)
      · refine z_goto (tgt := 3454) dLaw_law_1468 (by decide) ?_
        rw [show ma2 0 = ma 0 from m0]
        exact K _ _ h2 ma2 _ _ _ (zLi.fin C1 eo1 n1 n2 n3 H2 F2 A2 (ok_appendAt hO) (okb_appendAt hO okb)) m0 (by omega) (by omega)
      · exact absurd rfl c3
  · exfalso; omega
theorem c_Law_16 {ou : Nat} {i : Int} {y5 y6 : Option Value} (I : zLi G h ad ma ou S) (hi : 0 ≤ i ∧ i + 4 ≤ L) (hb1 : 210 ≤ bc) (hb2 : 12100 ≤ bs) (K : zLK G l b L xs ad ma ou i bc bs) : zR G l (zLJ G b L xs) bc bs h 1471 [some (.ref b), some (.ref (ad 0)), some (.ref (ma 0)), some (.ref ou), some (zi i), y5, y6] [] := by
  obtain ⟨th, n0, sv, hC, hM, hO, okb, eo, n1, n2, n3⟩ := I
  have oka := okb.1
  have h16 : ∀ k, k < 4 → (S.1 k).length ≤ 16 := fun k hk => (hC.ls hk).len
  have x1 := zX9_r (xs := xs) (i + 1)
  have x2 := zX9_r (xs := xs) (i + 2)
  have x3 := zX9_r (xs := xs) (i + 3)
  refine z_aload_n dLaw_law_1471 rfl ?_
  refine z_aload_n dLaw_law_1472 rfl ?_
  refine z_iload dLaw_law_1473 rfl ?_
  refine z_iconst dLaw_law_1475 ?_
  refine z_iadd dLaw_law_1476 ?_
  refine z_sld (by omega) dLaw_law_1477 ?_
  refine z_aload_n dLaw_law_1478 rfl ?_
  refine z_iload dLaw_law_1479 rfl ?_
  refine z_iconst dLaw_law_1481 ?_
  refine z_iadd dLaw_law_1482 ?_
  refine z_sld (by omega) dLaw_law_1483 ?_
  refine z_aload_n dLaw_law_1484 rfl ?_
  refine z_callSX (bc' := bc - 6) (bs' := bs - 36) MW_Law_copy lk_Law_238 dLaw_law_1485 (k_Law_copy hC (zX9_r (xs := xs) (i + 1)) (zX9_r (xs := xs) (i + 2)) eo n1) rfl rfl (Nat.le_of_ble_eq_true rfl) (Nat.le_of_ble_eq_true rfl) (Nat.le_of_ble_eq_true rfl) (by omega) (by omega) (fun _ _ q => q.elim) ?_
  rintro _ h1 ⟨k5, z5, sv5, rfl, C1, f1, eo1, e5⟩
  have H1 : zMod G h1 ma S th := hM.mid n2 n3 f1
  refine z_istore dLaw_law_1488 (Nat.le_of_ble_eq_true rfl) ?_
  refine z_aload_n dLaw_law_1490 rfl ?_
  refine z_aload_n dLaw_law_1491 rfl ?_
  refine z_iload dLaw_law_1492 rfl ?_
  refine z_iconst dLaw_law_1494 ?_
  refine z_iadd dLaw_law_1495 ?_
  refine z_sld (by omega) dLaw_law_1496 ?_
  refine z_aload_n dLaw_law_1497 rfl ?_
  refine z_iload dLaw_law_1498 rfl ?_
  refine z_iconst dLaw_law_1500 ?_
  refine z_iadd dLaw_law_1501 ?_
  refine z_sld (by omega) dLaw_law_1502 ?_
  refine z_callV (bc' := bc - 6 - 17) (bs' := bs - 36 - 976) MV_Mod_copy lk_Law_240 dLaw_law_1503 (k_Mod_copy H1 (zX9_r (xs := xs) (i + 1)) (zX9_r (xs := xs) (i + 2)) h16) rfl rfl (Nat.le_of_ble_eq_true rfl) rfl H1.2.1 (Nat.le_of_ble_eq_true rfl) (Nat.le_of_ble_eq_true rfl) (by omega) (by omega) (fun _ _ q => q.elim) ?_
  rintro _ h2 ⟨ma2, th2, z6, rfl, m0, H2, F2, A2, e6⟩
  have hs : (k5 = th2 ∧ z5 = z6 ∧ k5 = 0) ∨ (k5 = th2 ∧ (k5 = 1 ∨ k5 = 2 ∨ k5 = 3)) := by
    rcases e5 with ⟨a5, b5⟩ | ⟨a5, b5⟩ | ⟨a5, b5⟩ | ⟨a5, b5⟩
    · rcases e6 with ⟨a6, b6⟩ | ⟨a6, b6⟩ | ⟨a6, b6⟩ | ⟨a6, b6⟩
      · exact Or.inl ⟨b5.trans b6.symm, Sum.inl.inj (a5.symm.trans a6), b5⟩
      · exact absurd (a5.symm.trans a6) (by first | (simp; done) | decide)
      · exact absurd (a5.symm.trans a6) (by first | (simp; done) | decide)
      · exact absurd (a5.symm.trans a6) (by first | (simp; done) | decide)
    · rcases e6 with ⟨a6, b6⟩ | ⟨a6, b6⟩ | ⟨a6, b6⟩ | ⟨a6, b6⟩
      · exact absurd (a5.symm.trans a6) (by first | (simp; done) | decide)
      · exact Or.inr ⟨b5.trans b6.symm, by omega⟩
      · exact absurd (a5.symm.trans a6) (by first | (simp; done) | decide)
      · exact absurd (a5.symm.trans a6) (by first | (simp; done) | decide)
    · rcases e6 with ⟨a6, b6⟩ | ⟨a6, b6⟩ | ⟨a6, b6⟩ | ⟨a6, b6⟩
      · exact absurd (a5.symm.trans a6) (by first | (simp; done) | decide)
      · exact absurd (a5.symm.trans a6) (by first | (simp; done) | decide)
      · exact absurd (xE_copy (Prod.ext a5 rfl)) (by decide)
      · exact absurd (a5.symm.trans a6) (by first | (simp; done) | decide)
    · rcases e6 with ⟨a6, b6⟩ | ⟨a6, b6⟩ | ⟨a6, b6⟩ | ⟨a6, b6⟩
      · exact absurd (a5.symm.trans a6) (by first | (simp; done) | decide)
      · exact absurd (a5.symm.trans a6) (by first | (simp; done) | decide)
      · exact absurd (a5.symm.trans a6) (by first | (simp; done) | decide)
      · exact absurd (xE_copy (Prod.ext a5 rfl)) (by decide)
  refine z_istore dLaw_law_1506 (Nat.le_of_ble_eq_true rfl) ?_
  refine z_aload_n dLaw_law_1508 rfl ?_
  rw [show ma 0 = ma2 0 from m0.symm]
  refine z_callV (bc' := bc - 6 - 17) (bs' := bs - 36 - 976) MV_Mod_thrown lk_Law_179 dLaw_law_1509 (k_Mod_thrown H2) rfl rfl (Nat.le_of_ble_eq_true rfl) rfl H2.2.1 (Nat.le_of_ble_eq_true rfl) (Nat.le_of_ble_eq_true rfl) (by omega) (by omega) (fun _ _ q => q.elim) ?_
  rintro _ _ ⟨rfl, rfl⟩
  refine z_iload dLaw_law_1512 rfl ?_
  refine z_icmp_eq (tgt := 1519) dLaw_law_1514 (by decide) (by omega) (by omega) (fun c1 => ?_) (fun c1 => ?_)
  · refine z_iload dLaw_law_1519 rfl ?_
    refine z_if_ne (tgt := 1537) dLaw_law_1521 (by decide) (by omega) (fun c2 => ?_) (fun c2 => ?_)
    · refine z_goto (tgt := 3454) dLaw_law_1537 (by decide) ?_
      rw [show ma2 0 = ma 0 from m0]
      exact K _ _ h2 ma2 _ _ _ (zLi.fin C1 eo1 n1 n2 n3 H2 F2 A2 (ok_copy hO) (okb_copy hO okb)) m0 (by omega) (by omega)
    · refine z_aload_n dLaw_law_1524 rfl ?_
      refine z_getN (k := 0) fd_Out (by decide) fl_Law_13 dLaw_law_1525 (F2 ou _ eo1 n2) rfl ?_
      refine z_iload dLaw_law_1528 rfl ?_
      rw [show Value.int (zI z6) = Value.int (zI (zwd z6)) from zwd_i z6]
      refine z_i2l (zwd_r z6) dLaw_law_1530 ?_
      refine z_lcmpI (zwd_64 z5) (zwd_64 z6) dLaw_law_1531 ?_
      have e56 : z5 = z6 := by omega
      rw [e56, zSg_self]
      refine z_if_eq (tgt := 1537) dLaw_law_1532 (by decide) (by decide) (fun c3 => ?_) (fun c3 => ?_)
      · refine z_goto (tgt := 3454) dLaw_law_1537 (by decide) ?_
        rw [show ma2 0 = ma 0 from m0]
        exact K _ _ h2 ma2 _ _ _ (zLi.fin C1 eo1 n1 n2 n3 H2 F2 A2 (ok_copy hO) (okb_copy hO okb)) m0 (by omega) (by omega)
      · exact absurd rfl c3
  · exfalso; omega
theorem c_Law_17 {ou : Nat} {i : Int} {y5 y6 : Option Value} (I : zLi G h ad ma ou S) (hi : 0 ≤ i ∧ i + 4 ≤ L) (hb1 : 210 ≤ bc) (hb2 : 12100 ≤ bs) (K : zLK G l b L xs ad ma ou i bc bs) : zR G l (zLJ G b L xs) bc bs h 1540 [some (.ref b), some (.ref (ad 0)), some (.ref (ma 0)), some (.ref ou), some (zi i), y5, y6] [] := by
  obtain ⟨th, n0, sv, hC, hM, hO, okb, eo, n1, n2, n3⟩ := I
  have oka := okb.1
  have h16 : ∀ k, k < 4 → (S.1 k).length ≤ 16 := fun k hk => (hC.ls hk).len
  have x1 := zX9_r (xs := xs) (i + 1)
  have x2 := zX9_r (xs := xs) (i + 2)
  have x3 := zX9_r (xs := xs) (i + 3)
  refine z_aload_n dLaw_law_1540 rfl ?_
  refine z_aload_n dLaw_law_1541 rfl ?_
  refine z_iload dLaw_law_1542 rfl ?_
  refine z_iconst dLaw_law_1544 ?_
  refine z_iadd dLaw_law_1545 ?_
  refine z_sld (by omega) dLaw_law_1546 ?_
  refine z_aload_n dLaw_law_1547 rfl ?_
  refine z_iload dLaw_law_1548 rfl ?_
  refine z_iconst dLaw_law_1550 ?_
  refine z_iadd dLaw_law_1551 ?_
  refine z_sld (by omega) dLaw_law_1552 ?_
  refine z_aload_n dLaw_law_1553 rfl ?_
  refine z_callSX (bc' := bc - 6) (bs' := bs - 36) MW_Law_places lk_Law_241 dLaw_law_1554 (k_Law_places hC (zX9_r (xs := xs) (i + 1)) (zX9_r (xs := xs) (i + 2)) eo n1) rfl rfl (Nat.le_of_ble_eq_true rfl) (Nat.le_of_ble_eq_true rfl) (Nat.le_of_ble_eq_true rfl) (by omega) (by omega) (fun _ _ q => q.elim) ?_
  rintro _ h1 ⟨k5, z5, sv5, rfl, C1, f1, eo1, e5⟩
  have H1 : zMod G h1 ma S th := hM.mid n2 n3 f1
  refine z_istore dLaw_law_1557 (Nat.le_of_ble_eq_true rfl) ?_
  refine z_aload_n dLaw_law_1559 rfl ?_
  refine z_aload_n dLaw_law_1560 rfl ?_
  refine z_iload dLaw_law_1561 rfl ?_
  refine z_iconst dLaw_law_1563 ?_
  refine z_iadd dLaw_law_1564 ?_
  refine z_sld (by omega) dLaw_law_1565 ?_
  refine z_aload_n dLaw_law_1566 rfl ?_
  refine z_iload dLaw_law_1567 rfl ?_
  refine z_iconst dLaw_law_1569 ?_
  refine z_iadd dLaw_law_1570 ?_
  refine z_sld (by omega) dLaw_law_1571 ?_
  refine z_callV (bc' := bc - 6 - 1) (bs' := bs - 36 - 16) MV_Mod_places lk_Law_243 dLaw_law_1572 (k_Mod_places H1 (zX9_r (xs := xs) (i + 1)) (zX9_r (xs := xs) (i + 2)) h16) rfl rfl (Nat.le_of_ble_eq_true rfl) rfl H1.2.1 (Nat.le_of_ble_eq_true rfl) (Nat.le_of_ble_eq_true rfl) (by omega) (by omega) (fun _ _ q => q.elim) ?_
  rintro _ h2 ⟨ma2, th2, z6, rfl, m0, H2, F2, A2, e6⟩
  have hs : (k5 = th2 ∧ z5 = z6 ∧ k5 = 0) ∨ (k5 = th2 ∧ (k5 = 1 ∨ k5 = 2 ∨ k5 = 3)) := by
    rcases e5 with ⟨a5, b5⟩ | ⟨a5, b5⟩ | ⟨a5, b5⟩ | ⟨a5, b5⟩
    · rcases e6 with ⟨a6, b6⟩ | ⟨a6, b6⟩ | ⟨a6, b6⟩ | ⟨a6, b6⟩
      · exact Or.inl ⟨b5.trans b6.symm, Sum.inl.inj (a5.symm.trans a6), b5⟩
      · exact absurd (a5.symm.trans a6) (by first | (simp; done) | decide)
      · exact absurd (a5.symm.trans a6) (by first | (simp; done) | decide)
      · exact absurd (a5.symm.trans a6) (by first | (simp; done) | decide)
    · rcases e6 with ⟨a6, b6⟩ | ⟨a6, b6⟩ | ⟨a6, b6⟩ | ⟨a6, b6⟩
      · exact absurd (a5.symm.trans a6) (by first | (simp; done) | decide)
      · exact Or.inr ⟨b5.trans b6.symm, by omega⟩
      · exact absurd (a5.symm.trans a6) (by first | (simp; done) | decide)
      · exact absurd (a5.symm.trans a6) (by first | (simp; done) | decide)
    · rcases e6 with ⟨a6, b6⟩ | ⟨a6, b6⟩ | ⟨a6, b6⟩ | ⟨a6, b6⟩
      · exact absurd (a5.symm.trans a6) (by first | (simp; done) | decide)
      · exact absurd (a5.symm.trans a6) (by first | (simp; done) | decide)
      · exact Or.inr ⟨b5.trans b6.symm, by omega⟩
      · exact absurd (a5.symm.trans a6) (by first | (simp; done) | decide)
    · rcases e6 with ⟨a6, b6⟩ | ⟨a6, b6⟩ | ⟨a6, b6⟩ | ⟨a6, b6⟩
      · exact absurd (a5.symm.trans a6) (by first | (simp; done) | decide)
      · exact absurd (a5.symm.trans a6) (by first | (simp; done) | decide)
      · exact absurd (a5.symm.trans a6) (by first | (simp; done) | decide)
      · exact absurd (xE_places (Prod.ext a5 rfl)) (by decide)
  refine z_istore dLaw_law_1575 (Nat.le_of_ble_eq_true rfl) ?_
  refine z_aload_n dLaw_law_1577 rfl ?_
  rw [show ma 0 = ma2 0 from m0.symm]
  refine z_callV (bc' := bc - 6 - 1) (bs' := bs - 36 - 16) MV_Mod_thrown lk_Law_179 dLaw_law_1578 (k_Mod_thrown H2) rfl rfl (Nat.le_of_ble_eq_true rfl) rfl H2.2.1 (Nat.le_of_ble_eq_true rfl) (Nat.le_of_ble_eq_true rfl) (by omega) (by omega) (fun _ _ q => q.elim) ?_
  rintro _ _ ⟨rfl, rfl⟩
  refine z_iload dLaw_law_1581 rfl ?_
  refine z_icmp_eq (tgt := 1588) dLaw_law_1583 (by decide) (by omega) (by omega) (fun c1 => ?_) (fun c1 => ?_)
  · refine z_iload dLaw_law_1588 rfl ?_
    refine z_if_ne (tgt := 1606) dLaw_law_1590 (by decide) (by omega) (fun c2 => ?_) (fun c2 => ?_)
    · refine z_goto (tgt := 3454) dLaw_law_1606 (by decide) ?_
      rw [show ma2 0 = ma 0 from m0]
      exact K _ _ h2 ma2 _ _ _ (zLi.fin C1 eo1 n1 n2 n3 H2 F2 A2 (ok_places hO) (okb_places hO okb)) m0 (by omega) (by omega)
    · refine z_aload_n dLaw_law_1593 rfl ?_
      refine z_getN (k := 0) fd_Out (by decide) fl_Law_13 dLaw_law_1594 (F2 ou _ eo1 n2) rfl ?_
      refine z_iload dLaw_law_1597 rfl ?_
      rw [show Value.int (zI z6) = Value.int (zI (zwd z6)) from zwd_i z6]
      refine z_i2l (zwd_r z6) dLaw_law_1599 ?_
      refine z_lcmpI (zwd_64 z5) (zwd_64 z6) dLaw_law_1600 ?_
      have e56 : z5 = z6 := by omega
      rw [e56, zSg_self]
      refine z_if_eq (tgt := 1606) dLaw_law_1601 (by decide) (by decide) (fun c3 => ?_) (fun c3 => ?_)
      · refine z_goto (tgt := 3454) dLaw_law_1606 (by decide) ?_
        rw [show ma2 0 = ma 0 from m0]
        exact K _ _ h2 ma2 _ _ _ (zLi.fin C1 eo1 n1 n2 n3 H2 F2 A2 (ok_places hO) (okb_places hO okb)) m0 (by omega) (by omega)
      · exact absurd rfl c3
  · exfalso; omega
theorem c_Law_18 {ou : Nat} {i : Int} {y5 y6 : Option Value} (I : zLi G h ad ma ou S) (hi : 0 ≤ i ∧ i + 4 ≤ L) (hb1 : 210 ≤ bc) (hb2 : 12100 ≤ bs) (K : zLK G l b L xs ad ma ou i bc bs) : zR G l (zLJ G b L xs) bc bs h 1609 [some (.ref b), some (.ref (ad 0)), some (.ref (ma 0)), some (.ref ou), some (zi i), y5, y6] [] := by
  obtain ⟨th, n0, sv, hC, hM, hO, okb, eo, n1, n2, n3⟩ := I
  have oka := okb.1
  have h16 : ∀ k, k < 4 → (S.1 k).length ≤ 16 := fun k hk => (hC.ls hk).len
  have x1 := zX9_r (xs := xs) (i + 1)
  have x2 := zX9_r (xs := xs) (i + 2)
  have x3 := zX9_r (xs := xs) (i + 3)
  refine z_aload_n dLaw_law_1609 rfl ?_
  refine z_aload_n dLaw_law_1610 rfl ?_
  refine z_iload dLaw_law_1611 rfl ?_
  refine z_iconst dLaw_law_1613 ?_
  refine z_iadd dLaw_law_1614 ?_
  refine z_sld (by omega) dLaw_law_1615 ?_
  refine z_aload_n dLaw_law_1616 rfl ?_
  refine z_iload dLaw_law_1617 rfl ?_
  refine z_iconst dLaw_law_1619 ?_
  refine z_iadd dLaw_law_1620 ?_
  refine z_sld (by omega) dLaw_law_1621 ?_
  refine z_aload_n dLaw_law_1622 rfl ?_
  refine z_callSX (bc' := bc - 6) (bs' := bs - 36) MW_Law_rotate lk_Law_244 dLaw_law_1623 (k_Law_rotate hC (zX9_r (xs := xs) (i + 1)) (zX9_r (xs := xs) (i + 2)) eo n1) rfl rfl (Nat.le_of_ble_eq_true rfl) (Nat.le_of_ble_eq_true rfl) (Nat.le_of_ble_eq_true rfl) (by omega) (by omega) (fun _ _ q => q.elim) ?_
  rintro _ h1 ⟨k5, z5, sv5, rfl, C1, f1, eo1, e5⟩
  have H1 : zMod G h1 ma S th := hM.mid n2 n3 f1
  refine z_istore dLaw_law_1626 (Nat.le_of_ble_eq_true rfl) ?_
  refine z_aload_n dLaw_law_1628 rfl ?_
  refine z_aload_n dLaw_law_1629 rfl ?_
  refine z_iload dLaw_law_1630 rfl ?_
  refine z_iconst dLaw_law_1632 ?_
  refine z_iadd dLaw_law_1633 ?_
  refine z_sld (by omega) dLaw_law_1634 ?_
  refine z_aload_n dLaw_law_1635 rfl ?_
  refine z_iload dLaw_law_1636 rfl ?_
  refine z_iconst dLaw_law_1638 ?_
  refine z_iadd dLaw_law_1639 ?_
  refine z_sld (by omega) dLaw_law_1640 ?_
  refine z_callV (bc' := bc - 6 - 198) (bs' := bs - 36 - 11979) MV_Mod_rotate lk_Law_246 dLaw_law_1641 (k_Mod_rotate H1 (zX9_r (xs := xs) (i + 1)) (zX9_r (xs := xs) (i + 2)) h16) rfl rfl (Nat.le_of_ble_eq_true rfl) rfl H1.2.1 (Nat.le_of_ble_eq_true rfl) (Nat.le_of_ble_eq_true rfl) (by omega) (by omega) (fun _ _ q => q.elim) ?_
  rintro _ h2 ⟨ma2, th2, z6, rfl, m0, H2, F2, A2, e6⟩
  have hs : (k5 = th2 ∧ z5 = z6 ∧ k5 = 0) ∨ (k5 = th2 ∧ (k5 = 1 ∨ k5 = 2 ∨ k5 = 3)) := by
    rcases e5 with ⟨a5, b5⟩ | ⟨a5, b5⟩ | ⟨a5, b5⟩ | ⟨a5, b5⟩
    · rcases e6 with ⟨a6, b6⟩ | ⟨a6, b6⟩ | ⟨a6, b6⟩ | ⟨a6, b6⟩
      · exact Or.inl ⟨b5.trans b6.symm, Sum.inl.inj (a5.symm.trans a6), b5⟩
      · exact absurd (a5.symm.trans a6) (by first | (simp; done) | decide)
      · exact absurd (a5.symm.trans a6) (by first | (simp; done) | decide)
      · exact absurd (a5.symm.trans a6) (by first | (simp; done) | decide)
    · rcases e6 with ⟨a6, b6⟩ | ⟨a6, b6⟩ | ⟨a6, b6⟩ | ⟨a6, b6⟩
      · exact absurd (a5.symm.trans a6) (by first | (simp; done) | decide)
      · exact Or.inr ⟨b5.trans b6.symm, by omega⟩
      · exact absurd (a5.symm.trans a6) (by first | (simp; done) | decide)
      · exact absurd (a5.symm.trans a6) (by first | (simp; done) | decide)
    · rcases e6 with ⟨a6, b6⟩ | ⟨a6, b6⟩ | ⟨a6, b6⟩ | ⟨a6, b6⟩
      · exact absurd (a5.symm.trans a6) (by first | (simp; done) | decide)
      · exact absurd (a5.symm.trans a6) (by first | (simp; done) | decide)
      · exact Or.inr ⟨b5.trans b6.symm, by omega⟩
      · exact absurd (a5.symm.trans a6) (by first | (simp; done) | decide)
    · rcases e6 with ⟨a6, b6⟩ | ⟨a6, b6⟩ | ⟨a6, b6⟩ | ⟨a6, b6⟩
      · exact absurd (a5.symm.trans a6) (by first | (simp; done) | decide)
      · exact absurd (a5.symm.trans a6) (by first | (simp; done) | decide)
      · exact absurd (a5.symm.trans a6) (by first | (simp; done) | decide)
      · exact absurd (xE_rotate (Prod.ext a5 rfl)) (by decide)
  refine z_istore dLaw_law_1644 (Nat.le_of_ble_eq_true rfl) ?_
  refine z_aload_n dLaw_law_1646 rfl ?_
  rw [show ma 0 = ma2 0 from m0.symm]
  refine z_callV (bc' := bc - 6 - 198) (bs' := bs - 36 - 11979) MV_Mod_thrown lk_Law_179 dLaw_law_1647 (k_Mod_thrown H2) rfl rfl (Nat.le_of_ble_eq_true rfl) rfl H2.2.1 (Nat.le_of_ble_eq_true rfl) (Nat.le_of_ble_eq_true rfl) (by omega) (by omega) (fun _ _ q => q.elim) ?_
  rintro _ _ ⟨rfl, rfl⟩
  refine z_iload dLaw_law_1650 rfl ?_
  refine z_icmp_eq (tgt := 1657) dLaw_law_1652 (by decide) (by omega) (by omega) (fun c1 => ?_) (fun c1 => ?_)
  · refine z_iload dLaw_law_1657 rfl ?_
    refine z_if_ne (tgt := 1675) dLaw_law_1659 (by decide) (by omega) (fun c2 => ?_) (fun c2 => ?_)
    · refine z_goto (tgt := 3454) dLaw_law_1675 (by decide) ?_
      rw [show ma2 0 = ma 0 from m0]
      exact K _ _ h2 ma2 _ _ _ (zLi.fin C1 eo1 n1 n2 n3 H2 F2 A2 (ok_rotate hO) (okb_rotate hO okb)) m0 (by omega) (by omega)
    · refine z_aload_n dLaw_law_1662 rfl ?_
      refine z_getN (k := 0) fd_Out (by decide) fl_Law_13 dLaw_law_1663 (F2 ou _ eo1 n2) rfl ?_
      refine z_iload dLaw_law_1666 rfl ?_
      rw [show Value.int (zI z6) = Value.int (zI (zwd z6)) from zwd_i z6]
      refine z_i2l (zwd_r z6) dLaw_law_1668 ?_
      refine z_lcmpI (zwd_64 z5) (zwd_64 z6) dLaw_law_1669 ?_
      have e56 : z5 = z6 := by omega
      rw [e56, zSg_self]
      refine z_if_eq (tgt := 1675) dLaw_law_1670 (by decide) (by decide) (fun c3 => ?_) (fun c3 => ?_)
      · refine z_goto (tgt := 3454) dLaw_law_1675 (by decide) ?_
        rw [show ma2 0 = ma 0 from m0]
        exact K _ _ h2 ma2 _ _ _ (zLi.fin C1 eo1 n1 n2 n3 H2 F2 A2 (ok_rotate hO) (okb_rotate hO okb)) m0 (by omega) (by omega)
      · exact absurd rfl c3
  · exfalso; omega
theorem c_Law_19 {ou : Nat} {i : Int} {y5 y6 : Option Value} (I : zLi G h ad ma ou S) (hi : 0 ≤ i ∧ i + 4 ≤ L) (hb1 : 210 ≤ bc) (hb2 : 12100 ≤ bs) (K : zLK G l b L xs ad ma ou i bc bs) : zR G l (zLJ G b L xs) bc bs h 1678 [some (.ref b), some (.ref (ad 0)), some (.ref (ma 0)), some (.ref ou), some (zi i), y5, y6] [] := by
  obtain ⟨th, n0, sv, hC, hM, hO, okb, eo, n1, n2, n3⟩ := I
  have oka := okb.1
  have h16 : ∀ k, k < 4 → (S.1 k).length ≤ 16 := fun k hk => (hC.ls hk).len
  have x1 := zX9_r (xs := xs) (i + 1)
  have x2 := zX9_r (xs := xs) (i + 2)
  have x3 := zX9_r (xs := xs) (i + 3)
  refine z_aload_n dLaw_law_1678 rfl ?_
  refine z_aload_n dLaw_law_1679 rfl ?_
  refine z_iload dLaw_law_1680 rfl ?_
  refine z_iconst dLaw_law_1682 ?_
  refine z_iadd dLaw_law_1683 ?_
  refine z_sld (by omega) dLaw_law_1684 ?_
  refine z_aload_n dLaw_law_1685 rfl ?_
  refine z_iload dLaw_law_1686 rfl ?_
  refine z_iconst dLaw_law_1688 ?_
  refine z_iadd dLaw_law_1689 ?_
  refine z_sld (by omega) dLaw_law_1690 ?_
  refine z_aload_n dLaw_law_1691 rfl ?_
  refine z_iload dLaw_law_1692 rfl ?_
  refine z_iconst dLaw_law_1694 ?_
  refine z_iadd dLaw_law_1695 ?_
  refine z_sld (by omega) dLaw_law_1696 ?_
  refine z_aload_n dLaw_law_1697 rfl ?_
  refine z_callSX (bc' := bc - 6) (bs' := bs - 36) MW_Law_move lk_Law_247 dLaw_law_1698 (k_Law_move hC (zX9_r (xs := xs) (i + 1)) (zX9_r (xs := xs) (i + 2)) (zX9_r (xs := xs) (i + 3)) eo n1) rfl rfl (Nat.le_of_ble_eq_true rfl) (Nat.le_of_ble_eq_true rfl) (Nat.le_of_ble_eq_true rfl) (by omega) (by omega) (fun _ _ q => q.elim) ?_
  rintro _ h1 ⟨k5, z5, sv5, rfl, C1, f1, eo1, e5⟩
  have H1 : zMod G h1 ma S th := hM.mid n2 n3 f1
  refine z_istore dLaw_law_1701 (Nat.le_of_ble_eq_true rfl) ?_
  refine z_aload_n dLaw_law_1703 rfl ?_
  refine z_aload_n dLaw_law_1704 rfl ?_
  refine z_iload dLaw_law_1705 rfl ?_
  refine z_iconst dLaw_law_1707 ?_
  refine z_iadd dLaw_law_1708 ?_
  refine z_sld (by omega) dLaw_law_1709 ?_
  refine z_aload_n dLaw_law_1710 rfl ?_
  refine z_iload dLaw_law_1711 rfl ?_
  refine z_iconst dLaw_law_1713 ?_
  refine z_iadd dLaw_law_1714 ?_
  refine z_sld (by omega) dLaw_law_1715 ?_
  refine z_aload_n dLaw_law_1716 rfl ?_
  refine z_iload dLaw_law_1717 rfl ?_
  refine z_iconst dLaw_law_1719 ?_
  refine z_iadd dLaw_law_1720 ?_
  refine z_sld (by omega) dLaw_law_1721 ?_
  refine z_callV (bc' := bc - 6 - 2) (bs' := bs - 36 - 121) MV_Mod_move lk_Law_249 dLaw_law_1722 (k_Mod_move H1 (zX9_r (xs := xs) (i + 1)) (zX9_r (xs := xs) (i + 2)) (zX9_r (xs := xs) (i + 3)) h16) rfl rfl (Nat.le_of_ble_eq_true rfl) rfl H1.2.1 (Nat.le_of_ble_eq_true rfl) (Nat.le_of_ble_eq_true rfl) (by omega) (by omega) (fun _ _ q => q.elim) ?_
  rintro _ h2 ⟨ma2, th2, z6, rfl, m0, H2, F2, A2, e6⟩
  have hs : (k5 = th2 ∧ z5 = z6 ∧ k5 = 0) ∨ (k5 = th2 ∧ (k5 = 1 ∨ k5 = 2 ∨ k5 = 3)) := by
    rcases e5 with ⟨a5, b5⟩ | ⟨a5, b5⟩ | ⟨a5, b5⟩ | ⟨a5, b5⟩
    · rcases e6 with ⟨a6, b6⟩ | ⟨a6, b6⟩ | ⟨a6, b6⟩ | ⟨a6, b6⟩
      · exact Or.inl ⟨b5.trans b6.symm, Sum.inl.inj (a5.symm.trans a6), b5⟩
      · exact absurd (a5.symm.trans a6) (by first | (simp; done) | decide)
      · exact absurd (a5.symm.trans a6) (by first | (simp; done) | decide)
      · exact absurd (a5.symm.trans a6) (by first | (simp; done) | decide)
    · rcases e6 with ⟨a6, b6⟩ | ⟨a6, b6⟩ | ⟨a6, b6⟩ | ⟨a6, b6⟩
      · exact absurd (a5.symm.trans a6) (by first | (simp; done) | decide)
      · exact Or.inr ⟨b5.trans b6.symm, by omega⟩
      · exact absurd (a5.symm.trans a6) (by first | (simp; done) | decide)
      · exact absurd (a5.symm.trans a6) (by first | (simp; done) | decide)
    · rcases e6 with ⟨a6, b6⟩ | ⟨a6, b6⟩ | ⟨a6, b6⟩ | ⟨a6, b6⟩
      · exact absurd (a5.symm.trans a6) (by first | (simp; done) | decide)
      · exact absurd (a5.symm.trans a6) (by first | (simp; done) | decide)
      · exact absurd (xE_move (Prod.ext a5 rfl)) (by decide)
      · exact absurd (a5.symm.trans a6) (by first | (simp; done) | decide)
    · rcases e6 with ⟨a6, b6⟩ | ⟨a6, b6⟩ | ⟨a6, b6⟩ | ⟨a6, b6⟩
      · exact absurd (a5.symm.trans a6) (by first | (simp; done) | decide)
      · exact absurd (a5.symm.trans a6) (by first | (simp; done) | decide)
      · exact absurd (a5.symm.trans a6) (by first | (simp; done) | decide)
      · exact absurd (xE_move (Prod.ext a5 rfl)) (by decide)
  refine z_istore dLaw_law_1725 (Nat.le_of_ble_eq_true rfl) ?_
  refine z_aload_n dLaw_law_1727 rfl ?_
  rw [show ma 0 = ma2 0 from m0.symm]
  refine z_callV (bc' := bc - 6 - 2) (bs' := bs - 36 - 121) MV_Mod_thrown lk_Law_179 dLaw_law_1728 (k_Mod_thrown H2) rfl rfl (Nat.le_of_ble_eq_true rfl) rfl H2.2.1 (Nat.le_of_ble_eq_true rfl) (Nat.le_of_ble_eq_true rfl) (by omega) (by omega) (fun _ _ q => q.elim) ?_
  rintro _ _ ⟨rfl, rfl⟩
  refine z_iload dLaw_law_1731 rfl ?_
  refine z_icmp_eq (tgt := 1738) dLaw_law_1733 (by decide) (by omega) (by omega) (fun c1 => ?_) (fun c1 => ?_)
  · refine z_iload dLaw_law_1738 rfl ?_
    refine z_if_ne (tgt := 1756) dLaw_law_1740 (by decide) (by omega) (fun c2 => ?_) (fun c2 => ?_)
    · refine z_goto (tgt := 3454) dLaw_law_1756 (by decide) ?_
      rw [show ma2 0 = ma 0 from m0]
      exact K _ _ h2 ma2 _ _ _ (zLi.fin C1 eo1 n1 n2 n3 H2 F2 A2 (ok_move hO) (okb_move hO okb)) m0 (by omega) (by omega)
    · refine z_aload_n dLaw_law_1743 rfl ?_
      refine z_getN (k := 0) fd_Out (by decide) fl_Law_13 dLaw_law_1744 (F2 ou _ eo1 n2) rfl ?_
      refine z_iload dLaw_law_1747 rfl ?_
      rw [show Value.int (zI z6) = Value.int (zI (zwd z6)) from zwd_i z6]
      refine z_i2l (zwd_r z6) dLaw_law_1749 ?_
      refine z_lcmpI (zwd_64 z5) (zwd_64 z6) dLaw_law_1750 ?_
      have e56 : z5 = z6 := by omega
      rw [e56, zSg_self]
      refine z_if_eq (tgt := 1756) dLaw_law_1751 (by decide) (by decide) (fun c3 => ?_) (fun c3 => ?_)
      · refine z_goto (tgt := 3454) dLaw_law_1756 (by decide) ?_
        rw [show ma2 0 = ma 0 from m0]
        exact K _ _ h2 ma2 _ _ _ (zLi.fin C1 eo1 n1 n2 n3 H2 F2 A2 (ok_move hO) (okb_move hO okb)) m0 (by omega) (by omega)
      · exact absurd rfl c3
  · exfalso; omega
theorem c_Law_20 {ou : Nat} {i : Int} {y5 y6 : Option Value} (I : zLi G h ad ma ou S) (hi : 0 ≤ i ∧ i + 4 ≤ L) (hb1 : 210 ≤ bc) (hb2 : 12100 ≤ bs) (K : zLK G l b L xs ad ma ou i bc bs) : zR G l (zLJ G b L xs) bc bs h 1759 [some (.ref b), some (.ref (ad 0)), some (.ref (ma 0)), some (.ref ou), some (zi i), y5, y6] [] := by
  obtain ⟨th, n0, sv, hC, hM, hO, okb, eo, n1, n2, n3⟩ := I
  have oka := okb.1
  have h16 : ∀ k, k < 4 → (S.1 k).length ≤ 16 := fun k hk => (hC.ls hk).len
  have x1 := zX9_r (xs := xs) (i + 1)
  have x2 := zX9_r (xs := xs) (i + 2)
  have x3 := zX9_r (xs := xs) (i + 3)
  refine z_aload_n dLaw_law_1759 rfl ?_
  refine z_aload_n dLaw_law_1760 rfl ?_
  refine z_iload dLaw_law_1761 rfl ?_
  refine z_iconst dLaw_law_1763 ?_
  refine z_iadd dLaw_law_1764 ?_
  refine z_sld (by omega) dLaw_law_1765 ?_
  refine z_aload_n dLaw_law_1766 rfl ?_
  refine z_iload dLaw_law_1767 rfl ?_
  refine z_iconst dLaw_law_1769 ?_
  refine z_iadd dLaw_law_1770 ?_
  refine z_sld (by omega) dLaw_law_1771 ?_
  refine z_aload_n dLaw_law_1772 rfl ?_
  refine z_iload dLaw_law_1773 rfl ?_
  refine z_iconst dLaw_law_1775 ?_
  refine z_iadd dLaw_law_1776 ?_
  refine z_sld (by omega) dLaw_law_1777 ?_
  refine z_aload_n dLaw_law_1778 rfl ?_
  refine z_callSX (bc' := bc - 6) (bs' := bs - 36) MW_Law_swap lk_Law_250 dLaw_law_1779 (k_Law_swap hC (zX9_r (xs := xs) (i + 1)) (zX9_r (xs := xs) (i + 2)) (zX9_r (xs := xs) (i + 3)) eo n1) rfl rfl (Nat.le_of_ble_eq_true rfl) (Nat.le_of_ble_eq_true rfl) (Nat.le_of_ble_eq_true rfl) (by omega) (by omega) (fun _ _ q => q.elim) ?_
  rintro _ h1 ⟨k5, z5, sv5, rfl, C1, f1, eo1, e5⟩
  have H1 : zMod G h1 ma S th := hM.mid n2 n3 f1
  refine z_istore dLaw_law_1782 (Nat.le_of_ble_eq_true rfl) ?_
  refine z_aload_n dLaw_law_1784 rfl ?_
  refine z_aload_n dLaw_law_1785 rfl ?_
  refine z_iload dLaw_law_1786 rfl ?_
  refine z_iconst dLaw_law_1788 ?_
  refine z_iadd dLaw_law_1789 ?_
  refine z_sld (by omega) dLaw_law_1790 ?_
  refine z_aload_n dLaw_law_1791 rfl ?_
  refine z_iload dLaw_law_1792 rfl ?_
  refine z_iconst dLaw_law_1794 ?_
  refine z_iadd dLaw_law_1795 ?_
  refine z_sld (by omega) dLaw_law_1796 ?_
  refine z_aload_n dLaw_law_1797 rfl ?_
  refine z_iload dLaw_law_1798 rfl ?_
  refine z_iconst dLaw_law_1800 ?_
  refine z_iadd dLaw_law_1801 ?_
  refine z_sld (by omega) dLaw_law_1802 ?_
  refine z_callV (bc' := bc - 6 - 0) (bs' := bs - 36 - 0) MV_Mod_swap lk_Law_252 dLaw_law_1803 (k_Mod_swap H1 (zX9_r (xs := xs) (i + 1)) (zX9_r (xs := xs) (i + 2)) (zX9_r (xs := xs) (i + 3)) h16) rfl rfl (Nat.le_of_ble_eq_true rfl) rfl H1.2.1 (Nat.le_of_ble_eq_true rfl) (Nat.le_of_ble_eq_true rfl) (by omega) (by omega) (fun _ _ q => q.elim) ?_
  rintro _ h2 ⟨ma2, th2, z6, rfl, m0, H2, F2, A2, e6⟩
  have hs : (k5 = th2 ∧ z5 = z6 ∧ k5 = 0) ∨ (k5 = th2 ∧ (k5 = 1 ∨ k5 = 2 ∨ k5 = 3)) := by
    rcases e5 with ⟨a5, b5⟩ | ⟨a5, b5⟩ | ⟨a5, b5⟩ | ⟨a5, b5⟩
    · rcases e6 with ⟨a6, b6⟩ | ⟨a6, b6⟩ | ⟨a6, b6⟩ | ⟨a6, b6⟩
      · exact Or.inl ⟨b5.trans b6.symm, Sum.inl.inj (a5.symm.trans a6), b5⟩
      · exact absurd (a5.symm.trans a6) (by first | (simp; done) | decide)
      · exact absurd (a5.symm.trans a6) (by first | (simp; done) | decide)
      · exact absurd (a5.symm.trans a6) (by first | (simp; done) | decide)
    · rcases e6 with ⟨a6, b6⟩ | ⟨a6, b6⟩ | ⟨a6, b6⟩ | ⟨a6, b6⟩
      · exact absurd (a5.symm.trans a6) (by first | (simp; done) | decide)
      · exact Or.inr ⟨b5.trans b6.symm, by omega⟩
      · exact absurd (a5.symm.trans a6) (by first | (simp; done) | decide)
      · exact absurd (a5.symm.trans a6) (by first | (simp; done) | decide)
    · rcases e6 with ⟨a6, b6⟩ | ⟨a6, b6⟩ | ⟨a6, b6⟩ | ⟨a6, b6⟩
      · exact absurd (a5.symm.trans a6) (by first | (simp; done) | decide)
      · exact absurd (a5.symm.trans a6) (by first | (simp; done) | decide)
      · exact absurd (xE_swap (Prod.ext a5 rfl)) (by decide)
      · exact absurd (a5.symm.trans a6) (by first | (simp; done) | decide)
    · rcases e6 with ⟨a6, b6⟩ | ⟨a6, b6⟩ | ⟨a6, b6⟩ | ⟨a6, b6⟩
      · exact absurd (a5.symm.trans a6) (by first | (simp; done) | decide)
      · exact absurd (a5.symm.trans a6) (by first | (simp; done) | decide)
      · exact absurd (a5.symm.trans a6) (by first | (simp; done) | decide)
      · exact absurd (xE_swap (Prod.ext a5 rfl)) (by decide)
  refine z_istore dLaw_law_1806 (Nat.le_of_ble_eq_true rfl) ?_
  refine z_aload_n dLaw_law_1808 rfl ?_
  rw [show ma 0 = ma2 0 from m0.symm]
  refine z_callV (bc' := bc - 6 - 0) (bs' := bs - 36 - 0) MV_Mod_thrown lk_Law_179 dLaw_law_1809 (k_Mod_thrown H2) rfl rfl (Nat.le_of_ble_eq_true rfl) rfl H2.2.1 (Nat.le_of_ble_eq_true rfl) (Nat.le_of_ble_eq_true rfl) (by omega) (by omega) (fun _ _ q => q.elim) ?_
  rintro _ _ ⟨rfl, rfl⟩
  refine z_iload dLaw_law_1812 rfl ?_
  refine z_icmp_eq (tgt := 1819) dLaw_law_1814 (by decide) (by omega) (by omega) (fun c1 => ?_) (fun c1 => ?_)
  · refine z_iload dLaw_law_1819 rfl ?_
    refine z_if_ne (tgt := 1837) dLaw_law_1821 (by decide) (by omega) (fun c2 => ?_) (fun c2 => ?_)
    · refine z_goto (tgt := 3454) dLaw_law_1837 (by decide) ?_
      rw [show ma2 0 = ma 0 from m0]
      exact K _ _ h2 ma2 _ _ _ (zLi.fin C1 eo1 n1 n2 n3 H2 F2 A2 (ok_swap hO) (okb_swap hO okb)) m0 (by omega) (by omega)
    · refine z_aload_n dLaw_law_1824 rfl ?_
      refine z_getN (k := 0) fd_Out (by decide) fl_Law_13 dLaw_law_1825 (F2 ou _ eo1 n2) rfl ?_
      refine z_iload dLaw_law_1828 rfl ?_
      rw [show Value.int (zI z6) = Value.int (zI (zwd z6)) from zwd_i z6]
      refine z_i2l (zwd_r z6) dLaw_law_1830 ?_
      refine z_lcmpI (zwd_64 z5) (zwd_64 z6) dLaw_law_1831 ?_
      have e56 : z5 = z6 := by omega
      rw [e56, zSg_self]
      refine z_if_eq (tgt := 1837) dLaw_law_1832 (by decide) (by decide) (fun c3 => ?_) (fun c3 => ?_)
      · refine z_goto (tgt := 3454) dLaw_law_1837 (by decide) ?_
        rw [show ma2 0 = ma 0 from m0]
        exact K _ _ h2 ma2 _ _ _ (zLi.fin C1 eo1 n1 n2 n3 H2 F2 A2 (ok_swap hO) (okb_swap hO okb)) m0 (by omega) (by omega)
      · exact absurd rfl c3
  · exfalso; omega
theorem c_Law_21 {ou : Nat} {i : Int} {y5 y6 : Option Value} (I : zLi G h ad ma ou S) (hi : 0 ≤ i ∧ i + 4 ≤ L) (hb1 : 210 ≤ bc) (hb2 : 12100 ≤ bs) (K : zLK G l b L xs ad ma ou i bc bs) : zR G l (zLJ G b L xs) bc bs h 1840 [some (.ref b), some (.ref (ad 0)), some (.ref (ma 0)), some (.ref ou), some (zi i), y5, y6] [] := by
  obtain ⟨th, n0, sv, hC, hM, hO, okb, eo, n1, n2, n3⟩ := I
  have oka := okb.1
  have h16 : ∀ k, k < 4 → (S.1 k).length ≤ 16 := fun k hk => (hC.ls hk).len
  have x1 := zX9_r (xs := xs) (i + 1)
  have x2 := zX9_r (xs := xs) (i + 2)
  have x3 := zX9_r (xs := xs) (i + 3)
  refine z_aload_n dLaw_law_1840 rfl ?_
  refine z_aload_n dLaw_law_1841 rfl ?_
  refine z_iload dLaw_law_1842 rfl ?_
  refine z_iconst dLaw_law_1844 ?_
  refine z_iadd dLaw_law_1845 ?_
  refine z_sld (by omega) dLaw_law_1846 ?_
  refine z_aload_n dLaw_law_1847 rfl ?_
  refine z_callSX (bc' := bc - 6) (bs' := bs - 36) MW_Law_reverse lk_Law_253 dLaw_law_1848 (k_Law_reverse hC (zX9_r (xs := xs) (i + 1)) eo n1) rfl rfl (Nat.le_of_ble_eq_true rfl) (Nat.le_of_ble_eq_true rfl) (Nat.le_of_ble_eq_true rfl) (by omega) (by omega) (fun _ _ q => q.elim) ?_
  rintro _ h1 ⟨k5, z5, sv5, rfl, C1, f1, eo1, e5⟩
  have H1 : zMod G h1 ma S th := hM.mid n2 n3 f1
  refine z_istore dLaw_law_1851 (Nat.le_of_ble_eq_true rfl) ?_
  refine z_aload_n dLaw_law_1853 rfl ?_
  refine z_aload_n dLaw_law_1854 rfl ?_
  refine z_iload dLaw_law_1855 rfl ?_
  refine z_iconst dLaw_law_1857 ?_
  refine z_iadd dLaw_law_1858 ?_
  refine z_sld (by omega) dLaw_law_1859 ?_
  refine z_callV (bc' := bc - 6 - 1) (bs' := bs - 36 - 61) MV_Mod_reverse lk_Law_255 dLaw_law_1860 (k_Mod_reverse H1 (zX9_r (xs := xs) (i + 1)) h16) rfl rfl (Nat.le_of_ble_eq_true rfl) rfl H1.2.1 (Nat.le_of_ble_eq_true rfl) (Nat.le_of_ble_eq_true rfl) (by omega) (by omega) (fun _ _ q => q.elim) ?_
  rintro _ h2 ⟨ma2, th2, z6, rfl, m0, H2, F2, A2, e6⟩
  have hs : (k5 = th2 ∧ z5 = z6 ∧ k5 = 0) ∨ (k5 = th2 ∧ (k5 = 1 ∨ k5 = 2 ∨ k5 = 3)) := by
    rcases e5 with ⟨a5, b5⟩ | ⟨a5, b5⟩ | ⟨a5, b5⟩ | ⟨a5, b5⟩
    · rcases e6 with ⟨a6, b6⟩ | ⟨a6, b6⟩ | ⟨a6, b6⟩ | ⟨a6, b6⟩
      · exact Or.inl ⟨b5.trans b6.symm, Sum.inl.inj (a5.symm.trans a6), b5⟩
      · exact absurd (a5.symm.trans a6) (by first | (simp; done) | decide)
      · exact absurd (a5.symm.trans a6) (by first | (simp; done) | decide)
      · exact absurd (a5.symm.trans a6) (by first | (simp; done) | decide)
    · rcases e6 with ⟨a6, b6⟩ | ⟨a6, b6⟩ | ⟨a6, b6⟩ | ⟨a6, b6⟩
      · exact absurd (a5.symm.trans a6) (by first | (simp; done) | decide)
      · exact Or.inr ⟨b5.trans b6.symm, by omega⟩
      · exact absurd (a5.symm.trans a6) (by first | (simp; done) | decide)
      · exact absurd (a5.symm.trans a6) (by first | (simp; done) | decide)
    · rcases e6 with ⟨a6, b6⟩ | ⟨a6, b6⟩ | ⟨a6, b6⟩ | ⟨a6, b6⟩
      · exact absurd (a5.symm.trans a6) (by first | (simp; done) | decide)
      · exact absurd (a5.symm.trans a6) (by first | (simp; done) | decide)
      · exact absurd (xE_reverse (Prod.ext a5 rfl)) (by decide)
      · exact absurd (a5.symm.trans a6) (by first | (simp; done) | decide)
    · rcases e6 with ⟨a6, b6⟩ | ⟨a6, b6⟩ | ⟨a6, b6⟩ | ⟨a6, b6⟩
      · exact absurd (a5.symm.trans a6) (by first | (simp; done) | decide)
      · exact absurd (a5.symm.trans a6) (by first | (simp; done) | decide)
      · exact absurd (a5.symm.trans a6) (by first | (simp; done) | decide)
      · exact absurd (xE_reverse (Prod.ext a5 rfl)) (by decide)
  refine z_istore dLaw_law_1863 (Nat.le_of_ble_eq_true rfl) ?_
  refine z_aload_n dLaw_law_1865 rfl ?_
  rw [show ma 0 = ma2 0 from m0.symm]
  refine z_callV (bc' := bc - 6 - 1) (bs' := bs - 36 - 61) MV_Mod_thrown lk_Law_179 dLaw_law_1866 (k_Mod_thrown H2) rfl rfl (Nat.le_of_ble_eq_true rfl) rfl H2.2.1 (Nat.le_of_ble_eq_true rfl) (Nat.le_of_ble_eq_true rfl) (by omega) (by omega) (fun _ _ q => q.elim) ?_
  rintro _ _ ⟨rfl, rfl⟩
  refine z_iload dLaw_law_1869 rfl ?_
  refine z_icmp_eq (tgt := 1876) dLaw_law_1871 (by decide) (by omega) (by omega) (fun c1 => ?_) (fun c1 => ?_)
  · refine z_iload dLaw_law_1876 rfl ?_
    refine z_if_ne (tgt := 1894) dLaw_law_1878 (by decide) (by omega) (fun c2 => ?_) (fun c2 => ?_)
    · refine z_goto (tgt := 3454) dLaw_law_1894 (by decide) ?_
      rw [show ma2 0 = ma 0 from m0]
      exact K _ _ h2 ma2 _ _ _ (zLi.fin C1 eo1 n1 n2 n3 H2 F2 A2 (ok_reverse hO) (okb_reverse hO okb)) m0 (by omega) (by omega)
    · refine z_aload_n dLaw_law_1881 rfl ?_
      refine z_getN (k := 0) fd_Out (by decide) fl_Law_13 dLaw_law_1882 (F2 ou _ eo1 n2) rfl ?_
      refine z_iload dLaw_law_1885 rfl ?_
      rw [show Value.int (zI z6) = Value.int (zI (zwd z6)) from zwd_i z6]
      refine z_i2l (zwd_r z6) dLaw_law_1887 ?_
      refine z_lcmpI (zwd_64 z5) (zwd_64 z6) dLaw_law_1888 ?_
      have e56 : z5 = z6 := by omega
      rw [e56, zSg_self]
      refine z_if_eq (tgt := 1894) dLaw_law_1889 (by decide) (by decide) (fun c3 => ?_) (fun c3 => ?_)
      · refine z_goto (tgt := 3454) dLaw_law_1894 (by decide) ?_
        rw [show ma2 0 = ma 0 from m0]
        exact K _ _ h2 ma2 _ _ _ (zLi.fin C1 eo1 n1 n2 n3 H2 F2 A2 (ok_reverse hO) (okb_reverse hO okb)) m0 (by omega) (by omega)
      · exact absurd rfl c3
  · exfalso; omega
theorem c_Law_22 {ou : Nat} {i : Int} {y5 y6 : Option Value} (I : zLi G h ad ma ou S) (hi : 0 ≤ i ∧ i + 4 ≤ L) (hb1 : 210 ≤ bc) (hb2 : 12100 ≤ bs) (K : zLK G l b L xs ad ma ou i bc bs) : zR G l (zLJ G b L xs) bc bs h 1897 [some (.ref b), some (.ref (ad 0)), some (.ref (ma 0)), some (.ref ou), some (zi i), y5, y6] [] := by
  obtain ⟨th, n0, sv, hC, hM, hO, okb, eo, n1, n2, n3⟩ := I
  have oka := okb.1
  have h16 : ∀ k, k < 4 → (S.1 k).length ≤ 16 := fun k hk => (hC.ls hk).len
  have x1 := zX9_r (xs := xs) (i + 1)
  have x2 := zX9_r (xs := xs) (i + 2)
  have x3 := zX9_r (xs := xs) (i + 3)
  refine z_aload_n dLaw_law_1897 rfl ?_
  refine z_aload_n dLaw_law_1898 rfl ?_
  refine z_iload dLaw_law_1899 rfl ?_
  refine z_iconst dLaw_law_1901 ?_
  refine z_iadd dLaw_law_1902 ?_
  refine z_sld (by omega) dLaw_law_1903 ?_
  refine z_aload_n dLaw_law_1904 rfl ?_
  refine z_iload dLaw_law_1905 rfl ?_
  refine z_iconst dLaw_law_1907 ?_
  refine z_iadd dLaw_law_1908 ?_
  refine z_sld (by omega) dLaw_law_1909 ?_
  refine z_aload_n dLaw_law_1910 rfl ?_
  refine z_iload dLaw_law_1911 rfl ?_
  refine z_iconst dLaw_law_1913 ?_
  refine z_iadd dLaw_law_1914 ?_
  refine z_sld (by omega) dLaw_law_1915 ?_
  refine z_aload_n dLaw_law_1916 rfl ?_
  refine z_callSX (bc' := bc - 6) (bs' := bs - 36) MW_Law_through lk_Law_256 dLaw_law_1917 (k_Law_through hC (zX9_r (xs := xs) (i + 1)) (zX9_r (xs := xs) (i + 2)) (zX9_r (xs := xs) (i + 3)) eo n1) rfl rfl (Nat.le_of_ble_eq_true rfl) (Nat.le_of_ble_eq_true rfl) (Nat.le_of_ble_eq_true rfl) (by omega) (by omega) (fun _ _ q => q.elim) ?_
  rintro _ h1 ⟨k5, z5, sv5, rfl, C1, f1, eo1, e5⟩
  have H1 : zMod G h1 ma S th := hM.mid n2 n3 f1
  refine z_istore dLaw_law_1920 (Nat.le_of_ble_eq_true rfl) ?_
  refine z_aload_n dLaw_law_1922 rfl ?_
  refine z_aload_n dLaw_law_1923 rfl ?_
  refine z_iload dLaw_law_1924 rfl ?_
  refine z_iconst dLaw_law_1926 ?_
  refine z_iadd dLaw_law_1927 ?_
  refine z_sld (by omega) dLaw_law_1928 ?_
  refine z_aload_n dLaw_law_1929 rfl ?_
  refine z_iload dLaw_law_1930 rfl ?_
  refine z_iconst dLaw_law_1932 ?_
  refine z_iadd dLaw_law_1933 ?_
  refine z_sld (by omega) dLaw_law_1934 ?_
  refine z_aload_n dLaw_law_1935 rfl ?_
  refine z_iload dLaw_law_1936 rfl ?_
  refine z_iconst dLaw_law_1938 ?_
  refine z_iadd dLaw_law_1939 ?_
  refine z_sld (by omega) dLaw_law_1940 ?_
  refine z_callV (bc' := bc - 6 - 1) (bs' := bs - 36 - 16) MV_Mod_through lk_Law_258 dLaw_law_1941 (k_Mod_through H1 (zX9_r (xs := xs) (i + 1)) (zX9_r (xs := xs) (i + 2)) (zX9_r (xs := xs) (i + 3)) h16) rfl rfl (Nat.le_of_ble_eq_true rfl) rfl H1.2.1 (Nat.le_of_ble_eq_true rfl) (Nat.le_of_ble_eq_true rfl) (by omega) (by omega) (fun _ _ q => q.elim) ?_
  rintro _ h2 ⟨ma2, th2, z6, rfl, m0, H2, F2, A2, e6⟩
  have hs : (k5 = th2 ∧ z5 = z6 ∧ k5 = 0) ∨ (k5 = th2 ∧ (k5 = 1 ∨ k5 = 2 ∨ k5 = 3)) := by
    rcases e5 with ⟨a5, b5⟩ | ⟨a5, b5⟩ | ⟨a5, b5⟩ | ⟨a5, b5⟩
    · rcases e6 with ⟨a6, b6⟩ | ⟨a6, b6⟩ | ⟨a6, b6⟩ | ⟨a6, b6⟩
      · exact Or.inl ⟨b5.trans b6.symm, Sum.inl.inj (a5.symm.trans a6), b5⟩
      · exact absurd (a5.symm.trans a6) (by first | (simp; done) | decide)
      · exact absurd (a5.symm.trans a6) (by first | (simp; done) | decide)
      · exact absurd (a5.symm.trans a6) (by first | (simp; done) | decide)
    · rcases e6 with ⟨a6, b6⟩ | ⟨a6, b6⟩ | ⟨a6, b6⟩ | ⟨a6, b6⟩
      · exact absurd (a5.symm.trans a6) (by first | (simp; done) | decide)
      · exact Or.inr ⟨b5.trans b6.symm, by omega⟩
      · exact absurd (a5.symm.trans a6) (by first | (simp; done) | decide)
      · exact absurd (a5.symm.trans a6) (by first | (simp; done) | decide)
    · rcases e6 with ⟨a6, b6⟩ | ⟨a6, b6⟩ | ⟨a6, b6⟩ | ⟨a6, b6⟩
      · exact absurd (a5.symm.trans a6) (by first | (simp; done) | decide)
      · exact absurd (a5.symm.trans a6) (by first | (simp; done) | decide)
      · exact absurd (xE_through (Prod.ext a5 rfl)) (by decide)
      · exact absurd (a5.symm.trans a6) (by first | (simp; done) | decide)
    · rcases e6 with ⟨a6, b6⟩ | ⟨a6, b6⟩ | ⟨a6, b6⟩ | ⟨a6, b6⟩
      · exact absurd (a5.symm.trans a6) (by first | (simp; done) | decide)
      · exact absurd (a5.symm.trans a6) (by first | (simp; done) | decide)
      · exact absurd (a5.symm.trans a6) (by first | (simp; done) | decide)
      · exact absurd (xE_through (Prod.ext a5 rfl)) (by decide)
  refine z_istore dLaw_law_1944 (Nat.le_of_ble_eq_true rfl) ?_
  refine z_aload_n dLaw_law_1946 rfl ?_
  rw [show ma 0 = ma2 0 from m0.symm]
  refine z_callV (bc' := bc - 6 - 1) (bs' := bs - 36 - 16) MV_Mod_thrown lk_Law_179 dLaw_law_1947 (k_Mod_thrown H2) rfl rfl (Nat.le_of_ble_eq_true rfl) rfl H2.2.1 (Nat.le_of_ble_eq_true rfl) (Nat.le_of_ble_eq_true rfl) (by omega) (by omega) (fun _ _ q => q.elim) ?_
  rintro _ _ ⟨rfl, rfl⟩
  refine z_iload dLaw_law_1950 rfl ?_
  refine z_icmp_eq (tgt := 1957) dLaw_law_1952 (by decide) (by omega) (by omega) (fun c1 => ?_) (fun c1 => ?_)
  · refine z_iload dLaw_law_1957 rfl ?_
    refine z_if_ne (tgt := 1975) dLaw_law_1959 (by decide) (by omega) (fun c2 => ?_) (fun c2 => ?_)
    · refine z_goto (tgt := 3454) dLaw_law_1975 (by decide) ?_
      rw [show ma2 0 = ma 0 from m0]
      exact K _ _ h2 ma2 _ _ _ (zLi.fin C1 eo1 n1 n2 n3 H2 F2 A2 (ok_through hO) (okb_through hO okb)) m0 (by omega) (by omega)
    · refine z_aload_n dLaw_law_1962 rfl ?_
      refine z_getN (k := 0) fd_Out (by decide) fl_Law_13 dLaw_law_1963 (F2 ou _ eo1 n2) rfl ?_
      refine z_iload dLaw_law_1966 rfl ?_
      rw [show Value.int (zI z6) = Value.int (zI (zwd z6)) from zwd_i z6]
      refine z_i2l (zwd_r z6) dLaw_law_1968 ?_
      refine z_lcmpI (zwd_64 z5) (zwd_64 z6) dLaw_law_1969 ?_
      have e56 : z5 = z6 := by omega
      rw [e56, zSg_self]
      refine z_if_eq (tgt := 1975) dLaw_law_1970 (by decide) (by decide) (fun c3 => ?_) (fun c3 => ?_)
      · refine z_goto (tgt := 3454) dLaw_law_1975 (by decide) ?_
        rw [show ma2 0 = ma 0 from m0]
        exact K _ _ h2 ma2 _ _ _ (zLi.fin C1 eo1 n1 n2 n3 H2 F2 A2 (ok_through hO) (okb_through hO okb)) m0 (by omega) (by omega)
      · exact absurd rfl c3
  · exfalso; omega
theorem c_Law_23 {ou : Nat} {i : Int} {y5 y6 : Option Value} (I : zLi G h ad ma ou S) (hi : 0 ≤ i ∧ i + 4 ≤ L) (hb1 : 210 ≤ bc) (hb2 : 12100 ≤ bs) (K : zLK G l b L xs ad ma ou i bc bs) : zR G l (zLJ G b L xs) bc bs h 1978 [some (.ref b), some (.ref (ad 0)), some (.ref (ma 0)), some (.ref ou), some (zi i), y5, y6] [] := by
  obtain ⟨th, n0, sv, hC, hM, hO, okb, eo, n1, n2, n3⟩ := I
  have oka := okb.1
  have h16 : ∀ k, k < 4 → (S.1 k).length ≤ 16 := fun k hk => (hC.ls hk).len
  have x1 := zX9_r (xs := xs) (i + 1)
  have x2 := zX9_r (xs := xs) (i + 2)
  have x3 := zX9_r (xs := xs) (i + 3)
  refine z_aload_n dLaw_law_1978 rfl ?_
  refine z_aload_n dLaw_law_1979 rfl ?_
  refine z_iload dLaw_law_1980 rfl ?_
  refine z_iconst dLaw_law_1982 ?_
  refine z_iadd dLaw_law_1983 ?_
  refine z_sld (by omega) dLaw_law_1984 ?_
  refine z_aload_n dLaw_law_1985 rfl ?_
  refine z_iload dLaw_law_1986 rfl ?_
  refine z_iconst dLaw_law_1988 ?_
  refine z_iadd dLaw_law_1989 ?_
  refine z_sld (by omega) dLaw_law_1990 ?_
  refine z_aload_n dLaw_law_1991 rfl ?_
  refine z_callSX (bc' := bc - 6) (bs' := bs - 36) MW_Law_areSame lk_Law_259 dLaw_law_1992 (k_Law_areSame hC (zX9_r (xs := xs) (i + 1)) (zX9_r (xs := xs) (i + 2)) eo n1) rfl rfl (Nat.le_of_ble_eq_true rfl) (Nat.le_of_ble_eq_true rfl) (Nat.le_of_ble_eq_true rfl) (by omega) (by omega) (fun _ _ q => q.elim) ?_
  rintro _ h1 ⟨k5, z5, sv5, rfl, C1, f1, eo1, e5⟩
  have H1 : zMod G h1 ma S th := hM.mid n2 n3 f1
  refine z_istore dLaw_law_1995 (Nat.le_of_ble_eq_true rfl) ?_
  refine z_aload_n dLaw_law_1997 rfl ?_
  refine z_aload_n dLaw_law_1998 rfl ?_
  refine z_iload dLaw_law_1999 rfl ?_
  refine z_iconst dLaw_law_2001 ?_
  refine z_iadd dLaw_law_2002 ?_
  refine z_sld (by omega) dLaw_law_2003 ?_
  refine z_aload_n dLaw_law_2004 rfl ?_
  refine z_iload dLaw_law_2005 rfl ?_
  refine z_iconst dLaw_law_2007 ?_
  refine z_iadd dLaw_law_2008 ?_
  refine z_sld (by omega) dLaw_law_2009 ?_
  refine z_callV (bc' := bc - 6 - 0) (bs' := bs - 36 - 0) MV_Mod_areSame lk_Law_261 dLaw_law_2010 (k_Mod_areSame H1 (zX9_r (xs := xs) (i + 1)) (zX9_r (xs := xs) (i + 2))) rfl rfl (Nat.le_of_ble_eq_true rfl) rfl H1.2.1 (Nat.le_of_ble_eq_true rfl) (Nat.le_of_ble_eq_true rfl) (by omega) (by omega) (fun _ _ q => q.elim) ?_
  rintro _ h2 ⟨ma2, th2, z6, rfl, m0, H2, F2, A2, e6⟩
  have hs : (k5 = th2 ∧ z5 = z6 ∧ k5 = 0 ∧ (z5 = 0 ∨ z5 = 1)) ∨ (k5 = th2 ∧ (k5 = 1 ∨ k5 = 2 ∨ k5 = 3)) := by
    rcases e5 with ⟨a5, b5⟩ | ⟨a5, b5⟩ | ⟨a5, b5⟩ | ⟨a5, b5⟩
    · rcases e6 with ⟨a6, b6⟩ | ⟨a6, b6⟩ | ⟨a6, b6⟩ | ⟨a6, b6⟩
      · exact Or.inl ⟨b5.trans b6.symm, Sum.inl.inj (a5.symm.trans a6), b5, xB_areSame (Prod.ext a5 rfl)⟩
      · exact absurd (a5.symm.trans a6) (by first | (simp; done) | decide)
      · exact absurd (a5.symm.trans a6) (by first | (simp; done) | decide)
      · exact absurd (a5.symm.trans a6) (by first | (simp; done) | decide)
    · rcases e6 with ⟨a6, b6⟩ | ⟨a6, b6⟩ | ⟨a6, b6⟩ | ⟨a6, b6⟩
      · exact absurd (a5.symm.trans a6) (by first | (simp; done) | decide)
      · exact Or.inr ⟨b5.trans b6.symm, by omega⟩
      · exact absurd (a5.symm.trans a6) (by first | (simp; done) | decide)
      · exact absurd (a5.symm.trans a6) (by first | (simp; done) | decide)
    · rcases e6 with ⟨a6, b6⟩ | ⟨a6, b6⟩ | ⟨a6, b6⟩ | ⟨a6, b6⟩
      · exact absurd (a5.symm.trans a6) (by first | (simp; done) | decide)
      · exact absurd (a5.symm.trans a6) (by first | (simp; done) | decide)
      · exact absurd (xE_areSame (Prod.ext a5 rfl)) (by decide)
      · exact absurd (a5.symm.trans a6) (by first | (simp; done) | decide)
    · rcases e6 with ⟨a6, b6⟩ | ⟨a6, b6⟩ | ⟨a6, b6⟩ | ⟨a6, b6⟩
      · exact absurd (a5.symm.trans a6) (by first | (simp; done) | decide)
      · exact absurd (a5.symm.trans a6) (by first | (simp; done) | decide)
      · exact absurd (a5.symm.trans a6) (by first | (simp; done) | decide)
      · exact absurd (xE_areSame (Prod.ext a5 rfl)) (by decide)
  refine z_istore dLaw_law_2013 (Nat.le_of_ble_eq_true rfl) ?_
  refine z_aload_n dLaw_law_2015 rfl ?_
  rw [show ma 0 = ma2 0 from m0.symm]
  refine z_callV (bc' := bc - 6 - 0) (bs' := bs - 36 - 0) MV_Mod_thrown lk_Law_179 dLaw_law_2016 (k_Mod_thrown H2) rfl rfl (Nat.le_of_ble_eq_true rfl) rfl H2.2.1 (Nat.le_of_ble_eq_true rfl) (Nat.le_of_ble_eq_true rfl) (by omega) (by omega) (fun _ _ q => q.elim) ?_
  rintro _ _ ⟨rfl, rfl⟩
  refine z_iload dLaw_law_2019 rfl ?_
  refine z_icmp_eq (tgt := 2026) dLaw_law_2021 (by decide) (by omega) (by omega) (fun c1 => ?_) (fun c1 => ?_)
  · refine z_iload dLaw_law_2026 rfl ?_
    refine z_if_ne (tgt := 2051) dLaw_law_2028 (by decide) (by omega) (fun c2 => ?_) (fun c2 => ?_)
    · refine z_goto (tgt := 3454) dLaw_law_2051 (by decide) ?_
      rw [show ma2 0 = ma 0 from m0]
      exact K _ _ h2 ma2 _ _ _ (zLi.fin C1 eo1 n1 n2 n3 H2 F2 A2 (ok_areSame hO) (okb_areSame hO okb)) m0 (by omega) (by omega)
    · refine z_aload_n dLaw_law_2031 rfl ?_
      refine z_getN (k := 0) fd_Out (by decide) fl_Law_13 dLaw_law_2032 (F2 ou _ eo1 n2) rfl ?_
      refine z_iload dLaw_law_2035 rfl ?_
      have e56 : z5 = z6 := by omega
      refine z_if_eq (tgt := 2044) dLaw_law_2037 (by decide) (by omega) (fun c3 => ?_) (fun c3 => ?_)
      · refine z_lconst dLaw_law_2044 0 rfl ?_
        have e0 : zwd z5 = 0 := by rw [show z5 = 0 by omega]; decide
        rw [e0]
        refine z_lcmpI (by decide) (by decide) dLaw_law_2045 ?_
        rw [zSg_self]
        refine z_if_eq (tgt := 2051) dLaw_law_2046 (by decide) (by decide) (fun c4 => ?_) (fun c4 => ?_)
        · refine z_goto (tgt := 3454) dLaw_law_2051 (by decide) ?_
          rw [show ma2 0 = ma 0 from m0]
          exact K _ _ h2 ma2 _ _ _ (zLi.fin C1 eo1 n1 n2 n3 H2 F2 A2 (ok_areSame hO) (okb_areSame hO okb)) m0 (by omega) (by omega)
        · exact absurd rfl c4
      · refine z_lconst dLaw_law_2040 1 rfl ?_
        refine z_goto (tgt := 2045) dLaw_law_2041 (by decide) ?_
        have e0 : zwd z5 = 1 := by rw [show z5 = 1 by omega]; decide
        rw [e0]
        refine z_lcmpI (by decide) (by decide) dLaw_law_2045 ?_
        rw [zSg_self]
        refine z_if_eq (tgt := 2051) dLaw_law_2046 (by decide) (by decide) (fun c4 => ?_) (fun c4 => ?_)
        · refine z_goto (tgt := 3454) dLaw_law_2051 (by decide) ?_
          rw [show ma2 0 = ma 0 from m0]
          exact K _ _ h2 ma2 _ _ _ (zLi.fin C1 eo1 n1 n2 n3 H2 F2 A2 (ok_areSame hO) (okb_areSame hO okb)) m0 (by omega) (by omega)
        · exact absurd rfl c4
  · exfalso; omega
theorem c_Law_24 {ou : Nat} {i : Int} {y5 y6 : Option Value} (I : zLi G h ad ma ou S) (hi : 0 ≤ i ∧ i + 4 ≤ L) (hb1 : 210 ≤ bc) (hb2 : 12100 ≤ bs) (K : zLK G l b L xs ad ma ou i bc bs) : zR G l (zLJ G b L xs) bc bs h 2054 [some (.ref b), some (.ref (ad 0)), some (.ref (ma 0)), some (.ref ou), some (zi i), y5, y6] [] := by
  obtain ⟨th, n0, sv, hC, hM, hO, okb, eo, n1, n2, n3⟩ := I
  have oka := okb.1
  have h16 : ∀ k, k < 4 → (S.1 k).length ≤ 16 := fun k hk => (hC.ls hk).len
  have x1 := zX9_r (xs := xs) (i + 1)
  have x2 := zX9_r (xs := xs) (i + 2)
  have x3 := zX9_r (xs := xs) (i + 3)
  refine z_aload_n dLaw_law_2054 rfl ?_
  refine z_aload_n dLaw_law_2055 rfl ?_
  refine z_iload dLaw_law_2056 rfl ?_
  refine z_iconst dLaw_law_2058 ?_
  refine z_iadd dLaw_law_2059 ?_
  refine z_sld (by omega) dLaw_law_2060 ?_
  refine z_aload_n dLaw_law_2061 rfl ?_
  refine z_callSX (bc' := bc - 6) (bs' := bs - 36) MW_Law_isMirror lk_Law_262 dLaw_law_2062 (k_Law_isMirror hC (zX9_r (xs := xs) (i + 1)) eo n1) rfl rfl (Nat.le_of_ble_eq_true rfl) (Nat.le_of_ble_eq_true rfl) (Nat.le_of_ble_eq_true rfl) (by omega) (by omega) (fun _ _ q => q.elim) ?_
  rintro _ h1 ⟨k5, z5, sv5, rfl, C1, f1, eo1, e5⟩
  have H1 : zMod G h1 ma S th := hM.mid n2 n3 f1
  refine z_istore dLaw_law_2065 (Nat.le_of_ble_eq_true rfl) ?_
  refine z_aload_n dLaw_law_2067 rfl ?_
  refine z_aload_n dLaw_law_2068 rfl ?_
  refine z_iload dLaw_law_2069 rfl ?_
  refine z_iconst dLaw_law_2071 ?_
  refine z_iadd dLaw_law_2072 ?_
  refine z_sld (by omega) dLaw_law_2073 ?_
  refine z_callV (bc' := bc - 6 - 1) (bs' := bs - 36 - 61) MV_Mod_isMirror lk_Law_264 dLaw_law_2074 (k_Mod_isMirror H1 (zX9_r (xs := xs) (i + 1)) h16) rfl rfl (Nat.le_of_ble_eq_true rfl) rfl H1.2.1 (Nat.le_of_ble_eq_true rfl) (Nat.le_of_ble_eq_true rfl) (by omega) (by omega) (fun _ _ q => q.elim) ?_
  rintro _ h2 ⟨ma2, th2, z6, rfl, m0, H2, F2, A2, e6⟩
  have hs : (k5 = th2 ∧ z5 = z6 ∧ k5 = 0 ∧ (z5 = 0 ∨ z5 = 1)) ∨ (k5 = th2 ∧ (k5 = 1 ∨ k5 = 2 ∨ k5 = 3)) := by
    rcases e5 with ⟨a5, b5⟩ | ⟨a5, b5⟩ | ⟨a5, b5⟩ | ⟨a5, b5⟩
    · rcases e6 with ⟨a6, b6⟩ | ⟨a6, b6⟩ | ⟨a6, b6⟩ | ⟨a6, b6⟩
      · exact Or.inl ⟨b5.trans b6.symm, Sum.inl.inj (a5.symm.trans a6), b5, xB_isMirror (Prod.ext a5 rfl)⟩
      · exact absurd (a5.symm.trans a6) (by first | (simp; done) | decide)
      · exact absurd (a5.symm.trans a6) (by first | (simp; done) | decide)
      · exact absurd (a5.symm.trans a6) (by first | (simp; done) | decide)
    · rcases e6 with ⟨a6, b6⟩ | ⟨a6, b6⟩ | ⟨a6, b6⟩ | ⟨a6, b6⟩
      · exact absurd (a5.symm.trans a6) (by first | (simp; done) | decide)
      · exact Or.inr ⟨b5.trans b6.symm, by omega⟩
      · exact absurd (a5.symm.trans a6) (by first | (simp; done) | decide)
      · exact absurd (a5.symm.trans a6) (by first | (simp; done) | decide)
    · rcases e6 with ⟨a6, b6⟩ | ⟨a6, b6⟩ | ⟨a6, b6⟩ | ⟨a6, b6⟩
      · exact absurd (a5.symm.trans a6) (by first | (simp; done) | decide)
      · exact absurd (a5.symm.trans a6) (by first | (simp; done) | decide)
      · exact absurd (xE_isMirror (Prod.ext a5 rfl)) (by decide)
      · exact absurd (a5.symm.trans a6) (by first | (simp; done) | decide)
    · rcases e6 with ⟨a6, b6⟩ | ⟨a6, b6⟩ | ⟨a6, b6⟩ | ⟨a6, b6⟩
      · exact absurd (a5.symm.trans a6) (by first | (simp; done) | decide)
      · exact absurd (a5.symm.trans a6) (by first | (simp; done) | decide)
      · exact absurd (a5.symm.trans a6) (by first | (simp; done) | decide)
      · exact absurd (xE_isMirror (Prod.ext a5 rfl)) (by decide)
  refine z_istore dLaw_law_2077 (Nat.le_of_ble_eq_true rfl) ?_
  refine z_aload_n dLaw_law_2079 rfl ?_
  rw [show ma 0 = ma2 0 from m0.symm]
  refine z_callV (bc' := bc - 6 - 1) (bs' := bs - 36 - 61) MV_Mod_thrown lk_Law_179 dLaw_law_2080 (k_Mod_thrown H2) rfl rfl (Nat.le_of_ble_eq_true rfl) rfl H2.2.1 (Nat.le_of_ble_eq_true rfl) (Nat.le_of_ble_eq_true rfl) (by omega) (by omega) (fun _ _ q => q.elim) ?_
  rintro _ _ ⟨rfl, rfl⟩
  refine z_iload dLaw_law_2083 rfl ?_
  refine z_icmp_eq (tgt := 2090) dLaw_law_2085 (by decide) (by omega) (by omega) (fun c1 => ?_) (fun c1 => ?_)
  · refine z_iload dLaw_law_2090 rfl ?_
    refine z_if_ne (tgt := 2115) dLaw_law_2092 (by decide) (by omega) (fun c2 => ?_) (fun c2 => ?_)
    · refine z_goto (tgt := 3454) dLaw_law_2115 (by decide) ?_
      rw [show ma2 0 = ma 0 from m0]
      exact K _ _ h2 ma2 _ _ _ (zLi.fin C1 eo1 n1 n2 n3 H2 F2 A2 (ok_isMirror hO) (okb_isMirror hO okb)) m0 (by omega) (by omega)
    · refine z_aload_n dLaw_law_2095 rfl ?_
      refine z_getN (k := 0) fd_Out (by decide) fl_Law_13 dLaw_law_2096 (F2 ou _ eo1 n2) rfl ?_
      refine z_iload dLaw_law_2099 rfl ?_
      have e56 : z5 = z6 := by omega
      refine z_if_eq (tgt := 2108) dLaw_law_2101 (by decide) (by omega) (fun c3 => ?_) (fun c3 => ?_)
      · refine z_lconst dLaw_law_2108 0 rfl ?_
        have e0 : zwd z5 = 0 := by rw [show z5 = 0 by omega]; decide
        rw [e0]
        refine z_lcmpI (by decide) (by decide) dLaw_law_2109 ?_
        rw [zSg_self]
        refine z_if_eq (tgt := 2115) dLaw_law_2110 (by decide) (by decide) (fun c4 => ?_) (fun c4 => ?_)
        · refine z_goto (tgt := 3454) dLaw_law_2115 (by decide) ?_
          rw [show ma2 0 = ma 0 from m0]
          exact K _ _ h2 ma2 _ _ _ (zLi.fin C1 eo1 n1 n2 n3 H2 F2 A2 (ok_isMirror hO) (okb_isMirror hO okb)) m0 (by omega) (by omega)
        · exact absurd rfl c4
      · refine z_lconst dLaw_law_2104 1 rfl ?_
        refine z_goto (tgt := 2109) dLaw_law_2105 (by decide) ?_
        have e0 : zwd z5 = 1 := by rw [show z5 = 1 by omega]; decide
        rw [e0]
        refine z_lcmpI (by decide) (by decide) dLaw_law_2109 ?_
        rw [zSg_self]
        refine z_if_eq (tgt := 2115) dLaw_law_2110 (by decide) (by decide) (fun c4 => ?_) (fun c4 => ?_)
        · refine z_goto (tgt := 3454) dLaw_law_2115 (by decide) ?_
          rw [show ma2 0 = ma 0 from m0]
          exact K _ _ h2 ma2 _ _ _ (zLi.fin C1 eo1 n1 n2 n3 H2 F2 A2 (ok_isMirror hO) (okb_isMirror hO okb)) m0 (by omega) (by omega)
        · exact absurd rfl c4
  · exfalso; omega
theorem c_Law_25 {ou : Nat} {i : Int} {y5 y6 : Option Value} (I : zLi G h ad ma ou S) (hi : 0 ≤ i ∧ i + 4 ≤ L) (hb1 : 210 ≤ bc) (hb2 : 12100 ≤ bs) (K : zLK G l b L xs ad ma ou i bc bs) : zR G l (zLJ G b L xs) bc bs h 2118 [some (.ref b), some (.ref (ad 0)), some (.ref (ma 0)), some (.ref ou), some (zi i), y5, y6] [] := by
  obtain ⟨th, n0, sv, hC, hM, hO, okb, eo, n1, n2, n3⟩ := I
  have oka := okb.1
  have h16 : ∀ k, k < 4 → (S.1 k).length ≤ 16 := fun k hk => (hC.ls hk).len
  have x1 := zX9_r (xs := xs) (i + 1)
  have x2 := zX9_r (xs := xs) (i + 2)
  have x3 := zX9_r (xs := xs) (i + 3)
  refine z_aload_n dLaw_law_2118 rfl ?_
  refine z_aload_n dLaw_law_2119 rfl ?_
  refine z_iload dLaw_law_2120 rfl ?_
  refine z_iconst dLaw_law_2122 ?_
  refine z_iadd dLaw_law_2123 ?_
  refine z_sld (by omega) dLaw_law_2124 ?_
  refine z_aload_n dLaw_law_2125 rfl ?_
  refine z_iload dLaw_law_2126 rfl ?_
  refine z_iconst dLaw_law_2128 ?_
  refine z_iadd dLaw_law_2129 ?_
  refine z_sld (by omega) dLaw_law_2130 ?_
  refine z_aload_n dLaw_law_2131 rfl ?_
  refine z_iload dLaw_law_2132 rfl ?_
  refine z_iconst dLaw_law_2134 ?_
  refine z_iadd dLaw_law_2135 ?_
  refine z_sld (by omega) dLaw_law_2136 ?_
  refine z_aload_n dLaw_law_2137 rfl ?_
  refine z_callSX (bc' := bc - 6) (bs' := bs - 36) MW_Law_open lk_Law_265 dLaw_law_2138 (k_Law_open hC (zX9_r (xs := xs) (i + 1)) (zX9_r (xs := xs) (i + 2)) (zX9_r (xs := xs) (i + 3)) eo n1) rfl rfl (Nat.le_of_ble_eq_true rfl) (Nat.le_of_ble_eq_true rfl) (Nat.le_of_ble_eq_true rfl) (by omega) (by omega) (fun _ _ q => q.elim) ?_
  rintro _ h1 ⟨k5, z5, sv5, rfl, C1, f1, eo1, e5⟩
  have H1 : zMod G h1 ma S th := hM.mid n2 n3 f1
  refine z_istore dLaw_law_2141 (Nat.le_of_ble_eq_true rfl) ?_
  refine z_aload_n dLaw_law_2143 rfl ?_
  refine z_aload_n dLaw_law_2144 rfl ?_
  refine z_iload dLaw_law_2145 rfl ?_
  refine z_iconst dLaw_law_2147 ?_
  refine z_iadd dLaw_law_2148 ?_
  refine z_sld (by omega) dLaw_law_2149 ?_
  refine z_aload_n dLaw_law_2150 rfl ?_
  refine z_iload dLaw_law_2151 rfl ?_
  refine z_iconst dLaw_law_2153 ?_
  refine z_iadd dLaw_law_2154 ?_
  refine z_sld (by omega) dLaw_law_2155 ?_
  refine z_aload_n dLaw_law_2156 rfl ?_
  refine z_iload dLaw_law_2157 rfl ?_
  refine z_iconst dLaw_law_2159 ?_
  refine z_iadd dLaw_law_2160 ?_
  refine z_sld (by omega) dLaw_law_2161 ?_
  refine z_callV (bc' := bc - 6 - 0) (bs' := bs - 36 - 0) MV_Mod_open lk_Law_267 dLaw_law_2162 (k_Mod_open H1 (zX9_r (xs := xs) (i + 1)) (zX9_r (xs := xs) (i + 2)) (zX9_r (xs := xs) (i + 3)) h16) rfl rfl (Nat.le_of_ble_eq_true rfl) rfl H1.2.1 (Nat.le_of_ble_eq_true rfl) (Nat.le_of_ble_eq_true rfl) (by omega) (by omega) (fun _ _ q => q.elim) ?_
  rintro _ h2 ⟨ma2, th2, z6, rfl, m0, H2, F2, A2, e6⟩
  have hs : (k5 = th2 ∧ z5 = z6 ∧ k5 = 0) ∨ (k5 = th2 ∧ (k5 = 1 ∨ k5 = 2 ∨ k5 = 3)) := by
    rcases e5 with ⟨a5, b5⟩ | ⟨a5, b5⟩ | ⟨a5, b5⟩ | ⟨a5, b5⟩
    · rcases e6 with ⟨a6, b6⟩ | ⟨a6, b6⟩ | ⟨a6, b6⟩ | ⟨a6, b6⟩
      · exact Or.inl ⟨b5.trans b6.symm, Sum.inl.inj (a5.symm.trans a6), b5⟩
      · exact absurd (a5.symm.trans a6) (by first | (simp; done) | decide)
      · exact absurd (a5.symm.trans a6) (by first | (simp; done) | decide)
      · exact absurd (a5.symm.trans a6) (by first | (simp; done) | decide)
    · rcases e6 with ⟨a6, b6⟩ | ⟨a6, b6⟩ | ⟨a6, b6⟩ | ⟨a6, b6⟩
      · exact absurd (a5.symm.trans a6) (by first | (simp; done) | decide)
      · exact Or.inr ⟨b5.trans b6.symm, by omega⟩
      · exact absurd (a5.symm.trans a6) (by first | (simp; done) | decide)
      · exact absurd (a5.symm.trans a6) (by first | (simp; done) | decide)
    · rcases e6 with ⟨a6, b6⟩ | ⟨a6, b6⟩ | ⟨a6, b6⟩ | ⟨a6, b6⟩
      · exact absurd (a5.symm.trans a6) (by first | (simp; done) | decide)
      · exact absurd (a5.symm.trans a6) (by first | (simp; done) | decide)
      · exact absurd (xE_open (Prod.ext a5 rfl)) (by decide)
      · exact absurd (a5.symm.trans a6) (by first | (simp; done) | decide)
    · rcases e6 with ⟨a6, b6⟩ | ⟨a6, b6⟩ | ⟨a6, b6⟩ | ⟨a6, b6⟩
      · exact absurd (a5.symm.trans a6) (by first | (simp; done) | decide)
      · exact absurd (a5.symm.trans a6) (by first | (simp; done) | decide)
      · exact absurd (a5.symm.trans a6) (by first | (simp; done) | decide)
      · exact absurd (xE_open (Prod.ext a5 rfl)) (by decide)
  refine z_istore dLaw_law_2165 (Nat.le_of_ble_eq_true rfl) ?_
  refine z_aload_n dLaw_law_2167 rfl ?_
  rw [show ma 0 = ma2 0 from m0.symm]
  refine z_callV (bc' := bc - 6 - 0) (bs' := bs - 36 - 0) MV_Mod_thrown lk_Law_179 dLaw_law_2168 (k_Mod_thrown H2) rfl rfl (Nat.le_of_ble_eq_true rfl) rfl H2.2.1 (Nat.le_of_ble_eq_true rfl) (Nat.le_of_ble_eq_true rfl) (by omega) (by omega) (fun _ _ q => q.elim) ?_
  rintro _ _ ⟨rfl, rfl⟩
  refine z_iload dLaw_law_2171 rfl ?_
  refine z_icmp_eq (tgt := 2178) dLaw_law_2173 (by decide) (by omega) (by omega) (fun c1 => ?_) (fun c1 => ?_)
  · refine z_iload dLaw_law_2178 rfl ?_
    refine z_if_ne (tgt := 2196) dLaw_law_2180 (by decide) (by omega) (fun c2 => ?_) (fun c2 => ?_)
    · refine z_goto (tgt := 3454) dLaw_law_2196 (by decide) ?_
      rw [show ma2 0 = ma 0 from m0]
      exact K _ _ h2 ma2 _ _ _ (zLi.fin C1 eo1 n1 n2 n3 H2 F2 A2 (ok_open hO h16) (okb_open hO okb)) m0 (by omega) (by omega)
    · refine z_aload_n dLaw_law_2183 rfl ?_
      refine z_getN (k := 0) fd_Out (by decide) fl_Law_13 dLaw_law_2184 (F2 ou _ eo1 n2) rfl ?_
      refine z_iload dLaw_law_2187 rfl ?_
      rw [show Value.int (zI z6) = Value.int (zI (zwd z6)) from zwd_i z6]
      refine z_i2l (zwd_r z6) dLaw_law_2189 ?_
      refine z_lcmpI (zwd_64 z5) (zwd_64 z6) dLaw_law_2190 ?_
      have e56 : z5 = z6 := by omega
      rw [e56, zSg_self]
      refine z_if_eq (tgt := 2196) dLaw_law_2191 (by decide) (by decide) (fun c3 => ?_) (fun c3 => ?_)
      · refine z_goto (tgt := 3454) dLaw_law_2196 (by decide) ?_
        rw [show ma2 0 = ma 0 from m0]
        exact K _ _ h2 ma2 _ _ _ (zLi.fin C1 eo1 n1 n2 n3 H2 F2 A2 (ok_open hO h16) (okb_open hO okb)) m0 (by omega) (by omega)
      · exact absurd rfl c3
  · exfalso; omega
theorem c_Law_26 {ou : Nat} {i : Int} {y5 y6 : Option Value} (I : zLi G h ad ma ou S) (hi : 0 ≤ i ∧ i + 4 ≤ L) (hb1 : 210 ≤ bc) (hb2 : 12100 ≤ bs) (K : zLK G l b L xs ad ma ou i bc bs) : zR G l (zLJ G b L xs) bc bs h 2199 [some (.ref b), some (.ref (ad 0)), some (.ref (ma 0)), some (.ref ou), some (zi i), y5, y6] [] := by
  obtain ⟨th, n0, sv, hC, hM, hO, okb, eo, n1, n2, n3⟩ := I
  have oka := okb.1
  have h16 : ∀ k, k < 4 → (S.1 k).length ≤ 16 := fun k hk => (hC.ls hk).len
  have x1 := zX9_r (xs := xs) (i + 1)
  have x2 := zX9_r (xs := xs) (i + 2)
  have x3 := zX9_r (xs := xs) (i + 3)
  refine z_aload_n dLaw_law_2199 rfl ?_
  refine z_aload_n dLaw_law_2200 rfl ?_
  refine z_iload dLaw_law_2201 rfl ?_
  refine z_iconst dLaw_law_2203 ?_
  refine z_iadd dLaw_law_2204 ?_
  refine z_sld (by omega) dLaw_law_2205 ?_
  refine z_aload_n dLaw_law_2206 rfl ?_
  refine z_callSX (bc' := bc - 6) (bs' := bs - 36) MW_Law_shut lk_Law_268 dLaw_law_2207 (k_Law_shut hC (zX9_r (xs := xs) (i + 1)) eo n1) rfl rfl (Nat.le_of_ble_eq_true rfl) (Nat.le_of_ble_eq_true rfl) (Nat.le_of_ble_eq_true rfl) (by omega) (by omega) (fun _ _ q => q.elim) ?_
  rintro _ h1 ⟨k5, z5, sv5, rfl, C1, f1, eo1, e5⟩
  have H1 : zMod G h1 ma S th := hM.mid n2 n3 f1
  refine z_istore dLaw_law_2210 (Nat.le_of_ble_eq_true rfl) ?_
  refine z_aload_n dLaw_law_2212 rfl ?_
  refine z_aload_n dLaw_law_2213 rfl ?_
  refine z_iload dLaw_law_2214 rfl ?_
  refine z_iconst dLaw_law_2216 ?_
  refine z_iadd dLaw_law_2217 ?_
  refine z_sld (by omega) dLaw_law_2218 ?_
  refine z_callV (bc' := bc - 6 - 0) (bs' := bs - 36 - 0) MV_Mod_shut lk_Law_270 dLaw_law_2219 (k_Mod_shut H1 (zX9_r (xs := xs) (i + 1)) h16) rfl rfl (Nat.le_of_ble_eq_true rfl) rfl H1.2.1 (Nat.le_of_ble_eq_true rfl) (Nat.le_of_ble_eq_true rfl) (by omega) (by omega) (fun _ _ q => q.elim) ?_
  rintro _ h2 ⟨ma2, th2, z6, rfl, m0, H2, F2, A2, e6⟩
  have hs : (k5 = th2 ∧ z5 = z6 ∧ k5 = 0 ∧ (z5 = 0 ∨ z5 = 1)) ∨ (k5 = th2 ∧ (k5 = 1 ∨ k5 = 2 ∨ k5 = 3)) := by
    rcases e5 with ⟨a5, b5⟩ | ⟨a5, b5⟩ | ⟨a5, b5⟩ | ⟨a5, b5⟩
    · rcases e6 with ⟨a6, b6⟩ | ⟨a6, b6⟩ | ⟨a6, b6⟩ | ⟨a6, b6⟩
      · exact Or.inl ⟨b5.trans b6.symm, Sum.inl.inj (a5.symm.trans a6), b5, xB_shut hC (Prod.ext a5 rfl)⟩
      · exact absurd (a5.symm.trans a6) (by first | (simp; done) | decide)
      · exact absurd (a5.symm.trans a6) (by first | (simp; done) | decide)
      · exact absurd (a5.symm.trans a6) (by first | (simp; done) | decide)
    · rcases e6 with ⟨a6, b6⟩ | ⟨a6, b6⟩ | ⟨a6, b6⟩ | ⟨a6, b6⟩
      · exact absurd (a5.symm.trans a6) (by first | (simp; done) | decide)
      · exact Or.inr ⟨b5.trans b6.symm, by omega⟩
      · exact absurd (a5.symm.trans a6) (by first | (simp; done) | decide)
      · exact absurd (a5.symm.trans a6) (by first | (simp; done) | decide)
    · rcases e6 with ⟨a6, b6⟩ | ⟨a6, b6⟩ | ⟨a6, b6⟩ | ⟨a6, b6⟩
      · exact absurd (a5.symm.trans a6) (by first | (simp; done) | decide)
      · exact absurd (a5.symm.trans a6) (by first | (simp; done) | decide)
      · exact absurd (xE_shut (Prod.ext a5 rfl)) (by decide)
      · exact absurd (a5.symm.trans a6) (by first | (simp; done) | decide)
    · rcases e6 with ⟨a6, b6⟩ | ⟨a6, b6⟩ | ⟨a6, b6⟩ | ⟨a6, b6⟩
      · exact absurd (a5.symm.trans a6) (by first | (simp; done) | decide)
      · exact absurd (a5.symm.trans a6) (by first | (simp; done) | decide)
      · exact absurd (a5.symm.trans a6) (by first | (simp; done) | decide)
      · exact absurd (xE_shut (Prod.ext a5 rfl)) (by decide)
  refine z_istore dLaw_law_2222 (Nat.le_of_ble_eq_true rfl) ?_
  refine z_aload_n dLaw_law_2224 rfl ?_
  rw [show ma 0 = ma2 0 from m0.symm]
  refine z_callV (bc' := bc - 6 - 0) (bs' := bs - 36 - 0) MV_Mod_thrown lk_Law_179 dLaw_law_2225 (k_Mod_thrown H2) rfl rfl (Nat.le_of_ble_eq_true rfl) rfl H2.2.1 (Nat.le_of_ble_eq_true rfl) (Nat.le_of_ble_eq_true rfl) (by omega) (by omega) (fun _ _ q => q.elim) ?_
  rintro _ _ ⟨rfl, rfl⟩
  refine z_iload dLaw_law_2228 rfl ?_
  refine z_icmp_eq (tgt := 2235) dLaw_law_2230 (by decide) (by omega) (by omega) (fun c1 => ?_) (fun c1 => ?_)
  · refine z_iload dLaw_law_2235 rfl ?_
    refine z_if_ne (tgt := 2260) dLaw_law_2237 (by decide) (by omega) (fun c2 => ?_) (fun c2 => ?_)
    · refine z_goto (tgt := 3454) dLaw_law_2260 (by decide) ?_
      rw [show ma2 0 = ma 0 from m0]
      exact K _ _ h2 ma2 _ _ _ (zLi.fin C1 eo1 n1 n2 n3 H2 F2 A2 (ok_shut hO) (okb_shut hO okb)) m0 (by omega) (by omega)
    · refine z_aload_n dLaw_law_2240 rfl ?_
      refine z_getN (k := 0) fd_Out (by decide) fl_Law_13 dLaw_law_2241 (F2 ou _ eo1 n2) rfl ?_
      refine z_iload dLaw_law_2244 rfl ?_
      have e56 : z5 = z6 := by omega
      refine z_if_eq (tgt := 2253) dLaw_law_2246 (by decide) (by omega) (fun c3 => ?_) (fun c3 => ?_)
      · refine z_lconst dLaw_law_2253 0 rfl ?_
        have e0 : zwd z5 = 0 := by rw [show z5 = 0 by omega]; decide
        rw [e0]
        refine z_lcmpI (by decide) (by decide) dLaw_law_2254 ?_
        rw [zSg_self]
        refine z_if_eq (tgt := 2260) dLaw_law_2255 (by decide) (by decide) (fun c4 => ?_) (fun c4 => ?_)
        · refine z_goto (tgt := 3454) dLaw_law_2260 (by decide) ?_
          rw [show ma2 0 = ma 0 from m0]
          exact K _ _ h2 ma2 _ _ _ (zLi.fin C1 eo1 n1 n2 n3 H2 F2 A2 (ok_shut hO) (okb_shut hO okb)) m0 (by omega) (by omega)
        · exact absurd rfl c4
      · refine z_lconst dLaw_law_2249 1 rfl ?_
        refine z_goto (tgt := 2254) dLaw_law_2250 (by decide) ?_
        have e0 : zwd z5 = 1 := by rw [show z5 = 1 by omega]; decide
        rw [e0]
        refine z_lcmpI (by decide) (by decide) dLaw_law_2254 ?_
        rw [zSg_self]
        refine z_if_eq (tgt := 2260) dLaw_law_2255 (by decide) (by decide) (fun c4 => ?_) (fun c4 => ?_)
        · refine z_goto (tgt := 3454) dLaw_law_2260 (by decide) ?_
          rw [show ma2 0 = ma 0 from m0]
          exact K _ _ h2 ma2 _ _ _ (zLi.fin C1 eo1 n1 n2 n3 H2 F2 A2 (ok_shut hO) (okb_shut hO okb)) m0 (by omega) (by omega)
        · exact absurd rfl c4
  · exfalso; omega
theorem c_Law_27 {ou : Nat} {i : Int} {y5 y6 : Option Value} (I : zLi G h ad ma ou S) (hi : 0 ≤ i ∧ i + 4 ≤ L) (hb1 : 210 ≤ bc) (hb2 : 12100 ≤ bs) (K : zLK G l b L xs ad ma ou i bc bs) : zR G l (zLJ G b L xs) bc bs h 2263 [some (.ref b), some (.ref (ad 0)), some (.ref (ma 0)), some (.ref ou), some (zi i), y5, y6] [] := by
  obtain ⟨th, n0, sv, hC, hM, hO, okb, eo, n1, n2, n3⟩ := I
  have oka := okb.1
  have h16 : ∀ k, k < 4 → (S.1 k).length ≤ 16 := fun k hk => (hC.ls hk).len
  have x1 := zX9_r (xs := xs) (i + 1)
  have x2 := zX9_r (xs := xs) (i + 2)
  have x3 := zX9_r (xs := xs) (i + 3)
  refine z_aload_n dLaw_law_2263 rfl ?_
  refine z_aload_n dLaw_law_2264 rfl ?_
  refine z_iload dLaw_law_2265 rfl ?_
  refine z_iconst dLaw_law_2267 ?_
  refine z_iadd dLaw_law_2268 ?_
  refine z_sld (by omega) dLaw_law_2269 ?_
  refine z_aload_n dLaw_law_2270 rfl ?_
  refine z_callSX (bc' := bc - 6) (bs' := bs - 36) MW_Law_forth lk_Law_271 dLaw_law_2271 (k_Law_forth hO hC (zX9_r (xs := xs) (i + 1)) eo n1) rfl rfl (Nat.le_of_ble_eq_true rfl) (Nat.le_of_ble_eq_true rfl) (Nat.le_of_ble_eq_true rfl) (by omega) (by omega) (fun _ _ q => q.elim) ?_
  rintro _ h1 ⟨k5, z5, sv5, rfl, C1, f1, eo1, e5⟩
  have H1 : zMod G h1 ma S th := hM.mid n2 n3 f1
  refine z_istore dLaw_law_2274 (Nat.le_of_ble_eq_true rfl) ?_
  refine z_aload_n dLaw_law_2276 rfl ?_
  refine z_aload_n dLaw_law_2277 rfl ?_
  refine z_iload dLaw_law_2278 rfl ?_
  refine z_iconst dLaw_law_2280 ?_
  refine z_iadd dLaw_law_2281 ?_
  refine z_sld (by omega) dLaw_law_2282 ?_
  refine z_callV (bc' := bc - 6 - 0) (bs' := bs - 36 - 0) MV_Mod_forth lk_Law_273 dLaw_law_2283 (k_Mod_forth H1 (zX9_r (xs := xs) (i + 1)) hO h16) rfl rfl (Nat.le_of_ble_eq_true rfl) rfl H1.2.1 (Nat.le_of_ble_eq_true rfl) (Nat.le_of_ble_eq_true rfl) (by omega) (by omega) (fun _ _ q => q.elim) ?_
  rintro _ h2 ⟨ma2, th2, z6, rfl, m0, H2, F2, A2, e6⟩
  have hs : (k5 = th2 ∧ z5 = z6 ∧ k5 = 0) ∨ (k5 = th2 ∧ (k5 = 1 ∨ k5 = 2 ∨ k5 = 3)) := by
    rcases e5 with ⟨a5, b5⟩ | ⟨a5, b5⟩ | ⟨a5, b5⟩ | ⟨a5, b5⟩
    · rcases e6 with ⟨a6, b6⟩ | ⟨a6, b6⟩ | ⟨a6, b6⟩ | ⟨a6, b6⟩
      · exact Or.inl ⟨b5.trans b6.symm, Sum.inl.inj (a5.symm.trans a6), b5⟩
      · exact absurd (a5.symm.trans a6) (by first | (simp; done) | decide)
      · exact absurd (a5.symm.trans a6) (by first | (simp; done) | decide)
      · exact absurd (a5.symm.trans a6) (by first | (simp; done) | decide)
    · rcases e6 with ⟨a6, b6⟩ | ⟨a6, b6⟩ | ⟨a6, b6⟩ | ⟨a6, b6⟩
      · exact absurd (a5.symm.trans a6) (by first | (simp; done) | decide)
      · exact Or.inr ⟨b5.trans b6.symm, by omega⟩
      · exact absurd (a5.symm.trans a6) (by first | (simp; done) | decide)
      · exact absurd (a5.symm.trans a6) (by first | (simp; done) | decide)
    · rcases e6 with ⟨a6, b6⟩ | ⟨a6, b6⟩ | ⟨a6, b6⟩ | ⟨a6, b6⟩
      · exact absurd (a5.symm.trans a6) (by first | (simp; done) | decide)
      · exact absurd (a5.symm.trans a6) (by first | (simp; done) | decide)
      · exact absurd (xE_forth (Prod.ext a5 rfl)) (by decide)
      · exact absurd (a5.symm.trans a6) (by first | (simp; done) | decide)
    · rcases e6 with ⟨a6, b6⟩ | ⟨a6, b6⟩ | ⟨a6, b6⟩ | ⟨a6, b6⟩
      · exact absurd (a5.symm.trans a6) (by first | (simp; done) | decide)
      · exact absurd (a5.symm.trans a6) (by first | (simp; done) | decide)
      · exact absurd (a5.symm.trans a6) (by first | (simp; done) | decide)
      · exact Or.inr ⟨b5.trans b6.symm, by omega⟩
  refine z_istore dLaw_law_2286 (Nat.le_of_ble_eq_true rfl) ?_
  refine z_aload_n dLaw_law_2288 rfl ?_
  rw [show ma 0 = ma2 0 from m0.symm]
  refine z_callV (bc' := bc - 6 - 0) (bs' := bs - 36 - 0) MV_Mod_thrown lk_Law_179 dLaw_law_2289 (k_Mod_thrown H2) rfl rfl (Nat.le_of_ble_eq_true rfl) rfl H2.2.1 (Nat.le_of_ble_eq_true rfl) (Nat.le_of_ble_eq_true rfl) (by omega) (by omega) (fun _ _ q => q.elim) ?_
  rintro _ _ ⟨rfl, rfl⟩
  refine z_iload dLaw_law_2292 rfl ?_
  refine z_icmp_eq (tgt := 2299) dLaw_law_2294 (by decide) (by omega) (by omega) (fun c1 => ?_) (fun c1 => ?_)
  · refine z_iload dLaw_law_2299 rfl ?_
    refine z_if_ne (tgt := 2317) dLaw_law_2301 (by decide) (by omega) (fun c2 => ?_) (fun c2 => ?_)
    · refine z_goto (tgt := 3454) dLaw_law_2317 (by decide) ?_
      rw [show ma2 0 = ma 0 from m0]
      exact K _ _ h2 ma2 _ _ _ (zLi.fin C1 eo1 n1 n2 n3 H2 F2 A2 (ok_forth hO h16) (okb_forth hO okb)) m0 (by omega) (by omega)
    · refine z_aload_n dLaw_law_2304 rfl ?_
      refine z_getN (k := 0) fd_Out (by decide) fl_Law_13 dLaw_law_2305 (F2 ou _ eo1 n2) rfl ?_
      refine z_iload dLaw_law_2308 rfl ?_
      rw [show Value.int (zI z6) = Value.int (zI (zwd z6)) from zwd_i z6]
      refine z_i2l (zwd_r z6) dLaw_law_2310 ?_
      refine z_lcmpI (zwd_64 z5) (zwd_64 z6) dLaw_law_2311 ?_
      have e56 : z5 = z6 := by omega
      rw [e56, zSg_self]
      refine z_if_eq (tgt := 2317) dLaw_law_2312 (by decide) (by decide) (fun c3 => ?_) (fun c3 => ?_)
      · refine z_goto (tgt := 3454) dLaw_law_2317 (by decide) ?_
        rw [show ma2 0 = ma 0 from m0]
        exact K _ _ h2 ma2 _ _ _ (zLi.fin C1 eo1 n1 n2 n3 H2 F2 A2 (ok_forth hO h16) (okb_forth hO okb)) m0 (by omega) (by omega)
      · exact absurd rfl c3
  · exfalso; omega
theorem c_Law_28 {ou : Nat} {i : Int} {y5 y6 : Option Value} (I : zLi G h ad ma ou S) (hi : 0 ≤ i ∧ i + 4 ≤ L) (hb1 : 210 ≤ bc) (hb2 : 12100 ≤ bs) (K : zLK G l b L xs ad ma ou i bc bs) : zR G l (zLJ G b L xs) bc bs h 2320 [some (.ref b), some (.ref (ad 0)), some (.ref (ma 0)), some (.ref ou), some (zi i), y5, y6] [] := by
  obtain ⟨th, n0, sv, hC, hM, hO, okb, eo, n1, n2, n3⟩ := I
  have oka := okb.1
  have h16 : ∀ k, k < 4 → (S.1 k).length ≤ 16 := fun k hk => (hC.ls hk).len
  have x1 := zX9_r (xs := xs) (i + 1)
  have x2 := zX9_r (xs := xs) (i + 2)
  have x3 := zX9_r (xs := xs) (i + 3)
  refine z_aload_n dLaw_law_2320 rfl ?_
  refine z_aload_n dLaw_law_2321 rfl ?_
  refine z_iload dLaw_law_2322 rfl ?_
  refine z_iconst dLaw_law_2324 ?_
  refine z_iadd dLaw_law_2325 ?_
  refine z_sld (by omega) dLaw_law_2326 ?_
  refine z_aload_n dLaw_law_2327 rfl ?_
  refine z_callSX (bc' := bc - 6) (bs' := bs - 36) MW_Law_back lk_Law_274 dLaw_law_2328 (k_Law_back hO hC (zX9_r (xs := xs) (i + 1)) eo n1) rfl rfl (Nat.le_of_ble_eq_true rfl) (Nat.le_of_ble_eq_true rfl) (Nat.le_of_ble_eq_true rfl) (by omega) (by omega) (fun _ _ q => q.elim) ?_
  rintro _ h1 ⟨k5, z5, sv5, rfl, C1, f1, eo1, e5⟩
  have H1 : zMod G h1 ma S th := hM.mid n2 n3 f1
  refine z_istore dLaw_law_2331 (Nat.le_of_ble_eq_true rfl) ?_
  refine z_aload_n dLaw_law_2333 rfl ?_
  refine z_aload_n dLaw_law_2334 rfl ?_
  refine z_iload dLaw_law_2335 rfl ?_
  refine z_iconst dLaw_law_2337 ?_
  refine z_iadd dLaw_law_2338 ?_
  refine z_sld (by omega) dLaw_law_2339 ?_
  refine z_callV (bc' := bc - 6 - 0) (bs' := bs - 36 - 0) MV_Mod_back lk_Law_276 dLaw_law_2340 (k_Mod_back H1 (zX9_r (xs := xs) (i + 1)) hO h16) rfl rfl (Nat.le_of_ble_eq_true rfl) rfl H1.2.1 (Nat.le_of_ble_eq_true rfl) (Nat.le_of_ble_eq_true rfl) (by omega) (by omega) (fun _ _ q => q.elim) ?_
  rintro _ h2 ⟨ma2, th2, z6, rfl, m0, H2, F2, A2, e6⟩
  have hs : (k5 = th2 ∧ z5 = z6 ∧ k5 = 0) ∨ (k5 = th2 ∧ (k5 = 1 ∨ k5 = 2 ∨ k5 = 3)) := by
    rcases e5 with ⟨a5, b5⟩ | ⟨a5, b5⟩ | ⟨a5, b5⟩ | ⟨a5, b5⟩
    · rcases e6 with ⟨a6, b6⟩ | ⟨a6, b6⟩ | ⟨a6, b6⟩ | ⟨a6, b6⟩
      · exact Or.inl ⟨b5.trans b6.symm, Sum.inl.inj (a5.symm.trans a6), b5⟩
      · exact absurd (a5.symm.trans a6) (by first | (simp; done) | decide)
      · exact absurd (a5.symm.trans a6) (by first | (simp; done) | decide)
      · exact absurd (a5.symm.trans a6) (by first | (simp; done) | decide)
    · rcases e6 with ⟨a6, b6⟩ | ⟨a6, b6⟩ | ⟨a6, b6⟩ | ⟨a6, b6⟩
      · exact absurd (a5.symm.trans a6) (by first | (simp; done) | decide)
      · exact Or.inr ⟨b5.trans b6.symm, by omega⟩
      · exact absurd (a5.symm.trans a6) (by first | (simp; done) | decide)
      · exact absurd (a5.symm.trans a6) (by first | (simp; done) | decide)
    · rcases e6 with ⟨a6, b6⟩ | ⟨a6, b6⟩ | ⟨a6, b6⟩ | ⟨a6, b6⟩
      · exact absurd (a5.symm.trans a6) (by first | (simp; done) | decide)
      · exact absurd (a5.symm.trans a6) (by first | (simp; done) | decide)
      · exact absurd (xE_back (Prod.ext a5 rfl)) (by decide)
      · exact absurd (a5.symm.trans a6) (by first | (simp; done) | decide)
    · rcases e6 with ⟨a6, b6⟩ | ⟨a6, b6⟩ | ⟨a6, b6⟩ | ⟨a6, b6⟩
      · exact absurd (a5.symm.trans a6) (by first | (simp; done) | decide)
      · exact absurd (a5.symm.trans a6) (by first | (simp; done) | decide)
      · exact absurd (a5.symm.trans a6) (by first | (simp; done) | decide)
      · exact Or.inr ⟨b5.trans b6.symm, by omega⟩
  refine z_istore dLaw_law_2343 (Nat.le_of_ble_eq_true rfl) ?_
  refine z_aload_n dLaw_law_2345 rfl ?_
  rw [show ma 0 = ma2 0 from m0.symm]
  refine z_callV (bc' := bc - 6 - 0) (bs' := bs - 36 - 0) MV_Mod_thrown lk_Law_179 dLaw_law_2346 (k_Mod_thrown H2) rfl rfl (Nat.le_of_ble_eq_true rfl) rfl H2.2.1 (Nat.le_of_ble_eq_true rfl) (Nat.le_of_ble_eq_true rfl) (by omega) (by omega) (fun _ _ q => q.elim) ?_
  rintro _ _ ⟨rfl, rfl⟩
  refine z_iload dLaw_law_2349 rfl ?_
  refine z_icmp_eq (tgt := 2356) dLaw_law_2351 (by decide) (by omega) (by omega) (fun c1 => ?_) (fun c1 => ?_)
  · refine z_iload dLaw_law_2356 rfl ?_
    refine z_if_ne (tgt := 2374) dLaw_law_2358 (by decide) (by omega) (fun c2 => ?_) (fun c2 => ?_)
    · refine z_goto (tgt := 3454) dLaw_law_2374 (by decide) ?_
      rw [show ma2 0 = ma 0 from m0]
      exact K _ _ h2 ma2 _ _ _ (zLi.fin C1 eo1 n1 n2 n3 H2 F2 A2 (ok_back hO h16) (okb_back hO okb)) m0 (by omega) (by omega)
    · refine z_aload_n dLaw_law_2361 rfl ?_
      refine z_getN (k := 0) fd_Out (by decide) fl_Law_13 dLaw_law_2362 (F2 ou _ eo1 n2) rfl ?_
      refine z_iload dLaw_law_2365 rfl ?_
      rw [show Value.int (zI z6) = Value.int (zI (zwd z6)) from zwd_i z6]
      refine z_i2l (zwd_r z6) dLaw_law_2367 ?_
      refine z_lcmpI (zwd_64 z5) (zwd_64 z6) dLaw_law_2368 ?_
      have e56 : z5 = z6 := by omega
      rw [e56, zSg_self]
      refine z_if_eq (tgt := 2374) dLaw_law_2369 (by decide) (by decide) (fun c3 => ?_) (fun c3 => ?_)
      · refine z_goto (tgt := 3454) dLaw_law_2374 (by decide) ?_
        rw [show ma2 0 = ma 0 from m0]
        exact K _ _ h2 ma2 _ _ _ (zLi.fin C1 eo1 n1 n2 n3 H2 F2 A2 (ok_back hO h16) (okb_back hO okb)) m0 (by omega) (by omega)
      · exact absurd rfl c3
  · exfalso; omega
theorem c_Law_29 {ou : Nat} {i : Int} {y5 y6 : Option Value} (I : zLi G h ad ma ou S) (hi : 0 ≤ i ∧ i + 4 ≤ L) (hb1 : 210 ≤ bc) (hb2 : 12100 ≤ bs) (K : zLK G l b L xs ad ma ou i bc bs) : zR G l (zLJ G b L xs) bc bs h 2377 [some (.ref b), some (.ref (ad 0)), some (.ref (ma 0)), some (.ref ou), some (zi i), y5, y6] [] := by
  obtain ⟨th, n0, sv, hC, hM, hO, okb, eo, n1, n2, n3⟩ := I
  have oka := okb.1
  have h16 : ∀ k, k < 4 → (S.1 k).length ≤ 16 := fun k hk => (hC.ls hk).len
  have x1 := zX9_r (xs := xs) (i + 1)
  have x2 := zX9_r (xs := xs) (i + 2)
  have x3 := zX9_r (xs := xs) (i + 3)
  refine z_aload_n dLaw_law_2377 rfl ?_
  refine z_aload_n dLaw_law_2378 rfl ?_
  refine z_iload dLaw_law_2379 rfl ?_
  refine z_iconst dLaw_law_2381 ?_
  refine z_iadd dLaw_law_2382 ?_
  refine z_sld (by omega) dLaw_law_2383 ?_
  refine z_aload_n dLaw_law_2384 rfl ?_
  refine z_iload dLaw_law_2385 rfl ?_
  refine z_iconst dLaw_law_2387 ?_
  refine z_iadd dLaw_law_2388 ?_
  refine z_sld (by omega) dLaw_law_2389 ?_
  refine z_aload_n dLaw_law_2390 rfl ?_
  refine z_callSX (bc' := bc - 6) (bs' := bs - 36) MW_Law_puts lk_Law_277 dLaw_law_2391 (k_Law_puts hO hC (zX9_r (xs := xs) (i + 1)) (zX9_r (xs := xs) (i + 2)) eo n1) rfl rfl (Nat.le_of_ble_eq_true rfl) (Nat.le_of_ble_eq_true rfl) (Nat.le_of_ble_eq_true rfl) (by omega) (by omega) (fun _ _ q => q.elim) ?_
  rintro _ h1 ⟨k5, z5, sv5, rfl, C1, f1, eo1, e5⟩
  have H1 : zMod G h1 ma S th := hM.mid n2 n3 f1
  refine z_istore dLaw_law_2394 (Nat.le_of_ble_eq_true rfl) ?_
  refine z_aload_n dLaw_law_2396 rfl ?_
  refine z_aload_n dLaw_law_2397 rfl ?_
  refine z_iload dLaw_law_2398 rfl ?_
  refine z_iconst dLaw_law_2400 ?_
  refine z_iadd dLaw_law_2401 ?_
  refine z_sld (by omega) dLaw_law_2402 ?_
  refine z_aload_n dLaw_law_2403 rfl ?_
  refine z_iload dLaw_law_2404 rfl ?_
  refine z_iconst dLaw_law_2406 ?_
  refine z_iadd dLaw_law_2407 ?_
  refine z_sld (by omega) dLaw_law_2408 ?_
  refine z_callV (bc' := bc - 6 - 1) (bs' := bs - 36 - 61) MV_Mod_puts lk_Law_279 dLaw_law_2409 (k_Mod_puts H1 (zX9_r (xs := xs) (i + 1)) (zX9_r (xs := xs) (i + 2)) hO h16) rfl rfl (Nat.le_of_ble_eq_true rfl) rfl H1.2.1 (Nat.le_of_ble_eq_true rfl) (Nat.le_of_ble_eq_true rfl) (by omega) (by omega) (fun _ _ q => q.elim) ?_
  rintro _ h2 ⟨ma2, th2, z6, rfl, m0, H2, F2, A2, e6⟩
  have hs : (k5 = th2 ∧ z5 = z6 ∧ k5 = 0) ∨ (k5 = th2 ∧ (k5 = 1 ∨ k5 = 2 ∨ k5 = 3)) := by
    rcases e5 with ⟨a5, b5⟩ | ⟨a5, b5⟩ | ⟨a5, b5⟩ | ⟨a5, b5⟩
    · rcases e6 with ⟨a6, b6⟩ | ⟨a6, b6⟩ | ⟨a6, b6⟩ | ⟨a6, b6⟩
      · exact Or.inl ⟨b5.trans b6.symm, Sum.inl.inj (a5.symm.trans a6), b5⟩
      · exact absurd (a5.symm.trans a6) (by first | (simp; done) | decide)
      · exact absurd (a5.symm.trans a6) (by first | (simp; done) | decide)
      · exact absurd (a5.symm.trans a6) (by first | (simp; done) | decide)
    · rcases e6 with ⟨a6, b6⟩ | ⟨a6, b6⟩ | ⟨a6, b6⟩ | ⟨a6, b6⟩
      · exact absurd (a5.symm.trans a6) (by first | (simp; done) | decide)
      · exact Or.inr ⟨b5.trans b6.symm, by omega⟩
      · exact absurd (a5.symm.trans a6) (by first | (simp; done) | decide)
      · exact absurd (a5.symm.trans a6) (by first | (simp; done) | decide)
    · rcases e6 with ⟨a6, b6⟩ | ⟨a6, b6⟩ | ⟨a6, b6⟩ | ⟨a6, b6⟩
      · exact absurd (a5.symm.trans a6) (by first | (simp; done) | decide)
      · exact absurd (a5.symm.trans a6) (by first | (simp; done) | decide)
      · exact Or.inr ⟨b5.trans b6.symm, by omega⟩
      · exact absurd (a5.symm.trans a6) (by first | (simp; done) | decide)
    · rcases e6 with ⟨a6, b6⟩ | ⟨a6, b6⟩ | ⟨a6, b6⟩ | ⟨a6, b6⟩
      · exact absurd (a5.symm.trans a6) (by first | (simp; done) | decide)
      · exact absurd (a5.symm.trans a6) (by first | (simp; done) | decide)
      · exact absurd (a5.symm.trans a6) (by first | (simp; done) | decide)
      · exact Or.inr ⟨b5.trans b6.symm, by omega⟩
  refine z_istore dLaw_law_2412 (Nat.le_of_ble_eq_true rfl) ?_
  refine z_aload_n dLaw_law_2414 rfl ?_
  rw [show ma 0 = ma2 0 from m0.symm]
  refine z_callV (bc' := bc - 6 - 1) (bs' := bs - 36 - 61) MV_Mod_thrown lk_Law_179 dLaw_law_2415 (k_Mod_thrown H2) rfl rfl (Nat.le_of_ble_eq_true rfl) rfl H2.2.1 (Nat.le_of_ble_eq_true rfl) (Nat.le_of_ble_eq_true rfl) (by omega) (by omega) (fun _ _ q => q.elim) ?_
  rintro _ _ ⟨rfl, rfl⟩
  refine z_iload dLaw_law_2418 rfl ?_
  refine z_icmp_eq (tgt := 2425) dLaw_law_2420 (by decide) (by omega) (by omega) (fun c1 => ?_) (fun c1 => ?_)
  · refine z_iload dLaw_law_2425 rfl ?_
    refine z_if_ne (tgt := 2443) dLaw_law_2427 (by decide) (by omega) (fun c2 => ?_) (fun c2 => ?_)
    · refine z_goto (tgt := 3454) dLaw_law_2443 (by decide) ?_
      rw [show ma2 0 = ma 0 from m0]
      exact K _ _ h2 ma2 _ _ _ (zLi.fin C1 eo1 n1 n2 n3 H2 F2 A2 (ok_puts hO h16) (okb_puts hO okb)) m0 (by omega) (by omega)
    · refine z_aload_n dLaw_law_2430 rfl ?_
      refine z_getN (k := 0) fd_Out (by decide) fl_Law_13 dLaw_law_2431 (F2 ou _ eo1 n2) rfl ?_
      refine z_iload dLaw_law_2434 rfl ?_
      rw [show Value.int (zI z6) = Value.int (zI (zwd z6)) from zwd_i z6]
      refine z_i2l (zwd_r z6) dLaw_law_2436 ?_
      refine z_lcmpI (zwd_64 z5) (zwd_64 z6) dLaw_law_2437 ?_
      have e56 : z5 = z6 := by omega
      rw [e56, zSg_self]
      refine z_if_eq (tgt := 2443) dLaw_law_2438 (by decide) (by decide) (fun c3 => ?_) (fun c3 => ?_)
      · refine z_goto (tgt := 3454) dLaw_law_2443 (by decide) ?_
        rw [show ma2 0 = ma 0 from m0]
        exact K _ _ h2 ma2 _ _ _ (zLi.fin C1 eo1 n1 n2 n3 H2 F2 A2 (ok_puts hO h16) (okb_puts hO okb)) m0 (by omega) (by omega)
      · exact absurd rfl c3
  · exfalso; omega
theorem c_Law_30 {ou : Nat} {i : Int} {y5 y6 : Option Value} (I : zLi G h ad ma ou S) (hi : 0 ≤ i ∧ i + 4 ≤ L) (hb1 : 210 ≤ bc) (hb2 : 12100 ≤ bs) (K : zLK G l b L xs ad ma ou i bc bs) : zR G l (zLJ G b L xs) bc bs h 2446 [some (.ref b), some (.ref (ad 0)), some (.ref (ma 0)), some (.ref ou), some (zi i), y5, y6] [] := by
  obtain ⟨th, n0, sv, hC, hM, hO, okb, eo, n1, n2, n3⟩ := I
  have oka := okb.1
  have h16 : ∀ k, k < 4 → (S.1 k).length ≤ 16 := fun k hk => (hC.ls hk).len
  have x1 := zX9_r (xs := xs) (i + 1)
  have x2 := zX9_r (xs := xs) (i + 2)
  have x3 := zX9_r (xs := xs) (i + 3)
  refine z_aload_n dLaw_law_2446 rfl ?_
  refine z_aload_n dLaw_law_2447 rfl ?_
  refine z_iload dLaw_law_2448 rfl ?_
  refine z_iconst dLaw_law_2450 ?_
  refine z_iadd dLaw_law_2451 ?_
  refine z_sld (by omega) dLaw_law_2452 ?_
  refine z_aload_n dLaw_law_2453 rfl ?_
  refine z_callSX (bc' := bc - 6) (bs' := bs - 36) MW_Law_cuts lk_Law_280 dLaw_law_2454 (k_Law_cuts hO hC (zX9_r (xs := xs) (i + 1)) eo n1) rfl rfl (Nat.le_of_ble_eq_true rfl) (Nat.le_of_ble_eq_true rfl) (Nat.le_of_ble_eq_true rfl) (by omega) (by omega) (fun _ _ q => q.elim) ?_
  rintro _ h1 ⟨k5, z5, sv5, rfl, C1, f1, eo1, e5⟩
  have H1 : zMod G h1 ma S th := hM.mid n2 n3 f1
  refine z_istore dLaw_law_2457 (Nat.le_of_ble_eq_true rfl) ?_
  refine z_aload_n dLaw_law_2459 rfl ?_
  refine z_aload_n dLaw_law_2460 rfl ?_
  refine z_iload dLaw_law_2461 rfl ?_
  refine z_iconst dLaw_law_2463 ?_
  refine z_iadd dLaw_law_2464 ?_
  refine z_sld (by omega) dLaw_law_2465 ?_
  refine z_callV (bc' := bc - 6 - 1) (bs' := bs - 36 - 60) MV_Mod_cuts lk_Law_282 dLaw_law_2466 (k_Mod_cuts H1 (zX9_r (xs := xs) (i + 1)) hO h16) rfl rfl (Nat.le_of_ble_eq_true rfl) rfl H1.2.1 (Nat.le_of_ble_eq_true rfl) (Nat.le_of_ble_eq_true rfl) (by omega) (by omega) (fun _ _ q => q.elim) ?_
  rintro _ h2 ⟨ma2, th2, z6, rfl, m0, H2, F2, A2, e6⟩
  have hs : (k5 = th2 ∧ z5 = z6 ∧ k5 = 0) ∨ (k5 = th2 ∧ (k5 = 1 ∨ k5 = 2 ∨ k5 = 3)) := by
    rcases e5 with ⟨a5, b5⟩ | ⟨a5, b5⟩ | ⟨a5, b5⟩ | ⟨a5, b5⟩
    · rcases e6 with ⟨a6, b6⟩ | ⟨a6, b6⟩ | ⟨a6, b6⟩ | ⟨a6, b6⟩
      · exact Or.inl ⟨b5.trans b6.symm, Sum.inl.inj (a5.symm.trans a6), b5⟩
      · exact absurd (a5.symm.trans a6) (by first | (simp; done) | decide)
      · exact absurd (a5.symm.trans a6) (by first | (simp; done) | decide)
      · exact absurd (a5.symm.trans a6) (by first | (simp; done) | decide)
    · rcases e6 with ⟨a6, b6⟩ | ⟨a6, b6⟩ | ⟨a6, b6⟩ | ⟨a6, b6⟩
      · exact absurd (a5.symm.trans a6) (by first | (simp; done) | decide)
      · exact Or.inr ⟨b5.trans b6.symm, by omega⟩
      · exact absurd (a5.symm.trans a6) (by first | (simp; done) | decide)
      · exact absurd (a5.symm.trans a6) (by first | (simp; done) | decide)
    · rcases e6 with ⟨a6, b6⟩ | ⟨a6, b6⟩ | ⟨a6, b6⟩ | ⟨a6, b6⟩
      · exact absurd (a5.symm.trans a6) (by first | (simp; done) | decide)
      · exact absurd (a5.symm.trans a6) (by first | (simp; done) | decide)
      · exact absurd (xE_cuts (Prod.ext a5 rfl)) (by decide)
      · exact absurd (a5.symm.trans a6) (by first | (simp; done) | decide)
    · rcases e6 with ⟨a6, b6⟩ | ⟨a6, b6⟩ | ⟨a6, b6⟩ | ⟨a6, b6⟩
      · exact absurd (a5.symm.trans a6) (by first | (simp; done) | decide)
      · exact absurd (a5.symm.trans a6) (by first | (simp; done) | decide)
      · exact absurd (a5.symm.trans a6) (by first | (simp; done) | decide)
      · exact Or.inr ⟨b5.trans b6.symm, by omega⟩
  refine z_istore dLaw_law_2469 (Nat.le_of_ble_eq_true rfl) ?_
  refine z_aload_n dLaw_law_2471 rfl ?_
  rw [show ma 0 = ma2 0 from m0.symm]
  refine z_callV (bc' := bc - 6 - 1) (bs' := bs - 36 - 60) MV_Mod_thrown lk_Law_179 dLaw_law_2472 (k_Mod_thrown H2) rfl rfl (Nat.le_of_ble_eq_true rfl) rfl H2.2.1 (Nat.le_of_ble_eq_true rfl) (Nat.le_of_ble_eq_true rfl) (by omega) (by omega) (fun _ _ q => q.elim) ?_
  rintro _ _ ⟨rfl, rfl⟩
  refine z_iload dLaw_law_2475 rfl ?_
  refine z_icmp_eq (tgt := 2482) dLaw_law_2477 (by decide) (by omega) (by omega) (fun c1 => ?_) (fun c1 => ?_)
  · refine z_iload dLaw_law_2482 rfl ?_
    refine z_if_ne (tgt := 2500) dLaw_law_2484 (by decide) (by omega) (fun c2 => ?_) (fun c2 => ?_)
    · refine z_goto (tgt := 3454) dLaw_law_2500 (by decide) ?_
      rw [show ma2 0 = ma 0 from m0]
      exact K _ _ h2 ma2 _ _ _ (zLi.fin C1 eo1 n1 n2 n3 H2 F2 A2 (ok_cuts hO h16) (okb_cuts hO okb)) m0 (by omega) (by omega)
    · refine z_aload_n dLaw_law_2487 rfl ?_
      refine z_getN (k := 0) fd_Out (by decide) fl_Law_13 dLaw_law_2488 (F2 ou _ eo1 n2) rfl ?_
      refine z_iload dLaw_law_2491 rfl ?_
      rw [show Value.int (zI z6) = Value.int (zI (zwd z6)) from zwd_i z6]
      refine z_i2l (zwd_r z6) dLaw_law_2493 ?_
      refine z_lcmpI (zwd_64 z5) (zwd_64 z6) dLaw_law_2494 ?_
      have e56 : z5 = z6 := by omega
      rw [e56, zSg_self]
      refine z_if_eq (tgt := 2500) dLaw_law_2495 (by decide) (by decide) (fun c3 => ?_) (fun c3 => ?_)
      · refine z_goto (tgt := 3454) dLaw_law_2500 (by decide) ?_
        rw [show ma2 0 = ma 0 from m0]
        exact K _ _ h2 ma2 _ _ _ (zLi.fin C1 eo1 n1 n2 n3 H2 F2 A2 (ok_cuts hO h16) (okb_cuts hO okb)) m0 (by omega) (by omega)
      · exact absurd rfl c3
  · exfalso; omega
theorem c_Law_31 {ou : Nat} {i : Int} {y5 y6 : Option Value} (I : zLi G h ad ma ou S) (hi : 0 ≤ i ∧ i + 4 ≤ L) (hb1 : 210 ≤ bc) (hb2 : 12100 ≤ bs) (K : zLK G l b L xs ad ma ou i bc bs) : zR G l (zLJ G b L xs) bc bs h 2503 [some (.ref b), some (.ref (ad 0)), some (.ref (ma 0)), some (.ref ou), some (zi i), y5, y6] [] := by
  obtain ⟨th, n0, sv, hC, hM, hO, okb, eo, n1, n2, n3⟩ := I
  have oka := okb.1
  have h16 : ∀ k, k < 4 → (S.1 k).length ≤ 16 := fun k hk => (hC.ls hk).len
  have x1 := zX9_r (xs := xs) (i + 1)
  have x2 := zX9_r (xs := xs) (i + 2)
  have x3 := zX9_r (xs := xs) (i + 3)
  refine z_aload_n dLaw_law_2503 rfl ?_
  refine z_aload_n dLaw_law_2504 rfl ?_
  refine z_iload dLaw_law_2505 rfl ?_
  refine z_iconst dLaw_law_2507 ?_
  refine z_iadd dLaw_law_2508 ?_
  refine z_sld (by omega) dLaw_law_2509 ?_
  refine z_aload_n dLaw_law_2510 rfl ?_
  refine z_iload dLaw_law_2511 rfl ?_
  refine z_iconst dLaw_law_2513 ?_
  refine z_iadd dLaw_law_2514 ?_
  refine z_sld (by omega) dLaw_law_2515 ?_
  refine z_aload_n dLaw_law_2516 rfl ?_
  refine z_callSX (bc' := bc - 6) (bs' := bs - 36) MW_Law_changes lk_Law_283 dLaw_law_2517 (k_Law_changes hO hC (zX9_r (xs := xs) (i + 1)) (zX9_r (xs := xs) (i + 2)) eo n1) rfl rfl (Nat.le_of_ble_eq_true rfl) (Nat.le_of_ble_eq_true rfl) (Nat.le_of_ble_eq_true rfl) (by omega) (by omega) (fun _ _ q => q.elim) ?_
  rintro _ h1 ⟨k5, z5, sv5, rfl, C1, f1, eo1, e5⟩
  have H1 : zMod G h1 ma S th := hM.mid n2 n3 f1
  refine z_istore dLaw_law_2520 (Nat.le_of_ble_eq_true rfl) ?_
  refine z_aload_n dLaw_law_2522 rfl ?_
  refine z_aload_n dLaw_law_2523 rfl ?_
  refine z_iload dLaw_law_2524 rfl ?_
  refine z_iconst dLaw_law_2526 ?_
  refine z_iadd dLaw_law_2527 ?_
  refine z_sld (by omega) dLaw_law_2528 ?_
  refine z_aload_n dLaw_law_2529 rfl ?_
  refine z_iload dLaw_law_2530 rfl ?_
  refine z_iconst dLaw_law_2532 ?_
  refine z_iadd dLaw_law_2533 ?_
  refine z_sld (by omega) dLaw_law_2534 ?_
  refine z_callV (bc' := bc - 6 - 0) (bs' := bs - 36 - 0) MV_Mod_changes lk_Law_285 dLaw_law_2535 (k_Mod_changes H1 (zX9_r (xs := xs) (i + 1)) (zX9_r (xs := xs) (i + 2)) hO h16) rfl rfl (Nat.le_of_ble_eq_true rfl) rfl H1.2.1 (Nat.le_of_ble_eq_true rfl) (Nat.le_of_ble_eq_true rfl) (by omega) (by omega) (fun _ _ q => q.elim) ?_
  rintro _ h2 ⟨ma2, th2, z6, rfl, m0, H2, F2, A2, e6⟩
  have hs : (k5 = th2 ∧ z5 = z6 ∧ k5 = 0) ∨ (k5 = th2 ∧ (k5 = 1 ∨ k5 = 2 ∨ k5 = 3)) := by
    rcases e5 with ⟨a5, b5⟩ | ⟨a5, b5⟩ | ⟨a5, b5⟩ | ⟨a5, b5⟩
    · rcases e6 with ⟨a6, b6⟩ | ⟨a6, b6⟩ | ⟨a6, b6⟩ | ⟨a6, b6⟩
      · exact Or.inl ⟨b5.trans b6.symm, Sum.inl.inj (a5.symm.trans a6), b5⟩
      · exact absurd (a5.symm.trans a6) (by first | (simp; done) | decide)
      · exact absurd (a5.symm.trans a6) (by first | (simp; done) | decide)
      · exact absurd (a5.symm.trans a6) (by first | (simp; done) | decide)
    · rcases e6 with ⟨a6, b6⟩ | ⟨a6, b6⟩ | ⟨a6, b6⟩ | ⟨a6, b6⟩
      · exact absurd (a5.symm.trans a6) (by first | (simp; done) | decide)
      · exact Or.inr ⟨b5.trans b6.symm, by omega⟩
      · exact absurd (a5.symm.trans a6) (by first | (simp; done) | decide)
      · exact absurd (a5.symm.trans a6) (by first | (simp; done) | decide)
    · rcases e6 with ⟨a6, b6⟩ | ⟨a6, b6⟩ | ⟨a6, b6⟩ | ⟨a6, b6⟩
      · exact absurd (a5.symm.trans a6) (by first | (simp; done) | decide)
      · exact absurd (a5.symm.trans a6) (by first | (simp; done) | decide)
      · exact Or.inr ⟨b5.trans b6.symm, by omega⟩
      · exact absurd (a5.symm.trans a6) (by first | (simp; done) | decide)
    · rcases e6 with ⟨a6, b6⟩ | ⟨a6, b6⟩ | ⟨a6, b6⟩ | ⟨a6, b6⟩
      · exact absurd (a5.symm.trans a6) (by first | (simp; done) | decide)
      · exact absurd (a5.symm.trans a6) (by first | (simp; done) | decide)
      · exact absurd (a5.symm.trans a6) (by first | (simp; done) | decide)
      · exact Or.inr ⟨b5.trans b6.symm, by omega⟩
  refine z_istore dLaw_law_2538 (Nat.le_of_ble_eq_true rfl) ?_
  refine z_aload_n dLaw_law_2540 rfl ?_
  rw [show ma 0 = ma2 0 from m0.symm]
  refine z_callV (bc' := bc - 6 - 0) (bs' := bs - 36 - 0) MV_Mod_thrown lk_Law_179 dLaw_law_2541 (k_Mod_thrown H2) rfl rfl (Nat.le_of_ble_eq_true rfl) rfl H2.2.1 (Nat.le_of_ble_eq_true rfl) (Nat.le_of_ble_eq_true rfl) (by omega) (by omega) (fun _ _ q => q.elim) ?_
  rintro _ _ ⟨rfl, rfl⟩
  refine z_iload dLaw_law_2544 rfl ?_
  refine z_icmp_eq (tgt := 2551) dLaw_law_2546 (by decide) (by omega) (by omega) (fun c1 => ?_) (fun c1 => ?_)
  · refine z_iload dLaw_law_2551 rfl ?_
    refine z_if_ne (tgt := 2569) dLaw_law_2553 (by decide) (by omega) (fun c2 => ?_) (fun c2 => ?_)
    · refine z_goto (tgt := 3454) dLaw_law_2569 (by decide) ?_
      rw [show ma2 0 = ma 0 from m0]
      exact K _ _ h2 ma2 _ _ _ (zLi.fin C1 eo1 n1 n2 n3 H2 F2 A2 (ok_changes hO) (okb_changes hO okb)) m0 (by omega) (by omega)
    · refine z_aload_n dLaw_law_2556 rfl ?_
      refine z_getN (k := 0) fd_Out (by decide) fl_Law_13 dLaw_law_2557 (F2 ou _ eo1 n2) rfl ?_
      refine z_iload dLaw_law_2560 rfl ?_
      rw [show Value.int (zI z6) = Value.int (zI (zwd z6)) from zwd_i z6]
      refine z_i2l (zwd_r z6) dLaw_law_2562 ?_
      refine z_lcmpI (zwd_64 z5) (zwd_64 z6) dLaw_law_2563 ?_
      have e56 : z5 = z6 := by omega
      rw [e56, zSg_self]
      refine z_if_eq (tgt := 2569) dLaw_law_2564 (by decide) (by decide) (fun c3 => ?_) (fun c3 => ?_)
      · refine z_goto (tgt := 3454) dLaw_law_2569 (by decide) ?_
        rw [show ma2 0 = ma 0 from m0]
        exact K _ _ h2 ma2 _ _ _ (zLi.fin C1 eo1 n1 n2 n3 H2 F2 A2 (ok_changes hO) (okb_changes hO okb)) m0 (by omega) (by omega)
      · exact absurd rfl c3
  · exfalso; omega
theorem c_Law_32 {ou : Nat} {i : Int} {y5 y6 : Option Value} (I : zLi G h ad ma ou S) (hi : 0 ≤ i ∧ i + 4 ≤ L) (hb1 : 210 ≤ bc) (hb2 : 12100 ≤ bs) (K : zLK G l b L xs ad ma ou i bc bs) : zR G l (zLJ G b L xs) bc bs h 2572 [some (.ref b), some (.ref (ad 0)), some (.ref (ma 0)), some (.ref ou), some (zi i), y5, y6] [] := by
  obtain ⟨th, n0, sv, hC, hM, hO, okb, eo, n1, n2, n3⟩ := I
  have oka := okb.1
  have h16 : ∀ k, k < 4 → (S.1 k).length ≤ 16 := fun k hk => (hC.ls hk).len
  have x1 := zX9_r (xs := xs) (i + 1)
  have x2 := zX9_r (xs := xs) (i + 2)
  have x3 := zX9_r (xs := xs) (i + 3)
  refine z_aload_n dLaw_law_2572 rfl ?_
  refine z_aload_n dLaw_law_2573 rfl ?_
  refine z_iload dLaw_law_2574 rfl ?_
  refine z_iconst dLaw_law_2576 ?_
  refine z_iadd dLaw_law_2577 ?_
  refine z_sld (by omega) dLaw_law_2578 ?_
  refine z_aload_n dLaw_law_2579 rfl ?_
  refine z_iload dLaw_law_2580 rfl ?_
  refine z_iconst dLaw_law_2582 ?_
  refine z_iadd dLaw_law_2583 ?_
  refine z_sld (by omega) dLaw_law_2584 ?_
  refine z_aload_n dLaw_law_2585 rfl ?_
  refine z_callSX (bc' := bc - 6) (bs' := bs - 36) MW_Law_meet lk_Law_286 dLaw_law_2586 (k_Law_meet hO hC (zX9_r (xs := xs) (i + 1)) (zX9_r (xs := xs) (i + 2)) eo n1) rfl rfl (Nat.le_of_ble_eq_true rfl) (Nat.le_of_ble_eq_true rfl) (Nat.le_of_ble_eq_true rfl) (by omega) (by omega) (fun _ _ q => q.elim) ?_
  rintro _ h1 ⟨k5, z5, sv5, rfl, C1, f1, eo1, e5⟩
  have H1 : zMod G h1 ma S th := hM.mid n2 n3 f1
  refine z_istore dLaw_law_2589 (Nat.le_of_ble_eq_true rfl) ?_
  refine z_aload_n dLaw_law_2591 rfl ?_
  refine z_aload_n dLaw_law_2592 rfl ?_
  refine z_iload dLaw_law_2593 rfl ?_
  refine z_iconst dLaw_law_2595 ?_
  refine z_iadd dLaw_law_2596 ?_
  refine z_sld (by omega) dLaw_law_2597 ?_
  refine z_aload_n dLaw_law_2598 rfl ?_
  refine z_iload dLaw_law_2599 rfl ?_
  refine z_iconst dLaw_law_2601 ?_
  refine z_iadd dLaw_law_2602 ?_
  refine z_sld (by omega) dLaw_law_2603 ?_
  refine z_callV (bc' := bc - 6 - 0) (bs' := bs - 36 - 0) MV_Mod_meet lk_Law_288 dLaw_law_2604 (k_Mod_meet H1 (zX9_r (xs := xs) (i + 1)) (zX9_r (xs := xs) (i + 2)) hO h16) rfl rfl (Nat.le_of_ble_eq_true rfl) rfl H1.2.1 (Nat.le_of_ble_eq_true rfl) (Nat.le_of_ble_eq_true rfl) (by omega) (by omega) (fun _ _ q => q.elim) ?_
  rintro _ h2 ⟨ma2, th2, z6, rfl, m0, H2, F2, A2, e6⟩
  have hs : (k5 = th2 ∧ z5 = z6 ∧ k5 = 0) ∨ (k5 = th2 ∧ (k5 = 1 ∨ k5 = 2 ∨ k5 = 3)) := by
    rcases e5 with ⟨a5, b5⟩ | ⟨a5, b5⟩ | ⟨a5, b5⟩ | ⟨a5, b5⟩
    · rcases e6 with ⟨a6, b6⟩ | ⟨a6, b6⟩ | ⟨a6, b6⟩ | ⟨a6, b6⟩
      · exact Or.inl ⟨b5.trans b6.symm, Sum.inl.inj (a5.symm.trans a6), b5⟩
      · exact absurd (a5.symm.trans a6) (by first | (simp; done) | decide)
      · exact absurd (a5.symm.trans a6) (by first | (simp; done) | decide)
      · exact absurd (a5.symm.trans a6) (by first | (simp; done) | decide)
    · rcases e6 with ⟨a6, b6⟩ | ⟨a6, b6⟩ | ⟨a6, b6⟩ | ⟨a6, b6⟩
      · exact absurd (a5.symm.trans a6) (by first | (simp; done) | decide)
      · exact Or.inr ⟨b5.trans b6.symm, by omega⟩
      · exact absurd (a5.symm.trans a6) (by first | (simp; done) | decide)
      · exact absurd (a5.symm.trans a6) (by first | (simp; done) | decide)
    · rcases e6 with ⟨a6, b6⟩ | ⟨a6, b6⟩ | ⟨a6, b6⟩ | ⟨a6, b6⟩
      · exact absurd (a5.symm.trans a6) (by first | (simp; done) | decide)
      · exact absurd (a5.symm.trans a6) (by first | (simp; done) | decide)
      · exact Or.inr ⟨b5.trans b6.symm, by omega⟩
      · exact absurd (a5.symm.trans a6) (by first | (simp; done) | decide)
    · rcases e6 with ⟨a6, b6⟩ | ⟨a6, b6⟩ | ⟨a6, b6⟩ | ⟨a6, b6⟩
      · exact absurd (a5.symm.trans a6) (by first | (simp; done) | decide)
      · exact absurd (a5.symm.trans a6) (by first | (simp; done) | decide)
      · exact absurd (a5.symm.trans a6) (by first | (simp; done) | decide)
      · exact Or.inr ⟨b5.trans b6.symm, by omega⟩
  refine z_istore dLaw_law_2607 (Nat.le_of_ble_eq_true rfl) ?_
  refine z_aload_n dLaw_law_2609 rfl ?_
  rw [show ma 0 = ma2 0 from m0.symm]
  refine z_callV (bc' := bc - 6 - 0) (bs' := bs - 36 - 0) MV_Mod_thrown lk_Law_179 dLaw_law_2610 (k_Mod_thrown H2) rfl rfl (Nat.le_of_ble_eq_true rfl) rfl H2.2.1 (Nat.le_of_ble_eq_true rfl) (Nat.le_of_ble_eq_true rfl) (by omega) (by omega) (fun _ _ q => q.elim) ?_
  rintro _ _ ⟨rfl, rfl⟩
  refine z_iload dLaw_law_2613 rfl ?_
  refine z_icmp_eq (tgt := 2620) dLaw_law_2615 (by decide) (by omega) (by omega) (fun c1 => ?_) (fun c1 => ?_)
  · refine z_iload dLaw_law_2620 rfl ?_
    refine z_if_ne (tgt := 2638) dLaw_law_2622 (by decide) (by omega) (fun c2 => ?_) (fun c2 => ?_)
    · refine z_goto (tgt := 3454) dLaw_law_2638 (by decide) ?_
      rw [show ma2 0 = ma 0 from m0]
      exact K _ _ h2 ma2 _ _ _ (zLi.fin C1 eo1 n1 n2 n3 H2 F2 A2 (ok_meet hO h16) (okb_meet hO okb)) m0 (by omega) (by omega)
    · refine z_aload_n dLaw_law_2625 rfl ?_
      refine z_getN (k := 0) fd_Out (by decide) fl_Law_13 dLaw_law_2626 (F2 ou _ eo1 n2) rfl ?_
      refine z_iload dLaw_law_2629 rfl ?_
      rw [show Value.int (zI z6) = Value.int (zI (zwd z6)) from zwd_i z6]
      refine z_i2l (zwd_r z6) dLaw_law_2631 ?_
      refine z_lcmpI (zwd_64 z5) (zwd_64 z6) dLaw_law_2632 ?_
      have e56 : z5 = z6 := by omega
      rw [e56, zSg_self]
      refine z_if_eq (tgt := 2638) dLaw_law_2633 (by decide) (by decide) (fun c3 => ?_) (fun c3 => ?_)
      · refine z_goto (tgt := 3454) dLaw_law_2638 (by decide) ?_
        rw [show ma2 0 = ma 0 from m0]
        exact K _ _ h2 ma2 _ _ _ (zLi.fin C1 eo1 n1 n2 n3 H2 F2 A2 (ok_meet hO h16) (okb_meet hO okb)) m0 (by omega) (by omega)
      · exact absurd rfl c3
  · exfalso; omega
theorem c_Law_33 {ou : Nat} {i : Int} {y5 y6 : Option Value} (I : zLi G h ad ma ou S) (hi : 0 ≤ i ∧ i + 4 ≤ L) (hb1 : 210 ≤ bc) (hb2 : 12100 ≤ bs) (K : zLK G l b L xs ad ma ou i bc bs) : zR G l (zLJ G b L xs) bc bs h 2641 [some (.ref b), some (.ref (ad 0)), some (.ref (ma 0)), some (.ref ou), some (zi i), y5, y6] [] := by
  obtain ⟨th, n0, sv, hC, hM, hO, okb, eo, n1, n2, n3⟩ := I
  have oka := okb.1
  have h16 : ∀ k, k < 4 → (S.1 k).length ≤ 16 := fun k hk => (hC.ls hk).len
  have x1 := zX9_r (xs := xs) (i + 1)
  have x2 := zX9_r (xs := xs) (i + 2)
  have x3 := zX9_r (xs := xs) (i + 3)
  refine z_aload_n dLaw_law_2641 rfl ?_
  refine z_aload_n dLaw_law_2642 rfl ?_
  refine z_iload dLaw_law_2643 rfl ?_
  refine z_iconst dLaw_law_2645 ?_
  refine z_iadd dLaw_law_2646 ?_
  refine z_sld (by omega) dLaw_law_2647 ?_
  refine z_aload_n dLaw_law_2648 rfl ?_
  refine z_iload dLaw_law_2649 rfl ?_
  refine z_iconst dLaw_law_2651 ?_
  refine z_iadd dLaw_law_2652 ?_
  refine z_sld (by omega) dLaw_law_2653 ?_
  refine z_aload_n dLaw_law_2654 rfl ?_
  refine z_callSX (bc' := bc - 6) (bs' := bs - 36) MW_Law_ofCursor lk_Law_289 dLaw_law_2655 (k_Law_ofCursor hO hC (zX9_r (xs := xs) (i + 1)) (zX9_r (xs := xs) (i + 2)) eo n1) rfl rfl (Nat.le_of_ble_eq_true rfl) (Nat.le_of_ble_eq_true rfl) (Nat.le_of_ble_eq_true rfl) (by omega) (by omega) (fun _ _ q => q.elim) ?_
  rintro _ h1 ⟨k5, z5, sv5, rfl, C1, f1, eo1, e5⟩
  have H1 : zMod G h1 ma S th := hM.mid n2 n3 f1
  refine z_istore dLaw_law_2658 (Nat.le_of_ble_eq_true rfl) ?_
  refine z_aload_n dLaw_law_2660 rfl ?_
  refine z_aload_n dLaw_law_2661 rfl ?_
  refine z_iload dLaw_law_2662 rfl ?_
  refine z_iconst dLaw_law_2664 ?_
  refine z_iadd dLaw_law_2665 ?_
  refine z_sld (by omega) dLaw_law_2666 ?_
  refine z_aload_n dLaw_law_2667 rfl ?_
  refine z_iload dLaw_law_2668 rfl ?_
  refine z_iconst dLaw_law_2670 ?_
  refine z_iadd dLaw_law_2671 ?_
  refine z_sld (by omega) dLaw_law_2672 ?_
  refine z_callV (bc' := bc - 6 - 1) (bs' := bs - 36 - 6) MV_Mod_ofCursor lk_Law_291 dLaw_law_2673 (k_Mod_ofCursor H1 (zX9_r (xs := xs) (i + 1)) (zX9_r (xs := xs) (i + 2)) hO h16) rfl rfl (Nat.le_of_ble_eq_true rfl) rfl H1.2.1 (Nat.le_of_ble_eq_true rfl) (Nat.le_of_ble_eq_true rfl) (by omega) (by omega) (fun _ _ q => q.elim) ?_
  rintro _ h2 ⟨ma2, th2, z6, rfl, m0, H2, F2, A2, e6⟩
  have hs : (k5 = th2 ∧ z5 = z6 ∧ k5 = 0) ∨ (k5 = th2 ∧ (k5 = 1 ∨ k5 = 2 ∨ k5 = 3)) := by
    rcases e5 with ⟨a5, b5⟩ | ⟨a5, b5⟩ | ⟨a5, b5⟩ | ⟨a5, b5⟩
    · rcases e6 with ⟨a6, b6⟩ | ⟨a6, b6⟩ | ⟨a6, b6⟩ | ⟨a6, b6⟩
      · exact Or.inl ⟨b5.trans b6.symm, Sum.inl.inj (a5.symm.trans a6), b5⟩
      · exact absurd (a5.symm.trans a6) (by first | (simp; done) | decide)
      · exact absurd (a5.symm.trans a6) (by first | (simp; done) | decide)
      · exact absurd (a5.symm.trans a6) (by first | (simp; done) | decide)
    · rcases e6 with ⟨a6, b6⟩ | ⟨a6, b6⟩ | ⟨a6, b6⟩ | ⟨a6, b6⟩
      · exact absurd (a5.symm.trans a6) (by first | (simp; done) | decide)
      · exact Or.inr ⟨b5.trans b6.symm, by omega⟩
      · exact absurd (a5.symm.trans a6) (by first | (simp; done) | decide)
      · exact absurd (a5.symm.trans a6) (by first | (simp; done) | decide)
    · rcases e6 with ⟨a6, b6⟩ | ⟨a6, b6⟩ | ⟨a6, b6⟩ | ⟨a6, b6⟩
      · exact absurd (a5.symm.trans a6) (by first | (simp; done) | decide)
      · exact absurd (a5.symm.trans a6) (by first | (simp; done) | decide)
      · exact Or.inr ⟨b5.trans b6.symm, by omega⟩
      · exact absurd (a5.symm.trans a6) (by first | (simp; done) | decide)
    · rcases e6 with ⟨a6, b6⟩ | ⟨a6, b6⟩ | ⟨a6, b6⟩ | ⟨a6, b6⟩
      · exact absurd (a5.symm.trans a6) (by first | (simp; done) | decide)
      · exact absurd (a5.symm.trans a6) (by first | (simp; done) | decide)
      · exact absurd (a5.symm.trans a6) (by first | (simp; done) | decide)
      · exact absurd (xE_ofCursor (Prod.ext a5 rfl)) (by decide)
  refine z_istore dLaw_law_2676 (Nat.le_of_ble_eq_true rfl) ?_
  refine z_aload_n dLaw_law_2678 rfl ?_
  rw [show ma 0 = ma2 0 from m0.symm]
  refine z_callV (bc' := bc - 6 - 1) (bs' := bs - 36 - 6) MV_Mod_thrown lk_Law_179 dLaw_law_2679 (k_Mod_thrown H2) rfl rfl (Nat.le_of_ble_eq_true rfl) rfl H2.2.1 (Nat.le_of_ble_eq_true rfl) (Nat.le_of_ble_eq_true rfl) (by omega) (by omega) (fun _ _ q => q.elim) ?_
  rintro _ _ ⟨rfl, rfl⟩
  refine z_iload dLaw_law_2682 rfl ?_
  refine z_icmp_eq (tgt := 2689) dLaw_law_2684 (by decide) (by omega) (by omega) (fun c1 => ?_) (fun c1 => ?_)
  · refine z_iload dLaw_law_2689 rfl ?_
    refine z_if_ne (tgt := 2707) dLaw_law_2691 (by decide) (by omega) (fun c2 => ?_) (fun c2 => ?_)
    · refine z_goto (tgt := 3454) dLaw_law_2707 (by decide) ?_
      rw [show ma2 0 = ma 0 from m0]
      exact K _ _ h2 ma2 _ _ _ (zLi.fin C1 eo1 n1 n2 n3 H2 F2 A2 (ok_ofCursor hO) (okb_ofCursor hO okb)) m0 (by omega) (by omega)
    · refine z_aload_n dLaw_law_2694 rfl ?_
      refine z_getN (k := 0) fd_Out (by decide) fl_Law_13 dLaw_law_2695 (F2 ou _ eo1 n2) rfl ?_
      refine z_iload dLaw_law_2698 rfl ?_
      rw [show Value.int (zI z6) = Value.int (zI (zwd z6)) from zwd_i z6]
      refine z_i2l (zwd_r z6) dLaw_law_2700 ?_
      refine z_lcmpI (zwd_64 z5) (zwd_64 z6) dLaw_law_2701 ?_
      have e56 : z5 = z6 := by omega
      rw [e56, zSg_self]
      refine z_if_eq (tgt := 2707) dLaw_law_2702 (by decide) (by decide) (fun c3 => ?_) (fun c3 => ?_)
      · refine z_goto (tgt := 3454) dLaw_law_2707 (by decide) ?_
        rw [show ma2 0 = ma 0 from m0]
        exact K _ _ h2 ma2 _ _ _ (zLi.fin C1 eo1 n1 n2 n3 H2 F2 A2 (ok_ofCursor hO) (okb_ofCursor hO okb)) m0 (by omega) (by omega)
      · exact absurd rfl c3
  · exfalso; omega
theorem c_Law_34 {ou : Nat} {i : Int} {y5 y6 : Option Value} (I : zLi G h ad ma ou S) (hi : 0 ≤ i ∧ i + 4 ≤ L) (hb1 : 210 ≤ bc) (hb2 : 12100 ≤ bs) (K : zLK G l b L xs ad ma ou i bc bs) : zR G l (zLJ G b L xs) bc bs h 2710 [some (.ref b), some (.ref (ad 0)), some (.ref (ma 0)), some (.ref ou), some (zi i), y5, y6] [] := by
  obtain ⟨th, n0, sv, hC, hM, hO, okb, eo, n1, n2, n3⟩ := I
  have oka := okb.1
  have h16 : ∀ k, k < 4 → (S.1 k).length ≤ 16 := fun k hk => (hC.ls hk).len
  have x1 := zX9_r (xs := xs) (i + 1)
  have x2 := zX9_r (xs := xs) (i + 2)
  have x3 := zX9_r (xs := xs) (i + 3)
  refine z_aload_n dLaw_law_2710 rfl ?_
  refine z_aload_n dLaw_law_2711 rfl ?_
  refine z_iload dLaw_law_2712 rfl ?_
  refine z_iconst dLaw_law_2714 ?_
  refine z_iadd dLaw_law_2715 ?_
  refine z_sld (by omega) dLaw_law_2716 ?_
  refine z_aload_n dLaw_law_2717 rfl ?_
  refine z_iload dLaw_law_2718 rfl ?_
  refine z_iconst dLaw_law_2720 ?_
  refine z_iadd dLaw_law_2721 ?_
  refine z_sld (by omega) dLaw_law_2722 ?_
  refine z_aload_n dLaw_law_2723 rfl ?_
  refine z_callSX (bc' := bc - 6) (bs' := bs - 36) MW_Law_plus lk_Law_292 dLaw_law_2724 (k_Law_plus hC (zX9_r (xs := xs) (i + 1)) (zX9_r (xs := xs) (i + 2)) eo n1) rfl rfl (Nat.le_of_ble_eq_true rfl) (Nat.le_of_ble_eq_true rfl) (Nat.le_of_ble_eq_true rfl) (by omega) (by omega) (fun _ _ q => q.elim) ?_
  rintro _ h1 ⟨k5, z5, sv5, rfl, C1, f1, eo1, e5⟩
  have H1 : zMod G h1 ma S th := hM.mid n2 n3 f1
  refine z_istore dLaw_law_2727 (Nat.le_of_ble_eq_true rfl) ?_
  refine z_aload_n dLaw_law_2729 rfl ?_
  refine z_aload_n dLaw_law_2730 rfl ?_
  refine z_iload dLaw_law_2731 rfl ?_
  refine z_iconst dLaw_law_2733 ?_
  refine z_iadd dLaw_law_2734 ?_
  refine z_sld (by omega) dLaw_law_2735 ?_
  refine z_aload_n dLaw_law_2736 rfl ?_
  refine z_iload dLaw_law_2737 rfl ?_
  refine z_iconst dLaw_law_2739 ?_
  refine z_iadd dLaw_law_2740 ?_
  refine z_sld (by omega) dLaw_law_2741 ?_
  refine z_callV (bc' := bc - 6 - 2) (bs' := bs - 36 - 47) MV_Mod_plus lk_Law_294 dLaw_law_2742 (k_Mod_plus H1 (zX9_r (xs := xs) (i + 1)) (zX9_r (xs := xs) (i + 2)) h16) rfl rfl (Nat.le_of_ble_eq_true rfl) rfl H1.2.1 (Nat.le_of_ble_eq_true rfl) (Nat.le_of_ble_eq_true rfl) (by omega) (by omega) (fun _ _ q => q.elim) ?_
  rintro _ h2 ⟨ma2, th2, z6, rfl, m0, H2, F2, A2, e6⟩
  have hs : (k5 = th2 ∧ z5 = z6 ∧ k5 = 0) ∨ (k5 = th2 ∧ (k5 = 1 ∨ k5 = 2 ∨ k5 = 3)) := by
    rcases e5 with ⟨a5, b5⟩ | ⟨a5, b5⟩ | ⟨a5, b5⟩ | ⟨a5, b5⟩
    · rcases e6 with ⟨a6, b6⟩ | ⟨a6, b6⟩ | ⟨a6, b6⟩ | ⟨a6, b6⟩
      · exact Or.inl ⟨b5.trans b6.symm, Sum.inl.inj (a5.symm.trans a6), b5⟩
      · exact absurd (a5.symm.trans a6) (by first | (simp; done) | decide)
      · exact absurd (a5.symm.trans a6) (by first | (simp; done) | decide)
      · exact absurd (a5.symm.trans a6) (by first | (simp; done) | decide)
    · rcases e6 with ⟨a6, b6⟩ | ⟨a6, b6⟩ | ⟨a6, b6⟩ | ⟨a6, b6⟩
      · exact absurd (a5.symm.trans a6) (by first | (simp; done) | decide)
      · exact Or.inr ⟨b5.trans b6.symm, by omega⟩
      · exact absurd (a5.symm.trans a6) (by first | (simp; done) | decide)
      · exact absurd (a5.symm.trans a6) (by first | (simp; done) | decide)
    · rcases e6 with ⟨a6, b6⟩ | ⟨a6, b6⟩ | ⟨a6, b6⟩ | ⟨a6, b6⟩
      · exact absurd (a5.symm.trans a6) (by first | (simp; done) | decide)
      · exact absurd (a5.symm.trans a6) (by first | (simp; done) | decide)
      · exact absurd (xE_plus (Prod.ext a5 rfl)) (by decide)
      · exact absurd (a5.symm.trans a6) (by first | (simp; done) | decide)
    · rcases e6 with ⟨a6, b6⟩ | ⟨a6, b6⟩ | ⟨a6, b6⟩ | ⟨a6, b6⟩
      · exact absurd (a5.symm.trans a6) (by first | (simp; done) | decide)
      · exact absurd (a5.symm.trans a6) (by first | (simp; done) | decide)
      · exact absurd (a5.symm.trans a6) (by first | (simp; done) | decide)
      · exact absurd (xE_plus (Prod.ext a5 rfl)) (by decide)
  refine z_istore dLaw_law_2745 (Nat.le_of_ble_eq_true rfl) ?_
  refine z_aload_n dLaw_law_2747 rfl ?_
  rw [show ma 0 = ma2 0 from m0.symm]
  refine z_callV (bc' := bc - 6 - 2) (bs' := bs - 36 - 47) MV_Mod_thrown lk_Law_179 dLaw_law_2748 (k_Mod_thrown H2) rfl rfl (Nat.le_of_ble_eq_true rfl) rfl H2.2.1 (Nat.le_of_ble_eq_true rfl) (Nat.le_of_ble_eq_true rfl) (by omega) (by omega) (fun _ _ q => q.elim) ?_
  rintro _ _ ⟨rfl, rfl⟩
  refine z_iload dLaw_law_2751 rfl ?_
  refine z_icmp_eq (tgt := 2758) dLaw_law_2753 (by decide) (by omega) (by omega) (fun c1 => ?_) (fun c1 => ?_)
  · refine z_iload dLaw_law_2758 rfl ?_
    refine z_if_ne (tgt := 2776) dLaw_law_2760 (by decide) (by omega) (fun c2 => ?_) (fun c2 => ?_)
    · refine z_goto (tgt := 3454) dLaw_law_2776 (by decide) ?_
      rw [show ma2 0 = ma 0 from m0]
      exact K _ _ h2 ma2 _ _ _ (zLi.fin C1 eo1 n1 n2 n3 H2 F2 A2 (ok_plus hO) (okb_plus hO okb)) m0 (by omega) (by omega)
    · refine z_aload_n dLaw_law_2763 rfl ?_
      refine z_getN (k := 0) fd_Out (by decide) fl_Law_13 dLaw_law_2764 (F2 ou _ eo1 n2) rfl ?_
      refine z_iload dLaw_law_2767 rfl ?_
      rw [show Value.int (zI z6) = Value.int (zI (zwd z6)) from zwd_i z6]
      refine z_i2l (zwd_r z6) dLaw_law_2769 ?_
      refine z_lcmpI (zwd_64 z5) (zwd_64 z6) dLaw_law_2770 ?_
      have e56 : z5 = z6 := by omega
      rw [e56, zSg_self]
      refine z_if_eq (tgt := 2776) dLaw_law_2771 (by decide) (by decide) (fun c3 => ?_) (fun c3 => ?_)
      · refine z_goto (tgt := 3454) dLaw_law_2776 (by decide) ?_
        rw [show ma2 0 = ma 0 from m0]
        exact K _ _ h2 ma2 _ _ _ (zLi.fin C1 eo1 n1 n2 n3 H2 F2 A2 (ok_plus hO) (okb_plus hO okb)) m0 (by omega) (by omega)
      · exact absurd rfl c3
  · exfalso; omega
theorem c_Law_35 {ou : Nat} {i : Int} {y5 y6 : Option Value} (I : zLi G h ad ma ou S) (hi : 0 ≤ i ∧ i + 4 ≤ L) (hb1 : 210 ≤ bc) (hb2 : 12100 ≤ bs) (K : zLK G l b L xs ad ma ou i bc bs) : zR G l (zLJ G b L xs) bc bs h 2779 [some (.ref b), some (.ref (ad 0)), some (.ref (ma 0)), some (.ref ou), some (zi i), y5, y6] [] := by
  obtain ⟨th, n0, sv, hC, hM, hO, okb, eo, n1, n2, n3⟩ := I
  have oka := okb.1
  have h16 : ∀ k, k < 4 → (S.1 k).length ≤ 16 := fun k hk => (hC.ls hk).len
  have x1 := zX9_r (xs := xs) (i + 1)
  have x2 := zX9_r (xs := xs) (i + 2)
  have x3 := zX9_r (xs := xs) (i + 3)
  refine z_aload_n dLaw_law_2779 rfl ?_
  refine z_aload_n dLaw_law_2780 rfl ?_
  refine z_iload dLaw_law_2781 rfl ?_
  refine z_iconst dLaw_law_2783 ?_
  refine z_iadd dLaw_law_2784 ?_
  refine z_sld (by omega) dLaw_law_2785 ?_
  refine z_aload_n dLaw_law_2786 rfl ?_
  refine z_iload dLaw_law_2787 rfl ?_
  refine z_iconst dLaw_law_2789 ?_
  refine z_iadd dLaw_law_2790 ?_
  refine z_sld (by omega) dLaw_law_2791 ?_
  refine z_aload_n dLaw_law_2792 rfl ?_
  refine z_callSX (bc' := bc - 6) (bs' := bs - 36) MW_Law_times lk_Law_295 dLaw_law_2793 (k_Law_times hC (zX9_r (xs := xs) (i + 1)) (zX9_r (xs := xs) (i + 2)) eo n1) rfl rfl (Nat.le_of_ble_eq_true rfl) (Nat.le_of_ble_eq_true rfl) (Nat.le_of_ble_eq_true rfl) (by omega) (by omega) (fun _ _ q => q.elim) ?_
  rintro _ h1 ⟨k5, z5, sv5, rfl, C1, f1, eo1, e5⟩
  have H1 : zMod G h1 ma S th := hM.mid n2 n3 f1
  refine z_istore dLaw_law_2796 (Nat.le_of_ble_eq_true rfl) ?_
  refine z_aload_n dLaw_law_2798 rfl ?_
  refine z_aload_n dLaw_law_2799 rfl ?_
  refine z_iload dLaw_law_2800 rfl ?_
  refine z_iconst dLaw_law_2802 ?_
  refine z_iadd dLaw_law_2803 ?_
  refine z_sld (by omega) dLaw_law_2804 ?_
  refine z_aload_n dLaw_law_2805 rfl ?_
  refine z_iload dLaw_law_2806 rfl ?_
  refine z_iconst dLaw_law_2808 ?_
  refine z_iadd dLaw_law_2809 ?_
  refine z_sld (by omega) dLaw_law_2810 ?_
  refine z_callV (bc' := bc - 6 - 2) (bs' := bs - 36 - 47) MV_Mod_times lk_Law_297 dLaw_law_2811 (k_Mod_times H1 (zX9_r (xs := xs) (i + 1)) (zX9_r (xs := xs) (i + 2)) h16) rfl rfl (Nat.le_of_ble_eq_true rfl) rfl H1.2.1 (Nat.le_of_ble_eq_true rfl) (Nat.le_of_ble_eq_true rfl) (by omega) (by omega) (fun _ _ q => q.elim) ?_
  rintro _ h2 ⟨ma2, th2, z6, rfl, m0, H2, F2, A2, e6⟩
  have hs : (k5 = th2 ∧ z5 = z6 ∧ k5 = 0) ∨ (k5 = th2 ∧ (k5 = 1 ∨ k5 = 2 ∨ k5 = 3)) := by
    rcases e5 with ⟨a5, b5⟩ | ⟨a5, b5⟩ | ⟨a5, b5⟩ | ⟨a5, b5⟩
    · rcases e6 with ⟨a6, b6⟩ | ⟨a6, b6⟩ | ⟨a6, b6⟩ | ⟨a6, b6⟩
      · exact Or.inl ⟨b5.trans b6.symm, Sum.inl.inj (a5.symm.trans a6), b5⟩
      · exact absurd (a5.symm.trans a6) (by first | (simp; done) | decide)
      · exact absurd (a5.symm.trans a6) (by first | (simp; done) | decide)
      · exact absurd (a5.symm.trans a6) (by first | (simp; done) | decide)
    · rcases e6 with ⟨a6, b6⟩ | ⟨a6, b6⟩ | ⟨a6, b6⟩ | ⟨a6, b6⟩
      · exact absurd (a5.symm.trans a6) (by first | (simp; done) | decide)
      · exact Or.inr ⟨b5.trans b6.symm, by omega⟩
      · exact absurd (a5.symm.trans a6) (by first | (simp; done) | decide)
      · exact absurd (a5.symm.trans a6) (by first | (simp; done) | decide)
    · rcases e6 with ⟨a6, b6⟩ | ⟨a6, b6⟩ | ⟨a6, b6⟩ | ⟨a6, b6⟩
      · exact absurd (a5.symm.trans a6) (by first | (simp; done) | decide)
      · exact absurd (a5.symm.trans a6) (by first | (simp; done) | decide)
      · exact absurd (xE_times (Prod.ext a5 rfl)) (by decide)
      · exact absurd (a5.symm.trans a6) (by first | (simp; done) | decide)
    · rcases e6 with ⟨a6, b6⟩ | ⟨a6, b6⟩ | ⟨a6, b6⟩ | ⟨a6, b6⟩
      · exact absurd (a5.symm.trans a6) (by first | (simp; done) | decide)
      · exact absurd (a5.symm.trans a6) (by first | (simp; done) | decide)
      · exact absurd (a5.symm.trans a6) (by first | (simp; done) | decide)
      · exact absurd (xE_times (Prod.ext a5 rfl)) (by decide)
  refine z_istore dLaw_law_2814 (Nat.le_of_ble_eq_true rfl) ?_
  refine z_aload_n dLaw_law_2816 rfl ?_
  rw [show ma 0 = ma2 0 from m0.symm]
  refine z_callV (bc' := bc - 6 - 2) (bs' := bs - 36 - 47) MV_Mod_thrown lk_Law_179 dLaw_law_2817 (k_Mod_thrown H2) rfl rfl (Nat.le_of_ble_eq_true rfl) rfl H2.2.1 (Nat.le_of_ble_eq_true rfl) (Nat.le_of_ble_eq_true rfl) (by omega) (by omega) (fun _ _ q => q.elim) ?_
  rintro _ _ ⟨rfl, rfl⟩
  refine z_iload dLaw_law_2820 rfl ?_
  refine z_icmp_eq (tgt := 2827) dLaw_law_2822 (by decide) (by omega) (by omega) (fun c1 => ?_) (fun c1 => ?_)
  · refine z_iload dLaw_law_2827 rfl ?_
    refine z_if_ne (tgt := 2845) dLaw_law_2829 (by decide) (by omega) (fun c2 => ?_) (fun c2 => ?_)
    · refine z_goto (tgt := 3454) dLaw_law_2845 (by decide) ?_
      rw [show ma2 0 = ma 0 from m0]
      exact K _ _ h2 ma2 _ _ _ (zLi.fin C1 eo1 n1 n2 n3 H2 F2 A2 (ok_times hO) (okb_times hO okb)) m0 (by omega) (by omega)
    · refine z_aload_n dLaw_law_2832 rfl ?_
      refine z_getN (k := 0) fd_Out (by decide) fl_Law_13 dLaw_law_2833 (F2 ou _ eo1 n2) rfl ?_
      refine z_iload dLaw_law_2836 rfl ?_
      rw [show Value.int (zI z6) = Value.int (zI (zwd z6)) from zwd_i z6]
      refine z_i2l (zwd_r z6) dLaw_law_2838 ?_
      refine z_lcmpI (zwd_64 z5) (zwd_64 z6) dLaw_law_2839 ?_
      have e56 : z5 = z6 := by omega
      rw [e56, zSg_self]
      refine z_if_eq (tgt := 2845) dLaw_law_2840 (by decide) (by decide) (fun c3 => ?_) (fun c3 => ?_)
      · refine z_goto (tgt := 3454) dLaw_law_2845 (by decide) ?_
        rw [show ma2 0 = ma 0 from m0]
        exact K _ _ h2 ma2 _ _ _ (zLi.fin C1 eo1 n1 n2 n3 H2 F2 A2 (ok_times hO) (okb_times hO okb)) m0 (by omega) (by omega)
      · exact absurd rfl c3
  · exfalso; omega
theorem c_Law_36 {ou : Nat} {i : Int} {y5 y6 : Option Value} (I : zLi G h ad ma ou S) (hi : 0 ≤ i ∧ i + 4 ≤ L) (hb1 : 210 ≤ bc) (hb2 : 12100 ≤ bs) (K : zLK G l b L xs ad ma ou i bc bs) : zR G l (zLJ G b L xs) bc bs h 2848 [some (.ref b), some (.ref (ad 0)), some (.ref (ma 0)), some (.ref ou), some (zi i), y5, y6] [] := by
  obtain ⟨th, n0, sv, hC, hM, hO, okb, eo, n1, n2, n3⟩ := I
  have oka := okb.1
  have h16 : ∀ k, k < 4 → (S.1 k).length ≤ 16 := fun k hk => (hC.ls hk).len
  have x1 := zX9_r (xs := xs) (i + 1)
  have x2 := zX9_r (xs := xs) (i + 2)
  have x3 := zX9_r (xs := xs) (i + 3)
  refine z_aload_n dLaw_law_2848 rfl ?_
  refine z_aload_n dLaw_law_2849 rfl ?_
  refine z_iload dLaw_law_2850 rfl ?_
  refine z_iconst dLaw_law_2852 ?_
  refine z_iadd dLaw_law_2853 ?_
  refine z_sld (by omega) dLaw_law_2854 ?_
  refine z_aload_n dLaw_law_2855 rfl ?_
  refine z_callSX (bc' := bc - 6) (bs' := bs - 36) MW_Law_shift lk_Law_298 dLaw_law_2856 (k_Law_shift hC (zX9_r (xs := xs) (i + 1)) eo n1) rfl rfl (Nat.le_of_ble_eq_true rfl) (Nat.le_of_ble_eq_true rfl) (Nat.le_of_ble_eq_true rfl) (by omega) (by omega) (fun _ _ q => q.elim) ?_
  rintro _ h1 ⟨k5, z5, sv5, rfl, C1, f1, eo1, e5⟩
  have H1 : zMod G h1 ma S th := hM.mid n2 n3 f1
  refine z_istore dLaw_law_2859 (Nat.le_of_ble_eq_true rfl) ?_
  refine z_aload_n dLaw_law_2861 rfl ?_
  refine z_aload_n dLaw_law_2862 rfl ?_
  refine z_iload dLaw_law_2863 rfl ?_
  refine z_iconst dLaw_law_2865 ?_
  refine z_iadd dLaw_law_2866 ?_
  refine z_sld (by omega) dLaw_law_2867 ?_
  refine z_callV (bc' := bc - 6 - 1) (bs' := bs - 36 - 61) MV_Mod_shift lk_Law_300 dLaw_law_2868 (k_Mod_shift H1 (zX9_r (xs := xs) (i + 1)) h16) rfl rfl (Nat.le_of_ble_eq_true rfl) rfl H1.2.1 (Nat.le_of_ble_eq_true rfl) (Nat.le_of_ble_eq_true rfl) (by omega) (by omega) (fun _ _ q => q.elim) ?_
  rintro _ h2 ⟨ma2, th2, z6, rfl, m0, H2, F2, A2, e6⟩
  have hs : (k5 = th2 ∧ z5 = z6 ∧ k5 = 0) ∨ (k5 = th2 ∧ (k5 = 1 ∨ k5 = 2 ∨ k5 = 3)) := by
    rcases e5 with ⟨a5, b5⟩ | ⟨a5, b5⟩ | ⟨a5, b5⟩ | ⟨a5, b5⟩
    · rcases e6 with ⟨a6, b6⟩ | ⟨a6, b6⟩ | ⟨a6, b6⟩ | ⟨a6, b6⟩
      · exact Or.inl ⟨b5.trans b6.symm, Sum.inl.inj (a5.symm.trans a6), b5⟩
      · exact absurd (a5.symm.trans a6) (by first | (simp; done) | decide)
      · exact absurd (a5.symm.trans a6) (by first | (simp; done) | decide)
      · exact absurd (a5.symm.trans a6) (by first | (simp; done) | decide)
    · rcases e6 with ⟨a6, b6⟩ | ⟨a6, b6⟩ | ⟨a6, b6⟩ | ⟨a6, b6⟩
      · exact absurd (a5.symm.trans a6) (by first | (simp; done) | decide)
      · exact Or.inr ⟨b5.trans b6.symm, by omega⟩
      · exact absurd (a5.symm.trans a6) (by first | (simp; done) | decide)
      · exact absurd (a5.symm.trans a6) (by first | (simp; done) | decide)
    · rcases e6 with ⟨a6, b6⟩ | ⟨a6, b6⟩ | ⟨a6, b6⟩ | ⟨a6, b6⟩
      · exact absurd (a5.symm.trans a6) (by first | (simp; done) | decide)
      · exact absurd (a5.symm.trans a6) (by first | (simp; done) | decide)
      · exact absurd (xE_shift (Prod.ext a5 rfl)) (by decide)
      · exact absurd (a5.symm.trans a6) (by first | (simp; done) | decide)
    · rcases e6 with ⟨a6, b6⟩ | ⟨a6, b6⟩ | ⟨a6, b6⟩ | ⟨a6, b6⟩
      · exact absurd (a5.symm.trans a6) (by first | (simp; done) | decide)
      · exact absurd (a5.symm.trans a6) (by first | (simp; done) | decide)
      · exact absurd (a5.symm.trans a6) (by first | (simp; done) | decide)
      · exact absurd (xE_shift (Prod.ext a5 rfl)) (by decide)
  refine z_istore dLaw_law_2871 (Nat.le_of_ble_eq_true rfl) ?_
  refine z_aload_n dLaw_law_2873 rfl ?_
  rw [show ma 0 = ma2 0 from m0.symm]
  refine z_callV (bc' := bc - 6 - 1) (bs' := bs - 36 - 61) MV_Mod_thrown lk_Law_179 dLaw_law_2874 (k_Mod_thrown H2) rfl rfl (Nat.le_of_ble_eq_true rfl) rfl H2.2.1 (Nat.le_of_ble_eq_true rfl) (Nat.le_of_ble_eq_true rfl) (by omega) (by omega) (fun _ _ q => q.elim) ?_
  rintro _ _ ⟨rfl, rfl⟩
  refine z_iload dLaw_law_2877 rfl ?_
  refine z_icmp_eq (tgt := 2884) dLaw_law_2879 (by decide) (by omega) (by omega) (fun c1 => ?_) (fun c1 => ?_)
  · refine z_iload dLaw_law_2884 rfl ?_
    refine z_if_ne (tgt := 2902) dLaw_law_2886 (by decide) (by omega) (fun c2 => ?_) (fun c2 => ?_)
    · refine z_goto (tgt := 3454) dLaw_law_2902 (by decide) ?_
      rw [show ma2 0 = ma 0 from m0]
      exact K _ _ h2 ma2 _ _ _ (zLi.fin C1 eo1 n1 n2 n3 H2 F2 A2 (ok_shift hO) (okb_shift hO okb)) m0 (by omega) (by omega)
    · refine z_aload_n dLaw_law_2889 rfl ?_
      refine z_getN (k := 0) fd_Out (by decide) fl_Law_13 dLaw_law_2890 (F2 ou _ eo1 n2) rfl ?_
      refine z_iload dLaw_law_2893 rfl ?_
      rw [show Value.int (zI z6) = Value.int (zI (zwd z6)) from zwd_i z6]
      refine z_i2l (zwd_r z6) dLaw_law_2895 ?_
      refine z_lcmpI (zwd_64 z5) (zwd_64 z6) dLaw_law_2896 ?_
      have e56 : z5 = z6 := by omega
      rw [e56, zSg_self]
      refine z_if_eq (tgt := 2902) dLaw_law_2897 (by decide) (by decide) (fun c3 => ?_) (fun c3 => ?_)
      · refine z_goto (tgt := 3454) dLaw_law_2902 (by decide) ?_
        rw [show ma2 0 = ma 0 from m0]
        exact K _ _ h2 ma2 _ _ _ (zLi.fin C1 eo1 n1 n2 n3 H2 F2 A2 (ok_shift hO) (okb_shift hO okb)) m0 (by omega) (by omega)
      · exact absurd rfl c3
  · exfalso; omega
theorem c_Law_37 {ou : Nat} {i : Int} {y5 y6 : Option Value} (I : zLi G h ad ma ou S) (hi : 0 ≤ i ∧ i + 4 ≤ L) (hb1 : 210 ≤ bc) (hb2 : 12100 ≤ bs) (K : zLK G l b L xs ad ma ou i bc bs) : zR G l (zLJ G b L xs) bc bs h 2905 [some (.ref b), some (.ref (ad 0)), some (.ref (ma 0)), some (.ref ou), some (zi i), y5, y6] [] := by
  obtain ⟨th, n0, sv, hC, hM, hO, okb, eo, n1, n2, n3⟩ := I
  have oka := okb.1
  have h16 : ∀ k, k < 4 → (S.1 k).length ≤ 16 := fun k hk => (hC.ls hk).len
  have x1 := zX9_r (xs := xs) (i + 1)
  have x2 := zX9_r (xs := xs) (i + 2)
  have x3 := zX9_r (xs := xs) (i + 3)
  refine z_aload_n dLaw_law_2905 rfl ?_
  refine z_aload_n dLaw_law_2906 rfl ?_
  refine z_iload dLaw_law_2907 rfl ?_
  refine z_iconst dLaw_law_2909 ?_
  refine z_iadd dLaw_law_2910 ?_
  refine z_sld (by omega) dLaw_law_2911 ?_
  refine z_aload_n dLaw_law_2912 rfl ?_
  refine z_callSX (bc' := bc - 6) (bs' := bs - 36) MW_Law_trim lk_Law_301 dLaw_law_2913 (k_Law_trim hC (zX9_r (xs := xs) (i + 1)) eo n1) rfl rfl (Nat.le_of_ble_eq_true rfl) (Nat.le_of_ble_eq_true rfl) (Nat.le_of_ble_eq_true rfl) (by omega) (by omega) (fun _ _ q => q.elim) ?_
  rintro _ h1 ⟨k5, z5, sv5, rfl, C1, f1, eo1, e5⟩
  have H1 : zMod G h1 ma S th := hM.mid n2 n3 f1
  refine z_istore dLaw_law_2916 (Nat.le_of_ble_eq_true rfl) ?_
  refine z_aload_n dLaw_law_2918 rfl ?_
  refine z_aload_n dLaw_law_2919 rfl ?_
  refine z_iload dLaw_law_2920 rfl ?_
  refine z_iconst dLaw_law_2922 ?_
  refine z_iadd dLaw_law_2923 ?_
  refine z_sld (by omega) dLaw_law_2924 ?_
  refine z_callV (bc' := bc - 6 - 16) (bs' := bs - 36 - 960) MV_Mod_trim lk_Law_303 dLaw_law_2925 (k_Mod_trim H1 (zX9_r (xs := xs) (i + 1)) h16) rfl rfl (Nat.le_of_ble_eq_true rfl) rfl H1.2.1 (Nat.le_of_ble_eq_true rfl) (Nat.le_of_ble_eq_true rfl) (by omega) (by omega) (fun _ _ q => q.elim) ?_
  rintro _ h2 ⟨ma2, th2, z6, rfl, m0, H2, F2, A2, e6⟩
  have hs : (k5 = th2 ∧ z5 = z6 ∧ k5 = 0) ∨ (k5 = th2 ∧ (k5 = 1 ∨ k5 = 2 ∨ k5 = 3)) := by
    rcases e5 with ⟨a5, b5⟩ | ⟨a5, b5⟩ | ⟨a5, b5⟩ | ⟨a5, b5⟩
    · rcases e6 with ⟨a6, b6⟩ | ⟨a6, b6⟩ | ⟨a6, b6⟩ | ⟨a6, b6⟩
      · exact Or.inl ⟨b5.trans b6.symm, Sum.inl.inj (a5.symm.trans a6), b5⟩
      · exact absurd (a5.symm.trans a6) (by first | (simp; done) | decide)
      · exact absurd (a5.symm.trans a6) (by first | (simp; done) | decide)
      · exact absurd (a5.symm.trans a6) (by first | (simp; done) | decide)
    · rcases e6 with ⟨a6, b6⟩ | ⟨a6, b6⟩ | ⟨a6, b6⟩ | ⟨a6, b6⟩
      · exact absurd (a5.symm.trans a6) (by first | (simp; done) | decide)
      · exact Or.inr ⟨b5.trans b6.symm, by omega⟩
      · exact absurd (a5.symm.trans a6) (by first | (simp; done) | decide)
      · exact absurd (a5.symm.trans a6) (by first | (simp; done) | decide)
    · rcases e6 with ⟨a6, b6⟩ | ⟨a6, b6⟩ | ⟨a6, b6⟩ | ⟨a6, b6⟩
      · exact absurd (a5.symm.trans a6) (by first | (simp; done) | decide)
      · exact absurd (a5.symm.trans a6) (by first | (simp; done) | decide)
      · exact absurd (xE_trim (Prod.ext a5 rfl)) (by decide)
      · exact absurd (a5.symm.trans a6) (by first | (simp; done) | decide)
    · rcases e6 with ⟨a6, b6⟩ | ⟨a6, b6⟩ | ⟨a6, b6⟩ | ⟨a6, b6⟩
      · exact absurd (a5.symm.trans a6) (by first | (simp; done) | decide)
      · exact absurd (a5.symm.trans a6) (by first | (simp; done) | decide)
      · exact absurd (a5.symm.trans a6) (by first | (simp; done) | decide)
      · exact absurd (xE_trim (Prod.ext a5 rfl)) (by decide)
  refine z_istore dLaw_law_2928 (Nat.le_of_ble_eq_true rfl) ?_
  refine z_aload_n dLaw_law_2930 rfl ?_
  rw [show ma 0 = ma2 0 from m0.symm]
  refine z_callV (bc' := bc - 6 - 16) (bs' := bs - 36 - 960) MV_Mod_thrown lk_Law_179 dLaw_law_2931 (k_Mod_thrown H2) rfl rfl (Nat.le_of_ble_eq_true rfl) rfl H2.2.1 (Nat.le_of_ble_eq_true rfl) (Nat.le_of_ble_eq_true rfl) (by omega) (by omega) (fun _ _ q => q.elim) ?_
  rintro _ _ ⟨rfl, rfl⟩
  refine z_iload dLaw_law_2934 rfl ?_
  refine z_icmp_eq (tgt := 2941) dLaw_law_2936 (by decide) (by omega) (by omega) (fun c1 => ?_) (fun c1 => ?_)
  · refine z_iload dLaw_law_2941 rfl ?_
    refine z_if_ne (tgt := 2959) dLaw_law_2943 (by decide) (by omega) (fun c2 => ?_) (fun c2 => ?_)
    · refine z_goto (tgt := 3454) dLaw_law_2959 (by decide) ?_
      rw [show ma2 0 = ma 0 from m0]
      exact K _ _ h2 ma2 _ _ _ (zLi.fin C1 eo1 n1 n2 n3 H2 F2 A2 (ok_trim hO) (okb_trim hO okb)) m0 (by omega) (by omega)
    · refine z_aload_n dLaw_law_2946 rfl ?_
      refine z_getN (k := 0) fd_Out (by decide) fl_Law_13 dLaw_law_2947 (F2 ou _ eo1 n2) rfl ?_
      refine z_iload dLaw_law_2950 rfl ?_
      rw [show Value.int (zI z6) = Value.int (zI (zwd z6)) from zwd_i z6]
      refine z_i2l (zwd_r z6) dLaw_law_2952 ?_
      refine z_lcmpI (zwd_64 z5) (zwd_64 z6) dLaw_law_2953 ?_
      have e56 : z5 = z6 := by omega
      rw [e56, zSg_self]
      refine z_if_eq (tgt := 2959) dLaw_law_2954 (by decide) (by decide) (fun c3 => ?_) (fun c3 => ?_)
      · refine z_goto (tgt := 3454) dLaw_law_2959 (by decide) ?_
        rw [show ma2 0 = ma 0 from m0]
        exact K _ _ h2 ma2 _ _ _ (zLi.fin C1 eo1 n1 n2 n3 H2 F2 A2 (ok_trim hO) (okb_trim hO okb)) m0 (by omega) (by omega)
      · exact absurd rfl c3
  · exfalso; omega
theorem c_Law_38 {ou : Nat} {i : Int} {y5 y6 : Option Value} (I : zLi G h ad ma ou S) (hi : 0 ≤ i ∧ i + 4 ≤ L) (hb1 : 210 ≤ bc) (hb2 : 12100 ≤ bs) (K : zLK G l b L xs ad ma ou i bc bs) : zR G l (zLJ G b L xs) bc bs h 2962 [some (.ref b), some (.ref (ad 0)), some (.ref (ma 0)), some (.ref ou), some (zi i), y5, y6] [] := by
  obtain ⟨th, n0, sv, hC, hM, hO, okb, eo, n1, n2, n3⟩ := I
  have oka := okb.1
  have h16 : ∀ k, k < 4 → (S.1 k).length ≤ 16 := fun k hk => (hC.ls hk).len
  have x1 := zX9_r (xs := xs) (i + 1)
  have x2 := zX9_r (xs := xs) (i + 2)
  have x3 := zX9_r (xs := xs) (i + 3)
  refine z_aload_n dLaw_law_2962 rfl ?_
  refine z_aload_n dLaw_law_2963 rfl ?_
  refine z_iload dLaw_law_2964 rfl ?_
  refine z_iconst dLaw_law_2966 ?_
  refine z_iadd dLaw_law_2967 ?_
  refine z_sld (by omega) dLaw_law_2968 ?_
  refine z_aload_n dLaw_law_2969 rfl ?_
  refine z_callSX (bc' := bc - 6) (bs' := bs - 36) MW_Law_derive lk_Law_304 dLaw_law_2970 (k_Law_derive hC (zX9_r (xs := xs) (i + 1)) eo n1) rfl rfl (Nat.le_of_ble_eq_true rfl) (Nat.le_of_ble_eq_true rfl) (Nat.le_of_ble_eq_true rfl) (by omega) (by omega) (fun _ _ q => q.elim) ?_
  rintro _ h1 ⟨k5, z5, sv5, rfl, C1, f1, eo1, e5⟩
  have H1 : zMod G h1 ma S th := hM.mid n2 n3 f1
  refine z_istore dLaw_law_2973 (Nat.le_of_ble_eq_true rfl) ?_
  refine z_aload_n dLaw_law_2975 rfl ?_
  refine z_aload_n dLaw_law_2976 rfl ?_
  refine z_iload dLaw_law_2977 rfl ?_
  refine z_iconst dLaw_law_2979 ?_
  refine z_iadd dLaw_law_2980 ?_
  refine z_sld (by omega) dLaw_law_2981 ?_
  refine z_callV (bc' := bc - 6 - 2) (bs' := bs - 36 - 31) MV_Mod_derive lk_Law_306 dLaw_law_2982 (k_Mod_derive H1 (zX9_r (xs := xs) (i + 1)) h16) rfl rfl (Nat.le_of_ble_eq_true rfl) rfl H1.2.1 (Nat.le_of_ble_eq_true rfl) (Nat.le_of_ble_eq_true rfl) (by omega) (by omega) (fun _ _ q => q.elim) ?_
  rintro _ h2 ⟨ma2, th2, z6, rfl, m0, H2, F2, A2, e6⟩
  have hs : (k5 = th2 ∧ z5 = z6 ∧ k5 = 0) ∨ (k5 = th2 ∧ (k5 = 1 ∨ k5 = 2 ∨ k5 = 3)) := by
    rcases e5 with ⟨a5, b5⟩ | ⟨a5, b5⟩ | ⟨a5, b5⟩ | ⟨a5, b5⟩
    · rcases e6 with ⟨a6, b6⟩ | ⟨a6, b6⟩ | ⟨a6, b6⟩ | ⟨a6, b6⟩
      · exact Or.inl ⟨b5.trans b6.symm, Sum.inl.inj (a5.symm.trans a6), b5⟩
      · exact absurd (a5.symm.trans a6) (by first | (simp; done) | decide)
      · exact absurd (a5.symm.trans a6) (by first | (simp; done) | decide)
      · exact absurd (a5.symm.trans a6) (by first | (simp; done) | decide)
    · rcases e6 with ⟨a6, b6⟩ | ⟨a6, b6⟩ | ⟨a6, b6⟩ | ⟨a6, b6⟩
      · exact absurd (a5.symm.trans a6) (by first | (simp; done) | decide)
      · exact Or.inr ⟨b5.trans b6.symm, by omega⟩
      · exact absurd (a5.symm.trans a6) (by first | (simp; done) | decide)
      · exact absurd (a5.symm.trans a6) (by first | (simp; done) | decide)
    · rcases e6 with ⟨a6, b6⟩ | ⟨a6, b6⟩ | ⟨a6, b6⟩ | ⟨a6, b6⟩
      · exact absurd (a5.symm.trans a6) (by first | (simp; done) | decide)
      · exact absurd (a5.symm.trans a6) (by first | (simp; done) | decide)
      · exact absurd (xE_derive (Prod.ext a5 rfl)) (by decide)
      · exact absurd (a5.symm.trans a6) (by first | (simp; done) | decide)
    · rcases e6 with ⟨a6, b6⟩ | ⟨a6, b6⟩ | ⟨a6, b6⟩ | ⟨a6, b6⟩
      · exact absurd (a5.symm.trans a6) (by first | (simp; done) | decide)
      · exact absurd (a5.symm.trans a6) (by first | (simp; done) | decide)
      · exact absurd (a5.symm.trans a6) (by first | (simp; done) | decide)
      · exact absurd (xE_derive (Prod.ext a5 rfl)) (by decide)
  refine z_istore dLaw_law_2985 (Nat.le_of_ble_eq_true rfl) ?_
  refine z_aload_n dLaw_law_2987 rfl ?_
  rw [show ma 0 = ma2 0 from m0.symm]
  refine z_callV (bc' := bc - 6 - 2) (bs' := bs - 36 - 31) MV_Mod_thrown lk_Law_179 dLaw_law_2988 (k_Mod_thrown H2) rfl rfl (Nat.le_of_ble_eq_true rfl) rfl H2.2.1 (Nat.le_of_ble_eq_true rfl) (Nat.le_of_ble_eq_true rfl) (by omega) (by omega) (fun _ _ q => q.elim) ?_
  rintro _ _ ⟨rfl, rfl⟩
  refine z_iload dLaw_law_2991 rfl ?_
  refine z_icmp_eq (tgt := 2998) dLaw_law_2993 (by decide) (by omega) (by omega) (fun c1 => ?_) (fun c1 => ?_)
  · refine z_iload dLaw_law_2998 rfl ?_
    refine z_if_ne (tgt := 3016) dLaw_law_3000 (by decide) (by omega) (fun c2 => ?_) (fun c2 => ?_)
    · refine z_goto (tgt := 3454) dLaw_law_3016 (by decide) ?_
      rw [show ma2 0 = ma 0 from m0]
      exact K _ _ h2 ma2 _ _ _ (zLi.fin C1 eo1 n1 n2 n3 H2 F2 A2 (ok_derive hO) (okb_derive hO okb)) m0 (by omega) (by omega)
    · refine z_aload_n dLaw_law_3003 rfl ?_
      refine z_getN (k := 0) fd_Out (by decide) fl_Law_13 dLaw_law_3004 (F2 ou _ eo1 n2) rfl ?_
      refine z_iload dLaw_law_3007 rfl ?_
      rw [show Value.int (zI z6) = Value.int (zI (zwd z6)) from zwd_i z6]
      refine z_i2l (zwd_r z6) dLaw_law_3009 ?_
      refine z_lcmpI (zwd_64 z5) (zwd_64 z6) dLaw_law_3010 ?_
      have e56 : z5 = z6 := by omega
      rw [e56, zSg_self]
      refine z_if_eq (tgt := 3016) dLaw_law_3011 (by decide) (by decide) (fun c3 => ?_) (fun c3 => ?_)
      · refine z_goto (tgt := 3454) dLaw_law_3016 (by decide) ?_
        rw [show ma2 0 = ma 0 from m0]
        exact K _ _ h2 ma2 _ _ _ (zLi.fin C1 eo1 n1 n2 n3 H2 F2 A2 (ok_derive hO) (okb_derive hO okb)) m0 (by omega) (by omega)
      · exact absurd rfl c3
  · exfalso; omega
theorem c_Law_39 {ou : Nat} {i : Int} {y5 y6 : Option Value} (I : zLi G h ad ma ou S) (hi : 0 ≤ i ∧ i + 4 ≤ L) (hb1 : 210 ≤ bc) (hb2 : 12100 ≤ bs) (K : zLK G l b L xs ad ma ou i bc bs) : zR G l (zLJ G b L xs) bc bs h 3019 [some (.ref b), some (.ref (ad 0)), some (.ref (ma 0)), some (.ref ou), some (zi i), y5, y6] [] := by
  obtain ⟨th, n0, sv, hC, hM, hO, okb, eo, n1, n2, n3⟩ := I
  have oka := okb.1
  have h16 : ∀ k, k < 4 → (S.1 k).length ≤ 16 := fun k hk => (hC.ls hk).len
  have x1 := zX9_r (xs := xs) (i + 1)
  have x2 := zX9_r (xs := xs) (i + 2)
  have x3 := zX9_r (xs := xs) (i + 3)
  refine z_aload_n dLaw_law_3019 rfl ?_
  refine z_aload_n dLaw_law_3020 rfl ?_
  refine z_iload dLaw_law_3021 rfl ?_
  refine z_iconst dLaw_law_3023 ?_
  refine z_iadd dLaw_law_3024 ?_
  refine z_sld (by omega) dLaw_law_3025 ?_
  refine z_aload_n dLaw_law_3026 rfl ?_
  refine z_iload dLaw_law_3027 rfl ?_
  refine z_iconst dLaw_law_3029 ?_
  refine z_iadd dLaw_law_3030 ?_
  refine z_sld (by omega) dLaw_law_3031 ?_
  refine z_aload_n dLaw_law_3032 rfl ?_
  refine z_callSX (bc' := bc - 6) (bs' := bs - 36) MW_Law_value lk_Law_307 dLaw_law_3033 (k_Law_value hC (zX9_r (xs := xs) (i + 1)) (zX9_r (xs := xs) (i + 2)) eo n1) rfl rfl (Nat.le_of_ble_eq_true rfl) (Nat.le_of_ble_eq_true rfl) (Nat.le_of_ble_eq_true rfl) (by omega) (by omega) (fun _ _ q => q.elim) ?_
  rintro _ h1 ⟨k5, z5, sv5, rfl, C1, f1, eo1, e5⟩
  have H1 : zMod G h1 ma S th := hM.mid n2 n3 f1
  refine z_istore dLaw_law_3036 (Nat.le_of_ble_eq_true rfl) ?_
  refine z_aload_n dLaw_law_3038 rfl ?_
  refine z_aload_n dLaw_law_3039 rfl ?_
  refine z_iload dLaw_law_3040 rfl ?_
  refine z_iconst dLaw_law_3042 ?_
  refine z_iadd dLaw_law_3043 ?_
  refine z_sld (by omega) dLaw_law_3044 ?_
  refine z_aload_n dLaw_law_3045 rfl ?_
  refine z_iload dLaw_law_3046 rfl ?_
  refine z_iconst dLaw_law_3048 ?_
  refine z_iadd dLaw_law_3049 ?_
  refine z_sld (by omega) dLaw_law_3050 ?_
  refine z_callV (bc' := bc - 6 - 0) (bs' := bs - 36 - 0) MV_Mod_value lk_Law_309 dLaw_law_3051 (k_Mod_value H1 (zX9_r (xs := xs) (i + 1)) (zX9_r (xs := xs) (i + 2))) rfl rfl (Nat.le_of_ble_eq_true rfl) rfl H1.2.1 (Nat.le_of_ble_eq_true rfl) (Nat.le_of_ble_eq_true rfl) (by omega) (by omega) (fun _ _ q => q.elim) ?_
  rintro _ h2 ⟨ma2, th2, z6, rfl, m0, H2, F2, A2, e6⟩
  have hs : (k5 = th2 ∧ z5 = z6 ∧ k5 = 0) ∨ (k5 = th2 ∧ (k5 = 1 ∨ k5 = 2 ∨ k5 = 3)) := by
    rcases e5 with ⟨a5, b5⟩ | ⟨a5, b5⟩ | ⟨a5, b5⟩ | ⟨a5, b5⟩
    · rcases e6 with ⟨a6, b6⟩ | ⟨a6, b6⟩ | ⟨a6, b6⟩ | ⟨a6, b6⟩
      · exact Or.inl ⟨b5.trans b6.symm, Sum.inl.inj (a5.symm.trans a6), b5⟩
      · exact absurd (a5.symm.trans a6) (by first | (simp; done) | decide)
      · exact absurd (a5.symm.trans a6) (by first | (simp; done) | decide)
      · exact absurd (a5.symm.trans a6) (by first | (simp; done) | decide)
    · rcases e6 with ⟨a6, b6⟩ | ⟨a6, b6⟩ | ⟨a6, b6⟩ | ⟨a6, b6⟩
      · exact absurd (a5.symm.trans a6) (by first | (simp; done) | decide)
      · exact Or.inr ⟨b5.trans b6.symm, by omega⟩
      · exact absurd (a5.symm.trans a6) (by first | (simp; done) | decide)
      · exact absurd (a5.symm.trans a6) (by first | (simp; done) | decide)
    · rcases e6 with ⟨a6, b6⟩ | ⟨a6, b6⟩ | ⟨a6, b6⟩ | ⟨a6, b6⟩
      · exact absurd (a5.symm.trans a6) (by first | (simp; done) | decide)
      · exact absurd (a5.symm.trans a6) (by first | (simp; done) | decide)
      · exact Or.inr ⟨b5.trans b6.symm, by omega⟩
      · exact absurd (a5.symm.trans a6) (by first | (simp; done) | decide)
    · rcases e6 with ⟨a6, b6⟩ | ⟨a6, b6⟩ | ⟨a6, b6⟩ | ⟨a6, b6⟩
      · exact absurd (a5.symm.trans a6) (by first | (simp; done) | decide)
      · exact absurd (a5.symm.trans a6) (by first | (simp; done) | decide)
      · exact absurd (a5.symm.trans a6) (by first | (simp; done) | decide)
      · exact absurd (xE_value (Prod.ext a5 rfl)) (by decide)
  refine z_istore dLaw_law_3054 (Nat.le_of_ble_eq_true rfl) ?_
  refine z_aload_n dLaw_law_3056 rfl ?_
  rw [show ma 0 = ma2 0 from m0.symm]
  refine z_callV (bc' := bc - 6 - 0) (bs' := bs - 36 - 0) MV_Mod_thrown lk_Law_179 dLaw_law_3057 (k_Mod_thrown H2) rfl rfl (Nat.le_of_ble_eq_true rfl) rfl H2.2.1 (Nat.le_of_ble_eq_true rfl) (Nat.le_of_ble_eq_true rfl) (by omega) (by omega) (fun _ _ q => q.elim) ?_
  rintro _ _ ⟨rfl, rfl⟩
  refine z_iload dLaw_law_3060 rfl ?_
  refine z_icmp_eq (tgt := 3067) dLaw_law_3062 (by decide) (by omega) (by omega) (fun c1 => ?_) (fun c1 => ?_)
  · refine z_iload dLaw_law_3067 rfl ?_
    refine z_if_ne (tgt := 3085) dLaw_law_3069 (by decide) (by omega) (fun c2 => ?_) (fun c2 => ?_)
    · refine z_goto (tgt := 3454) dLaw_law_3085 (by decide) ?_
      rw [show ma2 0 = ma 0 from m0]
      exact K _ _ h2 ma2 _ _ _ (zLi.fin C1 eo1 n1 n2 n3 H2 F2 A2 (ok_value hO) (okb_value hO okb)) m0 (by omega) (by omega)
    · refine z_aload_n dLaw_law_3072 rfl ?_
      refine z_getN (k := 0) fd_Out (by decide) fl_Law_13 dLaw_law_3073 (F2 ou _ eo1 n2) rfl ?_
      refine z_iload dLaw_law_3076 rfl ?_
      rw [show Value.int (zI z6) = Value.int (zI (zwd z6)) from zwd_i z6]
      refine z_i2l (zwd_r z6) dLaw_law_3078 ?_
      refine z_lcmpI (zwd_64 z5) (zwd_64 z6) dLaw_law_3079 ?_
      have e56 : z5 = z6 := by omega
      rw [e56, zSg_self]
      refine z_if_eq (tgt := 3085) dLaw_law_3080 (by decide) (by decide) (fun c3 => ?_) (fun c3 => ?_)
      · refine z_goto (tgt := 3454) dLaw_law_3085 (by decide) ?_
        rw [show ma2 0 = ma 0 from m0]
        exact K _ _ h2 ma2 _ _ _ (zLi.fin C1 eo1 n1 n2 n3 H2 F2 A2 (ok_value hO) (okb_value hO okb)) m0 (by omega) (by omega)
      · exact absurd rfl c3
  · exfalso; omega
theorem c_Law_40 {ou : Nat} {i : Int} {y5 y6 : Option Value} (I : zLi G h ad ma ou S) (hi : 0 ≤ i ∧ i + 4 ≤ L) (hb1 : 210 ≤ bc) (hb2 : 12100 ≤ bs) (K : zLK G l b L xs ad ma ou i bc bs) : zR G l (zLJ G b L xs) bc bs h 3088 [some (.ref b), some (.ref (ad 0)), some (.ref (ma 0)), some (.ref ou), some (zi i), y5, y6] [] := by
  obtain ⟨th, n0, sv, hC, hM, hO, okb, eo, n1, n2, n3⟩ := I
  have oka := okb.1
  have h16 : ∀ k, k < 4 → (S.1 k).length ≤ 16 := fun k hk => (hC.ls hk).len
  have x1 := zX9_r (xs := xs) (i + 1)
  have x2 := zX9_r (xs := xs) (i + 2)
  have x3 := zX9_r (xs := xs) (i + 3)
  refine z_aload_n dLaw_law_3088 rfl ?_
  refine z_aload_n dLaw_law_3089 rfl ?_
  refine z_iload dLaw_law_3090 rfl ?_
  refine z_iconst dLaw_law_3092 ?_
  refine z_iadd dLaw_law_3093 ?_
  refine z_sld (by omega) dLaw_law_3094 ?_
  refine z_aload_n dLaw_law_3095 rfl ?_
  refine z_callSX (bc' := bc - 6) (bs' := bs - 36) MW_Law_degree lk_Law_310 dLaw_law_3096 (k_Law_degree hC (zX9_r (xs := xs) (i + 1)) eo n1) rfl rfl (Nat.le_of_ble_eq_true rfl) (Nat.le_of_ble_eq_true rfl) (Nat.le_of_ble_eq_true rfl) (by omega) (by omega) (fun _ _ q => q.elim) ?_
  rintro _ h1 ⟨k5, z5, sv5, rfl, C1, f1, eo1, e5⟩
  have H1 : zMod G h1 ma S th := hM.mid n2 n3 f1
  refine z_istore dLaw_law_3099 (Nat.le_of_ble_eq_true rfl) ?_
  refine z_aload_n dLaw_law_3101 rfl ?_
  refine z_aload_n dLaw_law_3102 rfl ?_
  refine z_iload dLaw_law_3103 rfl ?_
  refine z_iconst dLaw_law_3105 ?_
  refine z_iadd dLaw_law_3106 ?_
  refine z_sld (by omega) dLaw_law_3107 ?_
  refine z_callV (bc' := bc - 6 - 0) (bs' := bs - 36 - 0) MV_Mod_degree lk_Law_312 dLaw_law_3108 (k_Mod_degree H1 (zX9_r (xs := xs) (i + 1))) rfl rfl (Nat.le_of_ble_eq_true rfl) rfl H1.2.1 (Nat.le_of_ble_eq_true rfl) (Nat.le_of_ble_eq_true rfl) (by omega) (by omega) (fun _ _ q => q.elim) ?_
  rintro _ h2 ⟨ma2, th2, z6, rfl, m0, H2, F2, A2, e6⟩
  have hs : (k5 = th2 ∧ z5 = z6 ∧ k5 = 0) ∨ (k5 = th2 ∧ (k5 = 1 ∨ k5 = 2 ∨ k5 = 3)) := by
    rcases e5 with ⟨a5, b5⟩ | ⟨a5, b5⟩ | ⟨a5, b5⟩ | ⟨a5, b5⟩
    · rcases e6 with ⟨a6, b6⟩ | ⟨a6, b6⟩ | ⟨a6, b6⟩ | ⟨a6, b6⟩
      · exact Or.inl ⟨b5.trans b6.symm, Sum.inl.inj (a5.symm.trans a6), b5⟩
      · exact absurd (a5.symm.trans a6) (by first | (simp; done) | decide)
      · exact absurd (a5.symm.trans a6) (by first | (simp; done) | decide)
      · exact absurd (a5.symm.trans a6) (by first | (simp; done) | decide)
    · rcases e6 with ⟨a6, b6⟩ | ⟨a6, b6⟩ | ⟨a6, b6⟩ | ⟨a6, b6⟩
      · exact absurd (a5.symm.trans a6) (by first | (simp; done) | decide)
      · exact Or.inr ⟨b5.trans b6.symm, by omega⟩
      · exact absurd (a5.symm.trans a6) (by first | (simp; done) | decide)
      · exact absurd (a5.symm.trans a6) (by first | (simp; done) | decide)
    · rcases e6 with ⟨a6, b6⟩ | ⟨a6, b6⟩ | ⟨a6, b6⟩ | ⟨a6, b6⟩
      · exact absurd (a5.symm.trans a6) (by first | (simp; done) | decide)
      · exact absurd (a5.symm.trans a6) (by first | (simp; done) | decide)
      · exact absurd (xE_degree (Prod.ext a5 rfl)) (by decide)
      · exact absurd (a5.symm.trans a6) (by first | (simp; done) | decide)
    · rcases e6 with ⟨a6, b6⟩ | ⟨a6, b6⟩ | ⟨a6, b6⟩ | ⟨a6, b6⟩
      · exact absurd (a5.symm.trans a6) (by first | (simp; done) | decide)
      · exact absurd (a5.symm.trans a6) (by first | (simp; done) | decide)
      · exact absurd (a5.symm.trans a6) (by first | (simp; done) | decide)
      · exact absurd (xE_degree (Prod.ext a5 rfl)) (by decide)
  refine z_istore dLaw_law_3111 (Nat.le_of_ble_eq_true rfl) ?_
  refine z_aload_n dLaw_law_3113 rfl ?_
  rw [show ma 0 = ma2 0 from m0.symm]
  refine z_callV (bc' := bc - 6 - 0) (bs' := bs - 36 - 0) MV_Mod_thrown lk_Law_179 dLaw_law_3114 (k_Mod_thrown H2) rfl rfl (Nat.le_of_ble_eq_true rfl) rfl H2.2.1 (Nat.le_of_ble_eq_true rfl) (Nat.le_of_ble_eq_true rfl) (by omega) (by omega) (fun _ _ q => q.elim) ?_
  rintro _ _ ⟨rfl, rfl⟩
  refine z_iload dLaw_law_3117 rfl ?_
  refine z_icmp_eq (tgt := 3124) dLaw_law_3119 (by decide) (by omega) (by omega) (fun c1 => ?_) (fun c1 => ?_)
  · refine z_iload dLaw_law_3124 rfl ?_
    refine z_if_ne (tgt := 3142) dLaw_law_3126 (by decide) (by omega) (fun c2 => ?_) (fun c2 => ?_)
    · refine z_goto (tgt := 3454) dLaw_law_3142 (by decide) ?_
      rw [show ma2 0 = ma 0 from m0]
      exact K _ _ h2 ma2 _ _ _ (zLi.fin C1 eo1 n1 n2 n3 H2 F2 A2 (ok_degree hO) (okb_degree hO okb)) m0 (by omega) (by omega)
    · refine z_aload_n dLaw_law_3129 rfl ?_
      refine z_getN (k := 0) fd_Out (by decide) fl_Law_13 dLaw_law_3130 (F2 ou _ eo1 n2) rfl ?_
      refine z_iload dLaw_law_3133 rfl ?_
      rw [show Value.int (zI z6) = Value.int (zI (zwd z6)) from zwd_i z6]
      refine z_i2l (zwd_r z6) dLaw_law_3135 ?_
      refine z_lcmpI (zwd_64 z5) (zwd_64 z6) dLaw_law_3136 ?_
      have e56 : z5 = z6 := by omega
      rw [e56, zSg_self]
      refine z_if_eq (tgt := 3142) dLaw_law_3137 (by decide) (by decide) (fun c3 => ?_) (fun c3 => ?_)
      · refine z_goto (tgt := 3454) dLaw_law_3142 (by decide) ?_
        rw [show ma2 0 = ma 0 from m0]
        exact K _ _ h2 ma2 _ _ _ (zLi.fin C1 eo1 n1 n2 n3 H2 F2 A2 (ok_degree hO) (okb_degree hO okb)) m0 (by omega) (by omega)
      · exact absurd rfl c3
  · exfalso; omega
theorem c_Law_41 {ou : Nat} {i : Int} {y5 y6 : Option Value} (I : zLi G h ad ma ou S) (hi : 0 ≤ i ∧ i + 4 ≤ L) (hb1 : 210 ≤ bc) (hb2 : 12100 ≤ bs) (K : zLK G l b L xs ad ma ou i bc bs) : zR G l (zLJ G b L xs) bc bs h 3145 [some (.ref b), some (.ref (ad 0)), some (.ref (ma 0)), some (.ref ou), some (zi i), y5, y6] [] := by
  obtain ⟨th, n0, sv, hC, hM, hO, okb, eo, n1, n2, n3⟩ := I
  have oka := okb.1
  have h16 : ∀ k, k < 4 → (S.1 k).length ≤ 16 := fun k hk => (hC.ls hk).len
  have x1 := zX9_r (xs := xs) (i + 1)
  have x2 := zX9_r (xs := xs) (i + 2)
  have x3 := zX9_r (xs := xs) (i + 3)
  refine z_aload_n dLaw_law_3145 rfl ?_
  refine z_aload_n dLaw_law_3146 rfl ?_
  refine z_iload dLaw_law_3147 rfl ?_
  refine z_iconst dLaw_law_3149 ?_
  refine z_iadd dLaw_law_3150 ?_
  refine z_sld (by omega) dLaw_law_3151 ?_
  refine z_aload_n dLaw_law_3152 rfl ?_
  refine z_callSX (bc' := bc - 6) (bs' := bs - 36) MW_Law_ask lk_Law_313 dLaw_law_3153 (k_Law_ask hO hC (zX9_r (xs := xs) (i + 1)) eo n1) rfl rfl (Nat.le_of_ble_eq_true rfl) (Nat.le_of_ble_eq_true rfl) (Nat.le_of_ble_eq_true rfl) (by omega) (by omega) (fun _ _ q => q.elim) ?_
  rintro _ h1 ⟨k5, z5, sv5, rfl, C1, f1, eo1, e5⟩
  have H1 : zMod G h1 ma S th := hM.mid n2 n3 f1
  refine z_istore dLaw_law_3156 (Nat.le_of_ble_eq_true rfl) ?_
  refine z_aload_n dLaw_law_3158 rfl ?_
  refine z_aload_n dLaw_law_3159 rfl ?_
  refine z_iload dLaw_law_3160 rfl ?_
  refine z_iconst dLaw_law_3162 ?_
  refine z_iadd dLaw_law_3163 ?_
  refine z_sld (by omega) dLaw_law_3164 ?_
  refine z_callV (bc' := bc - 6 - 2) (bs' := bs - 36 - 121) MV_Mod_ask lk_Law_315 dLaw_law_3165 (k_Mod_ask H1 (zX9_r (xs := xs) (i + 1)) hO) rfl rfl (Nat.le_of_ble_eq_true rfl) rfl H1.2.1 (Nat.le_of_ble_eq_true rfl) (Nat.le_of_ble_eq_true rfl) (by omega) (by omega) (fun _ _ q => q.elim) ?_
  rintro _ h2 ⟨ma2, th2, z6, rfl, m0, H2, F2, A2, e6⟩
  have hs : (k5 = th2 ∧ z5 = z6 ∧ k5 = 0) ∨ (k5 = th2 ∧ (k5 = 1 ∨ k5 = 2 ∨ k5 = 3)) := by
    rcases e5 with ⟨a5, b5⟩ | ⟨a5, b5⟩ | ⟨a5, b5⟩ | ⟨a5, b5⟩
    · rcases e6 with ⟨a6, b6⟩ | ⟨a6, b6⟩ | ⟨a6, b6⟩ | ⟨a6, b6⟩
      · exact Or.inl ⟨b5.trans b6.symm, Sum.inl.inj (a5.symm.trans a6), b5⟩
      · exact absurd (a5.symm.trans a6) (by first | (simp; done) | decide)
      · exact absurd (a5.symm.trans a6) (by first | (simp; done) | decide)
      · exact absurd (a5.symm.trans a6) (by first | (simp; done) | decide)
    · rcases e6 with ⟨a6, b6⟩ | ⟨a6, b6⟩ | ⟨a6, b6⟩ | ⟨a6, b6⟩
      · exact absurd (a5.symm.trans a6) (by first | (simp; done) | decide)
      · exact absurd (xE_ask (Prod.ext a5 rfl)) (by decide)
      · exact absurd (a5.symm.trans a6) (by first | (simp; done) | decide)
      · exact absurd (a5.symm.trans a6) (by first | (simp; done) | decide)
    · rcases e6 with ⟨a6, b6⟩ | ⟨a6, b6⟩ | ⟨a6, b6⟩ | ⟨a6, b6⟩
      · exact absurd (a5.symm.trans a6) (by first | (simp; done) | decide)
      · exact absurd (a5.symm.trans a6) (by first | (simp; done) | decide)
      · exact Or.inr ⟨b5.trans b6.symm, by omega⟩
      · exact absurd (a5.symm.trans a6) (by first | (simp; done) | decide)
    · rcases e6 with ⟨a6, b6⟩ | ⟨a6, b6⟩ | ⟨a6, b6⟩ | ⟨a6, b6⟩
      · exact absurd (a5.symm.trans a6) (by first | (simp; done) | decide)
      · exact absurd (a5.symm.trans a6) (by first | (simp; done) | decide)
      · exact absurd (a5.symm.trans a6) (by first | (simp; done) | decide)
      · exact Or.inr ⟨b5.trans b6.symm, by omega⟩
  refine z_istore dLaw_law_3168 (Nat.le_of_ble_eq_true rfl) ?_
  refine z_aload_n dLaw_law_3170 rfl ?_
  rw [show ma 0 = ma2 0 from m0.symm]
  refine z_callV (bc' := bc - 6 - 2) (bs' := bs - 36 - 121) MV_Mod_thrown lk_Law_179 dLaw_law_3171 (k_Mod_thrown H2) rfl rfl (Nat.le_of_ble_eq_true rfl) rfl H2.2.1 (Nat.le_of_ble_eq_true rfl) (Nat.le_of_ble_eq_true rfl) (by omega) (by omega) (fun _ _ q => q.elim) ?_
  rintro _ _ ⟨rfl, rfl⟩
  refine z_iload dLaw_law_3174 rfl ?_
  refine z_icmp_eq (tgt := 3181) dLaw_law_3176 (by decide) (by omega) (by omega) (fun c1 => ?_) (fun c1 => ?_)
  · refine z_iload dLaw_law_3181 rfl ?_
    refine z_if_ne (tgt := 3199) dLaw_law_3183 (by decide) (by omega) (fun c2 => ?_) (fun c2 => ?_)
    · refine z_goto (tgt := 3454) dLaw_law_3199 (by decide) ?_
      rw [show ma2 0 = ma 0 from m0]
      exact K _ _ h2 ma2 _ _ _ (zLi.fin C1 eo1 n1 n2 n3 H2 F2 A2 (ok_ask hO) (okb_ask hO okb)) m0 (by omega) (by omega)
    · refine z_aload_n dLaw_law_3186 rfl ?_
      refine z_getN (k := 0) fd_Out (by decide) fl_Law_13 dLaw_law_3187 (F2 ou _ eo1 n2) rfl ?_
      refine z_iload dLaw_law_3190 rfl ?_
      rw [show Value.int (zI z6) = Value.int (zI (zwd z6)) from zwd_i z6]
      refine z_i2l (zwd_r z6) dLaw_law_3192 ?_
      refine z_lcmpI (zwd_64 z5) (zwd_64 z6) dLaw_law_3193 ?_
      have e56 : z5 = z6 := by omega
      rw [e56, zSg_self]
      refine z_if_eq (tgt := 3199) dLaw_law_3194 (by decide) (by decide) (fun c3 => ?_) (fun c3 => ?_)
      · refine z_goto (tgt := 3454) dLaw_law_3199 (by decide) ?_
        rw [show ma2 0 = ma 0 from m0]
        exact K _ _ h2 ma2 _ _ _ (zLi.fin C1 eo1 n1 n2 n3 H2 F2 A2 (ok_ask hO) (okb_ask hO okb)) m0 (by omega) (by omega)
      · exact absurd rfl c3
  · exfalso; omega
theorem c_Law_42 {ou : Nat} {i : Int} {y5 y6 : Option Value} (I : zLi G h ad ma ou S) (hi : 0 ≤ i ∧ i + 4 ≤ L) (hb1 : 210 ≤ bc) (hb2 : 12100 ≤ bs) (K : zLK G l b L xs ad ma ou i bc bs) : zR G l (zLJ G b L xs) bc bs h 3202 [some (.ref b), some (.ref (ad 0)), some (.ref (ma 0)), some (.ref ou), some (zi i), y5, y6] [] := by
  obtain ⟨th, n0, sv, hC, hM, hO, okb, eo, n1, n2, n3⟩ := I
  have oka := okb.1
  have h16 : ∀ k, k < 4 → (S.1 k).length ≤ 16 := fun k hk => (hC.ls hk).len
  have x1 := zX9_r (xs := xs) (i + 1)
  have x2 := zX9_r (xs := xs) (i + 2)
  have x3 := zX9_r (xs := xs) (i + 3)
  refine z_aload_n dLaw_law_3202 rfl ?_
  refine z_callV (bc' := bc - 6) (bs' := bs - 36) MV_Cls_forget lk_Law_316 dLaw_law_3203 (k_Cls_forget hC) rfl rfl (Nat.le_of_ble_eq_true rfl) rfl hC.2.1 (Nat.le_of_ble_eq_true rfl) (Nat.le_of_ble_eq_true rfl) (by omega) (by omega) (fun E h9 q9 => absurd (Prod.mk.inj (show sp_forget S = _ from q9.choose_spec.1)).1 (by simp)) ?_
  rintro _ h1 ⟨z5, S5, e5, rfl, C1, f1⟩
  have eS : S5 = (sp_forget S).2 := by rw [e5]
  subst eS
  have eo1 := (f1 ou n1).trans eo
  have H1 : zMod G h1 ma S th := hM.mid (ad := ad) n2 n3 (fun q _ hq => f1 q hq)
  refine z_aload_n dLaw_law_3206 rfl ?_
  refine z_callV (bc' := bc - 6 - 0) (bs' := bs - 36 - 0) MV_Mod_forget lk_Law_319 dLaw_law_3207 (k_Mod_forget H1 hO) rfl rfl (Nat.le_of_ble_eq_true rfl) rfl H1.2.1 (Nat.le_of_ble_eq_true rfl) (Nat.le_of_ble_eq_true rfl) (by omega) (by omega) (fun _ _ q => q.elim) ?_
  rintro _ h2 ⟨ma2, th2, z6, rfl, m0, H2, F2, A2, e6⟩
  have e56 : z6 = z5 := by
    rcases e6 with ⟨q, -⟩ | ⟨q, -⟩ | ⟨q, -⟩ | ⟨q, -⟩
    · exact Sum.inl.inj (q.symm.trans (congrArg Prod.fst e5))
    · exact absurd (q.symm.trans (congrArg Prod.fst e5)) (by simp)
    · exact absurd (q.symm.trans (congrArg Prod.fst e5)) (by simp)
    · exact absurd (q.symm.trans (congrArg Prod.fst e5)) (by simp)
  subst e56
  refine z_icmp_self (tgt := 3454) dLaw_law_3210 (by decide) ?_
  exact K _ _ h2 ma2 _ _ _ (zLi.fin C1 eo1 n1 n2 n3 H2 F2 A2 (ok_forget hO) (okb_forget hO okb)) m0 (by omega) (by omega)
theorem c_Law_43 {ou : Nat} {i : Int} {y5 y6 : Option Value} (I : zLi G h ad ma ou S) (hi : 0 ≤ i ∧ i + 4 ≤ L) (hb1 : 210 ≤ bc) (hb2 : 12100 ≤ bs) (K : zLK G l b L xs ad ma ou i bc bs) : zR G l (zLJ G b L xs) bc bs h 3215 [some (.ref b), some (.ref (ad 0)), some (.ref (ma 0)), some (.ref ou), some (zi i), y5, y6] [] := by
  obtain ⟨th, n0, sv, hC, hM, hO, okb, eo, n1, n2, n3⟩ := I
  have oka := okb.1
  have h16 : ∀ k, k < 4 → (S.1 k).length ≤ 16 := fun k hk => (hC.ls hk).len
  have x1 := zX9_r (xs := xs) (i + 1)
  have x2 := zX9_r (xs := xs) (i + 2)
  have x3 := zX9_r (xs := xs) (i + 3)
  refine z_aload_n dLaw_law_3215 rfl ?_
  refine z_aload_n dLaw_law_3216 rfl ?_
  refine z_iload dLaw_law_3217 rfl ?_
  refine z_iconst dLaw_law_3219 ?_
  refine z_iadd dLaw_law_3220 ?_
  refine z_sld (by omega) dLaw_law_3221 ?_
  refine z_aload_n dLaw_law_3222 rfl ?_
  refine z_callSX (bc' := bc - 6) (bs' := bs - 36) MW_Law_asked lk_Law_320 dLaw_law_3223 (k_Law_asked hC (zX9_r (xs := xs) (i + 1)) eo n1) rfl rfl (Nat.le_of_ble_eq_true rfl) (Nat.le_of_ble_eq_true rfl) (Nat.le_of_ble_eq_true rfl) (by omega) (by omega) (fun _ _ q => q.elim) ?_
  rintro _ h1 ⟨k5, z5, sv5, rfl, C1, f1, eo1, e5⟩
  have H1 : zMod G h1 ma S th := hM.mid n2 n3 f1
  refine z_istore dLaw_law_3226 (Nat.le_of_ble_eq_true rfl) ?_
  refine z_aload_n dLaw_law_3228 rfl ?_
  refine z_aload_n dLaw_law_3229 rfl ?_
  refine z_iload dLaw_law_3230 rfl ?_
  refine z_iconst dLaw_law_3232 ?_
  refine z_iadd dLaw_law_3233 ?_
  refine z_sld (by omega) dLaw_law_3234 ?_
  refine z_callV (bc' := bc - 6 - 0) (bs' := bs - 36 - 0) MV_Mod_asked lk_Law_322 dLaw_law_3235 (k_Mod_asked H1 (zX9_r (xs := xs) (i + 1)) hO) rfl rfl (Nat.le_of_ble_eq_true rfl) rfl H1.2.1 (Nat.le_of_ble_eq_true rfl) (Nat.le_of_ble_eq_true rfl) (by omega) (by omega) (fun _ _ q => q.elim) ?_
  rintro _ h2 ⟨ma2, th2, z6, rfl, m0, H2, F2, A2, e6⟩
  have hs : (k5 = th2 ∧ z5 = z6 ∧ k5 = 0) ∨ (k5 = th2 ∧ (k5 = 1 ∨ k5 = 2 ∨ k5 = 3)) := by
    rcases e5 with ⟨a5, b5⟩ | ⟨a5, b5⟩ | ⟨a5, b5⟩ | ⟨a5, b5⟩
    · rcases e6 with ⟨a6, b6⟩ | ⟨a6, b6⟩ | ⟨a6, b6⟩ | ⟨a6, b6⟩
      · exact Or.inl ⟨b5.trans b6.symm, Sum.inl.inj (a5.symm.trans a6), b5⟩
      · exact absurd (a5.symm.trans a6) (by first | (simp; done) | decide)
      · exact absurd (a5.symm.trans a6) (by first | (simp; done) | decide)
      · exact absurd (a5.symm.trans a6) (by first | (simp; done) | decide)
    · rcases e6 with ⟨a6, b6⟩ | ⟨a6, b6⟩ | ⟨a6, b6⟩ | ⟨a6, b6⟩
      · exact absurd (a5.symm.trans a6) (by first | (simp; done) | decide)
      · exact absurd (xE_asked (Prod.ext a5 rfl)) (by decide)
      · exact absurd (a5.symm.trans a6) (by first | (simp; done) | decide)
      · exact absurd (a5.symm.trans a6) (by first | (simp; done) | decide)
    · rcases e6 with ⟨a6, b6⟩ | ⟨a6, b6⟩ | ⟨a6, b6⟩ | ⟨a6, b6⟩
      · exact absurd (a5.symm.trans a6) (by first | (simp; done) | decide)
      · exact absurd (a5.symm.trans a6) (by first | (simp; done) | decide)
      · exact Or.inr ⟨b5.trans b6.symm, by omega⟩
      · exact absurd (a5.symm.trans a6) (by first | (simp; done) | decide)
    · rcases e6 with ⟨a6, b6⟩ | ⟨a6, b6⟩ | ⟨a6, b6⟩ | ⟨a6, b6⟩
      · exact absurd (a5.symm.trans a6) (by first | (simp; done) | decide)
      · exact absurd (a5.symm.trans a6) (by first | (simp; done) | decide)
      · exact absurd (a5.symm.trans a6) (by first | (simp; done) | decide)
      · exact absurd (xE_asked (Prod.ext a5 rfl)) (by decide)
  refine z_istore dLaw_law_3238 (Nat.le_of_ble_eq_true rfl) ?_
  refine z_aload_n dLaw_law_3240 rfl ?_
  rw [show ma 0 = ma2 0 from m0.symm]
  refine z_callV (bc' := bc - 6 - 0) (bs' := bs - 36 - 0) MV_Mod_thrown lk_Law_179 dLaw_law_3241 (k_Mod_thrown H2) rfl rfl (Nat.le_of_ble_eq_true rfl) rfl H2.2.1 (Nat.le_of_ble_eq_true rfl) (Nat.le_of_ble_eq_true rfl) (by omega) (by omega) (fun _ _ q => q.elim) ?_
  rintro _ _ ⟨rfl, rfl⟩
  refine z_iload dLaw_law_3244 rfl ?_
  refine z_icmp_eq (tgt := 3251) dLaw_law_3246 (by decide) (by omega) (by omega) (fun c1 => ?_) (fun c1 => ?_)
  · refine z_iload dLaw_law_3251 rfl ?_
    refine z_if_ne (tgt := 3269) dLaw_law_3253 (by decide) (by omega) (fun c2 => ?_) (fun c2 => ?_)
    · refine z_goto (tgt := 3454) dLaw_law_3269 (by decide) ?_
      rw [show ma2 0 = ma 0 from m0]
      exact K _ _ h2 ma2 _ _ _ (zLi.fin C1 eo1 n1 n2 n3 H2 F2 A2 (ok_asked hO) (okb_asked hO okb)) m0 (by omega) (by omega)
    · refine z_aload_n dLaw_law_3256 rfl ?_
      refine z_getN (k := 0) fd_Out (by decide) fl_Law_13 dLaw_law_3257 (F2 ou _ eo1 n2) rfl ?_
      refine z_iload dLaw_law_3260 rfl ?_
      rw [show Value.int (zI z6) = Value.int (zI (zwd z6)) from zwd_i z6]
      refine z_i2l (zwd_r z6) dLaw_law_3262 ?_
      refine z_lcmpI (zwd_64 z5) (zwd_64 z6) dLaw_law_3263 ?_
      have e56 : z5 = z6 := by omega
      rw [e56, zSg_self]
      refine z_if_eq (tgt := 3269) dLaw_law_3264 (by decide) (by decide) (fun c3 => ?_) (fun c3 => ?_)
      · refine z_goto (tgt := 3454) dLaw_law_3269 (by decide) ?_
        rw [show ma2 0 = ma 0 from m0]
        exact K _ _ h2 ma2 _ _ _ (zLi.fin C1 eo1 n1 n2 n3 H2 F2 A2 (ok_asked hO) (okb_asked hO okb)) m0 (by omega) (by omega)
      · exact absurd rfl c3
  · exfalso; omega
theorem c_Law_44 {ou : Nat} {i : Int} {y5 y6 : Option Value} (I : zLi G h ad ma ou S) (hi : 0 ≤ i ∧ i + 4 ≤ L) (hb1 : 210 ≤ bc) (hb2 : 12100 ≤ bs) (K : zLK G l b L xs ad ma ou i bc bs) : zR G l (zLJ G b L xs) bc bs h 3272 [some (.ref b), some (.ref (ad 0)), some (.ref (ma 0)), some (.ref ou), some (zi i), y5, y6] [] := by
  obtain ⟨th, n0, sv, hC, hM, hO, okb, eo, n1, n2, n3⟩ := I
  have oka := okb.1
  have h16 : ∀ k, k < 4 → (S.1 k).length ≤ 16 := fun k hk => (hC.ls hk).len
  have x1 := zX9_r (xs := xs) (i + 1)
  have x2 := zX9_r (xs := xs) (i + 2)
  have x3 := zX9_r (xs := xs) (i + 3)
  refine z_aload_n dLaw_law_3272 rfl ?_
  refine z_callV (bc' := bc - 36) (bs' := bs - 600) MV_Cls_recent lk_Law_323 dLaw_law_3273 (k_Cls_recent hC) rfl rfl (Nat.le_of_ble_eq_true rfl) rfl hC.2.1 (Nat.le_of_ble_eq_true rfl) (Nat.le_of_ble_eq_true rfl) (by omega) (by omega) (fun _ _ q => q.elim) ?_
  rintro _ h1 ⟨s5, m5, rfl, S5, f1⟩
  have C1 : zCls G h1 ad S := hC.exo n1 (fun q e _ he => f1 q e he)
  have eo1 := f1 _ _ eo
  have H1 : zMod G h1 ma S th := hM.exo n2 (fun q e _ he => f1 q e he)
  refine z_aload_n dLaw_law_3276 rfl ?_
  refine z_callV (bc' := bc - 36 - 112) (bs' := bs - 600 - 9344) MV_Mod_recent lk_Law_327 dLaw_law_3277 (k_Mod_recent H1 hO) rfl rfl (Nat.le_of_ble_eq_true rfl) rfl H1.2.1 (Nat.le_of_ble_eq_true rfl) (Nat.le_of_ble_eq_true rfl) (by omega) (by omega) (fun _ _ q => q.elim) ?_
  rintro _ h2 ⟨s6, m6, rfl, S6, H2, F2⟩
  have S5a := S5.put H1.2.1 (by decide) F2
  obtain rfl : m5 = m6 := S5.len.symm.trans S6.len
  have hn9 : m5 ≤ 1000 := by
    rw [← S5.len]
    exact Nat.le_trans (zTl_le _) (by have := hO.2.2.1; omega)
  refine z_callVR MV_Str_equals_9ea2d lk_Law_223 dLaw_law_3280 (k_Str_equals S5a S6 hn9) rfl rfl (Nat.le_of_ble_eq_true rfl) S5a.recv (Nat.le_of_ble_eq_true rfl) (Nat.le_of_ble_eq_true rfl) (Nat.le_of_eq (Nat.zero_add _)) (Nat.le_of_eq (Nat.zero_add _)) (fun _ _ q => q.elim) ?_
  rintro _ _ ⟨rfl, rfl⟩
  refine z_if_ne (tgt := 3454) dLaw_law_3283 (by decide) (by decide) (fun _ => ?_) (fun c => absurd c (by decide))
  exact K _ _ h2 ma _ _ _ (zLi.fin C1 eo1 n1 n2 n3 H2 F2.fr (fun _ _ => Or.inl rfl) hO okb) rfl (by omega) (by omega)
theorem c_Law_45 {ou : Nat} {i : Int} {y5 y6 : Option Value} (I : zLi G h ad ma ou S) (hi : 0 ≤ i ∧ i + 4 ≤ L) (hb1 : 210 ≤ bc) (hb2 : 12100 ≤ bs) (K : zLK G l b L xs ad ma ou i bc bs) : zR G l (zLJ G b L xs) bc bs h 3288 [some (.ref b), some (.ref (ad 0)), some (.ref (ma 0)), some (.ref ou), some (zi i), y5, y6] [] := by
  obtain ⟨th, n0, sv, hC, hM, hO, okb, eo, n1, n2, n3⟩ := I
  have oka := okb.1
  have h16 : ∀ k, k < 4 → (S.1 k).length ≤ 16 := fun k hk => (hC.ls hk).len
  have x1 := zX9_r (xs := xs) (i + 1)
  have x2 := zX9_r (xs := xs) (i + 2)
  have x3 := zX9_r (xs := xs) (i + 3)
  refine z_aload_n dLaw_law_3288 rfl ?_
  refine z_aload_n dLaw_law_3289 rfl ?_
  refine z_iload dLaw_law_3290 rfl ?_
  refine z_iconst dLaw_law_3292 ?_
  refine z_iadd dLaw_law_3293 ?_
  refine z_sld (by omega) dLaw_law_3294 ?_
  refine z_aload_n dLaw_law_3295 rfl ?_
  refine z_iload dLaw_law_3296 rfl ?_
  refine z_iconst dLaw_law_3298 ?_
  refine z_iadd dLaw_law_3299 ?_
  refine z_sld (by omega) dLaw_law_3300 ?_
  refine z_aload_n dLaw_law_3301 rfl ?_
  refine z_callSX (bc' := bc - 6) (bs' := bs - 36) MW_Law_byOrder lk_Law_328 dLaw_law_3302 (k_Law_byOrder hC (zX9_r (xs := xs) (i + 1)) (zX9_r (xs := xs) (i + 2)) eo n1) rfl rfl (Nat.le_of_ble_eq_true rfl) (Nat.le_of_ble_eq_true rfl) (Nat.le_of_ble_eq_true rfl) (by omega) (by omega) (fun _ _ q => q.elim) ?_
  rintro _ h1 ⟨k5, z5, sv5, rfl, C1, f1, eo1, e5⟩
  have H1 : zMod G h1 ma S th := hM.mid n2 n3 f1
  refine z_istore dLaw_law_3305 (Nat.le_of_ble_eq_true rfl) ?_
  refine z_aload_n dLaw_law_3307 rfl ?_
  refine z_aload_n dLaw_law_3308 rfl ?_
  refine z_iload dLaw_law_3309 rfl ?_
  refine z_iconst dLaw_law_3311 ?_
  refine z_iadd dLaw_law_3312 ?_
  refine z_sld (by omega) dLaw_law_3313 ?_
  refine z_aload_n dLaw_law_3314 rfl ?_
  refine z_iload dLaw_law_3315 rfl ?_
  refine z_iconst dLaw_law_3317 ?_
  refine z_iadd dLaw_law_3318 ?_
  refine z_sld (by omega) dLaw_law_3319 ?_
  refine z_callV (bc' := bc - 6 - 0) (bs' := bs - 36 - 0) MV_Mod_byOrder lk_Law_330 dLaw_law_3320 (k_Mod_byOrder H1 (zX9_r (xs := xs) (i + 1)) (zX9_r (xs := xs) (i + 2)) hO.2.2.2.1 (fun j hj => ⟨by have := (oka j hj).1; omega, by have := (oka j hj).2; omega⟩)) rfl rfl (Nat.le_of_ble_eq_true rfl) rfl H1.2.1 (Nat.le_of_ble_eq_true rfl) (Nat.le_of_ble_eq_true rfl) (by omega) (by omega) (fun _ _ q => q.elim) ?_
  rintro _ h2 ⟨ma2, th2, z6, rfl, m0, H2, F2, A2, e6⟩
  rw [spm_state] at H2
  rw [spm_eq oka] at e6
  have hs : (k5 = th2 ∧ z5 = z6 ∧ k5 = 0) ∨ (k5 = th2 ∧ (k5 = 1 ∨ k5 = 2 ∨ k5 = 3)) := by
    rcases e5 with ⟨a5, b5⟩ | ⟨a5, b5⟩ | ⟨a5, b5⟩ | ⟨a5, b5⟩
    · rcases e6 with ⟨a6, b6⟩ | ⟨a6, b6⟩ | ⟨a6, b6⟩ | ⟨a6, b6⟩
      · exact Or.inl ⟨b5.trans b6.symm, Sum.inl.inj (a5.symm.trans a6), b5⟩
      · exact absurd (a5.symm.trans a6) (by first | (simp; done) | decide)
      · exact absurd (a5.symm.trans a6) (by first | (simp; done) | decide)
      · exact absurd (a5.symm.trans a6) (by first | (simp; done) | decide)
    · rcases e6 with ⟨a6, b6⟩ | ⟨a6, b6⟩ | ⟨a6, b6⟩ | ⟨a6, b6⟩
      · exact absurd (a5.symm.trans a6) (by first | (simp; done) | decide)
      · exact Or.inr ⟨b5.trans b6.symm, by omega⟩
      · exact absurd (a5.symm.trans a6) (by first | (simp; done) | decide)
      · exact absurd (a5.symm.trans a6) (by first | (simp; done) | decide)
    · rcases e6 with ⟨a6, b6⟩ | ⟨a6, b6⟩ | ⟨a6, b6⟩ | ⟨a6, b6⟩
      · exact absurd (a5.symm.trans a6) (by first | (simp; done) | decide)
      · exact absurd (a5.symm.trans a6) (by first | (simp; done) | decide)
      · exact Or.inr ⟨b5.trans b6.symm, by omega⟩
      · exact absurd (a5.symm.trans a6) (by first | (simp; done) | decide)
    · rcases e6 with ⟨a6, b6⟩ | ⟨a6, b6⟩ | ⟨a6, b6⟩ | ⟨a6, b6⟩
      · exact absurd (a5.symm.trans a6) (by first | (simp; done) | decide)
      · exact absurd (a5.symm.trans a6) (by first | (simp; done) | decide)
      · exact absurd (a5.symm.trans a6) (by first | (simp; done) | decide)
      · exact absurd (xE_byOrder (Prod.ext a5 rfl)) (by decide)
  refine z_istore dLaw_law_3323 (Nat.le_of_ble_eq_true rfl) ?_
  refine z_aload_n dLaw_law_3325 rfl ?_
  rw [show ma 0 = ma2 0 from m0.symm]
  refine z_callV (bc' := bc - 6 - 0) (bs' := bs - 36 - 0) MV_Mod_thrown lk_Law_179 dLaw_law_3326 (k_Mod_thrown H2) rfl rfl (Nat.le_of_ble_eq_true rfl) rfl H2.2.1 (Nat.le_of_ble_eq_true rfl) (Nat.le_of_ble_eq_true rfl) (by omega) (by omega) (fun _ _ q => q.elim) ?_
  rintro _ _ ⟨rfl, rfl⟩
  refine z_iload dLaw_law_3329 rfl ?_
  refine z_icmp_eq (tgt := 3336) dLaw_law_3331 (by decide) (by omega) (by omega) (fun c1 => ?_) (fun c1 => ?_)
  · refine z_iload dLaw_law_3336 rfl ?_
    refine z_if_ne (tgt := 3354) dLaw_law_3338 (by decide) (by omega) (fun c2 => ?_) (fun c2 => ?_)
    · refine z_goto (tgt := 3454) dLaw_law_3354 (by decide) ?_
      rw [show ma2 0 = ma 0 from m0]
      exact K _ _ h2 ma2 _ _ _ (zLi.fin C1 eo1 n1 n2 n3 H2 F2 A2 (ok_byOrder hO) (okb_byOrder hO okb)) m0 (by omega) (by omega)
    · refine z_aload_n dLaw_law_3341 rfl ?_
      refine z_getN (k := 0) fd_Out (by decide) fl_Law_13 dLaw_law_3342 (F2 ou _ eo1 n2) rfl ?_
      refine z_iload dLaw_law_3345 rfl ?_
      rw [show Value.int (zI z6) = Value.int (zI (zwd z6)) from zwd_i z6]
      refine z_i2l (zwd_r z6) dLaw_law_3347 ?_
      refine z_lcmpI (zwd_64 z5) (zwd_64 z6) dLaw_law_3348 ?_
      have e56 : z5 = z6 := by omega
      rw [e56, zSg_self]
      refine z_if_eq (tgt := 3354) dLaw_law_3349 (by decide) (by decide) (fun c3 => ?_) (fun c3 => ?_)
      · refine z_goto (tgt := 3454) dLaw_law_3354 (by decide) ?_
        rw [show ma2 0 = ma 0 from m0]
        exact K _ _ h2 ma2 _ _ _ (zLi.fin C1 eo1 n1 n2 n3 H2 F2 A2 (ok_byOrder hO) (okb_byOrder hO okb)) m0 (by omega) (by omega)
      · exact absurd rfl c3
  · exfalso; omega
theorem c_Law_46 {ou : Nat} {i : Int} {y5 y6 : Option Value} (I : zLi G h ad ma ou S) (hi : 0 ≤ i ∧ i + 4 ≤ L) (hb1 : 210 ≤ bc) (hb2 : 12100 ≤ bs) (K : zLK G l b L xs ad ma ou i bc bs) : zR G l (zLJ G b L xs) bc bs h 3357 [some (.ref b), some (.ref (ad 0)), some (.ref (ma 0)), some (.ref ou), some (zi i), y5, y6] [] := by
  obtain ⟨th, n0, sv, hC, hM, hO, okb, eo, n1, n2, n3⟩ := I
  have oka := okb.1
  have h16 : ∀ k, k < 4 → (S.1 k).length ≤ 16 := fun k hk => (hC.ls hk).len
  have x1 := zX9_r (xs := xs) (i + 1)
  have x2 := zX9_r (xs := xs) (i + 2)
  have x3 := zX9_r (xs := xs) (i + 3)
  refine z_aload_n dLaw_law_3357 rfl ?_
  refine z_aload_n dLaw_law_3358 rfl ?_
  refine z_iload dLaw_law_3359 rfl ?_
  refine z_iconst dLaw_law_3361 ?_
  refine z_iadd dLaw_law_3362 ?_
  refine z_sld (by omega) dLaw_law_3363 ?_
  refine z_aload_n dLaw_law_3364 rfl ?_
  refine z_callSX (bc' := bc - 6) (bs' := bs - 36) MW_Law_house lk_Law_331 dLaw_law_3365 (k_Law_house hC (zX9_r (xs := xs) (i + 1)) eo n1) rfl rfl (Nat.le_of_ble_eq_true rfl) (Nat.le_of_ble_eq_true rfl) (Nat.le_of_ble_eq_true rfl) (by omega) (by omega) (fun _ _ q => q.elim) ?_
  rintro _ h1 ⟨k5, z5, sv5, rfl, C1, f1, eo1, e5⟩
  have H1 : zMod G h1 ma S th := hM.mid n2 n3 f1
  refine z_istore dLaw_law_3368 (Nat.le_of_ble_eq_true rfl) ?_
  refine z_aload_n dLaw_law_3370 rfl ?_
  refine z_aload_n dLaw_law_3371 rfl ?_
  refine z_iload dLaw_law_3372 rfl ?_
  refine z_iconst dLaw_law_3374 ?_
  refine z_iadd dLaw_law_3375 ?_
  refine z_sld (by omega) dLaw_law_3376 ?_
  refine z_callV (bc' := bc - 6 - 1) (bs' := bs - 36 - 5) MV_Mod_house lk_Law_333 dLaw_law_3377 (k_Mod_house H1 (zX9_r (xs := xs) (i + 1))) rfl rfl (Nat.le_of_ble_eq_true rfl) rfl H1.2.1 (Nat.le_of_ble_eq_true rfl) (Nat.le_of_ble_eq_true rfl) (by omega) (by omega) (fun _ _ q => q.elim) ?_
  rintro _ h2 ⟨ma2, th2, z6, rfl, m0, H2, F2, A2, e6⟩
  have hs : (k5 = th2 ∧ z5 = z6 ∧ k5 = 0) ∨ (k5 = th2 ∧ (k5 = 1 ∨ k5 = 2 ∨ k5 = 3)) := by
    rcases e5 with ⟨a5, b5⟩ | ⟨a5, b5⟩ | ⟨a5, b5⟩ | ⟨a5, b5⟩
    · rcases e6 with ⟨a6, b6⟩ | ⟨a6, b6⟩ | ⟨a6, b6⟩ | ⟨a6, b6⟩
      · exact Or.inl ⟨b5.trans b6.symm, Sum.inl.inj (a5.symm.trans a6), b5⟩
      · exact absurd (a5.symm.trans a6) (by first | (simp; done) | decide)
      · exact absurd (a5.symm.trans a6) (by first | (simp; done) | decide)
      · exact absurd (a5.symm.trans a6) (by first | (simp; done) | decide)
    · rcases e6 with ⟨a6, b6⟩ | ⟨a6, b6⟩ | ⟨a6, b6⟩ | ⟨a6, b6⟩
      · exact absurd (a5.symm.trans a6) (by first | (simp; done) | decide)
      · exact absurd (xE_house (Prod.ext a5 rfl)) (by decide)
      · exact absurd (a5.symm.trans a6) (by first | (simp; done) | decide)
      · exact absurd (a5.symm.trans a6) (by first | (simp; done) | decide)
    · rcases e6 with ⟨a6, b6⟩ | ⟨a6, b6⟩ | ⟨a6, b6⟩ | ⟨a6, b6⟩
      · exact absurd (a5.symm.trans a6) (by first | (simp; done) | decide)
      · exact absurd (a5.symm.trans a6) (by first | (simp; done) | decide)
      · exact Or.inr ⟨b5.trans b6.symm, by omega⟩
      · exact absurd (a5.symm.trans a6) (by first | (simp; done) | decide)
    · rcases e6 with ⟨a6, b6⟩ | ⟨a6, b6⟩ | ⟨a6, b6⟩ | ⟨a6, b6⟩
      · exact absurd (a5.symm.trans a6) (by first | (simp; done) | decide)
      · exact absurd (a5.symm.trans a6) (by first | (simp; done) | decide)
      · exact absurd (a5.symm.trans a6) (by first | (simp; done) | decide)
      · exact absurd (xE_house (Prod.ext a5 rfl)) (by decide)
  refine z_istore dLaw_law_3380 (Nat.le_of_ble_eq_true rfl) ?_
  refine z_aload_n dLaw_law_3382 rfl ?_
  rw [show ma 0 = ma2 0 from m0.symm]
  refine z_callV (bc' := bc - 6 - 1) (bs' := bs - 36 - 5) MV_Mod_thrown lk_Law_179 dLaw_law_3383 (k_Mod_thrown H2) rfl rfl (Nat.le_of_ble_eq_true rfl) rfl H2.2.1 (Nat.le_of_ble_eq_true rfl) (Nat.le_of_ble_eq_true rfl) (by omega) (by omega) (fun _ _ q => q.elim) ?_
  rintro _ _ ⟨rfl, rfl⟩
  refine z_iload dLaw_law_3386 rfl ?_
  refine z_icmp_eq (tgt := 3393) dLaw_law_3388 (by decide) (by omega) (by omega) (fun c1 => ?_) (fun c1 => ?_)
  · refine z_iload dLaw_law_3393 rfl ?_
    refine z_if_ne (tgt := 3411) dLaw_law_3395 (by decide) (by omega) (fun c2 => ?_) (fun c2 => ?_)
    · refine z_goto (tgt := 3454) dLaw_law_3411 (by decide) ?_
      rw [show ma2 0 = ma 0 from m0]
      exact K _ _ h2 ma2 _ _ _ (zLi.fin C1 eo1 n1 n2 n3 H2 F2 A2 (ok_house hO) (okb_house hO okb)) m0 (by omega) (by omega)
    · refine z_aload_n dLaw_law_3398 rfl ?_
      refine z_getN (k := 0) fd_Out (by decide) fl_Law_13 dLaw_law_3399 (F2 ou _ eo1 n2) rfl ?_
      refine z_iload dLaw_law_3402 rfl ?_
      rw [show Value.int (zI z6) = Value.int (zI (zwd z6)) from zwd_i z6]
      refine z_i2l (zwd_r z6) dLaw_law_3404 ?_
      refine z_lcmpI (zwd_64 z5) (zwd_64 z6) dLaw_law_3405 ?_
      have e56 : z5 = z6 := by omega
      rw [e56, zSg_self]
      refine z_if_eq (tgt := 3411) dLaw_law_3406 (by decide) (by decide) (fun c3 => ?_) (fun c3 => ?_)
      · refine z_goto (tgt := 3454) dLaw_law_3411 (by decide) ?_
        rw [show ma2 0 = ma 0 from m0]
        exact K _ _ h2 ma2 _ _ _ (zLi.fin C1 eo1 n1 n2 n3 H2 F2 A2 (ok_house hO) (okb_house hO okb)) m0 (by omega) (by omega)
      · exact absurd rfl c3
  · exfalso; omega
theorem c_Law_47 {ou : Nat} {i : Int} {y5 y6 : Option Value} (I : zLi G h ad ma ou S) (hi : 0 ≤ i ∧ i + 4 ≤ L) (hb1 : 210 ≤ bc) (hb2 : 12100 ≤ bs) (K : zLK G l b L xs ad ma ou i bc bs) : zR G l (zLJ G b L xs) bc bs h 3414 [some (.ref b), some (.ref (ad 0)), some (.ref (ma 0)), some (.ref ou), some (zi i), y5, y6] [] := by
  obtain ⟨th, n0, sv, hC, hM, hO, okb, eo, n1, n2, n3⟩ := I
  have oka := okb.1
  have h16 : ∀ k, k < 4 → (S.1 k).length ≤ 16 := fun k hk => (hC.ls hk).len
  have x1 := zX9_r (xs := xs) (i + 1)
  have x2 := zX9_r (xs := xs) (i + 2)
  have x3 := zX9_r (xs := xs) (i + 3)
  refine z_aload_n dLaw_law_3414 rfl ?_
  refine z_callV (bc' := bc - 6) (bs' := bs - 36) MV_Cls_knock lk_Law_334 dLaw_law_3415 (k_Cls_knock hC) rfl rfl (Nat.le_of_ble_eq_true rfl) rfl hC.2.1 (Nat.le_of_ble_eq_true rfl) (Nat.le_of_ble_eq_true rfl) (by omega) (by omega) (fun E h9 q9 => absurd (Prod.mk.inj (show sp_knock S = _ from q9.choose_spec.1)).1 (by simp)) ?_
  rintro _ h1 ⟨z5, S5, e5, rfl, C1, f1⟩
  have eS : S5 = (sp_knock S).2 := by rw [e5]
  subst eS
  have eo1 := (f1 ou n1).trans eo
  have H1 : zMod G h1 ma S th := hM.mid (ad := ad) n2 n3 (fun q _ hq => f1 q hq)
  refine z_aload_n dLaw_law_3418 rfl ?_
  refine z_callV (bc' := bc - 6 - 0) (bs' := bs - 36 - 0) MV_Mod_knock lk_Law_337 dLaw_law_3419 (k_Mod_knock H1) rfl rfl (Nat.le_of_ble_eq_true rfl) rfl H1.2.1 (Nat.le_of_ble_eq_true rfl) (Nat.le_of_ble_eq_true rfl) (by omega) (by omega) (fun _ _ q => q.elim) ?_
  rintro _ h2 ⟨rfl, H2, F2⟩
  have e56 : S.2.2.2.2 2 + 1 = z5 := Sum.inl.inj (congrArg Prod.fst e5)
  subst e56
  refine z_icmp_self (tgt := 3454) dLaw_law_3422 (by decide) ?_
  exact K _ _ h2 ma _ _ _ (zLi.fin C1 eo1 n1 n2 n3 H2 F2 (fun _ _ => Or.inl rfl) (ok_knock hO) (okb_knock hO okb)) rfl (by omega) (by omega)
theorem c_Law_48 {ou : Nat} {i : Int} {y5 y6 : Option Value} (I : zLi G h ad ma ou S) (hi : 0 ≤ i ∧ i + 4 ≤ L) (hb1 : 210 ≤ bc) (hb2 : 12100 ≤ bs) (K : zLK G l b L xs ad ma ou i bc bs) : zR G l (zLJ G b L xs) bc bs h 3427 [some (.ref b), some (.ref (ad 0)), some (.ref (ma 0)), some (.ref ou), some (zi i), y5, y6] [] := by
  obtain ⟨th, n0, sv, hC, hM, hO, okb, eo, n1, n2, n3⟩ := I
  have oka := okb.1
  have h16 : ∀ k, k < 4 → (S.1 k).length ≤ 16 := fun k hk => (hC.ls hk).len
  have x1 := zX9_r (xs := xs) (i + 1)
  have x2 := zX9_r (xs := xs) (i + 2)
  have x3 := zX9_r (xs := xs) (i + 3)
  refine z_aload_n dLaw_law_3427 rfl ?_
  refine z_callV (bc' := bc - 0) (bs' := bs - 0) MV_Cls_isSound lk_Law_338 dLaw_law_3428 (k_Cls_isSound hC hO) rfl rfl (Nat.le_of_ble_eq_true rfl) rfl hC.2.1 (Nat.le_of_ble_eq_true rfl) (Nat.le_of_ble_eq_true rfl) (by omega) (by omega) (fun _ _ q => q.elim) ?_
  rintro _ h1 ⟨z5, rfl, hz, C1, f1⟩
  have eo1 := (f1 ou n1).trans eo
  have H1 : zMod G h1 ma S th := hM.mid (ad := ad) n2 n3 (fun q _ hq => f1 q hq)
  refine z_aload_n dLaw_law_3431 rfl ?_
  refine z_callV (bc' := bc - 0 - 0) (bs' := bs - 0 - 0) MV_Mod_isSound lk_Law_342 dLaw_law_3432 (k_Mod_isSound H1) rfl rfl (Nat.le_of_ble_eq_true rfl) rfl H1.2.1 (Nat.le_of_ble_eq_true rfl) (Nat.le_of_ble_eq_true rfl) (by omega) (by omega) (fun _ _ q => q.elim) ?_
  rintro _ h2 ⟨rfl, H2, F2⟩
  have e56 : z5 = 1 := by
    rcases hz with ⟨q, -⟩ | ⟨-, q⟩
    · exact q
    · exact absurd (zSnd_all hO okb.2) q
  subst e56
  refine z_icmp_self (tgt := 3454) dLaw_law_3435 (by decide) ?_
  exact K _ _ h2 ma _ _ _ (zLi.fin C1 eo1 n1 n2 n3 H2 F2 (fun _ _ => Or.inl rfl) hO okb) rfl (by omega) (by omega)
theorem c_Law_49 {ou : Nat} {i : Int} {y5 y6 : Option Value} (I : zLi G h ad ma ou S) (hi : 0 ≤ i ∧ i + 4 ≤ L) (hb1 : 210 ≤ bc) (hb2 : 12100 ≤ bs) (K : zLK G l b L xs ad ma ou i bc bs) : zR G l (zLJ G b L xs) bc bs h 3440 [some (.ref b), some (.ref (ad 0)), some (.ref (ma 0)), some (.ref ou), some (zi i), y5, y6] [] := by
  obtain ⟨th, n0, sv, hC, hM, hO, okb, eo, n1, n2, n3⟩ := I
  have oka := okb.1
  have h16 : ∀ k, k < 4 → (S.1 k).length ≤ 16 := fun k hk => (hC.ls hk).len
  have x1 := zX9_r (xs := xs) (i + 1)
  have x2 := zX9_r (xs := xs) (i + 2)
  have x3 := zX9_r (xs := xs) (i + 3)
  refine z_aload_n dLaw_law_3440 rfl ?_
  refine z_callV (bc' := bc - 0) (bs' := bs - 0) MV_Cls_digest lk_Law_343 dLaw_law_3441 (k_Cls_digest hC hO) rfl rfl (Nat.le_of_ble_eq_true rfl) rfl hC.2.1 (Nat.le_of_ble_eq_true rfl) (Nat.le_of_ble_eq_true rfl) (by omega) (by omega) (fun _ _ q => q.elim) ?_
  rintro _ h1 ⟨z5, hz, rfl, C1, f1⟩
  have eo1 := (f1 ou n1).trans eo
  have H1 : zMod G h1 ma S th := hM.mid (ad := ad) n2 n3 (fun q _ hq => f1 q hq)
  refine z_aload_n dLaw_law_3444 rfl ?_
  refine z_callV (bc' := bc - 0 - 23) (bs' := bs - 0 - 133) MV_Mod_digest lk_Law_347 dLaw_law_3445 (k_Mod_digestX H1 hO oka h16) rfl rfl (Nat.le_of_ble_eq_true rfl) rfl H1.2.1 (Nat.le_of_ble_eq_true rfl) (Nat.le_of_ble_eq_true rfl) (by omega) (by omega) (fun _ _ q => q.elim) ?_
  rintro _ h2 ⟨rfl, H2, F2⟩
  have e56 : z5 = 1 := by
    rcases hz with ⟨q, -⟩ | ⟨-, q⟩
    · exact q
    · exact absurd (zSnd_all hO okb.2) q
  subst e56
  refine z_lcmp_self dLaw_law_3448 ?_
  refine z_if_eq (tgt := 3454) dLaw_law_3449 (by decide) (by decide) (fun _ => ?_) (fun c1 => absurd rfl c1)
  exact K _ _ h2 ma _ _ _ (zLi.fin C1 eo1 n1 n2 n3 H2 F2 (fun _ _ => Or.inl rfl) hO okb) rfl (by omega) (by omega)
end LAW3
end
