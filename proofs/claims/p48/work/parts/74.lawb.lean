section
theorem zfLaw_law_0 : decode cLaw_law 0 = .ok (.new 8, 3) ∧ decode cLaw_law 3 = .ok (.dup, 1) ∧ decode cLaw_law 4 = .ok (.invokespecial 168, 3) ∧ decode cLaw_law 7 = .ok (.astore_n 1, 1) ∧ decode cLaw_law 8 = .ok (.new 169, 3) ∧ decode cLaw_law 11 = .ok (.dup, 1) ∧ decode cLaw_law 12 = .ok (.invokespecial 171, 3) ∧ decode cLaw_law 15 = .ok (.astore_n 2, 1) ∧ decode cLaw_law 16 = .ok (.new 14, 3) ∧ decode cLaw_law 19 = .ok (.dup, 1) ∧ decode cLaw_law 20 = .ok (.invokespecial 172, 3) ∧ decode cLaw_law 23 = .ok (.astore_n 3, 1) ∧ decode cLaw_law 24 = .ok (.iconst 0, 1) ∧ decode cLaw_law 25 = .ok (.istore 4, 2) ∧ decode cLaw_law 27 = .ok (.iload 4, 2) ∧ decode cLaw_law 29 = .ok (.aload_n 0, 1) ∧ decode cLaw_law 30 = .ok (.arraylength, 1) ∧ decode cLaw_law 31 = .ok (.iconst 4, 1) ∧ decode cLaw_law 32 = .ok (.isub, 1) ∧ decode cLaw_law 33 = .ok (.if_icmp .gt 2111, 3) ∧ decode cLaw_law 36 = .ok (.aload_n 0, 1) ∧ decode cLaw_law 37 = .ok (.iload 4, 2) ∧ decode cLaw_law 39 = .ok (.iaload, 1) ∧ decode cLaw_law 40 = .ok (.bipush 63, 2) ∧ decode cLaw_law 42 = .ok (.iand, 1) ∧ decode cLaw_law 43 = .ok (.tableswitch 2095 0 49 #[213, 265, 305, 345, 385, 437, 489, 529, 597, 637, 705, 745, 773, 829, 857, 897, 949, 989, 1029, 1069, 1121, 1173, 1201, 1253, 1293, 1321, 1373, 1401, 1429, 1457, 1497, 1525, 1565, 1605, 1645, 1685, 1725, 1753, 1781, 1809, 1849, 1877, 1905, 1918, 1946, 1959, 1999, 2056, 2069, 2082], 213) ∧ decode cLaw_law 256 = .ok (.aload_n 1, 1) ∧ decode cLaw_law 257 = .ok (.aload_n 0, 1) ∧ decode cLaw_law 258 = .ok (.iload 4, 2) ∧ decode cLaw_law 260 = .ok (.iconst 1, 1) ∧ decode cLaw_law 261 = .ok (.iadd, 1) ∧ decode cLaw_law 262 = .ok (.iaload, 1) ∧ True := Jvm.Free.DS.facts (code := cLaw_law) 0 [(.new 8, 3), (.dup, 1), (.invokespecial 168, 3), (.astore_n 1, 1), (.new 169, 3), (.dup, 1), (.invokespecial 171, 3), (.astore_n 2, 1), (.new 14, 3), (.dup, 1), (.invokespecial 172, 3), (.astore_n 3, 1), (.iconst 0, 1), (.istore 4, 2), (.iload 4, 2), (.aload_n 0, 1), (.arraylength, 1), (.iconst 4, 1), (.isub, 1), (.if_icmp .gt 2111, 3), (.aload_n 0, 1), (.iload 4, 2), (.iaload, 1), (.bipush 63, 2), (.iand, 1), (.tableswitch 2095 0 49 #[213, 265, 305, 345, 385, 437, 489, 529, 597, 637, 705, 745, 773, 829, 857, 897, 949, 989, 1029, 1069, 1121, 1173, 1201, 1253, 1293, 1321, 1373, 1401, 1429, 1457, 1497, 1525, 1565, 1605, 1645, 1685, 1725, 1753, 1781, 1809, 1849, 1877, 1905, 1918, 1946, 1959, 1999, 2056, 2069, 2082], 213), (.aload_n 1, 1), (.aload_n 0, 1), (.iload 4, 2), (.iconst 1, 1), (.iadd, 1), (.iaload, 1)] (by decide +kernel) (by decide +kernel)
theorem dLaw_law_0 : decode cLaw_law 0 = .ok (.new 8, 3) := zfLaw_law_0.1
theorem dLaw_law_3 : decode cLaw_law 3 = .ok (.dup, 1) := zfLaw_law_0.2.1
theorem dLaw_law_4 : decode cLaw_law 4 = .ok (.invokespecial 168, 3) := zfLaw_law_0.2.2.1
theorem dLaw_law_7 : decode cLaw_law 7 = .ok (.astore_n 1, 1) := zfLaw_law_0.2.2.2.1
theorem dLaw_law_8 : decode cLaw_law 8 = .ok (.new 169, 3) := zfLaw_law_0.2.2.2.2.1
theorem dLaw_law_11 : decode cLaw_law 11 = .ok (.dup, 1) := zfLaw_law_0.2.2.2.2.2.1
theorem dLaw_law_12 : decode cLaw_law 12 = .ok (.invokespecial 171, 3) := zfLaw_law_0.2.2.2.2.2.2.1
theorem dLaw_law_15 : decode cLaw_law 15 = .ok (.astore_n 2, 1) := zfLaw_law_0.2.2.2.2.2.2.2.1
theorem dLaw_law_16 : decode cLaw_law 16 = .ok (.new 14, 3) := zfLaw_law_0.2.2.2.2.2.2.2.2.1
theorem dLaw_law_19 : decode cLaw_law 19 = .ok (.dup, 1) := zfLaw_law_0.2.2.2.2.2.2.2.2.2.1
theorem dLaw_law_20 : decode cLaw_law 20 = .ok (.invokespecial 172, 3) := zfLaw_law_0.2.2.2.2.2.2.2.2.2.2.1
theorem dLaw_law_23 : decode cLaw_law 23 = .ok (.astore_n 3, 1) := zfLaw_law_0.2.2.2.2.2.2.2.2.2.2.2.1
theorem dLaw_law_24 : decode cLaw_law 24 = .ok (.iconst 0, 1) := zfLaw_law_0.2.2.2.2.2.2.2.2.2.2.2.2.1
theorem dLaw_law_25 : decode cLaw_law 25 = .ok (.istore 4, 2) := zfLaw_law_0.2.2.2.2.2.2.2.2.2.2.2.2.2.1
theorem dLaw_law_27 : decode cLaw_law 27 = .ok (.iload 4, 2) := zfLaw_law_0.2.2.2.2.2.2.2.2.2.2.2.2.2.2.1
theorem dLaw_law_29 : decode cLaw_law 29 = .ok (.aload_n 0, 1) := zfLaw_law_0.2.2.2.2.2.2.2.2.2.2.2.2.2.2.2.1
theorem dLaw_law_30 : decode cLaw_law 30 = .ok (.arraylength, 1) := zfLaw_law_0.2.2.2.2.2.2.2.2.2.2.2.2.2.2.2.2.1
theorem dLaw_law_31 : decode cLaw_law 31 = .ok (.iconst 4, 1) := zfLaw_law_0.2.2.2.2.2.2.2.2.2.2.2.2.2.2.2.2.2.1
theorem dLaw_law_32 : decode cLaw_law 32 = .ok (.isub, 1) := zfLaw_law_0.2.2.2.2.2.2.2.2.2.2.2.2.2.2.2.2.2.2.1
theorem dLaw_law_33 : decode cLaw_law 33 = .ok (.if_icmp .gt 2111, 3) := zfLaw_law_0.2.2.2.2.2.2.2.2.2.2.2.2.2.2.2.2.2.2.2.1
theorem dLaw_law_36 : decode cLaw_law 36 = .ok (.aload_n 0, 1) := zfLaw_law_0.2.2.2.2.2.2.2.2.2.2.2.2.2.2.2.2.2.2.2.2.1
theorem dLaw_law_37 : decode cLaw_law 37 = .ok (.iload 4, 2) := zfLaw_law_0.2.2.2.2.2.2.2.2.2.2.2.2.2.2.2.2.2.2.2.2.2.1
theorem dLaw_law_39 : decode cLaw_law 39 = .ok (.iaload, 1) := zfLaw_law_0.2.2.2.2.2.2.2.2.2.2.2.2.2.2.2.2.2.2.2.2.2.2.1
theorem dLaw_law_40 : decode cLaw_law 40 = .ok (.bipush 63, 2) := zfLaw_law_0.2.2.2.2.2.2.2.2.2.2.2.2.2.2.2.2.2.2.2.2.2.2.2.1
theorem dLaw_law_42 : decode cLaw_law 42 = .ok (.iand, 1) := zfLaw_law_0.2.2.2.2.2.2.2.2.2.2.2.2.2.2.2.2.2.2.2.2.2.2.2.2.1
theorem dLaw_law_43 : decode cLaw_law 43 = .ok (.tableswitch 2095 0 49 #[213, 265, 305, 345, 385, 437, 489, 529, 597, 637, 705, 745, 773, 829, 857, 897, 949, 989, 1029, 1069, 1121, 1173, 1201, 1253, 1293, 1321, 1373, 1401, 1429, 1457, 1497, 1525, 1565, 1605, 1645, 1685, 1725, 1753, 1781, 1809, 1849, 1877, 1905, 1918, 1946, 1959, 1999, 2056, 2069, 2082], 213) := zfLaw_law_0.2.2.2.2.2.2.2.2.2.2.2.2.2.2.2.2.2.2.2.2.2.2.2.2.2.1
theorem dLaw_law_256 : decode cLaw_law 256 = .ok (.aload_n 1, 1) := zfLaw_law_0.2.2.2.2.2.2.2.2.2.2.2.2.2.2.2.2.2.2.2.2.2.2.2.2.2.2.1
theorem dLaw_law_257 : decode cLaw_law 257 = .ok (.aload_n 0, 1) := zfLaw_law_0.2.2.2.2.2.2.2.2.2.2.2.2.2.2.2.2.2.2.2.2.2.2.2.2.2.2.2.1
theorem dLaw_law_258 : decode cLaw_law 258 = .ok (.iload 4, 2) := zfLaw_law_0.2.2.2.2.2.2.2.2.2.2.2.2.2.2.2.2.2.2.2.2.2.2.2.2.2.2.2.2.1
theorem dLaw_law_260 : decode cLaw_law 260 = .ok (.iconst 1, 1) := zfLaw_law_0.2.2.2.2.2.2.2.2.2.2.2.2.2.2.2.2.2.2.2.2.2.2.2.2.2.2.2.2.2.1
theorem dLaw_law_261 : decode cLaw_law 261 = .ok (.iadd, 1) := zfLaw_law_0.2.2.2.2.2.2.2.2.2.2.2.2.2.2.2.2.2.2.2.2.2.2.2.2.2.2.2.2.2.2.1
theorem dLaw_law_262 : decode cLaw_law 262 = .ok (.iaload, 1) := zfLaw_law_0.2.2.2.2.2.2.2.2.2.2.2.2.2.2.2.2.2.2.2.2.2.2.2.2.2.2.2.2.2.2.2.1
theorem zfLaw_law_263 : decode cLaw_law 263 = .ok (.aload_n 0, 1) ∧ decode cLaw_law 264 = .ok (.iload 4, 2) ∧ decode cLaw_law 266 = .ok (.iconst 2, 1) ∧ decode cLaw_law 267 = .ok (.iadd, 1) ∧ decode cLaw_law 268 = .ok (.iaload, 1) ∧ decode cLaw_law 269 = .ok (.aload_n 0, 1) ∧ decode cLaw_law 270 = .ok (.iload 4, 2) ∧ decode cLaw_law 272 = .ok (.iconst 3, 1) ∧ decode cLaw_law 273 = .ok (.iadd, 1) ∧ decode cLaw_law 274 = .ok (.iaload, 1) ∧ decode cLaw_law 275 = .ok (.aload_n 3, 1) ∧ decode cLaw_law 276 = .ok (.invokestatic 173, 3) ∧ decode cLaw_law 279 = .ok (.istore 5, 2) ∧ decode cLaw_law 281 = .ok (.aload_n 2, 1) ∧ decode cLaw_law 282 = .ok (.aload_n 0, 1) ∧ decode cLaw_law 283 = .ok (.iload 4, 2) ∧ decode cLaw_law 285 = .ok (.iconst 1, 1) ∧ decode cLaw_law 286 = .ok (.iadd, 1) ∧ decode cLaw_law 287 = .ok (.iaload, 1) ∧ decode cLaw_law 288 = .ok (.aload_n 0, 1) ∧ decode cLaw_law 289 = .ok (.iload 4, 2) ∧ decode cLaw_law 291 = .ok (.iconst 2, 1) ∧ decode cLaw_law 292 = .ok (.iadd, 1) ∧ decode cLaw_law 293 = .ok (.iaload, 1) ∧ decode cLaw_law 294 = .ok (.aload_n 0, 1) ∧ decode cLaw_law 295 = .ok (.iload 4, 2) ∧ decode cLaw_law 297 = .ok (.iconst 3, 1) ∧ decode cLaw_law 298 = .ok (.iadd, 1) ∧ decode cLaw_law 299 = .ok (.iaload, 1) ∧ decode cLaw_law 300 = .ok (.invokevirtual 178, 3) ∧ decode cLaw_law 303 = .ok (.istore 6, 2) ∧ decode cLaw_law 305 = .ok (.goto 1833, 3) ∧ True := Jvm.Free.DS.facts (code := cLaw_law) 263 [(.aload_n 0, 1), (.iload 4, 2), (.iconst 2, 1), (.iadd, 1), (.iaload, 1), (.aload_n 0, 1), (.iload 4, 2), (.iconst 3, 1), (.iadd, 1), (.iaload, 1), (.aload_n 3, 1), (.invokestatic 173, 3), (.istore 5, 2), (.aload_n 2, 1), (.aload_n 0, 1), (.iload 4, 2), (.iconst 1, 1), (.iadd, 1), (.iaload, 1), (.aload_n 0, 1), (.iload 4, 2), (.iconst 2, 1), (.iadd, 1), (.iaload, 1), (.aload_n 0, 1), (.iload 4, 2), (.iconst 3, 1), (.iadd, 1), (.iaload, 1), (.invokevirtual 178, 3), (.istore 6, 2), (.goto 1833, 3)] (by decide +kernel) (by decide +kernel)
theorem dLaw_law_263 : decode cLaw_law 263 = .ok (.aload_n 0, 1) := zfLaw_law_263.1
theorem dLaw_law_264 : decode cLaw_law 264 = .ok (.iload 4, 2) := zfLaw_law_263.2.1
theorem dLaw_law_266 : decode cLaw_law 266 = .ok (.iconst 2, 1) := zfLaw_law_263.2.2.1
theorem dLaw_law_267 : decode cLaw_law 267 = .ok (.iadd, 1) := zfLaw_law_263.2.2.2.1
theorem dLaw_law_268 : decode cLaw_law 268 = .ok (.iaload, 1) := zfLaw_law_263.2.2.2.2.1
theorem dLaw_law_269 : decode cLaw_law 269 = .ok (.aload_n 0, 1) := zfLaw_law_263.2.2.2.2.2.1
theorem dLaw_law_270 : decode cLaw_law 270 = .ok (.iload 4, 2) := zfLaw_law_263.2.2.2.2.2.2.1
theorem dLaw_law_272 : decode cLaw_law 272 = .ok (.iconst 3, 1) := zfLaw_law_263.2.2.2.2.2.2.2.1
theorem dLaw_law_273 : decode cLaw_law 273 = .ok (.iadd, 1) := zfLaw_law_263.2.2.2.2.2.2.2.2.1
theorem dLaw_law_274 : decode cLaw_law 274 = .ok (.iaload, 1) := zfLaw_law_263.2.2.2.2.2.2.2.2.2.1
theorem dLaw_law_275 : decode cLaw_law 275 = .ok (.aload_n 3, 1) := zfLaw_law_263.2.2.2.2.2.2.2.2.2.2.1
theorem dLaw_law_276 : decode cLaw_law 276 = .ok (.invokestatic 173, 3) := zfLaw_law_263.2.2.2.2.2.2.2.2.2.2.2.1
theorem dLaw_law_279 : decode cLaw_law 279 = .ok (.istore 5, 2) := zfLaw_law_263.2.2.2.2.2.2.2.2.2.2.2.2.1
theorem dLaw_law_281 : decode cLaw_law 281 = .ok (.aload_n 2, 1) := zfLaw_law_263.2.2.2.2.2.2.2.2.2.2.2.2.2.1
theorem dLaw_law_282 : decode cLaw_law 282 = .ok (.aload_n 0, 1) := zfLaw_law_263.2.2.2.2.2.2.2.2.2.2.2.2.2.2.1
theorem dLaw_law_283 : decode cLaw_law 283 = .ok (.iload 4, 2) := zfLaw_law_263.2.2.2.2.2.2.2.2.2.2.2.2.2.2.2.1
theorem dLaw_law_285 : decode cLaw_law 285 = .ok (.iconst 1, 1) := zfLaw_law_263.2.2.2.2.2.2.2.2.2.2.2.2.2.2.2.2.1
theorem dLaw_law_286 : decode cLaw_law 286 = .ok (.iadd, 1) := zfLaw_law_263.2.2.2.2.2.2.2.2.2.2.2.2.2.2.2.2.2.1
theorem dLaw_law_287 : decode cLaw_law 287 = .ok (.iaload, 1) := zfLaw_law_263.2.2.2.2.2.2.2.2.2.2.2.2.2.2.2.2.2.2.1
theorem dLaw_law_288 : decode cLaw_law 288 = .ok (.aload_n 0, 1) := zfLaw_law_263.2.2.2.2.2.2.2.2.2.2.2.2.2.2.2.2.2.2.2.1
theorem dLaw_law_289 : decode cLaw_law 289 = .ok (.iload 4, 2) := zfLaw_law_263.2.2.2.2.2.2.2.2.2.2.2.2.2.2.2.2.2.2.2.2.1
theorem dLaw_law_291 : decode cLaw_law 291 = .ok (.iconst 2, 1) := zfLaw_law_263.2.2.2.2.2.2.2.2.2.2.2.2.2.2.2.2.2.2.2.2.2.1
theorem dLaw_law_292 : decode cLaw_law 292 = .ok (.iadd, 1) := zfLaw_law_263.2.2.2.2.2.2.2.2.2.2.2.2.2.2.2.2.2.2.2.2.2.2.1
theorem dLaw_law_293 : decode cLaw_law 293 = .ok (.iaload, 1) := zfLaw_law_263.2.2.2.2.2.2.2.2.2.2.2.2.2.2.2.2.2.2.2.2.2.2.2.1
theorem dLaw_law_294 : decode cLaw_law 294 = .ok (.aload_n 0, 1) := zfLaw_law_263.2.2.2.2.2.2.2.2.2.2.2.2.2.2.2.2.2.2.2.2.2.2.2.2.1
theorem dLaw_law_295 : decode cLaw_law 295 = .ok (.iload 4, 2) := zfLaw_law_263.2.2.2.2.2.2.2.2.2.2.2.2.2.2.2.2.2.2.2.2.2.2.2.2.2.1
theorem dLaw_law_297 : decode cLaw_law 297 = .ok (.iconst 3, 1) := zfLaw_law_263.2.2.2.2.2.2.2.2.2.2.2.2.2.2.2.2.2.2.2.2.2.2.2.2.2.2.1
theorem dLaw_law_298 : decode cLaw_law 298 = .ok (.iadd, 1) := zfLaw_law_263.2.2.2.2.2.2.2.2.2.2.2.2.2.2.2.2.2.2.2.2.2.2.2.2.2.2.2.1
theorem dLaw_law_299 : decode cLaw_law 299 = .ok (.iaload, 1) := zfLaw_law_263.2.2.2.2.2.2.2.2.2.2.2.2.2.2.2.2.2.2.2.2.2.2.2.2.2.2.2.2.1
theorem dLaw_law_300 : decode cLaw_law 300 = .ok (.invokevirtual 178, 3) := zfLaw_law_263.2.2.2.2.2.2.2.2.2.2.2.2.2.2.2.2.2.2.2.2.2.2.2.2.2.2.2.2.2.1
theorem dLaw_law_303 : decode cLaw_law 303 = .ok (.istore 6, 2) := zfLaw_law_263.2.2.2.2.2.2.2.2.2.2.2.2.2.2.2.2.2.2.2.2.2.2.2.2.2.2.2.2.2.2.1
theorem dLaw_law_305 : decode cLaw_law 305 = .ok (.goto 1833, 3) := zfLaw_law_263.2.2.2.2.2.2.2.2.2.2.2.2.2.2.2.2.2.2.2.2.2.2.2.2.2.2.2.2.2.2.2.1
theorem zfLaw_law_308 : decode cLaw_law 308 = .ok (.aload_n 1, 1) ∧ decode cLaw_law 309 = .ok (.aload_n 0, 1) ∧ decode cLaw_law 310 = .ok (.iload 4, 2) ∧ decode cLaw_law 312 = .ok (.iconst 1, 1) ∧ decode cLaw_law 313 = .ok (.iadd, 1) ∧ decode cLaw_law 314 = .ok (.iaload, 1) ∧ decode cLaw_law 315 = .ok (.aload_n 0, 1) ∧ decode cLaw_law 316 = .ok (.iload 4, 2) ∧ decode cLaw_law 318 = .ok (.iconst 2, 1) ∧ decode cLaw_law 319 = .ok (.iadd, 1) ∧ decode cLaw_law 320 = .ok (.iaload, 1) ∧ decode cLaw_law 321 = .ok (.aload_n 3, 1) ∧ decode cLaw_law 322 = .ok (.invokestatic 179, 3) ∧ decode cLaw_law 325 = .ok (.istore 5, 2) ∧ decode cLaw_law 327 = .ok (.aload_n 2, 1) ∧ decode cLaw_law 328 = .ok (.aload_n 0, 1) ∧ decode cLaw_law 329 = .ok (.iload 4, 2) ∧ decode cLaw_law 331 = .ok (.iconst 1, 1) ∧ decode cLaw_law 332 = .ok (.iadd, 1) ∧ decode cLaw_law 333 = .ok (.iaload, 1) ∧ decode cLaw_law 334 = .ok (.aload_n 0, 1) ∧ decode cLaw_law 335 = .ok (.iload 4, 2) ∧ decode cLaw_law 337 = .ok (.iconst 2, 1) ∧ decode cLaw_law 338 = .ok (.iadd, 1) ∧ decode cLaw_law 339 = .ok (.iaload, 1) ∧ decode cLaw_law 340 = .ok (.invokevirtual 182, 3) ∧ decode cLaw_law 343 = .ok (.istore 6, 2) ∧ decode cLaw_law 345 = .ok (.goto 1793, 3) ∧ decode cLaw_law 348 = .ok (.aload_n 1, 1) ∧ decode cLaw_law 349 = .ok (.aload_n 0, 1) ∧ decode cLaw_law 350 = .ok (.iload 4, 2) ∧ decode cLaw_law 352 = .ok (.iconst 1, 1) ∧ True := Jvm.Free.DS.facts (code := cLaw_law) 308 [(.aload_n 1, 1), (.aload_n 0, 1), (.iload 4, 2), (.iconst 1, 1), (.iadd, 1), (.iaload, 1), (.aload_n 0, 1), (.iload 4, 2), (.iconst 2, 1), (.iadd, 1), (.iaload, 1), (.aload_n 3, 1), (.invokestatic 179, 3), (.istore 5, 2), (.aload_n 2, 1), (.aload_n 0, 1), (.iload 4, 2), (.iconst 1, 1), (.iadd, 1), (.iaload, 1), (.aload_n 0, 1), (.iload 4, 2), (.iconst 2, 1), (.iadd, 1), (.iaload, 1), (.invokevirtual 182, 3), (.istore 6, 2), (.goto 1793, 3), (.aload_n 1, 1), (.aload_n 0, 1), (.iload 4, 2), (.iconst 1, 1)] (by decide +kernel) (by decide +kernel)
theorem dLaw_law_308 : decode cLaw_law 308 = .ok (.aload_n 1, 1) := zfLaw_law_308.1
theorem dLaw_law_309 : decode cLaw_law 309 = .ok (.aload_n 0, 1) := zfLaw_law_308.2.1
theorem dLaw_law_310 : decode cLaw_law 310 = .ok (.iload 4, 2) := zfLaw_law_308.2.2.1
theorem dLaw_law_312 : decode cLaw_law 312 = .ok (.iconst 1, 1) := zfLaw_law_308.2.2.2.1
theorem dLaw_law_313 : decode cLaw_law 313 = .ok (.iadd, 1) := zfLaw_law_308.2.2.2.2.1
theorem dLaw_law_314 : decode cLaw_law 314 = .ok (.iaload, 1) := zfLaw_law_308.2.2.2.2.2.1
theorem dLaw_law_315 : decode cLaw_law 315 = .ok (.aload_n 0, 1) := zfLaw_law_308.2.2.2.2.2.2.1
theorem dLaw_law_316 : decode cLaw_law 316 = .ok (.iload 4, 2) := zfLaw_law_308.2.2.2.2.2.2.2.1
theorem dLaw_law_318 : decode cLaw_law 318 = .ok (.iconst 2, 1) := zfLaw_law_308.2.2.2.2.2.2.2.2.1
theorem dLaw_law_319 : decode cLaw_law 319 = .ok (.iadd, 1) := zfLaw_law_308.2.2.2.2.2.2.2.2.2.1
theorem dLaw_law_320 : decode cLaw_law 320 = .ok (.iaload, 1) := zfLaw_law_308.2.2.2.2.2.2.2.2.2.2.1
theorem dLaw_law_321 : decode cLaw_law 321 = .ok (.aload_n 3, 1) := zfLaw_law_308.2.2.2.2.2.2.2.2.2.2.2.1
theorem dLaw_law_322 : decode cLaw_law 322 = .ok (.invokestatic 179, 3) := zfLaw_law_308.2.2.2.2.2.2.2.2.2.2.2.2.1
theorem dLaw_law_325 : decode cLaw_law 325 = .ok (.istore 5, 2) := zfLaw_law_308.2.2.2.2.2.2.2.2.2.2.2.2.2.1
theorem dLaw_law_327 : decode cLaw_law 327 = .ok (.aload_n 2, 1) := zfLaw_law_308.2.2.2.2.2.2.2.2.2.2.2.2.2.2.1
theorem dLaw_law_328 : decode cLaw_law 328 = .ok (.aload_n 0, 1) := zfLaw_law_308.2.2.2.2.2.2.2.2.2.2.2.2.2.2.2.1
theorem dLaw_law_329 : decode cLaw_law 329 = .ok (.iload 4, 2) := zfLaw_law_308.2.2.2.2.2.2.2.2.2.2.2.2.2.2.2.2.1
theorem dLaw_law_331 : decode cLaw_law 331 = .ok (.iconst 1, 1) := zfLaw_law_308.2.2.2.2.2.2.2.2.2.2.2.2.2.2.2.2.2.1
theorem dLaw_law_332 : decode cLaw_law 332 = .ok (.iadd, 1) := zfLaw_law_308.2.2.2.2.2.2.2.2.2.2.2.2.2.2.2.2.2.2.1
theorem dLaw_law_333 : decode cLaw_law 333 = .ok (.iaload, 1) := zfLaw_law_308.2.2.2.2.2.2.2.2.2.2.2.2.2.2.2.2.2.2.2.1
theorem dLaw_law_334 : decode cLaw_law 334 = .ok (.aload_n 0, 1) := zfLaw_law_308.2.2.2.2.2.2.2.2.2.2.2.2.2.2.2.2.2.2.2.2.1
theorem dLaw_law_335 : decode cLaw_law 335 = .ok (.iload 4, 2) := zfLaw_law_308.2.2.2.2.2.2.2.2.2.2.2.2.2.2.2.2.2.2.2.2.2.1
theorem dLaw_law_337 : decode cLaw_law 337 = .ok (.iconst 2, 1) := zfLaw_law_308.2.2.2.2.2.2.2.2.2.2.2.2.2.2.2.2.2.2.2.2.2.2.1
theorem dLaw_law_338 : decode cLaw_law 338 = .ok (.iadd, 1) := zfLaw_law_308.2.2.2.2.2.2.2.2.2.2.2.2.2.2.2.2.2.2.2.2.2.2.2.1
theorem dLaw_law_339 : decode cLaw_law 339 = .ok (.iaload, 1) := zfLaw_law_308.2.2.2.2.2.2.2.2.2.2.2.2.2.2.2.2.2.2.2.2.2.2.2.2.1
theorem dLaw_law_340 : decode cLaw_law 340 = .ok (.invokevirtual 182, 3) := zfLaw_law_308.2.2.2.2.2.2.2.2.2.2.2.2.2.2.2.2.2.2.2.2.2.2.2.2.2.1
theorem dLaw_law_343 : decode cLaw_law 343 = .ok (.istore 6, 2) := zfLaw_law_308.2.2.2.2.2.2.2.2.2.2.2.2.2.2.2.2.2.2.2.2.2.2.2.2.2.2.1
theorem dLaw_law_345 : decode cLaw_law 345 = .ok (.goto 1793, 3) := zfLaw_law_308.2.2.2.2.2.2.2.2.2.2.2.2.2.2.2.2.2.2.2.2.2.2.2.2.2.2.2.1
theorem dLaw_law_348 : decode cLaw_law 348 = .ok (.aload_n 1, 1) := zfLaw_law_308.2.2.2.2.2.2.2.2.2.2.2.2.2.2.2.2.2.2.2.2.2.2.2.2.2.2.2.2.1
theorem dLaw_law_349 : decode cLaw_law 349 = .ok (.aload_n 0, 1) := zfLaw_law_308.2.2.2.2.2.2.2.2.2.2.2.2.2.2.2.2.2.2.2.2.2.2.2.2.2.2.2.2.2.1
theorem dLaw_law_350 : decode cLaw_law 350 = .ok (.iload 4, 2) := zfLaw_law_308.2.2.2.2.2.2.2.2.2.2.2.2.2.2.2.2.2.2.2.2.2.2.2.2.2.2.2.2.2.2.1
theorem dLaw_law_352 : decode cLaw_law 352 = .ok (.iconst 1, 1) := zfLaw_law_308.2.2.2.2.2.2.2.2.2.2.2.2.2.2.2.2.2.2.2.2.2.2.2.2.2.2.2.2.2.2.2.1
theorem zfLaw_law_353 : decode cLaw_law 353 = .ok (.iadd, 1) ∧ decode cLaw_law 354 = .ok (.iaload, 1) ∧ decode cLaw_law 355 = .ok (.aload_n 0, 1) ∧ decode cLaw_law 356 = .ok (.iload 4, 2) ∧ decode cLaw_law 358 = .ok (.iconst 2, 1) ∧ decode cLaw_law 359 = .ok (.iadd, 1) ∧ decode cLaw_law 360 = .ok (.iaload, 1) ∧ decode cLaw_law 361 = .ok (.aload_n 3, 1) ∧ decode cLaw_law 362 = .ok (.invokestatic 183, 3) ∧ decode cLaw_law 365 = .ok (.istore 5, 2) ∧ decode cLaw_law 367 = .ok (.aload_n 2, 1) ∧ decode cLaw_law 368 = .ok (.aload_n 0, 1) ∧ decode cLaw_law 369 = .ok (.iload 4, 2) ∧ decode cLaw_law 371 = .ok (.iconst 1, 1) ∧ decode cLaw_law 372 = .ok (.iadd, 1) ∧ decode cLaw_law 373 = .ok (.iaload, 1) ∧ decode cLaw_law 374 = .ok (.aload_n 0, 1) ∧ decode cLaw_law 375 = .ok (.iload 4, 2) ∧ decode cLaw_law 377 = .ok (.iconst 2, 1) ∧ decode cLaw_law 378 = .ok (.iadd, 1) ∧ decode cLaw_law 379 = .ok (.iaload, 1) ∧ decode cLaw_law 380 = .ok (.invokevirtual 185, 3) ∧ decode cLaw_law 383 = .ok (.istore 6, 2) ∧ decode cLaw_law 385 = .ok (.goto 1753, 3) ∧ decode cLaw_law 388 = .ok (.aload_n 1, 1) ∧ decode cLaw_law 389 = .ok (.aload_n 0, 1) ∧ decode cLaw_law 390 = .ok (.iload 4, 2) ∧ decode cLaw_law 392 = .ok (.iconst 1, 1) ∧ decode cLaw_law 393 = .ok (.iadd, 1) ∧ decode cLaw_law 394 = .ok (.iaload, 1) ∧ decode cLaw_law 395 = .ok (.aload_n 0, 1) ∧ decode cLaw_law 396 = .ok (.iload 4, 2) ∧ True := Jvm.Free.DS.facts (code := cLaw_law) 353 [(.iadd, 1), (.iaload, 1), (.aload_n 0, 1), (.iload 4, 2), (.iconst 2, 1), (.iadd, 1), (.iaload, 1), (.aload_n 3, 1), (.invokestatic 183, 3), (.istore 5, 2), (.aload_n 2, 1), (.aload_n 0, 1), (.iload 4, 2), (.iconst 1, 1), (.iadd, 1), (.iaload, 1), (.aload_n 0, 1), (.iload 4, 2), (.iconst 2, 1), (.iadd, 1), (.iaload, 1), (.invokevirtual 185, 3), (.istore 6, 2), (.goto 1753, 3), (.aload_n 1, 1), (.aload_n 0, 1), (.iload 4, 2), (.iconst 1, 1), (.iadd, 1), (.iaload, 1), (.aload_n 0, 1), (.iload 4, 2)] (by decide +kernel) (by decide +kernel)
theorem dLaw_law_353 : decode cLaw_law 353 = .ok (.iadd, 1) := zfLaw_law_353.1
theorem dLaw_law_354 : decode cLaw_law 354 = .ok (.iaload, 1) := zfLaw_law_353.2.1
theorem dLaw_law_355 : decode cLaw_law 355 = .ok (.aload_n 0, 1) := zfLaw_law_353.2.2.1
theorem dLaw_law_356 : decode cLaw_law 356 = .ok (.iload 4, 2) := zfLaw_law_353.2.2.2.1
theorem dLaw_law_358 : decode cLaw_law 358 = .ok (.iconst 2, 1) := zfLaw_law_353.2.2.2.2.1
theorem dLaw_law_359 : decode cLaw_law 359 = .ok (.iadd, 1) := zfLaw_law_353.2.2.2.2.2.1
theorem dLaw_law_360 : decode cLaw_law 360 = .ok (.iaload, 1) := zfLaw_law_353.2.2.2.2.2.2.1
theorem dLaw_law_361 : decode cLaw_law 361 = .ok (.aload_n 3, 1) := zfLaw_law_353.2.2.2.2.2.2.2.1
theorem dLaw_law_362 : decode cLaw_law 362 = .ok (.invokestatic 183, 3) := zfLaw_law_353.2.2.2.2.2.2.2.2.1
theorem dLaw_law_365 : decode cLaw_law 365 = .ok (.istore 5, 2) := zfLaw_law_353.2.2.2.2.2.2.2.2.2.1
theorem dLaw_law_367 : decode cLaw_law 367 = .ok (.aload_n 2, 1) := zfLaw_law_353.2.2.2.2.2.2.2.2.2.2.1
theorem dLaw_law_368 : decode cLaw_law 368 = .ok (.aload_n 0, 1) := zfLaw_law_353.2.2.2.2.2.2.2.2.2.2.2.1
theorem dLaw_law_369 : decode cLaw_law 369 = .ok (.iload 4, 2) := zfLaw_law_353.2.2.2.2.2.2.2.2.2.2.2.2.1
theorem dLaw_law_371 : decode cLaw_law 371 = .ok (.iconst 1, 1) := zfLaw_law_353.2.2.2.2.2.2.2.2.2.2.2.2.2.1
theorem dLaw_law_372 : decode cLaw_law 372 = .ok (.iadd, 1) := zfLaw_law_353.2.2.2.2.2.2.2.2.2.2.2.2.2.2.1
theorem dLaw_law_373 : decode cLaw_law 373 = .ok (.iaload, 1) := zfLaw_law_353.2.2.2.2.2.2.2.2.2.2.2.2.2.2.2.1
theorem dLaw_law_374 : decode cLaw_law 374 = .ok (.aload_n 0, 1) := zfLaw_law_353.2.2.2.2.2.2.2.2.2.2.2.2.2.2.2.2.1
theorem dLaw_law_375 : decode cLaw_law 375 = .ok (.iload 4, 2) := zfLaw_law_353.2.2.2.2.2.2.2.2.2.2.2.2.2.2.2.2.2.1
theorem dLaw_law_377 : decode cLaw_law 377 = .ok (.iconst 2, 1) := zfLaw_law_353.2.2.2.2.2.2.2.2.2.2.2.2.2.2.2.2.2.2.1
theorem dLaw_law_378 : decode cLaw_law 378 = .ok (.iadd, 1) := zfLaw_law_353.2.2.2.2.2.2.2.2.2.2.2.2.2.2.2.2.2.2.2.1
theorem dLaw_law_379 : decode cLaw_law 379 = .ok (.iaload, 1) := zfLaw_law_353.2.2.2.2.2.2.2.2.2.2.2.2.2.2.2.2.2.2.2.2.1
theorem dLaw_law_380 : decode cLaw_law 380 = .ok (.invokevirtual 185, 3) := zfLaw_law_353.2.2.2.2.2.2.2.2.2.2.2.2.2.2.2.2.2.2.2.2.2.1
theorem dLaw_law_383 : decode cLaw_law 383 = .ok (.istore 6, 2) := zfLaw_law_353.2.2.2.2.2.2.2.2.2.2.2.2.2.2.2.2.2.2.2.2.2.2.1
theorem dLaw_law_385 : decode cLaw_law 385 = .ok (.goto 1753, 3) := zfLaw_law_353.2.2.2.2.2.2.2.2.2.2.2.2.2.2.2.2.2.2.2.2.2.2.2.1
theorem dLaw_law_388 : decode cLaw_law 388 = .ok (.aload_n 1, 1) := zfLaw_law_353.2.2.2.2.2.2.2.2.2.2.2.2.2.2.2.2.2.2.2.2.2.2.2.2.1
theorem dLaw_law_389 : decode cLaw_law 389 = .ok (.aload_n 0, 1) := zfLaw_law_353.2.2.2.2.2.2.2.2.2.2.2.2.2.2.2.2.2.2.2.2.2.2.2.2.2.1
theorem dLaw_law_390 : decode cLaw_law 390 = .ok (.iload 4, 2) := zfLaw_law_353.2.2.2.2.2.2.2.2.2.2.2.2.2.2.2.2.2.2.2.2.2.2.2.2.2.2.1
theorem dLaw_law_392 : decode cLaw_law 392 = .ok (.iconst 1, 1) := zfLaw_law_353.2.2.2.2.2.2.2.2.2.2.2.2.2.2.2.2.2.2.2.2.2.2.2.2.2.2.2.1
theorem dLaw_law_393 : decode cLaw_law 393 = .ok (.iadd, 1) := zfLaw_law_353.2.2.2.2.2.2.2.2.2.2.2.2.2.2.2.2.2.2.2.2.2.2.2.2.2.2.2.2.1
theorem dLaw_law_394 : decode cLaw_law 394 = .ok (.iaload, 1) := zfLaw_law_353.2.2.2.2.2.2.2.2.2.2.2.2.2.2.2.2.2.2.2.2.2.2.2.2.2.2.2.2.2.1
theorem dLaw_law_395 : decode cLaw_law 395 = .ok (.aload_n 0, 1) := zfLaw_law_353.2.2.2.2.2.2.2.2.2.2.2.2.2.2.2.2.2.2.2.2.2.2.2.2.2.2.2.2.2.2.1
theorem dLaw_law_396 : decode cLaw_law 396 = .ok (.iload 4, 2) := zfLaw_law_353.2.2.2.2.2.2.2.2.2.2.2.2.2.2.2.2.2.2.2.2.2.2.2.2.2.2.2.2.2.2.2.1
theorem zfLaw_law_398 : decode cLaw_law 398 = .ok (.iconst 2, 1) ∧ decode cLaw_law 399 = .ok (.iadd, 1) ∧ decode cLaw_law 400 = .ok (.iaload, 1) ∧ decode cLaw_law 401 = .ok (.aload_n 3, 1) ∧ decode cLaw_law 402 = .ok (.invokestatic 186, 3) ∧ decode cLaw_law 405 = .ok (.istore 5, 2) ∧ decode cLaw_law 407 = .ok (.aload_n 2, 1) ∧ decode cLaw_law 408 = .ok (.aload_n 0, 1) ∧ decode cLaw_law 409 = .ok (.iload 4, 2) ∧ decode cLaw_law 411 = .ok (.iconst 1, 1) ∧ decode cLaw_law 412 = .ok (.iadd, 1) ∧ decode cLaw_law 413 = .ok (.iaload, 1) ∧ decode cLaw_law 414 = .ok (.aload_n 0, 1) ∧ decode cLaw_law 415 = .ok (.iload 4, 2) ∧ decode cLaw_law 417 = .ok (.iconst 2, 1) ∧ decode cLaw_law 418 = .ok (.iadd, 1) ∧ decode cLaw_law 419 = .ok (.iaload, 1) ∧ decode cLaw_law 420 = .ok (.invokevirtual 188, 3) ∧ decode cLaw_law 423 = .ok (.istore 6, 2) ∧ decode cLaw_law 425 = .ok (.goto 1713, 3) ∧ decode cLaw_law 428 = .ok (.aload_n 1, 1) ∧ decode cLaw_law 429 = .ok (.aload_n 0, 1) ∧ decode cLaw_law 430 = .ok (.iload 4, 2) ∧ decode cLaw_law 432 = .ok (.iconst 1, 1) ∧ decode cLaw_law 433 = .ok (.iadd, 1) ∧ decode cLaw_law 434 = .ok (.iaload, 1) ∧ decode cLaw_law 435 = .ok (.aload_n 0, 1) ∧ decode cLaw_law 436 = .ok (.iload 4, 2) ∧ decode cLaw_law 438 = .ok (.iconst 2, 1) ∧ decode cLaw_law 439 = .ok (.iadd, 1) ∧ decode cLaw_law 440 = .ok (.iaload, 1) ∧ decode cLaw_law 441 = .ok (.aload_n 0, 1) ∧ True := Jvm.Free.DS.facts (code := cLaw_law) 398 [(.iconst 2, 1), (.iadd, 1), (.iaload, 1), (.aload_n 3, 1), (.invokestatic 186, 3), (.istore 5, 2), (.aload_n 2, 1), (.aload_n 0, 1), (.iload 4, 2), (.iconst 1, 1), (.iadd, 1), (.iaload, 1), (.aload_n 0, 1), (.iload 4, 2), (.iconst 2, 1), (.iadd, 1), (.iaload, 1), (.invokevirtual 188, 3), (.istore 6, 2), (.goto 1713, 3), (.aload_n 1, 1), (.aload_n 0, 1), (.iload 4, 2), (.iconst 1, 1), (.iadd, 1), (.iaload, 1), (.aload_n 0, 1), (.iload 4, 2), (.iconst 2, 1), (.iadd, 1), (.iaload, 1), (.aload_n 0, 1)] (by decide +kernel) (by decide +kernel)
theorem dLaw_law_398 : decode cLaw_law 398 = .ok (.iconst 2, 1) := zfLaw_law_398.1
theorem dLaw_law_399 : decode cLaw_law 399 = .ok (.iadd, 1) := zfLaw_law_398.2.1
theorem dLaw_law_400 : decode cLaw_law 400 = .ok (.iaload, 1) := zfLaw_law_398.2.2.1
theorem dLaw_law_401 : decode cLaw_law 401 = .ok (.aload_n 3, 1) := zfLaw_law_398.2.2.2.1
theorem dLaw_law_402 : decode cLaw_law 402 = .ok (.invokestatic 186, 3) := zfLaw_law_398.2.2.2.2.1
theorem dLaw_law_405 : decode cLaw_law 405 = .ok (.istore 5, 2) := zfLaw_law_398.2.2.2.2.2.1
theorem dLaw_law_407 : decode cLaw_law 407 = .ok (.aload_n 2, 1) := zfLaw_law_398.2.2.2.2.2.2.1
theorem dLaw_law_408 : decode cLaw_law 408 = .ok (.aload_n 0, 1) := zfLaw_law_398.2.2.2.2.2.2.2.1
theorem dLaw_law_409 : decode cLaw_law 409 = .ok (.iload 4, 2) := zfLaw_law_398.2.2.2.2.2.2.2.2.1
theorem dLaw_law_411 : decode cLaw_law 411 = .ok (.iconst 1, 1) := zfLaw_law_398.2.2.2.2.2.2.2.2.2.1
theorem dLaw_law_412 : decode cLaw_law 412 = .ok (.iadd, 1) := zfLaw_law_398.2.2.2.2.2.2.2.2.2.2.1
theorem dLaw_law_413 : decode cLaw_law 413 = .ok (.iaload, 1) := zfLaw_law_398.2.2.2.2.2.2.2.2.2.2.2.1
theorem dLaw_law_414 : decode cLaw_law 414 = .ok (.aload_n 0, 1) := zfLaw_law_398.2.2.2.2.2.2.2.2.2.2.2.2.1
theorem dLaw_law_415 : decode cLaw_law 415 = .ok (.iload 4, 2) := zfLaw_law_398.2.2.2.2.2.2.2.2.2.2.2.2.2.1
theorem dLaw_law_417 : decode cLaw_law 417 = .ok (.iconst 2, 1) := zfLaw_law_398.2.2.2.2.2.2.2.2.2.2.2.2.2.2.1
theorem dLaw_law_418 : decode cLaw_law 418 = .ok (.iadd, 1) := zfLaw_law_398.2.2.2.2.2.2.2.2.2.2.2.2.2.2.2.1
theorem dLaw_law_419 : decode cLaw_law 419 = .ok (.iaload, 1) := zfLaw_law_398.2.2.2.2.2.2.2.2.2.2.2.2.2.2.2.2.1
theorem dLaw_law_420 : decode cLaw_law 420 = .ok (.invokevirtual 188, 3) := zfLaw_law_398.2.2.2.2.2.2.2.2.2.2.2.2.2.2.2.2.2.1
theorem dLaw_law_423 : decode cLaw_law 423 = .ok (.istore 6, 2) := zfLaw_law_398.2.2.2.2.2.2.2.2.2.2.2.2.2.2.2.2.2.2.1
theorem dLaw_law_425 : decode cLaw_law 425 = .ok (.goto 1713, 3) := zfLaw_law_398.2.2.2.2.2.2.2.2.2.2.2.2.2.2.2.2.2.2.2.1
theorem dLaw_law_428 : decode cLaw_law 428 = .ok (.aload_n 1, 1) := zfLaw_law_398.2.2.2.2.2.2.2.2.2.2.2.2.2.2.2.2.2.2.2.2.1
theorem dLaw_law_429 : decode cLaw_law 429 = .ok (.aload_n 0, 1) := zfLaw_law_398.2.2.2.2.2.2.2.2.2.2.2.2.2.2.2.2.2.2.2.2.2.1
theorem dLaw_law_430 : decode cLaw_law 430 = .ok (.iload 4, 2) := zfLaw_law_398.2.2.2.2.2.2.2.2.2.2.2.2.2.2.2.2.2.2.2.2.2.2.1
theorem dLaw_law_432 : decode cLaw_law 432 = .ok (.iconst 1, 1) := zfLaw_law_398.2.2.2.2.2.2.2.2.2.2.2.2.2.2.2.2.2.2.2.2.2.2.2.1
theorem dLaw_law_433 : decode cLaw_law 433 = .ok (.iadd, 1) := zfLaw_law_398.2.2.2.2.2.2.2.2.2.2.2.2.2.2.2.2.2.2.2.2.2.2.2.2.1
theorem dLaw_law_434 : decode cLaw_law 434 = .ok (.iaload, 1) := zfLaw_law_398.2.2.2.2.2.2.2.2.2.2.2.2.2.2.2.2.2.2.2.2.2.2.2.2.2.1
theorem dLaw_law_435 : decode cLaw_law 435 = .ok (.aload_n 0, 1) := zfLaw_law_398.2.2.2.2.2.2.2.2.2.2.2.2.2.2.2.2.2.2.2.2.2.2.2.2.2.2.1
theorem dLaw_law_436 : decode cLaw_law 436 = .ok (.iload 4, 2) := zfLaw_law_398.2.2.2.2.2.2.2.2.2.2.2.2.2.2.2.2.2.2.2.2.2.2.2.2.2.2.2.1
theorem dLaw_law_438 : decode cLaw_law 438 = .ok (.iconst 2, 1) := zfLaw_law_398.2.2.2.2.2.2.2.2.2.2.2.2.2.2.2.2.2.2.2.2.2.2.2.2.2.2.2.2.1
theorem dLaw_law_439 : decode cLaw_law 439 = .ok (.iadd, 1) := zfLaw_law_398.2.2.2.2.2.2.2.2.2.2.2.2.2.2.2.2.2.2.2.2.2.2.2.2.2.2.2.2.2.1
theorem dLaw_law_440 : decode cLaw_law 440 = .ok (.iaload, 1) := zfLaw_law_398.2.2.2.2.2.2.2.2.2.2.2.2.2.2.2.2.2.2.2.2.2.2.2.2.2.2.2.2.2.2.1
theorem dLaw_law_441 : decode cLaw_law 441 = .ok (.aload_n 0, 1) := zfLaw_law_398.2.2.2.2.2.2.2.2.2.2.2.2.2.2.2.2.2.2.2.2.2.2.2.2.2.2.2.2.2.2.2.1
theorem zfLaw_law_442 : decode cLaw_law 442 = .ok (.iload 4, 2) ∧ decode cLaw_law 444 = .ok (.iconst 3, 1) ∧ decode cLaw_law 445 = .ok (.iadd, 1) ∧ decode cLaw_law 446 = .ok (.iaload, 1) ∧ decode cLaw_law 447 = .ok (.aload_n 3, 1) ∧ decode cLaw_law 448 = .ok (.invokestatic 189, 3) ∧ decode cLaw_law 451 = .ok (.istore 5, 2) ∧ decode cLaw_law 453 = .ok (.aload_n 2, 1) ∧ decode cLaw_law 454 = .ok (.aload_n 0, 1) ∧ decode cLaw_law 455 = .ok (.iload 4, 2) ∧ decode cLaw_law 457 = .ok (.iconst 1, 1) ∧ decode cLaw_law 458 = .ok (.iadd, 1) ∧ decode cLaw_law 459 = .ok (.iaload, 1) ∧ decode cLaw_law 460 = .ok (.aload_n 0, 1) ∧ decode cLaw_law 461 = .ok (.iload 4, 2) ∧ decode cLaw_law 463 = .ok (.iconst 2, 1) ∧ decode cLaw_law 464 = .ok (.iadd, 1) ∧ decode cLaw_law 465 = .ok (.iaload, 1) ∧ decode cLaw_law 466 = .ok (.aload_n 0, 1) ∧ decode cLaw_law 467 = .ok (.iload 4, 2) ∧ decode cLaw_law 469 = .ok (.iconst 3, 1) ∧ decode cLaw_law 470 = .ok (.iadd, 1) ∧ decode cLaw_law 471 = .ok (.iaload, 1) ∧ decode cLaw_law 472 = .ok (.invokevirtual 191, 3) ∧ decode cLaw_law 475 = .ok (.istore 6, 2) ∧ decode cLaw_law 477 = .ok (.goto 1661, 3) ∧ decode cLaw_law 480 = .ok (.aload_n 1, 1) ∧ decode cLaw_law 481 = .ok (.aload_n 0, 1) ∧ decode cLaw_law 482 = .ok (.iload 4, 2) ∧ decode cLaw_law 484 = .ok (.iconst 1, 1) ∧ decode cLaw_law 485 = .ok (.iadd, 1) ∧ decode cLaw_law 486 = .ok (.iaload, 1) ∧ True := Jvm.Free.DS.facts (code := cLaw_law) 442 [(.iload 4, 2), (.iconst 3, 1), (.iadd, 1), (.iaload, 1), (.aload_n 3, 1), (.invokestatic 189, 3), (.istore 5, 2), (.aload_n 2, 1), (.aload_n 0, 1), (.iload 4, 2), (.iconst 1, 1), (.iadd, 1), (.iaload, 1), (.aload_n 0, 1), (.iload 4, 2), (.iconst 2, 1), (.iadd, 1), (.iaload, 1), (.aload_n 0, 1), (.iload 4, 2), (.iconst 3, 1), (.iadd, 1), (.iaload, 1), (.invokevirtual 191, 3), (.istore 6, 2), (.goto 1661, 3), (.aload_n 1, 1), (.aload_n 0, 1), (.iload 4, 2), (.iconst 1, 1), (.iadd, 1), (.iaload, 1)] (by decide +kernel) (by decide +kernel)
theorem dLaw_law_442 : decode cLaw_law 442 = .ok (.iload 4, 2) := zfLaw_law_442.1
theorem dLaw_law_444 : decode cLaw_law 444 = .ok (.iconst 3, 1) := zfLaw_law_442.2.1
theorem dLaw_law_445 : decode cLaw_law 445 = .ok (.iadd, 1) := zfLaw_law_442.2.2.1
theorem dLaw_law_446 : decode cLaw_law 446 = .ok (.iaload, 1) := zfLaw_law_442.2.2.2.1
theorem dLaw_law_447 : decode cLaw_law 447 = .ok (.aload_n 3, 1) := zfLaw_law_442.2.2.2.2.1
theorem dLaw_law_448 : decode cLaw_law 448 = .ok (.invokestatic 189, 3) := zfLaw_law_442.2.2.2.2.2.1
theorem dLaw_law_451 : decode cLaw_law 451 = .ok (.istore 5, 2) := zfLaw_law_442.2.2.2.2.2.2.1
theorem dLaw_law_453 : decode cLaw_law 453 = .ok (.aload_n 2, 1) := zfLaw_law_442.2.2.2.2.2.2.2.1
theorem dLaw_law_454 : decode cLaw_law 454 = .ok (.aload_n 0, 1) := zfLaw_law_442.2.2.2.2.2.2.2.2.1
theorem dLaw_law_455 : decode cLaw_law 455 = .ok (.iload 4, 2) := zfLaw_law_442.2.2.2.2.2.2.2.2.2.1
theorem dLaw_law_457 : decode cLaw_law 457 = .ok (.iconst 1, 1) := zfLaw_law_442.2.2.2.2.2.2.2.2.2.2.1
theorem dLaw_law_458 : decode cLaw_law 458 = .ok (.iadd, 1) := zfLaw_law_442.2.2.2.2.2.2.2.2.2.2.2.1
theorem dLaw_law_459 : decode cLaw_law 459 = .ok (.iaload, 1) := zfLaw_law_442.2.2.2.2.2.2.2.2.2.2.2.2.1
theorem dLaw_law_460 : decode cLaw_law 460 = .ok (.aload_n 0, 1) := zfLaw_law_442.2.2.2.2.2.2.2.2.2.2.2.2.2.1
theorem dLaw_law_461 : decode cLaw_law 461 = .ok (.iload 4, 2) := zfLaw_law_442.2.2.2.2.2.2.2.2.2.2.2.2.2.2.1
theorem dLaw_law_463 : decode cLaw_law 463 = .ok (.iconst 2, 1) := zfLaw_law_442.2.2.2.2.2.2.2.2.2.2.2.2.2.2.2.1
theorem dLaw_law_464 : decode cLaw_law 464 = .ok (.iadd, 1) := zfLaw_law_442.2.2.2.2.2.2.2.2.2.2.2.2.2.2.2.2.1
theorem dLaw_law_465 : decode cLaw_law 465 = .ok (.iaload, 1) := zfLaw_law_442.2.2.2.2.2.2.2.2.2.2.2.2.2.2.2.2.2.1
theorem dLaw_law_466 : decode cLaw_law 466 = .ok (.aload_n 0, 1) := zfLaw_law_442.2.2.2.2.2.2.2.2.2.2.2.2.2.2.2.2.2.2.1
theorem dLaw_law_467 : decode cLaw_law 467 = .ok (.iload 4, 2) := zfLaw_law_442.2.2.2.2.2.2.2.2.2.2.2.2.2.2.2.2.2.2.2.1
theorem dLaw_law_469 : decode cLaw_law 469 = .ok (.iconst 3, 1) := zfLaw_law_442.2.2.2.2.2.2.2.2.2.2.2.2.2.2.2.2.2.2.2.2.1
theorem dLaw_law_470 : decode cLaw_law 470 = .ok (.iadd, 1) := zfLaw_law_442.2.2.2.2.2.2.2.2.2.2.2.2.2.2.2.2.2.2.2.2.2.1
theorem dLaw_law_471 : decode cLaw_law 471 = .ok (.iaload, 1) := zfLaw_law_442.2.2.2.2.2.2.2.2.2.2.2.2.2.2.2.2.2.2.2.2.2.2.1
theorem dLaw_law_472 : decode cLaw_law 472 = .ok (.invokevirtual 191, 3) := zfLaw_law_442.2.2.2.2.2.2.2.2.2.2.2.2.2.2.2.2.2.2.2.2.2.2.2.1
theorem dLaw_law_475 : decode cLaw_law 475 = .ok (.istore 6, 2) := zfLaw_law_442.2.2.2.2.2.2.2.2.2.2.2.2.2.2.2.2.2.2.2.2.2.2.2.2.1
theorem dLaw_law_477 : decode cLaw_law 477 = .ok (.goto 1661, 3) := zfLaw_law_442.2.2.2.2.2.2.2.2.2.2.2.2.2.2.2.2.2.2.2.2.2.2.2.2.2.1
theorem dLaw_law_480 : decode cLaw_law 480 = .ok (.aload_n 1, 1) := zfLaw_law_442.2.2.2.2.2.2.2.2.2.2.2.2.2.2.2.2.2.2.2.2.2.2.2.2.2.2.1
theorem dLaw_law_481 : decode cLaw_law 481 = .ok (.aload_n 0, 1) := zfLaw_law_442.2.2.2.2.2.2.2.2.2.2.2.2.2.2.2.2.2.2.2.2.2.2.2.2.2.2.2.1
theorem dLaw_law_482 : decode cLaw_law 482 = .ok (.iload 4, 2) := zfLaw_law_442.2.2.2.2.2.2.2.2.2.2.2.2.2.2.2.2.2.2.2.2.2.2.2.2.2.2.2.2.1
theorem dLaw_law_484 : decode cLaw_law 484 = .ok (.iconst 1, 1) := zfLaw_law_442.2.2.2.2.2.2.2.2.2.2.2.2.2.2.2.2.2.2.2.2.2.2.2.2.2.2.2.2.2.1
theorem dLaw_law_485 : decode cLaw_law 485 = .ok (.iadd, 1) := zfLaw_law_442.2.2.2.2.2.2.2.2.2.2.2.2.2.2.2.2.2.2.2.2.2.2.2.2.2.2.2.2.2.2.1
theorem dLaw_law_486 : decode cLaw_law 486 = .ok (.iaload, 1) := zfLaw_law_442.2.2.2.2.2.2.2.2.2.2.2.2.2.2.2.2.2.2.2.2.2.2.2.2.2.2.2.2.2.2.2.1
theorem zfLaw_law_487 : decode cLaw_law 487 = .ok (.aload_n 0, 1) ∧ decode cLaw_law 488 = .ok (.iload 4, 2) ∧ decode cLaw_law 490 = .ok (.iconst 2, 1) ∧ decode cLaw_law 491 = .ok (.iadd, 1) ∧ decode cLaw_law 492 = .ok (.iaload, 1) ∧ decode cLaw_law 493 = .ok (.aload_n 0, 1) ∧ decode cLaw_law 494 = .ok (.iload 4, 2) ∧ decode cLaw_law 496 = .ok (.iconst 3, 1) ∧ decode cLaw_law 497 = .ok (.iadd, 1) ∧ decode cLaw_law 498 = .ok (.iaload, 1) ∧ decode cLaw_law 499 = .ok (.aload_n 3, 1) ∧ decode cLaw_law 500 = .ok (.invokestatic 192, 3) ∧ decode cLaw_law 503 = .ok (.istore 5, 2) ∧ decode cLaw_law 505 = .ok (.aload_n 2, 1) ∧ decode cLaw_law 506 = .ok (.aload_n 0, 1) ∧ decode cLaw_law 507 = .ok (.iload 4, 2) ∧ decode cLaw_law 509 = .ok (.iconst 1, 1) ∧ decode cLaw_law 510 = .ok (.iadd, 1) ∧ decode cLaw_law 511 = .ok (.iaload, 1) ∧ decode cLaw_law 512 = .ok (.aload_n 0, 1) ∧ decode cLaw_law 513 = .ok (.iload 4, 2) ∧ decode cLaw_law 515 = .ok (.iconst 2, 1) ∧ decode cLaw_law 516 = .ok (.iadd, 1) ∧ decode cLaw_law 517 = .ok (.iaload, 1) ∧ decode cLaw_law 518 = .ok (.aload_n 0, 1) ∧ decode cLaw_law 519 = .ok (.iload 4, 2) ∧ decode cLaw_law 521 = .ok (.iconst 3, 1) ∧ decode cLaw_law 522 = .ok (.iadd, 1) ∧ decode cLaw_law 523 = .ok (.iaload, 1) ∧ decode cLaw_law 524 = .ok (.invokevirtual 194, 3) ∧ decode cLaw_law 527 = .ok (.istore 6, 2) ∧ decode cLaw_law 529 = .ok (.goto 1609, 3) ∧ True := Jvm.Free.DS.facts (code := cLaw_law) 487 [(.aload_n 0, 1), (.iload 4, 2), (.iconst 2, 1), (.iadd, 1), (.iaload, 1), (.aload_n 0, 1), (.iload 4, 2), (.iconst 3, 1), (.iadd, 1), (.iaload, 1), (.aload_n 3, 1), (.invokestatic 192, 3), (.istore 5, 2), (.aload_n 2, 1), (.aload_n 0, 1), (.iload 4, 2), (.iconst 1, 1), (.iadd, 1), (.iaload, 1), (.aload_n 0, 1), (.iload 4, 2), (.iconst 2, 1), (.iadd, 1), (.iaload, 1), (.aload_n 0, 1), (.iload 4, 2), (.iconst 3, 1), (.iadd, 1), (.iaload, 1), (.invokevirtual 194, 3), (.istore 6, 2), (.goto 1609, 3)] (by decide +kernel) (by decide +kernel)
theorem dLaw_law_487 : decode cLaw_law 487 = .ok (.aload_n 0, 1) := zfLaw_law_487.1
theorem dLaw_law_488 : decode cLaw_law 488 = .ok (.iload 4, 2) := zfLaw_law_487.2.1
theorem dLaw_law_490 : decode cLaw_law 490 = .ok (.iconst 2, 1) := zfLaw_law_487.2.2.1
theorem dLaw_law_491 : decode cLaw_law 491 = .ok (.iadd, 1) := zfLaw_law_487.2.2.2.1
theorem dLaw_law_492 : decode cLaw_law 492 = .ok (.iaload, 1) := zfLaw_law_487.2.2.2.2.1
theorem dLaw_law_493 : decode cLaw_law 493 = .ok (.aload_n 0, 1) := zfLaw_law_487.2.2.2.2.2.1
theorem dLaw_law_494 : decode cLaw_law 494 = .ok (.iload 4, 2) := zfLaw_law_487.2.2.2.2.2.2.1
theorem dLaw_law_496 : decode cLaw_law 496 = .ok (.iconst 3, 1) := zfLaw_law_487.2.2.2.2.2.2.2.1
theorem dLaw_law_497 : decode cLaw_law 497 = .ok (.iadd, 1) := zfLaw_law_487.2.2.2.2.2.2.2.2.1
theorem dLaw_law_498 : decode cLaw_law 498 = .ok (.iaload, 1) := zfLaw_law_487.2.2.2.2.2.2.2.2.2.1
theorem dLaw_law_499 : decode cLaw_law 499 = .ok (.aload_n 3, 1) := zfLaw_law_487.2.2.2.2.2.2.2.2.2.2.1
theorem dLaw_law_500 : decode cLaw_law 500 = .ok (.invokestatic 192, 3) := zfLaw_law_487.2.2.2.2.2.2.2.2.2.2.2.1
theorem dLaw_law_503 : decode cLaw_law 503 = .ok (.istore 5, 2) := zfLaw_law_487.2.2.2.2.2.2.2.2.2.2.2.2.1
theorem dLaw_law_505 : decode cLaw_law 505 = .ok (.aload_n 2, 1) := zfLaw_law_487.2.2.2.2.2.2.2.2.2.2.2.2.2.1
theorem dLaw_law_506 : decode cLaw_law 506 = .ok (.aload_n 0, 1) := zfLaw_law_487.2.2.2.2.2.2.2.2.2.2.2.2.2.2.1
theorem dLaw_law_507 : decode cLaw_law 507 = .ok (.iload 4, 2) := zfLaw_law_487.2.2.2.2.2.2.2.2.2.2.2.2.2.2.2.1
theorem dLaw_law_509 : decode cLaw_law 509 = .ok (.iconst 1, 1) := zfLaw_law_487.2.2.2.2.2.2.2.2.2.2.2.2.2.2.2.2.1
theorem dLaw_law_510 : decode cLaw_law 510 = .ok (.iadd, 1) := zfLaw_law_487.2.2.2.2.2.2.2.2.2.2.2.2.2.2.2.2.2.1
theorem dLaw_law_511 : decode cLaw_law 511 = .ok (.iaload, 1) := zfLaw_law_487.2.2.2.2.2.2.2.2.2.2.2.2.2.2.2.2.2.2.1
theorem dLaw_law_512 : decode cLaw_law 512 = .ok (.aload_n 0, 1) := zfLaw_law_487.2.2.2.2.2.2.2.2.2.2.2.2.2.2.2.2.2.2.2.1
theorem dLaw_law_513 : decode cLaw_law 513 = .ok (.iload 4, 2) := zfLaw_law_487.2.2.2.2.2.2.2.2.2.2.2.2.2.2.2.2.2.2.2.2.1
theorem dLaw_law_515 : decode cLaw_law 515 = .ok (.iconst 2, 1) := zfLaw_law_487.2.2.2.2.2.2.2.2.2.2.2.2.2.2.2.2.2.2.2.2.2.1
theorem dLaw_law_516 : decode cLaw_law 516 = .ok (.iadd, 1) := zfLaw_law_487.2.2.2.2.2.2.2.2.2.2.2.2.2.2.2.2.2.2.2.2.2.2.1
theorem dLaw_law_517 : decode cLaw_law 517 = .ok (.iaload, 1) := zfLaw_law_487.2.2.2.2.2.2.2.2.2.2.2.2.2.2.2.2.2.2.2.2.2.2.2.1
theorem dLaw_law_518 : decode cLaw_law 518 = .ok (.aload_n 0, 1) := zfLaw_law_487.2.2.2.2.2.2.2.2.2.2.2.2.2.2.2.2.2.2.2.2.2.2.2.2.1
theorem dLaw_law_519 : decode cLaw_law 519 = .ok (.iload 4, 2) := zfLaw_law_487.2.2.2.2.2.2.2.2.2.2.2.2.2.2.2.2.2.2.2.2.2.2.2.2.2.1
theorem dLaw_law_521 : decode cLaw_law 521 = .ok (.iconst 3, 1) := zfLaw_law_487.2.2.2.2.2.2.2.2.2.2.2.2.2.2.2.2.2.2.2.2.2.2.2.2.2.2.1
theorem dLaw_law_522 : decode cLaw_law 522 = .ok (.iadd, 1) := zfLaw_law_487.2.2.2.2.2.2.2.2.2.2.2.2.2.2.2.2.2.2.2.2.2.2.2.2.2.2.2.1
theorem dLaw_law_523 : decode cLaw_law 523 = .ok (.iaload, 1) := zfLaw_law_487.2.2.2.2.2.2.2.2.2.2.2.2.2.2.2.2.2.2.2.2.2.2.2.2.2.2.2.2.1
theorem dLaw_law_524 : decode cLaw_law 524 = .ok (.invokevirtual 194, 3) := zfLaw_law_487.2.2.2.2.2.2.2.2.2.2.2.2.2.2.2.2.2.2.2.2.2.2.2.2.2.2.2.2.2.1
theorem dLaw_law_527 : decode cLaw_law 527 = .ok (.istore 6, 2) := zfLaw_law_487.2.2.2.2.2.2.2.2.2.2.2.2.2.2.2.2.2.2.2.2.2.2.2.2.2.2.2.2.2.2.1
theorem dLaw_law_529 : decode cLaw_law 529 = .ok (.goto 1609, 3) := zfLaw_law_487.2.2.2.2.2.2.2.2.2.2.2.2.2.2.2.2.2.2.2.2.2.2.2.2.2.2.2.2.2.2.2.1
theorem zfLaw_law_532 : decode cLaw_law 532 = .ok (.aload_n 1, 1) ∧ decode cLaw_law 533 = .ok (.aload_n 0, 1) ∧ decode cLaw_law 534 = .ok (.iload 4, 2) ∧ decode cLaw_law 536 = .ok (.iconst 1, 1) ∧ decode cLaw_law 537 = .ok (.iadd, 1) ∧ decode cLaw_law 538 = .ok (.iaload, 1) ∧ decode cLaw_law 539 = .ok (.aload_n 0, 1) ∧ decode cLaw_law 540 = .ok (.iload 4, 2) ∧ decode cLaw_law 542 = .ok (.iconst 2, 1) ∧ decode cLaw_law 543 = .ok (.iadd, 1) ∧ decode cLaw_law 544 = .ok (.iaload, 1) ∧ decode cLaw_law 545 = .ok (.aload_n 3, 1) ∧ decode cLaw_law 546 = .ok (.invokestatic 195, 3) ∧ decode cLaw_law 549 = .ok (.istore 5, 2) ∧ decode cLaw_law 551 = .ok (.aload_n 2, 1) ∧ decode cLaw_law 552 = .ok (.aload_n 0, 1) ∧ decode cLaw_law 553 = .ok (.iload 4, 2) ∧ decode cLaw_law 555 = .ok (.iconst 1, 1) ∧ decode cLaw_law 556 = .ok (.iadd, 1) ∧ decode cLaw_law 557 = .ok (.iaload, 1) ∧ decode cLaw_law 558 = .ok (.aload_n 0, 1) ∧ decode cLaw_law 559 = .ok (.iload 4, 2) ∧ decode cLaw_law 561 = .ok (.iconst 2, 1) ∧ decode cLaw_law 562 = .ok (.iadd, 1) ∧ decode cLaw_law 563 = .ok (.iaload, 1) ∧ decode cLaw_law 564 = .ok (.invokevirtual 197, 3) ∧ decode cLaw_law 567 = .ok (.istore 6, 2) ∧ decode cLaw_law 569 = .ok (.goto 1569, 3) ∧ decode cLaw_law 572 = .ok (.aload_n 1, 1) ∧ decode cLaw_law 573 = .ok (.aload_n 0, 1) ∧ decode cLaw_law 574 = .ok (.iload 4, 2) ∧ decode cLaw_law 576 = .ok (.iconst 1, 1) ∧ True := Jvm.Free.DS.facts (code := cLaw_law) 532 [(.aload_n 1, 1), (.aload_n 0, 1), (.iload 4, 2), (.iconst 1, 1), (.iadd, 1), (.iaload, 1), (.aload_n 0, 1), (.iload 4, 2), (.iconst 2, 1), (.iadd, 1), (.iaload, 1), (.aload_n 3, 1), (.invokestatic 195, 3), (.istore 5, 2), (.aload_n 2, 1), (.aload_n 0, 1), (.iload 4, 2), (.iconst 1, 1), (.iadd, 1), (.iaload, 1), (.aload_n 0, 1), (.iload 4, 2), (.iconst 2, 1), (.iadd, 1), (.iaload, 1), (.invokevirtual 197, 3), (.istore 6, 2), (.goto 1569, 3), (.aload_n 1, 1), (.aload_n 0, 1), (.iload 4, 2), (.iconst 1, 1)] (by decide +kernel) (by decide +kernel)
theorem dLaw_law_532 : decode cLaw_law 532 = .ok (.aload_n 1, 1) := zfLaw_law_532.1
theorem dLaw_law_533 : decode cLaw_law 533 = .ok (.aload_n 0, 1) := zfLaw_law_532.2.1
theorem dLaw_law_534 : decode cLaw_law 534 = .ok (.iload 4, 2) := zfLaw_law_532.2.2.1
theorem dLaw_law_536 : decode cLaw_law 536 = .ok (.iconst 1, 1) := zfLaw_law_532.2.2.2.1
theorem dLaw_law_537 : decode cLaw_law 537 = .ok (.iadd, 1) := zfLaw_law_532.2.2.2.2.1
theorem dLaw_law_538 : decode cLaw_law 538 = .ok (.iaload, 1) := zfLaw_law_532.2.2.2.2.2.1
theorem dLaw_law_539 : decode cLaw_law 539 = .ok (.aload_n 0, 1) := zfLaw_law_532.2.2.2.2.2.2.1
theorem dLaw_law_540 : decode cLaw_law 540 = .ok (.iload 4, 2) := zfLaw_law_532.2.2.2.2.2.2.2.1
theorem dLaw_law_542 : decode cLaw_law 542 = .ok (.iconst 2, 1) := zfLaw_law_532.2.2.2.2.2.2.2.2.1
theorem dLaw_law_543 : decode cLaw_law 543 = .ok (.iadd, 1) := zfLaw_law_532.2.2.2.2.2.2.2.2.2.1
theorem dLaw_law_544 : decode cLaw_law 544 = .ok (.iaload, 1) := zfLaw_law_532.2.2.2.2.2.2.2.2.2.2.1
theorem dLaw_law_545 : decode cLaw_law 545 = .ok (.aload_n 3, 1) := zfLaw_law_532.2.2.2.2.2.2.2.2.2.2.2.1
theorem dLaw_law_546 : decode cLaw_law 546 = .ok (.invokestatic 195, 3) := zfLaw_law_532.2.2.2.2.2.2.2.2.2.2.2.2.1
theorem dLaw_law_549 : decode cLaw_law 549 = .ok (.istore 5, 2) := zfLaw_law_532.2.2.2.2.2.2.2.2.2.2.2.2.2.1
theorem dLaw_law_551 : decode cLaw_law 551 = .ok (.aload_n 2, 1) := zfLaw_law_532.2.2.2.2.2.2.2.2.2.2.2.2.2.2.1
theorem dLaw_law_552 : decode cLaw_law 552 = .ok (.aload_n 0, 1) := zfLaw_law_532.2.2.2.2.2.2.2.2.2.2.2.2.2.2.2.1
theorem dLaw_law_553 : decode cLaw_law 553 = .ok (.iload 4, 2) := zfLaw_law_532.2.2.2.2.2.2.2.2.2.2.2.2.2.2.2.2.1
theorem dLaw_law_555 : decode cLaw_law 555 = .ok (.iconst 1, 1) := zfLaw_law_532.2.2.2.2.2.2.2.2.2.2.2.2.2.2.2.2.2.1
theorem dLaw_law_556 : decode cLaw_law 556 = .ok (.iadd, 1) := zfLaw_law_532.2.2.2.2.2.2.2.2.2.2.2.2.2.2.2.2.2.2.1
theorem dLaw_law_557 : decode cLaw_law 557 = .ok (.iaload, 1) := zfLaw_law_532.2.2.2.2.2.2.2.2.2.2.2.2.2.2.2.2.2.2.2.1
theorem dLaw_law_558 : decode cLaw_law 558 = .ok (.aload_n 0, 1) := zfLaw_law_532.2.2.2.2.2.2.2.2.2.2.2.2.2.2.2.2.2.2.2.2.1
theorem dLaw_law_559 : decode cLaw_law 559 = .ok (.iload 4, 2) := zfLaw_law_532.2.2.2.2.2.2.2.2.2.2.2.2.2.2.2.2.2.2.2.2.2.1
theorem dLaw_law_561 : decode cLaw_law 561 = .ok (.iconst 2, 1) := zfLaw_law_532.2.2.2.2.2.2.2.2.2.2.2.2.2.2.2.2.2.2.2.2.2.2.1
theorem dLaw_law_562 : decode cLaw_law 562 = .ok (.iadd, 1) := zfLaw_law_532.2.2.2.2.2.2.2.2.2.2.2.2.2.2.2.2.2.2.2.2.2.2.2.1
theorem dLaw_law_563 : decode cLaw_law 563 = .ok (.iaload, 1) := zfLaw_law_532.2.2.2.2.2.2.2.2.2.2.2.2.2.2.2.2.2.2.2.2.2.2.2.2.1
theorem dLaw_law_564 : decode cLaw_law 564 = .ok (.invokevirtual 197, 3) := zfLaw_law_532.2.2.2.2.2.2.2.2.2.2.2.2.2.2.2.2.2.2.2.2.2.2.2.2.2.1
theorem dLaw_law_567 : decode cLaw_law 567 = .ok (.istore 6, 2) := zfLaw_law_532.2.2.2.2.2.2.2.2.2.2.2.2.2.2.2.2.2.2.2.2.2.2.2.2.2.2.1
theorem dLaw_law_569 : decode cLaw_law 569 = .ok (.goto 1569, 3) := zfLaw_law_532.2.2.2.2.2.2.2.2.2.2.2.2.2.2.2.2.2.2.2.2.2.2.2.2.2.2.2.1
theorem dLaw_law_572 : decode cLaw_law 572 = .ok (.aload_n 1, 1) := zfLaw_law_532.2.2.2.2.2.2.2.2.2.2.2.2.2.2.2.2.2.2.2.2.2.2.2.2.2.2.2.2.1
theorem dLaw_law_573 : decode cLaw_law 573 = .ok (.aload_n 0, 1) := zfLaw_law_532.2.2.2.2.2.2.2.2.2.2.2.2.2.2.2.2.2.2.2.2.2.2.2.2.2.2.2.2.2.1
theorem dLaw_law_574 : decode cLaw_law 574 = .ok (.iload 4, 2) := zfLaw_law_532.2.2.2.2.2.2.2.2.2.2.2.2.2.2.2.2.2.2.2.2.2.2.2.2.2.2.2.2.2.2.1
theorem dLaw_law_576 : decode cLaw_law 576 = .ok (.iconst 1, 1) := zfLaw_law_532.2.2.2.2.2.2.2.2.2.2.2.2.2.2.2.2.2.2.2.2.2.2.2.2.2.2.2.2.2.2.2.1
theorem zfLaw_law_577 : decode cLaw_law 577 = .ok (.iadd, 1) ∧ decode cLaw_law 578 = .ok (.iaload, 1) ∧ decode cLaw_law 579 = .ok (.aload_n 0, 1) ∧ decode cLaw_law 580 = .ok (.iload 4, 2) ∧ decode cLaw_law 582 = .ok (.iconst 2, 1) ∧ decode cLaw_law 583 = .ok (.iadd, 1) ∧ decode cLaw_law 584 = .ok (.iaload, 1) ∧ decode cLaw_law 585 = .ok (.aload_n 0, 1) ∧ decode cLaw_law 586 = .ok (.iload 4, 2) ∧ decode cLaw_law 588 = .ok (.iconst 3, 1) ∧ decode cLaw_law 589 = .ok (.iadd, 1) ∧ decode cLaw_law 590 = .ok (.iaload, 1) ∧ decode cLaw_law 591 = .ok (.ifCond .eq 7, 3) ∧ decode cLaw_law 594 = .ok (.iconst 1, 1) ∧ decode cLaw_law 595 = .ok (.goto 4, 3) ∧ decode cLaw_law 598 = .ok (.iconst 0, 1) ∧ decode cLaw_law 599 = .ok (.aload_n 3, 1) ∧ decode cLaw_law 600 = .ok (.invokestatic 198, 3) ∧ decode cLaw_law 603 = .ok (.istore 5, 2) ∧ decode cLaw_law 605 = .ok (.aload_n 2, 1) ∧ decode cLaw_law 606 = .ok (.aload_n 0, 1) ∧ decode cLaw_law 607 = .ok (.iload 4, 2) ∧ decode cLaw_law 609 = .ok (.iconst 1, 1) ∧ decode cLaw_law 610 = .ok (.iadd, 1) ∧ decode cLaw_law 611 = .ok (.iaload, 1) ∧ decode cLaw_law 612 = .ok (.aload_n 0, 1) ∧ decode cLaw_law 613 = .ok (.iload 4, 2) ∧ decode cLaw_law 615 = .ok (.iconst 2, 1) ∧ decode cLaw_law 616 = .ok (.iadd, 1) ∧ decode cLaw_law 617 = .ok (.iaload, 1) ∧ decode cLaw_law 618 = .ok (.aload_n 0, 1) ∧ decode cLaw_law 619 = .ok (.iload 4, 2) ∧ True := Jvm.Free.DS.facts (code := cLaw_law) 577 [(.iadd, 1), (.iaload, 1), (.aload_n 0, 1), (.iload 4, 2), (.iconst 2, 1), (.iadd, 1), (.iaload, 1), (.aload_n 0, 1), (.iload 4, 2), (.iconst 3, 1), (.iadd, 1), (.iaload, 1), (.ifCond .eq 7, 3), (.iconst 1, 1), (.goto 4, 3), (.iconst 0, 1), (.aload_n 3, 1), (.invokestatic 198, 3), (.istore 5, 2), (.aload_n 2, 1), (.aload_n 0, 1), (.iload 4, 2), (.iconst 1, 1), (.iadd, 1), (.iaload, 1), (.aload_n 0, 1), (.iload 4, 2), (.iconst 2, 1), (.iadd, 1), (.iaload, 1), (.aload_n 0, 1), (.iload 4, 2)] (by decide +kernel) (by decide +kernel)
theorem dLaw_law_577 : decode cLaw_law 577 = .ok (.iadd, 1) := zfLaw_law_577.1
theorem dLaw_law_578 : decode cLaw_law 578 = .ok (.iaload, 1) := zfLaw_law_577.2.1
theorem dLaw_law_579 : decode cLaw_law 579 = .ok (.aload_n 0, 1) := zfLaw_law_577.2.2.1
theorem dLaw_law_580 : decode cLaw_law 580 = .ok (.iload 4, 2) := zfLaw_law_577.2.2.2.1
theorem dLaw_law_582 : decode cLaw_law 582 = .ok (.iconst 2, 1) := zfLaw_law_577.2.2.2.2.1
theorem dLaw_law_583 : decode cLaw_law 583 = .ok (.iadd, 1) := zfLaw_law_577.2.2.2.2.2.1
theorem dLaw_law_584 : decode cLaw_law 584 = .ok (.iaload, 1) := zfLaw_law_577.2.2.2.2.2.2.1
theorem dLaw_law_585 : decode cLaw_law 585 = .ok (.aload_n 0, 1) := zfLaw_law_577.2.2.2.2.2.2.2.1
theorem dLaw_law_586 : decode cLaw_law 586 = .ok (.iload 4, 2) := zfLaw_law_577.2.2.2.2.2.2.2.2.1
theorem dLaw_law_588 : decode cLaw_law 588 = .ok (.iconst 3, 1) := zfLaw_law_577.2.2.2.2.2.2.2.2.2.1
theorem dLaw_law_589 : decode cLaw_law 589 = .ok (.iadd, 1) := zfLaw_law_577.2.2.2.2.2.2.2.2.2.2.1
theorem dLaw_law_590 : decode cLaw_law 590 = .ok (.iaload, 1) := zfLaw_law_577.2.2.2.2.2.2.2.2.2.2.2.1
theorem dLaw_law_591 : decode cLaw_law 591 = .ok (.ifCond .eq 7, 3) := zfLaw_law_577.2.2.2.2.2.2.2.2.2.2.2.2.1
theorem dLaw_law_594 : decode cLaw_law 594 = .ok (.iconst 1, 1) := zfLaw_law_577.2.2.2.2.2.2.2.2.2.2.2.2.2.1
theorem dLaw_law_595 : decode cLaw_law 595 = .ok (.goto 4, 3) := zfLaw_law_577.2.2.2.2.2.2.2.2.2.2.2.2.2.2.1
theorem dLaw_law_598 : decode cLaw_law 598 = .ok (.iconst 0, 1) := zfLaw_law_577.2.2.2.2.2.2.2.2.2.2.2.2.2.2.2.1
theorem dLaw_law_599 : decode cLaw_law 599 = .ok (.aload_n 3, 1) := zfLaw_law_577.2.2.2.2.2.2.2.2.2.2.2.2.2.2.2.2.1
theorem dLaw_law_600 : decode cLaw_law 600 = .ok (.invokestatic 198, 3) := zfLaw_law_577.2.2.2.2.2.2.2.2.2.2.2.2.2.2.2.2.2.1
theorem dLaw_law_603 : decode cLaw_law 603 = .ok (.istore 5, 2) := zfLaw_law_577.2.2.2.2.2.2.2.2.2.2.2.2.2.2.2.2.2.2.1
theorem dLaw_law_605 : decode cLaw_law 605 = .ok (.aload_n 2, 1) := zfLaw_law_577.2.2.2.2.2.2.2.2.2.2.2.2.2.2.2.2.2.2.2.1
theorem dLaw_law_606 : decode cLaw_law 606 = .ok (.aload_n 0, 1) := zfLaw_law_577.2.2.2.2.2.2.2.2.2.2.2.2.2.2.2.2.2.2.2.2.1
theorem dLaw_law_607 : decode cLaw_law 607 = .ok (.iload 4, 2) := zfLaw_law_577.2.2.2.2.2.2.2.2.2.2.2.2.2.2.2.2.2.2.2.2.2.1
theorem dLaw_law_609 : decode cLaw_law 609 = .ok (.iconst 1, 1) := zfLaw_law_577.2.2.2.2.2.2.2.2.2.2.2.2.2.2.2.2.2.2.2.2.2.2.1
theorem dLaw_law_610 : decode cLaw_law 610 = .ok (.iadd, 1) := zfLaw_law_577.2.2.2.2.2.2.2.2.2.2.2.2.2.2.2.2.2.2.2.2.2.2.2.1
theorem dLaw_law_611 : decode cLaw_law 611 = .ok (.iaload, 1) := zfLaw_law_577.2.2.2.2.2.2.2.2.2.2.2.2.2.2.2.2.2.2.2.2.2.2.2.2.1
theorem dLaw_law_612 : decode cLaw_law 612 = .ok (.aload_n 0, 1) := zfLaw_law_577.2.2.2.2.2.2.2.2.2.2.2.2.2.2.2.2.2.2.2.2.2.2.2.2.2.1
theorem dLaw_law_613 : decode cLaw_law 613 = .ok (.iload 4, 2) := zfLaw_law_577.2.2.2.2.2.2.2.2.2.2.2.2.2.2.2.2.2.2.2.2.2.2.2.2.2.2.1
theorem dLaw_law_615 : decode cLaw_law 615 = .ok (.iconst 2, 1) := zfLaw_law_577.2.2.2.2.2.2.2.2.2.2.2.2.2.2.2.2.2.2.2.2.2.2.2.2.2.2.2.1
theorem dLaw_law_616 : decode cLaw_law 616 = .ok (.iadd, 1) := zfLaw_law_577.2.2.2.2.2.2.2.2.2.2.2.2.2.2.2.2.2.2.2.2.2.2.2.2.2.2.2.2.1
theorem dLaw_law_617 : decode cLaw_law 617 = .ok (.iaload, 1) := zfLaw_law_577.2.2.2.2.2.2.2.2.2.2.2.2.2.2.2.2.2.2.2.2.2.2.2.2.2.2.2.2.2.1
theorem dLaw_law_618 : decode cLaw_law 618 = .ok (.aload_n 0, 1) := zfLaw_law_577.2.2.2.2.2.2.2.2.2.2.2.2.2.2.2.2.2.2.2.2.2.2.2.2.2.2.2.2.2.2.1
theorem dLaw_law_619 : decode cLaw_law 619 = .ok (.iload 4, 2) := zfLaw_law_577.2.2.2.2.2.2.2.2.2.2.2.2.2.2.2.2.2.2.2.2.2.2.2.2.2.2.2.2.2.2.2.1
theorem zfLaw_law_621 : decode cLaw_law 621 = .ok (.iconst 3, 1) ∧ decode cLaw_law 622 = .ok (.iadd, 1) ∧ decode cLaw_law 623 = .ok (.iaload, 1) ∧ decode cLaw_law 624 = .ok (.ifCond .eq 7, 3) ∧ decode cLaw_law 627 = .ok (.iconst 1, 1) ∧ decode cLaw_law 628 = .ok (.goto 4, 3) ∧ decode cLaw_law 631 = .ok (.iconst 0, 1) ∧ decode cLaw_law 632 = .ok (.invokevirtual 201, 3) ∧ decode cLaw_law 635 = .ok (.istore 6, 2) ∧ decode cLaw_law 637 = .ok (.goto 1501, 3) ∧ decode cLaw_law 640 = .ok (.aload_n 1, 1) ∧ decode cLaw_law 641 = .ok (.aload_n 0, 1) ∧ decode cLaw_law 642 = .ok (.iload 4, 2) ∧ decode cLaw_law 644 = .ok (.iconst 1, 1) ∧ decode cLaw_law 645 = .ok (.iadd, 1) ∧ decode cLaw_law 646 = .ok (.iaload, 1) ∧ decode cLaw_law 647 = .ok (.aload_n 0, 1) ∧ decode cLaw_law 648 = .ok (.iload 4, 2) ∧ decode cLaw_law 650 = .ok (.iconst 2, 1) ∧ decode cLaw_law 651 = .ok (.iadd, 1) ∧ decode cLaw_law 652 = .ok (.iaload, 1) ∧ decode cLaw_law 653 = .ok (.aload_n 3, 1) ∧ decode cLaw_law 654 = .ok (.invokestatic 202, 3) ∧ decode cLaw_law 657 = .ok (.istore 5, 2) ∧ decode cLaw_law 659 = .ok (.aload_n 2, 1) ∧ decode cLaw_law 660 = .ok (.aload_n 0, 1) ∧ decode cLaw_law 661 = .ok (.iload 4, 2) ∧ decode cLaw_law 663 = .ok (.iconst 1, 1) ∧ decode cLaw_law 664 = .ok (.iadd, 1) ∧ decode cLaw_law 665 = .ok (.iaload, 1) ∧ decode cLaw_law 666 = .ok (.aload_n 0, 1) ∧ decode cLaw_law 667 = .ok (.iload 4, 2) ∧ True := Jvm.Free.DS.facts (code := cLaw_law) 621 [(.iconst 3, 1), (.iadd, 1), (.iaload, 1), (.ifCond .eq 7, 3), (.iconst 1, 1), (.goto 4, 3), (.iconst 0, 1), (.invokevirtual 201, 3), (.istore 6, 2), (.goto 1501, 3), (.aload_n 1, 1), (.aload_n 0, 1), (.iload 4, 2), (.iconst 1, 1), (.iadd, 1), (.iaload, 1), (.aload_n 0, 1), (.iload 4, 2), (.iconst 2, 1), (.iadd, 1), (.iaload, 1), (.aload_n 3, 1), (.invokestatic 202, 3), (.istore 5, 2), (.aload_n 2, 1), (.aload_n 0, 1), (.iload 4, 2), (.iconst 1, 1), (.iadd, 1), (.iaload, 1), (.aload_n 0, 1), (.iload 4, 2)] (by decide +kernel) (by decide +kernel)
theorem dLaw_law_621 : decode cLaw_law 621 = .ok (.iconst 3, 1) := zfLaw_law_621.1
theorem dLaw_law_622 : decode cLaw_law 622 = .ok (.iadd, 1) := zfLaw_law_621.2.1
theorem dLaw_law_623 : decode cLaw_law 623 = .ok (.iaload, 1) := zfLaw_law_621.2.2.1
theorem dLaw_law_624 : decode cLaw_law 624 = .ok (.ifCond .eq 7, 3) := zfLaw_law_621.2.2.2.1
theorem dLaw_law_627 : decode cLaw_law 627 = .ok (.iconst 1, 1) := zfLaw_law_621.2.2.2.2.1
theorem dLaw_law_628 : decode cLaw_law 628 = .ok (.goto 4, 3) := zfLaw_law_621.2.2.2.2.2.1
theorem dLaw_law_631 : decode cLaw_law 631 = .ok (.iconst 0, 1) := zfLaw_law_621.2.2.2.2.2.2.1
theorem dLaw_law_632 : decode cLaw_law 632 = .ok (.invokevirtual 201, 3) := zfLaw_law_621.2.2.2.2.2.2.2.1
theorem dLaw_law_635 : decode cLaw_law 635 = .ok (.istore 6, 2) := zfLaw_law_621.2.2.2.2.2.2.2.2.1
theorem dLaw_law_637 : decode cLaw_law 637 = .ok (.goto 1501, 3) := zfLaw_law_621.2.2.2.2.2.2.2.2.2.1
theorem dLaw_law_640 : decode cLaw_law 640 = .ok (.aload_n 1, 1) := zfLaw_law_621.2.2.2.2.2.2.2.2.2.2.1
theorem dLaw_law_641 : decode cLaw_law 641 = .ok (.aload_n 0, 1) := zfLaw_law_621.2.2.2.2.2.2.2.2.2.2.2.1
theorem dLaw_law_642 : decode cLaw_law 642 = .ok (.iload 4, 2) := zfLaw_law_621.2.2.2.2.2.2.2.2.2.2.2.2.1
theorem dLaw_law_644 : decode cLaw_law 644 = .ok (.iconst 1, 1) := zfLaw_law_621.2.2.2.2.2.2.2.2.2.2.2.2.2.1
theorem dLaw_law_645 : decode cLaw_law 645 = .ok (.iadd, 1) := zfLaw_law_621.2.2.2.2.2.2.2.2.2.2.2.2.2.2.1
theorem dLaw_law_646 : decode cLaw_law 646 = .ok (.iaload, 1) := zfLaw_law_621.2.2.2.2.2.2.2.2.2.2.2.2.2.2.2.1
theorem dLaw_law_647 : decode cLaw_law 647 = .ok (.aload_n 0, 1) := zfLaw_law_621.2.2.2.2.2.2.2.2.2.2.2.2.2.2.2.2.1
theorem dLaw_law_648 : decode cLaw_law 648 = .ok (.iload 4, 2) := zfLaw_law_621.2.2.2.2.2.2.2.2.2.2.2.2.2.2.2.2.2.1
theorem dLaw_law_650 : decode cLaw_law 650 = .ok (.iconst 2, 1) := zfLaw_law_621.2.2.2.2.2.2.2.2.2.2.2.2.2.2.2.2.2.2.1
theorem dLaw_law_651 : decode cLaw_law 651 = .ok (.iadd, 1) := zfLaw_law_621.2.2.2.2.2.2.2.2.2.2.2.2.2.2.2.2.2.2.2.1
theorem dLaw_law_652 : decode cLaw_law 652 = .ok (.iaload, 1) := zfLaw_law_621.2.2.2.2.2.2.2.2.2.2.2.2.2.2.2.2.2.2.2.2.1
theorem dLaw_law_653 : decode cLaw_law 653 = .ok (.aload_n 3, 1) := zfLaw_law_621.2.2.2.2.2.2.2.2.2.2.2.2.2.2.2.2.2.2.2.2.2.1
theorem dLaw_law_654 : decode cLaw_law 654 = .ok (.invokestatic 202, 3) := zfLaw_law_621.2.2.2.2.2.2.2.2.2.2.2.2.2.2.2.2.2.2.2.2.2.2.1
theorem dLaw_law_657 : decode cLaw_law 657 = .ok (.istore 5, 2) := zfLaw_law_621.2.2.2.2.2.2.2.2.2.2.2.2.2.2.2.2.2.2.2.2.2.2.2.1
theorem dLaw_law_659 : decode cLaw_law 659 = .ok (.aload_n 2, 1) := zfLaw_law_621.2.2.2.2.2.2.2.2.2.2.2.2.2.2.2.2.2.2.2.2.2.2.2.2.1
theorem dLaw_law_660 : decode cLaw_law 660 = .ok (.aload_n 0, 1) := zfLaw_law_621.2.2.2.2.2.2.2.2.2.2.2.2.2.2.2.2.2.2.2.2.2.2.2.2.2.1
theorem dLaw_law_661 : decode cLaw_law 661 = .ok (.iload 4, 2) := zfLaw_law_621.2.2.2.2.2.2.2.2.2.2.2.2.2.2.2.2.2.2.2.2.2.2.2.2.2.2.1
theorem dLaw_law_663 : decode cLaw_law 663 = .ok (.iconst 1, 1) := zfLaw_law_621.2.2.2.2.2.2.2.2.2.2.2.2.2.2.2.2.2.2.2.2.2.2.2.2.2.2.2.1
theorem dLaw_law_664 : decode cLaw_law 664 = .ok (.iadd, 1) := zfLaw_law_621.2.2.2.2.2.2.2.2.2.2.2.2.2.2.2.2.2.2.2.2.2.2.2.2.2.2.2.2.1
theorem dLaw_law_665 : decode cLaw_law 665 = .ok (.iaload, 1) := zfLaw_law_621.2.2.2.2.2.2.2.2.2.2.2.2.2.2.2.2.2.2.2.2.2.2.2.2.2.2.2.2.2.1
theorem dLaw_law_666 : decode cLaw_law 666 = .ok (.aload_n 0, 1) := zfLaw_law_621.2.2.2.2.2.2.2.2.2.2.2.2.2.2.2.2.2.2.2.2.2.2.2.2.2.2.2.2.2.2.1
theorem dLaw_law_667 : decode cLaw_law 667 = .ok (.iload 4, 2) := zfLaw_law_621.2.2.2.2.2.2.2.2.2.2.2.2.2.2.2.2.2.2.2.2.2.2.2.2.2.2.2.2.2.2.2.1
theorem zfLaw_law_669 : decode cLaw_law 669 = .ok (.iconst 2, 1) ∧ decode cLaw_law 670 = .ok (.iadd, 1) ∧ decode cLaw_law 671 = .ok (.iaload, 1) ∧ decode cLaw_law 672 = .ok (.invokevirtual 204, 3) ∧ decode cLaw_law 675 = .ok (.istore 6, 2) ∧ decode cLaw_law 677 = .ok (.goto 1461, 3) ∧ decode cLaw_law 680 = .ok (.aload_n 1, 1) ∧ decode cLaw_law 681 = .ok (.aload_n 0, 1) ∧ decode cLaw_law 682 = .ok (.iload 4, 2) ∧ decode cLaw_law 684 = .ok (.iconst 1, 1) ∧ decode cLaw_law 685 = .ok (.iadd, 1) ∧ decode cLaw_law 686 = .ok (.iaload, 1) ∧ decode cLaw_law 687 = .ok (.aload_n 0, 1) ∧ decode cLaw_law 688 = .ok (.iload 4, 2) ∧ decode cLaw_law 690 = .ok (.iconst 2, 1) ∧ decode cLaw_law 691 = .ok (.iadd, 1) ∧ decode cLaw_law 692 = .ok (.iaload, 1) ∧ decode cLaw_law 693 = .ok (.aload_n 0, 1) ∧ decode cLaw_law 694 = .ok (.iload 4, 2) ∧ decode cLaw_law 696 = .ok (.iconst 3, 1) ∧ decode cLaw_law 697 = .ok (.iadd, 1) ∧ decode cLaw_law 698 = .ok (.iaload, 1) ∧ decode cLaw_law 699 = .ok (.ifCond .eq 7, 3) ∧ decode cLaw_law 702 = .ok (.iconst 1, 1) ∧ decode cLaw_law 703 = .ok (.goto 4, 3) ∧ decode cLaw_law 706 = .ok (.iconst 0, 1) ∧ decode cLaw_law 707 = .ok (.aload_n 3, 1) ∧ decode cLaw_law 708 = .ok (.invokestatic 205, 3) ∧ decode cLaw_law 711 = .ok (.istore 5, 2) ∧ decode cLaw_law 713 = .ok (.aload_n 2, 1) ∧ decode cLaw_law 714 = .ok (.aload_n 0, 1) ∧ decode cLaw_law 715 = .ok (.iload 4, 2) ∧ True := Jvm.Free.DS.facts (code := cLaw_law) 669 [(.iconst 2, 1), (.iadd, 1), (.iaload, 1), (.invokevirtual 204, 3), (.istore 6, 2), (.goto 1461, 3), (.aload_n 1, 1), (.aload_n 0, 1), (.iload 4, 2), (.iconst 1, 1), (.iadd, 1), (.iaload, 1), (.aload_n 0, 1), (.iload 4, 2), (.iconst 2, 1), (.iadd, 1), (.iaload, 1), (.aload_n 0, 1), (.iload 4, 2), (.iconst 3, 1), (.iadd, 1), (.iaload, 1), (.ifCond .eq 7, 3), (.iconst 1, 1), (.goto 4, 3), (.iconst 0, 1), (.aload_n 3, 1), (.invokestatic 205, 3), (.istore 5, 2), (.aload_n 2, 1), (.aload_n 0, 1), (.iload 4, 2)] (by decide +kernel) (by decide +kernel)
theorem dLaw_law_669 : decode cLaw_law 669 = .ok (.iconst 2, 1) := zfLaw_law_669.1
theorem dLaw_law_670 : decode cLaw_law 670 = .ok (.iadd, 1) := zfLaw_law_669.2.1
theorem dLaw_law_671 : decode cLaw_law 671 = .ok (.iaload, 1) := zfLaw_law_669.2.2.1
theorem dLaw_law_672 : decode cLaw_law 672 = .ok (.invokevirtual 204, 3) := zfLaw_law_669.2.2.2.1
theorem dLaw_law_675 : decode cLaw_law 675 = .ok (.istore 6, 2) := zfLaw_law_669.2.2.2.2.1
theorem dLaw_law_677 : decode cLaw_law 677 = .ok (.goto 1461, 3) := zfLaw_law_669.2.2.2.2.2.1
theorem dLaw_law_680 : decode cLaw_law 680 = .ok (.aload_n 1, 1) := zfLaw_law_669.2.2.2.2.2.2.1
theorem dLaw_law_681 : decode cLaw_law 681 = .ok (.aload_n 0, 1) := zfLaw_law_669.2.2.2.2.2.2.2.1
theorem dLaw_law_682 : decode cLaw_law 682 = .ok (.iload 4, 2) := zfLaw_law_669.2.2.2.2.2.2.2.2.1
theorem dLaw_law_684 : decode cLaw_law 684 = .ok (.iconst 1, 1) := zfLaw_law_669.2.2.2.2.2.2.2.2.2.1
theorem dLaw_law_685 : decode cLaw_law 685 = .ok (.iadd, 1) := zfLaw_law_669.2.2.2.2.2.2.2.2.2.2.1
theorem dLaw_law_686 : decode cLaw_law 686 = .ok (.iaload, 1) := zfLaw_law_669.2.2.2.2.2.2.2.2.2.2.2.1
theorem dLaw_law_687 : decode cLaw_law 687 = .ok (.aload_n 0, 1) := zfLaw_law_669.2.2.2.2.2.2.2.2.2.2.2.2.1
theorem dLaw_law_688 : decode cLaw_law 688 = .ok (.iload 4, 2) := zfLaw_law_669.2.2.2.2.2.2.2.2.2.2.2.2.2.1
theorem dLaw_law_690 : decode cLaw_law 690 = .ok (.iconst 2, 1) := zfLaw_law_669.2.2.2.2.2.2.2.2.2.2.2.2.2.2.1
theorem dLaw_law_691 : decode cLaw_law 691 = .ok (.iadd, 1) := zfLaw_law_669.2.2.2.2.2.2.2.2.2.2.2.2.2.2.2.1
theorem dLaw_law_692 : decode cLaw_law 692 = .ok (.iaload, 1) := zfLaw_law_669.2.2.2.2.2.2.2.2.2.2.2.2.2.2.2.2.1
theorem dLaw_law_693 : decode cLaw_law 693 = .ok (.aload_n 0, 1) := zfLaw_law_669.2.2.2.2.2.2.2.2.2.2.2.2.2.2.2.2.2.1
theorem dLaw_law_694 : decode cLaw_law 694 = .ok (.iload 4, 2) := zfLaw_law_669.2.2.2.2.2.2.2.2.2.2.2.2.2.2.2.2.2.2.1
theorem dLaw_law_696 : decode cLaw_law 696 = .ok (.iconst 3, 1) := zfLaw_law_669.2.2.2.2.2.2.2.2.2.2.2.2.2.2.2.2.2.2.2.1
theorem dLaw_law_697 : decode cLaw_law 697 = .ok (.iadd, 1) := zfLaw_law_669.2.2.2.2.2.2.2.2.2.2.2.2.2.2.2.2.2.2.2.2.1
theorem dLaw_law_698 : decode cLaw_law 698 = .ok (.iaload, 1) := zfLaw_law_669.2.2.2.2.2.2.2.2.2.2.2.2.2.2.2.2.2.2.2.2.2.1
theorem dLaw_law_699 : decode cLaw_law 699 = .ok (.ifCond .eq 7, 3) := zfLaw_law_669.2.2.2.2.2.2.2.2.2.2.2.2.2.2.2.2.2.2.2.2.2.2.1
theorem dLaw_law_702 : decode cLaw_law 702 = .ok (.iconst 1, 1) := zfLaw_law_669.2.2.2.2.2.2.2.2.2.2.2.2.2.2.2.2.2.2.2.2.2.2.2.1
theorem dLaw_law_703 : decode cLaw_law 703 = .ok (.goto 4, 3) := zfLaw_law_669.2.2.2.2.2.2.2.2.2.2.2.2.2.2.2.2.2.2.2.2.2.2.2.2.1
theorem dLaw_law_706 : decode cLaw_law 706 = .ok (.iconst 0, 1) := zfLaw_law_669.2.2.2.2.2.2.2.2.2.2.2.2.2.2.2.2.2.2.2.2.2.2.2.2.2.1
theorem dLaw_law_707 : decode cLaw_law 707 = .ok (.aload_n 3, 1) := zfLaw_law_669.2.2.2.2.2.2.2.2.2.2.2.2.2.2.2.2.2.2.2.2.2.2.2.2.2.2.1
theorem dLaw_law_708 : decode cLaw_law 708 = .ok (.invokestatic 205, 3) := zfLaw_law_669.2.2.2.2.2.2.2.2.2.2.2.2.2.2.2.2.2.2.2.2.2.2.2.2.2.2.2.1
theorem dLaw_law_711 : decode cLaw_law 711 = .ok (.istore 5, 2) := zfLaw_law_669.2.2.2.2.2.2.2.2.2.2.2.2.2.2.2.2.2.2.2.2.2.2.2.2.2.2.2.2.1
theorem dLaw_law_713 : decode cLaw_law 713 = .ok (.aload_n 2, 1) := zfLaw_law_669.2.2.2.2.2.2.2.2.2.2.2.2.2.2.2.2.2.2.2.2.2.2.2.2.2.2.2.2.2.1
theorem dLaw_law_714 : decode cLaw_law 714 = .ok (.aload_n 0, 1) := zfLaw_law_669.2.2.2.2.2.2.2.2.2.2.2.2.2.2.2.2.2.2.2.2.2.2.2.2.2.2.2.2.2.2.1
theorem dLaw_law_715 : decode cLaw_law 715 = .ok (.iload 4, 2) := zfLaw_law_669.2.2.2.2.2.2.2.2.2.2.2.2.2.2.2.2.2.2.2.2.2.2.2.2.2.2.2.2.2.2.2.1
theorem zfLaw_law_717 : decode cLaw_law 717 = .ok (.iconst 1, 1) ∧ decode cLaw_law 718 = .ok (.iadd, 1) ∧ decode cLaw_law 719 = .ok (.iaload, 1) ∧ decode cLaw_law 720 = .ok (.aload_n 0, 1) ∧ decode cLaw_law 721 = .ok (.iload 4, 2) ∧ decode cLaw_law 723 = .ok (.iconst 2, 1) ∧ decode cLaw_law 724 = .ok (.iadd, 1) ∧ decode cLaw_law 725 = .ok (.iaload, 1) ∧ decode cLaw_law 726 = .ok (.aload_n 0, 1) ∧ decode cLaw_law 727 = .ok (.iload 4, 2) ∧ decode cLaw_law 729 = .ok (.iconst 3, 1) ∧ decode cLaw_law 730 = .ok (.iadd, 1) ∧ decode cLaw_law 731 = .ok (.iaload, 1) ∧ decode cLaw_law 732 = .ok (.ifCond .eq 7, 3) ∧ decode cLaw_law 735 = .ok (.iconst 1, 1) ∧ decode cLaw_law 736 = .ok (.goto 4, 3) ∧ decode cLaw_law 739 = .ok (.iconst 0, 1) ∧ decode cLaw_law 740 = .ok (.invokevirtual 207, 3) ∧ decode cLaw_law 743 = .ok (.istore 6, 2) ∧ decode cLaw_law 745 = .ok (.goto 1393, 3) ∧ decode cLaw_law 748 = .ok (.aload_n 1, 1) ∧ decode cLaw_law 749 = .ok (.aload_n 0, 1) ∧ decode cLaw_law 750 = .ok (.iload 4, 2) ∧ decode cLaw_law 752 = .ok (.iconst 1, 1) ∧ decode cLaw_law 753 = .ok (.iadd, 1) ∧ decode cLaw_law 754 = .ok (.iaload, 1) ∧ decode cLaw_law 755 = .ok (.aload_n 0, 1) ∧ decode cLaw_law 756 = .ok (.iload 4, 2) ∧ decode cLaw_law 758 = .ok (.iconst 2, 1) ∧ decode cLaw_law 759 = .ok (.iadd, 1) ∧ decode cLaw_law 760 = .ok (.iaload, 1) ∧ decode cLaw_law 761 = .ok (.aload_n 3, 1) ∧ True := Jvm.Free.DS.facts (code := cLaw_law) 717 [(.iconst 1, 1), (.iadd, 1), (.iaload, 1), (.aload_n 0, 1), (.iload 4, 2), (.iconst 2, 1), (.iadd, 1), (.iaload, 1), (.aload_n 0, 1), (.iload 4, 2), (.iconst 3, 1), (.iadd, 1), (.iaload, 1), (.ifCond .eq 7, 3), (.iconst 1, 1), (.goto 4, 3), (.iconst 0, 1), (.invokevirtual 207, 3), (.istore 6, 2), (.goto 1393, 3), (.aload_n 1, 1), (.aload_n 0, 1), (.iload 4, 2), (.iconst 1, 1), (.iadd, 1), (.iaload, 1), (.aload_n 0, 1), (.iload 4, 2), (.iconst 2, 1), (.iadd, 1), (.iaload, 1), (.aload_n 3, 1)] (by decide +kernel) (by decide +kernel)
theorem dLaw_law_717 : decode cLaw_law 717 = .ok (.iconst 1, 1) := zfLaw_law_717.1
theorem dLaw_law_718 : decode cLaw_law 718 = .ok (.iadd, 1) := zfLaw_law_717.2.1
theorem dLaw_law_719 : decode cLaw_law 719 = .ok (.iaload, 1) := zfLaw_law_717.2.2.1
theorem dLaw_law_720 : decode cLaw_law 720 = .ok (.aload_n 0, 1) := zfLaw_law_717.2.2.2.1
theorem dLaw_law_721 : decode cLaw_law 721 = .ok (.iload 4, 2) := zfLaw_law_717.2.2.2.2.1
theorem dLaw_law_723 : decode cLaw_law 723 = .ok (.iconst 2, 1) := zfLaw_law_717.2.2.2.2.2.1
theorem dLaw_law_724 : decode cLaw_law 724 = .ok (.iadd, 1) := zfLaw_law_717.2.2.2.2.2.2.1
theorem dLaw_law_725 : decode cLaw_law 725 = .ok (.iaload, 1) := zfLaw_law_717.2.2.2.2.2.2.2.1
theorem dLaw_law_726 : decode cLaw_law 726 = .ok (.aload_n 0, 1) := zfLaw_law_717.2.2.2.2.2.2.2.2.1
theorem dLaw_law_727 : decode cLaw_law 727 = .ok (.iload 4, 2) := zfLaw_law_717.2.2.2.2.2.2.2.2.2.1
theorem dLaw_law_729 : decode cLaw_law 729 = .ok (.iconst 3, 1) := zfLaw_law_717.2.2.2.2.2.2.2.2.2.2.1
theorem dLaw_law_730 : decode cLaw_law 730 = .ok (.iadd, 1) := zfLaw_law_717.2.2.2.2.2.2.2.2.2.2.2.1
theorem dLaw_law_731 : decode cLaw_law 731 = .ok (.iaload, 1) := zfLaw_law_717.2.2.2.2.2.2.2.2.2.2.2.2.1
theorem dLaw_law_732 : decode cLaw_law 732 = .ok (.ifCond .eq 7, 3) := zfLaw_law_717.2.2.2.2.2.2.2.2.2.2.2.2.2.1
theorem dLaw_law_735 : decode cLaw_law 735 = .ok (.iconst 1, 1) := zfLaw_law_717.2.2.2.2.2.2.2.2.2.2.2.2.2.2.1
theorem dLaw_law_736 : decode cLaw_law 736 = .ok (.goto 4, 3) := zfLaw_law_717.2.2.2.2.2.2.2.2.2.2.2.2.2.2.2.1
theorem dLaw_law_739 : decode cLaw_law 739 = .ok (.iconst 0, 1) := zfLaw_law_717.2.2.2.2.2.2.2.2.2.2.2.2.2.2.2.2.1
theorem dLaw_law_740 : decode cLaw_law 740 = .ok (.invokevirtual 207, 3) := zfLaw_law_717.2.2.2.2.2.2.2.2.2.2.2.2.2.2.2.2.2.1
theorem dLaw_law_743 : decode cLaw_law 743 = .ok (.istore 6, 2) := zfLaw_law_717.2.2.2.2.2.2.2.2.2.2.2.2.2.2.2.2.2.2.1
theorem dLaw_law_745 : decode cLaw_law 745 = .ok (.goto 1393, 3) := zfLaw_law_717.2.2.2.2.2.2.2.2.2.2.2.2.2.2.2.2.2.2.2.1
theorem dLaw_law_748 : decode cLaw_law 748 = .ok (.aload_n 1, 1) := zfLaw_law_717.2.2.2.2.2.2.2.2.2.2.2.2.2.2.2.2.2.2.2.2.1
theorem dLaw_law_749 : decode cLaw_law 749 = .ok (.aload_n 0, 1) := zfLaw_law_717.2.2.2.2.2.2.2.2.2.2.2.2.2.2.2.2.2.2.2.2.2.1
theorem dLaw_law_750 : decode cLaw_law 750 = .ok (.iload 4, 2) := zfLaw_law_717.2.2.2.2.2.2.2.2.2.2.2.2.2.2.2.2.2.2.2.2.2.2.1
theorem dLaw_law_752 : decode cLaw_law 752 = .ok (.iconst 1, 1) := zfLaw_law_717.2.2.2.2.2.2.2.2.2.2.2.2.2.2.2.2.2.2.2.2.2.2.2.1
theorem dLaw_law_753 : decode cLaw_law 753 = .ok (.iadd, 1) := zfLaw_law_717.2.2.2.2.2.2.2.2.2.2.2.2.2.2.2.2.2.2.2.2.2.2.2.2.1
theorem dLaw_law_754 : decode cLaw_law 754 = .ok (.iaload, 1) := zfLaw_law_717.2.2.2.2.2.2.2.2.2.2.2.2.2.2.2.2.2.2.2.2.2.2.2.2.2.1
theorem dLaw_law_755 : decode cLaw_law 755 = .ok (.aload_n 0, 1) := zfLaw_law_717.2.2.2.2.2.2.2.2.2.2.2.2.2.2.2.2.2.2.2.2.2.2.2.2.2.2.1
theorem dLaw_law_756 : decode cLaw_law 756 = .ok (.iload 4, 2) := zfLaw_law_717.2.2.2.2.2.2.2.2.2.2.2.2.2.2.2.2.2.2.2.2.2.2.2.2.2.2.2.1
theorem dLaw_law_758 : decode cLaw_law 758 = .ok (.iconst 2, 1) := zfLaw_law_717.2.2.2.2.2.2.2.2.2.2.2.2.2.2.2.2.2.2.2.2.2.2.2.2.2.2.2.2.1
theorem dLaw_law_759 : decode cLaw_law 759 = .ok (.iadd, 1) := zfLaw_law_717.2.2.2.2.2.2.2.2.2.2.2.2.2.2.2.2.2.2.2.2.2.2.2.2.2.2.2.2.2.1
theorem dLaw_law_760 : decode cLaw_law 760 = .ok (.iaload, 1) := zfLaw_law_717.2.2.2.2.2.2.2.2.2.2.2.2.2.2.2.2.2.2.2.2.2.2.2.2.2.2.2.2.2.2.1
theorem dLaw_law_761 : decode cLaw_law 761 = .ok (.aload_n 3, 1) := zfLaw_law_717.2.2.2.2.2.2.2.2.2.2.2.2.2.2.2.2.2.2.2.2.2.2.2.2.2.2.2.2.2.2.2.1
theorem zfLaw_law_762 : decode cLaw_law 762 = .ok (.invokestatic 208, 3) ∧ decode cLaw_law 765 = .ok (.istore 5, 2) ∧ decode cLaw_law 767 = .ok (.aload_n 2, 1) ∧ decode cLaw_law 768 = .ok (.aload_n 0, 1) ∧ decode cLaw_law 769 = .ok (.iload 4, 2) ∧ decode cLaw_law 771 = .ok (.iconst 1, 1) ∧ decode cLaw_law 772 = .ok (.iadd, 1) ∧ decode cLaw_law 773 = .ok (.iaload, 1) ∧ decode cLaw_law 774 = .ok (.aload_n 0, 1) ∧ decode cLaw_law 775 = .ok (.iload 4, 2) ∧ decode cLaw_law 777 = .ok (.iconst 2, 1) ∧ decode cLaw_law 778 = .ok (.iadd, 1) ∧ decode cLaw_law 779 = .ok (.iaload, 1) ∧ decode cLaw_law 780 = .ok (.invokevirtual 210, 3) ∧ decode cLaw_law 783 = .ok (.istore 6, 2) ∧ decode cLaw_law 785 = .ok (.goto 1353, 3) ∧ decode cLaw_law 788 = .ok (.aload_n 1, 1) ∧ decode cLaw_law 789 = .ok (.aload_n 0, 1) ∧ decode cLaw_law 790 = .ok (.iload 4, 2) ∧ decode cLaw_law 792 = .ok (.iconst 1, 1) ∧ decode cLaw_law 793 = .ok (.iadd, 1) ∧ decode cLaw_law 794 = .ok (.iaload, 1) ∧ decode cLaw_law 795 = .ok (.aload_n 3, 1) ∧ decode cLaw_law 796 = .ok (.invokestatic 211, 3) ∧ decode cLaw_law 799 = .ok (.istore 5, 2) ∧ decode cLaw_law 801 = .ok (.aload_n 2, 1) ∧ decode cLaw_law 802 = .ok (.aload_n 0, 1) ∧ decode cLaw_law 803 = .ok (.iload 4, 2) ∧ decode cLaw_law 805 = .ok (.iconst 1, 1) ∧ decode cLaw_law 806 = .ok (.iadd, 1) ∧ decode cLaw_law 807 = .ok (.iaload, 1) ∧ decode cLaw_law 808 = .ok (.invokevirtual 214, 3) ∧ True := Jvm.Free.DS.facts (code := cLaw_law) 762 [(.invokestatic 208, 3), (.istore 5, 2), (.aload_n 2, 1), (.aload_n 0, 1), (.iload 4, 2), (.iconst 1, 1), (.iadd, 1), (.iaload, 1), (.aload_n 0, 1), (.iload 4, 2), (.iconst 2, 1), (.iadd, 1), (.iaload, 1), (.invokevirtual 210, 3), (.istore 6, 2), (.goto 1353, 3), (.aload_n 1, 1), (.aload_n 0, 1), (.iload 4, 2), (.iconst 1, 1), (.iadd, 1), (.iaload, 1), (.aload_n 3, 1), (.invokestatic 211, 3), (.istore 5, 2), (.aload_n 2, 1), (.aload_n 0, 1), (.iload 4, 2), (.iconst 1, 1), (.iadd, 1), (.iaload, 1), (.invokevirtual 214, 3)] (by decide +kernel) (by decide +kernel)
theorem dLaw_law_762 : decode cLaw_law 762 = .ok (.invokestatic 208, 3) := zfLaw_law_762.1
theorem dLaw_law_765 : decode cLaw_law 765 = .ok (.istore 5, 2) := zfLaw_law_762.2.1
theorem dLaw_law_767 : decode cLaw_law 767 = .ok (.aload_n 2, 1) := zfLaw_law_762.2.2.1
theorem dLaw_law_768 : decode cLaw_law 768 = .ok (.aload_n 0, 1) := zfLaw_law_762.2.2.2.1
theorem dLaw_law_769 : decode cLaw_law 769 = .ok (.iload 4, 2) := zfLaw_law_762.2.2.2.2.1
theorem dLaw_law_771 : decode cLaw_law 771 = .ok (.iconst 1, 1) := zfLaw_law_762.2.2.2.2.2.1
theorem dLaw_law_772 : decode cLaw_law 772 = .ok (.iadd, 1) := zfLaw_law_762.2.2.2.2.2.2.1
theorem dLaw_law_773 : decode cLaw_law 773 = .ok (.iaload, 1) := zfLaw_law_762.2.2.2.2.2.2.2.1
theorem dLaw_law_774 : decode cLaw_law 774 = .ok (.aload_n 0, 1) := zfLaw_law_762.2.2.2.2.2.2.2.2.1
theorem dLaw_law_775 : decode cLaw_law 775 = .ok (.iload 4, 2) := zfLaw_law_762.2.2.2.2.2.2.2.2.2.1
theorem dLaw_law_777 : decode cLaw_law 777 = .ok (.iconst 2, 1) := zfLaw_law_762.2.2.2.2.2.2.2.2.2.2.1
theorem dLaw_law_778 : decode cLaw_law 778 = .ok (.iadd, 1) := zfLaw_law_762.2.2.2.2.2.2.2.2.2.2.2.1
theorem dLaw_law_779 : decode cLaw_law 779 = .ok (.iaload, 1) := zfLaw_law_762.2.2.2.2.2.2.2.2.2.2.2.2.1
theorem dLaw_law_780 : decode cLaw_law 780 = .ok (.invokevirtual 210, 3) := zfLaw_law_762.2.2.2.2.2.2.2.2.2.2.2.2.2.1
theorem dLaw_law_783 : decode cLaw_law 783 = .ok (.istore 6, 2) := zfLaw_law_762.2.2.2.2.2.2.2.2.2.2.2.2.2.2.1
theorem dLaw_law_785 : decode cLaw_law 785 = .ok (.goto 1353, 3) := zfLaw_law_762.2.2.2.2.2.2.2.2.2.2.2.2.2.2.2.1
theorem dLaw_law_788 : decode cLaw_law 788 = .ok (.aload_n 1, 1) := zfLaw_law_762.2.2.2.2.2.2.2.2.2.2.2.2.2.2.2.2.1
theorem dLaw_law_789 : decode cLaw_law 789 = .ok (.aload_n 0, 1) := zfLaw_law_762.2.2.2.2.2.2.2.2.2.2.2.2.2.2.2.2.2.1
theorem dLaw_law_790 : decode cLaw_law 790 = .ok (.iload 4, 2) := zfLaw_law_762.2.2.2.2.2.2.2.2.2.2.2.2.2.2.2.2.2.2.1
theorem dLaw_law_792 : decode cLaw_law 792 = .ok (.iconst 1, 1) := zfLaw_law_762.2.2.2.2.2.2.2.2.2.2.2.2.2.2.2.2.2.2.2.1
theorem dLaw_law_793 : decode cLaw_law 793 = .ok (.iadd, 1) := zfLaw_law_762.2.2.2.2.2.2.2.2.2.2.2.2.2.2.2.2.2.2.2.2.1
theorem dLaw_law_794 : decode cLaw_law 794 = .ok (.iaload, 1) := zfLaw_law_762.2.2.2.2.2.2.2.2.2.2.2.2.2.2.2.2.2.2.2.2.2.1
theorem dLaw_law_795 : decode cLaw_law 795 = .ok (.aload_n 3, 1) := zfLaw_law_762.2.2.2.2.2.2.2.2.2.2.2.2.2.2.2.2.2.2.2.2.2.2.1
theorem dLaw_law_796 : decode cLaw_law 796 = .ok (.invokestatic 211, 3) := zfLaw_law_762.2.2.2.2.2.2.2.2.2.2.2.2.2.2.2.2.2.2.2.2.2.2.2.1
theorem dLaw_law_799 : decode cLaw_law 799 = .ok (.istore 5, 2) := zfLaw_law_762.2.2.2.2.2.2.2.2.2.2.2.2.2.2.2.2.2.2.2.2.2.2.2.2.1
theorem dLaw_law_801 : decode cLaw_law 801 = .ok (.aload_n 2, 1) := zfLaw_law_762.2.2.2.2.2.2.2.2.2.2.2.2.2.2.2.2.2.2.2.2.2.2.2.2.2.1
theorem dLaw_law_802 : decode cLaw_law 802 = .ok (.aload_n 0, 1) := zfLaw_law_762.2.2.2.2.2.2.2.2.2.2.2.2.2.2.2.2.2.2.2.2.2.2.2.2.2.2.1
theorem dLaw_law_803 : decode cLaw_law 803 = .ok (.iload 4, 2) := zfLaw_law_762.2.2.2.2.2.2.2.2.2.2.2.2.2.2.2.2.2.2.2.2.2.2.2.2.2.2.2.1
theorem dLaw_law_805 : decode cLaw_law 805 = .ok (.iconst 1, 1) := zfLaw_law_762.2.2.2.2.2.2.2.2.2.2.2.2.2.2.2.2.2.2.2.2.2.2.2.2.2.2.2.2.1
theorem dLaw_law_806 : decode cLaw_law 806 = .ok (.iadd, 1) := zfLaw_law_762.2.2.2.2.2.2.2.2.2.2.2.2.2.2.2.2.2.2.2.2.2.2.2.2.2.2.2.2.2.1
theorem dLaw_law_807 : decode cLaw_law 807 = .ok (.iaload, 1) := zfLaw_law_762.2.2.2.2.2.2.2.2.2.2.2.2.2.2.2.2.2.2.2.2.2.2.2.2.2.2.2.2.2.2.1
theorem dLaw_law_808 : decode cLaw_law 808 = .ok (.invokevirtual 214, 3) := zfLaw_law_762.2.2.2.2.2.2.2.2.2.2.2.2.2.2.2.2.2.2.2.2.2.2.2.2.2.2.2.2.2.2.2.1
theorem zfLaw_law_811 : decode cLaw_law 811 = .ok (.istore 6, 2) ∧ decode cLaw_law 813 = .ok (.goto 1325, 3) ∧ decode cLaw_law 816 = .ok (.aload_n 1, 1) ∧ decode cLaw_law 817 = .ok (.aload_n 0, 1) ∧ decode cLaw_law 818 = .ok (.iload 4, 2) ∧ decode cLaw_law 820 = .ok (.iconst 1, 1) ∧ decode cLaw_law 821 = .ok (.iadd, 1) ∧ decode cLaw_law 822 = .ok (.iaload, 1) ∧ decode cLaw_law 823 = .ok (.aload_n 0, 1) ∧ decode cLaw_law 824 = .ok (.iload 4, 2) ∧ decode cLaw_law 826 = .ok (.iconst 2, 1) ∧ decode cLaw_law 827 = .ok (.iadd, 1) ∧ decode cLaw_law 828 = .ok (.iaload, 1) ∧ decode cLaw_law 829 = .ok (.ifCond .eq 7, 3) ∧ decode cLaw_law 832 = .ok (.iconst 1, 1) ∧ decode cLaw_law 833 = .ok (.goto 4, 3) ∧ decode cLaw_law 836 = .ok (.iconst 0, 1) ∧ decode cLaw_law 837 = .ok (.aload_n 3, 1) ∧ decode cLaw_law 838 = .ok (.invokestatic 215, 3) ∧ decode cLaw_law 841 = .ok (.istore 5, 2) ∧ decode cLaw_law 843 = .ok (.aload_n 2, 1) ∧ decode cLaw_law 844 = .ok (.aload_n 0, 1) ∧ decode cLaw_law 845 = .ok (.iload 4, 2) ∧ decode cLaw_law 847 = .ok (.iconst 1, 1) ∧ decode cLaw_law 848 = .ok (.iadd, 1) ∧ decode cLaw_law 849 = .ok (.iaload, 1) ∧ decode cLaw_law 850 = .ok (.aload_n 0, 1) ∧ decode cLaw_law 851 = .ok (.iload 4, 2) ∧ decode cLaw_law 853 = .ok (.iconst 2, 1) ∧ decode cLaw_law 854 = .ok (.iadd, 1) ∧ decode cLaw_law 855 = .ok (.iaload, 1) ∧ decode cLaw_law 856 = .ok (.ifCond .eq 7, 3) ∧ True := Jvm.Free.DS.facts (code := cLaw_law) 811 [(.istore 6, 2), (.goto 1325, 3), (.aload_n 1, 1), (.aload_n 0, 1), (.iload 4, 2), (.iconst 1, 1), (.iadd, 1), (.iaload, 1), (.aload_n 0, 1), (.iload 4, 2), (.iconst 2, 1), (.iadd, 1), (.iaload, 1), (.ifCond .eq 7, 3), (.iconst 1, 1), (.goto 4, 3), (.iconst 0, 1), (.aload_n 3, 1), (.invokestatic 215, 3), (.istore 5, 2), (.aload_n 2, 1), (.aload_n 0, 1), (.iload 4, 2), (.iconst 1, 1), (.iadd, 1), (.iaload, 1), (.aload_n 0, 1), (.iload 4, 2), (.iconst 2, 1), (.iadd, 1), (.iaload, 1), (.ifCond .eq 7, 3)] (by decide +kernel) (by decide +kernel)
theorem dLaw_law_811 : decode cLaw_law 811 = .ok (.istore 6, 2) := zfLaw_law_811.1
theorem dLaw_law_813 : decode cLaw_law 813 = .ok (.goto 1325, 3) := zfLaw_law_811.2.1
theorem dLaw_law_816 : decode cLaw_law 816 = .ok (.aload_n 1, 1) := zfLaw_law_811.2.2.1
theorem dLaw_law_817 : decode cLaw_law 817 = .ok (.aload_n 0, 1) := zfLaw_law_811.2.2.2.1
theorem dLaw_law_818 : decode cLaw_law 818 = .ok (.iload 4, 2) := zfLaw_law_811.2.2.2.2.1
theorem dLaw_law_820 : decode cLaw_law 820 = .ok (.iconst 1, 1) := zfLaw_law_811.2.2.2.2.2.1
theorem dLaw_law_821 : decode cLaw_law 821 = .ok (.iadd, 1) := zfLaw_law_811.2.2.2.2.2.2.1
theorem dLaw_law_822 : decode cLaw_law 822 = .ok (.iaload, 1) := zfLaw_law_811.2.2.2.2.2.2.2.1
theorem dLaw_law_823 : decode cLaw_law 823 = .ok (.aload_n 0, 1) := zfLaw_law_811.2.2.2.2.2.2.2.2.1
theorem dLaw_law_824 : decode cLaw_law 824 = .ok (.iload 4, 2) := zfLaw_law_811.2.2.2.2.2.2.2.2.2.1
theorem dLaw_law_826 : decode cLaw_law 826 = .ok (.iconst 2, 1) := zfLaw_law_811.2.2.2.2.2.2.2.2.2.2.1
theorem dLaw_law_827 : decode cLaw_law 827 = .ok (.iadd, 1) := zfLaw_law_811.2.2.2.2.2.2.2.2.2.2.2.1
theorem dLaw_law_828 : decode cLaw_law 828 = .ok (.iaload, 1) := zfLaw_law_811.2.2.2.2.2.2.2.2.2.2.2.2.1
theorem dLaw_law_829 : decode cLaw_law 829 = .ok (.ifCond .eq 7, 3) := zfLaw_law_811.2.2.2.2.2.2.2.2.2.2.2.2.2.1
theorem dLaw_law_832 : decode cLaw_law 832 = .ok (.iconst 1, 1) := zfLaw_law_811.2.2.2.2.2.2.2.2.2.2.2.2.2.2.1
theorem dLaw_law_833 : decode cLaw_law 833 = .ok (.goto 4, 3) := zfLaw_law_811.2.2.2.2.2.2.2.2.2.2.2.2.2.2.2.1
theorem dLaw_law_836 : decode cLaw_law 836 = .ok (.iconst 0, 1) := zfLaw_law_811.2.2.2.2.2.2.2.2.2.2.2.2.2.2.2.2.1
theorem dLaw_law_837 : decode cLaw_law 837 = .ok (.aload_n 3, 1) := zfLaw_law_811.2.2.2.2.2.2.2.2.2.2.2.2.2.2.2.2.2.1
theorem dLaw_law_838 : decode cLaw_law 838 = .ok (.invokestatic 215, 3) := zfLaw_law_811.2.2.2.2.2.2.2.2.2.2.2.2.2.2.2.2.2.2.1
theorem dLaw_law_841 : decode cLaw_law 841 = .ok (.istore 5, 2) := zfLaw_law_811.2.2.2.2.2.2.2.2.2.2.2.2.2.2.2.2.2.2.2.1
theorem dLaw_law_843 : decode cLaw_law 843 = .ok (.aload_n 2, 1) := zfLaw_law_811.2.2.2.2.2.2.2.2.2.2.2.2.2.2.2.2.2.2.2.2.1
theorem dLaw_law_844 : decode cLaw_law 844 = .ok (.aload_n 0, 1) := zfLaw_law_811.2.2.2.2.2.2.2.2.2.2.2.2.2.2.2.2.2.2.2.2.2.1
theorem dLaw_law_845 : decode cLaw_law 845 = .ok (.iload 4, 2) := zfLaw_law_811.2.2.2.2.2.2.2.2.2.2.2.2.2.2.2.2.2.2.2.2.2.2.1
theorem dLaw_law_847 : decode cLaw_law 847 = .ok (.iconst 1, 1) := zfLaw_law_811.2.2.2.2.2.2.2.2.2.2.2.2.2.2.2.2.2.2.2.2.2.2.2.1
theorem dLaw_law_848 : decode cLaw_law 848 = .ok (.iadd, 1) := zfLaw_law_811.2.2.2.2.2.2.2.2.2.2.2.2.2.2.2.2.2.2.2.2.2.2.2.2.1
theorem dLaw_law_849 : decode cLaw_law 849 = .ok (.iaload, 1) := zfLaw_law_811.2.2.2.2.2.2.2.2.2.2.2.2.2.2.2.2.2.2.2.2.2.2.2.2.2.1
theorem dLaw_law_850 : decode cLaw_law 850 = .ok (.aload_n 0, 1) := zfLaw_law_811.2.2.2.2.2.2.2.2.2.2.2.2.2.2.2.2.2.2.2.2.2.2.2.2.2.2.1
theorem dLaw_law_851 : decode cLaw_law 851 = .ok (.iload 4, 2) := zfLaw_law_811.2.2.2.2.2.2.2.2.2.2.2.2.2.2.2.2.2.2.2.2.2.2.2.2.2.2.2.1
theorem dLaw_law_853 : decode cLaw_law 853 = .ok (.iconst 2, 1) := zfLaw_law_811.2.2.2.2.2.2.2.2.2.2.2.2.2.2.2.2.2.2.2.2.2.2.2.2.2.2.2.2.1
theorem dLaw_law_854 : decode cLaw_law 854 = .ok (.iadd, 1) := zfLaw_law_811.2.2.2.2.2.2.2.2.2.2.2.2.2.2.2.2.2.2.2.2.2.2.2.2.2.2.2.2.2.1
theorem dLaw_law_855 : decode cLaw_law 855 = .ok (.iaload, 1) := zfLaw_law_811.2.2.2.2.2.2.2.2.2.2.2.2.2.2.2.2.2.2.2.2.2.2.2.2.2.2.2.2.2.2.1
theorem dLaw_law_856 : decode cLaw_law 856 = .ok (.ifCond .eq 7, 3) := zfLaw_law_811.2.2.2.2.2.2.2.2.2.2.2.2.2.2.2.2.2.2.2.2.2.2.2.2.2.2.2.2.2.2.2.1
theorem zfLaw_law_859 : decode cLaw_law 859 = .ok (.iconst 1, 1) ∧ decode cLaw_law 860 = .ok (.goto 4, 3) ∧ decode cLaw_law 863 = .ok (.iconst 0, 1) ∧ decode cLaw_law 864 = .ok (.invokevirtual 218, 3) ∧ decode cLaw_law 867 = .ok (.astore 6, 2) ∧ decode cLaw_law 869 = .ok (.goto 1269, 3) ∧ decode cLaw_law 872 = .ok (.aload_n 1, 1) ∧ decode cLaw_law 873 = .ok (.aload_n 0, 1) ∧ decode cLaw_law 874 = .ok (.iload 4, 2) ∧ decode cLaw_law 876 = .ok (.iconst 1, 1) ∧ decode cLaw_law 877 = .ok (.iadd, 1) ∧ decode cLaw_law 878 = .ok (.iaload, 1) ∧ decode cLaw_law 879 = .ok (.aload_n 3, 1) ∧ decode cLaw_law 880 = .ok (.invokestatic 219, 3) ∧ decode cLaw_law 883 = .ok (.istore 5, 2) ∧ decode cLaw_law 885 = .ok (.aload_n 2, 1) ∧ decode cLaw_law 886 = .ok (.aload_n 0, 1) ∧ decode cLaw_law 887 = .ok (.iload 4, 2) ∧ decode cLaw_law 889 = .ok (.iconst 1, 1) ∧ decode cLaw_law 890 = .ok (.iadd, 1) ∧ decode cLaw_law 891 = .ok (.iaload, 1) ∧ decode cLaw_law 892 = .ok (.invokevirtual 221, 3) ∧ decode cLaw_law 895 = .ok (.istore 6, 2) ∧ decode cLaw_law 897 = .ok (.goto 1241, 3) ∧ decode cLaw_law 900 = .ok (.aload_n 1, 1) ∧ decode cLaw_law 901 = .ok (.aload_n 0, 1) ∧ decode cLaw_law 902 = .ok (.iload 4, 2) ∧ decode cLaw_law 904 = .ok (.iconst 1, 1) ∧ decode cLaw_law 905 = .ok (.iadd, 1) ∧ decode cLaw_law 906 = .ok (.iaload, 1) ∧ decode cLaw_law 907 = .ok (.aload_n 0, 1) ∧ decode cLaw_law 908 = .ok (.iload 4, 2) ∧ True := Jvm.Free.DS.facts (code := cLaw_law) 859 [(.iconst 1, 1), (.goto 4, 3), (.iconst 0, 1), (.invokevirtual 218, 3), (.astore 6, 2), (.goto 1269, 3), (.aload_n 1, 1), (.aload_n 0, 1), (.iload 4, 2), (.iconst 1, 1), (.iadd, 1), (.iaload, 1), (.aload_n 3, 1), (.invokestatic 219, 3), (.istore 5, 2), (.aload_n 2, 1), (.aload_n 0, 1), (.iload 4, 2), (.iconst 1, 1), (.iadd, 1), (.iaload, 1), (.invokevirtual 221, 3), (.istore 6, 2), (.goto 1241, 3), (.aload_n 1, 1), (.aload_n 0, 1), (.iload 4, 2), (.iconst 1, 1), (.iadd, 1), (.iaload, 1), (.aload_n 0, 1), (.iload 4, 2)] (by decide +kernel) (by decide +kernel)
theorem dLaw_law_859 : decode cLaw_law 859 = .ok (.iconst 1, 1) := zfLaw_law_859.1
theorem dLaw_law_860 : decode cLaw_law 860 = .ok (.goto 4, 3) := zfLaw_law_859.2.1
theorem dLaw_law_863 : decode cLaw_law 863 = .ok (.iconst 0, 1) := zfLaw_law_859.2.2.1
theorem dLaw_law_864 : decode cLaw_law 864 = .ok (.invokevirtual 218, 3) := zfLaw_law_859.2.2.2.1
theorem dLaw_law_867 : decode cLaw_law 867 = .ok (.astore 6, 2) := zfLaw_law_859.2.2.2.2.1
theorem dLaw_law_869 : decode cLaw_law 869 = .ok (.goto 1269, 3) := zfLaw_law_859.2.2.2.2.2.1
theorem dLaw_law_872 : decode cLaw_law 872 = .ok (.aload_n 1, 1) := zfLaw_law_859.2.2.2.2.2.2.1
theorem dLaw_law_873 : decode cLaw_law 873 = .ok (.aload_n 0, 1) := zfLaw_law_859.2.2.2.2.2.2.2.1
theorem dLaw_law_874 : decode cLaw_law 874 = .ok (.iload 4, 2) := zfLaw_law_859.2.2.2.2.2.2.2.2.1
theorem dLaw_law_876 : decode cLaw_law 876 = .ok (.iconst 1, 1) := zfLaw_law_859.2.2.2.2.2.2.2.2.2.1
theorem dLaw_law_877 : decode cLaw_law 877 = .ok (.iadd, 1) := zfLaw_law_859.2.2.2.2.2.2.2.2.2.2.1
theorem dLaw_law_878 : decode cLaw_law 878 = .ok (.iaload, 1) := zfLaw_law_859.2.2.2.2.2.2.2.2.2.2.2.1
theorem dLaw_law_879 : decode cLaw_law 879 = .ok (.aload_n 3, 1) := zfLaw_law_859.2.2.2.2.2.2.2.2.2.2.2.2.1
theorem dLaw_law_880 : decode cLaw_law 880 = .ok (.invokestatic 219, 3) := zfLaw_law_859.2.2.2.2.2.2.2.2.2.2.2.2.2.1
theorem dLaw_law_883 : decode cLaw_law 883 = .ok (.istore 5, 2) := zfLaw_law_859.2.2.2.2.2.2.2.2.2.2.2.2.2.2.1
theorem dLaw_law_885 : decode cLaw_law 885 = .ok (.aload_n 2, 1) := zfLaw_law_859.2.2.2.2.2.2.2.2.2.2.2.2.2.2.2.1
theorem dLaw_law_886 : decode cLaw_law 886 = .ok (.aload_n 0, 1) := zfLaw_law_859.2.2.2.2.2.2.2.2.2.2.2.2.2.2.2.2.1
theorem dLaw_law_887 : decode cLaw_law 887 = .ok (.iload 4, 2) := zfLaw_law_859.2.2.2.2.2.2.2.2.2.2.2.2.2.2.2.2.2.1
theorem dLaw_law_889 : decode cLaw_law 889 = .ok (.iconst 1, 1) := zfLaw_law_859.2.2.2.2.2.2.2.2.2.2.2.2.2.2.2.2.2.2.1
theorem dLaw_law_890 : decode cLaw_law 890 = .ok (.iadd, 1) := zfLaw_law_859.2.2.2.2.2.2.2.2.2.2.2.2.2.2.2.2.2.2.2.1
theorem dLaw_law_891 : decode cLaw_law 891 = .ok (.iaload, 1) := zfLaw_law_859.2.2.2.2.2.2.2.2.2.2.2.2.2.2.2.2.2.2.2.2.1
theorem dLaw_law_892 : decode cLaw_law 892 = .ok (.invokevirtual 221, 3) := zfLaw_law_859.2.2.2.2.2.2.2.2.2.2.2.2.2.2.2.2.2.2.2.2.2.1
theorem dLaw_law_895 : decode cLaw_law 895 = .ok (.istore 6, 2) := zfLaw_law_859.2.2.2.2.2.2.2.2.2.2.2.2.2.2.2.2.2.2.2.2.2.2.1
theorem dLaw_law_897 : decode cLaw_law 897 = .ok (.goto 1241, 3) := zfLaw_law_859.2.2.2.2.2.2.2.2.2.2.2.2.2.2.2.2.2.2.2.2.2.2.2.1
theorem dLaw_law_900 : decode cLaw_law 900 = .ok (.aload_n 1, 1) := zfLaw_law_859.2.2.2.2.2.2.2.2.2.2.2.2.2.2.2.2.2.2.2.2.2.2.2.2.1
theorem dLaw_law_901 : decode cLaw_law 901 = .ok (.aload_n 0, 1) := zfLaw_law_859.2.2.2.2.2.2.2.2.2.2.2.2.2.2.2.2.2.2.2.2.2.2.2.2.2.1
theorem dLaw_law_902 : decode cLaw_law 902 = .ok (.iload 4, 2) := zfLaw_law_859.2.2.2.2.2.2.2.2.2.2.2.2.2.2.2.2.2.2.2.2.2.2.2.2.2.2.1
theorem dLaw_law_904 : decode cLaw_law 904 = .ok (.iconst 1, 1) := zfLaw_law_859.2.2.2.2.2.2.2.2.2.2.2.2.2.2.2.2.2.2.2.2.2.2.2.2.2.2.2.1
theorem dLaw_law_905 : decode cLaw_law 905 = .ok (.iadd, 1) := zfLaw_law_859.2.2.2.2.2.2.2.2.2.2.2.2.2.2.2.2.2.2.2.2.2.2.2.2.2.2.2.2.1
theorem dLaw_law_906 : decode cLaw_law 906 = .ok (.iaload, 1) := zfLaw_law_859.2.2.2.2.2.2.2.2.2.2.2.2.2.2.2.2.2.2.2.2.2.2.2.2.2.2.2.2.2.1
theorem dLaw_law_907 : decode cLaw_law 907 = .ok (.aload_n 0, 1) := zfLaw_law_859.2.2.2.2.2.2.2.2.2.2.2.2.2.2.2.2.2.2.2.2.2.2.2.2.2.2.2.2.2.2.1
theorem dLaw_law_908 : decode cLaw_law 908 = .ok (.iload 4, 2) := zfLaw_law_859.2.2.2.2.2.2.2.2.2.2.2.2.2.2.2.2.2.2.2.2.2.2.2.2.2.2.2.2.2.2.2.1
theorem zfLaw_law_910 : decode cLaw_law 910 = .ok (.iconst 2, 1) ∧ decode cLaw_law 911 = .ok (.iadd, 1) ∧ decode cLaw_law 912 = .ok (.iaload, 1) ∧ decode cLaw_law 913 = .ok (.aload_n 3, 1) ∧ decode cLaw_law 914 = .ok (.invokestatic 222, 3) ∧ decode cLaw_law 917 = .ok (.istore 5, 2) ∧ decode cLaw_law 919 = .ok (.aload_n 2, 1) ∧ decode cLaw_law 920 = .ok (.aload_n 0, 1) ∧ decode cLaw_law 921 = .ok (.iload 4, 2) ∧ decode cLaw_law 923 = .ok (.iconst 1, 1) ∧ decode cLaw_law 924 = .ok (.iadd, 1) ∧ decode cLaw_law 925 = .ok (.iaload, 1) ∧ decode cLaw_law 926 = .ok (.aload_n 0, 1) ∧ decode cLaw_law 927 = .ok (.iload 4, 2) ∧ decode cLaw_law 929 = .ok (.iconst 2, 1) ∧ decode cLaw_law 930 = .ok (.iadd, 1) ∧ decode cLaw_law 931 = .ok (.iaload, 1) ∧ decode cLaw_law 932 = .ok (.invokevirtual 224, 3) ∧ decode cLaw_law 935 = .ok (.istore 6, 2) ∧ decode cLaw_law 937 = .ok (.goto 1201, 3) ∧ decode cLaw_law 940 = .ok (.aload_n 1, 1) ∧ decode cLaw_law 941 = .ok (.aload_n 0, 1) ∧ decode cLaw_law 942 = .ok (.iload 4, 2) ∧ decode cLaw_law 944 = .ok (.iconst 1, 1) ∧ decode cLaw_law 945 = .ok (.iadd, 1) ∧ decode cLaw_law 946 = .ok (.iaload, 1) ∧ decode cLaw_law 947 = .ok (.aload_n 0, 1) ∧ decode cLaw_law 948 = .ok (.iload 4, 2) ∧ decode cLaw_law 950 = .ok (.iconst 2, 1) ∧ decode cLaw_law 951 = .ok (.iadd, 1) ∧ decode cLaw_law 952 = .ok (.iaload, 1) ∧ decode cLaw_law 953 = .ok (.aload_n 0, 1) ∧ True := Jvm.Free.DS.facts (code := cLaw_law) 910 [(.iconst 2, 1), (.iadd, 1), (.iaload, 1), (.aload_n 3, 1), (.invokestatic 222, 3), (.istore 5, 2), (.aload_n 2, 1), (.aload_n 0, 1), (.iload 4, 2), (.iconst 1, 1), (.iadd, 1), (.iaload, 1), (.aload_n 0, 1), (.iload 4, 2), (.iconst 2, 1), (.iadd, 1), (.iaload, 1), (.invokevirtual 224, 3), (.istore 6, 2), (.goto 1201, 3), (.aload_n 1, 1), (.aload_n 0, 1), (.iload 4, 2), (.iconst 1, 1), (.iadd, 1), (.iaload, 1), (.aload_n 0, 1), (.iload 4, 2), (.iconst 2, 1), (.iadd, 1), (.iaload, 1), (.aload_n 0, 1)] (by decide +kernel) (by decide +kernel)
theorem dLaw_law_910 : decode cLaw_law 910 = .ok (.iconst 2, 1) := zfLaw_law_910.1
theorem dLaw_law_911 : decode cLaw_law 911 = .ok (.iadd, 1) := zfLaw_law_910.2.1
theorem dLaw_law_912 : decode cLaw_law 912 = .ok (.iaload, 1) := zfLaw_law_910.2.2.1
theorem dLaw_law_913 : decode cLaw_law 913 = .ok (.aload_n 3, 1) := zfLaw_law_910.2.2.2.1
theorem dLaw_law_914 : decode cLaw_law 914 = .ok (.invokestatic 222, 3) := zfLaw_law_910.2.2.2.2.1
theorem dLaw_law_917 : decode cLaw_law 917 = .ok (.istore 5, 2) := zfLaw_law_910.2.2.2.2.2.1
theorem dLaw_law_919 : decode cLaw_law 919 = .ok (.aload_n 2, 1) := zfLaw_law_910.2.2.2.2.2.2.1
theorem dLaw_law_920 : decode cLaw_law 920 = .ok (.aload_n 0, 1) := zfLaw_law_910.2.2.2.2.2.2.2.1
theorem dLaw_law_921 : decode cLaw_law 921 = .ok (.iload 4, 2) := zfLaw_law_910.2.2.2.2.2.2.2.2.1
theorem dLaw_law_923 : decode cLaw_law 923 = .ok (.iconst 1, 1) := zfLaw_law_910.2.2.2.2.2.2.2.2.2.1
theorem dLaw_law_924 : decode cLaw_law 924 = .ok (.iadd, 1) := zfLaw_law_910.2.2.2.2.2.2.2.2.2.2.1
theorem dLaw_law_925 : decode cLaw_law 925 = .ok (.iaload, 1) := zfLaw_law_910.2.2.2.2.2.2.2.2.2.2.2.1
theorem dLaw_law_926 : decode cLaw_law 926 = .ok (.aload_n 0, 1) := zfLaw_law_910.2.2.2.2.2.2.2.2.2.2.2.2.1
theorem dLaw_law_927 : decode cLaw_law 927 = .ok (.iload 4, 2) := zfLaw_law_910.2.2.2.2.2.2.2.2.2.2.2.2.2.1
theorem dLaw_law_929 : decode cLaw_law 929 = .ok (.iconst 2, 1) := zfLaw_law_910.2.2.2.2.2.2.2.2.2.2.2.2.2.2.1
theorem dLaw_law_930 : decode cLaw_law 930 = .ok (.iadd, 1) := zfLaw_law_910.2.2.2.2.2.2.2.2.2.2.2.2.2.2.2.1
theorem dLaw_law_931 : decode cLaw_law 931 = .ok (.iaload, 1) := zfLaw_law_910.2.2.2.2.2.2.2.2.2.2.2.2.2.2.2.2.1
theorem dLaw_law_932 : decode cLaw_law 932 = .ok (.invokevirtual 224, 3) := zfLaw_law_910.2.2.2.2.2.2.2.2.2.2.2.2.2.2.2.2.2.1
theorem dLaw_law_935 : decode cLaw_law 935 = .ok (.istore 6, 2) := zfLaw_law_910.2.2.2.2.2.2.2.2.2.2.2.2.2.2.2.2.2.2.1
theorem dLaw_law_937 : decode cLaw_law 937 = .ok (.goto 1201, 3) := zfLaw_law_910.2.2.2.2.2.2.2.2.2.2.2.2.2.2.2.2.2.2.2.1
theorem dLaw_law_940 : decode cLaw_law 940 = .ok (.aload_n 1, 1) := zfLaw_law_910.2.2.2.2.2.2.2.2.2.2.2.2.2.2.2.2.2.2.2.2.1
theorem dLaw_law_941 : decode cLaw_law 941 = .ok (.aload_n 0, 1) := zfLaw_law_910.2.2.2.2.2.2.2.2.2.2.2.2.2.2.2.2.2.2.2.2.2.1
theorem dLaw_law_942 : decode cLaw_law 942 = .ok (.iload 4, 2) := zfLaw_law_910.2.2.2.2.2.2.2.2.2.2.2.2.2.2.2.2.2.2.2.2.2.2.1
theorem dLaw_law_944 : decode cLaw_law 944 = .ok (.iconst 1, 1) := zfLaw_law_910.2.2.2.2.2.2.2.2.2.2.2.2.2.2.2.2.2.2.2.2.2.2.2.1
theorem dLaw_law_945 : decode cLaw_law 945 = .ok (.iadd, 1) := zfLaw_law_910.2.2.2.2.2.2.2.2.2.2.2.2.2.2.2.2.2.2.2.2.2.2.2.2.1
theorem dLaw_law_946 : decode cLaw_law 946 = .ok (.iaload, 1) := zfLaw_law_910.2.2.2.2.2.2.2.2.2.2.2.2.2.2.2.2.2.2.2.2.2.2.2.2.2.1
theorem dLaw_law_947 : decode cLaw_law 947 = .ok (.aload_n 0, 1) := zfLaw_law_910.2.2.2.2.2.2.2.2.2.2.2.2.2.2.2.2.2.2.2.2.2.2.2.2.2.2.1
theorem dLaw_law_948 : decode cLaw_law 948 = .ok (.iload 4, 2) := zfLaw_law_910.2.2.2.2.2.2.2.2.2.2.2.2.2.2.2.2.2.2.2.2.2.2.2.2.2.2.2.1
theorem dLaw_law_950 : decode cLaw_law 950 = .ok (.iconst 2, 1) := zfLaw_law_910.2.2.2.2.2.2.2.2.2.2.2.2.2.2.2.2.2.2.2.2.2.2.2.2.2.2.2.2.1
theorem dLaw_law_951 : decode cLaw_law 951 = .ok (.iadd, 1) := zfLaw_law_910.2.2.2.2.2.2.2.2.2.2.2.2.2.2.2.2.2.2.2.2.2.2.2.2.2.2.2.2.2.1
theorem dLaw_law_952 : decode cLaw_law 952 = .ok (.iaload, 1) := zfLaw_law_910.2.2.2.2.2.2.2.2.2.2.2.2.2.2.2.2.2.2.2.2.2.2.2.2.2.2.2.2.2.2.1
theorem dLaw_law_953 : decode cLaw_law 953 = .ok (.aload_n 0, 1) := zfLaw_law_910.2.2.2.2.2.2.2.2.2.2.2.2.2.2.2.2.2.2.2.2.2.2.2.2.2.2.2.2.2.2.2.1
theorem zfLaw_law_954 : decode cLaw_law 954 = .ok (.iload 4, 2) ∧ decode cLaw_law 956 = .ok (.iconst 3, 1) ∧ decode cLaw_law 957 = .ok (.iadd, 1) ∧ decode cLaw_law 958 = .ok (.iaload, 1) ∧ decode cLaw_law 959 = .ok (.aload_n 3, 1) ∧ decode cLaw_law 960 = .ok (.invokestatic 225, 3) ∧ decode cLaw_law 963 = .ok (.istore 5, 2) ∧ decode cLaw_law 965 = .ok (.aload_n 2, 1) ∧ decode cLaw_law 966 = .ok (.aload_n 0, 1) ∧ decode cLaw_law 967 = .ok (.iload 4, 2) ∧ decode cLaw_law 969 = .ok (.iconst 1, 1) ∧ decode cLaw_law 970 = .ok (.iadd, 1) ∧ decode cLaw_law 971 = .ok (.iaload, 1) ∧ decode cLaw_law 972 = .ok (.aload_n 0, 1) ∧ decode cLaw_law 973 = .ok (.iload 4, 2) ∧ decode cLaw_law 975 = .ok (.iconst 2, 1) ∧ decode cLaw_law 976 = .ok (.iadd, 1) ∧ decode cLaw_law 977 = .ok (.iaload, 1) ∧ decode cLaw_law 978 = .ok (.aload_n 0, 1) ∧ decode cLaw_law 979 = .ok (.iload 4, 2) ∧ decode cLaw_law 981 = .ok (.iconst 3, 1) ∧ decode cLaw_law 982 = .ok (.iadd, 1) ∧ decode cLaw_law 983 = .ok (.iaload, 1) ∧ decode cLaw_law 984 = .ok (.invokevirtual 227, 3) ∧ decode cLaw_law 987 = .ok (.istore 6, 2) ∧ decode cLaw_law 989 = .ok (.goto 1149, 3) ∧ decode cLaw_law 992 = .ok (.aload_n 1, 1) ∧ decode cLaw_law 993 = .ok (.aload_n 0, 1) ∧ decode cLaw_law 994 = .ok (.iload 4, 2) ∧ decode cLaw_law 996 = .ok (.iconst 1, 1) ∧ decode cLaw_law 997 = .ok (.iadd, 1) ∧ decode cLaw_law 998 = .ok (.iaload, 1) ∧ True := Jvm.Free.DS.facts (code := cLaw_law) 954 [(.iload 4, 2), (.iconst 3, 1), (.iadd, 1), (.iaload, 1), (.aload_n 3, 1), (.invokestatic 225, 3), (.istore 5, 2), (.aload_n 2, 1), (.aload_n 0, 1), (.iload 4, 2), (.iconst 1, 1), (.iadd, 1), (.iaload, 1), (.aload_n 0, 1), (.iload 4, 2), (.iconst 2, 1), (.iadd, 1), (.iaload, 1), (.aload_n 0, 1), (.iload 4, 2), (.iconst 3, 1), (.iadd, 1), (.iaload, 1), (.invokevirtual 227, 3), (.istore 6, 2), (.goto 1149, 3), (.aload_n 1, 1), (.aload_n 0, 1), (.iload 4, 2), (.iconst 1, 1), (.iadd, 1), (.iaload, 1)] (by decide +kernel) (by decide +kernel)
theorem dLaw_law_954 : decode cLaw_law 954 = .ok (.iload 4, 2) := zfLaw_law_954.1
theorem dLaw_law_956 : decode cLaw_law 956 = .ok (.iconst 3, 1) := zfLaw_law_954.2.1
theorem dLaw_law_957 : decode cLaw_law 957 = .ok (.iadd, 1) := zfLaw_law_954.2.2.1
theorem dLaw_law_958 : decode cLaw_law 958 = .ok (.iaload, 1) := zfLaw_law_954.2.2.2.1
theorem dLaw_law_959 : decode cLaw_law 959 = .ok (.aload_n 3, 1) := zfLaw_law_954.2.2.2.2.1
theorem dLaw_law_960 : decode cLaw_law 960 = .ok (.invokestatic 225, 3) := zfLaw_law_954.2.2.2.2.2.1
theorem dLaw_law_963 : decode cLaw_law 963 = .ok (.istore 5, 2) := zfLaw_law_954.2.2.2.2.2.2.1
theorem dLaw_law_965 : decode cLaw_law 965 = .ok (.aload_n 2, 1) := zfLaw_law_954.2.2.2.2.2.2.2.1
theorem dLaw_law_966 : decode cLaw_law 966 = .ok (.aload_n 0, 1) := zfLaw_law_954.2.2.2.2.2.2.2.2.1
theorem dLaw_law_967 : decode cLaw_law 967 = .ok (.iload 4, 2) := zfLaw_law_954.2.2.2.2.2.2.2.2.2.1
theorem dLaw_law_969 : decode cLaw_law 969 = .ok (.iconst 1, 1) := zfLaw_law_954.2.2.2.2.2.2.2.2.2.2.1
theorem dLaw_law_970 : decode cLaw_law 970 = .ok (.iadd, 1) := zfLaw_law_954.2.2.2.2.2.2.2.2.2.2.2.1
theorem dLaw_law_971 : decode cLaw_law 971 = .ok (.iaload, 1) := zfLaw_law_954.2.2.2.2.2.2.2.2.2.2.2.2.1
theorem dLaw_law_972 : decode cLaw_law 972 = .ok (.aload_n 0, 1) := zfLaw_law_954.2.2.2.2.2.2.2.2.2.2.2.2.2.1
theorem dLaw_law_973 : decode cLaw_law 973 = .ok (.iload 4, 2) := zfLaw_law_954.2.2.2.2.2.2.2.2.2.2.2.2.2.2.1
theorem dLaw_law_975 : decode cLaw_law 975 = .ok (.iconst 2, 1) := zfLaw_law_954.2.2.2.2.2.2.2.2.2.2.2.2.2.2.2.1
theorem dLaw_law_976 : decode cLaw_law 976 = .ok (.iadd, 1) := zfLaw_law_954.2.2.2.2.2.2.2.2.2.2.2.2.2.2.2.2.1
theorem dLaw_law_977 : decode cLaw_law 977 = .ok (.iaload, 1) := zfLaw_law_954.2.2.2.2.2.2.2.2.2.2.2.2.2.2.2.2.2.1
theorem dLaw_law_978 : decode cLaw_law 978 = .ok (.aload_n 0, 1) := zfLaw_law_954.2.2.2.2.2.2.2.2.2.2.2.2.2.2.2.2.2.2.1
theorem dLaw_law_979 : decode cLaw_law 979 = .ok (.iload 4, 2) := zfLaw_law_954.2.2.2.2.2.2.2.2.2.2.2.2.2.2.2.2.2.2.2.1
theorem dLaw_law_981 : decode cLaw_law 981 = .ok (.iconst 3, 1) := zfLaw_law_954.2.2.2.2.2.2.2.2.2.2.2.2.2.2.2.2.2.2.2.2.1
theorem dLaw_law_982 : decode cLaw_law 982 = .ok (.iadd, 1) := zfLaw_law_954.2.2.2.2.2.2.2.2.2.2.2.2.2.2.2.2.2.2.2.2.2.1
theorem dLaw_law_983 : decode cLaw_law 983 = .ok (.iaload, 1) := zfLaw_law_954.2.2.2.2.2.2.2.2.2.2.2.2.2.2.2.2.2.2.2.2.2.2.1
theorem dLaw_law_984 : decode cLaw_law 984 = .ok (.invokevirtual 227, 3) := zfLaw_law_954.2.2.2.2.2.2.2.2.2.2.2.2.2.2.2.2.2.2.2.2.2.2.2.1
theorem dLaw_law_987 : decode cLaw_law 987 = .ok (.istore 6, 2) := zfLaw_law_954.2.2.2.2.2.2.2.2.2.2.2.2.2.2.2.2.2.2.2.2.2.2.2.2.1
theorem dLaw_law_989 : decode cLaw_law 989 = .ok (.goto 1149, 3) := zfLaw_law_954.2.2.2.2.2.2.2.2.2.2.2.2.2.2.2.2.2.2.2.2.2.2.2.2.2.1
theorem dLaw_law_992 : decode cLaw_law 992 = .ok (.aload_n 1, 1) := zfLaw_law_954.2.2.2.2.2.2.2.2.2.2.2.2.2.2.2.2.2.2.2.2.2.2.2.2.2.2.1
theorem dLaw_law_993 : decode cLaw_law 993 = .ok (.aload_n 0, 1) := zfLaw_law_954.2.2.2.2.2.2.2.2.2.2.2.2.2.2.2.2.2.2.2.2.2.2.2.2.2.2.2.1
theorem dLaw_law_994 : decode cLaw_law 994 = .ok (.iload 4, 2) := zfLaw_law_954.2.2.2.2.2.2.2.2.2.2.2.2.2.2.2.2.2.2.2.2.2.2.2.2.2.2.2.2.1
theorem dLaw_law_996 : decode cLaw_law 996 = .ok (.iconst 1, 1) := zfLaw_law_954.2.2.2.2.2.2.2.2.2.2.2.2.2.2.2.2.2.2.2.2.2.2.2.2.2.2.2.2.2.1
theorem dLaw_law_997 : decode cLaw_law 997 = .ok (.iadd, 1) := zfLaw_law_954.2.2.2.2.2.2.2.2.2.2.2.2.2.2.2.2.2.2.2.2.2.2.2.2.2.2.2.2.2.2.1
theorem dLaw_law_998 : decode cLaw_law 998 = .ok (.iaload, 1) := zfLaw_law_954.2.2.2.2.2.2.2.2.2.2.2.2.2.2.2.2.2.2.2.2.2.2.2.2.2.2.2.2.2.2.2.1
theorem zfLaw_law_999 : decode cLaw_law 999 = .ok (.aload_n 0, 1) ∧ decode cLaw_law 1000 = .ok (.iload 4, 2) ∧ decode cLaw_law 1002 = .ok (.iconst 2, 1) ∧ decode cLaw_law 1003 = .ok (.iadd, 1) ∧ decode cLaw_law 1004 = .ok (.iaload, 1) ∧ decode cLaw_law 1005 = .ok (.aload_n 3, 1) ∧ decode cLaw_law 1006 = .ok (.invokestatic 228, 3) ∧ decode cLaw_law 1009 = .ok (.istore 5, 2) ∧ decode cLaw_law 1011 = .ok (.aload_n 2, 1) ∧ decode cLaw_law 1012 = .ok (.aload_n 0, 1) ∧ decode cLaw_law 1013 = .ok (.iload 4, 2) ∧ decode cLaw_law 1015 = .ok (.iconst 1, 1) ∧ decode cLaw_law 1016 = .ok (.iadd, 1) ∧ decode cLaw_law 1017 = .ok (.iaload, 1) ∧ decode cLaw_law 1018 = .ok (.aload_n 0, 1) ∧ decode cLaw_law 1019 = .ok (.iload 4, 2) ∧ decode cLaw_law 1021 = .ok (.iconst 2, 1) ∧ decode cLaw_law 1022 = .ok (.iadd, 1) ∧ decode cLaw_law 1023 = .ok (.iaload, 1) ∧ decode cLaw_law 1024 = .ok (.invokevirtual 230, 3) ∧ decode cLaw_law 1027 = .ok (.istore 6, 2) ∧ decode cLaw_law 1029 = .ok (.goto 1109, 3) ∧ decode cLaw_law 1032 = .ok (.aload_n 1, 1) ∧ decode cLaw_law 1033 = .ok (.aload_n 0, 1) ∧ decode cLaw_law 1034 = .ok (.iload 4, 2) ∧ decode cLaw_law 1036 = .ok (.iconst 1, 1) ∧ decode cLaw_law 1037 = .ok (.iadd, 1) ∧ decode cLaw_law 1038 = .ok (.iaload, 1) ∧ decode cLaw_law 1039 = .ok (.aload_n 0, 1) ∧ decode cLaw_law 1040 = .ok (.iload 4, 2) ∧ decode cLaw_law 1042 = .ok (.iconst 2, 1) ∧ decode cLaw_law 1043 = .ok (.iadd, 1) ∧ True := Jvm.Free.DS.facts (code := cLaw_law) 999 [(.aload_n 0, 1), (.iload 4, 2), (.iconst 2, 1), (.iadd, 1), (.iaload, 1), (.aload_n 3, 1), (.invokestatic 228, 3), (.istore 5, 2), (.aload_n 2, 1), (.aload_n 0, 1), (.iload 4, 2), (.iconst 1, 1), (.iadd, 1), (.iaload, 1), (.aload_n 0, 1), (.iload 4, 2), (.iconst 2, 1), (.iadd, 1), (.iaload, 1), (.invokevirtual 230, 3), (.istore 6, 2), (.goto 1109, 3), (.aload_n 1, 1), (.aload_n 0, 1), (.iload 4, 2), (.iconst 1, 1), (.iadd, 1), (.iaload, 1), (.aload_n 0, 1), (.iload 4, 2), (.iconst 2, 1), (.iadd, 1)] (by decide +kernel) (by decide +kernel)
theorem dLaw_law_999 : decode cLaw_law 999 = .ok (.aload_n 0, 1) := zfLaw_law_999.1
theorem dLaw_law_1000 : decode cLaw_law 1000 = .ok (.iload 4, 2) := zfLaw_law_999.2.1
theorem dLaw_law_1002 : decode cLaw_law 1002 = .ok (.iconst 2, 1) := zfLaw_law_999.2.2.1
theorem dLaw_law_1003 : decode cLaw_law 1003 = .ok (.iadd, 1) := zfLaw_law_999.2.2.2.1
theorem dLaw_law_1004 : decode cLaw_law 1004 = .ok (.iaload, 1) := zfLaw_law_999.2.2.2.2.1
theorem dLaw_law_1005 : decode cLaw_law 1005 = .ok (.aload_n 3, 1) := zfLaw_law_999.2.2.2.2.2.1
theorem dLaw_law_1006 : decode cLaw_law 1006 = .ok (.invokestatic 228, 3) := zfLaw_law_999.2.2.2.2.2.2.1
theorem dLaw_law_1009 : decode cLaw_law 1009 = .ok (.istore 5, 2) := zfLaw_law_999.2.2.2.2.2.2.2.1
theorem dLaw_law_1011 : decode cLaw_law 1011 = .ok (.aload_n 2, 1) := zfLaw_law_999.2.2.2.2.2.2.2.2.1
theorem dLaw_law_1012 : decode cLaw_law 1012 = .ok (.aload_n 0, 1) := zfLaw_law_999.2.2.2.2.2.2.2.2.2.1
theorem dLaw_law_1013 : decode cLaw_law 1013 = .ok (.iload 4, 2) := zfLaw_law_999.2.2.2.2.2.2.2.2.2.2.1
theorem dLaw_law_1015 : decode cLaw_law 1015 = .ok (.iconst 1, 1) := zfLaw_law_999.2.2.2.2.2.2.2.2.2.2.2.1
theorem dLaw_law_1016 : decode cLaw_law 1016 = .ok (.iadd, 1) := zfLaw_law_999.2.2.2.2.2.2.2.2.2.2.2.2.1
theorem dLaw_law_1017 : decode cLaw_law 1017 = .ok (.iaload, 1) := zfLaw_law_999.2.2.2.2.2.2.2.2.2.2.2.2.2.1
theorem dLaw_law_1018 : decode cLaw_law 1018 = .ok (.aload_n 0, 1) := zfLaw_law_999.2.2.2.2.2.2.2.2.2.2.2.2.2.2.1
theorem dLaw_law_1019 : decode cLaw_law 1019 = .ok (.iload 4, 2) := zfLaw_law_999.2.2.2.2.2.2.2.2.2.2.2.2.2.2.2.1
theorem dLaw_law_1021 : decode cLaw_law 1021 = .ok (.iconst 2, 1) := zfLaw_law_999.2.2.2.2.2.2.2.2.2.2.2.2.2.2.2.2.1
theorem dLaw_law_1022 : decode cLaw_law 1022 = .ok (.iadd, 1) := zfLaw_law_999.2.2.2.2.2.2.2.2.2.2.2.2.2.2.2.2.2.1
theorem dLaw_law_1023 : decode cLaw_law 1023 = .ok (.iaload, 1) := zfLaw_law_999.2.2.2.2.2.2.2.2.2.2.2.2.2.2.2.2.2.2.1
theorem dLaw_law_1024 : decode cLaw_law 1024 = .ok (.invokevirtual 230, 3) := zfLaw_law_999.2.2.2.2.2.2.2.2.2.2.2.2.2.2.2.2.2.2.2.1
theorem dLaw_law_1027 : decode cLaw_law 1027 = .ok (.istore 6, 2) := zfLaw_law_999.2.2.2.2.2.2.2.2.2.2.2.2.2.2.2.2.2.2.2.2.1
theorem dLaw_law_1029 : decode cLaw_law 1029 = .ok (.goto 1109, 3) := zfLaw_law_999.2.2.2.2.2.2.2.2.2.2.2.2.2.2.2.2.2.2.2.2.2.1
theorem dLaw_law_1032 : decode cLaw_law 1032 = .ok (.aload_n 1, 1) := zfLaw_law_999.2.2.2.2.2.2.2.2.2.2.2.2.2.2.2.2.2.2.2.2.2.2.1
theorem dLaw_law_1033 : decode cLaw_law 1033 = .ok (.aload_n 0, 1) := zfLaw_law_999.2.2.2.2.2.2.2.2.2.2.2.2.2.2.2.2.2.2.2.2.2.2.2.1
theorem dLaw_law_1034 : decode cLaw_law 1034 = .ok (.iload 4, 2) := zfLaw_law_999.2.2.2.2.2.2.2.2.2.2.2.2.2.2.2.2.2.2.2.2.2.2.2.2.1
theorem dLaw_law_1036 : decode cLaw_law 1036 = .ok (.iconst 1, 1) := zfLaw_law_999.2.2.2.2.2.2.2.2.2.2.2.2.2.2.2.2.2.2.2.2.2.2.2.2.2.1
theorem dLaw_law_1037 : decode cLaw_law 1037 = .ok (.iadd, 1) := zfLaw_law_999.2.2.2.2.2.2.2.2.2.2.2.2.2.2.2.2.2.2.2.2.2.2.2.2.2.2.1
theorem dLaw_law_1038 : decode cLaw_law 1038 = .ok (.iaload, 1) := zfLaw_law_999.2.2.2.2.2.2.2.2.2.2.2.2.2.2.2.2.2.2.2.2.2.2.2.2.2.2.2.1
theorem dLaw_law_1039 : decode cLaw_law 1039 = .ok (.aload_n 0, 1) := zfLaw_law_999.2.2.2.2.2.2.2.2.2.2.2.2.2.2.2.2.2.2.2.2.2.2.2.2.2.2.2.2.1
theorem dLaw_law_1040 : decode cLaw_law 1040 = .ok (.iload 4, 2) := zfLaw_law_999.2.2.2.2.2.2.2.2.2.2.2.2.2.2.2.2.2.2.2.2.2.2.2.2.2.2.2.2.2.1
theorem dLaw_law_1042 : decode cLaw_law 1042 = .ok (.iconst 2, 1) := zfLaw_law_999.2.2.2.2.2.2.2.2.2.2.2.2.2.2.2.2.2.2.2.2.2.2.2.2.2.2.2.2.2.2.1
theorem dLaw_law_1043 : decode cLaw_law 1043 = .ok (.iadd, 1) := zfLaw_law_999.2.2.2.2.2.2.2.2.2.2.2.2.2.2.2.2.2.2.2.2.2.2.2.2.2.2.2.2.2.2.2.1
theorem zfLaw_law_1044 : decode cLaw_law 1044 = .ok (.iaload, 1) ∧ decode cLaw_law 1045 = .ok (.aload_n 3, 1) ∧ decode cLaw_law 1046 = .ok (.invokestatic 231, 3) ∧ decode cLaw_law 1049 = .ok (.istore 5, 2) ∧ decode cLaw_law 1051 = .ok (.aload_n 2, 1) ∧ decode cLaw_law 1052 = .ok (.aload_n 0, 1) ∧ decode cLaw_law 1053 = .ok (.iload 4, 2) ∧ decode cLaw_law 1055 = .ok (.iconst 1, 1) ∧ decode cLaw_law 1056 = .ok (.iadd, 1) ∧ decode cLaw_law 1057 = .ok (.iaload, 1) ∧ decode cLaw_law 1058 = .ok (.aload_n 0, 1) ∧ decode cLaw_law 1059 = .ok (.iload 4, 2) ∧ decode cLaw_law 1061 = .ok (.iconst 2, 1) ∧ decode cLaw_law 1062 = .ok (.iadd, 1) ∧ decode cLaw_law 1063 = .ok (.iaload, 1) ∧ decode cLaw_law 1064 = .ok (.invokevirtual 233, 3) ∧ decode cLaw_law 1067 = .ok (.istore 6, 2) ∧ decode cLaw_law 1069 = .ok (.goto 1069, 3) ∧ decode cLaw_law 1072 = .ok (.aload_n 1, 1) ∧ decode cLaw_law 1073 = .ok (.aload_n 0, 1) ∧ decode cLaw_law 1074 = .ok (.iload 4, 2) ∧ decode cLaw_law 1076 = .ok (.iconst 1, 1) ∧ decode cLaw_law 1077 = .ok (.iadd, 1) ∧ decode cLaw_law 1078 = .ok (.iaload, 1) ∧ decode cLaw_law 1079 = .ok (.aload_n 0, 1) ∧ decode cLaw_law 1080 = .ok (.iload 4, 2) ∧ decode cLaw_law 1082 = .ok (.iconst 2, 1) ∧ decode cLaw_law 1083 = .ok (.iadd, 1) ∧ decode cLaw_law 1084 = .ok (.iaload, 1) ∧ decode cLaw_law 1085 = .ok (.aload_n 3, 1) ∧ decode cLaw_law 1086 = .ok (.invokestatic 234, 3) ∧ decode cLaw_law 1089 = .ok (.istore 5, 2) ∧ True := Jvm.Free.DS.facts (code := cLaw_law) 1044 [(.iaload, 1), (.aload_n 3, 1), (.invokestatic 231, 3), (.istore 5, 2), (.aload_n 2, 1), (.aload_n 0, 1), (.iload 4, 2), (.iconst 1, 1), (.iadd, 1), (.iaload, 1), (.aload_n 0, 1), (.iload 4, 2), (.iconst 2, 1), (.iadd, 1), (.iaload, 1), (.invokevirtual 233, 3), (.istore 6, 2), (.goto 1069, 3), (.aload_n 1, 1), (.aload_n 0, 1), (.iload 4, 2), (.iconst 1, 1), (.iadd, 1), (.iaload, 1), (.aload_n 0, 1), (.iload 4, 2), (.iconst 2, 1), (.iadd, 1), (.iaload, 1), (.aload_n 3, 1), (.invokestatic 234, 3), (.istore 5, 2)] (by decide +kernel) (by decide +kernel)
theorem dLaw_law_1044 : decode cLaw_law 1044 = .ok (.iaload, 1) := zfLaw_law_1044.1
theorem dLaw_law_1045 : decode cLaw_law 1045 = .ok (.aload_n 3, 1) := zfLaw_law_1044.2.1
theorem dLaw_law_1046 : decode cLaw_law 1046 = .ok (.invokestatic 231, 3) := zfLaw_law_1044.2.2.1
theorem dLaw_law_1049 : decode cLaw_law 1049 = .ok (.istore 5, 2) := zfLaw_law_1044.2.2.2.1
theorem dLaw_law_1051 : decode cLaw_law 1051 = .ok (.aload_n 2, 1) := zfLaw_law_1044.2.2.2.2.1
theorem dLaw_law_1052 : decode cLaw_law 1052 = .ok (.aload_n 0, 1) := zfLaw_law_1044.2.2.2.2.2.1
theorem dLaw_law_1053 : decode cLaw_law 1053 = .ok (.iload 4, 2) := zfLaw_law_1044.2.2.2.2.2.2.1
theorem dLaw_law_1055 : decode cLaw_law 1055 = .ok (.iconst 1, 1) := zfLaw_law_1044.2.2.2.2.2.2.2.1
theorem dLaw_law_1056 : decode cLaw_law 1056 = .ok (.iadd, 1) := zfLaw_law_1044.2.2.2.2.2.2.2.2.1
theorem dLaw_law_1057 : decode cLaw_law 1057 = .ok (.iaload, 1) := zfLaw_law_1044.2.2.2.2.2.2.2.2.2.1
theorem dLaw_law_1058 : decode cLaw_law 1058 = .ok (.aload_n 0, 1) := zfLaw_law_1044.2.2.2.2.2.2.2.2.2.2.1
theorem dLaw_law_1059 : decode cLaw_law 1059 = .ok (.iload 4, 2) := zfLaw_law_1044.2.2.2.2.2.2.2.2.2.2.2.1
theorem dLaw_law_1061 : decode cLaw_law 1061 = .ok (.iconst 2, 1) := zfLaw_law_1044.2.2.2.2.2.2.2.2.2.2.2.2.1
theorem dLaw_law_1062 : decode cLaw_law 1062 = .ok (.iadd, 1) := zfLaw_law_1044.2.2.2.2.2.2.2.2.2.2.2.2.2.1
theorem dLaw_law_1063 : decode cLaw_law 1063 = .ok (.iaload, 1) := zfLaw_law_1044.2.2.2.2.2.2.2.2.2.2.2.2.2.2.1
theorem dLaw_law_1064 : decode cLaw_law 1064 = .ok (.invokevirtual 233, 3) := zfLaw_law_1044.2.2.2.2.2.2.2.2.2.2.2.2.2.2.2.1
theorem dLaw_law_1067 : decode cLaw_law 1067 = .ok (.istore 6, 2) := zfLaw_law_1044.2.2.2.2.2.2.2.2.2.2.2.2.2.2.2.2.1
theorem dLaw_law_1069 : decode cLaw_law 1069 = .ok (.goto 1069, 3) := zfLaw_law_1044.2.2.2.2.2.2.2.2.2.2.2.2.2.2.2.2.2.1
theorem dLaw_law_1072 : decode cLaw_law 1072 = .ok (.aload_n 1, 1) := zfLaw_law_1044.2.2.2.2.2.2.2.2.2.2.2.2.2.2.2.2.2.2.1
theorem dLaw_law_1073 : decode cLaw_law 1073 = .ok (.aload_n 0, 1) := zfLaw_law_1044.2.2.2.2.2.2.2.2.2.2.2.2.2.2.2.2.2.2.2.1
theorem dLaw_law_1074 : decode cLaw_law 1074 = .ok (.iload 4, 2) := zfLaw_law_1044.2.2.2.2.2.2.2.2.2.2.2.2.2.2.2.2.2.2.2.2.1
theorem dLaw_law_1076 : decode cLaw_law 1076 = .ok (.iconst 1, 1) := zfLaw_law_1044.2.2.2.2.2.2.2.2.2.2.2.2.2.2.2.2.2.2.2.2.2.1
theorem dLaw_law_1077 : decode cLaw_law 1077 = .ok (.iadd, 1) := zfLaw_law_1044.2.2.2.2.2.2.2.2.2.2.2.2.2.2.2.2.2.2.2.2.2.2.1
theorem dLaw_law_1078 : decode cLaw_law 1078 = .ok (.iaload, 1) := zfLaw_law_1044.2.2.2.2.2.2.2.2.2.2.2.2.2.2.2.2.2.2.2.2.2.2.2.1
theorem dLaw_law_1079 : decode cLaw_law 1079 = .ok (.aload_n 0, 1) := zfLaw_law_1044.2.2.2.2.2.2.2.2.2.2.2.2.2.2.2.2.2.2.2.2.2.2.2.2.1
theorem dLaw_law_1080 : decode cLaw_law 1080 = .ok (.iload 4, 2) := zfLaw_law_1044.2.2.2.2.2.2.2.2.2.2.2.2.2.2.2.2.2.2.2.2.2.2.2.2.2.1
theorem dLaw_law_1082 : decode cLaw_law 1082 = .ok (.iconst 2, 1) := zfLaw_law_1044.2.2.2.2.2.2.2.2.2.2.2.2.2.2.2.2.2.2.2.2.2.2.2.2.2.2.1
theorem dLaw_law_1083 : decode cLaw_law 1083 = .ok (.iadd, 1) := zfLaw_law_1044.2.2.2.2.2.2.2.2.2.2.2.2.2.2.2.2.2.2.2.2.2.2.2.2.2.2.2.1
theorem dLaw_law_1084 : decode cLaw_law 1084 = .ok (.iaload, 1) := zfLaw_law_1044.2.2.2.2.2.2.2.2.2.2.2.2.2.2.2.2.2.2.2.2.2.2.2.2.2.2.2.2.1
theorem dLaw_law_1085 : decode cLaw_law 1085 = .ok (.aload_n 3, 1) := zfLaw_law_1044.2.2.2.2.2.2.2.2.2.2.2.2.2.2.2.2.2.2.2.2.2.2.2.2.2.2.2.2.2.1
theorem dLaw_law_1086 : decode cLaw_law 1086 = .ok (.invokestatic 234, 3) := zfLaw_law_1044.2.2.2.2.2.2.2.2.2.2.2.2.2.2.2.2.2.2.2.2.2.2.2.2.2.2.2.2.2.2.1
theorem dLaw_law_1089 : decode cLaw_law 1089 = .ok (.istore 5, 2) := zfLaw_law_1044.2.2.2.2.2.2.2.2.2.2.2.2.2.2.2.2.2.2.2.2.2.2.2.2.2.2.2.2.2.2.2.1
theorem zfLaw_law_1091 : decode cLaw_law 1091 = .ok (.aload_n 2, 1) ∧ decode cLaw_law 1092 = .ok (.aload_n 0, 1) ∧ decode cLaw_law 1093 = .ok (.iload 4, 2) ∧ decode cLaw_law 1095 = .ok (.iconst 1, 1) ∧ decode cLaw_law 1096 = .ok (.iadd, 1) ∧ decode cLaw_law 1097 = .ok (.iaload, 1) ∧ decode cLaw_law 1098 = .ok (.aload_n 0, 1) ∧ decode cLaw_law 1099 = .ok (.iload 4, 2) ∧ decode cLaw_law 1101 = .ok (.iconst 2, 1) ∧ decode cLaw_law 1102 = .ok (.iadd, 1) ∧ decode cLaw_law 1103 = .ok (.iaload, 1) ∧ decode cLaw_law 1104 = .ok (.invokevirtual 236, 3) ∧ decode cLaw_law 1107 = .ok (.istore 6, 2) ∧ decode cLaw_law 1109 = .ok (.goto 1029, 3) ∧ decode cLaw_law 1112 = .ok (.aload_n 1, 1) ∧ decode cLaw_law 1113 = .ok (.aload_n 0, 1) ∧ decode cLaw_law 1114 = .ok (.iload 4, 2) ∧ decode cLaw_law 1116 = .ok (.iconst 1, 1) ∧ decode cLaw_law 1117 = .ok (.iadd, 1) ∧ decode cLaw_law 1118 = .ok (.iaload, 1) ∧ decode cLaw_law 1119 = .ok (.aload_n 0, 1) ∧ decode cLaw_law 1120 = .ok (.iload 4, 2) ∧ decode cLaw_law 1122 = .ok (.iconst 2, 1) ∧ decode cLaw_law 1123 = .ok (.iadd, 1) ∧ decode cLaw_law 1124 = .ok (.iaload, 1) ∧ decode cLaw_law 1125 = .ok (.aload_n 0, 1) ∧ decode cLaw_law 1126 = .ok (.iload 4, 2) ∧ decode cLaw_law 1128 = .ok (.iconst 3, 1) ∧ decode cLaw_law 1129 = .ok (.iadd, 1) ∧ decode cLaw_law 1130 = .ok (.iaload, 1) ∧ decode cLaw_law 1131 = .ok (.aload_n 3, 1) ∧ decode cLaw_law 1132 = .ok (.invokestatic 237, 3) ∧ True := Jvm.Free.DS.facts (code := cLaw_law) 1091 [(.aload_n 2, 1), (.aload_n 0, 1), (.iload 4, 2), (.iconst 1, 1), (.iadd, 1), (.iaload, 1), (.aload_n 0, 1), (.iload 4, 2), (.iconst 2, 1), (.iadd, 1), (.iaload, 1), (.invokevirtual 236, 3), (.istore 6, 2), (.goto 1029, 3), (.aload_n 1, 1), (.aload_n 0, 1), (.iload 4, 2), (.iconst 1, 1), (.iadd, 1), (.iaload, 1), (.aload_n 0, 1), (.iload 4, 2), (.iconst 2, 1), (.iadd, 1), (.iaload, 1), (.aload_n 0, 1), (.iload 4, 2), (.iconst 3, 1), (.iadd, 1), (.iaload, 1), (.aload_n 3, 1), (.invokestatic 237, 3)] (by decide +kernel) (by decide +kernel)
theorem dLaw_law_1091 : decode cLaw_law 1091 = .ok (.aload_n 2, 1) := zfLaw_law_1091.1
theorem dLaw_law_1092 : decode cLaw_law 1092 = .ok (.aload_n 0, 1) := zfLaw_law_1091.2.1
theorem dLaw_law_1093 : decode cLaw_law 1093 = .ok (.iload 4, 2) := zfLaw_law_1091.2.2.1
theorem dLaw_law_1095 : decode cLaw_law 1095 = .ok (.iconst 1, 1) := zfLaw_law_1091.2.2.2.1
theorem dLaw_law_1096 : decode cLaw_law 1096 = .ok (.iadd, 1) := zfLaw_law_1091.2.2.2.2.1
theorem dLaw_law_1097 : decode cLaw_law 1097 = .ok (.iaload, 1) := zfLaw_law_1091.2.2.2.2.2.1
theorem dLaw_law_1098 : decode cLaw_law 1098 = .ok (.aload_n 0, 1) := zfLaw_law_1091.2.2.2.2.2.2.1
theorem dLaw_law_1099 : decode cLaw_law 1099 = .ok (.iload 4, 2) := zfLaw_law_1091.2.2.2.2.2.2.2.1
theorem dLaw_law_1101 : decode cLaw_law 1101 = .ok (.iconst 2, 1) := zfLaw_law_1091.2.2.2.2.2.2.2.2.1
theorem dLaw_law_1102 : decode cLaw_law 1102 = .ok (.iadd, 1) := zfLaw_law_1091.2.2.2.2.2.2.2.2.2.1
theorem dLaw_law_1103 : decode cLaw_law 1103 = .ok (.iaload, 1) := zfLaw_law_1091.2.2.2.2.2.2.2.2.2.2.1
theorem dLaw_law_1104 : decode cLaw_law 1104 = .ok (.invokevirtual 236, 3) := zfLaw_law_1091.2.2.2.2.2.2.2.2.2.2.2.1
theorem dLaw_law_1107 : decode cLaw_law 1107 = .ok (.istore 6, 2) := zfLaw_law_1091.2.2.2.2.2.2.2.2.2.2.2.2.1
theorem dLaw_law_1109 : decode cLaw_law 1109 = .ok (.goto 1029, 3) := zfLaw_law_1091.2.2.2.2.2.2.2.2.2.2.2.2.2.1
theorem dLaw_law_1112 : decode cLaw_law 1112 = .ok (.aload_n 1, 1) := zfLaw_law_1091.2.2.2.2.2.2.2.2.2.2.2.2.2.2.1
theorem dLaw_law_1113 : decode cLaw_law 1113 = .ok (.aload_n 0, 1) := zfLaw_law_1091.2.2.2.2.2.2.2.2.2.2.2.2.2.2.2.1
theorem dLaw_law_1114 : decode cLaw_law 1114 = .ok (.iload 4, 2) := zfLaw_law_1091.2.2.2.2.2.2.2.2.2.2.2.2.2.2.2.2.1
theorem dLaw_law_1116 : decode cLaw_law 1116 = .ok (.iconst 1, 1) := zfLaw_law_1091.2.2.2.2.2.2.2.2.2.2.2.2.2.2.2.2.2.1
theorem dLaw_law_1117 : decode cLaw_law 1117 = .ok (.iadd, 1) := zfLaw_law_1091.2.2.2.2.2.2.2.2.2.2.2.2.2.2.2.2.2.2.1
theorem dLaw_law_1118 : decode cLaw_law 1118 = .ok (.iaload, 1) := zfLaw_law_1091.2.2.2.2.2.2.2.2.2.2.2.2.2.2.2.2.2.2.2.1
theorem dLaw_law_1119 : decode cLaw_law 1119 = .ok (.aload_n 0, 1) := zfLaw_law_1091.2.2.2.2.2.2.2.2.2.2.2.2.2.2.2.2.2.2.2.2.1
theorem dLaw_law_1120 : decode cLaw_law 1120 = .ok (.iload 4, 2) := zfLaw_law_1091.2.2.2.2.2.2.2.2.2.2.2.2.2.2.2.2.2.2.2.2.2.1
theorem dLaw_law_1122 : decode cLaw_law 1122 = .ok (.iconst 2, 1) := zfLaw_law_1091.2.2.2.2.2.2.2.2.2.2.2.2.2.2.2.2.2.2.2.2.2.2.1
theorem dLaw_law_1123 : decode cLaw_law 1123 = .ok (.iadd, 1) := zfLaw_law_1091.2.2.2.2.2.2.2.2.2.2.2.2.2.2.2.2.2.2.2.2.2.2.2.1
theorem dLaw_law_1124 : decode cLaw_law 1124 = .ok (.iaload, 1) := zfLaw_law_1091.2.2.2.2.2.2.2.2.2.2.2.2.2.2.2.2.2.2.2.2.2.2.2.2.1
theorem dLaw_law_1125 : decode cLaw_law 1125 = .ok (.aload_n 0, 1) := zfLaw_law_1091.2.2.2.2.2.2.2.2.2.2.2.2.2.2.2.2.2.2.2.2.2.2.2.2.2.1
theorem dLaw_law_1126 : decode cLaw_law 1126 = .ok (.iload 4, 2) := zfLaw_law_1091.2.2.2.2.2.2.2.2.2.2.2.2.2.2.2.2.2.2.2.2.2.2.2.2.2.2.1
theorem dLaw_law_1128 : decode cLaw_law 1128 = .ok (.iconst 3, 1) := zfLaw_law_1091.2.2.2.2.2.2.2.2.2.2.2.2.2.2.2.2.2.2.2.2.2.2.2.2.2.2.2.1
theorem dLaw_law_1129 : decode cLaw_law 1129 = .ok (.iadd, 1) := zfLaw_law_1091.2.2.2.2.2.2.2.2.2.2.2.2.2.2.2.2.2.2.2.2.2.2.2.2.2.2.2.2.1
theorem dLaw_law_1130 : decode cLaw_law 1130 = .ok (.iaload, 1) := zfLaw_law_1091.2.2.2.2.2.2.2.2.2.2.2.2.2.2.2.2.2.2.2.2.2.2.2.2.2.2.2.2.2.1
theorem dLaw_law_1131 : decode cLaw_law 1131 = .ok (.aload_n 3, 1) := zfLaw_law_1091.2.2.2.2.2.2.2.2.2.2.2.2.2.2.2.2.2.2.2.2.2.2.2.2.2.2.2.2.2.2.1
theorem dLaw_law_1132 : decode cLaw_law 1132 = .ok (.invokestatic 237, 3) := zfLaw_law_1091.2.2.2.2.2.2.2.2.2.2.2.2.2.2.2.2.2.2.2.2.2.2.2.2.2.2.2.2.2.2.2.1
theorem zfLaw_law_1135 : decode cLaw_law 1135 = .ok (.istore 5, 2) ∧ decode cLaw_law 1137 = .ok (.aload_n 2, 1) ∧ decode cLaw_law 1138 = .ok (.aload_n 0, 1) ∧ decode cLaw_law 1139 = .ok (.iload 4, 2) ∧ decode cLaw_law 1141 = .ok (.iconst 1, 1) ∧ decode cLaw_law 1142 = .ok (.iadd, 1) ∧ decode cLaw_law 1143 = .ok (.iaload, 1) ∧ decode cLaw_law 1144 = .ok (.aload_n 0, 1) ∧ decode cLaw_law 1145 = .ok (.iload 4, 2) ∧ decode cLaw_law 1147 = .ok (.iconst 2, 1) ∧ decode cLaw_law 1148 = .ok (.iadd, 1) ∧ decode cLaw_law 1149 = .ok (.iaload, 1) ∧ decode cLaw_law 1150 = .ok (.aload_n 0, 1) ∧ decode cLaw_law 1151 = .ok (.iload 4, 2) ∧ decode cLaw_law 1153 = .ok (.iconst 3, 1) ∧ decode cLaw_law 1154 = .ok (.iadd, 1) ∧ decode cLaw_law 1155 = .ok (.iaload, 1) ∧ decode cLaw_law 1156 = .ok (.invokevirtual 239, 3) ∧ decode cLaw_law 1159 = .ok (.istore 6, 2) ∧ decode cLaw_law 1161 = .ok (.goto 977, 3) ∧ decode cLaw_law 1164 = .ok (.aload_n 1, 1) ∧ decode cLaw_law 1165 = .ok (.aload_n 0, 1) ∧ decode cLaw_law 1166 = .ok (.iload 4, 2) ∧ decode cLaw_law 1168 = .ok (.iconst 1, 1) ∧ decode cLaw_law 1169 = .ok (.iadd, 1) ∧ decode cLaw_law 1170 = .ok (.iaload, 1) ∧ decode cLaw_law 1171 = .ok (.aload_n 0, 1) ∧ decode cLaw_law 1172 = .ok (.iload 4, 2) ∧ decode cLaw_law 1174 = .ok (.iconst 2, 1) ∧ decode cLaw_law 1175 = .ok (.iadd, 1) ∧ decode cLaw_law 1176 = .ok (.iaload, 1) ∧ decode cLaw_law 1177 = .ok (.aload_n 0, 1) ∧ True := Jvm.Free.DS.facts (code := cLaw_law) 1135 [(.istore 5, 2), (.aload_n 2, 1), (.aload_n 0, 1), (.iload 4, 2), (.iconst 1, 1), (.iadd, 1), (.iaload, 1), (.aload_n 0, 1), (.iload 4, 2), (.iconst 2, 1), (.iadd, 1), (.iaload, 1), (.aload_n 0, 1), (.iload 4, 2), (.iconst 3, 1), (.iadd, 1), (.iaload, 1), (.invokevirtual 239, 3), (.istore 6, 2), (.goto 977, 3), (.aload_n 1, 1), (.aload_n 0, 1), (.iload 4, 2), (.iconst 1, 1), (.iadd, 1), (.iaload, 1), (.aload_n 0, 1), (.iload 4, 2), (.iconst 2, 1), (.iadd, 1), (.iaload, 1), (.aload_n 0, 1)] (by decide +kernel) (by decide +kernel)
theorem dLaw_law_1135 : decode cLaw_law 1135 = .ok (.istore 5, 2) := zfLaw_law_1135.1
theorem dLaw_law_1137 : decode cLaw_law 1137 = .ok (.aload_n 2, 1) := zfLaw_law_1135.2.1
theorem dLaw_law_1138 : decode cLaw_law 1138 = .ok (.aload_n 0, 1) := zfLaw_law_1135.2.2.1
theorem dLaw_law_1139 : decode cLaw_law 1139 = .ok (.iload 4, 2) := zfLaw_law_1135.2.2.2.1
theorem dLaw_law_1141 : decode cLaw_law 1141 = .ok (.iconst 1, 1) := zfLaw_law_1135.2.2.2.2.1
theorem dLaw_law_1142 : decode cLaw_law 1142 = .ok (.iadd, 1) := zfLaw_law_1135.2.2.2.2.2.1
theorem dLaw_law_1143 : decode cLaw_law 1143 = .ok (.iaload, 1) := zfLaw_law_1135.2.2.2.2.2.2.1
theorem dLaw_law_1144 : decode cLaw_law 1144 = .ok (.aload_n 0, 1) := zfLaw_law_1135.2.2.2.2.2.2.2.1
theorem dLaw_law_1145 : decode cLaw_law 1145 = .ok (.iload 4, 2) := zfLaw_law_1135.2.2.2.2.2.2.2.2.1
theorem dLaw_law_1147 : decode cLaw_law 1147 = .ok (.iconst 2, 1) := zfLaw_law_1135.2.2.2.2.2.2.2.2.2.1
theorem dLaw_law_1148 : decode cLaw_law 1148 = .ok (.iadd, 1) := zfLaw_law_1135.2.2.2.2.2.2.2.2.2.2.1
theorem dLaw_law_1149 : decode cLaw_law 1149 = .ok (.iaload, 1) := zfLaw_law_1135.2.2.2.2.2.2.2.2.2.2.2.1
theorem dLaw_law_1150 : decode cLaw_law 1150 = .ok (.aload_n 0, 1) := zfLaw_law_1135.2.2.2.2.2.2.2.2.2.2.2.2.1
theorem dLaw_law_1151 : decode cLaw_law 1151 = .ok (.iload 4, 2) := zfLaw_law_1135.2.2.2.2.2.2.2.2.2.2.2.2.2.1
theorem dLaw_law_1153 : decode cLaw_law 1153 = .ok (.iconst 3, 1) := zfLaw_law_1135.2.2.2.2.2.2.2.2.2.2.2.2.2.2.1
theorem dLaw_law_1154 : decode cLaw_law 1154 = .ok (.iadd, 1) := zfLaw_law_1135.2.2.2.2.2.2.2.2.2.2.2.2.2.2.2.1
theorem dLaw_law_1155 : decode cLaw_law 1155 = .ok (.iaload, 1) := zfLaw_law_1135.2.2.2.2.2.2.2.2.2.2.2.2.2.2.2.2.1
theorem dLaw_law_1156 : decode cLaw_law 1156 = .ok (.invokevirtual 239, 3) := zfLaw_law_1135.2.2.2.2.2.2.2.2.2.2.2.2.2.2.2.2.2.1
theorem dLaw_law_1159 : decode cLaw_law 1159 = .ok (.istore 6, 2) := zfLaw_law_1135.2.2.2.2.2.2.2.2.2.2.2.2.2.2.2.2.2.2.1
theorem dLaw_law_1161 : decode cLaw_law 1161 = .ok (.goto 977, 3) := zfLaw_law_1135.2.2.2.2.2.2.2.2.2.2.2.2.2.2.2.2.2.2.2.1
theorem dLaw_law_1164 : decode cLaw_law 1164 = .ok (.aload_n 1, 1) := zfLaw_law_1135.2.2.2.2.2.2.2.2.2.2.2.2.2.2.2.2.2.2.2.2.1
theorem dLaw_law_1165 : decode cLaw_law 1165 = .ok (.aload_n 0, 1) := zfLaw_law_1135.2.2.2.2.2.2.2.2.2.2.2.2.2.2.2.2.2.2.2.2.2.1
theorem dLaw_law_1166 : decode cLaw_law 1166 = .ok (.iload 4, 2) := zfLaw_law_1135.2.2.2.2.2.2.2.2.2.2.2.2.2.2.2.2.2.2.2.2.2.2.1
theorem dLaw_law_1168 : decode cLaw_law 1168 = .ok (.iconst 1, 1) := zfLaw_law_1135.2.2.2.2.2.2.2.2.2.2.2.2.2.2.2.2.2.2.2.2.2.2.2.1
theorem dLaw_law_1169 : decode cLaw_law 1169 = .ok (.iadd, 1) := zfLaw_law_1135.2.2.2.2.2.2.2.2.2.2.2.2.2.2.2.2.2.2.2.2.2.2.2.2.1
theorem dLaw_law_1170 : decode cLaw_law 1170 = .ok (.iaload, 1) := zfLaw_law_1135.2.2.2.2.2.2.2.2.2.2.2.2.2.2.2.2.2.2.2.2.2.2.2.2.2.1
theorem dLaw_law_1171 : decode cLaw_law 1171 = .ok (.aload_n 0, 1) := zfLaw_law_1135.2.2.2.2.2.2.2.2.2.2.2.2.2.2.2.2.2.2.2.2.2.2.2.2.2.2.1
theorem dLaw_law_1172 : decode cLaw_law 1172 = .ok (.iload 4, 2) := zfLaw_law_1135.2.2.2.2.2.2.2.2.2.2.2.2.2.2.2.2.2.2.2.2.2.2.2.2.2.2.2.1
theorem dLaw_law_1174 : decode cLaw_law 1174 = .ok (.iconst 2, 1) := zfLaw_law_1135.2.2.2.2.2.2.2.2.2.2.2.2.2.2.2.2.2.2.2.2.2.2.2.2.2.2.2.2.1
theorem dLaw_law_1175 : decode cLaw_law 1175 = .ok (.iadd, 1) := zfLaw_law_1135.2.2.2.2.2.2.2.2.2.2.2.2.2.2.2.2.2.2.2.2.2.2.2.2.2.2.2.2.2.1
theorem dLaw_law_1176 : decode cLaw_law 1176 = .ok (.iaload, 1) := zfLaw_law_1135.2.2.2.2.2.2.2.2.2.2.2.2.2.2.2.2.2.2.2.2.2.2.2.2.2.2.2.2.2.2.1
theorem dLaw_law_1177 : decode cLaw_law 1177 = .ok (.aload_n 0, 1) := zfLaw_law_1135.2.2.2.2.2.2.2.2.2.2.2.2.2.2.2.2.2.2.2.2.2.2.2.2.2.2.2.2.2.2.2.1
theorem zfLaw_law_1178 : decode cLaw_law 1178 = .ok (.iload 4, 2) ∧ decode cLaw_law 1180 = .ok (.iconst 3, 1) ∧ decode cLaw_law 1181 = .ok (.iadd, 1) ∧ decode cLaw_law 1182 = .ok (.iaload, 1) ∧ decode cLaw_law 1183 = .ok (.aload_n 3, 1) ∧ decode cLaw_law 1184 = .ok (.invokestatic 240, 3) ∧ decode cLaw_law 1187 = .ok (.istore 5, 2) ∧ decode cLaw_law 1189 = .ok (.aload_n 2, 1) ∧ decode cLaw_law 1190 = .ok (.aload_n 0, 1) ∧ decode cLaw_law 1191 = .ok (.iload 4, 2) ∧ decode cLaw_law 1193 = .ok (.iconst 1, 1) ∧ decode cLaw_law 1194 = .ok (.iadd, 1) ∧ decode cLaw_law 1195 = .ok (.iaload, 1) ∧ decode cLaw_law 1196 = .ok (.aload_n 0, 1) ∧ decode cLaw_law 1197 = .ok (.iload 4, 2) ∧ decode cLaw_law 1199 = .ok (.iconst 2, 1) ∧ decode cLaw_law 1200 = .ok (.iadd, 1) ∧ decode cLaw_law 1201 = .ok (.iaload, 1) ∧ decode cLaw_law 1202 = .ok (.aload_n 0, 1) ∧ decode cLaw_law 1203 = .ok (.iload 4, 2) ∧ decode cLaw_law 1205 = .ok (.iconst 3, 1) ∧ decode cLaw_law 1206 = .ok (.iadd, 1) ∧ decode cLaw_law 1207 = .ok (.iaload, 1) ∧ decode cLaw_law 1208 = .ok (.invokevirtual 242, 3) ∧ decode cLaw_law 1211 = .ok (.istore 6, 2) ∧ decode cLaw_law 1213 = .ok (.goto 925, 3) ∧ decode cLaw_law 1216 = .ok (.aload_n 1, 1) ∧ decode cLaw_law 1217 = .ok (.aload_n 0, 1) ∧ decode cLaw_law 1218 = .ok (.iload 4, 2) ∧ decode cLaw_law 1220 = .ok (.iconst 1, 1) ∧ decode cLaw_law 1221 = .ok (.iadd, 1) ∧ decode cLaw_law 1222 = .ok (.iaload, 1) ∧ True := Jvm.Free.DS.facts (code := cLaw_law) 1178 [(.iload 4, 2), (.iconst 3, 1), (.iadd, 1), (.iaload, 1), (.aload_n 3, 1), (.invokestatic 240, 3), (.istore 5, 2), (.aload_n 2, 1), (.aload_n 0, 1), (.iload 4, 2), (.iconst 1, 1), (.iadd, 1), (.iaload, 1), (.aload_n 0, 1), (.iload 4, 2), (.iconst 2, 1), (.iadd, 1), (.iaload, 1), (.aload_n 0, 1), (.iload 4, 2), (.iconst 3, 1), (.iadd, 1), (.iaload, 1), (.invokevirtual 242, 3), (.istore 6, 2), (.goto 925, 3), (.aload_n 1, 1), (.aload_n 0, 1), (.iload 4, 2), (.iconst 1, 1), (.iadd, 1), (.iaload, 1)] (by decide +kernel) (by decide +kernel)
theorem dLaw_law_1178 : decode cLaw_law 1178 = .ok (.iload 4, 2) := zfLaw_law_1178.1
theorem dLaw_law_1180 : decode cLaw_law 1180 = .ok (.iconst 3, 1) := zfLaw_law_1178.2.1
theorem dLaw_law_1181 : decode cLaw_law 1181 = .ok (.iadd, 1) := zfLaw_law_1178.2.2.1
theorem dLaw_law_1182 : decode cLaw_law 1182 = .ok (.iaload, 1) := zfLaw_law_1178.2.2.2.1
theorem dLaw_law_1183 : decode cLaw_law 1183 = .ok (.aload_n 3, 1) := zfLaw_law_1178.2.2.2.2.1
theorem dLaw_law_1184 : decode cLaw_law 1184 = .ok (.invokestatic 240, 3) := zfLaw_law_1178.2.2.2.2.2.1
theorem dLaw_law_1187 : decode cLaw_law 1187 = .ok (.istore 5, 2) := zfLaw_law_1178.2.2.2.2.2.2.1
theorem dLaw_law_1189 : decode cLaw_law 1189 = .ok (.aload_n 2, 1) := zfLaw_law_1178.2.2.2.2.2.2.2.1
theorem dLaw_law_1190 : decode cLaw_law 1190 = .ok (.aload_n 0, 1) := zfLaw_law_1178.2.2.2.2.2.2.2.2.1
theorem dLaw_law_1191 : decode cLaw_law 1191 = .ok (.iload 4, 2) := zfLaw_law_1178.2.2.2.2.2.2.2.2.2.1
theorem dLaw_law_1193 : decode cLaw_law 1193 = .ok (.iconst 1, 1) := zfLaw_law_1178.2.2.2.2.2.2.2.2.2.2.1
theorem dLaw_law_1194 : decode cLaw_law 1194 = .ok (.iadd, 1) := zfLaw_law_1178.2.2.2.2.2.2.2.2.2.2.2.1
theorem dLaw_law_1195 : decode cLaw_law 1195 = .ok (.iaload, 1) := zfLaw_law_1178.2.2.2.2.2.2.2.2.2.2.2.2.1
theorem dLaw_law_1196 : decode cLaw_law 1196 = .ok (.aload_n 0, 1) := zfLaw_law_1178.2.2.2.2.2.2.2.2.2.2.2.2.2.1
theorem dLaw_law_1197 : decode cLaw_law 1197 = .ok (.iload 4, 2) := zfLaw_law_1178.2.2.2.2.2.2.2.2.2.2.2.2.2.2.1
theorem dLaw_law_1199 : decode cLaw_law 1199 = .ok (.iconst 2, 1) := zfLaw_law_1178.2.2.2.2.2.2.2.2.2.2.2.2.2.2.2.1
theorem dLaw_law_1200 : decode cLaw_law 1200 = .ok (.iadd, 1) := zfLaw_law_1178.2.2.2.2.2.2.2.2.2.2.2.2.2.2.2.2.1
theorem dLaw_law_1201 : decode cLaw_law 1201 = .ok (.iaload, 1) := zfLaw_law_1178.2.2.2.2.2.2.2.2.2.2.2.2.2.2.2.2.2.1
theorem dLaw_law_1202 : decode cLaw_law 1202 = .ok (.aload_n 0, 1) := zfLaw_law_1178.2.2.2.2.2.2.2.2.2.2.2.2.2.2.2.2.2.2.1
theorem dLaw_law_1203 : decode cLaw_law 1203 = .ok (.iload 4, 2) := zfLaw_law_1178.2.2.2.2.2.2.2.2.2.2.2.2.2.2.2.2.2.2.2.1
theorem dLaw_law_1205 : decode cLaw_law 1205 = .ok (.iconst 3, 1) := zfLaw_law_1178.2.2.2.2.2.2.2.2.2.2.2.2.2.2.2.2.2.2.2.2.1
theorem dLaw_law_1206 : decode cLaw_law 1206 = .ok (.iadd, 1) := zfLaw_law_1178.2.2.2.2.2.2.2.2.2.2.2.2.2.2.2.2.2.2.2.2.2.1
theorem dLaw_law_1207 : decode cLaw_law 1207 = .ok (.iaload, 1) := zfLaw_law_1178.2.2.2.2.2.2.2.2.2.2.2.2.2.2.2.2.2.2.2.2.2.2.1
theorem dLaw_law_1208 : decode cLaw_law 1208 = .ok (.invokevirtual 242, 3) := zfLaw_law_1178.2.2.2.2.2.2.2.2.2.2.2.2.2.2.2.2.2.2.2.2.2.2.2.1
theorem dLaw_law_1211 : decode cLaw_law 1211 = .ok (.istore 6, 2) := zfLaw_law_1178.2.2.2.2.2.2.2.2.2.2.2.2.2.2.2.2.2.2.2.2.2.2.2.2.1
theorem dLaw_law_1213 : decode cLaw_law 1213 = .ok (.goto 925, 3) := zfLaw_law_1178.2.2.2.2.2.2.2.2.2.2.2.2.2.2.2.2.2.2.2.2.2.2.2.2.2.1
theorem dLaw_law_1216 : decode cLaw_law 1216 = .ok (.aload_n 1, 1) := zfLaw_law_1178.2.2.2.2.2.2.2.2.2.2.2.2.2.2.2.2.2.2.2.2.2.2.2.2.2.2.1
theorem dLaw_law_1217 : decode cLaw_law 1217 = .ok (.aload_n 0, 1) := zfLaw_law_1178.2.2.2.2.2.2.2.2.2.2.2.2.2.2.2.2.2.2.2.2.2.2.2.2.2.2.2.1
theorem dLaw_law_1218 : decode cLaw_law 1218 = .ok (.iload 4, 2) := zfLaw_law_1178.2.2.2.2.2.2.2.2.2.2.2.2.2.2.2.2.2.2.2.2.2.2.2.2.2.2.2.2.1
theorem dLaw_law_1220 : decode cLaw_law 1220 = .ok (.iconst 1, 1) := zfLaw_law_1178.2.2.2.2.2.2.2.2.2.2.2.2.2.2.2.2.2.2.2.2.2.2.2.2.2.2.2.2.2.1
theorem dLaw_law_1221 : decode cLaw_law 1221 = .ok (.iadd, 1) := zfLaw_law_1178.2.2.2.2.2.2.2.2.2.2.2.2.2.2.2.2.2.2.2.2.2.2.2.2.2.2.2.2.2.2.1
theorem dLaw_law_1222 : decode cLaw_law 1222 = .ok (.iaload, 1) := zfLaw_law_1178.2.2.2.2.2.2.2.2.2.2.2.2.2.2.2.2.2.2.2.2.2.2.2.2.2.2.2.2.2.2.2.1
theorem zfLaw_law_1223 : decode cLaw_law 1223 = .ok (.aload_n 3, 1) ∧ decode cLaw_law 1224 = .ok (.invokestatic 243, 3) ∧ decode cLaw_law 1227 = .ok (.istore 5, 2) ∧ decode cLaw_law 1229 = .ok (.aload_n 2, 1) ∧ decode cLaw_law 1230 = .ok (.aload_n 0, 1) ∧ decode cLaw_law 1231 = .ok (.iload 4, 2) ∧ decode cLaw_law 1233 = .ok (.iconst 1, 1) ∧ decode cLaw_law 1234 = .ok (.iadd, 1) ∧ decode cLaw_law 1235 = .ok (.iaload, 1) ∧ decode cLaw_law 1236 = .ok (.invokevirtual 245, 3) ∧ decode cLaw_law 1239 = .ok (.istore 6, 2) ∧ decode cLaw_law 1241 = .ok (.goto 897, 3) ∧ decode cLaw_law 1244 = .ok (.aload_n 1, 1) ∧ decode cLaw_law 1245 = .ok (.aload_n 0, 1) ∧ decode cLaw_law 1246 = .ok (.iload 4, 2) ∧ decode cLaw_law 1248 = .ok (.iconst 1, 1) ∧ decode cLaw_law 1249 = .ok (.iadd, 1) ∧ decode cLaw_law 1250 = .ok (.iaload, 1) ∧ decode cLaw_law 1251 = .ok (.aload_n 0, 1) ∧ decode cLaw_law 1252 = .ok (.iload 4, 2) ∧ decode cLaw_law 1254 = .ok (.iconst 2, 1) ∧ decode cLaw_law 1255 = .ok (.iadd, 1) ∧ decode cLaw_law 1256 = .ok (.iaload, 1) ∧ decode cLaw_law 1257 = .ok (.aload_n 0, 1) ∧ decode cLaw_law 1258 = .ok (.iload 4, 2) ∧ decode cLaw_law 1260 = .ok (.iconst 3, 1) ∧ decode cLaw_law 1261 = .ok (.iadd, 1) ∧ decode cLaw_law 1262 = .ok (.iaload, 1) ∧ decode cLaw_law 1263 = .ok (.aload_n 3, 1) ∧ decode cLaw_law 1264 = .ok (.invokestatic 246, 3) ∧ decode cLaw_law 1267 = .ok (.istore 5, 2) ∧ decode cLaw_law 1269 = .ok (.aload_n 2, 1) ∧ True := Jvm.Free.DS.facts (code := cLaw_law) 1223 [(.aload_n 3, 1), (.invokestatic 243, 3), (.istore 5, 2), (.aload_n 2, 1), (.aload_n 0, 1), (.iload 4, 2), (.iconst 1, 1), (.iadd, 1), (.iaload, 1), (.invokevirtual 245, 3), (.istore 6, 2), (.goto 897, 3), (.aload_n 1, 1), (.aload_n 0, 1), (.iload 4, 2), (.iconst 1, 1), (.iadd, 1), (.iaload, 1), (.aload_n 0, 1), (.iload 4, 2), (.iconst 2, 1), (.iadd, 1), (.iaload, 1), (.aload_n 0, 1), (.iload 4, 2), (.iconst 3, 1), (.iadd, 1), (.iaload, 1), (.aload_n 3, 1), (.invokestatic 246, 3), (.istore 5, 2), (.aload_n 2, 1)] (by decide +kernel) (by decide +kernel)
theorem dLaw_law_1223 : decode cLaw_law 1223 = .ok (.aload_n 3, 1) := zfLaw_law_1223.1
theorem dLaw_law_1224 : decode cLaw_law 1224 = .ok (.invokestatic 243, 3) := zfLaw_law_1223.2.1
theorem dLaw_law_1227 : decode cLaw_law 1227 = .ok (.istore 5, 2) := zfLaw_law_1223.2.2.1
theorem dLaw_law_1229 : decode cLaw_law 1229 = .ok (.aload_n 2, 1) := zfLaw_law_1223.2.2.2.1
theorem dLaw_law_1230 : decode cLaw_law 1230 = .ok (.aload_n 0, 1) := zfLaw_law_1223.2.2.2.2.1
theorem dLaw_law_1231 : decode cLaw_law 1231 = .ok (.iload 4, 2) := zfLaw_law_1223.2.2.2.2.2.1
theorem dLaw_law_1233 : decode cLaw_law 1233 = .ok (.iconst 1, 1) := zfLaw_law_1223.2.2.2.2.2.2.1
theorem dLaw_law_1234 : decode cLaw_law 1234 = .ok (.iadd, 1) := zfLaw_law_1223.2.2.2.2.2.2.2.1
theorem dLaw_law_1235 : decode cLaw_law 1235 = .ok (.iaload, 1) := zfLaw_law_1223.2.2.2.2.2.2.2.2.1
theorem dLaw_law_1236 : decode cLaw_law 1236 = .ok (.invokevirtual 245, 3) := zfLaw_law_1223.2.2.2.2.2.2.2.2.2.1
theorem dLaw_law_1239 : decode cLaw_law 1239 = .ok (.istore 6, 2) := zfLaw_law_1223.2.2.2.2.2.2.2.2.2.2.1
theorem dLaw_law_1241 : decode cLaw_law 1241 = .ok (.goto 897, 3) := zfLaw_law_1223.2.2.2.2.2.2.2.2.2.2.2.1
theorem dLaw_law_1244 : decode cLaw_law 1244 = .ok (.aload_n 1, 1) := zfLaw_law_1223.2.2.2.2.2.2.2.2.2.2.2.2.1
theorem dLaw_law_1245 : decode cLaw_law 1245 = .ok (.aload_n 0, 1) := zfLaw_law_1223.2.2.2.2.2.2.2.2.2.2.2.2.2.1
theorem dLaw_law_1246 : decode cLaw_law 1246 = .ok (.iload 4, 2) := zfLaw_law_1223.2.2.2.2.2.2.2.2.2.2.2.2.2.2.1
theorem dLaw_law_1248 : decode cLaw_law 1248 = .ok (.iconst 1, 1) := zfLaw_law_1223.2.2.2.2.2.2.2.2.2.2.2.2.2.2.2.1
theorem dLaw_law_1249 : decode cLaw_law 1249 = .ok (.iadd, 1) := zfLaw_law_1223.2.2.2.2.2.2.2.2.2.2.2.2.2.2.2.2.1
theorem dLaw_law_1250 : decode cLaw_law 1250 = .ok (.iaload, 1) := zfLaw_law_1223.2.2.2.2.2.2.2.2.2.2.2.2.2.2.2.2.2.1
theorem dLaw_law_1251 : decode cLaw_law 1251 = .ok (.aload_n 0, 1) := zfLaw_law_1223.2.2.2.2.2.2.2.2.2.2.2.2.2.2.2.2.2.2.1
theorem dLaw_law_1252 : decode cLaw_law 1252 = .ok (.iload 4, 2) := zfLaw_law_1223.2.2.2.2.2.2.2.2.2.2.2.2.2.2.2.2.2.2.2.1
theorem dLaw_law_1254 : decode cLaw_law 1254 = .ok (.iconst 2, 1) := zfLaw_law_1223.2.2.2.2.2.2.2.2.2.2.2.2.2.2.2.2.2.2.2.2.1
theorem dLaw_law_1255 : decode cLaw_law 1255 = .ok (.iadd, 1) := zfLaw_law_1223.2.2.2.2.2.2.2.2.2.2.2.2.2.2.2.2.2.2.2.2.2.1
theorem dLaw_law_1256 : decode cLaw_law 1256 = .ok (.iaload, 1) := zfLaw_law_1223.2.2.2.2.2.2.2.2.2.2.2.2.2.2.2.2.2.2.2.2.2.2.1
theorem dLaw_law_1257 : decode cLaw_law 1257 = .ok (.aload_n 0, 1) := zfLaw_law_1223.2.2.2.2.2.2.2.2.2.2.2.2.2.2.2.2.2.2.2.2.2.2.2.1
theorem dLaw_law_1258 : decode cLaw_law 1258 = .ok (.iload 4, 2) := zfLaw_law_1223.2.2.2.2.2.2.2.2.2.2.2.2.2.2.2.2.2.2.2.2.2.2.2.2.1
theorem dLaw_law_1260 : decode cLaw_law 1260 = .ok (.iconst 3, 1) := zfLaw_law_1223.2.2.2.2.2.2.2.2.2.2.2.2.2.2.2.2.2.2.2.2.2.2.2.2.2.1
theorem dLaw_law_1261 : decode cLaw_law 1261 = .ok (.iadd, 1) := zfLaw_law_1223.2.2.2.2.2.2.2.2.2.2.2.2.2.2.2.2.2.2.2.2.2.2.2.2.2.2.1
theorem dLaw_law_1262 : decode cLaw_law 1262 = .ok (.iaload, 1) := zfLaw_law_1223.2.2.2.2.2.2.2.2.2.2.2.2.2.2.2.2.2.2.2.2.2.2.2.2.2.2.2.1
theorem dLaw_law_1263 : decode cLaw_law 1263 = .ok (.aload_n 3, 1) := zfLaw_law_1223.2.2.2.2.2.2.2.2.2.2.2.2.2.2.2.2.2.2.2.2.2.2.2.2.2.2.2.2.1
theorem dLaw_law_1264 : decode cLaw_law 1264 = .ok (.invokestatic 246, 3) := zfLaw_law_1223.2.2.2.2.2.2.2.2.2.2.2.2.2.2.2.2.2.2.2.2.2.2.2.2.2.2.2.2.2.1
theorem dLaw_law_1267 : decode cLaw_law 1267 = .ok (.istore 5, 2) := zfLaw_law_1223.2.2.2.2.2.2.2.2.2.2.2.2.2.2.2.2.2.2.2.2.2.2.2.2.2.2.2.2.2.2.1
theorem dLaw_law_1269 : decode cLaw_law 1269 = .ok (.aload_n 2, 1) := zfLaw_law_1223.2.2.2.2.2.2.2.2.2.2.2.2.2.2.2.2.2.2.2.2.2.2.2.2.2.2.2.2.2.2.2.1
theorem zfLaw_law_1270 : decode cLaw_law 1270 = .ok (.aload_n 0, 1) ∧ decode cLaw_law 1271 = .ok (.iload 4, 2) ∧ decode cLaw_law 1273 = .ok (.iconst 1, 1) ∧ decode cLaw_law 1274 = .ok (.iadd, 1) ∧ decode cLaw_law 1275 = .ok (.iaload, 1) ∧ decode cLaw_law 1276 = .ok (.aload_n 0, 1) ∧ decode cLaw_law 1277 = .ok (.iload 4, 2) ∧ decode cLaw_law 1279 = .ok (.iconst 2, 1) ∧ decode cLaw_law 1280 = .ok (.iadd, 1) ∧ decode cLaw_law 1281 = .ok (.iaload, 1) ∧ decode cLaw_law 1282 = .ok (.aload_n 0, 1) ∧ decode cLaw_law 1283 = .ok (.iload 4, 2) ∧ decode cLaw_law 1285 = .ok (.iconst 3, 1) ∧ decode cLaw_law 1286 = .ok (.iadd, 1) ∧ decode cLaw_law 1287 = .ok (.iaload, 1) ∧ decode cLaw_law 1288 = .ok (.invokevirtual 248, 3) ∧ decode cLaw_law 1291 = .ok (.istore 6, 2) ∧ decode cLaw_law 1293 = .ok (.goto 845, 3) ∧ decode cLaw_law 1296 = .ok (.aload_n 1, 1) ∧ decode cLaw_law 1297 = .ok (.aload_n 0, 1) ∧ decode cLaw_law 1298 = .ok (.iload 4, 2) ∧ decode cLaw_law 1300 = .ok (.iconst 1, 1) ∧ decode cLaw_law 1301 = .ok (.iadd, 1) ∧ decode cLaw_law 1302 = .ok (.iaload, 1) ∧ decode cLaw_law 1303 = .ok (.aload_n 0, 1) ∧ decode cLaw_law 1304 = .ok (.iload 4, 2) ∧ decode cLaw_law 1306 = .ok (.iconst 2, 1) ∧ decode cLaw_law 1307 = .ok (.iadd, 1) ∧ decode cLaw_law 1308 = .ok (.iaload, 1) ∧ decode cLaw_law 1309 = .ok (.aload_n 3, 1) ∧ decode cLaw_law 1310 = .ok (.invokestatic 249, 3) ∧ decode cLaw_law 1313 = .ok (.istore 5, 2) ∧ True := Jvm.Free.DS.facts (code := cLaw_law) 1270 [(.aload_n 0, 1), (.iload 4, 2), (.iconst 1, 1), (.iadd, 1), (.iaload, 1), (.aload_n 0, 1), (.iload 4, 2), (.iconst 2, 1), (.iadd, 1), (.iaload, 1), (.aload_n 0, 1), (.iload 4, 2), (.iconst 3, 1), (.iadd, 1), (.iaload, 1), (.invokevirtual 248, 3), (.istore 6, 2), (.goto 845, 3), (.aload_n 1, 1), (.aload_n 0, 1), (.iload 4, 2), (.iconst 1, 1), (.iadd, 1), (.iaload, 1), (.aload_n 0, 1), (.iload 4, 2), (.iconst 2, 1), (.iadd, 1), (.iaload, 1), (.aload_n 3, 1), (.invokestatic 249, 3), (.istore 5, 2)] (by decide +kernel) (by decide +kernel)
theorem dLaw_law_1270 : decode cLaw_law 1270 = .ok (.aload_n 0, 1) := zfLaw_law_1270.1
theorem dLaw_law_1271 : decode cLaw_law 1271 = .ok (.iload 4, 2) := zfLaw_law_1270.2.1
theorem dLaw_law_1273 : decode cLaw_law 1273 = .ok (.iconst 1, 1) := zfLaw_law_1270.2.2.1
theorem dLaw_law_1274 : decode cLaw_law 1274 = .ok (.iadd, 1) := zfLaw_law_1270.2.2.2.1
theorem dLaw_law_1275 : decode cLaw_law 1275 = .ok (.iaload, 1) := zfLaw_law_1270.2.2.2.2.1
theorem dLaw_law_1276 : decode cLaw_law 1276 = .ok (.aload_n 0, 1) := zfLaw_law_1270.2.2.2.2.2.1
theorem dLaw_law_1277 : decode cLaw_law 1277 = .ok (.iload 4, 2) := zfLaw_law_1270.2.2.2.2.2.2.1
theorem dLaw_law_1279 : decode cLaw_law 1279 = .ok (.iconst 2, 1) := zfLaw_law_1270.2.2.2.2.2.2.2.1
theorem dLaw_law_1280 : decode cLaw_law 1280 = .ok (.iadd, 1) := zfLaw_law_1270.2.2.2.2.2.2.2.2.1
theorem dLaw_law_1281 : decode cLaw_law 1281 = .ok (.iaload, 1) := zfLaw_law_1270.2.2.2.2.2.2.2.2.2.1
theorem dLaw_law_1282 : decode cLaw_law 1282 = .ok (.aload_n 0, 1) := zfLaw_law_1270.2.2.2.2.2.2.2.2.2.2.1
theorem dLaw_law_1283 : decode cLaw_law 1283 = .ok (.iload 4, 2) := zfLaw_law_1270.2.2.2.2.2.2.2.2.2.2.2.1
theorem dLaw_law_1285 : decode cLaw_law 1285 = .ok (.iconst 3, 1) := zfLaw_law_1270.2.2.2.2.2.2.2.2.2.2.2.2.1
theorem dLaw_law_1286 : decode cLaw_law 1286 = .ok (.iadd, 1) := zfLaw_law_1270.2.2.2.2.2.2.2.2.2.2.2.2.2.1
theorem dLaw_law_1287 : decode cLaw_law 1287 = .ok (.iaload, 1) := zfLaw_law_1270.2.2.2.2.2.2.2.2.2.2.2.2.2.2.1
theorem dLaw_law_1288 : decode cLaw_law 1288 = .ok (.invokevirtual 248, 3) := zfLaw_law_1270.2.2.2.2.2.2.2.2.2.2.2.2.2.2.2.1
theorem dLaw_law_1291 : decode cLaw_law 1291 = .ok (.istore 6, 2) := zfLaw_law_1270.2.2.2.2.2.2.2.2.2.2.2.2.2.2.2.2.1
theorem dLaw_law_1293 : decode cLaw_law 1293 = .ok (.goto 845, 3) := zfLaw_law_1270.2.2.2.2.2.2.2.2.2.2.2.2.2.2.2.2.2.1
theorem dLaw_law_1296 : decode cLaw_law 1296 = .ok (.aload_n 1, 1) := zfLaw_law_1270.2.2.2.2.2.2.2.2.2.2.2.2.2.2.2.2.2.2.1
theorem dLaw_law_1297 : decode cLaw_law 1297 = .ok (.aload_n 0, 1) := zfLaw_law_1270.2.2.2.2.2.2.2.2.2.2.2.2.2.2.2.2.2.2.2.1
theorem dLaw_law_1298 : decode cLaw_law 1298 = .ok (.iload 4, 2) := zfLaw_law_1270.2.2.2.2.2.2.2.2.2.2.2.2.2.2.2.2.2.2.2.2.1
theorem dLaw_law_1300 : decode cLaw_law 1300 = .ok (.iconst 1, 1) := zfLaw_law_1270.2.2.2.2.2.2.2.2.2.2.2.2.2.2.2.2.2.2.2.2.2.1
theorem dLaw_law_1301 : decode cLaw_law 1301 = .ok (.iadd, 1) := zfLaw_law_1270.2.2.2.2.2.2.2.2.2.2.2.2.2.2.2.2.2.2.2.2.2.2.1
theorem dLaw_law_1302 : decode cLaw_law 1302 = .ok (.iaload, 1) := zfLaw_law_1270.2.2.2.2.2.2.2.2.2.2.2.2.2.2.2.2.2.2.2.2.2.2.2.1
theorem dLaw_law_1303 : decode cLaw_law 1303 = .ok (.aload_n 0, 1) := zfLaw_law_1270.2.2.2.2.2.2.2.2.2.2.2.2.2.2.2.2.2.2.2.2.2.2.2.2.1
theorem dLaw_law_1304 : decode cLaw_law 1304 = .ok (.iload 4, 2) := zfLaw_law_1270.2.2.2.2.2.2.2.2.2.2.2.2.2.2.2.2.2.2.2.2.2.2.2.2.2.1
theorem dLaw_law_1306 : decode cLaw_law 1306 = .ok (.iconst 2, 1) := zfLaw_law_1270.2.2.2.2.2.2.2.2.2.2.2.2.2.2.2.2.2.2.2.2.2.2.2.2.2.2.1
theorem dLaw_law_1307 : decode cLaw_law 1307 = .ok (.iadd, 1) := zfLaw_law_1270.2.2.2.2.2.2.2.2.2.2.2.2.2.2.2.2.2.2.2.2.2.2.2.2.2.2.2.1
theorem dLaw_law_1308 : decode cLaw_law 1308 = .ok (.iaload, 1) := zfLaw_law_1270.2.2.2.2.2.2.2.2.2.2.2.2.2.2.2.2.2.2.2.2.2.2.2.2.2.2.2.2.1
theorem dLaw_law_1309 : decode cLaw_law 1309 = .ok (.aload_n 3, 1) := zfLaw_law_1270.2.2.2.2.2.2.2.2.2.2.2.2.2.2.2.2.2.2.2.2.2.2.2.2.2.2.2.2.2.1
theorem dLaw_law_1310 : decode cLaw_law 1310 = .ok (.invokestatic 249, 3) := zfLaw_law_1270.2.2.2.2.2.2.2.2.2.2.2.2.2.2.2.2.2.2.2.2.2.2.2.2.2.2.2.2.2.2.1
theorem dLaw_law_1313 : decode cLaw_law 1313 = .ok (.istore 5, 2) := zfLaw_law_1270.2.2.2.2.2.2.2.2.2.2.2.2.2.2.2.2.2.2.2.2.2.2.2.2.2.2.2.2.2.2.2.1
theorem zfLaw_law_1315 : decode cLaw_law 1315 = .ok (.aload_n 2, 1) ∧ decode cLaw_law 1316 = .ok (.aload_n 0, 1) ∧ decode cLaw_law 1317 = .ok (.iload 4, 2) ∧ decode cLaw_law 1319 = .ok (.iconst 1, 1) ∧ decode cLaw_law 1320 = .ok (.iadd, 1) ∧ decode cLaw_law 1321 = .ok (.iaload, 1) ∧ decode cLaw_law 1322 = .ok (.aload_n 0, 1) ∧ decode cLaw_law 1323 = .ok (.iload 4, 2) ∧ decode cLaw_law 1325 = .ok (.iconst 2, 1) ∧ decode cLaw_law 1326 = .ok (.iadd, 1) ∧ decode cLaw_law 1327 = .ok (.iaload, 1) ∧ decode cLaw_law 1328 = .ok (.invokevirtual 251, 3) ∧ decode cLaw_law 1331 = .ok (.istore 6, 2) ∧ decode cLaw_law 1333 = .ok (.goto 805, 3) ∧ decode cLaw_law 1336 = .ok (.aload_n 1, 1) ∧ decode cLaw_law 1337 = .ok (.aload_n 0, 1) ∧ decode cLaw_law 1338 = .ok (.iload 4, 2) ∧ decode cLaw_law 1340 = .ok (.iconst 1, 1) ∧ decode cLaw_law 1341 = .ok (.iadd, 1) ∧ decode cLaw_law 1342 = .ok (.iaload, 1) ∧ decode cLaw_law 1343 = .ok (.aload_n 3, 1) ∧ decode cLaw_law 1344 = .ok (.invokestatic 252, 3) ∧ decode cLaw_law 1347 = .ok (.istore 5, 2) ∧ decode cLaw_law 1349 = .ok (.aload_n 2, 1) ∧ decode cLaw_law 1350 = .ok (.aload_n 0, 1) ∧ decode cLaw_law 1351 = .ok (.iload 4, 2) ∧ decode cLaw_law 1353 = .ok (.iconst 1, 1) ∧ decode cLaw_law 1354 = .ok (.iadd, 1) ∧ decode cLaw_law 1355 = .ok (.iaload, 1) ∧ decode cLaw_law 1356 = .ok (.invokevirtual 254, 3) ∧ decode cLaw_law 1359 = .ok (.istore 6, 2) ∧ decode cLaw_law 1361 = .ok (.goto 777, 3) ∧ True := Jvm.Free.DS.facts (code := cLaw_law) 1315 [(.aload_n 2, 1), (.aload_n 0, 1), (.iload 4, 2), (.iconst 1, 1), (.iadd, 1), (.iaload, 1), (.aload_n 0, 1), (.iload 4, 2), (.iconst 2, 1), (.iadd, 1), (.iaload, 1), (.invokevirtual 251, 3), (.istore 6, 2), (.goto 805, 3), (.aload_n 1, 1), (.aload_n 0, 1), (.iload 4, 2), (.iconst 1, 1), (.iadd, 1), (.iaload, 1), (.aload_n 3, 1), (.invokestatic 252, 3), (.istore 5, 2), (.aload_n 2, 1), (.aload_n 0, 1), (.iload 4, 2), (.iconst 1, 1), (.iadd, 1), (.iaload, 1), (.invokevirtual 254, 3), (.istore 6, 2), (.goto 777, 3)] (by decide +kernel) (by decide +kernel)
theorem dLaw_law_1315 : decode cLaw_law 1315 = .ok (.aload_n 2, 1) := zfLaw_law_1315.1
theorem dLaw_law_1316 : decode cLaw_law 1316 = .ok (.aload_n 0, 1) := zfLaw_law_1315.2.1
theorem dLaw_law_1317 : decode cLaw_law 1317 = .ok (.iload 4, 2) := zfLaw_law_1315.2.2.1
theorem dLaw_law_1319 : decode cLaw_law 1319 = .ok (.iconst 1, 1) := zfLaw_law_1315.2.2.2.1
theorem dLaw_law_1320 : decode cLaw_law 1320 = .ok (.iadd, 1) := zfLaw_law_1315.2.2.2.2.1
theorem dLaw_law_1321 : decode cLaw_law 1321 = .ok (.iaload, 1) := zfLaw_law_1315.2.2.2.2.2.1
theorem dLaw_law_1322 : decode cLaw_law 1322 = .ok (.aload_n 0, 1) := zfLaw_law_1315.2.2.2.2.2.2.1
theorem dLaw_law_1323 : decode cLaw_law 1323 = .ok (.iload 4, 2) := zfLaw_law_1315.2.2.2.2.2.2.2.1
theorem dLaw_law_1325 : decode cLaw_law 1325 = .ok (.iconst 2, 1) := zfLaw_law_1315.2.2.2.2.2.2.2.2.1
theorem dLaw_law_1326 : decode cLaw_law 1326 = .ok (.iadd, 1) := zfLaw_law_1315.2.2.2.2.2.2.2.2.2.1
theorem dLaw_law_1327 : decode cLaw_law 1327 = .ok (.iaload, 1) := zfLaw_law_1315.2.2.2.2.2.2.2.2.2.2.1
theorem dLaw_law_1328 : decode cLaw_law 1328 = .ok (.invokevirtual 251, 3) := zfLaw_law_1315.2.2.2.2.2.2.2.2.2.2.2.1
theorem dLaw_law_1331 : decode cLaw_law 1331 = .ok (.istore 6, 2) := zfLaw_law_1315.2.2.2.2.2.2.2.2.2.2.2.2.1
theorem dLaw_law_1333 : decode cLaw_law 1333 = .ok (.goto 805, 3) := zfLaw_law_1315.2.2.2.2.2.2.2.2.2.2.2.2.2.1
theorem dLaw_law_1336 : decode cLaw_law 1336 = .ok (.aload_n 1, 1) := zfLaw_law_1315.2.2.2.2.2.2.2.2.2.2.2.2.2.2.1
theorem dLaw_law_1337 : decode cLaw_law 1337 = .ok (.aload_n 0, 1) := zfLaw_law_1315.2.2.2.2.2.2.2.2.2.2.2.2.2.2.2.1
theorem dLaw_law_1338 : decode cLaw_law 1338 = .ok (.iload 4, 2) := zfLaw_law_1315.2.2.2.2.2.2.2.2.2.2.2.2.2.2.2.2.1
theorem dLaw_law_1340 : decode cLaw_law 1340 = .ok (.iconst 1, 1) := zfLaw_law_1315.2.2.2.2.2.2.2.2.2.2.2.2.2.2.2.2.2.1
theorem dLaw_law_1341 : decode cLaw_law 1341 = .ok (.iadd, 1) := zfLaw_law_1315.2.2.2.2.2.2.2.2.2.2.2.2.2.2.2.2.2.2.1
theorem dLaw_law_1342 : decode cLaw_law 1342 = .ok (.iaload, 1) := zfLaw_law_1315.2.2.2.2.2.2.2.2.2.2.2.2.2.2.2.2.2.2.2.1
theorem dLaw_law_1343 : decode cLaw_law 1343 = .ok (.aload_n 3, 1) := zfLaw_law_1315.2.2.2.2.2.2.2.2.2.2.2.2.2.2.2.2.2.2.2.2.1
theorem dLaw_law_1344 : decode cLaw_law 1344 = .ok (.invokestatic 252, 3) := zfLaw_law_1315.2.2.2.2.2.2.2.2.2.2.2.2.2.2.2.2.2.2.2.2.2.1
theorem dLaw_law_1347 : decode cLaw_law 1347 = .ok (.istore 5, 2) := zfLaw_law_1315.2.2.2.2.2.2.2.2.2.2.2.2.2.2.2.2.2.2.2.2.2.2.1
theorem dLaw_law_1349 : decode cLaw_law 1349 = .ok (.aload_n 2, 1) := zfLaw_law_1315.2.2.2.2.2.2.2.2.2.2.2.2.2.2.2.2.2.2.2.2.2.2.2.1
theorem dLaw_law_1350 : decode cLaw_law 1350 = .ok (.aload_n 0, 1) := zfLaw_law_1315.2.2.2.2.2.2.2.2.2.2.2.2.2.2.2.2.2.2.2.2.2.2.2.2.1
theorem dLaw_law_1351 : decode cLaw_law 1351 = .ok (.iload 4, 2) := zfLaw_law_1315.2.2.2.2.2.2.2.2.2.2.2.2.2.2.2.2.2.2.2.2.2.2.2.2.2.1
theorem dLaw_law_1353 : decode cLaw_law 1353 = .ok (.iconst 1, 1) := zfLaw_law_1315.2.2.2.2.2.2.2.2.2.2.2.2.2.2.2.2.2.2.2.2.2.2.2.2.2.2.1
theorem dLaw_law_1354 : decode cLaw_law 1354 = .ok (.iadd, 1) := zfLaw_law_1315.2.2.2.2.2.2.2.2.2.2.2.2.2.2.2.2.2.2.2.2.2.2.2.2.2.2.2.1
theorem dLaw_law_1355 : decode cLaw_law 1355 = .ok (.iaload, 1) := zfLaw_law_1315.2.2.2.2.2.2.2.2.2.2.2.2.2.2.2.2.2.2.2.2.2.2.2.2.2.2.2.2.1
theorem dLaw_law_1356 : decode cLaw_law 1356 = .ok (.invokevirtual 254, 3) := zfLaw_law_1315.2.2.2.2.2.2.2.2.2.2.2.2.2.2.2.2.2.2.2.2.2.2.2.2.2.2.2.2.2.1
theorem dLaw_law_1359 : decode cLaw_law 1359 = .ok (.istore 6, 2) := zfLaw_law_1315.2.2.2.2.2.2.2.2.2.2.2.2.2.2.2.2.2.2.2.2.2.2.2.2.2.2.2.2.2.2.1
theorem dLaw_law_1361 : decode cLaw_law 1361 = .ok (.goto 777, 3) := zfLaw_law_1315.2.2.2.2.2.2.2.2.2.2.2.2.2.2.2.2.2.2.2.2.2.2.2.2.2.2.2.2.2.2.2.1
theorem zfLaw_law_1364 : decode cLaw_law 1364 = .ok (.aload_n 1, 1) ∧ decode cLaw_law 1365 = .ok (.aload_n 0, 1) ∧ decode cLaw_law 1366 = .ok (.iload 4, 2) ∧ decode cLaw_law 1368 = .ok (.iconst 1, 1) ∧ decode cLaw_law 1369 = .ok (.iadd, 1) ∧ decode cLaw_law 1370 = .ok (.iaload, 1) ∧ decode cLaw_law 1371 = .ok (.aload_n 0, 1) ∧ decode cLaw_law 1372 = .ok (.iload 4, 2) ∧ decode cLaw_law 1374 = .ok (.iconst 2, 1) ∧ decode cLaw_law 1375 = .ok (.iadd, 1) ∧ decode cLaw_law 1376 = .ok (.iaload, 1) ∧ decode cLaw_law 1377 = .ok (.aload_n 0, 1) ∧ decode cLaw_law 1378 = .ok (.iload 4, 2) ∧ decode cLaw_law 1380 = .ok (.iconst 3, 1) ∧ decode cLaw_law 1381 = .ok (.iadd, 1) ∧ decode cLaw_law 1382 = .ok (.iaload, 1) ∧ decode cLaw_law 1383 = .ok (.aload_n 3, 1) ∧ decode cLaw_law 1384 = .ok (.invokestatic 255, 3) ∧ decode cLaw_law 1387 = .ok (.istore 5, 2) ∧ decode cLaw_law 1389 = .ok (.aload_n 2, 1) ∧ decode cLaw_law 1390 = .ok (.aload_n 0, 1) ∧ decode cLaw_law 1391 = .ok (.iload 4, 2) ∧ decode cLaw_law 1393 = .ok (.iconst 1, 1) ∧ decode cLaw_law 1394 = .ok (.iadd, 1) ∧ decode cLaw_law 1395 = .ok (.iaload, 1) ∧ decode cLaw_law 1396 = .ok (.aload_n 0, 1) ∧ decode cLaw_law 1397 = .ok (.iload 4, 2) ∧ decode cLaw_law 1399 = .ok (.iconst 2, 1) ∧ decode cLaw_law 1400 = .ok (.iadd, 1) ∧ decode cLaw_law 1401 = .ok (.iaload, 1) ∧ decode cLaw_law 1402 = .ok (.aload_n 0, 1) ∧ decode cLaw_law 1403 = .ok (.iload 4, 2) ∧ True := Jvm.Free.DS.facts (code := cLaw_law) 1364 [(.aload_n 1, 1), (.aload_n 0, 1), (.iload 4, 2), (.iconst 1, 1), (.iadd, 1), (.iaload, 1), (.aload_n 0, 1), (.iload 4, 2), (.iconst 2, 1), (.iadd, 1), (.iaload, 1), (.aload_n 0, 1), (.iload 4, 2), (.iconst 3, 1), (.iadd, 1), (.iaload, 1), (.aload_n 3, 1), (.invokestatic 255, 3), (.istore 5, 2), (.aload_n 2, 1), (.aload_n 0, 1), (.iload 4, 2), (.iconst 1, 1), (.iadd, 1), (.iaload, 1), (.aload_n 0, 1), (.iload 4, 2), (.iconst 2, 1), (.iadd, 1), (.iaload, 1), (.aload_n 0, 1), (.iload 4, 2)] (by decide +kernel) (by decide +kernel)
theorem dLaw_law_1364 : decode cLaw_law 1364 = .ok (.aload_n 1, 1) := zfLaw_law_1364.1
theorem dLaw_law_1365 : decode cLaw_law 1365 = .ok (.aload_n 0, 1) := zfLaw_law_1364.2.1
theorem dLaw_law_1366 : decode cLaw_law 1366 = .ok (.iload 4, 2) := zfLaw_law_1364.2.2.1
theorem dLaw_law_1368 : decode cLaw_law 1368 = .ok (.iconst 1, 1) := zfLaw_law_1364.2.2.2.1
theorem dLaw_law_1369 : decode cLaw_law 1369 = .ok (.iadd, 1) := zfLaw_law_1364.2.2.2.2.1
theorem dLaw_law_1370 : decode cLaw_law 1370 = .ok (.iaload, 1) := zfLaw_law_1364.2.2.2.2.2.1
theorem dLaw_law_1371 : decode cLaw_law 1371 = .ok (.aload_n 0, 1) := zfLaw_law_1364.2.2.2.2.2.2.1
theorem dLaw_law_1372 : decode cLaw_law 1372 = .ok (.iload 4, 2) := zfLaw_law_1364.2.2.2.2.2.2.2.1
theorem dLaw_law_1374 : decode cLaw_law 1374 = .ok (.iconst 2, 1) := zfLaw_law_1364.2.2.2.2.2.2.2.2.1
theorem dLaw_law_1375 : decode cLaw_law 1375 = .ok (.iadd, 1) := zfLaw_law_1364.2.2.2.2.2.2.2.2.2.1
theorem dLaw_law_1376 : decode cLaw_law 1376 = .ok (.iaload, 1) := zfLaw_law_1364.2.2.2.2.2.2.2.2.2.2.1
theorem dLaw_law_1377 : decode cLaw_law 1377 = .ok (.aload_n 0, 1) := zfLaw_law_1364.2.2.2.2.2.2.2.2.2.2.2.1
theorem dLaw_law_1378 : decode cLaw_law 1378 = .ok (.iload 4, 2) := zfLaw_law_1364.2.2.2.2.2.2.2.2.2.2.2.2.1
theorem dLaw_law_1380 : decode cLaw_law 1380 = .ok (.iconst 3, 1) := zfLaw_law_1364.2.2.2.2.2.2.2.2.2.2.2.2.2.1
theorem dLaw_law_1381 : decode cLaw_law 1381 = .ok (.iadd, 1) := zfLaw_law_1364.2.2.2.2.2.2.2.2.2.2.2.2.2.2.1
theorem dLaw_law_1382 : decode cLaw_law 1382 = .ok (.iaload, 1) := zfLaw_law_1364.2.2.2.2.2.2.2.2.2.2.2.2.2.2.2.1
theorem dLaw_law_1383 : decode cLaw_law 1383 = .ok (.aload_n 3, 1) := zfLaw_law_1364.2.2.2.2.2.2.2.2.2.2.2.2.2.2.2.2.1
theorem dLaw_law_1384 : decode cLaw_law 1384 = .ok (.invokestatic 255, 3) := zfLaw_law_1364.2.2.2.2.2.2.2.2.2.2.2.2.2.2.2.2.2.1
theorem dLaw_law_1387 : decode cLaw_law 1387 = .ok (.istore 5, 2) := zfLaw_law_1364.2.2.2.2.2.2.2.2.2.2.2.2.2.2.2.2.2.2.1
theorem dLaw_law_1389 : decode cLaw_law 1389 = .ok (.aload_n 2, 1) := zfLaw_law_1364.2.2.2.2.2.2.2.2.2.2.2.2.2.2.2.2.2.2.2.1
theorem dLaw_law_1390 : decode cLaw_law 1390 = .ok (.aload_n 0, 1) := zfLaw_law_1364.2.2.2.2.2.2.2.2.2.2.2.2.2.2.2.2.2.2.2.2.1
theorem dLaw_law_1391 : decode cLaw_law 1391 = .ok (.iload 4, 2) := zfLaw_law_1364.2.2.2.2.2.2.2.2.2.2.2.2.2.2.2.2.2.2.2.2.2.1
theorem dLaw_law_1393 : decode cLaw_law 1393 = .ok (.iconst 1, 1) := zfLaw_law_1364.2.2.2.2.2.2.2.2.2.2.2.2.2.2.2.2.2.2.2.2.2.2.1
theorem dLaw_law_1394 : decode cLaw_law 1394 = .ok (.iadd, 1) := zfLaw_law_1364.2.2.2.2.2.2.2.2.2.2.2.2.2.2.2.2.2.2.2.2.2.2.2.1
theorem dLaw_law_1395 : decode cLaw_law 1395 = .ok (.iaload, 1) := zfLaw_law_1364.2.2.2.2.2.2.2.2.2.2.2.2.2.2.2.2.2.2.2.2.2.2.2.2.1
theorem dLaw_law_1396 : decode cLaw_law 1396 = .ok (.aload_n 0, 1) := zfLaw_law_1364.2.2.2.2.2.2.2.2.2.2.2.2.2.2.2.2.2.2.2.2.2.2.2.2.2.1
theorem dLaw_law_1397 : decode cLaw_law 1397 = .ok (.iload 4, 2) := zfLaw_law_1364.2.2.2.2.2.2.2.2.2.2.2.2.2.2.2.2.2.2.2.2.2.2.2.2.2.2.1
theorem dLaw_law_1399 : decode cLaw_law 1399 = .ok (.iconst 2, 1) := zfLaw_law_1364.2.2.2.2.2.2.2.2.2.2.2.2.2.2.2.2.2.2.2.2.2.2.2.2.2.2.2.1
theorem dLaw_law_1400 : decode cLaw_law 1400 = .ok (.iadd, 1) := zfLaw_law_1364.2.2.2.2.2.2.2.2.2.2.2.2.2.2.2.2.2.2.2.2.2.2.2.2.2.2.2.2.1
theorem dLaw_law_1401 : decode cLaw_law 1401 = .ok (.iaload, 1) := zfLaw_law_1364.2.2.2.2.2.2.2.2.2.2.2.2.2.2.2.2.2.2.2.2.2.2.2.2.2.2.2.2.2.1
theorem dLaw_law_1402 : decode cLaw_law 1402 = .ok (.aload_n 0, 1) := zfLaw_law_1364.2.2.2.2.2.2.2.2.2.2.2.2.2.2.2.2.2.2.2.2.2.2.2.2.2.2.2.2.2.2.1
theorem dLaw_law_1403 : decode cLaw_law 1403 = .ok (.iload 4, 2) := zfLaw_law_1364.2.2.2.2.2.2.2.2.2.2.2.2.2.2.2.2.2.2.2.2.2.2.2.2.2.2.2.2.2.2.2.1
theorem zfLaw_law_1405 : decode cLaw_law 1405 = .ok (.iconst 3, 1) ∧ decode cLaw_law 1406 = .ok (.iadd, 1) ∧ decode cLaw_law 1407 = .ok (.iaload, 1) ∧ decode cLaw_law 1408 = .ok (.invokevirtual 257, 3) ∧ decode cLaw_law 1411 = .ok (.istore 6, 2) ∧ decode cLaw_law 1413 = .ok (.goto 725, 3) ∧ decode cLaw_law 1416 = .ok (.aload_n 1, 1) ∧ decode cLaw_law 1417 = .ok (.aload_n 0, 1) ∧ decode cLaw_law 1418 = .ok (.iload 4, 2) ∧ decode cLaw_law 1420 = .ok (.iconst 1, 1) ∧ decode cLaw_law 1421 = .ok (.iadd, 1) ∧ decode cLaw_law 1422 = .ok (.iaload, 1) ∧ decode cLaw_law 1423 = .ok (.aload_n 3, 1) ∧ decode cLaw_law 1424 = .ok (.invokestatic 258, 3) ∧ decode cLaw_law 1427 = .ok (.istore 5, 2) ∧ decode cLaw_law 1429 = .ok (.aload_n 2, 1) ∧ decode cLaw_law 1430 = .ok (.aload_n 0, 1) ∧ decode cLaw_law 1431 = .ok (.iload 4, 2) ∧ decode cLaw_law 1433 = .ok (.iconst 1, 1) ∧ decode cLaw_law 1434 = .ok (.iadd, 1) ∧ decode cLaw_law 1435 = .ok (.iaload, 1) ∧ decode cLaw_law 1436 = .ok (.invokevirtual 260, 3) ∧ decode cLaw_law 1439 = .ok (.istore 6, 2) ∧ decode cLaw_law 1441 = .ok (.goto 697, 3) ∧ decode cLaw_law 1444 = .ok (.aload_n 1, 1) ∧ decode cLaw_law 1445 = .ok (.aload_n 0, 1) ∧ decode cLaw_law 1446 = .ok (.iload 4, 2) ∧ decode cLaw_law 1448 = .ok (.iconst 1, 1) ∧ decode cLaw_law 1449 = .ok (.iadd, 1) ∧ decode cLaw_law 1450 = .ok (.iaload, 1) ∧ decode cLaw_law 1451 = .ok (.aload_n 3, 1) ∧ decode cLaw_law 1452 = .ok (.invokestatic 261, 3) ∧ True := Jvm.Free.DS.facts (code := cLaw_law) 1405 [(.iconst 3, 1), (.iadd, 1), (.iaload, 1), (.invokevirtual 257, 3), (.istore 6, 2), (.goto 725, 3), (.aload_n 1, 1), (.aload_n 0, 1), (.iload 4, 2), (.iconst 1, 1), (.iadd, 1), (.iaload, 1), (.aload_n 3, 1), (.invokestatic 258, 3), (.istore 5, 2), (.aload_n 2, 1), (.aload_n 0, 1), (.iload 4, 2), (.iconst 1, 1), (.iadd, 1), (.iaload, 1), (.invokevirtual 260, 3), (.istore 6, 2), (.goto 697, 3), (.aload_n 1, 1), (.aload_n 0, 1), (.iload 4, 2), (.iconst 1, 1), (.iadd, 1), (.iaload, 1), (.aload_n 3, 1), (.invokestatic 261, 3)] (by decide +kernel) (by decide +kernel)
theorem dLaw_law_1405 : decode cLaw_law 1405 = .ok (.iconst 3, 1) := zfLaw_law_1405.1
theorem dLaw_law_1406 : decode cLaw_law 1406 = .ok (.iadd, 1) := zfLaw_law_1405.2.1
theorem dLaw_law_1407 : decode cLaw_law 1407 = .ok (.iaload, 1) := zfLaw_law_1405.2.2.1
theorem dLaw_law_1408 : decode cLaw_law 1408 = .ok (.invokevirtual 257, 3) := zfLaw_law_1405.2.2.2.1
theorem dLaw_law_1411 : decode cLaw_law 1411 = .ok (.istore 6, 2) := zfLaw_law_1405.2.2.2.2.1
theorem dLaw_law_1413 : decode cLaw_law 1413 = .ok (.goto 725, 3) := zfLaw_law_1405.2.2.2.2.2.1
theorem dLaw_law_1416 : decode cLaw_law 1416 = .ok (.aload_n 1, 1) := zfLaw_law_1405.2.2.2.2.2.2.1
theorem dLaw_law_1417 : decode cLaw_law 1417 = .ok (.aload_n 0, 1) := zfLaw_law_1405.2.2.2.2.2.2.2.1
theorem dLaw_law_1418 : decode cLaw_law 1418 = .ok (.iload 4, 2) := zfLaw_law_1405.2.2.2.2.2.2.2.2.1
theorem dLaw_law_1420 : decode cLaw_law 1420 = .ok (.iconst 1, 1) := zfLaw_law_1405.2.2.2.2.2.2.2.2.2.1
theorem dLaw_law_1421 : decode cLaw_law 1421 = .ok (.iadd, 1) := zfLaw_law_1405.2.2.2.2.2.2.2.2.2.2.1
theorem dLaw_law_1422 : decode cLaw_law 1422 = .ok (.iaload, 1) := zfLaw_law_1405.2.2.2.2.2.2.2.2.2.2.2.1
theorem dLaw_law_1423 : decode cLaw_law 1423 = .ok (.aload_n 3, 1) := zfLaw_law_1405.2.2.2.2.2.2.2.2.2.2.2.2.1
theorem dLaw_law_1424 : decode cLaw_law 1424 = .ok (.invokestatic 258, 3) := zfLaw_law_1405.2.2.2.2.2.2.2.2.2.2.2.2.2.1
theorem dLaw_law_1427 : decode cLaw_law 1427 = .ok (.istore 5, 2) := zfLaw_law_1405.2.2.2.2.2.2.2.2.2.2.2.2.2.2.1
theorem dLaw_law_1429 : decode cLaw_law 1429 = .ok (.aload_n 2, 1) := zfLaw_law_1405.2.2.2.2.2.2.2.2.2.2.2.2.2.2.2.1
theorem dLaw_law_1430 : decode cLaw_law 1430 = .ok (.aload_n 0, 1) := zfLaw_law_1405.2.2.2.2.2.2.2.2.2.2.2.2.2.2.2.2.1
theorem dLaw_law_1431 : decode cLaw_law 1431 = .ok (.iload 4, 2) := zfLaw_law_1405.2.2.2.2.2.2.2.2.2.2.2.2.2.2.2.2.2.1
theorem dLaw_law_1433 : decode cLaw_law 1433 = .ok (.iconst 1, 1) := zfLaw_law_1405.2.2.2.2.2.2.2.2.2.2.2.2.2.2.2.2.2.2.1
theorem dLaw_law_1434 : decode cLaw_law 1434 = .ok (.iadd, 1) := zfLaw_law_1405.2.2.2.2.2.2.2.2.2.2.2.2.2.2.2.2.2.2.2.1
theorem dLaw_law_1435 : decode cLaw_law 1435 = .ok (.iaload, 1) := zfLaw_law_1405.2.2.2.2.2.2.2.2.2.2.2.2.2.2.2.2.2.2.2.2.1
theorem dLaw_law_1436 : decode cLaw_law 1436 = .ok (.invokevirtual 260, 3) := zfLaw_law_1405.2.2.2.2.2.2.2.2.2.2.2.2.2.2.2.2.2.2.2.2.2.1
theorem dLaw_law_1439 : decode cLaw_law 1439 = .ok (.istore 6, 2) := zfLaw_law_1405.2.2.2.2.2.2.2.2.2.2.2.2.2.2.2.2.2.2.2.2.2.2.1
theorem dLaw_law_1441 : decode cLaw_law 1441 = .ok (.goto 697, 3) := zfLaw_law_1405.2.2.2.2.2.2.2.2.2.2.2.2.2.2.2.2.2.2.2.2.2.2.2.1
theorem dLaw_law_1444 : decode cLaw_law 1444 = .ok (.aload_n 1, 1) := zfLaw_law_1405.2.2.2.2.2.2.2.2.2.2.2.2.2.2.2.2.2.2.2.2.2.2.2.2.1
theorem dLaw_law_1445 : decode cLaw_law 1445 = .ok (.aload_n 0, 1) := zfLaw_law_1405.2.2.2.2.2.2.2.2.2.2.2.2.2.2.2.2.2.2.2.2.2.2.2.2.2.1
theorem dLaw_law_1446 : decode cLaw_law 1446 = .ok (.iload 4, 2) := zfLaw_law_1405.2.2.2.2.2.2.2.2.2.2.2.2.2.2.2.2.2.2.2.2.2.2.2.2.2.2.1
theorem dLaw_law_1448 : decode cLaw_law 1448 = .ok (.iconst 1, 1) := zfLaw_law_1405.2.2.2.2.2.2.2.2.2.2.2.2.2.2.2.2.2.2.2.2.2.2.2.2.2.2.2.1
theorem dLaw_law_1449 : decode cLaw_law 1449 = .ok (.iadd, 1) := zfLaw_law_1405.2.2.2.2.2.2.2.2.2.2.2.2.2.2.2.2.2.2.2.2.2.2.2.2.2.2.2.2.1
theorem dLaw_law_1450 : decode cLaw_law 1450 = .ok (.iaload, 1) := zfLaw_law_1405.2.2.2.2.2.2.2.2.2.2.2.2.2.2.2.2.2.2.2.2.2.2.2.2.2.2.2.2.2.1
theorem dLaw_law_1451 : decode cLaw_law 1451 = .ok (.aload_n 3, 1) := zfLaw_law_1405.2.2.2.2.2.2.2.2.2.2.2.2.2.2.2.2.2.2.2.2.2.2.2.2.2.2.2.2.2.2.1
theorem dLaw_law_1452 : decode cLaw_law 1452 = .ok (.invokestatic 261, 3) := zfLaw_law_1405.2.2.2.2.2.2.2.2.2.2.2.2.2.2.2.2.2.2.2.2.2.2.2.2.2.2.2.2.2.2.2.1
theorem zfLaw_law_1455 : decode cLaw_law 1455 = .ok (.istore 5, 2) ∧ decode cLaw_law 1457 = .ok (.aload_n 2, 1) ∧ decode cLaw_law 1458 = .ok (.aload_n 0, 1) ∧ decode cLaw_law 1459 = .ok (.iload 4, 2) ∧ decode cLaw_law 1461 = .ok (.iconst 1, 1) ∧ decode cLaw_law 1462 = .ok (.iadd, 1) ∧ decode cLaw_law 1463 = .ok (.iaload, 1) ∧ decode cLaw_law 1464 = .ok (.invokevirtual 263, 3) ∧ decode cLaw_law 1467 = .ok (.istore 6, 2) ∧ decode cLaw_law 1469 = .ok (.goto 669, 3) ∧ decode cLaw_law 1472 = .ok (.aload_n 1, 1) ∧ decode cLaw_law 1473 = .ok (.aload_n 0, 1) ∧ decode cLaw_law 1474 = .ok (.iload 4, 2) ∧ decode cLaw_law 1476 = .ok (.iconst 1, 1) ∧ decode cLaw_law 1477 = .ok (.iadd, 1) ∧ decode cLaw_law 1478 = .ok (.iaload, 1) ∧ decode cLaw_law 1479 = .ok (.aload_n 3, 1) ∧ decode cLaw_law 1480 = .ok (.invokestatic 264, 3) ∧ decode cLaw_law 1483 = .ok (.istore 5, 2) ∧ decode cLaw_law 1485 = .ok (.aload_n 2, 1) ∧ decode cLaw_law 1486 = .ok (.aload_n 0, 1) ∧ decode cLaw_law 1487 = .ok (.iload 4, 2) ∧ decode cLaw_law 1489 = .ok (.iconst 1, 1) ∧ decode cLaw_law 1490 = .ok (.iadd, 1) ∧ decode cLaw_law 1491 = .ok (.iaload, 1) ∧ decode cLaw_law 1492 = .ok (.invokevirtual 266, 3) ∧ decode cLaw_law 1495 = .ok (.istore 6, 2) ∧ decode cLaw_law 1497 = .ok (.goto 641, 3) ∧ decode cLaw_law 1500 = .ok (.aload_n 1, 1) ∧ decode cLaw_law 1501 = .ok (.aload_n 0, 1) ∧ decode cLaw_law 1502 = .ok (.iload 4, 2) ∧ decode cLaw_law 1504 = .ok (.iconst 1, 1) ∧ True := Jvm.Free.DS.facts (code := cLaw_law) 1455 [(.istore 5, 2), (.aload_n 2, 1), (.aload_n 0, 1), (.iload 4, 2), (.iconst 1, 1), (.iadd, 1), (.iaload, 1), (.invokevirtual 263, 3), (.istore 6, 2), (.goto 669, 3), (.aload_n 1, 1), (.aload_n 0, 1), (.iload 4, 2), (.iconst 1, 1), (.iadd, 1), (.iaload, 1), (.aload_n 3, 1), (.invokestatic 264, 3), (.istore 5, 2), (.aload_n 2, 1), (.aload_n 0, 1), (.iload 4, 2), (.iconst 1, 1), (.iadd, 1), (.iaload, 1), (.invokevirtual 266, 3), (.istore 6, 2), (.goto 641, 3), (.aload_n 1, 1), (.aload_n 0, 1), (.iload 4, 2), (.iconst 1, 1)] (by decide +kernel) (by decide +kernel)
theorem dLaw_law_1455 : decode cLaw_law 1455 = .ok (.istore 5, 2) := zfLaw_law_1455.1
theorem dLaw_law_1457 : decode cLaw_law 1457 = .ok (.aload_n 2, 1) := zfLaw_law_1455.2.1
theorem dLaw_law_1458 : decode cLaw_law 1458 = .ok (.aload_n 0, 1) := zfLaw_law_1455.2.2.1
theorem dLaw_law_1459 : decode cLaw_law 1459 = .ok (.iload 4, 2) := zfLaw_law_1455.2.2.2.1
theorem dLaw_law_1461 : decode cLaw_law 1461 = .ok (.iconst 1, 1) := zfLaw_law_1455.2.2.2.2.1
theorem dLaw_law_1462 : decode cLaw_law 1462 = .ok (.iadd, 1) := zfLaw_law_1455.2.2.2.2.2.1
theorem dLaw_law_1463 : decode cLaw_law 1463 = .ok (.iaload, 1) := zfLaw_law_1455.2.2.2.2.2.2.1
theorem dLaw_law_1464 : decode cLaw_law 1464 = .ok (.invokevirtual 263, 3) := zfLaw_law_1455.2.2.2.2.2.2.2.1
theorem dLaw_law_1467 : decode cLaw_law 1467 = .ok (.istore 6, 2) := zfLaw_law_1455.2.2.2.2.2.2.2.2.1
theorem dLaw_law_1469 : decode cLaw_law 1469 = .ok (.goto 669, 3) := zfLaw_law_1455.2.2.2.2.2.2.2.2.2.1
theorem dLaw_law_1472 : decode cLaw_law 1472 = .ok (.aload_n 1, 1) := zfLaw_law_1455.2.2.2.2.2.2.2.2.2.2.1
theorem dLaw_law_1473 : decode cLaw_law 1473 = .ok (.aload_n 0, 1) := zfLaw_law_1455.2.2.2.2.2.2.2.2.2.2.2.1
theorem dLaw_law_1474 : decode cLaw_law 1474 = .ok (.iload 4, 2) := zfLaw_law_1455.2.2.2.2.2.2.2.2.2.2.2.2.1
theorem dLaw_law_1476 : decode cLaw_law 1476 = .ok (.iconst 1, 1) := zfLaw_law_1455.2.2.2.2.2.2.2.2.2.2.2.2.2.1
theorem dLaw_law_1477 : decode cLaw_law 1477 = .ok (.iadd, 1) := zfLaw_law_1455.2.2.2.2.2.2.2.2.2.2.2.2.2.2.1
theorem dLaw_law_1478 : decode cLaw_law 1478 = .ok (.iaload, 1) := zfLaw_law_1455.2.2.2.2.2.2.2.2.2.2.2.2.2.2.2.1
theorem dLaw_law_1479 : decode cLaw_law 1479 = .ok (.aload_n 3, 1) := zfLaw_law_1455.2.2.2.2.2.2.2.2.2.2.2.2.2.2.2.2.1
theorem dLaw_law_1480 : decode cLaw_law 1480 = .ok (.invokestatic 264, 3) := zfLaw_law_1455.2.2.2.2.2.2.2.2.2.2.2.2.2.2.2.2.2.1
theorem dLaw_law_1483 : decode cLaw_law 1483 = .ok (.istore 5, 2) := zfLaw_law_1455.2.2.2.2.2.2.2.2.2.2.2.2.2.2.2.2.2.2.1
theorem dLaw_law_1485 : decode cLaw_law 1485 = .ok (.aload_n 2, 1) := zfLaw_law_1455.2.2.2.2.2.2.2.2.2.2.2.2.2.2.2.2.2.2.2.1
theorem dLaw_law_1486 : decode cLaw_law 1486 = .ok (.aload_n 0, 1) := zfLaw_law_1455.2.2.2.2.2.2.2.2.2.2.2.2.2.2.2.2.2.2.2.2.1
theorem dLaw_law_1487 : decode cLaw_law 1487 = .ok (.iload 4, 2) := zfLaw_law_1455.2.2.2.2.2.2.2.2.2.2.2.2.2.2.2.2.2.2.2.2.2.1
theorem dLaw_law_1489 : decode cLaw_law 1489 = .ok (.iconst 1, 1) := zfLaw_law_1455.2.2.2.2.2.2.2.2.2.2.2.2.2.2.2.2.2.2.2.2.2.2.1
theorem dLaw_law_1490 : decode cLaw_law 1490 = .ok (.iadd, 1) := zfLaw_law_1455.2.2.2.2.2.2.2.2.2.2.2.2.2.2.2.2.2.2.2.2.2.2.2.1
theorem dLaw_law_1491 : decode cLaw_law 1491 = .ok (.iaload, 1) := zfLaw_law_1455.2.2.2.2.2.2.2.2.2.2.2.2.2.2.2.2.2.2.2.2.2.2.2.2.1
theorem dLaw_law_1492 : decode cLaw_law 1492 = .ok (.invokevirtual 266, 3) := zfLaw_law_1455.2.2.2.2.2.2.2.2.2.2.2.2.2.2.2.2.2.2.2.2.2.2.2.2.2.1
theorem dLaw_law_1495 : decode cLaw_law 1495 = .ok (.istore 6, 2) := zfLaw_law_1455.2.2.2.2.2.2.2.2.2.2.2.2.2.2.2.2.2.2.2.2.2.2.2.2.2.2.1
theorem dLaw_law_1497 : decode cLaw_law 1497 = .ok (.goto 641, 3) := zfLaw_law_1455.2.2.2.2.2.2.2.2.2.2.2.2.2.2.2.2.2.2.2.2.2.2.2.2.2.2.2.1
theorem dLaw_law_1500 : decode cLaw_law 1500 = .ok (.aload_n 1, 1) := zfLaw_law_1455.2.2.2.2.2.2.2.2.2.2.2.2.2.2.2.2.2.2.2.2.2.2.2.2.2.2.2.2.1
theorem dLaw_law_1501 : decode cLaw_law 1501 = .ok (.aload_n 0, 1) := zfLaw_law_1455.2.2.2.2.2.2.2.2.2.2.2.2.2.2.2.2.2.2.2.2.2.2.2.2.2.2.2.2.2.1
theorem dLaw_law_1502 : decode cLaw_law 1502 = .ok (.iload 4, 2) := zfLaw_law_1455.2.2.2.2.2.2.2.2.2.2.2.2.2.2.2.2.2.2.2.2.2.2.2.2.2.2.2.2.2.2.1
theorem dLaw_law_1504 : decode cLaw_law 1504 = .ok (.iconst 1, 1) := zfLaw_law_1455.2.2.2.2.2.2.2.2.2.2.2.2.2.2.2.2.2.2.2.2.2.2.2.2.2.2.2.2.2.2.2.1
theorem zfLaw_law_1505 : decode cLaw_law 1505 = .ok (.iadd, 1) ∧ decode cLaw_law 1506 = .ok (.iaload, 1) ∧ decode cLaw_law 1507 = .ok (.aload_n 0, 1) ∧ decode cLaw_law 1508 = .ok (.iload 4, 2) ∧ decode cLaw_law 1510 = .ok (.iconst 2, 1) ∧ decode cLaw_law 1511 = .ok (.iadd, 1) ∧ decode cLaw_law 1512 = .ok (.iaload, 1) ∧ decode cLaw_law 1513 = .ok (.aload_n 3, 1) ∧ decode cLaw_law 1514 = .ok (.invokestatic 267, 3) ∧ decode cLaw_law 1517 = .ok (.istore 5, 2) ∧ decode cLaw_law 1519 = .ok (.aload_n 2, 1) ∧ decode cLaw_law 1520 = .ok (.aload_n 0, 1) ∧ decode cLaw_law 1521 = .ok (.iload 4, 2) ∧ decode cLaw_law 1523 = .ok (.iconst 1, 1) ∧ decode cLaw_law 1524 = .ok (.iadd, 1) ∧ decode cLaw_law 1525 = .ok (.iaload, 1) ∧ decode cLaw_law 1526 = .ok (.aload_n 0, 1) ∧ decode cLaw_law 1527 = .ok (.iload 4, 2) ∧ decode cLaw_law 1529 = .ok (.iconst 2, 1) ∧ decode cLaw_law 1530 = .ok (.iadd, 1) ∧ decode cLaw_law 1531 = .ok (.iaload, 1) ∧ decode cLaw_law 1532 = .ok (.invokevirtual 269, 3) ∧ decode cLaw_law 1535 = .ok (.istore 6, 2) ∧ decode cLaw_law 1537 = .ok (.goto 601, 3) ∧ decode cLaw_law 1540 = .ok (.aload_n 1, 1) ∧ decode cLaw_law 1541 = .ok (.aload_n 0, 1) ∧ decode cLaw_law 1542 = .ok (.iload 4, 2) ∧ decode cLaw_law 1544 = .ok (.iconst 1, 1) ∧ decode cLaw_law 1545 = .ok (.iadd, 1) ∧ decode cLaw_law 1546 = .ok (.iaload, 1) ∧ decode cLaw_law 1547 = .ok (.aload_n 3, 1) ∧ decode cLaw_law 1548 = .ok (.invokestatic 270, 3) ∧ True := Jvm.Free.DS.facts (code := cLaw_law) 1505 [(.iadd, 1), (.iaload, 1), (.aload_n 0, 1), (.iload 4, 2), (.iconst 2, 1), (.iadd, 1), (.iaload, 1), (.aload_n 3, 1), (.invokestatic 267, 3), (.istore 5, 2), (.aload_n 2, 1), (.aload_n 0, 1), (.iload 4, 2), (.iconst 1, 1), (.iadd, 1), (.iaload, 1), (.aload_n 0, 1), (.iload 4, 2), (.iconst 2, 1), (.iadd, 1), (.iaload, 1), (.invokevirtual 269, 3), (.istore 6, 2), (.goto 601, 3), (.aload_n 1, 1), (.aload_n 0, 1), (.iload 4, 2), (.iconst 1, 1), (.iadd, 1), (.iaload, 1), (.aload_n 3, 1), (.invokestatic 270, 3)] (by decide +kernel) (by decide +kernel)
theorem dLaw_law_1505 : decode cLaw_law 1505 = .ok (.iadd, 1) := zfLaw_law_1505.1
theorem dLaw_law_1506 : decode cLaw_law 1506 = .ok (.iaload, 1) := zfLaw_law_1505.2.1
theorem dLaw_law_1507 : decode cLaw_law 1507 = .ok (.aload_n 0, 1) := zfLaw_law_1505.2.2.1
theorem dLaw_law_1508 : decode cLaw_law 1508 = .ok (.iload 4, 2) := zfLaw_law_1505.2.2.2.1
theorem dLaw_law_1510 : decode cLaw_law 1510 = .ok (.iconst 2, 1) := zfLaw_law_1505.2.2.2.2.1
theorem dLaw_law_1511 : decode cLaw_law 1511 = .ok (.iadd, 1) := zfLaw_law_1505.2.2.2.2.2.1
theorem dLaw_law_1512 : decode cLaw_law 1512 = .ok (.iaload, 1) := zfLaw_law_1505.2.2.2.2.2.2.1
theorem dLaw_law_1513 : decode cLaw_law 1513 = .ok (.aload_n 3, 1) := zfLaw_law_1505.2.2.2.2.2.2.2.1
theorem dLaw_law_1514 : decode cLaw_law 1514 = .ok (.invokestatic 267, 3) := zfLaw_law_1505.2.2.2.2.2.2.2.2.1
theorem dLaw_law_1517 : decode cLaw_law 1517 = .ok (.istore 5, 2) := zfLaw_law_1505.2.2.2.2.2.2.2.2.2.1
theorem dLaw_law_1519 : decode cLaw_law 1519 = .ok (.aload_n 2, 1) := zfLaw_law_1505.2.2.2.2.2.2.2.2.2.2.1
theorem dLaw_law_1520 : decode cLaw_law 1520 = .ok (.aload_n 0, 1) := zfLaw_law_1505.2.2.2.2.2.2.2.2.2.2.2.1
theorem dLaw_law_1521 : decode cLaw_law 1521 = .ok (.iload 4, 2) := zfLaw_law_1505.2.2.2.2.2.2.2.2.2.2.2.2.1
theorem dLaw_law_1523 : decode cLaw_law 1523 = .ok (.iconst 1, 1) := zfLaw_law_1505.2.2.2.2.2.2.2.2.2.2.2.2.2.1
theorem dLaw_law_1524 : decode cLaw_law 1524 = .ok (.iadd, 1) := zfLaw_law_1505.2.2.2.2.2.2.2.2.2.2.2.2.2.2.1
theorem dLaw_law_1525 : decode cLaw_law 1525 = .ok (.iaload, 1) := zfLaw_law_1505.2.2.2.2.2.2.2.2.2.2.2.2.2.2.2.1
theorem dLaw_law_1526 : decode cLaw_law 1526 = .ok (.aload_n 0, 1) := zfLaw_law_1505.2.2.2.2.2.2.2.2.2.2.2.2.2.2.2.2.1
theorem dLaw_law_1527 : decode cLaw_law 1527 = .ok (.iload 4, 2) := zfLaw_law_1505.2.2.2.2.2.2.2.2.2.2.2.2.2.2.2.2.2.1
theorem dLaw_law_1529 : decode cLaw_law 1529 = .ok (.iconst 2, 1) := zfLaw_law_1505.2.2.2.2.2.2.2.2.2.2.2.2.2.2.2.2.2.2.1
theorem dLaw_law_1530 : decode cLaw_law 1530 = .ok (.iadd, 1) := zfLaw_law_1505.2.2.2.2.2.2.2.2.2.2.2.2.2.2.2.2.2.2.2.1
theorem dLaw_law_1531 : decode cLaw_law 1531 = .ok (.iaload, 1) := zfLaw_law_1505.2.2.2.2.2.2.2.2.2.2.2.2.2.2.2.2.2.2.2.2.1
theorem dLaw_law_1532 : decode cLaw_law 1532 = .ok (.invokevirtual 269, 3) := zfLaw_law_1505.2.2.2.2.2.2.2.2.2.2.2.2.2.2.2.2.2.2.2.2.2.1
theorem dLaw_law_1535 : decode cLaw_law 1535 = .ok (.istore 6, 2) := zfLaw_law_1505.2.2.2.2.2.2.2.2.2.2.2.2.2.2.2.2.2.2.2.2.2.2.1
theorem dLaw_law_1537 : decode cLaw_law 1537 = .ok (.goto 601, 3) := zfLaw_law_1505.2.2.2.2.2.2.2.2.2.2.2.2.2.2.2.2.2.2.2.2.2.2.2.1
theorem dLaw_law_1540 : decode cLaw_law 1540 = .ok (.aload_n 1, 1) := zfLaw_law_1505.2.2.2.2.2.2.2.2.2.2.2.2.2.2.2.2.2.2.2.2.2.2.2.2.1
theorem dLaw_law_1541 : decode cLaw_law 1541 = .ok (.aload_n 0, 1) := zfLaw_law_1505.2.2.2.2.2.2.2.2.2.2.2.2.2.2.2.2.2.2.2.2.2.2.2.2.2.1
theorem dLaw_law_1542 : decode cLaw_law 1542 = .ok (.iload 4, 2) := zfLaw_law_1505.2.2.2.2.2.2.2.2.2.2.2.2.2.2.2.2.2.2.2.2.2.2.2.2.2.2.1
theorem dLaw_law_1544 : decode cLaw_law 1544 = .ok (.iconst 1, 1) := zfLaw_law_1505.2.2.2.2.2.2.2.2.2.2.2.2.2.2.2.2.2.2.2.2.2.2.2.2.2.2.2.1
theorem dLaw_law_1545 : decode cLaw_law 1545 = .ok (.iadd, 1) := zfLaw_law_1505.2.2.2.2.2.2.2.2.2.2.2.2.2.2.2.2.2.2.2.2.2.2.2.2.2.2.2.2.1
theorem dLaw_law_1546 : decode cLaw_law 1546 = .ok (.iaload, 1) := zfLaw_law_1505.2.2.2.2.2.2.2.2.2.2.2.2.2.2.2.2.2.2.2.2.2.2.2.2.2.2.2.2.2.1
theorem dLaw_law_1547 : decode cLaw_law 1547 = .ok (.aload_n 3, 1) := zfLaw_law_1505.2.2.2.2.2.2.2.2.2.2.2.2.2.2.2.2.2.2.2.2.2.2.2.2.2.2.2.2.2.2.1
theorem dLaw_law_1548 : decode cLaw_law 1548 = .ok (.invokestatic 270, 3) := zfLaw_law_1505.2.2.2.2.2.2.2.2.2.2.2.2.2.2.2.2.2.2.2.2.2.2.2.2.2.2.2.2.2.2.2.1
theorem zfLaw_law_1551 : decode cLaw_law 1551 = .ok (.istore 5, 2) ∧ decode cLaw_law 1553 = .ok (.aload_n 2, 1) ∧ decode cLaw_law 1554 = .ok (.aload_n 0, 1) ∧ decode cLaw_law 1555 = .ok (.iload 4, 2) ∧ decode cLaw_law 1557 = .ok (.iconst 1, 1) ∧ decode cLaw_law 1558 = .ok (.iadd, 1) ∧ decode cLaw_law 1559 = .ok (.iaload, 1) ∧ decode cLaw_law 1560 = .ok (.invokevirtual 272, 3) ∧ decode cLaw_law 1563 = .ok (.istore 6, 2) ∧ decode cLaw_law 1565 = .ok (.goto 573, 3) ∧ decode cLaw_law 1568 = .ok (.aload_n 1, 1) ∧ decode cLaw_law 1569 = .ok (.aload_n 0, 1) ∧ decode cLaw_law 1570 = .ok (.iload 4, 2) ∧ decode cLaw_law 1572 = .ok (.iconst 1, 1) ∧ decode cLaw_law 1573 = .ok (.iadd, 1) ∧ decode cLaw_law 1574 = .ok (.iaload, 1) ∧ decode cLaw_law 1575 = .ok (.aload_n 0, 1) ∧ decode cLaw_law 1576 = .ok (.iload 4, 2) ∧ decode cLaw_law 1578 = .ok (.iconst 2, 1) ∧ decode cLaw_law 1579 = .ok (.iadd, 1) ∧ decode cLaw_law 1580 = .ok (.iaload, 1) ∧ decode cLaw_law 1581 = .ok (.aload_n 3, 1) ∧ decode cLaw_law 1582 = .ok (.invokestatic 273, 3) ∧ decode cLaw_law 1585 = .ok (.istore 5, 2) ∧ decode cLaw_law 1587 = .ok (.aload_n 2, 1) ∧ decode cLaw_law 1588 = .ok (.aload_n 0, 1) ∧ decode cLaw_law 1589 = .ok (.iload 4, 2) ∧ decode cLaw_law 1591 = .ok (.iconst 1, 1) ∧ decode cLaw_law 1592 = .ok (.iadd, 1) ∧ decode cLaw_law 1593 = .ok (.iaload, 1) ∧ decode cLaw_law 1594 = .ok (.aload_n 0, 1) ∧ decode cLaw_law 1595 = .ok (.iload 4, 2) ∧ True := Jvm.Free.DS.facts (code := cLaw_law) 1551 [(.istore 5, 2), (.aload_n 2, 1), (.aload_n 0, 1), (.iload 4, 2), (.iconst 1, 1), (.iadd, 1), (.iaload, 1), (.invokevirtual 272, 3), (.istore 6, 2), (.goto 573, 3), (.aload_n 1, 1), (.aload_n 0, 1), (.iload 4, 2), (.iconst 1, 1), (.iadd, 1), (.iaload, 1), (.aload_n 0, 1), (.iload 4, 2), (.iconst 2, 1), (.iadd, 1), (.iaload, 1), (.aload_n 3, 1), (.invokestatic 273, 3), (.istore 5, 2), (.aload_n 2, 1), (.aload_n 0, 1), (.iload 4, 2), (.iconst 1, 1), (.iadd, 1), (.iaload, 1), (.aload_n 0, 1), (.iload 4, 2)] (by decide +kernel) (by decide +kernel)
theorem dLaw_law_1551 : decode cLaw_law 1551 = .ok (.istore 5, 2) := zfLaw_law_1551.1
theorem dLaw_law_1553 : decode cLaw_law 1553 = .ok (.aload_n 2, 1) := zfLaw_law_1551.2.1
theorem dLaw_law_1554 : decode cLaw_law 1554 = .ok (.aload_n 0, 1) := zfLaw_law_1551.2.2.1
theorem dLaw_law_1555 : decode cLaw_law 1555 = .ok (.iload 4, 2) := zfLaw_law_1551.2.2.2.1
theorem dLaw_law_1557 : decode cLaw_law 1557 = .ok (.iconst 1, 1) := zfLaw_law_1551.2.2.2.2.1
theorem dLaw_law_1558 : decode cLaw_law 1558 = .ok (.iadd, 1) := zfLaw_law_1551.2.2.2.2.2.1
theorem dLaw_law_1559 : decode cLaw_law 1559 = .ok (.iaload, 1) := zfLaw_law_1551.2.2.2.2.2.2.1
theorem dLaw_law_1560 : decode cLaw_law 1560 = .ok (.invokevirtual 272, 3) := zfLaw_law_1551.2.2.2.2.2.2.2.1
theorem dLaw_law_1563 : decode cLaw_law 1563 = .ok (.istore 6, 2) := zfLaw_law_1551.2.2.2.2.2.2.2.2.1
theorem dLaw_law_1565 : decode cLaw_law 1565 = .ok (.goto 573, 3) := zfLaw_law_1551.2.2.2.2.2.2.2.2.2.1
theorem dLaw_law_1568 : decode cLaw_law 1568 = .ok (.aload_n 1, 1) := zfLaw_law_1551.2.2.2.2.2.2.2.2.2.2.1
theorem dLaw_law_1569 : decode cLaw_law 1569 = .ok (.aload_n 0, 1) := zfLaw_law_1551.2.2.2.2.2.2.2.2.2.2.2.1
theorem dLaw_law_1570 : decode cLaw_law 1570 = .ok (.iload 4, 2) := zfLaw_law_1551.2.2.2.2.2.2.2.2.2.2.2.2.1
theorem dLaw_law_1572 : decode cLaw_law 1572 = .ok (.iconst 1, 1) := zfLaw_law_1551.2.2.2.2.2.2.2.2.2.2.2.2.2.1
theorem dLaw_law_1573 : decode cLaw_law 1573 = .ok (.iadd, 1) := zfLaw_law_1551.2.2.2.2.2.2.2.2.2.2.2.2.2.2.1
theorem dLaw_law_1574 : decode cLaw_law 1574 = .ok (.iaload, 1) := zfLaw_law_1551.2.2.2.2.2.2.2.2.2.2.2.2.2.2.2.1
theorem dLaw_law_1575 : decode cLaw_law 1575 = .ok (.aload_n 0, 1) := zfLaw_law_1551.2.2.2.2.2.2.2.2.2.2.2.2.2.2.2.2.1
theorem dLaw_law_1576 : decode cLaw_law 1576 = .ok (.iload 4, 2) := zfLaw_law_1551.2.2.2.2.2.2.2.2.2.2.2.2.2.2.2.2.2.1
theorem dLaw_law_1578 : decode cLaw_law 1578 = .ok (.iconst 2, 1) := zfLaw_law_1551.2.2.2.2.2.2.2.2.2.2.2.2.2.2.2.2.2.2.1
theorem dLaw_law_1579 : decode cLaw_law 1579 = .ok (.iadd, 1) := zfLaw_law_1551.2.2.2.2.2.2.2.2.2.2.2.2.2.2.2.2.2.2.2.1
theorem dLaw_law_1580 : decode cLaw_law 1580 = .ok (.iaload, 1) := zfLaw_law_1551.2.2.2.2.2.2.2.2.2.2.2.2.2.2.2.2.2.2.2.2.1
theorem dLaw_law_1581 : decode cLaw_law 1581 = .ok (.aload_n 3, 1) := zfLaw_law_1551.2.2.2.2.2.2.2.2.2.2.2.2.2.2.2.2.2.2.2.2.2.1
theorem dLaw_law_1582 : decode cLaw_law 1582 = .ok (.invokestatic 273, 3) := zfLaw_law_1551.2.2.2.2.2.2.2.2.2.2.2.2.2.2.2.2.2.2.2.2.2.2.1
theorem dLaw_law_1585 : decode cLaw_law 1585 = .ok (.istore 5, 2) := zfLaw_law_1551.2.2.2.2.2.2.2.2.2.2.2.2.2.2.2.2.2.2.2.2.2.2.2.1
theorem dLaw_law_1587 : decode cLaw_law 1587 = .ok (.aload_n 2, 1) := zfLaw_law_1551.2.2.2.2.2.2.2.2.2.2.2.2.2.2.2.2.2.2.2.2.2.2.2.2.1
theorem dLaw_law_1588 : decode cLaw_law 1588 = .ok (.aload_n 0, 1) := zfLaw_law_1551.2.2.2.2.2.2.2.2.2.2.2.2.2.2.2.2.2.2.2.2.2.2.2.2.2.1
theorem dLaw_law_1589 : decode cLaw_law 1589 = .ok (.iload 4, 2) := zfLaw_law_1551.2.2.2.2.2.2.2.2.2.2.2.2.2.2.2.2.2.2.2.2.2.2.2.2.2.2.1
theorem dLaw_law_1591 : decode cLaw_law 1591 = .ok (.iconst 1, 1) := zfLaw_law_1551.2.2.2.2.2.2.2.2.2.2.2.2.2.2.2.2.2.2.2.2.2.2.2.2.2.2.2.1
theorem dLaw_law_1592 : decode cLaw_law 1592 = .ok (.iadd, 1) := zfLaw_law_1551.2.2.2.2.2.2.2.2.2.2.2.2.2.2.2.2.2.2.2.2.2.2.2.2.2.2.2.2.1
theorem dLaw_law_1593 : decode cLaw_law 1593 = .ok (.iaload, 1) := zfLaw_law_1551.2.2.2.2.2.2.2.2.2.2.2.2.2.2.2.2.2.2.2.2.2.2.2.2.2.2.2.2.2.1
theorem dLaw_law_1594 : decode cLaw_law 1594 = .ok (.aload_n 0, 1) := zfLaw_law_1551.2.2.2.2.2.2.2.2.2.2.2.2.2.2.2.2.2.2.2.2.2.2.2.2.2.2.2.2.2.2.1
theorem dLaw_law_1595 : decode cLaw_law 1595 = .ok (.iload 4, 2) := zfLaw_law_1551.2.2.2.2.2.2.2.2.2.2.2.2.2.2.2.2.2.2.2.2.2.2.2.2.2.2.2.2.2.2.2.1
theorem zfLaw_law_1597 : decode cLaw_law 1597 = .ok (.iconst 2, 1) ∧ decode cLaw_law 1598 = .ok (.iadd, 1) ∧ decode cLaw_law 1599 = .ok (.iaload, 1) ∧ decode cLaw_law 1600 = .ok (.invokevirtual 275, 3) ∧ decode cLaw_law 1603 = .ok (.istore 6, 2) ∧ decode cLaw_law 1605 = .ok (.goto 533, 3) ∧ decode cLaw_law 1608 = .ok (.aload_n 1, 1) ∧ decode cLaw_law 1609 = .ok (.aload_n 0, 1) ∧ decode cLaw_law 1610 = .ok (.iload 4, 2) ∧ decode cLaw_law 1612 = .ok (.iconst 1, 1) ∧ decode cLaw_law 1613 = .ok (.iadd, 1) ∧ decode cLaw_law 1614 = .ok (.iaload, 1) ∧ decode cLaw_law 1615 = .ok (.aload_n 0, 1) ∧ decode cLaw_law 1616 = .ok (.iload 4, 2) ∧ decode cLaw_law 1618 = .ok (.iconst 2, 1) ∧ decode cLaw_law 1619 = .ok (.iadd, 1) ∧ decode cLaw_law 1620 = .ok (.iaload, 1) ∧ decode cLaw_law 1621 = .ok (.aload_n 3, 1) ∧ decode cLaw_law 1622 = .ok (.invokestatic 276, 3) ∧ decode cLaw_law 1625 = .ok (.istore 5, 2) ∧ decode cLaw_law 1627 = .ok (.aload_n 2, 1) ∧ decode cLaw_law 1628 = .ok (.aload_n 0, 1) ∧ decode cLaw_law 1629 = .ok (.iload 4, 2) ∧ decode cLaw_law 1631 = .ok (.iconst 1, 1) ∧ decode cLaw_law 1632 = .ok (.iadd, 1) ∧ decode cLaw_law 1633 = .ok (.iaload, 1) ∧ decode cLaw_law 1634 = .ok (.aload_n 0, 1) ∧ decode cLaw_law 1635 = .ok (.iload 4, 2) ∧ decode cLaw_law 1637 = .ok (.iconst 2, 1) ∧ decode cLaw_law 1638 = .ok (.iadd, 1) ∧ decode cLaw_law 1639 = .ok (.iaload, 1) ∧ decode cLaw_law 1640 = .ok (.invokevirtual 278, 3) ∧ True := Jvm.Free.DS.facts (code := cLaw_law) 1597 [(.iconst 2, 1), (.iadd, 1), (.iaload, 1), (.invokevirtual 275, 3), (.istore 6, 2), (.goto 533, 3), (.aload_n 1, 1), (.aload_n 0, 1), (.iload 4, 2), (.iconst 1, 1), (.iadd, 1), (.iaload, 1), (.aload_n 0, 1), (.iload 4, 2), (.iconst 2, 1), (.iadd, 1), (.iaload, 1), (.aload_n 3, 1), (.invokestatic 276, 3), (.istore 5, 2), (.aload_n 2, 1), (.aload_n 0, 1), (.iload 4, 2), (.iconst 1, 1), (.iadd, 1), (.iaload, 1), (.aload_n 0, 1), (.iload 4, 2), (.iconst 2, 1), (.iadd, 1), (.iaload, 1), (.invokevirtual 278, 3)] (by decide +kernel) (by decide +kernel)
theorem dLaw_law_1597 : decode cLaw_law 1597 = .ok (.iconst 2, 1) := zfLaw_law_1597.1
theorem dLaw_law_1598 : decode cLaw_law 1598 = .ok (.iadd, 1) := zfLaw_law_1597.2.1
theorem dLaw_law_1599 : decode cLaw_law 1599 = .ok (.iaload, 1) := zfLaw_law_1597.2.2.1
theorem dLaw_law_1600 : decode cLaw_law 1600 = .ok (.invokevirtual 275, 3) := zfLaw_law_1597.2.2.2.1
theorem dLaw_law_1603 : decode cLaw_law 1603 = .ok (.istore 6, 2) := zfLaw_law_1597.2.2.2.2.1
theorem dLaw_law_1605 : decode cLaw_law 1605 = .ok (.goto 533, 3) := zfLaw_law_1597.2.2.2.2.2.1
theorem dLaw_law_1608 : decode cLaw_law 1608 = .ok (.aload_n 1, 1) := zfLaw_law_1597.2.2.2.2.2.2.1
theorem dLaw_law_1609 : decode cLaw_law 1609 = .ok (.aload_n 0, 1) := zfLaw_law_1597.2.2.2.2.2.2.2.1
theorem dLaw_law_1610 : decode cLaw_law 1610 = .ok (.iload 4, 2) := zfLaw_law_1597.2.2.2.2.2.2.2.2.1
theorem dLaw_law_1612 : decode cLaw_law 1612 = .ok (.iconst 1, 1) := zfLaw_law_1597.2.2.2.2.2.2.2.2.2.1
theorem dLaw_law_1613 : decode cLaw_law 1613 = .ok (.iadd, 1) := zfLaw_law_1597.2.2.2.2.2.2.2.2.2.2.1
theorem dLaw_law_1614 : decode cLaw_law 1614 = .ok (.iaload, 1) := zfLaw_law_1597.2.2.2.2.2.2.2.2.2.2.2.1
theorem dLaw_law_1615 : decode cLaw_law 1615 = .ok (.aload_n 0, 1) := zfLaw_law_1597.2.2.2.2.2.2.2.2.2.2.2.2.1
theorem dLaw_law_1616 : decode cLaw_law 1616 = .ok (.iload 4, 2) := zfLaw_law_1597.2.2.2.2.2.2.2.2.2.2.2.2.2.1
theorem dLaw_law_1618 : decode cLaw_law 1618 = .ok (.iconst 2, 1) := zfLaw_law_1597.2.2.2.2.2.2.2.2.2.2.2.2.2.2.1
theorem dLaw_law_1619 : decode cLaw_law 1619 = .ok (.iadd, 1) := zfLaw_law_1597.2.2.2.2.2.2.2.2.2.2.2.2.2.2.2.1
theorem dLaw_law_1620 : decode cLaw_law 1620 = .ok (.iaload, 1) := zfLaw_law_1597.2.2.2.2.2.2.2.2.2.2.2.2.2.2.2.2.1
theorem dLaw_law_1621 : decode cLaw_law 1621 = .ok (.aload_n 3, 1) := zfLaw_law_1597.2.2.2.2.2.2.2.2.2.2.2.2.2.2.2.2.2.1
theorem dLaw_law_1622 : decode cLaw_law 1622 = .ok (.invokestatic 276, 3) := zfLaw_law_1597.2.2.2.2.2.2.2.2.2.2.2.2.2.2.2.2.2.2.1
theorem dLaw_law_1625 : decode cLaw_law 1625 = .ok (.istore 5, 2) := zfLaw_law_1597.2.2.2.2.2.2.2.2.2.2.2.2.2.2.2.2.2.2.2.1
theorem dLaw_law_1627 : decode cLaw_law 1627 = .ok (.aload_n 2, 1) := zfLaw_law_1597.2.2.2.2.2.2.2.2.2.2.2.2.2.2.2.2.2.2.2.2.1
theorem dLaw_law_1628 : decode cLaw_law 1628 = .ok (.aload_n 0, 1) := zfLaw_law_1597.2.2.2.2.2.2.2.2.2.2.2.2.2.2.2.2.2.2.2.2.2.1
theorem dLaw_law_1629 : decode cLaw_law 1629 = .ok (.iload 4, 2) := zfLaw_law_1597.2.2.2.2.2.2.2.2.2.2.2.2.2.2.2.2.2.2.2.2.2.2.1
theorem dLaw_law_1631 : decode cLaw_law 1631 = .ok (.iconst 1, 1) := zfLaw_law_1597.2.2.2.2.2.2.2.2.2.2.2.2.2.2.2.2.2.2.2.2.2.2.2.1
theorem dLaw_law_1632 : decode cLaw_law 1632 = .ok (.iadd, 1) := zfLaw_law_1597.2.2.2.2.2.2.2.2.2.2.2.2.2.2.2.2.2.2.2.2.2.2.2.2.1
theorem dLaw_law_1633 : decode cLaw_law 1633 = .ok (.iaload, 1) := zfLaw_law_1597.2.2.2.2.2.2.2.2.2.2.2.2.2.2.2.2.2.2.2.2.2.2.2.2.2.1
theorem dLaw_law_1634 : decode cLaw_law 1634 = .ok (.aload_n 0, 1) := zfLaw_law_1597.2.2.2.2.2.2.2.2.2.2.2.2.2.2.2.2.2.2.2.2.2.2.2.2.2.2.1
theorem dLaw_law_1635 : decode cLaw_law 1635 = .ok (.iload 4, 2) := zfLaw_law_1597.2.2.2.2.2.2.2.2.2.2.2.2.2.2.2.2.2.2.2.2.2.2.2.2.2.2.2.1
theorem dLaw_law_1637 : decode cLaw_law 1637 = .ok (.iconst 2, 1) := zfLaw_law_1597.2.2.2.2.2.2.2.2.2.2.2.2.2.2.2.2.2.2.2.2.2.2.2.2.2.2.2.2.1
theorem dLaw_law_1638 : decode cLaw_law 1638 = .ok (.iadd, 1) := zfLaw_law_1597.2.2.2.2.2.2.2.2.2.2.2.2.2.2.2.2.2.2.2.2.2.2.2.2.2.2.2.2.2.1
theorem dLaw_law_1639 : decode cLaw_law 1639 = .ok (.iaload, 1) := zfLaw_law_1597.2.2.2.2.2.2.2.2.2.2.2.2.2.2.2.2.2.2.2.2.2.2.2.2.2.2.2.2.2.2.1
theorem dLaw_law_1640 : decode cLaw_law 1640 = .ok (.invokevirtual 278, 3) := zfLaw_law_1597.2.2.2.2.2.2.2.2.2.2.2.2.2.2.2.2.2.2.2.2.2.2.2.2.2.2.2.2.2.2.2.1
theorem zfLaw_law_1643 : decode cLaw_law 1643 = .ok (.istore 6, 2) ∧ decode cLaw_law 1645 = .ok (.goto 493, 3) ∧ decode cLaw_law 1648 = .ok (.aload_n 1, 1) ∧ decode cLaw_law 1649 = .ok (.aload_n 0, 1) ∧ decode cLaw_law 1650 = .ok (.iload 4, 2) ∧ decode cLaw_law 1652 = .ok (.iconst 1, 1) ∧ decode cLaw_law 1653 = .ok (.iadd, 1) ∧ decode cLaw_law 1654 = .ok (.iaload, 1) ∧ decode cLaw_law 1655 = .ok (.aload_n 0, 1) ∧ decode cLaw_law 1656 = .ok (.iload 4, 2) ∧ decode cLaw_law 1658 = .ok (.iconst 2, 1) ∧ decode cLaw_law 1659 = .ok (.iadd, 1) ∧ decode cLaw_law 1660 = .ok (.iaload, 1) ∧ decode cLaw_law 1661 = .ok (.aload_n 3, 1) ∧ decode cLaw_law 1662 = .ok (.invokestatic 279, 3) ∧ decode cLaw_law 1665 = .ok (.istore 5, 2) ∧ decode cLaw_law 1667 = .ok (.aload_n 2, 1) ∧ decode cLaw_law 1668 = .ok (.aload_n 0, 1) ∧ decode cLaw_law 1669 = .ok (.iload 4, 2) ∧ decode cLaw_law 1671 = .ok (.iconst 1, 1) ∧ decode cLaw_law 1672 = .ok (.iadd, 1) ∧ decode cLaw_law 1673 = .ok (.iaload, 1) ∧ decode cLaw_law 1674 = .ok (.aload_n 0, 1) ∧ decode cLaw_law 1675 = .ok (.iload 4, 2) ∧ decode cLaw_law 1677 = .ok (.iconst 2, 1) ∧ decode cLaw_law 1678 = .ok (.iadd, 1) ∧ decode cLaw_law 1679 = .ok (.iaload, 1) ∧ decode cLaw_law 1680 = .ok (.invokevirtual 281, 3) ∧ decode cLaw_law 1683 = .ok (.istore 6, 2) ∧ decode cLaw_law 1685 = .ok (.goto 453, 3) ∧ decode cLaw_law 1688 = .ok (.aload_n 1, 1) ∧ decode cLaw_law 1689 = .ok (.aload_n 0, 1) ∧ True := Jvm.Free.DS.facts (code := cLaw_law) 1643 [(.istore 6, 2), (.goto 493, 3), (.aload_n 1, 1), (.aload_n 0, 1), (.iload 4, 2), (.iconst 1, 1), (.iadd, 1), (.iaload, 1), (.aload_n 0, 1), (.iload 4, 2), (.iconst 2, 1), (.iadd, 1), (.iaload, 1), (.aload_n 3, 1), (.invokestatic 279, 3), (.istore 5, 2), (.aload_n 2, 1), (.aload_n 0, 1), (.iload 4, 2), (.iconst 1, 1), (.iadd, 1), (.iaload, 1), (.aload_n 0, 1), (.iload 4, 2), (.iconst 2, 1), (.iadd, 1), (.iaload, 1), (.invokevirtual 281, 3), (.istore 6, 2), (.goto 453, 3), (.aload_n 1, 1), (.aload_n 0, 1)] (by decide +kernel) (by decide +kernel)
theorem dLaw_law_1643 : decode cLaw_law 1643 = .ok (.istore 6, 2) := zfLaw_law_1643.1
theorem dLaw_law_1645 : decode cLaw_law 1645 = .ok (.goto 493, 3) := zfLaw_law_1643.2.1
theorem dLaw_law_1648 : decode cLaw_law 1648 = .ok (.aload_n 1, 1) := zfLaw_law_1643.2.2.1
theorem dLaw_law_1649 : decode cLaw_law 1649 = .ok (.aload_n 0, 1) := zfLaw_law_1643.2.2.2.1
theorem dLaw_law_1650 : decode cLaw_law 1650 = .ok (.iload 4, 2) := zfLaw_law_1643.2.2.2.2.1
theorem dLaw_law_1652 : decode cLaw_law 1652 = .ok (.iconst 1, 1) := zfLaw_law_1643.2.2.2.2.2.1
theorem dLaw_law_1653 : decode cLaw_law 1653 = .ok (.iadd, 1) := zfLaw_law_1643.2.2.2.2.2.2.1
theorem dLaw_law_1654 : decode cLaw_law 1654 = .ok (.iaload, 1) := zfLaw_law_1643.2.2.2.2.2.2.2.1
theorem dLaw_law_1655 : decode cLaw_law 1655 = .ok (.aload_n 0, 1) := zfLaw_law_1643.2.2.2.2.2.2.2.2.1
theorem dLaw_law_1656 : decode cLaw_law 1656 = .ok (.iload 4, 2) := zfLaw_law_1643.2.2.2.2.2.2.2.2.2.1
theorem dLaw_law_1658 : decode cLaw_law 1658 = .ok (.iconst 2, 1) := zfLaw_law_1643.2.2.2.2.2.2.2.2.2.2.1
theorem dLaw_law_1659 : decode cLaw_law 1659 = .ok (.iadd, 1) := zfLaw_law_1643.2.2.2.2.2.2.2.2.2.2.2.1
theorem dLaw_law_1660 : decode cLaw_law 1660 = .ok (.iaload, 1) := zfLaw_law_1643.2.2.2.2.2.2.2.2.2.2.2.2.1
theorem dLaw_law_1661 : decode cLaw_law 1661 = .ok (.aload_n 3, 1) := zfLaw_law_1643.2.2.2.2.2.2.2.2.2.2.2.2.2.1
theorem dLaw_law_1662 : decode cLaw_law 1662 = .ok (.invokestatic 279, 3) := zfLaw_law_1643.2.2.2.2.2.2.2.2.2.2.2.2.2.2.1
theorem dLaw_law_1665 : decode cLaw_law 1665 = .ok (.istore 5, 2) := zfLaw_law_1643.2.2.2.2.2.2.2.2.2.2.2.2.2.2.2.1
theorem dLaw_law_1667 : decode cLaw_law 1667 = .ok (.aload_n 2, 1) := zfLaw_law_1643.2.2.2.2.2.2.2.2.2.2.2.2.2.2.2.2.1
theorem dLaw_law_1668 : decode cLaw_law 1668 = .ok (.aload_n 0, 1) := zfLaw_law_1643.2.2.2.2.2.2.2.2.2.2.2.2.2.2.2.2.2.1
theorem dLaw_law_1669 : decode cLaw_law 1669 = .ok (.iload 4, 2) := zfLaw_law_1643.2.2.2.2.2.2.2.2.2.2.2.2.2.2.2.2.2.2.1
theorem dLaw_law_1671 : decode cLaw_law 1671 = .ok (.iconst 1, 1) := zfLaw_law_1643.2.2.2.2.2.2.2.2.2.2.2.2.2.2.2.2.2.2.2.1
theorem dLaw_law_1672 : decode cLaw_law 1672 = .ok (.iadd, 1) := zfLaw_law_1643.2.2.2.2.2.2.2.2.2.2.2.2.2.2.2.2.2.2.2.2.1
theorem dLaw_law_1673 : decode cLaw_law 1673 = .ok (.iaload, 1) := zfLaw_law_1643.2.2.2.2.2.2.2.2.2.2.2.2.2.2.2.2.2.2.2.2.2.1
theorem dLaw_law_1674 : decode cLaw_law 1674 = .ok (.aload_n 0, 1) := zfLaw_law_1643.2.2.2.2.2.2.2.2.2.2.2.2.2.2.2.2.2.2.2.2.2.2.1
theorem dLaw_law_1675 : decode cLaw_law 1675 = .ok (.iload 4, 2) := zfLaw_law_1643.2.2.2.2.2.2.2.2.2.2.2.2.2.2.2.2.2.2.2.2.2.2.2.1
theorem dLaw_law_1677 : decode cLaw_law 1677 = .ok (.iconst 2, 1) := zfLaw_law_1643.2.2.2.2.2.2.2.2.2.2.2.2.2.2.2.2.2.2.2.2.2.2.2.2.1
theorem dLaw_law_1678 : decode cLaw_law 1678 = .ok (.iadd, 1) := zfLaw_law_1643.2.2.2.2.2.2.2.2.2.2.2.2.2.2.2.2.2.2.2.2.2.2.2.2.2.1
theorem dLaw_law_1679 : decode cLaw_law 1679 = .ok (.iaload, 1) := zfLaw_law_1643.2.2.2.2.2.2.2.2.2.2.2.2.2.2.2.2.2.2.2.2.2.2.2.2.2.2.1
theorem dLaw_law_1680 : decode cLaw_law 1680 = .ok (.invokevirtual 281, 3) := zfLaw_law_1643.2.2.2.2.2.2.2.2.2.2.2.2.2.2.2.2.2.2.2.2.2.2.2.2.2.2.2.1
theorem dLaw_law_1683 : decode cLaw_law 1683 = .ok (.istore 6, 2) := zfLaw_law_1643.2.2.2.2.2.2.2.2.2.2.2.2.2.2.2.2.2.2.2.2.2.2.2.2.2.2.2.2.1
theorem dLaw_law_1685 : decode cLaw_law 1685 = .ok (.goto 453, 3) := zfLaw_law_1643.2.2.2.2.2.2.2.2.2.2.2.2.2.2.2.2.2.2.2.2.2.2.2.2.2.2.2.2.2.1
theorem dLaw_law_1688 : decode cLaw_law 1688 = .ok (.aload_n 1, 1) := zfLaw_law_1643.2.2.2.2.2.2.2.2.2.2.2.2.2.2.2.2.2.2.2.2.2.2.2.2.2.2.2.2.2.2.1
theorem dLaw_law_1689 : decode cLaw_law 1689 = .ok (.aload_n 0, 1) := zfLaw_law_1643.2.2.2.2.2.2.2.2.2.2.2.2.2.2.2.2.2.2.2.2.2.2.2.2.2.2.2.2.2.2.2.1
theorem zfLaw_law_1690 : decode cLaw_law 1690 = .ok (.iload 4, 2) ∧ decode cLaw_law 1692 = .ok (.iconst 1, 1) ∧ decode cLaw_law 1693 = .ok (.iadd, 1) ∧ decode cLaw_law 1694 = .ok (.iaload, 1) ∧ decode cLaw_law 1695 = .ok (.aload_n 0, 1) ∧ decode cLaw_law 1696 = .ok (.iload 4, 2) ∧ decode cLaw_law 1698 = .ok (.iconst 2, 1) ∧ decode cLaw_law 1699 = .ok (.iadd, 1) ∧ decode cLaw_law 1700 = .ok (.iaload, 1) ∧ decode cLaw_law 1701 = .ok (.aload_n 3, 1) ∧ decode cLaw_law 1702 = .ok (.invokestatic 282, 3) ∧ decode cLaw_law 1705 = .ok (.istore 5, 2) ∧ decode cLaw_law 1707 = .ok (.aload_n 2, 1) ∧ decode cLaw_law 1708 = .ok (.aload_n 0, 1) ∧ decode cLaw_law 1709 = .ok (.iload 4, 2) ∧ decode cLaw_law 1711 = .ok (.iconst 1, 1) ∧ decode cLaw_law 1712 = .ok (.iadd, 1) ∧ decode cLaw_law 1713 = .ok (.iaload, 1) ∧ decode cLaw_law 1714 = .ok (.aload_n 0, 1) ∧ decode cLaw_law 1715 = .ok (.iload 4, 2) ∧ decode cLaw_law 1717 = .ok (.iconst 2, 1) ∧ decode cLaw_law 1718 = .ok (.iadd, 1) ∧ decode cLaw_law 1719 = .ok (.iaload, 1) ∧ decode cLaw_law 1720 = .ok (.invokevirtual 284, 3) ∧ decode cLaw_law 1723 = .ok (.istore 6, 2) ∧ decode cLaw_law 1725 = .ok (.goto 413, 3) ∧ decode cLaw_law 1728 = .ok (.aload_n 1, 1) ∧ decode cLaw_law 1729 = .ok (.aload_n 0, 1) ∧ decode cLaw_law 1730 = .ok (.iload 4, 2) ∧ decode cLaw_law 1732 = .ok (.iconst 1, 1) ∧ decode cLaw_law 1733 = .ok (.iadd, 1) ∧ decode cLaw_law 1734 = .ok (.iaload, 1) ∧ True := Jvm.Free.DS.facts (code := cLaw_law) 1690 [(.iload 4, 2), (.iconst 1, 1), (.iadd, 1), (.iaload, 1), (.aload_n 0, 1), (.iload 4, 2), (.iconst 2, 1), (.iadd, 1), (.iaload, 1), (.aload_n 3, 1), (.invokestatic 282, 3), (.istore 5, 2), (.aload_n 2, 1), (.aload_n 0, 1), (.iload 4, 2), (.iconst 1, 1), (.iadd, 1), (.iaload, 1), (.aload_n 0, 1), (.iload 4, 2), (.iconst 2, 1), (.iadd, 1), (.iaload, 1), (.invokevirtual 284, 3), (.istore 6, 2), (.goto 413, 3), (.aload_n 1, 1), (.aload_n 0, 1), (.iload 4, 2), (.iconst 1, 1), (.iadd, 1), (.iaload, 1)] (by decide +kernel) (by decide +kernel)
theorem dLaw_law_1690 : decode cLaw_law 1690 = .ok (.iload 4, 2) := zfLaw_law_1690.1
theorem dLaw_law_1692 : decode cLaw_law 1692 = .ok (.iconst 1, 1) := zfLaw_law_1690.2.1
theorem dLaw_law_1693 : decode cLaw_law 1693 = .ok (.iadd, 1) := zfLaw_law_1690.2.2.1
theorem dLaw_law_1694 : decode cLaw_law 1694 = .ok (.iaload, 1) := zfLaw_law_1690.2.2.2.1
theorem dLaw_law_1695 : decode cLaw_law 1695 = .ok (.aload_n 0, 1) := zfLaw_law_1690.2.2.2.2.1
theorem dLaw_law_1696 : decode cLaw_law 1696 = .ok (.iload 4, 2) := zfLaw_law_1690.2.2.2.2.2.1
theorem dLaw_law_1698 : decode cLaw_law 1698 = .ok (.iconst 2, 1) := zfLaw_law_1690.2.2.2.2.2.2.1
theorem dLaw_law_1699 : decode cLaw_law 1699 = .ok (.iadd, 1) := zfLaw_law_1690.2.2.2.2.2.2.2.1
theorem dLaw_law_1700 : decode cLaw_law 1700 = .ok (.iaload, 1) := zfLaw_law_1690.2.2.2.2.2.2.2.2.1
theorem dLaw_law_1701 : decode cLaw_law 1701 = .ok (.aload_n 3, 1) := zfLaw_law_1690.2.2.2.2.2.2.2.2.2.1
theorem dLaw_law_1702 : decode cLaw_law 1702 = .ok (.invokestatic 282, 3) := zfLaw_law_1690.2.2.2.2.2.2.2.2.2.2.1
theorem dLaw_law_1705 : decode cLaw_law 1705 = .ok (.istore 5, 2) := zfLaw_law_1690.2.2.2.2.2.2.2.2.2.2.2.1
theorem dLaw_law_1707 : decode cLaw_law 1707 = .ok (.aload_n 2, 1) := zfLaw_law_1690.2.2.2.2.2.2.2.2.2.2.2.2.1
theorem dLaw_law_1708 : decode cLaw_law 1708 = .ok (.aload_n 0, 1) := zfLaw_law_1690.2.2.2.2.2.2.2.2.2.2.2.2.2.1
theorem dLaw_law_1709 : decode cLaw_law 1709 = .ok (.iload 4, 2) := zfLaw_law_1690.2.2.2.2.2.2.2.2.2.2.2.2.2.2.1
theorem dLaw_law_1711 : decode cLaw_law 1711 = .ok (.iconst 1, 1) := zfLaw_law_1690.2.2.2.2.2.2.2.2.2.2.2.2.2.2.2.1
theorem dLaw_law_1712 : decode cLaw_law 1712 = .ok (.iadd, 1) := zfLaw_law_1690.2.2.2.2.2.2.2.2.2.2.2.2.2.2.2.2.1
theorem dLaw_law_1713 : decode cLaw_law 1713 = .ok (.iaload, 1) := zfLaw_law_1690.2.2.2.2.2.2.2.2.2.2.2.2.2.2.2.2.2.1
theorem dLaw_law_1714 : decode cLaw_law 1714 = .ok (.aload_n 0, 1) := zfLaw_law_1690.2.2.2.2.2.2.2.2.2.2.2.2.2.2.2.2.2.2.1
theorem dLaw_law_1715 : decode cLaw_law 1715 = .ok (.iload 4, 2) := zfLaw_law_1690.2.2.2.2.2.2.2.2.2.2.2.2.2.2.2.2.2.2.2.1
theorem dLaw_law_1717 : decode cLaw_law 1717 = .ok (.iconst 2, 1) := zfLaw_law_1690.2.2.2.2.2.2.2.2.2.2.2.2.2.2.2.2.2.2.2.2.1
theorem dLaw_law_1718 : decode cLaw_law 1718 = .ok (.iadd, 1) := zfLaw_law_1690.2.2.2.2.2.2.2.2.2.2.2.2.2.2.2.2.2.2.2.2.2.1
theorem dLaw_law_1719 : decode cLaw_law 1719 = .ok (.iaload, 1) := zfLaw_law_1690.2.2.2.2.2.2.2.2.2.2.2.2.2.2.2.2.2.2.2.2.2.2.1
theorem dLaw_law_1720 : decode cLaw_law 1720 = .ok (.invokevirtual 284, 3) := zfLaw_law_1690.2.2.2.2.2.2.2.2.2.2.2.2.2.2.2.2.2.2.2.2.2.2.2.1
theorem dLaw_law_1723 : decode cLaw_law 1723 = .ok (.istore 6, 2) := zfLaw_law_1690.2.2.2.2.2.2.2.2.2.2.2.2.2.2.2.2.2.2.2.2.2.2.2.2.1
theorem dLaw_law_1725 : decode cLaw_law 1725 = .ok (.goto 413, 3) := zfLaw_law_1690.2.2.2.2.2.2.2.2.2.2.2.2.2.2.2.2.2.2.2.2.2.2.2.2.2.1
theorem dLaw_law_1728 : decode cLaw_law 1728 = .ok (.aload_n 1, 1) := zfLaw_law_1690.2.2.2.2.2.2.2.2.2.2.2.2.2.2.2.2.2.2.2.2.2.2.2.2.2.2.1
theorem dLaw_law_1729 : decode cLaw_law 1729 = .ok (.aload_n 0, 1) := zfLaw_law_1690.2.2.2.2.2.2.2.2.2.2.2.2.2.2.2.2.2.2.2.2.2.2.2.2.2.2.2.1
theorem dLaw_law_1730 : decode cLaw_law 1730 = .ok (.iload 4, 2) := zfLaw_law_1690.2.2.2.2.2.2.2.2.2.2.2.2.2.2.2.2.2.2.2.2.2.2.2.2.2.2.2.2.1
theorem dLaw_law_1732 : decode cLaw_law 1732 = .ok (.iconst 1, 1) := zfLaw_law_1690.2.2.2.2.2.2.2.2.2.2.2.2.2.2.2.2.2.2.2.2.2.2.2.2.2.2.2.2.2.1
theorem dLaw_law_1733 : decode cLaw_law 1733 = .ok (.iadd, 1) := zfLaw_law_1690.2.2.2.2.2.2.2.2.2.2.2.2.2.2.2.2.2.2.2.2.2.2.2.2.2.2.2.2.2.2.1
theorem dLaw_law_1734 : decode cLaw_law 1734 = .ok (.iaload, 1) := zfLaw_law_1690.2.2.2.2.2.2.2.2.2.2.2.2.2.2.2.2.2.2.2.2.2.2.2.2.2.2.2.2.2.2.2.1
theorem zfLaw_law_1735 : decode cLaw_law 1735 = .ok (.aload_n 0, 1) ∧ decode cLaw_law 1736 = .ok (.iload 4, 2) ∧ decode cLaw_law 1738 = .ok (.iconst 2, 1) ∧ decode cLaw_law 1739 = .ok (.iadd, 1) ∧ decode cLaw_law 1740 = .ok (.iaload, 1) ∧ decode cLaw_law 1741 = .ok (.aload_n 3, 1) ∧ decode cLaw_law 1742 = .ok (.invokestatic 285, 3) ∧ decode cLaw_law 1745 = .ok (.istore 5, 2) ∧ decode cLaw_law 1747 = .ok (.aload_n 2, 1) ∧ decode cLaw_law 1748 = .ok (.aload_n 0, 1) ∧ decode cLaw_law 1749 = .ok (.iload 4, 2) ∧ decode cLaw_law 1751 = .ok (.iconst 1, 1) ∧ decode cLaw_law 1752 = .ok (.iadd, 1) ∧ decode cLaw_law 1753 = .ok (.iaload, 1) ∧ decode cLaw_law 1754 = .ok (.aload_n 0, 1) ∧ decode cLaw_law 1755 = .ok (.iload 4, 2) ∧ decode cLaw_law 1757 = .ok (.iconst 2, 1) ∧ decode cLaw_law 1758 = .ok (.iadd, 1) ∧ decode cLaw_law 1759 = .ok (.iaload, 1) ∧ decode cLaw_law 1760 = .ok (.invokevirtual 287, 3) ∧ decode cLaw_law 1763 = .ok (.istore 6, 2) ∧ decode cLaw_law 1765 = .ok (.goto 373, 3) ∧ decode cLaw_law 1768 = .ok (.aload_n 1, 1) ∧ decode cLaw_law 1769 = .ok (.aload_n 0, 1) ∧ decode cLaw_law 1770 = .ok (.iload 4, 2) ∧ decode cLaw_law 1772 = .ok (.iconst 1, 1) ∧ decode cLaw_law 1773 = .ok (.iadd, 1) ∧ decode cLaw_law 1774 = .ok (.iaload, 1) ∧ decode cLaw_law 1775 = .ok (.aload_n 3, 1) ∧ decode cLaw_law 1776 = .ok (.invokestatic 288, 3) ∧ decode cLaw_law 1779 = .ok (.istore 5, 2) ∧ decode cLaw_law 1781 = .ok (.aload_n 2, 1) ∧ True := Jvm.Free.DS.facts (code := cLaw_law) 1735 [(.aload_n 0, 1), (.iload 4, 2), (.iconst 2, 1), (.iadd, 1), (.iaload, 1), (.aload_n 3, 1), (.invokestatic 285, 3), (.istore 5, 2), (.aload_n 2, 1), (.aload_n 0, 1), (.iload 4, 2), (.iconst 1, 1), (.iadd, 1), (.iaload, 1), (.aload_n 0, 1), (.iload 4, 2), (.iconst 2, 1), (.iadd, 1), (.iaload, 1), (.invokevirtual 287, 3), (.istore 6, 2), (.goto 373, 3), (.aload_n 1, 1), (.aload_n 0, 1), (.iload 4, 2), (.iconst 1, 1), (.iadd, 1), (.iaload, 1), (.aload_n 3, 1), (.invokestatic 288, 3), (.istore 5, 2), (.aload_n 2, 1)] (by decide +kernel) (by decide +kernel)
theorem dLaw_law_1735 : decode cLaw_law 1735 = .ok (.aload_n 0, 1) := zfLaw_law_1735.1
theorem dLaw_law_1736 : decode cLaw_law 1736 = .ok (.iload 4, 2) := zfLaw_law_1735.2.1
theorem dLaw_law_1738 : decode cLaw_law 1738 = .ok (.iconst 2, 1) := zfLaw_law_1735.2.2.1
theorem dLaw_law_1739 : decode cLaw_law 1739 = .ok (.iadd, 1) := zfLaw_law_1735.2.2.2.1
theorem dLaw_law_1740 : decode cLaw_law 1740 = .ok (.iaload, 1) := zfLaw_law_1735.2.2.2.2.1
theorem dLaw_law_1741 : decode cLaw_law 1741 = .ok (.aload_n 3, 1) := zfLaw_law_1735.2.2.2.2.2.1
theorem dLaw_law_1742 : decode cLaw_law 1742 = .ok (.invokestatic 285, 3) := zfLaw_law_1735.2.2.2.2.2.2.1
theorem dLaw_law_1745 : decode cLaw_law 1745 = .ok (.istore 5, 2) := zfLaw_law_1735.2.2.2.2.2.2.2.1
theorem dLaw_law_1747 : decode cLaw_law 1747 = .ok (.aload_n 2, 1) := zfLaw_law_1735.2.2.2.2.2.2.2.2.1
theorem dLaw_law_1748 : decode cLaw_law 1748 = .ok (.aload_n 0, 1) := zfLaw_law_1735.2.2.2.2.2.2.2.2.2.1
theorem dLaw_law_1749 : decode cLaw_law 1749 = .ok (.iload 4, 2) := zfLaw_law_1735.2.2.2.2.2.2.2.2.2.2.1
theorem dLaw_law_1751 : decode cLaw_law 1751 = .ok (.iconst 1, 1) := zfLaw_law_1735.2.2.2.2.2.2.2.2.2.2.2.1
theorem dLaw_law_1752 : decode cLaw_law 1752 = .ok (.iadd, 1) := zfLaw_law_1735.2.2.2.2.2.2.2.2.2.2.2.2.1
theorem dLaw_law_1753 : decode cLaw_law 1753 = .ok (.iaload, 1) := zfLaw_law_1735.2.2.2.2.2.2.2.2.2.2.2.2.2.1
theorem dLaw_law_1754 : decode cLaw_law 1754 = .ok (.aload_n 0, 1) := zfLaw_law_1735.2.2.2.2.2.2.2.2.2.2.2.2.2.2.1
theorem dLaw_law_1755 : decode cLaw_law 1755 = .ok (.iload 4, 2) := zfLaw_law_1735.2.2.2.2.2.2.2.2.2.2.2.2.2.2.2.1
theorem dLaw_law_1757 : decode cLaw_law 1757 = .ok (.iconst 2, 1) := zfLaw_law_1735.2.2.2.2.2.2.2.2.2.2.2.2.2.2.2.2.1
theorem dLaw_law_1758 : decode cLaw_law 1758 = .ok (.iadd, 1) := zfLaw_law_1735.2.2.2.2.2.2.2.2.2.2.2.2.2.2.2.2.2.1
theorem dLaw_law_1759 : decode cLaw_law 1759 = .ok (.iaload, 1) := zfLaw_law_1735.2.2.2.2.2.2.2.2.2.2.2.2.2.2.2.2.2.2.1
theorem dLaw_law_1760 : decode cLaw_law 1760 = .ok (.invokevirtual 287, 3) := zfLaw_law_1735.2.2.2.2.2.2.2.2.2.2.2.2.2.2.2.2.2.2.2.1
theorem dLaw_law_1763 : decode cLaw_law 1763 = .ok (.istore 6, 2) := zfLaw_law_1735.2.2.2.2.2.2.2.2.2.2.2.2.2.2.2.2.2.2.2.2.1
theorem dLaw_law_1765 : decode cLaw_law 1765 = .ok (.goto 373, 3) := zfLaw_law_1735.2.2.2.2.2.2.2.2.2.2.2.2.2.2.2.2.2.2.2.2.2.1
theorem dLaw_law_1768 : decode cLaw_law 1768 = .ok (.aload_n 1, 1) := zfLaw_law_1735.2.2.2.2.2.2.2.2.2.2.2.2.2.2.2.2.2.2.2.2.2.2.1
theorem dLaw_law_1769 : decode cLaw_law 1769 = .ok (.aload_n 0, 1) := zfLaw_law_1735.2.2.2.2.2.2.2.2.2.2.2.2.2.2.2.2.2.2.2.2.2.2.2.1
theorem dLaw_law_1770 : decode cLaw_law 1770 = .ok (.iload 4, 2) := zfLaw_law_1735.2.2.2.2.2.2.2.2.2.2.2.2.2.2.2.2.2.2.2.2.2.2.2.2.1
theorem dLaw_law_1772 : decode cLaw_law 1772 = .ok (.iconst 1, 1) := zfLaw_law_1735.2.2.2.2.2.2.2.2.2.2.2.2.2.2.2.2.2.2.2.2.2.2.2.2.2.1
theorem dLaw_law_1773 : decode cLaw_law 1773 = .ok (.iadd, 1) := zfLaw_law_1735.2.2.2.2.2.2.2.2.2.2.2.2.2.2.2.2.2.2.2.2.2.2.2.2.2.2.1
theorem dLaw_law_1774 : decode cLaw_law 1774 = .ok (.iaload, 1) := zfLaw_law_1735.2.2.2.2.2.2.2.2.2.2.2.2.2.2.2.2.2.2.2.2.2.2.2.2.2.2.2.1
theorem dLaw_law_1775 : decode cLaw_law 1775 = .ok (.aload_n 3, 1) := zfLaw_law_1735.2.2.2.2.2.2.2.2.2.2.2.2.2.2.2.2.2.2.2.2.2.2.2.2.2.2.2.2.1
theorem dLaw_law_1776 : decode cLaw_law 1776 = .ok (.invokestatic 288, 3) := zfLaw_law_1735.2.2.2.2.2.2.2.2.2.2.2.2.2.2.2.2.2.2.2.2.2.2.2.2.2.2.2.2.2.1
theorem dLaw_law_1779 : decode cLaw_law 1779 = .ok (.istore 5, 2) := zfLaw_law_1735.2.2.2.2.2.2.2.2.2.2.2.2.2.2.2.2.2.2.2.2.2.2.2.2.2.2.2.2.2.2.1
theorem dLaw_law_1781 : decode cLaw_law 1781 = .ok (.aload_n 2, 1) := zfLaw_law_1735.2.2.2.2.2.2.2.2.2.2.2.2.2.2.2.2.2.2.2.2.2.2.2.2.2.2.2.2.2.2.2.1
theorem zfLaw_law_1782 : decode cLaw_law 1782 = .ok (.aload_n 0, 1) ∧ decode cLaw_law 1783 = .ok (.iload 4, 2) ∧ decode cLaw_law 1785 = .ok (.iconst 1, 1) ∧ decode cLaw_law 1786 = .ok (.iadd, 1) ∧ decode cLaw_law 1787 = .ok (.iaload, 1) ∧ decode cLaw_law 1788 = .ok (.invokevirtual 290, 3) ∧ decode cLaw_law 1791 = .ok (.istore 6, 2) ∧ decode cLaw_law 1793 = .ok (.goto 345, 3) ∧ decode cLaw_law 1796 = .ok (.aload_n 1, 1) ∧ decode cLaw_law 1797 = .ok (.aload_n 0, 1) ∧ decode cLaw_law 1798 = .ok (.iload 4, 2) ∧ decode cLaw_law 1800 = .ok (.iconst 1, 1) ∧ decode cLaw_law 1801 = .ok (.iadd, 1) ∧ decode cLaw_law 1802 = .ok (.iaload, 1) ∧ decode cLaw_law 1803 = .ok (.aload_n 3, 1) ∧ decode cLaw_law 1804 = .ok (.invokestatic 291, 3) ∧ decode cLaw_law 1807 = .ok (.istore 5, 2) ∧ decode cLaw_law 1809 = .ok (.aload_n 2, 1) ∧ decode cLaw_law 1810 = .ok (.aload_n 0, 1) ∧ decode cLaw_law 1811 = .ok (.iload 4, 2) ∧ decode cLaw_law 1813 = .ok (.iconst 1, 1) ∧ decode cLaw_law 1814 = .ok (.iadd, 1) ∧ decode cLaw_law 1815 = .ok (.iaload, 1) ∧ decode cLaw_law 1816 = .ok (.invokevirtual 293, 3) ∧ decode cLaw_law 1819 = .ok (.istore 6, 2) ∧ decode cLaw_law 1821 = .ok (.goto 317, 3) ∧ decode cLaw_law 1824 = .ok (.aload_n 1, 1) ∧ decode cLaw_law 1825 = .ok (.aload_n 0, 1) ∧ decode cLaw_law 1826 = .ok (.iload 4, 2) ∧ decode cLaw_law 1828 = .ok (.iconst 1, 1) ∧ decode cLaw_law 1829 = .ok (.iadd, 1) ∧ decode cLaw_law 1830 = .ok (.iaload, 1) ∧ True := Jvm.Free.DS.facts (code := cLaw_law) 1782 [(.aload_n 0, 1), (.iload 4, 2), (.iconst 1, 1), (.iadd, 1), (.iaload, 1), (.invokevirtual 290, 3), (.istore 6, 2), (.goto 345, 3), (.aload_n 1, 1), (.aload_n 0, 1), (.iload 4, 2), (.iconst 1, 1), (.iadd, 1), (.iaload, 1), (.aload_n 3, 1), (.invokestatic 291, 3), (.istore 5, 2), (.aload_n 2, 1), (.aload_n 0, 1), (.iload 4, 2), (.iconst 1, 1), (.iadd, 1), (.iaload, 1), (.invokevirtual 293, 3), (.istore 6, 2), (.goto 317, 3), (.aload_n 1, 1), (.aload_n 0, 1), (.iload 4, 2), (.iconst 1, 1), (.iadd, 1), (.iaload, 1)] (by decide +kernel) (by decide +kernel)
theorem dLaw_law_1782 : decode cLaw_law 1782 = .ok (.aload_n 0, 1) := zfLaw_law_1782.1
theorem dLaw_law_1783 : decode cLaw_law 1783 = .ok (.iload 4, 2) := zfLaw_law_1782.2.1
theorem dLaw_law_1785 : decode cLaw_law 1785 = .ok (.iconst 1, 1) := zfLaw_law_1782.2.2.1
theorem dLaw_law_1786 : decode cLaw_law 1786 = .ok (.iadd, 1) := zfLaw_law_1782.2.2.2.1
theorem dLaw_law_1787 : decode cLaw_law 1787 = .ok (.iaload, 1) := zfLaw_law_1782.2.2.2.2.1
theorem dLaw_law_1788 : decode cLaw_law 1788 = .ok (.invokevirtual 290, 3) := zfLaw_law_1782.2.2.2.2.2.1
theorem dLaw_law_1791 : decode cLaw_law 1791 = .ok (.istore 6, 2) := zfLaw_law_1782.2.2.2.2.2.2.1
theorem dLaw_law_1793 : decode cLaw_law 1793 = .ok (.goto 345, 3) := zfLaw_law_1782.2.2.2.2.2.2.2.1
theorem dLaw_law_1796 : decode cLaw_law 1796 = .ok (.aload_n 1, 1) := zfLaw_law_1782.2.2.2.2.2.2.2.2.1
theorem dLaw_law_1797 : decode cLaw_law 1797 = .ok (.aload_n 0, 1) := zfLaw_law_1782.2.2.2.2.2.2.2.2.2.1
theorem dLaw_law_1798 : decode cLaw_law 1798 = .ok (.iload 4, 2) := zfLaw_law_1782.2.2.2.2.2.2.2.2.2.2.1
theorem dLaw_law_1800 : decode cLaw_law 1800 = .ok (.iconst 1, 1) := zfLaw_law_1782.2.2.2.2.2.2.2.2.2.2.2.1
theorem dLaw_law_1801 : decode cLaw_law 1801 = .ok (.iadd, 1) := zfLaw_law_1782.2.2.2.2.2.2.2.2.2.2.2.2.1
theorem dLaw_law_1802 : decode cLaw_law 1802 = .ok (.iaload, 1) := zfLaw_law_1782.2.2.2.2.2.2.2.2.2.2.2.2.2.1
theorem dLaw_law_1803 : decode cLaw_law 1803 = .ok (.aload_n 3, 1) := zfLaw_law_1782.2.2.2.2.2.2.2.2.2.2.2.2.2.2.1
theorem dLaw_law_1804 : decode cLaw_law 1804 = .ok (.invokestatic 291, 3) := zfLaw_law_1782.2.2.2.2.2.2.2.2.2.2.2.2.2.2.2.1
theorem dLaw_law_1807 : decode cLaw_law 1807 = .ok (.istore 5, 2) := zfLaw_law_1782.2.2.2.2.2.2.2.2.2.2.2.2.2.2.2.2.1
theorem dLaw_law_1809 : decode cLaw_law 1809 = .ok (.aload_n 2, 1) := zfLaw_law_1782.2.2.2.2.2.2.2.2.2.2.2.2.2.2.2.2.2.1
theorem dLaw_law_1810 : decode cLaw_law 1810 = .ok (.aload_n 0, 1) := zfLaw_law_1782.2.2.2.2.2.2.2.2.2.2.2.2.2.2.2.2.2.2.1
theorem dLaw_law_1811 : decode cLaw_law 1811 = .ok (.iload 4, 2) := zfLaw_law_1782.2.2.2.2.2.2.2.2.2.2.2.2.2.2.2.2.2.2.2.1
theorem dLaw_law_1813 : decode cLaw_law 1813 = .ok (.iconst 1, 1) := zfLaw_law_1782.2.2.2.2.2.2.2.2.2.2.2.2.2.2.2.2.2.2.2.2.1
theorem dLaw_law_1814 : decode cLaw_law 1814 = .ok (.iadd, 1) := zfLaw_law_1782.2.2.2.2.2.2.2.2.2.2.2.2.2.2.2.2.2.2.2.2.2.1
theorem dLaw_law_1815 : decode cLaw_law 1815 = .ok (.iaload, 1) := zfLaw_law_1782.2.2.2.2.2.2.2.2.2.2.2.2.2.2.2.2.2.2.2.2.2.2.1
theorem dLaw_law_1816 : decode cLaw_law 1816 = .ok (.invokevirtual 293, 3) := zfLaw_law_1782.2.2.2.2.2.2.2.2.2.2.2.2.2.2.2.2.2.2.2.2.2.2.2.1
theorem dLaw_law_1819 : decode cLaw_law 1819 = .ok (.istore 6, 2) := zfLaw_law_1782.2.2.2.2.2.2.2.2.2.2.2.2.2.2.2.2.2.2.2.2.2.2.2.2.1
theorem dLaw_law_1821 : decode cLaw_law 1821 = .ok (.goto 317, 3) := zfLaw_law_1782.2.2.2.2.2.2.2.2.2.2.2.2.2.2.2.2.2.2.2.2.2.2.2.2.2.1
theorem dLaw_law_1824 : decode cLaw_law 1824 = .ok (.aload_n 1, 1) := zfLaw_law_1782.2.2.2.2.2.2.2.2.2.2.2.2.2.2.2.2.2.2.2.2.2.2.2.2.2.2.1
theorem dLaw_law_1825 : decode cLaw_law 1825 = .ok (.aload_n 0, 1) := zfLaw_law_1782.2.2.2.2.2.2.2.2.2.2.2.2.2.2.2.2.2.2.2.2.2.2.2.2.2.2.2.1
theorem dLaw_law_1826 : decode cLaw_law 1826 = .ok (.iload 4, 2) := zfLaw_law_1782.2.2.2.2.2.2.2.2.2.2.2.2.2.2.2.2.2.2.2.2.2.2.2.2.2.2.2.2.1
theorem dLaw_law_1828 : decode cLaw_law 1828 = .ok (.iconst 1, 1) := zfLaw_law_1782.2.2.2.2.2.2.2.2.2.2.2.2.2.2.2.2.2.2.2.2.2.2.2.2.2.2.2.2.2.1
theorem dLaw_law_1829 : decode cLaw_law 1829 = .ok (.iadd, 1) := zfLaw_law_1782.2.2.2.2.2.2.2.2.2.2.2.2.2.2.2.2.2.2.2.2.2.2.2.2.2.2.2.2.2.2.1
theorem dLaw_law_1830 : decode cLaw_law 1830 = .ok (.iaload, 1) := zfLaw_law_1782.2.2.2.2.2.2.2.2.2.2.2.2.2.2.2.2.2.2.2.2.2.2.2.2.2.2.2.2.2.2.2.1
theorem zfLaw_law_1831 : decode cLaw_law 1831 = .ok (.aload_n 3, 1) ∧ decode cLaw_law 1832 = .ok (.invokestatic 294, 3) ∧ decode cLaw_law 1835 = .ok (.istore 5, 2) ∧ decode cLaw_law 1837 = .ok (.aload_n 2, 1) ∧ decode cLaw_law 1838 = .ok (.aload_n 0, 1) ∧ decode cLaw_law 1839 = .ok (.iload 4, 2) ∧ decode cLaw_law 1841 = .ok (.iconst 1, 1) ∧ decode cLaw_law 1842 = .ok (.iadd, 1) ∧ decode cLaw_law 1843 = .ok (.iaload, 1) ∧ decode cLaw_law 1844 = .ok (.invokevirtual 296, 3) ∧ decode cLaw_law 1847 = .ok (.istore 6, 2) ∧ decode cLaw_law 1849 = .ok (.goto 289, 3) ∧ decode cLaw_law 1852 = .ok (.aload_n 1, 1) ∧ decode cLaw_law 1853 = .ok (.aload_n 0, 1) ∧ decode cLaw_law 1854 = .ok (.iload 4, 2) ∧ decode cLaw_law 1856 = .ok (.iconst 1, 1) ∧ decode cLaw_law 1857 = .ok (.iadd, 1) ∧ decode cLaw_law 1858 = .ok (.iaload, 1) ∧ decode cLaw_law 1859 = .ok (.aload_n 0, 1) ∧ decode cLaw_law 1860 = .ok (.iload 4, 2) ∧ decode cLaw_law 1862 = .ok (.iconst 2, 1) ∧ decode cLaw_law 1863 = .ok (.iadd, 1) ∧ decode cLaw_law 1864 = .ok (.iaload, 1) ∧ decode cLaw_law 1865 = .ok (.aload_n 3, 1) ∧ decode cLaw_law 1866 = .ok (.invokestatic 297, 3) ∧ decode cLaw_law 1869 = .ok (.istore 5, 2) ∧ decode cLaw_law 1871 = .ok (.aload_n 2, 1) ∧ decode cLaw_law 1872 = .ok (.aload_n 0, 1) ∧ decode cLaw_law 1873 = .ok (.iload 4, 2) ∧ decode cLaw_law 1875 = .ok (.iconst 1, 1) ∧ decode cLaw_law 1876 = .ok (.iadd, 1) ∧ decode cLaw_law 1877 = .ok (.iaload, 1) ∧ True := Jvm.Free.DS.facts (code := cLaw_law) 1831 [(.aload_n 3, 1), (.invokestatic 294, 3), (.istore 5, 2), (.aload_n 2, 1), (.aload_n 0, 1), (.iload 4, 2), (.iconst 1, 1), (.iadd, 1), (.iaload, 1), (.invokevirtual 296, 3), (.istore 6, 2), (.goto 289, 3), (.aload_n 1, 1), (.aload_n 0, 1), (.iload 4, 2), (.iconst 1, 1), (.iadd, 1), (.iaload, 1), (.aload_n 0, 1), (.iload 4, 2), (.iconst 2, 1), (.iadd, 1), (.iaload, 1), (.aload_n 3, 1), (.invokestatic 297, 3), (.istore 5, 2), (.aload_n 2, 1), (.aload_n 0, 1), (.iload 4, 2), (.iconst 1, 1), (.iadd, 1), (.iaload, 1)] (by decide +kernel) (by decide +kernel)
theorem dLaw_law_1831 : decode cLaw_law 1831 = .ok (.aload_n 3, 1) := zfLaw_law_1831.1
theorem dLaw_law_1832 : decode cLaw_law 1832 = .ok (.invokestatic 294, 3) := zfLaw_law_1831.2.1
theorem dLaw_law_1835 : decode cLaw_law 1835 = .ok (.istore 5, 2) := zfLaw_law_1831.2.2.1
theorem dLaw_law_1837 : decode cLaw_law 1837 = .ok (.aload_n 2, 1) := zfLaw_law_1831.2.2.2.1
theorem dLaw_law_1838 : decode cLaw_law 1838 = .ok (.aload_n 0, 1) := zfLaw_law_1831.2.2.2.2.1
theorem dLaw_law_1839 : decode cLaw_law 1839 = .ok (.iload 4, 2) := zfLaw_law_1831.2.2.2.2.2.1
theorem dLaw_law_1841 : decode cLaw_law 1841 = .ok (.iconst 1, 1) := zfLaw_law_1831.2.2.2.2.2.2.1
theorem dLaw_law_1842 : decode cLaw_law 1842 = .ok (.iadd, 1) := zfLaw_law_1831.2.2.2.2.2.2.2.1
theorem dLaw_law_1843 : decode cLaw_law 1843 = .ok (.iaload, 1) := zfLaw_law_1831.2.2.2.2.2.2.2.2.1
theorem dLaw_law_1844 : decode cLaw_law 1844 = .ok (.invokevirtual 296, 3) := zfLaw_law_1831.2.2.2.2.2.2.2.2.2.1
theorem dLaw_law_1847 : decode cLaw_law 1847 = .ok (.istore 6, 2) := zfLaw_law_1831.2.2.2.2.2.2.2.2.2.2.1
theorem dLaw_law_1849 : decode cLaw_law 1849 = .ok (.goto 289, 3) := zfLaw_law_1831.2.2.2.2.2.2.2.2.2.2.2.1
theorem dLaw_law_1852 : decode cLaw_law 1852 = .ok (.aload_n 1, 1) := zfLaw_law_1831.2.2.2.2.2.2.2.2.2.2.2.2.1
theorem dLaw_law_1853 : decode cLaw_law 1853 = .ok (.aload_n 0, 1) := zfLaw_law_1831.2.2.2.2.2.2.2.2.2.2.2.2.2.1
theorem dLaw_law_1854 : decode cLaw_law 1854 = .ok (.iload 4, 2) := zfLaw_law_1831.2.2.2.2.2.2.2.2.2.2.2.2.2.2.1
theorem dLaw_law_1856 : decode cLaw_law 1856 = .ok (.iconst 1, 1) := zfLaw_law_1831.2.2.2.2.2.2.2.2.2.2.2.2.2.2.2.1
theorem dLaw_law_1857 : decode cLaw_law 1857 = .ok (.iadd, 1) := zfLaw_law_1831.2.2.2.2.2.2.2.2.2.2.2.2.2.2.2.2.1
theorem dLaw_law_1858 : decode cLaw_law 1858 = .ok (.iaload, 1) := zfLaw_law_1831.2.2.2.2.2.2.2.2.2.2.2.2.2.2.2.2.2.1
theorem dLaw_law_1859 : decode cLaw_law 1859 = .ok (.aload_n 0, 1) := zfLaw_law_1831.2.2.2.2.2.2.2.2.2.2.2.2.2.2.2.2.2.2.1
theorem dLaw_law_1860 : decode cLaw_law 1860 = .ok (.iload 4, 2) := zfLaw_law_1831.2.2.2.2.2.2.2.2.2.2.2.2.2.2.2.2.2.2.2.1
theorem dLaw_law_1862 : decode cLaw_law 1862 = .ok (.iconst 2, 1) := zfLaw_law_1831.2.2.2.2.2.2.2.2.2.2.2.2.2.2.2.2.2.2.2.2.1
theorem dLaw_law_1863 : decode cLaw_law 1863 = .ok (.iadd, 1) := zfLaw_law_1831.2.2.2.2.2.2.2.2.2.2.2.2.2.2.2.2.2.2.2.2.2.1
theorem dLaw_law_1864 : decode cLaw_law 1864 = .ok (.iaload, 1) := zfLaw_law_1831.2.2.2.2.2.2.2.2.2.2.2.2.2.2.2.2.2.2.2.2.2.2.1
theorem dLaw_law_1865 : decode cLaw_law 1865 = .ok (.aload_n 3, 1) := zfLaw_law_1831.2.2.2.2.2.2.2.2.2.2.2.2.2.2.2.2.2.2.2.2.2.2.2.1
theorem dLaw_law_1866 : decode cLaw_law 1866 = .ok (.invokestatic 297, 3) := zfLaw_law_1831.2.2.2.2.2.2.2.2.2.2.2.2.2.2.2.2.2.2.2.2.2.2.2.2.1
theorem dLaw_law_1869 : decode cLaw_law 1869 = .ok (.istore 5, 2) := zfLaw_law_1831.2.2.2.2.2.2.2.2.2.2.2.2.2.2.2.2.2.2.2.2.2.2.2.2.2.1
theorem dLaw_law_1871 : decode cLaw_law 1871 = .ok (.aload_n 2, 1) := zfLaw_law_1831.2.2.2.2.2.2.2.2.2.2.2.2.2.2.2.2.2.2.2.2.2.2.2.2.2.2.1
theorem dLaw_law_1872 : decode cLaw_law 1872 = .ok (.aload_n 0, 1) := zfLaw_law_1831.2.2.2.2.2.2.2.2.2.2.2.2.2.2.2.2.2.2.2.2.2.2.2.2.2.2.2.1
theorem dLaw_law_1873 : decode cLaw_law 1873 = .ok (.iload 4, 2) := zfLaw_law_1831.2.2.2.2.2.2.2.2.2.2.2.2.2.2.2.2.2.2.2.2.2.2.2.2.2.2.2.2.1
theorem dLaw_law_1875 : decode cLaw_law 1875 = .ok (.iconst 1, 1) := zfLaw_law_1831.2.2.2.2.2.2.2.2.2.2.2.2.2.2.2.2.2.2.2.2.2.2.2.2.2.2.2.2.2.1
theorem dLaw_law_1876 : decode cLaw_law 1876 = .ok (.iadd, 1) := zfLaw_law_1831.2.2.2.2.2.2.2.2.2.2.2.2.2.2.2.2.2.2.2.2.2.2.2.2.2.2.2.2.2.2.1
theorem dLaw_law_1877 : decode cLaw_law 1877 = .ok (.iaload, 1) := zfLaw_law_1831.2.2.2.2.2.2.2.2.2.2.2.2.2.2.2.2.2.2.2.2.2.2.2.2.2.2.2.2.2.2.2.1
theorem zfLaw_law_1878 : decode cLaw_law 1878 = .ok (.aload_n 0, 1) ∧ decode cLaw_law 1879 = .ok (.iload 4, 2) ∧ decode cLaw_law 1881 = .ok (.iconst 2, 1) ∧ decode cLaw_law 1882 = .ok (.iadd, 1) ∧ decode cLaw_law 1883 = .ok (.iaload, 1) ∧ decode cLaw_law 1884 = .ok (.invokevirtual 299, 3) ∧ decode cLaw_law 1887 = .ok (.istore 6, 2) ∧ decode cLaw_law 1889 = .ok (.goto 249, 3) ∧ decode cLaw_law 1892 = .ok (.aload_n 1, 1) ∧ decode cLaw_law 1893 = .ok (.aload_n 0, 1) ∧ decode cLaw_law 1894 = .ok (.iload 4, 2) ∧ decode cLaw_law 1896 = .ok (.iconst 1, 1) ∧ decode cLaw_law 1897 = .ok (.iadd, 1) ∧ decode cLaw_law 1898 = .ok (.iaload, 1) ∧ decode cLaw_law 1899 = .ok (.aload_n 3, 1) ∧ decode cLaw_law 1900 = .ok (.invokestatic 300, 3) ∧ decode cLaw_law 1903 = .ok (.istore 5, 2) ∧ decode cLaw_law 1905 = .ok (.aload_n 2, 1) ∧ decode cLaw_law 1906 = .ok (.aload_n 0, 1) ∧ decode cLaw_law 1907 = .ok (.iload 4, 2) ∧ decode cLaw_law 1909 = .ok (.iconst 1, 1) ∧ decode cLaw_law 1910 = .ok (.iadd, 1) ∧ decode cLaw_law 1911 = .ok (.iaload, 1) ∧ decode cLaw_law 1912 = .ok (.invokevirtual 302, 3) ∧ decode cLaw_law 1915 = .ok (.istore 6, 2) ∧ decode cLaw_law 1917 = .ok (.goto 221, 3) ∧ decode cLaw_law 1920 = .ok (.aload_n 1, 1) ∧ decode cLaw_law 1921 = .ok (.aload_n 0, 1) ∧ decode cLaw_law 1922 = .ok (.iload 4, 2) ∧ decode cLaw_law 1924 = .ok (.iconst 1, 1) ∧ decode cLaw_law 1925 = .ok (.iadd, 1) ∧ decode cLaw_law 1926 = .ok (.iaload, 1) ∧ True := Jvm.Free.DS.facts (code := cLaw_law) 1878 [(.aload_n 0, 1), (.iload 4, 2), (.iconst 2, 1), (.iadd, 1), (.iaload, 1), (.invokevirtual 299, 3), (.istore 6, 2), (.goto 249, 3), (.aload_n 1, 1), (.aload_n 0, 1), (.iload 4, 2), (.iconst 1, 1), (.iadd, 1), (.iaload, 1), (.aload_n 3, 1), (.invokestatic 300, 3), (.istore 5, 2), (.aload_n 2, 1), (.aload_n 0, 1), (.iload 4, 2), (.iconst 1, 1), (.iadd, 1), (.iaload, 1), (.invokevirtual 302, 3), (.istore 6, 2), (.goto 221, 3), (.aload_n 1, 1), (.aload_n 0, 1), (.iload 4, 2), (.iconst 1, 1), (.iadd, 1), (.iaload, 1)] (by decide +kernel) (by decide +kernel)
theorem dLaw_law_1878 : decode cLaw_law 1878 = .ok (.aload_n 0, 1) := zfLaw_law_1878.1
theorem dLaw_law_1879 : decode cLaw_law 1879 = .ok (.iload 4, 2) := zfLaw_law_1878.2.1
theorem dLaw_law_1881 : decode cLaw_law 1881 = .ok (.iconst 2, 1) := zfLaw_law_1878.2.2.1
theorem dLaw_law_1882 : decode cLaw_law 1882 = .ok (.iadd, 1) := zfLaw_law_1878.2.2.2.1
theorem dLaw_law_1883 : decode cLaw_law 1883 = .ok (.iaload, 1) := zfLaw_law_1878.2.2.2.2.1
theorem dLaw_law_1884 : decode cLaw_law 1884 = .ok (.invokevirtual 299, 3) := zfLaw_law_1878.2.2.2.2.2.1
theorem dLaw_law_1887 : decode cLaw_law 1887 = .ok (.istore 6, 2) := zfLaw_law_1878.2.2.2.2.2.2.1
theorem dLaw_law_1889 : decode cLaw_law 1889 = .ok (.goto 249, 3) := zfLaw_law_1878.2.2.2.2.2.2.2.1
theorem dLaw_law_1892 : decode cLaw_law 1892 = .ok (.aload_n 1, 1) := zfLaw_law_1878.2.2.2.2.2.2.2.2.1
theorem dLaw_law_1893 : decode cLaw_law 1893 = .ok (.aload_n 0, 1) := zfLaw_law_1878.2.2.2.2.2.2.2.2.2.1
theorem dLaw_law_1894 : decode cLaw_law 1894 = .ok (.iload 4, 2) := zfLaw_law_1878.2.2.2.2.2.2.2.2.2.2.1
theorem dLaw_law_1896 : decode cLaw_law 1896 = .ok (.iconst 1, 1) := zfLaw_law_1878.2.2.2.2.2.2.2.2.2.2.2.1
theorem dLaw_law_1897 : decode cLaw_law 1897 = .ok (.iadd, 1) := zfLaw_law_1878.2.2.2.2.2.2.2.2.2.2.2.2.1
theorem dLaw_law_1898 : decode cLaw_law 1898 = .ok (.iaload, 1) := zfLaw_law_1878.2.2.2.2.2.2.2.2.2.2.2.2.2.1
theorem dLaw_law_1899 : decode cLaw_law 1899 = .ok (.aload_n 3, 1) := zfLaw_law_1878.2.2.2.2.2.2.2.2.2.2.2.2.2.2.1
theorem dLaw_law_1900 : decode cLaw_law 1900 = .ok (.invokestatic 300, 3) := zfLaw_law_1878.2.2.2.2.2.2.2.2.2.2.2.2.2.2.2.1
theorem dLaw_law_1903 : decode cLaw_law 1903 = .ok (.istore 5, 2) := zfLaw_law_1878.2.2.2.2.2.2.2.2.2.2.2.2.2.2.2.2.1
theorem dLaw_law_1905 : decode cLaw_law 1905 = .ok (.aload_n 2, 1) := zfLaw_law_1878.2.2.2.2.2.2.2.2.2.2.2.2.2.2.2.2.2.1
theorem dLaw_law_1906 : decode cLaw_law 1906 = .ok (.aload_n 0, 1) := zfLaw_law_1878.2.2.2.2.2.2.2.2.2.2.2.2.2.2.2.2.2.2.1
theorem dLaw_law_1907 : decode cLaw_law 1907 = .ok (.iload 4, 2) := zfLaw_law_1878.2.2.2.2.2.2.2.2.2.2.2.2.2.2.2.2.2.2.2.1
theorem dLaw_law_1909 : decode cLaw_law 1909 = .ok (.iconst 1, 1) := zfLaw_law_1878.2.2.2.2.2.2.2.2.2.2.2.2.2.2.2.2.2.2.2.2.1
theorem dLaw_law_1910 : decode cLaw_law 1910 = .ok (.iadd, 1) := zfLaw_law_1878.2.2.2.2.2.2.2.2.2.2.2.2.2.2.2.2.2.2.2.2.2.1
theorem dLaw_law_1911 : decode cLaw_law 1911 = .ok (.iaload, 1) := zfLaw_law_1878.2.2.2.2.2.2.2.2.2.2.2.2.2.2.2.2.2.2.2.2.2.2.1
theorem dLaw_law_1912 : decode cLaw_law 1912 = .ok (.invokevirtual 302, 3) := zfLaw_law_1878.2.2.2.2.2.2.2.2.2.2.2.2.2.2.2.2.2.2.2.2.2.2.2.1
theorem dLaw_law_1915 : decode cLaw_law 1915 = .ok (.istore 6, 2) := zfLaw_law_1878.2.2.2.2.2.2.2.2.2.2.2.2.2.2.2.2.2.2.2.2.2.2.2.2.1
theorem dLaw_law_1917 : decode cLaw_law 1917 = .ok (.goto 221, 3) := zfLaw_law_1878.2.2.2.2.2.2.2.2.2.2.2.2.2.2.2.2.2.2.2.2.2.2.2.2.2.1
theorem dLaw_law_1920 : decode cLaw_law 1920 = .ok (.aload_n 1, 1) := zfLaw_law_1878.2.2.2.2.2.2.2.2.2.2.2.2.2.2.2.2.2.2.2.2.2.2.2.2.2.2.1
theorem dLaw_law_1921 : decode cLaw_law 1921 = .ok (.aload_n 0, 1) := zfLaw_law_1878.2.2.2.2.2.2.2.2.2.2.2.2.2.2.2.2.2.2.2.2.2.2.2.2.2.2.2.1
theorem dLaw_law_1922 : decode cLaw_law 1922 = .ok (.iload 4, 2) := zfLaw_law_1878.2.2.2.2.2.2.2.2.2.2.2.2.2.2.2.2.2.2.2.2.2.2.2.2.2.2.2.2.1
theorem dLaw_law_1924 : decode cLaw_law 1924 = .ok (.iconst 1, 1) := zfLaw_law_1878.2.2.2.2.2.2.2.2.2.2.2.2.2.2.2.2.2.2.2.2.2.2.2.2.2.2.2.2.2.1
theorem dLaw_law_1925 : decode cLaw_law 1925 = .ok (.iadd, 1) := zfLaw_law_1878.2.2.2.2.2.2.2.2.2.2.2.2.2.2.2.2.2.2.2.2.2.2.2.2.2.2.2.2.2.2.1
theorem dLaw_law_1926 : decode cLaw_law 1926 = .ok (.iaload, 1) := zfLaw_law_1878.2.2.2.2.2.2.2.2.2.2.2.2.2.2.2.2.2.2.2.2.2.2.2.2.2.2.2.2.2.2.2.1
theorem zfLaw_law_1927 : decode cLaw_law 1927 = .ok (.aload_n 3, 1) ∧ decode cLaw_law 1928 = .ok (.invokestatic 303, 3) ∧ decode cLaw_law 1931 = .ok (.istore 5, 2) ∧ decode cLaw_law 1933 = .ok (.aload_n 2, 1) ∧ decode cLaw_law 1934 = .ok (.aload_n 0, 1) ∧ decode cLaw_law 1935 = .ok (.iload 4, 2) ∧ decode cLaw_law 1937 = .ok (.iconst 1, 1) ∧ decode cLaw_law 1938 = .ok (.iadd, 1) ∧ decode cLaw_law 1939 = .ok (.iaload, 1) ∧ decode cLaw_law 1940 = .ok (.invokevirtual 305, 3) ∧ decode cLaw_law 1943 = .ok (.istore 6, 2) ∧ decode cLaw_law 1945 = .ok (.goto 193, 3) ∧ decode cLaw_law 1948 = .ok (.aload_n 1, 1) ∧ decode cLaw_law 1949 = .ok (.invokevirtual 306, 3) ∧ decode cLaw_law 1952 = .ok (.pop, 1) ∧ decode cLaw_law 1953 = .ok (.aload_n 2, 1) ∧ decode cLaw_law 1954 = .ok (.invokevirtual 310, 3) ∧ decode cLaw_law 1957 = .ok (.pop, 1) ∧ decode cLaw_law 1958 = .ok (.goto 180, 3) ∧ decode cLaw_law 1961 = .ok (.aload_n 1, 1) ∧ decode cLaw_law 1962 = .ok (.aload_n 0, 1) ∧ decode cLaw_law 1963 = .ok (.iload 4, 2) ∧ decode cLaw_law 1965 = .ok (.iconst 1, 1) ∧ decode cLaw_law 1966 = .ok (.iadd, 1) ∧ decode cLaw_law 1967 = .ok (.iaload, 1) ∧ decode cLaw_law 1968 = .ok (.aload_n 3, 1) ∧ decode cLaw_law 1969 = .ok (.invokestatic 311, 3) ∧ decode cLaw_law 1972 = .ok (.istore 5, 2) ∧ decode cLaw_law 1974 = .ok (.aload_n 2, 1) ∧ decode cLaw_law 1975 = .ok (.aload_n 0, 1) ∧ decode cLaw_law 1976 = .ok (.iload 4, 2) ∧ decode cLaw_law 1978 = .ok (.iconst 1, 1) ∧ True := Jvm.Free.DS.facts (code := cLaw_law) 1927 [(.aload_n 3, 1), (.invokestatic 303, 3), (.istore 5, 2), (.aload_n 2, 1), (.aload_n 0, 1), (.iload 4, 2), (.iconst 1, 1), (.iadd, 1), (.iaload, 1), (.invokevirtual 305, 3), (.istore 6, 2), (.goto 193, 3), (.aload_n 1, 1), (.invokevirtual 306, 3), (.pop, 1), (.aload_n 2, 1), (.invokevirtual 310, 3), (.pop, 1), (.goto 180, 3), (.aload_n 1, 1), (.aload_n 0, 1), (.iload 4, 2), (.iconst 1, 1), (.iadd, 1), (.iaload, 1), (.aload_n 3, 1), (.invokestatic 311, 3), (.istore 5, 2), (.aload_n 2, 1), (.aload_n 0, 1), (.iload 4, 2), (.iconst 1, 1)] (by decide +kernel) (by decide +kernel)
theorem dLaw_law_1927 : decode cLaw_law 1927 = .ok (.aload_n 3, 1) := zfLaw_law_1927.1
theorem dLaw_law_1928 : decode cLaw_law 1928 = .ok (.invokestatic 303, 3) := zfLaw_law_1927.2.1
theorem dLaw_law_1931 : decode cLaw_law 1931 = .ok (.istore 5, 2) := zfLaw_law_1927.2.2.1
theorem dLaw_law_1933 : decode cLaw_law 1933 = .ok (.aload_n 2, 1) := zfLaw_law_1927.2.2.2.1
theorem dLaw_law_1934 : decode cLaw_law 1934 = .ok (.aload_n 0, 1) := zfLaw_law_1927.2.2.2.2.1
theorem dLaw_law_1935 : decode cLaw_law 1935 = .ok (.iload 4, 2) := zfLaw_law_1927.2.2.2.2.2.1
theorem dLaw_law_1937 : decode cLaw_law 1937 = .ok (.iconst 1, 1) := zfLaw_law_1927.2.2.2.2.2.2.1
theorem dLaw_law_1938 : decode cLaw_law 1938 = .ok (.iadd, 1) := zfLaw_law_1927.2.2.2.2.2.2.2.1
theorem dLaw_law_1939 : decode cLaw_law 1939 = .ok (.iaload, 1) := zfLaw_law_1927.2.2.2.2.2.2.2.2.1
theorem dLaw_law_1940 : decode cLaw_law 1940 = .ok (.invokevirtual 305, 3) := zfLaw_law_1927.2.2.2.2.2.2.2.2.2.1
theorem dLaw_law_1943 : decode cLaw_law 1943 = .ok (.istore 6, 2) := zfLaw_law_1927.2.2.2.2.2.2.2.2.2.2.1
theorem dLaw_law_1945 : decode cLaw_law 1945 = .ok (.goto 193, 3) := zfLaw_law_1927.2.2.2.2.2.2.2.2.2.2.2.1
theorem dLaw_law_1948 : decode cLaw_law 1948 = .ok (.aload_n 1, 1) := zfLaw_law_1927.2.2.2.2.2.2.2.2.2.2.2.2.1
theorem dLaw_law_1949 : decode cLaw_law 1949 = .ok (.invokevirtual 306, 3) := zfLaw_law_1927.2.2.2.2.2.2.2.2.2.2.2.2.2.1
theorem dLaw_law_1952 : decode cLaw_law 1952 = .ok (.pop, 1) := zfLaw_law_1927.2.2.2.2.2.2.2.2.2.2.2.2.2.2.1
theorem dLaw_law_1953 : decode cLaw_law 1953 = .ok (.aload_n 2, 1) := zfLaw_law_1927.2.2.2.2.2.2.2.2.2.2.2.2.2.2.2.1
theorem dLaw_law_1954 : decode cLaw_law 1954 = .ok (.invokevirtual 310, 3) := zfLaw_law_1927.2.2.2.2.2.2.2.2.2.2.2.2.2.2.2.2.1
theorem dLaw_law_1957 : decode cLaw_law 1957 = .ok (.pop, 1) := zfLaw_law_1927.2.2.2.2.2.2.2.2.2.2.2.2.2.2.2.2.2.1
theorem dLaw_law_1958 : decode cLaw_law 1958 = .ok (.goto 180, 3) := zfLaw_law_1927.2.2.2.2.2.2.2.2.2.2.2.2.2.2.2.2.2.2.1
theorem dLaw_law_1961 : decode cLaw_law 1961 = .ok (.aload_n 1, 1) := zfLaw_law_1927.2.2.2.2.2.2.2.2.2.2.2.2.2.2.2.2.2.2.2.1
theorem dLaw_law_1962 : decode cLaw_law 1962 = .ok (.aload_n 0, 1) := zfLaw_law_1927.2.2.2.2.2.2.2.2.2.2.2.2.2.2.2.2.2.2.2.2.1
theorem dLaw_law_1963 : decode cLaw_law 1963 = .ok (.iload 4, 2) := zfLaw_law_1927.2.2.2.2.2.2.2.2.2.2.2.2.2.2.2.2.2.2.2.2.2.1
theorem dLaw_law_1965 : decode cLaw_law 1965 = .ok (.iconst 1, 1) := zfLaw_law_1927.2.2.2.2.2.2.2.2.2.2.2.2.2.2.2.2.2.2.2.2.2.2.1
theorem dLaw_law_1966 : decode cLaw_law 1966 = .ok (.iadd, 1) := zfLaw_law_1927.2.2.2.2.2.2.2.2.2.2.2.2.2.2.2.2.2.2.2.2.2.2.2.1
theorem dLaw_law_1967 : decode cLaw_law 1967 = .ok (.iaload, 1) := zfLaw_law_1927.2.2.2.2.2.2.2.2.2.2.2.2.2.2.2.2.2.2.2.2.2.2.2.2.1
theorem dLaw_law_1968 : decode cLaw_law 1968 = .ok (.aload_n 3, 1) := zfLaw_law_1927.2.2.2.2.2.2.2.2.2.2.2.2.2.2.2.2.2.2.2.2.2.2.2.2.2.1
theorem dLaw_law_1969 : decode cLaw_law 1969 = .ok (.invokestatic 311, 3) := zfLaw_law_1927.2.2.2.2.2.2.2.2.2.2.2.2.2.2.2.2.2.2.2.2.2.2.2.2.2.2.1
theorem dLaw_law_1972 : decode cLaw_law 1972 = .ok (.istore 5, 2) := zfLaw_law_1927.2.2.2.2.2.2.2.2.2.2.2.2.2.2.2.2.2.2.2.2.2.2.2.2.2.2.2.1
theorem dLaw_law_1974 : decode cLaw_law 1974 = .ok (.aload_n 2, 1) := zfLaw_law_1927.2.2.2.2.2.2.2.2.2.2.2.2.2.2.2.2.2.2.2.2.2.2.2.2.2.2.2.2.1
theorem dLaw_law_1975 : decode cLaw_law 1975 = .ok (.aload_n 0, 1) := zfLaw_law_1927.2.2.2.2.2.2.2.2.2.2.2.2.2.2.2.2.2.2.2.2.2.2.2.2.2.2.2.2.2.1
theorem dLaw_law_1976 : decode cLaw_law 1976 = .ok (.iload 4, 2) := zfLaw_law_1927.2.2.2.2.2.2.2.2.2.2.2.2.2.2.2.2.2.2.2.2.2.2.2.2.2.2.2.2.2.2.1
theorem dLaw_law_1978 : decode cLaw_law 1978 = .ok (.iconst 1, 1) := zfLaw_law_1927.2.2.2.2.2.2.2.2.2.2.2.2.2.2.2.2.2.2.2.2.2.2.2.2.2.2.2.2.2.2.2.1
theorem zfLaw_law_1979 : decode cLaw_law 1979 = .ok (.iadd, 1) ∧ decode cLaw_law 1980 = .ok (.iaload, 1) ∧ decode cLaw_law 1981 = .ok (.invokevirtual 313, 3) ∧ decode cLaw_law 1984 = .ok (.istore 6, 2) ∧ decode cLaw_law 1986 = .ok (.goto 152, 3) ∧ decode cLaw_law 1989 = .ok (.aload_n 1, 1) ∧ decode cLaw_law 1990 = .ok (.invokevirtual 314, 3) ∧ decode cLaw_law 1993 = .ok (.pop, 1) ∧ decode cLaw_law 1994 = .ok (.aload_n 2, 1) ∧ decode cLaw_law 1995 = .ok (.invokevirtual 318, 3) ∧ decode cLaw_law 1998 = .ok (.pop, 1) ∧ decode cLaw_law 1999 = .ok (.goto 139, 3) ∧ decode cLaw_law 2002 = .ok (.aload_n 1, 1) ∧ decode cLaw_law 2003 = .ok (.aload_n 0, 1) ∧ decode cLaw_law 2004 = .ok (.iload 4, 2) ∧ decode cLaw_law 2006 = .ok (.iconst 1, 1) ∧ decode cLaw_law 2007 = .ok (.iadd, 1) ∧ decode cLaw_law 2008 = .ok (.iaload, 1) ∧ decode cLaw_law 2009 = .ok (.aload_n 0, 1) ∧ decode cLaw_law 2010 = .ok (.iload 4, 2) ∧ decode cLaw_law 2012 = .ok (.iconst 2, 1) ∧ decode cLaw_law 2013 = .ok (.iadd, 1) ∧ decode cLaw_law 2014 = .ok (.iaload, 1) ∧ decode cLaw_law 2015 = .ok (.aload_n 3, 1) ∧ decode cLaw_law 2016 = .ok (.invokestatic 319, 3) ∧ decode cLaw_law 2019 = .ok (.istore 5, 2) ∧ decode cLaw_law 2021 = .ok (.aload_n 2, 1) ∧ decode cLaw_law 2022 = .ok (.aload_n 0, 1) ∧ decode cLaw_law 2023 = .ok (.iload 4, 2) ∧ decode cLaw_law 2025 = .ok (.iconst 1, 1) ∧ decode cLaw_law 2026 = .ok (.iadd, 1) ∧ decode cLaw_law 2027 = .ok (.iaload, 1) ∧ True := Jvm.Free.DS.facts (code := cLaw_law) 1979 [(.iadd, 1), (.iaload, 1), (.invokevirtual 313, 3), (.istore 6, 2), (.goto 152, 3), (.aload_n 1, 1), (.invokevirtual 314, 3), (.pop, 1), (.aload_n 2, 1), (.invokevirtual 318, 3), (.pop, 1), (.goto 139, 3), (.aload_n 1, 1), (.aload_n 0, 1), (.iload 4, 2), (.iconst 1, 1), (.iadd, 1), (.iaload, 1), (.aload_n 0, 1), (.iload 4, 2), (.iconst 2, 1), (.iadd, 1), (.iaload, 1), (.aload_n 3, 1), (.invokestatic 319, 3), (.istore 5, 2), (.aload_n 2, 1), (.aload_n 0, 1), (.iload 4, 2), (.iconst 1, 1), (.iadd, 1), (.iaload, 1)] (by decide +kernel) (by decide +kernel)
theorem dLaw_law_1979 : decode cLaw_law 1979 = .ok (.iadd, 1) := zfLaw_law_1979.1
theorem dLaw_law_1980 : decode cLaw_law 1980 = .ok (.iaload, 1) := zfLaw_law_1979.2.1
theorem dLaw_law_1981 : decode cLaw_law 1981 = .ok (.invokevirtual 313, 3) := zfLaw_law_1979.2.2.1
theorem dLaw_law_1984 : decode cLaw_law 1984 = .ok (.istore 6, 2) := zfLaw_law_1979.2.2.2.1
theorem dLaw_law_1986 : decode cLaw_law 1986 = .ok (.goto 152, 3) := zfLaw_law_1979.2.2.2.2.1
theorem dLaw_law_1989 : decode cLaw_law 1989 = .ok (.aload_n 1, 1) := zfLaw_law_1979.2.2.2.2.2.1
theorem dLaw_law_1990 : decode cLaw_law 1990 = .ok (.invokevirtual 314, 3) := zfLaw_law_1979.2.2.2.2.2.2.1
theorem dLaw_law_1993 : decode cLaw_law 1993 = .ok (.pop, 1) := zfLaw_law_1979.2.2.2.2.2.2.2.1
theorem dLaw_law_1994 : decode cLaw_law 1994 = .ok (.aload_n 2, 1) := zfLaw_law_1979.2.2.2.2.2.2.2.2.1
theorem dLaw_law_1995 : decode cLaw_law 1995 = .ok (.invokevirtual 318, 3) := zfLaw_law_1979.2.2.2.2.2.2.2.2.2.1
theorem dLaw_law_1998 : decode cLaw_law 1998 = .ok (.pop, 1) := zfLaw_law_1979.2.2.2.2.2.2.2.2.2.2.1
theorem dLaw_law_1999 : decode cLaw_law 1999 = .ok (.goto 139, 3) := zfLaw_law_1979.2.2.2.2.2.2.2.2.2.2.2.1
theorem dLaw_law_2002 : decode cLaw_law 2002 = .ok (.aload_n 1, 1) := zfLaw_law_1979.2.2.2.2.2.2.2.2.2.2.2.2.1
theorem dLaw_law_2003 : decode cLaw_law 2003 = .ok (.aload_n 0, 1) := zfLaw_law_1979.2.2.2.2.2.2.2.2.2.2.2.2.2.1
theorem dLaw_law_2004 : decode cLaw_law 2004 = .ok (.iload 4, 2) := zfLaw_law_1979.2.2.2.2.2.2.2.2.2.2.2.2.2.2.1
theorem dLaw_law_2006 : decode cLaw_law 2006 = .ok (.iconst 1, 1) := zfLaw_law_1979.2.2.2.2.2.2.2.2.2.2.2.2.2.2.2.1
theorem dLaw_law_2007 : decode cLaw_law 2007 = .ok (.iadd, 1) := zfLaw_law_1979.2.2.2.2.2.2.2.2.2.2.2.2.2.2.2.2.1
theorem dLaw_law_2008 : decode cLaw_law 2008 = .ok (.iaload, 1) := zfLaw_law_1979.2.2.2.2.2.2.2.2.2.2.2.2.2.2.2.2.2.1
theorem dLaw_law_2009 : decode cLaw_law 2009 = .ok (.aload_n 0, 1) := zfLaw_law_1979.2.2.2.2.2.2.2.2.2.2.2.2.2.2.2.2.2.2.1
theorem dLaw_law_2010 : decode cLaw_law 2010 = .ok (.iload 4, 2) := zfLaw_law_1979.2.2.2.2.2.2.2.2.2.2.2.2.2.2.2.2.2.2.2.1
theorem dLaw_law_2012 : decode cLaw_law 2012 = .ok (.iconst 2, 1) := zfLaw_law_1979.2.2.2.2.2.2.2.2.2.2.2.2.2.2.2.2.2.2.2.2.1
theorem dLaw_law_2013 : decode cLaw_law 2013 = .ok (.iadd, 1) := zfLaw_law_1979.2.2.2.2.2.2.2.2.2.2.2.2.2.2.2.2.2.2.2.2.2.1
theorem dLaw_law_2014 : decode cLaw_law 2014 = .ok (.iaload, 1) := zfLaw_law_1979.2.2.2.2.2.2.2.2.2.2.2.2.2.2.2.2.2.2.2.2.2.2.1
theorem dLaw_law_2015 : decode cLaw_law 2015 = .ok (.aload_n 3, 1) := zfLaw_law_1979.2.2.2.2.2.2.2.2.2.2.2.2.2.2.2.2.2.2.2.2.2.2.2.1
theorem dLaw_law_2016 : decode cLaw_law 2016 = .ok (.invokestatic 319, 3) := zfLaw_law_1979.2.2.2.2.2.2.2.2.2.2.2.2.2.2.2.2.2.2.2.2.2.2.2.2.1
theorem dLaw_law_2019 : decode cLaw_law 2019 = .ok (.istore 5, 2) := zfLaw_law_1979.2.2.2.2.2.2.2.2.2.2.2.2.2.2.2.2.2.2.2.2.2.2.2.2.2.1
theorem dLaw_law_2021 : decode cLaw_law 2021 = .ok (.aload_n 2, 1) := zfLaw_law_1979.2.2.2.2.2.2.2.2.2.2.2.2.2.2.2.2.2.2.2.2.2.2.2.2.2.2.1
theorem dLaw_law_2022 : decode cLaw_law 2022 = .ok (.aload_n 0, 1) := zfLaw_law_1979.2.2.2.2.2.2.2.2.2.2.2.2.2.2.2.2.2.2.2.2.2.2.2.2.2.2.2.1
theorem dLaw_law_2023 : decode cLaw_law 2023 = .ok (.iload 4, 2) := zfLaw_law_1979.2.2.2.2.2.2.2.2.2.2.2.2.2.2.2.2.2.2.2.2.2.2.2.2.2.2.2.2.1
theorem dLaw_law_2025 : decode cLaw_law 2025 = .ok (.iconst 1, 1) := zfLaw_law_1979.2.2.2.2.2.2.2.2.2.2.2.2.2.2.2.2.2.2.2.2.2.2.2.2.2.2.2.2.2.1
theorem dLaw_law_2026 : decode cLaw_law 2026 = .ok (.iadd, 1) := zfLaw_law_1979.2.2.2.2.2.2.2.2.2.2.2.2.2.2.2.2.2.2.2.2.2.2.2.2.2.2.2.2.2.2.1
theorem dLaw_law_2027 : decode cLaw_law 2027 = .ok (.iaload, 1) := zfLaw_law_1979.2.2.2.2.2.2.2.2.2.2.2.2.2.2.2.2.2.2.2.2.2.2.2.2.2.2.2.2.2.2.2.1
theorem zfLaw_law_2028 : decode cLaw_law 2028 = .ok (.aload_n 0, 1) ∧ decode cLaw_law 2029 = .ok (.iload 4, 2) ∧ decode cLaw_law 2031 = .ok (.iconst 2, 1) ∧ decode cLaw_law 2032 = .ok (.iadd, 1) ∧ decode cLaw_law 2033 = .ok (.iaload, 1) ∧ decode cLaw_law 2034 = .ok (.invokevirtual 321, 3) ∧ decode cLaw_law 2037 = .ok (.istore 6, 2) ∧ decode cLaw_law 2039 = .ok (.goto 99, 3) ∧ decode cLaw_law 2042 = .ok (.aload_n 1, 1) ∧ decode cLaw_law 2043 = .ok (.aload_n 0, 1) ∧ decode cLaw_law 2044 = .ok (.iload 4, 2) ∧ decode cLaw_law 2046 = .ok (.iconst 1, 1) ∧ decode cLaw_law 2047 = .ok (.iadd, 1) ∧ decode cLaw_law 2048 = .ok (.iaload, 1) ∧ decode cLaw_law 2049 = .ok (.aload_n 3, 1) ∧ decode cLaw_law 2050 = .ok (.invokestatic 322, 3) ∧ decode cLaw_law 2053 = .ok (.istore 5, 2) ∧ decode cLaw_law 2055 = .ok (.aload_n 2, 1) ∧ decode cLaw_law 2056 = .ok (.aload_n 0, 1) ∧ decode cLaw_law 2057 = .ok (.iload 4, 2) ∧ decode cLaw_law 2059 = .ok (.iconst 1, 1) ∧ decode cLaw_law 2060 = .ok (.iadd, 1) ∧ decode cLaw_law 2061 = .ok (.iaload, 1) ∧ decode cLaw_law 2062 = .ok (.invokevirtual 324, 3) ∧ decode cLaw_law 2065 = .ok (.istore 6, 2) ∧ decode cLaw_law 2067 = .ok (.aload_n 2, 1) ∧ decode cLaw_law 2068 = .ok (.invokevirtual 325, 3) ∧ decode cLaw_law 2071 = .ok (.iload 5, 2) ∧ decode cLaw_law 2073 = .ok (.if_icmp .eq 5, 3) ∧ decode cLaw_law 2076 = .ok (.iconst 0, 1) ∧ decode cLaw_law 2077 = .ok (.ireturn, 1) ∧ decode cLaw_law 2078 = .ok (.iload 5, 2) ∧ True := Jvm.Free.DS.facts (code := cLaw_law) 2028 [(.aload_n 0, 1), (.iload 4, 2), (.iconst 2, 1), (.iadd, 1), (.iaload, 1), (.invokevirtual 321, 3), (.istore 6, 2), (.goto 99, 3), (.aload_n 1, 1), (.aload_n 0, 1), (.iload 4, 2), (.iconst 1, 1), (.iadd, 1), (.iaload, 1), (.aload_n 3, 1), (.invokestatic 322, 3), (.istore 5, 2), (.aload_n 2, 1), (.aload_n 0, 1), (.iload 4, 2), (.iconst 1, 1), (.iadd, 1), (.iaload, 1), (.invokevirtual 324, 3), (.istore 6, 2), (.aload_n 2, 1), (.invokevirtual 325, 3), (.iload 5, 2), (.if_icmp .eq 5, 3), (.iconst 0, 1), (.ireturn, 1), (.iload 5, 2)] (by decide +kernel) (by decide +kernel)
theorem dLaw_law_2028 : decode cLaw_law 2028 = .ok (.aload_n 0, 1) := zfLaw_law_2028.1
theorem dLaw_law_2029 : decode cLaw_law 2029 = .ok (.iload 4, 2) := zfLaw_law_2028.2.1
theorem dLaw_law_2031 : decode cLaw_law 2031 = .ok (.iconst 2, 1) := zfLaw_law_2028.2.2.1
theorem dLaw_law_2032 : decode cLaw_law 2032 = .ok (.iadd, 1) := zfLaw_law_2028.2.2.2.1
theorem dLaw_law_2033 : decode cLaw_law 2033 = .ok (.iaload, 1) := zfLaw_law_2028.2.2.2.2.1
theorem dLaw_law_2034 : decode cLaw_law 2034 = .ok (.invokevirtual 321, 3) := zfLaw_law_2028.2.2.2.2.2.1
theorem dLaw_law_2037 : decode cLaw_law 2037 = .ok (.istore 6, 2) := zfLaw_law_2028.2.2.2.2.2.2.1
theorem dLaw_law_2039 : decode cLaw_law 2039 = .ok (.goto 99, 3) := zfLaw_law_2028.2.2.2.2.2.2.2.1
theorem dLaw_law_2042 : decode cLaw_law 2042 = .ok (.aload_n 1, 1) := zfLaw_law_2028.2.2.2.2.2.2.2.2.1
theorem dLaw_law_2043 : decode cLaw_law 2043 = .ok (.aload_n 0, 1) := zfLaw_law_2028.2.2.2.2.2.2.2.2.2.1
theorem dLaw_law_2044 : decode cLaw_law 2044 = .ok (.iload 4, 2) := zfLaw_law_2028.2.2.2.2.2.2.2.2.2.2.1
theorem dLaw_law_2046 : decode cLaw_law 2046 = .ok (.iconst 1, 1) := zfLaw_law_2028.2.2.2.2.2.2.2.2.2.2.2.1
theorem dLaw_law_2047 : decode cLaw_law 2047 = .ok (.iadd, 1) := zfLaw_law_2028.2.2.2.2.2.2.2.2.2.2.2.2.1
theorem dLaw_law_2048 : decode cLaw_law 2048 = .ok (.iaload, 1) := zfLaw_law_2028.2.2.2.2.2.2.2.2.2.2.2.2.2.1
theorem dLaw_law_2049 : decode cLaw_law 2049 = .ok (.aload_n 3, 1) := zfLaw_law_2028.2.2.2.2.2.2.2.2.2.2.2.2.2.2.1
theorem dLaw_law_2050 : decode cLaw_law 2050 = .ok (.invokestatic 322, 3) := zfLaw_law_2028.2.2.2.2.2.2.2.2.2.2.2.2.2.2.2.1
theorem dLaw_law_2053 : decode cLaw_law 2053 = .ok (.istore 5, 2) := zfLaw_law_2028.2.2.2.2.2.2.2.2.2.2.2.2.2.2.2.2.1
theorem dLaw_law_2055 : decode cLaw_law 2055 = .ok (.aload_n 2, 1) := zfLaw_law_2028.2.2.2.2.2.2.2.2.2.2.2.2.2.2.2.2.2.1
theorem dLaw_law_2056 : decode cLaw_law 2056 = .ok (.aload_n 0, 1) := zfLaw_law_2028.2.2.2.2.2.2.2.2.2.2.2.2.2.2.2.2.2.2.1
theorem dLaw_law_2057 : decode cLaw_law 2057 = .ok (.iload 4, 2) := zfLaw_law_2028.2.2.2.2.2.2.2.2.2.2.2.2.2.2.2.2.2.2.2.1
theorem dLaw_law_2059 : decode cLaw_law 2059 = .ok (.iconst 1, 1) := zfLaw_law_2028.2.2.2.2.2.2.2.2.2.2.2.2.2.2.2.2.2.2.2.2.1
theorem dLaw_law_2060 : decode cLaw_law 2060 = .ok (.iadd, 1) := zfLaw_law_2028.2.2.2.2.2.2.2.2.2.2.2.2.2.2.2.2.2.2.2.2.2.1
theorem dLaw_law_2061 : decode cLaw_law 2061 = .ok (.iaload, 1) := zfLaw_law_2028.2.2.2.2.2.2.2.2.2.2.2.2.2.2.2.2.2.2.2.2.2.2.1
theorem dLaw_law_2062 : decode cLaw_law 2062 = .ok (.invokevirtual 324, 3) := zfLaw_law_2028.2.2.2.2.2.2.2.2.2.2.2.2.2.2.2.2.2.2.2.2.2.2.2.1
theorem dLaw_law_2065 : decode cLaw_law 2065 = .ok (.istore 6, 2) := zfLaw_law_2028.2.2.2.2.2.2.2.2.2.2.2.2.2.2.2.2.2.2.2.2.2.2.2.2.1
theorem dLaw_law_2067 : decode cLaw_law 2067 = .ok (.aload_n 2, 1) := zfLaw_law_2028.2.2.2.2.2.2.2.2.2.2.2.2.2.2.2.2.2.2.2.2.2.2.2.2.2.1
theorem dLaw_law_2068 : decode cLaw_law 2068 = .ok (.invokevirtual 325, 3) := zfLaw_law_2028.2.2.2.2.2.2.2.2.2.2.2.2.2.2.2.2.2.2.2.2.2.2.2.2.2.2.1
theorem dLaw_law_2071 : decode cLaw_law 2071 = .ok (.iload 5, 2) := zfLaw_law_2028.2.2.2.2.2.2.2.2.2.2.2.2.2.2.2.2.2.2.2.2.2.2.2.2.2.2.2.1
theorem dLaw_law_2073 : decode cLaw_law 2073 = .ok (.if_icmp .eq 5, 3) := zfLaw_law_2028.2.2.2.2.2.2.2.2.2.2.2.2.2.2.2.2.2.2.2.2.2.2.2.2.2.2.2.2.1
theorem dLaw_law_2076 : decode cLaw_law 2076 = .ok (.iconst 0, 1) := zfLaw_law_2028.2.2.2.2.2.2.2.2.2.2.2.2.2.2.2.2.2.2.2.2.2.2.2.2.2.2.2.2.2.1
theorem dLaw_law_2077 : decode cLaw_law 2077 = .ok (.ireturn, 1) := zfLaw_law_2028.2.2.2.2.2.2.2.2.2.2.2.2.2.2.2.2.2.2.2.2.2.2.2.2.2.2.2.2.2.2.1
theorem dLaw_law_2078 : decode cLaw_law 2078 = .ok (.iload 5, 2) := zfLaw_law_2028.2.2.2.2.2.2.2.2.2.2.2.2.2.2.2.2.2.2.2.2.2.2.2.2.2.2.2.2.2.2.2.1
theorem zfLaw_law_2080 : decode cLaw_law 2080 = .ok (.ifCond .ne 16, 3) ∧ decode cLaw_law 2083 = .ok (.aload_n 3, 1) ∧ decode cLaw_law 2084 = .ok (.getfield 13, 3) ∧ decode cLaw_law 2087 = .ok (.iload 6, 2) ∧ decode cLaw_law 2089 = .ok (.i2l, 1) ∧ decode cLaw_law 2090 = .ok (.lcmp, 1) ∧ decode cLaw_law 2091 = .ok (.ifCond .eq 5, 3) ∧ decode cLaw_law 2094 = .ok (.iconst 0, 1) ∧ decode cLaw_law 2095 = .ok (.ireturn, 1) ∧ decode cLaw_law 2096 = .ok (.goto 42, 3) ∧ decode cLaw_law 2099 = .ok (.aload_n 1, 1) ∧ decode cLaw_law 2100 = .ok (.invokevirtual 328, 3) ∧ decode cLaw_law 2103 = .ok (.pop, 1) ∧ decode cLaw_law 2104 = .ok (.aload_n 2, 1) ∧ decode cLaw_law 2105 = .ok (.invokevirtual 331, 3) ∧ decode cLaw_law 2108 = .ok (.pop, 1) ∧ decode cLaw_law 2109 = .ok (.goto 29, 3) ∧ decode cLaw_law 2112 = .ok (.aload_n 1, 1) ∧ decode cLaw_law 2113 = .ok (.invokevirtual 332, 3) ∧ decode cLaw_law 2116 = .ok (.pop, 1) ∧ decode cLaw_law 2117 = .ok (.aload_n 2, 1) ∧ decode cLaw_law 2118 = .ok (.invokevirtual 336, 3) ∧ decode cLaw_law 2121 = .ok (.pop, 1) ∧ decode cLaw_law 2122 = .ok (.goto 16, 3) ∧ decode cLaw_law 2125 = .ok (.aload_n 1, 1) ∧ decode cLaw_law 2126 = .ok (.invokevirtual 337, 3) ∧ decode cLaw_law 2129 = .ok (.pop2, 1) ∧ decode cLaw_law 2130 = .ok (.aload_n 2, 1) ∧ decode cLaw_law 2131 = .ok (.invokevirtual 341, 3) ∧ decode cLaw_law 2134 = .ok (.pop2, 1) ∧ decode cLaw_law 2135 = .ok (.goto 3, 3) ∧ decode cLaw_law 2138 = .ok (.iinc 4 4, 3) ∧ True := Jvm.Free.DS.facts (code := cLaw_law) 2080 [(.ifCond .ne 16, 3), (.aload_n 3, 1), (.getfield 13, 3), (.iload 6, 2), (.i2l, 1), (.lcmp, 1), (.ifCond .eq 5, 3), (.iconst 0, 1), (.ireturn, 1), (.goto 42, 3), (.aload_n 1, 1), (.invokevirtual 328, 3), (.pop, 1), (.aload_n 2, 1), (.invokevirtual 331, 3), (.pop, 1), (.goto 29, 3), (.aload_n 1, 1), (.invokevirtual 332, 3), (.pop, 1), (.aload_n 2, 1), (.invokevirtual 336, 3), (.pop, 1), (.goto 16, 3), (.aload_n 1, 1), (.invokevirtual 337, 3), (.pop2, 1), (.aload_n 2, 1), (.invokevirtual 341, 3), (.pop2, 1), (.goto 3, 3), (.iinc 4 4, 3)] (by decide +kernel) (by decide +kernel)
theorem dLaw_law_2080 : decode cLaw_law 2080 = .ok (.ifCond .ne 16, 3) := zfLaw_law_2080.1
theorem dLaw_law_2083 : decode cLaw_law 2083 = .ok (.aload_n 3, 1) := zfLaw_law_2080.2.1
theorem dLaw_law_2084 : decode cLaw_law 2084 = .ok (.getfield 13, 3) := zfLaw_law_2080.2.2.1
theorem dLaw_law_2087 : decode cLaw_law 2087 = .ok (.iload 6, 2) := zfLaw_law_2080.2.2.2.1
theorem dLaw_law_2089 : decode cLaw_law 2089 = .ok (.i2l, 1) := zfLaw_law_2080.2.2.2.2.1
theorem dLaw_law_2090 : decode cLaw_law 2090 = .ok (.lcmp, 1) := zfLaw_law_2080.2.2.2.2.2.1
theorem dLaw_law_2091 : decode cLaw_law 2091 = .ok (.ifCond .eq 5, 3) := zfLaw_law_2080.2.2.2.2.2.2.1
theorem dLaw_law_2094 : decode cLaw_law 2094 = .ok (.iconst 0, 1) := zfLaw_law_2080.2.2.2.2.2.2.2.1
theorem dLaw_law_2095 : decode cLaw_law 2095 = .ok (.ireturn, 1) := zfLaw_law_2080.2.2.2.2.2.2.2.2.1
theorem dLaw_law_2096 : decode cLaw_law 2096 = .ok (.goto 42, 3) := zfLaw_law_2080.2.2.2.2.2.2.2.2.2.1
theorem dLaw_law_2099 : decode cLaw_law 2099 = .ok (.aload_n 1, 1) := zfLaw_law_2080.2.2.2.2.2.2.2.2.2.2.1
theorem dLaw_law_2100 : decode cLaw_law 2100 = .ok (.invokevirtual 328, 3) := zfLaw_law_2080.2.2.2.2.2.2.2.2.2.2.2.1
theorem dLaw_law_2103 : decode cLaw_law 2103 = .ok (.pop, 1) := zfLaw_law_2080.2.2.2.2.2.2.2.2.2.2.2.2.1
theorem dLaw_law_2104 : decode cLaw_law 2104 = .ok (.aload_n 2, 1) := zfLaw_law_2080.2.2.2.2.2.2.2.2.2.2.2.2.2.1
theorem dLaw_law_2105 : decode cLaw_law 2105 = .ok (.invokevirtual 331, 3) := zfLaw_law_2080.2.2.2.2.2.2.2.2.2.2.2.2.2.2.1
theorem dLaw_law_2108 : decode cLaw_law 2108 = .ok (.pop, 1) := zfLaw_law_2080.2.2.2.2.2.2.2.2.2.2.2.2.2.2.2.1
theorem dLaw_law_2109 : decode cLaw_law 2109 = .ok (.goto 29, 3) := zfLaw_law_2080.2.2.2.2.2.2.2.2.2.2.2.2.2.2.2.2.1
theorem dLaw_law_2112 : decode cLaw_law 2112 = .ok (.aload_n 1, 1) := zfLaw_law_2080.2.2.2.2.2.2.2.2.2.2.2.2.2.2.2.2.2.1
theorem dLaw_law_2113 : decode cLaw_law 2113 = .ok (.invokevirtual 332, 3) := zfLaw_law_2080.2.2.2.2.2.2.2.2.2.2.2.2.2.2.2.2.2.2.1
theorem dLaw_law_2116 : decode cLaw_law 2116 = .ok (.pop, 1) := zfLaw_law_2080.2.2.2.2.2.2.2.2.2.2.2.2.2.2.2.2.2.2.2.1
theorem dLaw_law_2117 : decode cLaw_law 2117 = .ok (.aload_n 2, 1) := zfLaw_law_2080.2.2.2.2.2.2.2.2.2.2.2.2.2.2.2.2.2.2.2.2.1
theorem dLaw_law_2118 : decode cLaw_law 2118 = .ok (.invokevirtual 336, 3) := zfLaw_law_2080.2.2.2.2.2.2.2.2.2.2.2.2.2.2.2.2.2.2.2.2.2.1
theorem dLaw_law_2121 : decode cLaw_law 2121 = .ok (.pop, 1) := zfLaw_law_2080.2.2.2.2.2.2.2.2.2.2.2.2.2.2.2.2.2.2.2.2.2.2.1
theorem dLaw_law_2122 : decode cLaw_law 2122 = .ok (.goto 16, 3) := zfLaw_law_2080.2.2.2.2.2.2.2.2.2.2.2.2.2.2.2.2.2.2.2.2.2.2.2.1
theorem dLaw_law_2125 : decode cLaw_law 2125 = .ok (.aload_n 1, 1) := zfLaw_law_2080.2.2.2.2.2.2.2.2.2.2.2.2.2.2.2.2.2.2.2.2.2.2.2.2.1
theorem dLaw_law_2126 : decode cLaw_law 2126 = .ok (.invokevirtual 337, 3) := zfLaw_law_2080.2.2.2.2.2.2.2.2.2.2.2.2.2.2.2.2.2.2.2.2.2.2.2.2.2.1
theorem dLaw_law_2129 : decode cLaw_law 2129 = .ok (.pop2, 1) := zfLaw_law_2080.2.2.2.2.2.2.2.2.2.2.2.2.2.2.2.2.2.2.2.2.2.2.2.2.2.2.1
theorem dLaw_law_2130 : decode cLaw_law 2130 = .ok (.aload_n 2, 1) := zfLaw_law_2080.2.2.2.2.2.2.2.2.2.2.2.2.2.2.2.2.2.2.2.2.2.2.2.2.2.2.2.1
theorem dLaw_law_2131 : decode cLaw_law 2131 = .ok (.invokevirtual 341, 3) := zfLaw_law_2080.2.2.2.2.2.2.2.2.2.2.2.2.2.2.2.2.2.2.2.2.2.2.2.2.2.2.2.2.1
theorem dLaw_law_2134 : decode cLaw_law 2134 = .ok (.pop2, 1) := zfLaw_law_2080.2.2.2.2.2.2.2.2.2.2.2.2.2.2.2.2.2.2.2.2.2.2.2.2.2.2.2.2.2.1
theorem dLaw_law_2135 : decode cLaw_law 2135 = .ok (.goto 3, 3) := zfLaw_law_2080.2.2.2.2.2.2.2.2.2.2.2.2.2.2.2.2.2.2.2.2.2.2.2.2.2.2.2.2.2.2.1
theorem dLaw_law_2138 : decode cLaw_law 2138 = .ok (.iinc 4 4, 3) := zfLaw_law_2080.2.2.2.2.2.2.2.2.2.2.2.2.2.2.2.2.2.2.2.2.2.2.2.2.2.2.2.2.2.2.2.1
theorem zfLaw_law_2141 : decode cLaw_law 2141 = .ok (.goto (-2114), 3) ∧ decode cLaw_law 2144 = .ok (.iconst 1, 1) ∧ decode cLaw_law 2145 = .ok (.ireturn, 1) ∧ True := Jvm.Free.DS.facts (code := cLaw_law) 2141 [(.goto (-2114), 3), (.iconst 1, 1), (.ireturn, 1)] (by decide +kernel) (by decide +kernel)
theorem dLaw_law_2141 : decode cLaw_law 2141 = .ok (.goto (-2114), 3) := zfLaw_law_2141.1
theorem dLaw_law_2144 : decode cLaw_law 2144 = .ok (.iconst 1, 1) := zfLaw_law_2141.2.1
theorem dLaw_law_2145 : decode cLaw_law 2145 = .ok (.ireturn, 1) := zfLaw_law_2141.2.2.1
end
section
section LAW3
variable {G : zG} {l : Launch} {h h' h0 h1 h2 : zHp} {ad ma ma2 : Nat → Nat} {S S' : zSt} {th : Int} {b L : Nat} {xs : Nat → Int32} {bc bs pc : Nat} {ls : List (Option Value)} {st : List Value}
theorem text_st {p n : Int} : (sp_text S p n).2 = S := by unfold sp_text; split <;> rfl
/-- what a case comes to: the state of both again -/
def zLK (G : zG) (l : Launch) (b L : Nat) (xs : Nat → Int32) (ad ma : Nat → Nat) (ou : Nat) (i : Int) (bc bs : Nat) : Prop := ∀ (bc' bs' : Nat) (h2 : zHp) (ma2 : Nat → Nat) (S2 : zSt) (y5 y6 : Option Value), zLi G h2 ad ma2 ou S2 → ma2 0 = ma 0 → bc ≤ bc' + 210 → bs ≤ bs' + 12100 → zR G l (zLJ G b L xs) bc' bs' h2 2138 [some (.ref b), some (.ref (ad 0)), some (.ref (ma 0)), some (.ref ou), some (zi i), y5, y6] []
theorem zSg_self (a : Int) : zSg a a = 0 := by unfold zSg; simp
theorem z_icmp_self {J : zJ} {a : Int} {off : Int} {tgt : Nat} (hd : decode J.1.2.1 pc = .ok (.if_icmp .eq off, 3)) (ht : (pc : Int) + off = (tgt : Int)) (k1 : zR G l J bc bs h tgt ls st) : zR G l J bc bs h pc ls (zi a :: zi a :: st) := by
  rw [zwd_i a]
  exact z_icmp_eq hd ht (zwd_r a) (zwd_r a) (fun _ => k1) (fun c => absurd rfl c)
theorem c_Law_0 {ou : Nat} {i : Int} {y5 y6 : Option Value} (I : zLi G h ad ma ou S) (hi : 0 ≤ i ∧ i + 4 ≤ L) (hb1 : 210 ≤ bc) (hb2 : 12100 ≤ bs) (K : zLK G l b L xs ad ma ou i bc bs) : zR G l (zLJ G b L xs) bc bs h 256 [some (.ref b), some (.ref (ad 0)), some (.ref (ma 0)), some (.ref ou), some (zi i), y5, y6] [] := by
  obtain ⟨th, n0, sv, hC, hM, hO, oka, eo, n1, n2, n3⟩ := I
  have h16 : ∀ k, k < 4 → (S.1 k).length ≤ 16 := fun k hk => (hC.ls hk).len
  have x1 := zX9_r (xs := xs) (i + 1)
  have x2 := zX9_r (xs := xs) (i + 2)
  have x3 := zX9_r (xs := xs) (i + 3)
  refine z_aload_n dLaw_law_256 rfl ?_
  refine z_aload_n dLaw_law_257 rfl ?_
  refine z_iload dLaw_law_258 rfl ?_
  refine z_iconst dLaw_law_260 ?_
  refine z_iadd dLaw_law_261 ?_
  refine z_sld (by omega) dLaw_law_262 ?_
  refine z_aload_n dLaw_law_263 rfl ?_
  refine z_iload dLaw_law_264 rfl ?_
  refine z_iconst dLaw_law_266 ?_
  refine z_iadd dLaw_law_267 ?_
  refine z_sld (by omega) dLaw_law_268 ?_
  refine z_aload_n dLaw_law_269 rfl ?_
  refine z_iload dLaw_law_270 rfl ?_
  refine z_iconst dLaw_law_272 ?_
  refine z_iadd dLaw_law_273 ?_
  refine z_sld (by omega) dLaw_law_274 ?_
  refine z_aload_n dLaw_law_275 rfl ?_
  refine z_callSX (bc' := bc - 6) (bs' := bs - 36) MW_Law_put lk_Law_173 dLaw_law_276 (k_Law_put hC (zX9_r (xs := xs) (i + 1)) (zX9_r (xs := xs) (i + 2)) (zX9_r (xs := xs) (i + 3)) eo n1) rfl rfl (Nat.le_of_ble_eq_true rfl) (Nat.le_of_ble_eq_true rfl) (Nat.le_of_ble_eq_true rfl) (by omega) (by omega) (fun _ _ q => q.elim) ?_
  rintro _ h1 ⟨k5, z5, sv5, rfl, C1, f1, eo1, e5⟩
  have H1 : zMod G h1 ma S th := hM.mid n2 n3 f1
  refine z_istore dLaw_law_279 (Nat.le_of_ble_eq_true rfl) ?_
  refine z_aload_n dLaw_law_281 rfl ?_
  refine z_aload_n dLaw_law_282 rfl ?_
  refine z_iload dLaw_law_283 rfl ?_
  refine z_iconst dLaw_law_285 ?_
  refine z_iadd dLaw_law_286 ?_
  refine z_sld (by omega) dLaw_law_287 ?_
  refine z_aload_n dLaw_law_288 rfl ?_
  refine z_iload dLaw_law_289 rfl ?_
  refine z_iconst dLaw_law_291 ?_
  refine z_iadd dLaw_law_292 ?_
  refine z_sld (by omega) dLaw_law_293 ?_
  refine z_aload_n dLaw_law_294 rfl ?_
  refine z_iload dLaw_law_295 rfl ?_
  refine z_iconst dLaw_law_297 ?_
  refine z_iadd dLaw_law_298 ?_
  refine z_sld (by omega) dLaw_law_299 ?_
  refine z_callV (bc' := bc - 6 - 1) (bs' := bs - 36 - 61) MV_Mod_put lk_Law_178 dLaw_law_300 (k_Mod_put H1 (zX9_r (xs := xs) (i + 1)) (zX9_r (xs := xs) (i + 2)) (zX9_r (xs := xs) (i + 3)) h16) rfl rfl (Nat.le_of_ble_eq_true rfl) rfl H1.2.1 (Nat.le_of_ble_eq_true rfl) (Nat.le_of_ble_eq_true rfl) (by omega) (by omega) (fun _ _ q => q.elim) ?_
  rintro _ h2 ⟨ma2, th2, z6, rfl, m0, H2, F2, A2, e6⟩
  refine z_istore dLaw_law_303 (Nat.le_of_ble_eq_true rfl) ?_
  refine z_goto (tgt := 2138) dLaw_law_305 (by decide) ?_
  exact K _ _ h2 ma2 _ _ _ (zLi.fin C1 eo1 n1 n2 n3 H2 F2 A2 (ok_put hO) (oka_put oka)) m0 (by omega) (by omega)
theorem c_Law_1 {ou : Nat} {i : Int} {y5 y6 : Option Value} (I : zLi G h ad ma ou S) (hi : 0 ≤ i ∧ i + 4 ≤ L) (hb1 : 210 ≤ bc) (hb2 : 12100 ≤ bs) (K : zLK G l b L xs ad ma ou i bc bs) : zR G l (zLJ G b L xs) bc bs h 308 [some (.ref b), some (.ref (ad 0)), some (.ref (ma 0)), some (.ref ou), some (zi i), y5, y6] [] := by
  obtain ⟨th, n0, sv, hC, hM, hO, oka, eo, n1, n2, n3⟩ := I
  have h16 : ∀ k, k < 4 → (S.1 k).length ≤ 16 := fun k hk => (hC.ls hk).len
  have x1 := zX9_r (xs := xs) (i + 1)
  have x2 := zX9_r (xs := xs) (i + 2)
  have x3 := zX9_r (xs := xs) (i + 3)
  refine z_aload_n dLaw_law_308 rfl ?_
  refine z_aload_n dLaw_law_309 rfl ?_
  refine z_iload dLaw_law_310 rfl ?_
  refine z_iconst dLaw_law_312 ?_
  refine z_iadd dLaw_law_313 ?_
  refine z_sld (by omega) dLaw_law_314 ?_
  refine z_aload_n dLaw_law_315 rfl ?_
  refine z_iload dLaw_law_316 rfl ?_
  refine z_iconst dLaw_law_318 ?_
  refine z_iadd dLaw_law_319 ?_
  refine z_sld (by omega) dLaw_law_320 ?_
  refine z_aload_n dLaw_law_321 rfl ?_
  refine z_callSX (bc' := bc - 6) (bs' := bs - 36) MW_Law_take lk_Law_179 dLaw_law_322 (k_Law_take hC (zX9_r (xs := xs) (i + 1)) (zX9_r (xs := xs) (i + 2)) eo n1) rfl rfl (Nat.le_of_ble_eq_true rfl) (Nat.le_of_ble_eq_true rfl) (Nat.le_of_ble_eq_true rfl) (by omega) (by omega) (fun _ _ q => q.elim) ?_
  rintro _ h1 ⟨k5, z5, sv5, rfl, C1, f1, eo1, e5⟩
  have H1 : zMod G h1 ma S th := hM.mid n2 n3 f1
  refine z_istore dLaw_law_325 (Nat.le_of_ble_eq_true rfl) ?_
  refine z_aload_n dLaw_law_327 rfl ?_
  refine z_aload_n dLaw_law_328 rfl ?_
  refine z_iload dLaw_law_329 rfl ?_
  refine z_iconst dLaw_law_331 ?_
  refine z_iadd dLaw_law_332 ?_
  refine z_sld (by omega) dLaw_law_333 ?_
  refine z_aload_n dLaw_law_334 rfl ?_
  refine z_iload dLaw_law_335 rfl ?_
  refine z_iconst dLaw_law_337 ?_
  refine z_iadd dLaw_law_338 ?_
  refine z_sld (by omega) dLaw_law_339 ?_
  refine z_callV (bc' := bc - 6 - 1) (bs' := bs - 36 - 60) MV_Mod_take lk_Law_182 dLaw_law_340 (k_Mod_take H1 (zX9_r (xs := xs) (i + 1)) (zX9_r (xs := xs) (i + 2)) h16) rfl rfl (Nat.le_of_ble_eq_true rfl) rfl H1.2.1 (Nat.le_of_ble_eq_true rfl) (Nat.le_of_ble_eq_true rfl) (by omega) (by omega) (fun _ _ q => q.elim) ?_
  rintro _ h2 ⟨ma2, th2, z6, rfl, m0, H2, F2, A2, e6⟩
  refine z_istore dLaw_law_343 (Nat.le_of_ble_eq_true rfl) ?_
  refine z_goto (tgt := 2138) dLaw_law_345 (by decide) ?_
  exact K _ _ h2 ma2 _ _ _ (zLi.fin C1 eo1 n1 n2 n3 H2 F2 A2 (ok_take hO) (oka_take oka)) m0 (by omega) (by omega)
theorem c_Law_2 {ou : Nat} {i : Int} {y5 y6 : Option Value} (I : zLi G h ad ma ou S) (hi : 0 ≤ i ∧ i + 4 ≤ L) (hb1 : 210 ≤ bc) (hb2 : 12100 ≤ bs) (K : zLK G l b L xs ad ma ou i bc bs) : zR G l (zLJ G b L xs) bc bs h 348 [some (.ref b), some (.ref (ad 0)), some (.ref (ma 0)), some (.ref ou), some (zi i), y5, y6] [] := by
  obtain ⟨th, n0, sv, hC, hM, hO, oka, eo, n1, n2, n3⟩ := I
  have h16 : ∀ k, k < 4 → (S.1 k).length ≤ 16 := fun k hk => (hC.ls hk).len
  have x1 := zX9_r (xs := xs) (i + 1)
  have x2 := zX9_r (xs := xs) (i + 2)
  have x3 := zX9_r (xs := xs) (i + 3)
  refine z_aload_n dLaw_law_348 rfl ?_
  refine z_aload_n dLaw_law_349 rfl ?_
  refine z_iload dLaw_law_350 rfl ?_
  refine z_iconst dLaw_law_352 ?_
  refine z_iadd dLaw_law_353 ?_
  refine z_sld (by omega) dLaw_law_354 ?_
  refine z_aload_n dLaw_law_355 rfl ?_
  refine z_iload dLaw_law_356 rfl ?_
  refine z_iconst dLaw_law_358 ?_
  refine z_iadd dLaw_law_359 ?_
  refine z_sld (by omega) dLaw_law_360 ?_
  refine z_aload_n dLaw_law_361 rfl ?_
  refine z_callSX (bc' := bc - 6) (bs' := bs - 36) MW_Law_look lk_Law_183 dLaw_law_362 (k_Law_look hC (zX9_r (xs := xs) (i + 1)) (zX9_r (xs := xs) (i + 2)) eo n1) rfl rfl (Nat.le_of_ble_eq_true rfl) (Nat.le_of_ble_eq_true rfl) (Nat.le_of_ble_eq_true rfl) (by omega) (by omega) (fun _ _ q => q.elim) ?_
  rintro _ h1 ⟨k5, z5, sv5, rfl, C1, f1, eo1, e5⟩
  have H1 : zMod G h1 ma S th := hM.mid n2 n3 f1
  refine z_istore dLaw_law_365 (Nat.le_of_ble_eq_true rfl) ?_
  refine z_aload_n dLaw_law_367 rfl ?_
  refine z_aload_n dLaw_law_368 rfl ?_
  refine z_iload dLaw_law_369 rfl ?_
  refine z_iconst dLaw_law_371 ?_
  refine z_iadd dLaw_law_372 ?_
  refine z_sld (by omega) dLaw_law_373 ?_
  refine z_aload_n dLaw_law_374 rfl ?_
  refine z_iload dLaw_law_375 rfl ?_
  refine z_iconst dLaw_law_377 ?_
  refine z_iadd dLaw_law_378 ?_
  refine z_sld (by omega) dLaw_law_379 ?_
  refine z_callV (bc' := bc - 6 - 0) (bs' := bs - 36 - 0) MV_Mod_look lk_Law_185 dLaw_law_380 (k_Mod_look H1 (zX9_r (xs := xs) (i + 1)) (zX9_r (xs := xs) (i + 2))) rfl rfl (Nat.le_of_ble_eq_true rfl) rfl H1.2.1 (Nat.le_of_ble_eq_true rfl) (Nat.le_of_ble_eq_true rfl) (by omega) (by omega) (fun _ _ q => q.elim) ?_
  rintro _ h2 ⟨ma2, th2, z6, rfl, m0, H2, F2, A2, e6⟩
  refine z_istore dLaw_law_383 (Nat.le_of_ble_eq_true rfl) ?_
  refine z_goto (tgt := 2138) dLaw_law_385 (by decide) ?_
  exact K _ _ h2 ma2 _ _ _ (zLi.fin C1 eo1 n1 n2 n3 H2 F2 A2 (ok_look hO) (oka_look oka)) m0 (by omega) (by omega)
theorem c_Law_3 {ou : Nat} {i : Int} {y5 y6 : Option Value} (I : zLi G h ad ma ou S) (hi : 0 ≤ i ∧ i + 4 ≤ L) (hb1 : 210 ≤ bc) (hb2 : 12100 ≤ bs) (K : zLK G l b L xs ad ma ou i bc bs) : zR G l (zLJ G b L xs) bc bs h 388 [some (.ref b), some (.ref (ad 0)), some (.ref (ma 0)), some (.ref ou), some (zi i), y5, y6] [] := by
  obtain ⟨th, n0, sv, hC, hM, hO, oka, eo, n1, n2, n3⟩ := I
  have h16 : ∀ k, k < 4 → (S.1 k).length ≤ 16 := fun k hk => (hC.ls hk).len
  have x1 := zX9_r (xs := xs) (i + 1)
  have x2 := zX9_r (xs := xs) (i + 2)
  have x3 := zX9_r (xs := xs) (i + 3)
  refine z_aload_n dLaw_law_388 rfl ?_
  refine z_aload_n dLaw_law_389 rfl ?_
  refine z_iload dLaw_law_390 rfl ?_
  refine z_iconst dLaw_law_392 ?_
  refine z_iadd dLaw_law_393 ?_
  refine z_sld (by omega) dLaw_law_394 ?_
  refine z_aload_n dLaw_law_395 rfl ?_
  refine z_iload dLaw_law_396 rfl ?_
  refine z_iconst dLaw_law_398 ?_
  refine z_iadd dLaw_law_399 ?_
  refine z_sld (by omega) dLaw_law_400 ?_
  refine z_aload_n dLaw_law_401 rfl ?_
  refine z_callSX (bc' := bc - 6) (bs' := bs - 36) MW_Law_get lk_Law_186 dLaw_law_402 (k_Law_get hC (zX9_r (xs := xs) (i + 1)) (zX9_r (xs := xs) (i + 2)) eo n1) rfl rfl (Nat.le_of_ble_eq_true rfl) (Nat.le_of_ble_eq_true rfl) (Nat.le_of_ble_eq_true rfl) (by omega) (by omega) (fun _ _ q => q.elim) ?_
  rintro _ h1 ⟨k5, z5, sv5, rfl, C1, f1, eo1, e5⟩
  have H1 : zMod G h1 ma S th := hM.mid n2 n3 f1
  refine z_istore dLaw_law_405 (Nat.le_of_ble_eq_true rfl) ?_
  refine z_aload_n dLaw_law_407 rfl ?_
  refine z_aload_n dLaw_law_408 rfl ?_
  refine z_iload dLaw_law_409 rfl ?_
  refine z_iconst dLaw_law_411 ?_
  refine z_iadd dLaw_law_412 ?_
  refine z_sld (by omega) dLaw_law_413 ?_
  refine z_aload_n dLaw_law_414 rfl ?_
  refine z_iload dLaw_law_415 rfl ?_
  refine z_iconst dLaw_law_417 ?_
  refine z_iadd dLaw_law_418 ?_
  refine z_sld (by omega) dLaw_law_419 ?_
  refine z_callV (bc' := bc - 6 - 0) (bs' := bs - 36 - 0) MV_Mod_get lk_Law_188 dLaw_law_420 (k_Mod_get H1 (zX9_r (xs := xs) (i + 1)) (zX9_r (xs := xs) (i + 2))) rfl rfl (Nat.le_of_ble_eq_true rfl) rfl H1.2.1 (Nat.le_of_ble_eq_true rfl) (Nat.le_of_ble_eq_true rfl) (by omega) (by omega) (fun _ _ q => q.elim) ?_
  rintro _ h2 ⟨ma2, th2, z6, rfl, m0, H2, F2, A2, e6⟩
  refine z_istore dLaw_law_423 (Nat.le_of_ble_eq_true rfl) ?_
  refine z_goto (tgt := 2138) dLaw_law_425 (by decide) ?_
  exact K _ _ h2 ma2 _ _ _ (zLi.fin C1 eo1 n1 n2 n3 H2 F2 A2 (ok_get hO) (oka_get oka)) m0 (by omega) (by omega)
theorem c_Law_4 {ou : Nat} {i : Int} {y5 y6 : Option Value} (I : zLi G h ad ma ou S) (hi : 0 ≤ i ∧ i + 4 ≤ L) (hb1 : 210 ≤ bc) (hb2 : 12100 ≤ bs) (K : zLK G l b L xs ad ma ou i bc bs) : zR G l (zLJ G b L xs) bc bs h 428 [some (.ref b), some (.ref (ad 0)), some (.ref (ma 0)), some (.ref ou), some (zi i), y5, y6] [] := by
  obtain ⟨th, n0, sv, hC, hM, hO, oka, eo, n1, n2, n3⟩ := I
  have h16 : ∀ k, k < 4 → (S.1 k).length ≤ 16 := fun k hk => (hC.ls hk).len
  have x1 := zX9_r (xs := xs) (i + 1)
  have x2 := zX9_r (xs := xs) (i + 2)
  have x3 := zX9_r (xs := xs) (i + 3)
  refine z_aload_n dLaw_law_428 rfl ?_
  refine z_aload_n dLaw_law_429 rfl ?_
  refine z_iload dLaw_law_430 rfl ?_
  refine z_iconst dLaw_law_432 ?_
  refine z_iadd dLaw_law_433 ?_
  refine z_sld (by omega) dLaw_law_434 ?_
  refine z_aload_n dLaw_law_435 rfl ?_
  refine z_iload dLaw_law_436 rfl ?_
  refine z_iconst dLaw_law_438 ?_
  refine z_iadd dLaw_law_439 ?_
  refine z_sld (by omega) dLaw_law_440 ?_
  refine z_aload_n dLaw_law_441 rfl ?_
  refine z_iload dLaw_law_442 rfl ?_
  refine z_iconst dLaw_law_444 ?_
  refine z_iadd dLaw_law_445 ?_
  refine z_sld (by omega) dLaw_law_446 ?_
  refine z_aload_n dLaw_law_447 rfl ?_
  refine z_callSX (bc' := bc - 6) (bs' := bs - 36) MW_Law_set lk_Law_189 dLaw_law_448 (k_Law_set hC (zX9_r (xs := xs) (i + 1)) (zX9_r (xs := xs) (i + 2)) (zX9_r (xs := xs) (i + 3)) eo n1) rfl rfl (Nat.le_of_ble_eq_true rfl) (Nat.le_of_ble_eq_true rfl) (Nat.le_of_ble_eq_true rfl) (by omega) (by omega) (fun _ _ q => q.elim) ?_
  rintro _ h1 ⟨k5, z5, sv5, rfl, C1, f1, eo1, e5⟩
  have H1 : zMod G h1 ma S th := hM.mid n2 n3 f1
  refine z_istore dLaw_law_451 (Nat.le_of_ble_eq_true rfl) ?_
  refine z_aload_n dLaw_law_453 rfl ?_
  refine z_aload_n dLaw_law_454 rfl ?_
  refine z_iload dLaw_law_455 rfl ?_
  refine z_iconst dLaw_law_457 ?_
  refine z_iadd dLaw_law_458 ?_
  refine z_sld (by omega) dLaw_law_459 ?_
  refine z_aload_n dLaw_law_460 rfl ?_
  refine z_iload dLaw_law_461 rfl ?_
  refine z_iconst dLaw_law_463 ?_
  refine z_iadd dLaw_law_464 ?_
  refine z_sld (by omega) dLaw_law_465 ?_
  refine z_aload_n dLaw_law_466 rfl ?_
  refine z_iload dLaw_law_467 rfl ?_
  refine z_iconst dLaw_law_469 ?_
  refine z_iadd dLaw_law_470 ?_
  refine z_sld (by omega) dLaw_law_471 ?_
  refine z_callV (bc' := bc - 6 - 0) (bs' := bs - 36 - 0) MV_Mod_set lk_Law_191 dLaw_law_472 (k_Mod_set H1 (zX9_r (xs := xs) (i + 1)) (zX9_r (xs := xs) (i + 2)) (zX9_r (xs := xs) (i + 3))) rfl rfl (Nat.le_of_ble_eq_true rfl) rfl H1.2.1 (Nat.le_of_ble_eq_true rfl) (Nat.le_of_ble_eq_true rfl) (by omega) (by omega) (fun _ _ q => q.elim) ?_
  rintro _ h2 ⟨ma2, th2, z6, rfl, m0, H2, F2, A2, e6⟩
  refine z_istore dLaw_law_475 (Nat.le_of_ble_eq_true rfl) ?_
  refine z_goto (tgt := 2138) dLaw_law_477 (by decide) ?_
  exact K _ _ h2 ma2 _ _ _ (zLi.fin C1 eo1 n1 n2 n3 H2 F2 A2 (ok_set hO) (oka_set oka)) m0 (by omega) (by omega)
theorem c_Law_5 {ou : Nat} {i : Int} {y5 y6 : Option Value} (I : zLi G h ad ma ou S) (hi : 0 ≤ i ∧ i + 4 ≤ L) (hb1 : 210 ≤ bc) (hb2 : 12100 ≤ bs) (K : zLK G l b L xs ad ma ou i bc bs) : zR G l (zLJ G b L xs) bc bs h 480 [some (.ref b), some (.ref (ad 0)), some (.ref (ma 0)), some (.ref ou), some (zi i), y5, y6] [] := by
  obtain ⟨th, n0, sv, hC, hM, hO, oka, eo, n1, n2, n3⟩ := I
  have h16 : ∀ k, k < 4 → (S.1 k).length ≤ 16 := fun k hk => (hC.ls hk).len
  have x1 := zX9_r (xs := xs) (i + 1)
  have x2 := zX9_r (xs := xs) (i + 2)
  have x3 := zX9_r (xs := xs) (i + 3)
  refine z_aload_n dLaw_law_480 rfl ?_
  refine z_aload_n dLaw_law_481 rfl ?_
  refine z_iload dLaw_law_482 rfl ?_
  refine z_iconst dLaw_law_484 ?_
  refine z_iadd dLaw_law_485 ?_
  refine z_sld (by omega) dLaw_law_486 ?_
  refine z_aload_n dLaw_law_487 rfl ?_
  refine z_iload dLaw_law_488 rfl ?_
  refine z_iconst dLaw_law_490 ?_
  refine z_iadd dLaw_law_491 ?_
  refine z_sld (by omega) dLaw_law_492 ?_
  refine z_aload_n dLaw_law_493 rfl ?_
  refine z_iload dLaw_law_494 rfl ?_
  refine z_iconst dLaw_law_496 ?_
  refine z_iadd dLaw_law_497 ?_
  refine z_sld (by omega) dLaw_law_498 ?_
  refine z_aload_n dLaw_law_499 rfl ?_
  refine z_callSX (bc' := bc - 6) (bs' := bs - 36) MW_Law_insert lk_Law_192 dLaw_law_500 (k_Law_insert hC (zX9_r (xs := xs) (i + 1)) (zX9_r (xs := xs) (i + 2)) (zX9_r (xs := xs) (i + 3)) eo n1) rfl rfl (Nat.le_of_ble_eq_true rfl) (Nat.le_of_ble_eq_true rfl) (Nat.le_of_ble_eq_true rfl) (by omega) (by omega) (fun _ _ q => q.elim) ?_
  rintro _ h1 ⟨k5, z5, sv5, rfl, C1, f1, eo1, e5⟩
  have H1 : zMod G h1 ma S th := hM.mid n2 n3 f1
  refine z_istore dLaw_law_503 (Nat.le_of_ble_eq_true rfl) ?_
  refine z_aload_n dLaw_law_505 rfl ?_
  refine z_aload_n dLaw_law_506 rfl ?_
  refine z_iload dLaw_law_507 rfl ?_
  refine z_iconst dLaw_law_509 ?_
  refine z_iadd dLaw_law_510 ?_
  refine z_sld (by omega) dLaw_law_511 ?_
  refine z_aload_n dLaw_law_512 rfl ?_
  refine z_iload dLaw_law_513 rfl ?_
  refine z_iconst dLaw_law_515 ?_
  refine z_iadd dLaw_law_516 ?_
  refine z_sld (by omega) dLaw_law_517 ?_
  refine z_aload_n dLaw_law_518 rfl ?_
  refine z_iload dLaw_law_519 rfl ?_
  refine z_iconst dLaw_law_521 ?_
  refine z_iadd dLaw_law_522 ?_
  refine z_sld (by omega) dLaw_law_523 ?_
  refine z_callV (bc' := bc - 6 - 1) (bs' := bs - 36 - 61) MV_Mod_insert lk_Law_194 dLaw_law_524 (k_Mod_insert H1 (zX9_r (xs := xs) (i + 1)) (zX9_r (xs := xs) (i + 2)) (zX9_r (xs := xs) (i + 3)) h16) rfl rfl (Nat.le_of_ble_eq_true rfl) rfl H1.2.1 (Nat.le_of_ble_eq_true rfl) (Nat.le_of_ble_eq_true rfl) (by omega) (by omega) (fun _ _ q => q.elim) ?_
  rintro _ h2 ⟨ma2, th2, z6, rfl, m0, H2, F2, A2, e6⟩
  refine z_istore dLaw_law_527 (Nat.le_of_ble_eq_true rfl) ?_
  refine z_goto (tgt := 2138) dLaw_law_529 (by decide) ?_
  exact K _ _ h2 ma2 _ _ _ (zLi.fin C1 eo1 n1 n2 n3 H2 F2 A2 (ok_insert hO) (oka_insert oka)) m0 (by omega) (by omega)
theorem c_Law_6 {ou : Nat} {i : Int} {y5 y6 : Option Value} (I : zLi G h ad ma ou S) (hi : 0 ≤ i ∧ i + 4 ≤ L) (hb1 : 210 ≤ bc) (hb2 : 12100 ≤ bs) (K : zLK G l b L xs ad ma ou i bc bs) : zR G l (zLJ G b L xs) bc bs h 532 [some (.ref b), some (.ref (ad 0)), some (.ref (ma 0)), some (.ref ou), some (zi i), y5, y6] [] := by
  obtain ⟨th, n0, sv, hC, hM, hO, oka, eo, n1, n2, n3⟩ := I
  have h16 : ∀ k, k < 4 → (S.1 k).length ≤ 16 := fun k hk => (hC.ls hk).len
  have x1 := zX9_r (xs := xs) (i + 1)
  have x2 := zX9_r (xs := xs) (i + 2)
  have x3 := zX9_r (xs := xs) (i + 3)
  refine z_aload_n dLaw_law_532 rfl ?_
  refine z_aload_n dLaw_law_533 rfl ?_
  refine z_iload dLaw_law_534 rfl ?_
  refine z_iconst dLaw_law_536 ?_
  refine z_iadd dLaw_law_537 ?_
  refine z_sld (by omega) dLaw_law_538 ?_
  refine z_aload_n dLaw_law_539 rfl ?_
  refine z_iload dLaw_law_540 rfl ?_
  refine z_iconst dLaw_law_542 ?_
  refine z_iadd dLaw_law_543 ?_
  refine z_sld (by omega) dLaw_law_544 ?_
  refine z_aload_n dLaw_law_545 rfl ?_
  refine z_callSX (bc' := bc - 6) (bs' := bs - 36) MW_Law_removeAt lk_Law_195 dLaw_law_546 (k_Law_removeAt hC (zX9_r (xs := xs) (i + 1)) (zX9_r (xs := xs) (i + 2)) eo n1) rfl rfl (Nat.le_of_ble_eq_true rfl) (Nat.le_of_ble_eq_true rfl) (Nat.le_of_ble_eq_true rfl) (by omega) (by omega) (fun _ _ q => q.elim) ?_
  rintro _ h1 ⟨k5, z5, sv5, rfl, C1, f1, eo1, e5⟩
  have H1 : zMod G h1 ma S th := hM.mid n2 n3 f1
  refine z_istore dLaw_law_549 (Nat.le_of_ble_eq_true rfl) ?_
  refine z_aload_n dLaw_law_551 rfl ?_
  refine z_aload_n dLaw_law_552 rfl ?_
  refine z_iload dLaw_law_553 rfl ?_
  refine z_iconst dLaw_law_555 ?_
  refine z_iadd dLaw_law_556 ?_
  refine z_sld (by omega) dLaw_law_557 ?_
  refine z_aload_n dLaw_law_558 rfl ?_
  refine z_iload dLaw_law_559 rfl ?_
  refine z_iconst dLaw_law_561 ?_
  refine z_iadd dLaw_law_562 ?_
  refine z_sld (by omega) dLaw_law_563 ?_
  refine z_callV (bc' := bc - 6 - 1) (bs' := bs - 36 - 60) MV_Mod_removeAt lk_Law_197 dLaw_law_564 (k_Mod_removeAt H1 (zX9_r (xs := xs) (i + 1)) (zX9_r (xs := xs) (i + 2)) h16) rfl rfl (Nat.le_of_ble_eq_true rfl) rfl H1.2.1 (Nat.le_of_ble_eq_true rfl) (Nat.le_of_ble_eq_true rfl) (by omega) (by omega) (fun _ _ q => q.elim) ?_
  rintro _ h2 ⟨ma2, th2, z6, rfl, m0, H2, F2, A2, e6⟩
  refine z_istore dLaw_law_567 (Nat.le_of_ble_eq_true rfl) ?_
  refine z_goto (tgt := 2138) dLaw_law_569 (by decide) ?_
  exact K _ _ h2 ma2 _ _ _ (zLi.fin C1 eo1 n1 n2 n3 H2 F2 A2 (ok_removeAt hO) (oka_removeAt oka)) m0 (by omega) (by omega)
theorem c_Law_7 {ou : Nat} {i : Int} {y5 y6 : Option Value} (I : zLi G h ad ma ou S) (hi : 0 ≤ i ∧ i + 4 ≤ L) (hb1 : 210 ≤ bc) (hb2 : 12100 ≤ bs) (K : zLK G l b L xs ad ma ou i bc bs) : zR G l (zLJ G b L xs) bc bs h 572 [some (.ref b), some (.ref (ad 0)), some (.ref (ma 0)), some (.ref ou), some (zi i), y5, y6] [] := by
  obtain ⟨th, n0, sv, hC, hM, hO, oka, eo, n1, n2, n3⟩ := I
  have h16 : ∀ k, k < 4 → (S.1 k).length ≤ 16 := fun k hk => (hC.ls hk).len
  have x1 := zX9_r (xs := xs) (i + 1)
  have x2 := zX9_r (xs := xs) (i + 2)
  have x3 := zX9_r (xs := xs) (i + 3)
  refine z_aload_n dLaw_law_572 rfl ?_
  refine z_aload_n dLaw_law_573 rfl ?_
  refine z_iload dLaw_law_574 rfl ?_
  refine z_iconst dLaw_law_576 ?_
  refine z_iadd dLaw_law_577 ?_
  refine z_sld (by omega) dLaw_law_578 ?_
  refine z_aload_n dLaw_law_579 rfl ?_
  refine z_iload dLaw_law_580 rfl ?_
  refine z_iconst dLaw_law_582 ?_
  refine z_iadd dLaw_law_583 ?_
  refine z_sld (by omega) dLaw_law_584 ?_
  refine z_aload_n dLaw_law_585 rfl ?_
  refine z_iload dLaw_law_586 rfl ?_
  refine z_iconst dLaw_law_588 ?_
  refine z_iadd dLaw_law_589 ?_
  refine z_sld (by omega) dLaw_law_590 ?_
  refine z_if_eq (tgt := 598) dLaw_law_591 (by decide) (by omega) (fun c1a => ?_) (fun c1b => ?_)
  · refine z_iconst dLaw_law_598 ?_
    refine z_aload_n dLaw_law_599 rfl ?_
    refine z_callSX (bc' := bc - 6) (bs' := bs - 36) MW_Law_drop lk_Law_198 dLaw_law_600 (k_Law_drop (Or.inl rfl) hC (zX9_r (xs := xs) (i + 1)) (zX9_r (xs := xs) (i + 2)) (by decide) eo n1) rfl rfl (Nat.le_of_ble_eq_true rfl) (Nat.le_of_ble_eq_true rfl) (Nat.le_of_ble_eq_true rfl) (by omega) (by omega) (fun _ _ q => q.elim) ?_
    rintro _ h1 ⟨k5, z5, sv5, rfl, C1, f1, eo1, e5⟩
    have H1 : zMod G h1 ma S th := hM.mid n2 n3 f1
    refine z_istore dLaw_law_603 (Nat.le_of_ble_eq_true rfl) ?_
    refine z_aload_n dLaw_law_605 rfl ?_
    refine z_aload_n dLaw_law_606 rfl ?_
    refine z_iload dLaw_law_607 rfl ?_
    refine z_iconst dLaw_law_609 ?_
    refine z_iadd dLaw_law_610 ?_
    refine z_sld (by omega) dLaw_law_611 ?_
    refine z_aload_n dLaw_law_612 rfl ?_
    refine z_iload dLaw_law_613 rfl ?_
    refine z_iconst dLaw_law_615 ?_
    refine z_iadd dLaw_law_616 ?_
    refine z_sld (by omega) dLaw_law_617 ?_
    refine z_aload_n dLaw_law_618 rfl ?_
    refine z_iload dLaw_law_619 rfl ?_
    refine z_iconst dLaw_law_621 ?_
    refine z_iadd dLaw_law_622 ?_
    refine z_sld (by omega) dLaw_law_623 ?_
    refine z_if_eq (tgt := 631) dLaw_law_624 (by decide) (by omega) (fun c2a => ?_) (fun c2b => ?_)
    · refine z_iconst dLaw_law_631 ?_
      refine z_callV (bc' := bc - 6 - 1) (bs' := bs - 36 - 60) MV_Mod_drop lk_Law_201 dLaw_law_632 (k_Mod_drop H1 (zX9_r (xs := xs) (i + 1)) (zX9_r (xs := xs) (i + 2)) (by decide) h16 (Or.inl rfl)) rfl rfl (Nat.le_of_ble_eq_true rfl) rfl H1.2.1 (Nat.le_of_ble_eq_true rfl) (Nat.le_of_ble_eq_true rfl) (by omega) (by omega) (fun _ _ q => q.elim) ?_
      rintro _ h2 ⟨ma2, th2, z6, rfl, m0, H2, F2, A2, e6⟩
      refine z_istore dLaw_law_635 (Nat.le_of_ble_eq_true rfl) ?_
      refine z_goto (tgt := 2138) dLaw_law_637 (by decide) ?_
      exact K _ _ h2 ma2 _ _ _ (zLi.fin C1 eo1 n1 n2 n3 H2 F2 A2 (ok_drop hO) (oka_drop oka)) m0 (by omega) (by omega)
    · exact absurd c1a c2b
  · refine z_iconst dLaw_law_594 ?_
    refine z_goto (tgt := 599) dLaw_law_595 (by decide) ?_
    refine z_aload_n dLaw_law_599 rfl ?_
    refine z_callSX (bc' := bc - 6) (bs' := bs - 36) MW_Law_drop lk_Law_198 dLaw_law_600 (k_Law_drop (Or.inr rfl) hC (zX9_r (xs := xs) (i + 1)) (zX9_r (xs := xs) (i + 2)) (by decide) eo n1) rfl rfl (Nat.le_of_ble_eq_true rfl) (Nat.le_of_ble_eq_true rfl) (Nat.le_of_ble_eq_true rfl) (by omega) (by omega) (fun _ _ q => q.elim) ?_
    rintro _ h1 ⟨k5, z5, sv5, rfl, C1, f1, eo1, e5⟩
    have H1 : zMod G h1 ma S th := hM.mid n2 n3 f1
    refine z_istore dLaw_law_603 (Nat.le_of_ble_eq_true rfl) ?_
    refine z_aload_n dLaw_law_605 rfl ?_
    refine z_aload_n dLaw_law_606 rfl ?_
    refine z_iload dLaw_law_607 rfl ?_
    refine z_iconst dLaw_law_609 ?_
    refine z_iadd dLaw_law_610 ?_
    refine z_sld (by omega) dLaw_law_611 ?_
    refine z_aload_n dLaw_law_612 rfl ?_
    refine z_iload dLaw_law_613 rfl ?_
    refine z_iconst dLaw_law_615 ?_
    refine z_iadd dLaw_law_616 ?_
    refine z_sld (by omega) dLaw_law_617 ?_
    refine z_aload_n dLaw_law_618 rfl ?_
    refine z_iload dLaw_law_619 rfl ?_
    refine z_iconst dLaw_law_621 ?_
    refine z_iadd dLaw_law_622 ?_
    refine z_sld (by omega) dLaw_law_623 ?_
    refine z_if_eq (tgt := 631) dLaw_law_624 (by decide) (by omega) (fun c2a => ?_) (fun c2b => ?_)
    · exact absurd c2a c1b
    · refine z_iconst dLaw_law_627 ?_
      refine z_goto (tgt := 632) dLaw_law_628 (by decide) ?_
      refine z_callV (bc' := bc - 6 - 1) (bs' := bs - 36 - 60) MV_Mod_drop lk_Law_201 dLaw_law_632 (k_Mod_drop H1 (zX9_r (xs := xs) (i + 1)) (zX9_r (xs := xs) (i + 2)) (by decide) h16 (Or.inr rfl)) rfl rfl (Nat.le_of_ble_eq_true rfl) rfl H1.2.1 (Nat.le_of_ble_eq_true rfl) (Nat.le_of_ble_eq_true rfl) (by omega) (by omega) (fun _ _ q => q.elim) ?_
      rintro _ h2 ⟨ma2, th2, z6, rfl, m0, H2, F2, A2, e6⟩
      refine z_istore dLaw_law_635 (Nat.le_of_ble_eq_true rfl) ?_
      refine z_goto (tgt := 2138) dLaw_law_637 (by decide) ?_
      exact K _ _ h2 ma2 _ _ _ (zLi.fin C1 eo1 n1 n2 n3 H2 F2 A2 (ok_drop hO) (oka_drop oka)) m0 (by omega) (by omega)
theorem c_Law_8 {ou : Nat} {i : Int} {y5 y6 : Option Value} (I : zLi G h ad ma ou S) (hi : 0 ≤ i ∧ i + 4 ≤ L) (hb1 : 210 ≤ bc) (hb2 : 12100 ≤ bs) (K : zLK G l b L xs ad ma ou i bc bs) : zR G l (zLJ G b L xs) bc bs h 640 [some (.ref b), some (.ref (ad 0)), some (.ref (ma 0)), some (.ref ou), some (zi i), y5, y6] [] := by
  obtain ⟨th, n0, sv, hC, hM, hO, oka, eo, n1, n2, n3⟩ := I
  have h16 : ∀ k, k < 4 → (S.1 k).length ≤ 16 := fun k hk => (hC.ls hk).len
  have x1 := zX9_r (xs := xs) (i + 1)
  have x2 := zX9_r (xs := xs) (i + 2)
  have x3 := zX9_r (xs := xs) (i + 3)
  refine z_aload_n dLaw_law_640 rfl ?_
  refine z_aload_n dLaw_law_641 rfl ?_
  refine z_iload dLaw_law_642 rfl ?_
  refine z_iconst dLaw_law_644 ?_
  refine z_iadd dLaw_law_645 ?_
  refine z_sld (by omega) dLaw_law_646 ?_
  refine z_aload_n dLaw_law_647 rfl ?_
  refine z_iload dLaw_law_648 rfl ?_
  refine z_iconst dLaw_law_650 ?_
  refine z_iadd dLaw_law_651 ?_
  refine z_sld (by omega) dLaw_law_652 ?_
  refine z_aload_n dLaw_law_653 rfl ?_
  refine z_callSX (bc' := bc - 6) (bs' := bs - 36) MW_Law_thin lk_Law_202 dLaw_law_654 (k_Law_thin hC (zX9_r (xs := xs) (i + 1)) (zX9_r (xs := xs) (i + 2)) eo n1) rfl rfl (Nat.le_of_ble_eq_true rfl) (Nat.le_of_ble_eq_true rfl) (Nat.le_of_ble_eq_true rfl) (by omega) (by omega) (fun _ _ q => q.elim) ?_
  rintro _ h1 ⟨k5, z5, sv5, rfl, C1, f1, eo1, e5⟩
  have H1 : zMod G h1 ma S th := hM.mid n2 n3 f1
  refine z_istore dLaw_law_657 (Nat.le_of_ble_eq_true rfl) ?_
  refine z_aload_n dLaw_law_659 rfl ?_
  refine z_aload_n dLaw_law_660 rfl ?_
  refine z_iload dLaw_law_661 rfl ?_
  refine z_iconst dLaw_law_663 ?_
  refine z_iadd dLaw_law_664 ?_
  refine z_sld (by omega) dLaw_law_665 ?_
  refine z_aload_n dLaw_law_666 rfl ?_
  refine z_iload dLaw_law_667 rfl ?_
  refine z_iconst dLaw_law_669 ?_
  refine z_iadd dLaw_law_670 ?_
  refine z_sld (by omega) dLaw_law_671 ?_
  refine z_callV (bc' := bc - 6 - 16) (bs' := bs - 36 - 960) MV_Mod_thin lk_Law_204 dLaw_law_672 (k_Mod_thin H1 (zX9_r (xs := xs) (i + 1)) (zX9_r (xs := xs) (i + 2)) h16) rfl rfl (Nat.le_of_ble_eq_true rfl) rfl H1.2.1 (Nat.le_of_ble_eq_true rfl) (Nat.le_of_ble_eq_true rfl) (by omega) (by omega) (fun _ _ q => q.elim) ?_
  rintro _ h2 ⟨ma2, th2, z6, rfl, m0, H2, F2, A2, e6⟩
  refine z_istore dLaw_law_675 (Nat.le_of_ble_eq_true rfl) ?_
  refine z_goto (tgt := 2138) dLaw_law_677 (by decide) ?_
  exact K _ _ h2 ma2 _ _ _ (zLi.fin C1 eo1 n1 n2 n3 H2 F2 A2 (ok_thin hO) (oka_thin oka)) m0 (by omega) (by omega)
theorem c_Law_9 {ou : Nat} {i : Int} {y5 y6 : Option Value} (I : zLi G h ad ma ou S) (hi : 0 ≤ i ∧ i + 4 ≤ L) (hb1 : 210 ≤ bc) (hb2 : 12100 ≤ bs) (K : zLK G l b L xs ad ma ou i bc bs) : zR G l (zLJ G b L xs) bc bs h 680 [some (.ref b), some (.ref (ad 0)), some (.ref (ma 0)), some (.ref ou), some (zi i), y5, y6] [] := by
  obtain ⟨th, n0, sv, hC, hM, hO, oka, eo, n1, n2, n3⟩ := I
  have h16 : ∀ k, k < 4 → (S.1 k).length ≤ 16 := fun k hk => (hC.ls hk).len
  have x1 := zX9_r (xs := xs) (i + 1)
  have x2 := zX9_r (xs := xs) (i + 2)
  have x3 := zX9_r (xs := xs) (i + 3)
  refine z_aload_n dLaw_law_680 rfl ?_
  refine z_aload_n dLaw_law_681 rfl ?_
  refine z_iload dLaw_law_682 rfl ?_
  refine z_iconst dLaw_law_684 ?_
  refine z_iadd dLaw_law_685 ?_
  refine z_sld (by omega) dLaw_law_686 ?_
  refine z_aload_n dLaw_law_687 rfl ?_
  refine z_iload dLaw_law_688 rfl ?_
  refine z_iconst dLaw_law_690 ?_
  refine z_iadd dLaw_law_691 ?_
  refine z_sld (by omega) dLaw_law_692 ?_
  refine z_aload_n dLaw_law_693 rfl ?_
  refine z_iload dLaw_law_694 rfl ?_
  refine z_iconst dLaw_law_696 ?_
  refine z_iadd dLaw_law_697 ?_
  refine z_sld (by omega) dLaw_law_698 ?_
  refine z_if_eq (tgt := 706) dLaw_law_699 (by decide) (by omega) (fun c1a => ?_) (fun c1b => ?_)
  · refine z_iconst dLaw_law_706 ?_
    refine z_aload_n dLaw_law_707 rfl ?_
    refine z_callSX (bc' := bc - 6) (bs' := bs - 36) MW_Law_indexOf lk_Law_205 dLaw_law_708 (k_Law_indexOf (Or.inl rfl) hC (zX9_r (xs := xs) (i + 1)) (zX9_r (xs := xs) (i + 2)) (by decide) eo n1) rfl rfl (Nat.le_of_ble_eq_true rfl) (Nat.le_of_ble_eq_true rfl) (Nat.le_of_ble_eq_true rfl) (by omega) (by omega) (fun _ _ q => q.elim) ?_
    rintro _ h1 ⟨k5, z5, sv5, rfl, C1, f1, eo1, e5⟩
    have H1 : zMod G h1 ma S th := hM.mid n2 n3 f1
    refine z_istore dLaw_law_711 (Nat.le_of_ble_eq_true rfl) ?_
    refine z_aload_n dLaw_law_713 rfl ?_
    refine z_aload_n dLaw_law_714 rfl ?_
    refine z_iload dLaw_law_715 rfl ?_
    refine z_iconst dLaw_law_717 ?_
    refine z_iadd dLaw_law_718 ?_
    refine z_sld (by omega) dLaw_law_719 ?_
    refine z_aload_n dLaw_law_720 rfl ?_
    refine z_iload dLaw_law_721 rfl ?_
    refine z_iconst dLaw_law_723 ?_
    refine z_iadd dLaw_law_724 ?_
    refine z_sld (by omega) dLaw_law_725 ?_
    refine z_aload_n dLaw_law_726 rfl ?_
    refine z_iload dLaw_law_727 rfl ?_
    refine z_iconst dLaw_law_729 ?_
    refine z_iadd dLaw_law_730 ?_
    refine z_sld (by omega) dLaw_law_731 ?_
    refine z_if_eq (tgt := 739) dLaw_law_732 (by decide) (by omega) (fun c2a => ?_) (fun c2b => ?_)
    · refine z_iconst dLaw_law_739 ?_
      refine z_callV (bc' := bc - 6 - 0) (bs' := bs - 36 - 0) MV_Mod_indexOf lk_Law_207 dLaw_law_740 (k_Mod_indexOf H1 (zX9_r (xs := xs) (i + 1)) (zX9_r (xs := xs) (i + 2)) (by decide) (Or.inl rfl)) rfl rfl (Nat.le_of_ble_eq_true rfl) rfl H1.2.1 (Nat.le_of_ble_eq_true rfl) (Nat.le_of_ble_eq_true rfl) (by omega) (by omega) (fun _ _ q => q.elim) ?_
      rintro _ h2 ⟨ma2, th2, z6, rfl, m0, H2, F2, A2, e6⟩
      refine z_istore dLaw_law_743 (Nat.le_of_ble_eq_true rfl) ?_
      refine z_goto (tgt := 2138) dLaw_law_745 (by decide) ?_
      exact K _ _ h2 ma2 _ _ _ (zLi.fin C1 eo1 n1 n2 n3 H2 F2 A2 (ok_indexOf hO) (oka_indexOf oka)) m0 (by omega) (by omega)
    · exact absurd c1a c2b
  · refine z_iconst dLaw_law_702 ?_
    refine z_goto (tgt := 707) dLaw_law_703 (by decide) ?_
    refine z_aload_n dLaw_law_707 rfl ?_
    refine z_callSX (bc' := bc - 6) (bs' := bs - 36) MW_Law_indexOf lk_Law_205 dLaw_law_708 (k_Law_indexOf (Or.inr rfl) hC (zX9_r (xs := xs) (i + 1)) (zX9_r (xs := xs) (i + 2)) (by decide) eo n1) rfl rfl (Nat.le_of_ble_eq_true rfl) (Nat.le_of_ble_eq_true rfl) (Nat.le_of_ble_eq_true rfl) (by omega) (by omega) (fun _ _ q => q.elim) ?_
    rintro _ h1 ⟨k5, z5, sv5, rfl, C1, f1, eo1, e5⟩
    have H1 : zMod G h1 ma S th := hM.mid n2 n3 f1
    refine z_istore dLaw_law_711 (Nat.le_of_ble_eq_true rfl) ?_
    refine z_aload_n dLaw_law_713 rfl ?_
    refine z_aload_n dLaw_law_714 rfl ?_
    refine z_iload dLaw_law_715 rfl ?_
    refine z_iconst dLaw_law_717 ?_
    refine z_iadd dLaw_law_718 ?_
    refine z_sld (by omega) dLaw_law_719 ?_
    refine z_aload_n dLaw_law_720 rfl ?_
    refine z_iload dLaw_law_721 rfl ?_
    refine z_iconst dLaw_law_723 ?_
    refine z_iadd dLaw_law_724 ?_
    refine z_sld (by omega) dLaw_law_725 ?_
    refine z_aload_n dLaw_law_726 rfl ?_
    refine z_iload dLaw_law_727 rfl ?_
    refine z_iconst dLaw_law_729 ?_
    refine z_iadd dLaw_law_730 ?_
    refine z_sld (by omega) dLaw_law_731 ?_
    refine z_if_eq (tgt := 739) dLaw_law_732 (by decide) (by omega) (fun c2a => ?_) (fun c2b => ?_)
    · exact absurd c2a c1b
    · refine z_iconst dLaw_law_735 ?_
      refine z_goto (tgt := 740) dLaw_law_736 (by decide) ?_
      refine z_callV (bc' := bc - 6 - 0) (bs' := bs - 36 - 0) MV_Mod_indexOf lk_Law_207 dLaw_law_740 (k_Mod_indexOf H1 (zX9_r (xs := xs) (i + 1)) (zX9_r (xs := xs) (i + 2)) (by decide) (Or.inr rfl)) rfl rfl (Nat.le_of_ble_eq_true rfl) rfl H1.2.1 (Nat.le_of_ble_eq_true rfl) (Nat.le_of_ble_eq_true rfl) (by omega) (by omega) (fun _ _ q => q.elim) ?_
      rintro _ h2 ⟨ma2, th2, z6, rfl, m0, H2, F2, A2, e6⟩
      refine z_istore dLaw_law_743 (Nat.le_of_ble_eq_true rfl) ?_
      refine z_goto (tgt := 2138) dLaw_law_745 (by decide) ?_
      exact K _ _ h2 ma2 _ _ _ (zLi.fin C1 eo1 n1 n2 n3 H2 F2 A2 (ok_indexOf hO) (oka_indexOf oka)) m0 (by omega) (by omega)
theorem c_Law_10 {ou : Nat} {i : Int} {y5 y6 : Option Value} (I : zLi G h ad ma ou S) (hi : 0 ≤ i ∧ i + 4 ≤ L) (hb1 : 210 ≤ bc) (hb2 : 12100 ≤ bs) (K : zLK G l b L xs ad ma ou i bc bs) : zR G l (zLJ G b L xs) bc bs h 748 [some (.ref b), some (.ref (ad 0)), some (.ref (ma 0)), some (.ref ou), some (zi i), y5, y6] [] := by
  obtain ⟨th, n0, sv, hC, hM, hO, oka, eo, n1, n2, n3⟩ := I
  have h16 : ∀ k, k < 4 → (S.1 k).length ≤ 16 := fun k hk => (hC.ls hk).len
  have x1 := zX9_r (xs := xs) (i + 1)
  have x2 := zX9_r (xs := xs) (i + 2)
  have x3 := zX9_r (xs := xs) (i + 3)
  refine z_aload_n dLaw_law_748 rfl ?_
  refine z_aload_n dLaw_law_749 rfl ?_
  refine z_iload dLaw_law_750 rfl ?_
  refine z_iconst dLaw_law_752 ?_
  refine z_iadd dLaw_law_753 ?_
  refine z_sld (by omega) dLaw_law_754 ?_
  refine z_aload_n dLaw_law_755 rfl ?_
  refine z_iload dLaw_law_756 rfl ?_
  refine z_iconst dLaw_law_758 ?_
  refine z_iadd dLaw_law_759 ?_
  refine z_sld (by omega) dLaw_law_760 ?_
  refine z_aload_n dLaw_law_761 rfl ?_
  refine z_callSX (bc' := bc - 6) (bs' := bs - 36) MW_Law_has lk_Law_208 dLaw_law_762 (k_Law_has hC (zX9_r (xs := xs) (i + 1)) (zX9_r (xs := xs) (i + 2)) eo n1) rfl rfl (Nat.le_of_ble_eq_true rfl) (Nat.le_of_ble_eq_true rfl) (Nat.le_of_ble_eq_true rfl) (by omega) (by omega) (fun _ _ q => q.elim) ?_
  rintro _ h1 ⟨k5, z5, sv5, rfl, C1, f1, eo1, e5⟩
  have H1 : zMod G h1 ma S th := hM.mid n2 n3 f1
  refine z_istore dLaw_law_765 (Nat.le_of_ble_eq_true rfl) ?_
  refine z_aload_n dLaw_law_767 rfl ?_
  refine z_aload_n dLaw_law_768 rfl ?_
  refine z_iload dLaw_law_769 rfl ?_
  refine z_iconst dLaw_law_771 ?_
  refine z_iadd dLaw_law_772 ?_
  refine z_sld (by omega) dLaw_law_773 ?_
  refine z_aload_n dLaw_law_774 rfl ?_
  refine z_iload dLaw_law_775 rfl ?_
  refine z_iconst dLaw_law_777 ?_
  refine z_iadd dLaw_law_778 ?_
  refine z_sld (by omega) dLaw_law_779 ?_
  refine z_callV (bc' := bc - 6 - 0) (bs' := bs - 36 - 0) MV_Mod_has lk_Law_210 dLaw_law_780 (k_Mod_has H1 (zX9_r (xs := xs) (i + 1)) (zX9_r (xs := xs) (i + 2))) rfl rfl (Nat.le_of_ble_eq_true rfl) rfl H1.2.1 (Nat.le_of_ble_eq_true rfl) (Nat.le_of_ble_eq_true rfl) (by omega) (by omega) (fun _ _ q => q.elim) ?_
  rintro _ h2 ⟨ma2, th2, z6, rfl, m0, H2, F2, A2, e6⟩
  refine z_istore dLaw_law_783 (Nat.le_of_ble_eq_true rfl) ?_
  refine z_goto (tgt := 2138) dLaw_law_785 (by decide) ?_
  exact K _ _ h2 ma2 _ _ _ (zLi.fin C1 eo1 n1 n2 n3 H2 F2 A2 (ok_has hO) (oka_has oka)) m0 (by omega) (by omega)
theorem c_Law_11 {ou : Nat} {i : Int} {y5 y6 : Option Value} (I : zLi G h ad ma ou S) (hi : 0 ≤ i ∧ i + 4 ≤ L) (hb1 : 210 ≤ bc) (hb2 : 12100 ≤ bs) (K : zLK G l b L xs ad ma ou i bc bs) : zR G l (zLJ G b L xs) bc bs h 788 [some (.ref b), some (.ref (ad 0)), some (.ref (ma 0)), some (.ref ou), some (zi i), y5, y6] [] := by
  obtain ⟨th, n0, sv, hC, hM, hO, oka, eo, n1, n2, n3⟩ := I
  have h16 : ∀ k, k < 4 → (S.1 k).length ≤ 16 := fun k hk => (hC.ls hk).len
  have x1 := zX9_r (xs := xs) (i + 1)
  have x2 := zX9_r (xs := xs) (i + 2)
  have x3 := zX9_r (xs := xs) (i + 3)
  refine z_aload_n dLaw_law_788 rfl ?_
  refine z_aload_n dLaw_law_789 rfl ?_
  refine z_iload dLaw_law_790 rfl ?_
  refine z_iconst dLaw_law_792 ?_
  refine z_iadd dLaw_law_793 ?_
  refine z_sld (by omega) dLaw_law_794 ?_
  refine z_aload_n dLaw_law_795 rfl ?_
  refine z_callSX (bc' := bc - 6) (bs' := bs - 36) MW_Law_size lk_Law_211 dLaw_law_796 (k_Law_size hC (zX9_r (xs := xs) (i + 1)) eo n1) rfl rfl (Nat.le_of_ble_eq_true rfl) (Nat.le_of_ble_eq_true rfl) (Nat.le_of_ble_eq_true rfl) (by omega) (by omega) (fun _ _ q => q.elim) ?_
  rintro _ h1 ⟨k5, z5, sv5, rfl, C1, f1, eo1, e5⟩
  have H1 : zMod G h1 ma S th := hM.mid n2 n3 f1
  refine z_istore dLaw_law_799 (Nat.le_of_ble_eq_true rfl) ?_
  refine z_aload_n dLaw_law_801 rfl ?_
  refine z_aload_n dLaw_law_802 rfl ?_
  refine z_iload dLaw_law_803 rfl ?_
  refine z_iconst dLaw_law_805 ?_
  refine z_iadd dLaw_law_806 ?_
  refine z_sld (by omega) dLaw_law_807 ?_
  refine z_callV (bc' := bc - 6 - 0) (bs' := bs - 36 - 0) MV_Mod_size lk_Law_214 dLaw_law_808 (k_Mod_size H1 (zX9_r (xs := xs) (i + 1))) rfl rfl (Nat.le_of_ble_eq_true rfl) rfl H1.2.1 (Nat.le_of_ble_eq_true rfl) (Nat.le_of_ble_eq_true rfl) (by omega) (by omega) (fun _ _ q => q.elim) ?_
  rintro _ h2 ⟨ma2, th2, z6, rfl, m0, H2, F2, A2, e6⟩
  refine z_istore dLaw_law_811 (Nat.le_of_ble_eq_true rfl) ?_
  refine z_goto (tgt := 2138) dLaw_law_813 (by decide) ?_
  exact K _ _ h2 ma2 _ _ _ (zLi.fin C1 eo1 n1 n2 n3 H2 F2 A2 (ok_size hO) (oka_size oka)) m0 (by omega) (by omega)
theorem c_Law_12 {ou : Nat} {i : Int} {y5 y6 : Option Value} (I : zLi G h ad ma ou S) (hi : 0 ≤ i ∧ i + 4 ≤ L) (hb1 : 210 ≤ bc) (hb2 : 12100 ≤ bs) (K : zLK G l b L xs ad ma ou i bc bs) : zR G l (zLJ G b L xs) bc bs h 816 [some (.ref b), some (.ref (ad 0)), some (.ref (ma 0)), some (.ref ou), some (zi i), y5, y6] [] := by
  obtain ⟨th, n0, sv, hC, hM, hO, oka, eo, n1, n2, n3⟩ := I
  have h16 : ∀ k, k < 4 → (S.1 k).length ≤ 16 := fun k hk => (hC.ls hk).len
  have x1 := zX9_r (xs := xs) (i + 1)
  have x2 := zX9_r (xs := xs) (i + 2)
  have x3 := zX9_r (xs := xs) (i + 3)
  refine z_aload_n dLaw_law_816 rfl ?_
  refine z_aload_n dLaw_law_817 rfl ?_
  refine z_iload dLaw_law_818 rfl ?_
  refine z_iconst dLaw_law_820 ?_
  refine z_iadd dLaw_law_821 ?_
  refine z_sld (by omega) dLaw_law_822 ?_
  refine z_aload_n dLaw_law_823 rfl ?_
  refine z_iload dLaw_law_824 rfl ?_
  refine z_iconst dLaw_law_826 ?_
  refine z_iadd dLaw_law_827 ?_
  refine z_sld (by omega) dLaw_law_828 ?_
  refine z_if_eq (tgt := 836) dLaw_law_829 (by decide) (by omega) (fun c1a => ?_) (fun c1b => ?_)
  · refine z_iconst dLaw_law_836 ?_
    refine z_aload_n dLaw_law_837 rfl ?_
    refine z_callSX (bc' := bc - 37) (bs' := bs - 606) MW_Law_text lk_Law_215 dLaw_law_838 (k_Law_text hC (zX9_r (xs := xs) (i + 1)) (Or.inl rfl) eo n1) rfl rfl (Nat.le_of_ble_eq_true rfl) (Nat.le_of_ble_eq_true rfl) (Nat.le_of_ble_eq_true rfl) (by omega) (by omega) (fun _ _ q => q.elim) ?_
    rintro _ h1 ⟨k5, z5, sv5, rfl, C1, f1, eo1, e5⟩
    have H1 : zMod G h1 ma S th := hM.mid n2 n3 f1
    rw [text_st] at C1
    refine z_istore dLaw_law_841 (Nat.le_of_ble_eq_true rfl) ?_
    refine z_aload_n dLaw_law_843 rfl ?_
    refine z_aload_n dLaw_law_844 rfl ?_
    refine z_iload dLaw_law_845 rfl ?_
    refine z_iconst dLaw_law_847 ?_
    refine z_iadd dLaw_law_848 ?_
    refine z_sld (by omega) dLaw_law_849 ?_
    refine z_aload_n dLaw_law_850 rfl ?_
    refine z_iload dLaw_law_851 rfl ?_
    refine z_iconst dLaw_law_853 ?_
    refine z_iadd dLaw_law_854 ?_
    refine z_sld (by omega) dLaw_law_855 ?_
    refine z_if_eq (tgt := 863) dLaw_law_856 (by decide) (by omega) (fun c2a => ?_) (fun c2b => ?_)
    · refine z_iconst dLaw_law_863 ?_
      refine z_callV (bc' := bc - 37 - 113) (bs' := bs - 606 - 9405) MV_Mod_text lk_Law_218 dLaw_law_864 (k_Mod_text H1 (zX9_r (xs := xs) (i + 1)) (Or.inl rfl) h16) rfl rfl (Nat.le_of_ble_eq_true rfl) rfl H1.2.1 (Nat.le_of_ble_eq_true rfl) (Nat.le_of_ble_eq_true rfl) (by omega) (by omega) (fun _ _ q => q.elim) ?_
      rintro _ h2 ⟨⟨s6, rfl⟩, th2, H2, F2, e6⟩
      refine z_astore dLaw_law_867 (Nat.le_of_ble_eq_true rfl) ?_
      refine z_goto (tgt := 2138) dLaw_law_869 (by decide) ?_
      exact K _ _ h2 ma _ _ _ (zLi.fin C1 eo1 n1 n2 n3 H2 F2 (fun _ _ => Or.inl rfl) hO oka) rfl (by omega) (by omega)
    · exact absurd c1a c2b
  · refine z_iconst dLaw_law_832 ?_
    refine z_goto (tgt := 837) dLaw_law_833 (by decide) ?_
    refine z_aload_n dLaw_law_837 rfl ?_
    refine z_callSX (bc' := bc - 37) (bs' := bs - 606) MW_Law_text lk_Law_215 dLaw_law_838 (k_Law_text hC (zX9_r (xs := xs) (i + 1)) (Or.inr rfl) eo n1) rfl rfl (Nat.le_of_ble_eq_true rfl) (Nat.le_of_ble_eq_true rfl) (Nat.le_of_ble_eq_true rfl) (by omega) (by omega) (fun _ _ q => q.elim) ?_
    rintro _ h1 ⟨k5, z5, sv5, rfl, C1, f1, eo1, e5⟩
    have H1 : zMod G h1 ma S th := hM.mid n2 n3 f1
    rw [text_st] at C1
    refine z_istore dLaw_law_841 (Nat.le_of_ble_eq_true rfl) ?_
    refine z_aload_n dLaw_law_843 rfl ?_
    refine z_aload_n dLaw_law_844 rfl ?_
    refine z_iload dLaw_law_845 rfl ?_
    refine z_iconst dLaw_law_847 ?_
    refine z_iadd dLaw_law_848 ?_
    refine z_sld (by omega) dLaw_law_849 ?_
    refine z_aload_n dLaw_law_850 rfl ?_
    refine z_iload dLaw_law_851 rfl ?_
    refine z_iconst dLaw_law_853 ?_
    refine z_iadd dLaw_law_854 ?_
    refine z_sld (by omega) dLaw_law_855 ?_
    refine z_if_eq (tgt := 863) dLaw_law_856 (by decide) (by omega) (fun c2a => ?_) (fun c2b => ?_)
    · exact absurd c2a c1b
    · refine z_iconst dLaw_law_859 ?_
      refine z_goto (tgt := 864) dLaw_law_860 (by decide) ?_
      refine z_callV (bc' := bc - 37 - 113) (bs' := bs - 606 - 9405) MV_Mod_text lk_Law_218 dLaw_law_864 (k_Mod_text H1 (zX9_r (xs := xs) (i + 1)) (Or.inr rfl) h16) rfl rfl (Nat.le_of_ble_eq_true rfl) rfl H1.2.1 (Nat.le_of_ble_eq_true rfl) (Nat.le_of_ble_eq_true rfl) (by omega) (by omega) (fun _ _ q => q.elim) ?_
      rintro _ h2 ⟨⟨s6, rfl⟩, th2, H2, F2, e6⟩
      refine z_astore dLaw_law_867 (Nat.le_of_ble_eq_true rfl) ?_
      refine z_goto (tgt := 2138) dLaw_law_869 (by decide) ?_
      exact K _ _ h2 ma _ _ _ (zLi.fin C1 eo1 n1 n2 n3 H2 F2 (fun _ _ => Or.inl rfl) hO oka) rfl (by omega) (by omega)
theorem c_Law_13 {ou : Nat} {i : Int} {y5 y6 : Option Value} (I : zLi G h ad ma ou S) (hi : 0 ≤ i ∧ i + 4 ≤ L) (hb1 : 210 ≤ bc) (hb2 : 12100 ≤ bs) (K : zLK G l b L xs ad ma ou i bc bs) : zR G l (zLJ G b L xs) bc bs h 872 [some (.ref b), some (.ref (ad 0)), some (.ref (ma 0)), some (.ref ou), some (zi i), y5, y6] [] := by
  obtain ⟨th, n0, sv, hC, hM, hO, oka, eo, n1, n2, n3⟩ := I
  have h16 : ∀ k, k < 4 → (S.1 k).length ≤ 16 := fun k hk => (hC.ls hk).len
  have x1 := zX9_r (xs := xs) (i + 1)
  have x2 := zX9_r (xs := xs) (i + 2)
  have x3 := zX9_r (xs := xs) (i + 3)
  refine z_aload_n dLaw_law_872 rfl ?_
  refine z_aload_n dLaw_law_873 rfl ?_
  refine z_iload dLaw_law_874 rfl ?_
  refine z_iconst dLaw_law_876 ?_
  refine z_iadd dLaw_law_877 ?_
  refine z_sld (by omega) dLaw_law_878 ?_
  refine z_aload_n dLaw_law_879 rfl ?_
  refine z_callSX (bc' := bc - 6) (bs' := bs - 36) MW_Law_clear lk_Law_219 dLaw_law_880 (k_Law_clear hC (zX9_r (xs := xs) (i + 1)) eo n1) rfl rfl (Nat.le_of_ble_eq_true rfl) (Nat.le_of_ble_eq_true rfl) (Nat.le_of_ble_eq_true rfl) (by omega) (by omega) (fun _ _ q => q.elim) ?_
  rintro _ h1 ⟨k5, z5, sv5, rfl, C1, f1, eo1, e5⟩
  have H1 : zMod G h1 ma S th := hM.mid n2 n3 f1
  refine z_istore dLaw_law_883 (Nat.le_of_ble_eq_true rfl) ?_
  refine z_aload_n dLaw_law_885 rfl ?_
  refine z_aload_n dLaw_law_886 rfl ?_
  refine z_iload dLaw_law_887 rfl ?_
  refine z_iconst dLaw_law_889 ?_
  refine z_iadd dLaw_law_890 ?_
  refine z_sld (by omega) dLaw_law_891 ?_
  refine z_callV (bc' := bc - 6 - 1) (bs' := bs - 36 - 0) MV_Mod_clear lk_Law_221 dLaw_law_892 (k_Mod_clear H1 (zX9_r (xs := xs) (i + 1)) h16) rfl rfl (Nat.le_of_ble_eq_true rfl) rfl H1.2.1 (Nat.le_of_ble_eq_true rfl) (Nat.le_of_ble_eq_true rfl) (by omega) (by omega) (fun _ _ q => q.elim) ?_
  rintro _ h2 ⟨ma2, th2, z6, rfl, m0, H2, F2, A2, e6⟩
  refine z_istore dLaw_law_895 (Nat.le_of_ble_eq_true rfl) ?_
  refine z_goto (tgt := 2138) dLaw_law_897 (by decide) ?_
  exact K _ _ h2 ma2 _ _ _ (zLi.fin C1 eo1 n1 n2 n3 H2 F2 A2 (ok_clear hO) (oka_clear oka)) m0 (by omega) (by omega)
theorem c_Law_14 {ou : Nat} {i : Int} {y5 y6 : Option Value} (I : zLi G h ad ma ou S) (hi : 0 ≤ i ∧ i + 4 ≤ L) (hb1 : 210 ≤ bc) (hb2 : 12100 ≤ bs) (K : zLK G l b L xs ad ma ou i bc bs) : zR G l (zLJ G b L xs) bc bs h 900 [some (.ref b), some (.ref (ad 0)), some (.ref (ma 0)), some (.ref ou), some (zi i), y5, y6] [] := by
  obtain ⟨th, n0, sv, hC, hM, hO, oka, eo, n1, n2, n3⟩ := I
  have h16 : ∀ k, k < 4 → (S.1 k).length ≤ 16 := fun k hk => (hC.ls hk).len
  have x1 := zX9_r (xs := xs) (i + 1)
  have x2 := zX9_r (xs := xs) (i + 2)
  have x3 := zX9_r (xs := xs) (i + 3)
  refine z_aload_n dLaw_law_900 rfl ?_
  refine z_aload_n dLaw_law_901 rfl ?_
  refine z_iload dLaw_law_902 rfl ?_
  refine z_iconst dLaw_law_904 ?_
  refine z_iadd dLaw_law_905 ?_
  refine z_sld (by omega) dLaw_law_906 ?_
  refine z_aload_n dLaw_law_907 rfl ?_
  refine z_iload dLaw_law_908 rfl ?_
  refine z_iconst dLaw_law_910 ?_
  refine z_iadd dLaw_law_911 ?_
  refine z_sld (by omega) dLaw_law_912 ?_
  refine z_aload_n dLaw_law_913 rfl ?_
  refine z_callSX (bc' := bc - 6) (bs' := bs - 36) MW_Law_append lk_Law_222 dLaw_law_914 (k_Law_append hC (zX9_r (xs := xs) (i + 1)) (zX9_r (xs := xs) (i + 2)) eo n1) rfl rfl (Nat.le_of_ble_eq_true rfl) (Nat.le_of_ble_eq_true rfl) (Nat.le_of_ble_eq_true rfl) (by omega) (by omega) (fun _ _ q => q.elim) ?_
  rintro _ h1 ⟨k5, z5, sv5, rfl, C1, f1, eo1, e5⟩
  have H1 : zMod G h1 ma S th := hM.mid n2 n3 f1
  refine z_istore dLaw_law_917 (Nat.le_of_ble_eq_true rfl) ?_
  refine z_aload_n dLaw_law_919 rfl ?_
  refine z_aload_n dLaw_law_920 rfl ?_
  refine z_iload dLaw_law_921 rfl ?_
  refine z_iconst dLaw_law_923 ?_
  refine z_iadd dLaw_law_924 ?_
  refine z_sld (by omega) dLaw_law_925 ?_
  refine z_aload_n dLaw_law_926 rfl ?_
  refine z_iload dLaw_law_927 rfl ?_
  refine z_iconst dLaw_law_929 ?_
  refine z_iadd dLaw_law_930 ?_
  refine z_sld (by omega) dLaw_law_931 ?_
  refine z_callV (bc' := bc - 6 - 16) (bs' := bs - 36 - 976) MV_Mod_append lk_Law_224 dLaw_law_932 (k_Mod_append H1 (zX9_r (xs := xs) (i + 1)) (zX9_r (xs := xs) (i + 2)) h16) rfl rfl (Nat.le_of_ble_eq_true rfl) rfl H1.2.1 (Nat.le_of_ble_eq_true rfl) (Nat.le_of_ble_eq_true rfl) (by omega) (by omega) (fun _ _ q => q.elim) ?_
  rintro _ h2 ⟨ma2, th2, z6, rfl, m0, H2, F2, A2, e6⟩
  refine z_istore dLaw_law_935 (Nat.le_of_ble_eq_true rfl) ?_
  refine z_goto (tgt := 2138) dLaw_law_937 (by decide) ?_
  exact K _ _ h2 ma2 _ _ _ (zLi.fin C1 eo1 n1 n2 n3 H2 F2 A2 (ok_append hO) (oka_append oka)) m0 (by omega) (by omega)
theorem c_Law_15 {ou : Nat} {i : Int} {y5 y6 : Option Value} (I : zLi G h ad ma ou S) (hi : 0 ≤ i ∧ i + 4 ≤ L) (hb1 : 210 ≤ bc) (hb2 : 12100 ≤ bs) (K : zLK G l b L xs ad ma ou i bc bs) : zR G l (zLJ G b L xs) bc bs h 940 [some (.ref b), some (.ref (ad 0)), some (.ref (ma 0)), some (.ref ou), some (zi i), y5, y6] [] := by
  obtain ⟨th, n0, sv, hC, hM, hO, oka, eo, n1, n2, n3⟩ := I
  have h16 : ∀ k, k < 4 → (S.1 k).length ≤ 16 := fun k hk => (hC.ls hk).len
  have x1 := zX9_r (xs := xs) (i + 1)
  have x2 := zX9_r (xs := xs) (i + 2)
  have x3 := zX9_r (xs := xs) (i + 3)
  refine z_aload_n dLaw_law_940 rfl ?_
  refine z_aload_n dLaw_law_941 rfl ?_
  refine z_iload dLaw_law_942 rfl ?_
  refine z_iconst dLaw_law_944 ?_
  refine z_iadd dLaw_law_945 ?_
  refine z_sld (by omega) dLaw_law_946 ?_
  refine z_aload_n dLaw_law_947 rfl ?_
  refine z_iload dLaw_law_948 rfl ?_
  refine z_iconst dLaw_law_950 ?_
  refine z_iadd dLaw_law_951 ?_
  refine z_sld (by omega) dLaw_law_952 ?_
  refine z_aload_n dLaw_law_953 rfl ?_
  refine z_iload dLaw_law_954 rfl ?_
  refine z_iconst dLaw_law_956 ?_
  refine z_iadd dLaw_law_957 ?_
  refine z_sld (by omega) dLaw_law_958 ?_
  refine z_aload_n dLaw_law_959 rfl ?_
  refine z_callSX (bc' := bc - 6) (bs' := bs - 36) MW_Law_appendAt lk_Law_225 dLaw_law_960 (k_Law_appendAt hC (zX9_r (xs := xs) (i + 1)) (zX9_r (xs := xs) (i + 2)) (zX9_r (xs := xs) (i + 3)) eo n1) rfl rfl (Nat.le_of_ble_eq_true rfl) (Nat.le_of_ble_eq_true rfl) (Nat.le_of_ble_eq_true rfl) (by omega) (by omega) (fun _ _ q => q.elim) ?_
  rintro _ h1 ⟨k5, z5, sv5, rfl, C1, f1, eo1, e5⟩
  have H1 : zMod G h1 ma S th := hM.mid n2 n3 f1
  refine z_istore dLaw_law_963 (Nat.le_of_ble_eq_true rfl) ?_
  refine z_aload_n dLaw_law_965 rfl ?_
  refine z_aload_n dLaw_law_966 rfl ?_
  refine z_iload dLaw_law_967 rfl ?_
  refine z_iconst dLaw_law_969 ?_
  refine z_iadd dLaw_law_970 ?_
  refine z_sld (by omega) dLaw_law_971 ?_
  refine z_aload_n dLaw_law_972 rfl ?_
  refine z_iload dLaw_law_973 rfl ?_
  refine z_iconst dLaw_law_975 ?_
  refine z_iadd dLaw_law_976 ?_
  refine z_sld (by omega) dLaw_law_977 ?_
  refine z_aload_n dLaw_law_978 rfl ?_
  refine z_iload dLaw_law_979 rfl ?_
  refine z_iconst dLaw_law_981 ?_
  refine z_iadd dLaw_law_982 ?_
  refine z_sld (by omega) dLaw_law_983 ?_
  refine z_callV (bc' := bc - 6 - 16) (bs' := bs - 36 - 976) MV_Mod_appendAt lk_Law_227 dLaw_law_984 (k_Mod_appendAt H1 (zX9_r (xs := xs) (i + 1)) (zX9_r (xs := xs) (i + 2)) (zX9_r (xs := xs) (i + 3)) h16) rfl rfl (Nat.le_of_ble_eq_true rfl) rfl H1.2.1 (Nat.le_of_ble_eq_true rfl) (Nat.le_of_ble_eq_true rfl) (by omega) (by omega) (fun _ _ q => q.elim) ?_
  rintro _ h2 ⟨ma2, th2, z6, rfl, m0, H2, F2, A2, e6⟩
  refine z_istore dLaw_law_987 (Nat.le_of_ble_eq_true rfl) ?_
  refine z_goto (tgt := 2138) dLaw_law_989 (by decide) ?_
  exact K _ _ h2 ma2 _ _ _ (zLi.fin C1 eo1 n1 n2 n3 H2 F2 A2 (ok_appendAt hO) (oka_appendAt oka)) m0 (by omega) (by omega)
theorem c_Law_16 {ou : Nat} {i : Int} {y5 y6 : Option Value} (I : zLi G h ad ma ou S) (hi : 0 ≤ i ∧ i + 4 ≤ L) (hb1 : 210 ≤ bc) (hb2 : 12100 ≤ bs) (K : zLK G l b L xs ad ma ou i bc bs) : zR G l (zLJ G b L xs) bc bs h 992 [some (.ref b), some (.ref (ad 0)), some (.ref (ma 0)), some (.ref ou), some (zi i), y5, y6] [] := by
  obtain ⟨th, n0, sv, hC, hM, hO, oka, eo, n1, n2, n3⟩ := I
  have h16 : ∀ k, k < 4 → (S.1 k).length ≤ 16 := fun k hk => (hC.ls hk).len
  have x1 := zX9_r (xs := xs) (i + 1)
  have x2 := zX9_r (xs := xs) (i + 2)
  have x3 := zX9_r (xs := xs) (i + 3)
  refine z_aload_n dLaw_law_992 rfl ?_
  refine z_aload_n dLaw_law_993 rfl ?_
  refine z_iload dLaw_law_994 rfl ?_
  refine z_iconst dLaw_law_996 ?_
  refine z_iadd dLaw_law_997 ?_
  refine z_sld (by omega) dLaw_law_998 ?_
  refine z_aload_n dLaw_law_999 rfl ?_
  refine z_iload dLaw_law_1000 rfl ?_
  refine z_iconst dLaw_law_1002 ?_
  refine z_iadd dLaw_law_1003 ?_
  refine z_sld (by omega) dLaw_law_1004 ?_
  refine z_aload_n dLaw_law_1005 rfl ?_
  refine z_callSX (bc' := bc - 6) (bs' := bs - 36) MW_Law_copy lk_Law_228 dLaw_law_1006 (k_Law_copy hC (zX9_r (xs := xs) (i + 1)) (zX9_r (xs := xs) (i + 2)) eo n1) rfl rfl (Nat.le_of_ble_eq_true rfl) (Nat.le_of_ble_eq_true rfl) (Nat.le_of_ble_eq_true rfl) (by omega) (by omega) (fun _ _ q => q.elim) ?_
  rintro _ h1 ⟨k5, z5, sv5, rfl, C1, f1, eo1, e5⟩
  have H1 : zMod G h1 ma S th := hM.mid n2 n3 f1
  refine z_istore dLaw_law_1009 (Nat.le_of_ble_eq_true rfl) ?_
  refine z_aload_n dLaw_law_1011 rfl ?_
  refine z_aload_n dLaw_law_1012 rfl ?_
  refine z_iload dLaw_law_1013 rfl ?_
  refine z_iconst dLaw_law_1015 ?_
  refine z_iadd dLaw_law_1016 ?_
  refine z_sld (by omega) dLaw_law_1017 ?_
  refine z_aload_n dLaw_law_1018 rfl ?_
  refine z_iload dLaw_law_1019 rfl ?_
  refine z_iconst dLaw_law_1021 ?_
  refine z_iadd dLaw_law_1022 ?_
  refine z_sld (by omega) dLaw_law_1023 ?_
  refine z_callV (bc' := bc - 6 - 17) (bs' := bs - 36 - 976) MV_Mod_copy lk_Law_230 dLaw_law_1024 (k_Mod_copy H1 (zX9_r (xs := xs) (i + 1)) (zX9_r (xs := xs) (i + 2)) h16) rfl rfl (Nat.le_of_ble_eq_true rfl) rfl H1.2.1 (Nat.le_of_ble_eq_true rfl) (Nat.le_of_ble_eq_true rfl) (by omega) (by omega) (fun _ _ q => q.elim) ?_
  rintro _ h2 ⟨ma2, th2, z6, rfl, m0, H2, F2, A2, e6⟩
  refine z_istore dLaw_law_1027 (Nat.le_of_ble_eq_true rfl) ?_
  refine z_goto (tgt := 2138) dLaw_law_1029 (by decide) ?_
  exact K _ _ h2 ma2 _ _ _ (zLi.fin C1 eo1 n1 n2 n3 H2 F2 A2 (ok_copy hO) (oka_copy oka)) m0 (by omega) (by omega)
theorem c_Law_17 {ou : Nat} {i : Int} {y5 y6 : Option Value} (I : zLi G h ad ma ou S) (hi : 0 ≤ i ∧ i + 4 ≤ L) (hb1 : 210 ≤ bc) (hb2 : 12100 ≤ bs) (K : zLK G l b L xs ad ma ou i bc bs) : zR G l (zLJ G b L xs) bc bs h 1032 [some (.ref b), some (.ref (ad 0)), some (.ref (ma 0)), some (.ref ou), some (zi i), y5, y6] [] := by
  obtain ⟨th, n0, sv, hC, hM, hO, oka, eo, n1, n2, n3⟩ := I
  have h16 : ∀ k, k < 4 → (S.1 k).length ≤ 16 := fun k hk => (hC.ls hk).len
  have x1 := zX9_r (xs := xs) (i + 1)
  have x2 := zX9_r (xs := xs) (i + 2)
  have x3 := zX9_r (xs := xs) (i + 3)
  refine z_aload_n dLaw_law_1032 rfl ?_
  refine z_aload_n dLaw_law_1033 rfl ?_
  refine z_iload dLaw_law_1034 rfl ?_
  refine z_iconst dLaw_law_1036 ?_
  refine z_iadd dLaw_law_1037 ?_
  refine z_sld (by omega) dLaw_law_1038 ?_
  refine z_aload_n dLaw_law_1039 rfl ?_
  refine z_iload dLaw_law_1040 rfl ?_
  refine z_iconst dLaw_law_1042 ?_
  refine z_iadd dLaw_law_1043 ?_
  refine z_sld (by omega) dLaw_law_1044 ?_
  refine z_aload_n dLaw_law_1045 rfl ?_
  refine z_callSX (bc' := bc - 6) (bs' := bs - 36) MW_Law_places lk_Law_231 dLaw_law_1046 (k_Law_places hC (zX9_r (xs := xs) (i + 1)) (zX9_r (xs := xs) (i + 2)) eo n1) rfl rfl (Nat.le_of_ble_eq_true rfl) (Nat.le_of_ble_eq_true rfl) (Nat.le_of_ble_eq_true rfl) (by omega) (by omega) (fun _ _ q => q.elim) ?_
  rintro _ h1 ⟨k5, z5, sv5, rfl, C1, f1, eo1, e5⟩
  have H1 : zMod G h1 ma S th := hM.mid n2 n3 f1
  refine z_istore dLaw_law_1049 (Nat.le_of_ble_eq_true rfl) ?_
  refine z_aload_n dLaw_law_1051 rfl ?_
  refine z_aload_n dLaw_law_1052 rfl ?_
  refine z_iload dLaw_law_1053 rfl ?_
  refine z_iconst dLaw_law_1055 ?_
  refine z_iadd dLaw_law_1056 ?_
  refine z_sld (by omega) dLaw_law_1057 ?_
  refine z_aload_n dLaw_law_1058 rfl ?_
  refine z_iload dLaw_law_1059 rfl ?_
  refine z_iconst dLaw_law_1061 ?_
  refine z_iadd dLaw_law_1062 ?_
  refine z_sld (by omega) dLaw_law_1063 ?_
  refine z_callV (bc' := bc - 6 - 1) (bs' := bs - 36 - 16) MV_Mod_places lk_Law_233 dLaw_law_1064 (k_Mod_places H1 (zX9_r (xs := xs) (i + 1)) (zX9_r (xs := xs) (i + 2)) h16) rfl rfl (Nat.le_of_ble_eq_true rfl) rfl H1.2.1 (Nat.le_of_ble_eq_true rfl) (Nat.le_of_ble_eq_true rfl) (by omega) (by omega) (fun _ _ q => q.elim) ?_
  rintro _ h2 ⟨ma2, th2, z6, rfl, m0, H2, F2, A2, e6⟩
  refine z_istore dLaw_law_1067 (Nat.le_of_ble_eq_true rfl) ?_
  refine z_goto (tgt := 2138) dLaw_law_1069 (by decide) ?_
  exact K _ _ h2 ma2 _ _ _ (zLi.fin C1 eo1 n1 n2 n3 H2 F2 A2 (ok_places hO) (oka_places oka)) m0 (by omega) (by omega)
theorem c_Law_18 {ou : Nat} {i : Int} {y5 y6 : Option Value} (I : zLi G h ad ma ou S) (hi : 0 ≤ i ∧ i + 4 ≤ L) (hb1 : 210 ≤ bc) (hb2 : 12100 ≤ bs) (K : zLK G l b L xs ad ma ou i bc bs) : zR G l (zLJ G b L xs) bc bs h 1072 [some (.ref b), some (.ref (ad 0)), some (.ref (ma 0)), some (.ref ou), some (zi i), y5, y6] [] := by
  obtain ⟨th, n0, sv, hC, hM, hO, oka, eo, n1, n2, n3⟩ := I
  have h16 : ∀ k, k < 4 → (S.1 k).length ≤ 16 := fun k hk => (hC.ls hk).len
  have x1 := zX9_r (xs := xs) (i + 1)
  have x2 := zX9_r (xs := xs) (i + 2)
  have x3 := zX9_r (xs := xs) (i + 3)
  refine z_aload_n dLaw_law_1072 rfl ?_
  refine z_aload_n dLaw_law_1073 rfl ?_
  refine z_iload dLaw_law_1074 rfl ?_
  refine z_iconst dLaw_law_1076 ?_
  refine z_iadd dLaw_law_1077 ?_
  refine z_sld (by omega) dLaw_law_1078 ?_
  refine z_aload_n dLaw_law_1079 rfl ?_
  refine z_iload dLaw_law_1080 rfl ?_
  refine z_iconst dLaw_law_1082 ?_
  refine z_iadd dLaw_law_1083 ?_
  refine z_sld (by omega) dLaw_law_1084 ?_
  refine z_aload_n dLaw_law_1085 rfl ?_
  refine z_callSX (bc' := bc - 6) (bs' := bs - 36) MW_Law_rotate lk_Law_234 dLaw_law_1086 (k_Law_rotate hC (zX9_r (xs := xs) (i + 1)) (zX9_r (xs := xs) (i + 2)) eo n1) rfl rfl (Nat.le_of_ble_eq_true rfl) (Nat.le_of_ble_eq_true rfl) (Nat.le_of_ble_eq_true rfl) (by omega) (by omega) (fun _ _ q => q.elim) ?_
  rintro _ h1 ⟨k5, z5, sv5, rfl, C1, f1, eo1, e5⟩
  have H1 : zMod G h1 ma S th := hM.mid n2 n3 f1
  refine z_istore dLaw_law_1089 (Nat.le_of_ble_eq_true rfl) ?_
  refine z_aload_n dLaw_law_1091 rfl ?_
  refine z_aload_n dLaw_law_1092 rfl ?_
  refine z_iload dLaw_law_1093 rfl ?_
  refine z_iconst dLaw_law_1095 ?_
  refine z_iadd dLaw_law_1096 ?_
  refine z_sld (by omega) dLaw_law_1097 ?_
  refine z_aload_n dLaw_law_1098 rfl ?_
  refine z_iload dLaw_law_1099 rfl ?_
  refine z_iconst dLaw_law_1101 ?_
  refine z_iadd dLaw_law_1102 ?_
  refine z_sld (by omega) dLaw_law_1103 ?_
  refine z_callV (bc' := bc - 6 - 198) (bs' := bs - 36 - 11979) MV_Mod_rotate lk_Law_236 dLaw_law_1104 (k_Mod_rotate H1 (zX9_r (xs := xs) (i + 1)) (zX9_r (xs := xs) (i + 2)) h16) rfl rfl (Nat.le_of_ble_eq_true rfl) rfl H1.2.1 (Nat.le_of_ble_eq_true rfl) (Nat.le_of_ble_eq_true rfl) (by omega) (by omega) (fun _ _ q => q.elim) ?_
  rintro _ h2 ⟨ma2, th2, z6, rfl, m0, H2, F2, A2, e6⟩
  refine z_istore dLaw_law_1107 (Nat.le_of_ble_eq_true rfl) ?_
  refine z_goto (tgt := 2138) dLaw_law_1109 (by decide) ?_
  exact K _ _ h2 ma2 _ _ _ (zLi.fin C1 eo1 n1 n2 n3 H2 F2 A2 (ok_rotate hO) (oka_rotate oka)) m0 (by omega) (by omega)
theorem c_Law_19 {ou : Nat} {i : Int} {y5 y6 : Option Value} (I : zLi G h ad ma ou S) (hi : 0 ≤ i ∧ i + 4 ≤ L) (hb1 : 210 ≤ bc) (hb2 : 12100 ≤ bs) (K : zLK G l b L xs ad ma ou i bc bs) : zR G l (zLJ G b L xs) bc bs h 1112 [some (.ref b), some (.ref (ad 0)), some (.ref (ma 0)), some (.ref ou), some (zi i), y5, y6] [] := by
  obtain ⟨th, n0, sv, hC, hM, hO, oka, eo, n1, n2, n3⟩ := I
  have h16 : ∀ k, k < 4 → (S.1 k).length ≤ 16 := fun k hk => (hC.ls hk).len
  have x1 := zX9_r (xs := xs) (i + 1)
  have x2 := zX9_r (xs := xs) (i + 2)
  have x3 := zX9_r (xs := xs) (i + 3)
  refine z_aload_n dLaw_law_1112 rfl ?_
  refine z_aload_n dLaw_law_1113 rfl ?_
  refine z_iload dLaw_law_1114 rfl ?_
  refine z_iconst dLaw_law_1116 ?_
  refine z_iadd dLaw_law_1117 ?_
  refine z_sld (by omega) dLaw_law_1118 ?_
  refine z_aload_n dLaw_law_1119 rfl ?_
  refine z_iload dLaw_law_1120 rfl ?_
  refine z_iconst dLaw_law_1122 ?_
  refine z_iadd dLaw_law_1123 ?_
  refine z_sld (by omega) dLaw_law_1124 ?_
  refine z_aload_n dLaw_law_1125 rfl ?_
  refine z_iload dLaw_law_1126 rfl ?_
  refine z_iconst dLaw_law_1128 ?_
  refine z_iadd dLaw_law_1129 ?_
  refine z_sld (by omega) dLaw_law_1130 ?_
  refine z_aload_n dLaw_law_1131 rfl ?_
  refine z_callSX (bc' := bc - 6) (bs' := bs - 36) MW_Law_move lk_Law_237 dLaw_law_1132 (k_Law_move hC (zX9_r (xs := xs) (i + 1)) (zX9_r (xs := xs) (i + 2)) (zX9_r (xs := xs) (i + 3)) eo n1) rfl rfl (Nat.le_of_ble_eq_true rfl) (Nat.le_of_ble_eq_true rfl) (Nat.le_of_ble_eq_true rfl) (by omega) (by omega) (fun _ _ q => q.elim) ?_
  rintro _ h1 ⟨k5, z5, sv5, rfl, C1, f1, eo1, e5⟩
  have H1 : zMod G h1 ma S th := hM.mid n2 n3 f1
  refine z_istore dLaw_law_1135 (Nat.le_of_ble_eq_true rfl) ?_
  refine z_aload_n dLaw_law_1137 rfl ?_
  refine z_aload_n dLaw_law_1138 rfl ?_
  refine z_iload dLaw_law_1139 rfl ?_
  refine z_iconst dLaw_law_1141 ?_
  refine z_iadd dLaw_law_1142 ?_
  refine z_sld (by omega) dLaw_law_1143 ?_
  refine z_aload_n dLaw_law_1144 rfl ?_
  refine z_iload dLaw_law_1145 rfl ?_
  refine z_iconst dLaw_law_1147 ?_
  refine z_iadd dLaw_law_1148 ?_
  refine z_sld (by omega) dLaw_law_1149 ?_
  refine z_aload_n dLaw_law_1150 rfl ?_
  refine z_iload dLaw_law_1151 rfl ?_
  refine z_iconst dLaw_law_1153 ?_
  refine z_iadd dLaw_law_1154 ?_
  refine z_sld (by omega) dLaw_law_1155 ?_
  refine z_callV (bc' := bc - 6 - 2) (bs' := bs - 36 - 121) MV_Mod_move lk_Law_239 dLaw_law_1156 (k_Mod_move H1 (zX9_r (xs := xs) (i + 1)) (zX9_r (xs := xs) (i + 2)) (zX9_r (xs := xs) (i + 3)) h16) rfl rfl (Nat.le_of_ble_eq_true rfl) rfl H1.2.1 (Nat.le_of_ble_eq_true rfl) (Nat.le_of_ble_eq_true rfl) (by omega) (by omega) (fun _ _ q => q.elim) ?_
  rintro _ h2 ⟨ma2, th2, z6, rfl, m0, H2, F2, A2, e6⟩
  refine z_istore dLaw_law_1159 (Nat.le_of_ble_eq_true rfl) ?_
  refine z_goto (tgt := 2138) dLaw_law_1161 (by decide) ?_
  exact K _ _ h2 ma2 _ _ _ (zLi.fin C1 eo1 n1 n2 n3 H2 F2 A2 (ok_move hO) (oka_move oka)) m0 (by omega) (by omega)
theorem c_Law_20 {ou : Nat} {i : Int} {y5 y6 : Option Value} (I : zLi G h ad ma ou S) (hi : 0 ≤ i ∧ i + 4 ≤ L) (hb1 : 210 ≤ bc) (hb2 : 12100 ≤ bs) (K : zLK G l b L xs ad ma ou i bc bs) : zR G l (zLJ G b L xs) bc bs h 1164 [some (.ref b), some (.ref (ad 0)), some (.ref (ma 0)), some (.ref ou), some (zi i), y5, y6] [] := by
  obtain ⟨th, n0, sv, hC, hM, hO, oka, eo, n1, n2, n3⟩ := I
  have h16 : ∀ k, k < 4 → (S.1 k).length ≤ 16 := fun k hk => (hC.ls hk).len
  have x1 := zX9_r (xs := xs) (i + 1)
  have x2 := zX9_r (xs := xs) (i + 2)
  have x3 := zX9_r (xs := xs) (i + 3)
  refine z_aload_n dLaw_law_1164 rfl ?_
  refine z_aload_n dLaw_law_1165 rfl ?_
  refine z_iload dLaw_law_1166 rfl ?_
  refine z_iconst dLaw_law_1168 ?_
  refine z_iadd dLaw_law_1169 ?_
  refine z_sld (by omega) dLaw_law_1170 ?_
  refine z_aload_n dLaw_law_1171 rfl ?_
  refine z_iload dLaw_law_1172 rfl ?_
  refine z_iconst dLaw_law_1174 ?_
  refine z_iadd dLaw_law_1175 ?_
  refine z_sld (by omega) dLaw_law_1176 ?_
  refine z_aload_n dLaw_law_1177 rfl ?_
  refine z_iload dLaw_law_1178 rfl ?_
  refine z_iconst dLaw_law_1180 ?_
  refine z_iadd dLaw_law_1181 ?_
  refine z_sld (by omega) dLaw_law_1182 ?_
  refine z_aload_n dLaw_law_1183 rfl ?_
  refine z_callSX (bc' := bc - 6) (bs' := bs - 36) MW_Law_swap lk_Law_240 dLaw_law_1184 (k_Law_swap hC (zX9_r (xs := xs) (i + 1)) (zX9_r (xs := xs) (i + 2)) (zX9_r (xs := xs) (i + 3)) eo n1) rfl rfl (Nat.le_of_ble_eq_true rfl) (Nat.le_of_ble_eq_true rfl) (Nat.le_of_ble_eq_true rfl) (by omega) (by omega) (fun _ _ q => q.elim) ?_
  rintro _ h1 ⟨k5, z5, sv5, rfl, C1, f1, eo1, e5⟩
  have H1 : zMod G h1 ma S th := hM.mid n2 n3 f1
  refine z_istore dLaw_law_1187 (Nat.le_of_ble_eq_true rfl) ?_
  refine z_aload_n dLaw_law_1189 rfl ?_
  refine z_aload_n dLaw_law_1190 rfl ?_
  refine z_iload dLaw_law_1191 rfl ?_
  refine z_iconst dLaw_law_1193 ?_
  refine z_iadd dLaw_law_1194 ?_
  refine z_sld (by omega) dLaw_law_1195 ?_
  refine z_aload_n dLaw_law_1196 rfl ?_
  refine z_iload dLaw_law_1197 rfl ?_
  refine z_iconst dLaw_law_1199 ?_
  refine z_iadd dLaw_law_1200 ?_
  refine z_sld (by omega) dLaw_law_1201 ?_
  refine z_aload_n dLaw_law_1202 rfl ?_
  refine z_iload dLaw_law_1203 rfl ?_
  refine z_iconst dLaw_law_1205 ?_
  refine z_iadd dLaw_law_1206 ?_
  refine z_sld (by omega) dLaw_law_1207 ?_
  refine z_callV (bc' := bc - 6 - 0) (bs' := bs - 36 - 0) MV_Mod_swap lk_Law_242 dLaw_law_1208 (k_Mod_swap H1 (zX9_r (xs := xs) (i + 1)) (zX9_r (xs := xs) (i + 2)) (zX9_r (xs := xs) (i + 3)) h16) rfl rfl (Nat.le_of_ble_eq_true rfl) rfl H1.2.1 (Nat.le_of_ble_eq_true rfl) (Nat.le_of_ble_eq_true rfl) (by omega) (by omega) (fun _ _ q => q.elim) ?_
  rintro _ h2 ⟨ma2, th2, z6, rfl, m0, H2, F2, A2, e6⟩
  refine z_istore dLaw_law_1211 (Nat.le_of_ble_eq_true rfl) ?_
  refine z_goto (tgt := 2138) dLaw_law_1213 (by decide) ?_
  exact K _ _ h2 ma2 _ _ _ (zLi.fin C1 eo1 n1 n2 n3 H2 F2 A2 (ok_swap hO) (oka_swap oka)) m0 (by omega) (by omega)
theorem c_Law_21 {ou : Nat} {i : Int} {y5 y6 : Option Value} (I : zLi G h ad ma ou S) (hi : 0 ≤ i ∧ i + 4 ≤ L) (hb1 : 210 ≤ bc) (hb2 : 12100 ≤ bs) (K : zLK G l b L xs ad ma ou i bc bs) : zR G l (zLJ G b L xs) bc bs h 1216 [some (.ref b), some (.ref (ad 0)), some (.ref (ma 0)), some (.ref ou), some (zi i), y5, y6] [] := by
  obtain ⟨th, n0, sv, hC, hM, hO, oka, eo, n1, n2, n3⟩ := I
  have h16 : ∀ k, k < 4 → (S.1 k).length ≤ 16 := fun k hk => (hC.ls hk).len
  have x1 := zX9_r (xs := xs) (i + 1)
  have x2 := zX9_r (xs := xs) (i + 2)
  have x3 := zX9_r (xs := xs) (i + 3)
  refine z_aload_n dLaw_law_1216 rfl ?_
  refine z_aload_n dLaw_law_1217 rfl ?_
  refine z_iload dLaw_law_1218 rfl ?_
  refine z_iconst dLaw_law_1220 ?_
  refine z_iadd dLaw_law_1221 ?_
  refine z_sld (by omega) dLaw_law_1222 ?_
  refine z_aload_n dLaw_law_1223 rfl ?_
  refine z_callSX (bc' := bc - 6) (bs' := bs - 36) MW_Law_reverse lk_Law_243 dLaw_law_1224 (k_Law_reverse hC (zX9_r (xs := xs) (i + 1)) eo n1) rfl rfl (Nat.le_of_ble_eq_true rfl) (Nat.le_of_ble_eq_true rfl) (Nat.le_of_ble_eq_true rfl) (by omega) (by omega) (fun _ _ q => q.elim) ?_
  rintro _ h1 ⟨k5, z5, sv5, rfl, C1, f1, eo1, e5⟩
  have H1 : zMod G h1 ma S th := hM.mid n2 n3 f1
  refine z_istore dLaw_law_1227 (Nat.le_of_ble_eq_true rfl) ?_
  refine z_aload_n dLaw_law_1229 rfl ?_
  refine z_aload_n dLaw_law_1230 rfl ?_
  refine z_iload dLaw_law_1231 rfl ?_
  refine z_iconst dLaw_law_1233 ?_
  refine z_iadd dLaw_law_1234 ?_
  refine z_sld (by omega) dLaw_law_1235 ?_
  refine z_callV (bc' := bc - 6 - 1) (bs' := bs - 36 - 61) MV_Mod_reverse lk_Law_245 dLaw_law_1236 (k_Mod_reverse H1 (zX9_r (xs := xs) (i + 1)) h16) rfl rfl (Nat.le_of_ble_eq_true rfl) rfl H1.2.1 (Nat.le_of_ble_eq_true rfl) (Nat.le_of_ble_eq_true rfl) (by omega) (by omega) (fun _ _ q => q.elim) ?_
  rintro _ h2 ⟨ma2, th2, z6, rfl, m0, H2, F2, A2, e6⟩
  refine z_istore dLaw_law_1239 (Nat.le_of_ble_eq_true rfl) ?_
  refine z_goto (tgt := 2138) dLaw_law_1241 (by decide) ?_
  exact K _ _ h2 ma2 _ _ _ (zLi.fin C1 eo1 n1 n2 n3 H2 F2 A2 (ok_reverse hO) (oka_reverse oka)) m0 (by omega) (by omega)
theorem c_Law_22 {ou : Nat} {i : Int} {y5 y6 : Option Value} (I : zLi G h ad ma ou S) (hi : 0 ≤ i ∧ i + 4 ≤ L) (hb1 : 210 ≤ bc) (hb2 : 12100 ≤ bs) (K : zLK G l b L xs ad ma ou i bc bs) : zR G l (zLJ G b L xs) bc bs h 1244 [some (.ref b), some (.ref (ad 0)), some (.ref (ma 0)), some (.ref ou), some (zi i), y5, y6] [] := by
  obtain ⟨th, n0, sv, hC, hM, hO, oka, eo, n1, n2, n3⟩ := I
  have h16 : ∀ k, k < 4 → (S.1 k).length ≤ 16 := fun k hk => (hC.ls hk).len
  have x1 := zX9_r (xs := xs) (i + 1)
  have x2 := zX9_r (xs := xs) (i + 2)
  have x3 := zX9_r (xs := xs) (i + 3)
  refine z_aload_n dLaw_law_1244 rfl ?_
  refine z_aload_n dLaw_law_1245 rfl ?_
  refine z_iload dLaw_law_1246 rfl ?_
  refine z_iconst dLaw_law_1248 ?_
  refine z_iadd dLaw_law_1249 ?_
  refine z_sld (by omega) dLaw_law_1250 ?_
  refine z_aload_n dLaw_law_1251 rfl ?_
  refine z_iload dLaw_law_1252 rfl ?_
  refine z_iconst dLaw_law_1254 ?_
  refine z_iadd dLaw_law_1255 ?_
  refine z_sld (by omega) dLaw_law_1256 ?_
  refine z_aload_n dLaw_law_1257 rfl ?_
  refine z_iload dLaw_law_1258 rfl ?_
  refine z_iconst dLaw_law_1260 ?_
  refine z_iadd dLaw_law_1261 ?_
  refine z_sld (by omega) dLaw_law_1262 ?_
  refine z_aload_n dLaw_law_1263 rfl ?_
  refine z_callSX (bc' := bc - 6) (bs' := bs - 36) MW_Law_through lk_Law_246 dLaw_law_1264 (k_Law_through hC (zX9_r (xs := xs) (i + 1)) (zX9_r (xs := xs) (i + 2)) (zX9_r (xs := xs) (i + 3)) eo n1) rfl rfl (Nat.le_of_ble_eq_true rfl) (Nat.le_of_ble_eq_true rfl) (Nat.le_of_ble_eq_true rfl) (by omega) (by omega) (fun _ _ q => q.elim) ?_
  rintro _ h1 ⟨k5, z5, sv5, rfl, C1, f1, eo1, e5⟩
  have H1 : zMod G h1 ma S th := hM.mid n2 n3 f1
  refine z_istore dLaw_law_1267 (Nat.le_of_ble_eq_true rfl) ?_
  refine z_aload_n dLaw_law_1269 rfl ?_
  refine z_aload_n dLaw_law_1270 rfl ?_
  refine z_iload dLaw_law_1271 rfl ?_
  refine z_iconst dLaw_law_1273 ?_
  refine z_iadd dLaw_law_1274 ?_
  refine z_sld (by omega) dLaw_law_1275 ?_
  refine z_aload_n dLaw_law_1276 rfl ?_
  refine z_iload dLaw_law_1277 rfl ?_
  refine z_iconst dLaw_law_1279 ?_
  refine z_iadd dLaw_law_1280 ?_
  refine z_sld (by omega) dLaw_law_1281 ?_
  refine z_aload_n dLaw_law_1282 rfl ?_
  refine z_iload dLaw_law_1283 rfl ?_
  refine z_iconst dLaw_law_1285 ?_
  refine z_iadd dLaw_law_1286 ?_
  refine z_sld (by omega) dLaw_law_1287 ?_
  refine z_callV (bc' := bc - 6 - 1) (bs' := bs - 36 - 16) MV_Mod_through lk_Law_248 dLaw_law_1288 (k_Mod_through H1 (zX9_r (xs := xs) (i + 1)) (zX9_r (xs := xs) (i + 2)) (zX9_r (xs := xs) (i + 3)) h16) rfl rfl (Nat.le_of_ble_eq_true rfl) rfl H1.2.1 (Nat.le_of_ble_eq_true rfl) (Nat.le_of_ble_eq_true rfl) (by omega) (by omega) (fun _ _ q => q.elim) ?_
  rintro _ h2 ⟨ma2, th2, z6, rfl, m0, H2, F2, A2, e6⟩
  refine z_istore dLaw_law_1291 (Nat.le_of_ble_eq_true rfl) ?_
  refine z_goto (tgt := 2138) dLaw_law_1293 (by decide) ?_
  exact K _ _ h2 ma2 _ _ _ (zLi.fin C1 eo1 n1 n2 n3 H2 F2 A2 (ok_through hO) (oka_through oka)) m0 (by omega) (by omega)
theorem c_Law_23 {ou : Nat} {i : Int} {y5 y6 : Option Value} (I : zLi G h ad ma ou S) (hi : 0 ≤ i ∧ i + 4 ≤ L) (hb1 : 210 ≤ bc) (hb2 : 12100 ≤ bs) (K : zLK G l b L xs ad ma ou i bc bs) : zR G l (zLJ G b L xs) bc bs h 1296 [some (.ref b), some (.ref (ad 0)), some (.ref (ma 0)), some (.ref ou), some (zi i), y5, y6] [] := by
  obtain ⟨th, n0, sv, hC, hM, hO, oka, eo, n1, n2, n3⟩ := I
  have h16 : ∀ k, k < 4 → (S.1 k).length ≤ 16 := fun k hk => (hC.ls hk).len
  have x1 := zX9_r (xs := xs) (i + 1)
  have x2 := zX9_r (xs := xs) (i + 2)
  have x3 := zX9_r (xs := xs) (i + 3)
  refine z_aload_n dLaw_law_1296 rfl ?_
  refine z_aload_n dLaw_law_1297 rfl ?_
  refine z_iload dLaw_law_1298 rfl ?_
  refine z_iconst dLaw_law_1300 ?_
  refine z_iadd dLaw_law_1301 ?_
  refine z_sld (by omega) dLaw_law_1302 ?_
  refine z_aload_n dLaw_law_1303 rfl ?_
  refine z_iload dLaw_law_1304 rfl ?_
  refine z_iconst dLaw_law_1306 ?_
  refine z_iadd dLaw_law_1307 ?_
  refine z_sld (by omega) dLaw_law_1308 ?_
  refine z_aload_n dLaw_law_1309 rfl ?_
  refine z_callSX (bc' := bc - 6) (bs' := bs - 36) MW_Law_areSame lk_Law_249 dLaw_law_1310 (k_Law_areSame hC (zX9_r (xs := xs) (i + 1)) (zX9_r (xs := xs) (i + 2)) eo n1) rfl rfl (Nat.le_of_ble_eq_true rfl) (Nat.le_of_ble_eq_true rfl) (Nat.le_of_ble_eq_true rfl) (by omega) (by omega) (fun _ _ q => q.elim) ?_
  rintro _ h1 ⟨k5, z5, sv5, rfl, C1, f1, eo1, e5⟩
  have H1 : zMod G h1 ma S th := hM.mid n2 n3 f1
  refine z_istore dLaw_law_1313 (Nat.le_of_ble_eq_true rfl) ?_
  refine z_aload_n dLaw_law_1315 rfl ?_
  refine z_aload_n dLaw_law_1316 rfl ?_
  refine z_iload dLaw_law_1317 rfl ?_
  refine z_iconst dLaw_law_1319 ?_
  refine z_iadd dLaw_law_1320 ?_
  refine z_sld (by omega) dLaw_law_1321 ?_
  refine z_aload_n dLaw_law_1322 rfl ?_
  refine z_iload dLaw_law_1323 rfl ?_
  refine z_iconst dLaw_law_1325 ?_
  refine z_iadd dLaw_law_1326 ?_
  refine z_sld (by omega) dLaw_law_1327 ?_
  refine z_callV (bc' := bc - 6 - 0) (bs' := bs - 36 - 0) MV_Mod_areSame lk_Law_251 dLaw_law_1328 (k_Mod_areSame H1 (zX9_r (xs := xs) (i + 1)) (zX9_r (xs := xs) (i + 2))) rfl rfl (Nat.le_of_ble_eq_true rfl) rfl H1.2.1 (Nat.le_of_ble_eq_true rfl) (Nat.le_of_ble_eq_true rfl) (by omega) (by omega) (fun _ _ q => q.elim) ?_
  rintro _ h2 ⟨ma2, th2, z6, rfl, m0, H2, F2, A2, e6⟩
  refine z_istore dLaw_law_1331 (Nat.le_of_ble_eq_true rfl) ?_
  refine z_goto (tgt := 2138) dLaw_law_1333 (by decide) ?_
  exact K _ _ h2 ma2 _ _ _ (zLi.fin C1 eo1 n1 n2 n3 H2 F2 A2 (ok_areSame hO) (oka_areSame oka)) m0 (by omega) (by omega)
theorem c_Law_24 {ou : Nat} {i : Int} {y5 y6 : Option Value} (I : zLi G h ad ma ou S) (hi : 0 ≤ i ∧ i + 4 ≤ L) (hb1 : 210 ≤ bc) (hb2 : 12100 ≤ bs) (K : zLK G l b L xs ad ma ou i bc bs) : zR G l (zLJ G b L xs) bc bs h 1336 [some (.ref b), some (.ref (ad 0)), some (.ref (ma 0)), some (.ref ou), some (zi i), y5, y6] [] := by
  obtain ⟨th, n0, sv, hC, hM, hO, oka, eo, n1, n2, n3⟩ := I
  have h16 : ∀ k, k < 4 → (S.1 k).length ≤ 16 := fun k hk => (hC.ls hk).len
  have x1 := zX9_r (xs := xs) (i + 1)
  have x2 := zX9_r (xs := xs) (i + 2)
  have x3 := zX9_r (xs := xs) (i + 3)
  refine z_aload_n dLaw_law_1336 rfl ?_
  refine z_aload_n dLaw_law_1337 rfl ?_
  refine z_iload dLaw_law_1338 rfl ?_
  refine z_iconst dLaw_law_1340 ?_
  refine z_iadd dLaw_law_1341 ?_
  refine z_sld (by omega) dLaw_law_1342 ?_
  refine z_aload_n dLaw_law_1343 rfl ?_
  refine z_callSX (bc' := bc - 6) (bs' := bs - 36) MW_Law_isMirror lk_Law_252 dLaw_law_1344 (k_Law_isMirror hC (zX9_r (xs := xs) (i + 1)) eo n1) rfl rfl (Nat.le_of_ble_eq_true rfl) (Nat.le_of_ble_eq_true rfl) (Nat.le_of_ble_eq_true rfl) (by omega) (by omega) (fun _ _ q => q.elim) ?_
  rintro _ h1 ⟨k5, z5, sv5, rfl, C1, f1, eo1, e5⟩
  have H1 : zMod G h1 ma S th := hM.mid n2 n3 f1
  refine z_istore dLaw_law_1347 (Nat.le_of_ble_eq_true rfl) ?_
  refine z_aload_n dLaw_law_1349 rfl ?_
  refine z_aload_n dLaw_law_1350 rfl ?_
  refine z_iload dLaw_law_1351 rfl ?_
  refine z_iconst dLaw_law_1353 ?_
  refine z_iadd dLaw_law_1354 ?_
  refine z_sld (by omega) dLaw_law_1355 ?_
  refine z_callV (bc' := bc - 6 - 1) (bs' := bs - 36 - 61) MV_Mod_isMirror lk_Law_254 dLaw_law_1356 (k_Mod_isMirror H1 (zX9_r (xs := xs) (i + 1)) h16) rfl rfl (Nat.le_of_ble_eq_true rfl) rfl H1.2.1 (Nat.le_of_ble_eq_true rfl) (Nat.le_of_ble_eq_true rfl) (by omega) (by omega) (fun _ _ q => q.elim) ?_
  rintro _ h2 ⟨ma2, th2, z6, rfl, m0, H2, F2, A2, e6⟩
  refine z_istore dLaw_law_1359 (Nat.le_of_ble_eq_true rfl) ?_
  refine z_goto (tgt := 2138) dLaw_law_1361 (by decide) ?_
  exact K _ _ h2 ma2 _ _ _ (zLi.fin C1 eo1 n1 n2 n3 H2 F2 A2 (ok_isMirror hO) (oka_isMirror oka)) m0 (by omega) (by omega)
theorem c_Law_25 {ou : Nat} {i : Int} {y5 y6 : Option Value} (I : zLi G h ad ma ou S) (hi : 0 ≤ i ∧ i + 4 ≤ L) (hb1 : 210 ≤ bc) (hb2 : 12100 ≤ bs) (K : zLK G l b L xs ad ma ou i bc bs) : zR G l (zLJ G b L xs) bc bs h 1364 [some (.ref b), some (.ref (ad 0)), some (.ref (ma 0)), some (.ref ou), some (zi i), y5, y6] [] := by
  obtain ⟨th, n0, sv, hC, hM, hO, oka, eo, n1, n2, n3⟩ := I
  have h16 : ∀ k, k < 4 → (S.1 k).length ≤ 16 := fun k hk => (hC.ls hk).len
  have x1 := zX9_r (xs := xs) (i + 1)
  have x2 := zX9_r (xs := xs) (i + 2)
  have x3 := zX9_r (xs := xs) (i + 3)
  refine z_aload_n dLaw_law_1364 rfl ?_
  refine z_aload_n dLaw_law_1365 rfl ?_
  refine z_iload dLaw_law_1366 rfl ?_
  refine z_iconst dLaw_law_1368 ?_
  refine z_iadd dLaw_law_1369 ?_
  refine z_sld (by omega) dLaw_law_1370 ?_
  refine z_aload_n dLaw_law_1371 rfl ?_
  refine z_iload dLaw_law_1372 rfl ?_
  refine z_iconst dLaw_law_1374 ?_
  refine z_iadd dLaw_law_1375 ?_
  refine z_sld (by omega) dLaw_law_1376 ?_
  refine z_aload_n dLaw_law_1377 rfl ?_
  refine z_iload dLaw_law_1378 rfl ?_
  refine z_iconst dLaw_law_1380 ?_
  refine z_iadd dLaw_law_1381 ?_
  refine z_sld (by omega) dLaw_law_1382 ?_
  refine z_aload_n dLaw_law_1383 rfl ?_
  refine z_callSX (bc' := bc - 6) (bs' := bs - 36) MW_Law_open lk_Law_255 dLaw_law_1384 (k_Law_open hC (zX9_r (xs := xs) (i + 1)) (zX9_r (xs := xs) (i + 2)) (zX9_r (xs := xs) (i + 3)) eo n1) rfl rfl (Nat.le_of_ble_eq_true rfl) (Nat.le_of_ble_eq_true rfl) (Nat.le_of_ble_eq_true rfl) (by omega) (by omega) (fun _ _ q => q.elim) ?_
  rintro _ h1 ⟨k5, z5, sv5, rfl, C1, f1, eo1, e5⟩
  have H1 : zMod G h1 ma S th := hM.mid n2 n3 f1
  refine z_istore dLaw_law_1387 (Nat.le_of_ble_eq_true rfl) ?_
  refine z_aload_n dLaw_law_1389 rfl ?_
  refine z_aload_n dLaw_law_1390 rfl ?_
  refine z_iload dLaw_law_1391 rfl ?_
  refine z_iconst dLaw_law_1393 ?_
  refine z_iadd dLaw_law_1394 ?_
  refine z_sld (by omega) dLaw_law_1395 ?_
  refine z_aload_n dLaw_law_1396 rfl ?_
  refine z_iload dLaw_law_1397 rfl ?_
  refine z_iconst dLaw_law_1399 ?_
  refine z_iadd dLaw_law_1400 ?_
  refine z_sld (by omega) dLaw_law_1401 ?_
  refine z_aload_n dLaw_law_1402 rfl ?_
  refine z_iload dLaw_law_1403 rfl ?_
  refine z_iconst dLaw_law_1405 ?_
  refine z_iadd dLaw_law_1406 ?_
  refine z_sld (by omega) dLaw_law_1407 ?_
  refine z_callV (bc' := bc - 6 - 0) (bs' := bs - 36 - 0) MV_Mod_open lk_Law_257 dLaw_law_1408 (k_Mod_open H1 (zX9_r (xs := xs) (i + 1)) (zX9_r (xs := xs) (i + 2)) (zX9_r (xs := xs) (i + 3)) h16) rfl rfl (Nat.le_of_ble_eq_true rfl) rfl H1.2.1 (Nat.le_of_ble_eq_true rfl) (Nat.le_of_ble_eq_true rfl) (by omega) (by omega) (fun _ _ q => q.elim) ?_
  rintro _ h2 ⟨ma2, th2, z6, rfl, m0, H2, F2, A2, e6⟩
  refine z_istore dLaw_law_1411 (Nat.le_of_ble_eq_true rfl) ?_
  refine z_goto (tgt := 2138) dLaw_law_1413 (by decide) ?_
  exact K _ _ h2 ma2 _ _ _ (zLi.fin C1 eo1 n1 n2 n3 H2 F2 A2 (ok_open hO h16) (oka_open oka)) m0 (by omega) (by omega)
theorem c_Law_26 {ou : Nat} {i : Int} {y5 y6 : Option Value} (I : zLi G h ad ma ou S) (hi : 0 ≤ i ∧ i + 4 ≤ L) (hb1 : 210 ≤ bc) (hb2 : 12100 ≤ bs) (K : zLK G l b L xs ad ma ou i bc bs) : zR G l (zLJ G b L xs) bc bs h 1416 [some (.ref b), some (.ref (ad 0)), some (.ref (ma 0)), some (.ref ou), some (zi i), y5, y6] [] := by
  obtain ⟨th, n0, sv, hC, hM, hO, oka, eo, n1, n2, n3⟩ := I
  have h16 : ∀ k, k < 4 → (S.1 k).length ≤ 16 := fun k hk => (hC.ls hk).len
  have x1 := zX9_r (xs := xs) (i + 1)
  have x2 := zX9_r (xs := xs) (i + 2)
  have x3 := zX9_r (xs := xs) (i + 3)
  refine z_aload_n dLaw_law_1416 rfl ?_
  refine z_aload_n dLaw_law_1417 rfl ?_
  refine z_iload dLaw_law_1418 rfl ?_
  refine z_iconst dLaw_law_1420 ?_
  refine z_iadd dLaw_law_1421 ?_
  refine z_sld (by omega) dLaw_law_1422 ?_
  refine z_aload_n dLaw_law_1423 rfl ?_
  refine z_callSX (bc' := bc - 6) (bs' := bs - 36) MW_Law_shut lk_Law_258 dLaw_law_1424 (k_Law_shut hC (zX9_r (xs := xs) (i + 1)) eo n1) rfl rfl (Nat.le_of_ble_eq_true rfl) (Nat.le_of_ble_eq_true rfl) (Nat.le_of_ble_eq_true rfl) (by omega) (by omega) (fun _ _ q => q.elim) ?_
  rintro _ h1 ⟨k5, z5, sv5, rfl, C1, f1, eo1, e5⟩
  have H1 : zMod G h1 ma S th := hM.mid n2 n3 f1
  refine z_istore dLaw_law_1427 (Nat.le_of_ble_eq_true rfl) ?_
  refine z_aload_n dLaw_law_1429 rfl ?_
  refine z_aload_n dLaw_law_1430 rfl ?_
  refine z_iload dLaw_law_1431 rfl ?_
  refine z_iconst dLaw_law_1433 ?_
  refine z_iadd dLaw_law_1434 ?_
  refine z_sld (by omega) dLaw_law_1435 ?_
  refine z_callV (bc' := bc - 6 - 0) (bs' := bs - 36 - 0) MV_Mod_shut lk_Law_260 dLaw_law_1436 (k_Mod_shut H1 (zX9_r (xs := xs) (i + 1)) h16) rfl rfl (Nat.le_of_ble_eq_true rfl) rfl H1.2.1 (Nat.le_of_ble_eq_true rfl) (Nat.le_of_ble_eq_true rfl) (by omega) (by omega) (fun _ _ q => q.elim) ?_
  rintro _ h2 ⟨ma2, th2, z6, rfl, m0, H2, F2, A2, e6⟩
  refine z_istore dLaw_law_1439 (Nat.le_of_ble_eq_true rfl) ?_
  refine z_goto (tgt := 2138) dLaw_law_1441 (by decide) ?_
  exact K _ _ h2 ma2 _ _ _ (zLi.fin C1 eo1 n1 n2 n3 H2 F2 A2 (ok_shut hO) (oka_shut oka)) m0 (by omega) (by omega)
theorem c_Law_27 {ou : Nat} {i : Int} {y5 y6 : Option Value} (I : zLi G h ad ma ou S) (hi : 0 ≤ i ∧ i + 4 ≤ L) (hb1 : 210 ≤ bc) (hb2 : 12100 ≤ bs) (K : zLK G l b L xs ad ma ou i bc bs) : zR G l (zLJ G b L xs) bc bs h 1444 [some (.ref b), some (.ref (ad 0)), some (.ref (ma 0)), some (.ref ou), some (zi i), y5, y6] [] := by
  obtain ⟨th, n0, sv, hC, hM, hO, oka, eo, n1, n2, n3⟩ := I
  have h16 : ∀ k, k < 4 → (S.1 k).length ≤ 16 := fun k hk => (hC.ls hk).len
  have x1 := zX9_r (xs := xs) (i + 1)
  have x2 := zX9_r (xs := xs) (i + 2)
  have x3 := zX9_r (xs := xs) (i + 3)
  refine z_aload_n dLaw_law_1444 rfl ?_
  refine z_aload_n dLaw_law_1445 rfl ?_
  refine z_iload dLaw_law_1446 rfl ?_
  refine z_iconst dLaw_law_1448 ?_
  refine z_iadd dLaw_law_1449 ?_
  refine z_sld (by omega) dLaw_law_1450 ?_
  refine z_aload_n dLaw_law_1451 rfl ?_
  refine z_callSX (bc' := bc - 6) (bs' := bs - 36) MW_Law_forth lk_Law_261 dLaw_law_1452 (k_Law_forth hO hC (zX9_r (xs := xs) (i + 1)) eo n1) rfl rfl (Nat.le_of_ble_eq_true rfl) (Nat.le_of_ble_eq_true rfl) (Nat.le_of_ble_eq_true rfl) (by omega) (by omega) (fun _ _ q => q.elim) ?_
  rintro _ h1 ⟨k5, z5, sv5, rfl, C1, f1, eo1, e5⟩
  have H1 : zMod G h1 ma S th := hM.mid n2 n3 f1
  refine z_istore dLaw_law_1455 (Nat.le_of_ble_eq_true rfl) ?_
  refine z_aload_n dLaw_law_1457 rfl ?_
  refine z_aload_n dLaw_law_1458 rfl ?_
  refine z_iload dLaw_law_1459 rfl ?_
  refine z_iconst dLaw_law_1461 ?_
  refine z_iadd dLaw_law_1462 ?_
  refine z_sld (by omega) dLaw_law_1463 ?_
  refine z_callV (bc' := bc - 6 - 0) (bs' := bs - 36 - 0) MV_Mod_forth lk_Law_263 dLaw_law_1464 (k_Mod_forth H1 (zX9_r (xs := xs) (i + 1)) hO h16) rfl rfl (Nat.le_of_ble_eq_true rfl) rfl H1.2.1 (Nat.le_of_ble_eq_true rfl) (Nat.le_of_ble_eq_true rfl) (by omega) (by omega) (fun _ _ q => q.elim) ?_
  rintro _ h2 ⟨ma2, th2, z6, rfl, m0, H2, F2, A2, e6⟩
  refine z_istore dLaw_law_1467 (Nat.le_of_ble_eq_true rfl) ?_
  refine z_goto (tgt := 2138) dLaw_law_1469 (by decide) ?_
  exact K _ _ h2 ma2 _ _ _ (zLi.fin C1 eo1 n1 n2 n3 H2 F2 A2 (ok_forth hO h16) (oka_forth oka)) m0 (by omega) (by omega)
theorem c_Law_28 {ou : Nat} {i : Int} {y5 y6 : Option Value} (I : zLi G h ad ma ou S) (hi : 0 ≤ i ∧ i + 4 ≤ L) (hb1 : 210 ≤ bc) (hb2 : 12100 ≤ bs) (K : zLK G l b L xs ad ma ou i bc bs) : zR G l (zLJ G b L xs) bc bs h 1472 [some (.ref b), some (.ref (ad 0)), some (.ref (ma 0)), some (.ref ou), some (zi i), y5, y6] [] := by
  obtain ⟨th, n0, sv, hC, hM, hO, oka, eo, n1, n2, n3⟩ := I
  have h16 : ∀ k, k < 4 → (S.1 k).length ≤ 16 := fun k hk => (hC.ls hk).len
  have x1 := zX9_r (xs := xs) (i + 1)
  have x2 := zX9_r (xs := xs) (i + 2)
  have x3 := zX9_r (xs := xs) (i + 3)
  refine z_aload_n dLaw_law_1472 rfl ?_
  refine z_aload_n dLaw_law_1473 rfl ?_
  refine z_iload dLaw_law_1474 rfl ?_
  refine z_iconst dLaw_law_1476 ?_
  refine z_iadd dLaw_law_1477 ?_
  refine z_sld (by omega) dLaw_law_1478 ?_
  refine z_aload_n dLaw_law_1479 rfl ?_
  refine z_callSX (bc' := bc - 6) (bs' := bs - 36) MW_Law_back lk_Law_264 dLaw_law_1480 (k_Law_back hO hC (zX9_r (xs := xs) (i + 1)) eo n1) rfl rfl (Nat.le_of_ble_eq_true rfl) (Nat.le_of_ble_eq_true rfl) (Nat.le_of_ble_eq_true rfl) (by omega) (by omega) (fun _ _ q => q.elim) ?_
  rintro _ h1 ⟨k5, z5, sv5, rfl, C1, f1, eo1, e5⟩
  have H1 : zMod G h1 ma S th := hM.mid n2 n3 f1
  refine z_istore dLaw_law_1483 (Nat.le_of_ble_eq_true rfl) ?_
  refine z_aload_n dLaw_law_1485 rfl ?_
  refine z_aload_n dLaw_law_1486 rfl ?_
  refine z_iload dLaw_law_1487 rfl ?_
  refine z_iconst dLaw_law_1489 ?_
  refine z_iadd dLaw_law_1490 ?_
  refine z_sld (by omega) dLaw_law_1491 ?_
  refine z_callV (bc' := bc - 6 - 0) (bs' := bs - 36 - 0) MV_Mod_back lk_Law_266 dLaw_law_1492 (k_Mod_back H1 (zX9_r (xs := xs) (i + 1)) hO h16) rfl rfl (Nat.le_of_ble_eq_true rfl) rfl H1.2.1 (Nat.le_of_ble_eq_true rfl) (Nat.le_of_ble_eq_true rfl) (by omega) (by omega) (fun _ _ q => q.elim) ?_
  rintro _ h2 ⟨ma2, th2, z6, rfl, m0, H2, F2, A2, e6⟩
  refine z_istore dLaw_law_1495 (Nat.le_of_ble_eq_true rfl) ?_
  refine z_goto (tgt := 2138) dLaw_law_1497 (by decide) ?_
  exact K _ _ h2 ma2 _ _ _ (zLi.fin C1 eo1 n1 n2 n3 H2 F2 A2 (ok_back hO h16) (oka_back oka)) m0 (by omega) (by omega)
theorem c_Law_29 {ou : Nat} {i : Int} {y5 y6 : Option Value} (I : zLi G h ad ma ou S) (hi : 0 ≤ i ∧ i + 4 ≤ L) (hb1 : 210 ≤ bc) (hb2 : 12100 ≤ bs) (K : zLK G l b L xs ad ma ou i bc bs) : zR G l (zLJ G b L xs) bc bs h 1500 [some (.ref b), some (.ref (ad 0)), some (.ref (ma 0)), some (.ref ou), some (zi i), y5, y6] [] := by
  obtain ⟨th, n0, sv, hC, hM, hO, oka, eo, n1, n2, n3⟩ := I
  have h16 : ∀ k, k < 4 → (S.1 k).length ≤ 16 := fun k hk => (hC.ls hk).len
  have x1 := zX9_r (xs := xs) (i + 1)
  have x2 := zX9_r (xs := xs) (i + 2)
  have x3 := zX9_r (xs := xs) (i + 3)
  refine z_aload_n dLaw_law_1500 rfl ?_
  refine z_aload_n dLaw_law_1501 rfl ?_
  refine z_iload dLaw_law_1502 rfl ?_
  refine z_iconst dLaw_law_1504 ?_
  refine z_iadd dLaw_law_1505 ?_
  refine z_sld (by omega) dLaw_law_1506 ?_
  refine z_aload_n dLaw_law_1507 rfl ?_
  refine z_iload dLaw_law_1508 rfl ?_
  refine z_iconst dLaw_law_1510 ?_
  refine z_iadd dLaw_law_1511 ?_
  refine z_sld (by omega) dLaw_law_1512 ?_
  refine z_aload_n dLaw_law_1513 rfl ?_
  refine z_callSX (bc' := bc - 6) (bs' := bs - 36) MW_Law_puts lk_Law_267 dLaw_law_1514 (k_Law_puts hO hC (zX9_r (xs := xs) (i + 1)) (zX9_r (xs := xs) (i + 2)) eo n1) rfl rfl (Nat.le_of_ble_eq_true rfl) (Nat.le_of_ble_eq_true rfl) (Nat.le_of_ble_eq_true rfl) (by omega) (by omega) (fun _ _ q => q.elim) ?_
  rintro _ h1 ⟨k5, z5, sv5, rfl, C1, f1, eo1, e5⟩
  have H1 : zMod G h1 ma S th := hM.mid n2 n3 f1
  refine z_istore dLaw_law_1517 (Nat.le_of_ble_eq_true rfl) ?_
  refine z_aload_n dLaw_law_1519 rfl ?_
  refine z_aload_n dLaw_law_1520 rfl ?_
  refine z_iload dLaw_law_1521 rfl ?_
  refine z_iconst dLaw_law_1523 ?_
  refine z_iadd dLaw_law_1524 ?_
  refine z_sld (by omega) dLaw_law_1525 ?_
  refine z_aload_n dLaw_law_1526 rfl ?_
  refine z_iload dLaw_law_1527 rfl ?_
  refine z_iconst dLaw_law_1529 ?_
  refine z_iadd dLaw_law_1530 ?_
  refine z_sld (by omega) dLaw_law_1531 ?_
  refine z_callV (bc' := bc - 6 - 1) (bs' := bs - 36 - 61) MV_Mod_puts lk_Law_269 dLaw_law_1532 (k_Mod_puts H1 (zX9_r (xs := xs) (i + 1)) (zX9_r (xs := xs) (i + 2)) hO h16) rfl rfl (Nat.le_of_ble_eq_true rfl) rfl H1.2.1 (Nat.le_of_ble_eq_true rfl) (Nat.le_of_ble_eq_true rfl) (by omega) (by omega) (fun _ _ q => q.elim) ?_
  rintro _ h2 ⟨ma2, th2, z6, rfl, m0, H2, F2, A2, e6⟩
  refine z_istore dLaw_law_1535 (Nat.le_of_ble_eq_true rfl) ?_
  refine z_goto (tgt := 2138) dLaw_law_1537 (by decide) ?_
  exact K _ _ h2 ma2 _ _ _ (zLi.fin C1 eo1 n1 n2 n3 H2 F2 A2 (ok_puts hO h16) (oka_puts oka)) m0 (by omega) (by omega)
theorem c_Law_30 {ou : Nat} {i : Int} {y5 y6 : Option Value} (I : zLi G h ad ma ou S) (hi : 0 ≤ i ∧ i + 4 ≤ L) (hb1 : 210 ≤ bc) (hb2 : 12100 ≤ bs) (K : zLK G l b L xs ad ma ou i bc bs) : zR G l (zLJ G b L xs) bc bs h 1540 [some (.ref b), some (.ref (ad 0)), some (.ref (ma 0)), some (.ref ou), some (zi i), y5, y6] [] := by
  obtain ⟨th, n0, sv, hC, hM, hO, oka, eo, n1, n2, n3⟩ := I
  have h16 : ∀ k, k < 4 → (S.1 k).length ≤ 16 := fun k hk => (hC.ls hk).len
  have x1 := zX9_r (xs := xs) (i + 1)
  have x2 := zX9_r (xs := xs) (i + 2)
  have x3 := zX9_r (xs := xs) (i + 3)
  refine z_aload_n dLaw_law_1540 rfl ?_
  refine z_aload_n dLaw_law_1541 rfl ?_
  refine z_iload dLaw_law_1542 rfl ?_
  refine z_iconst dLaw_law_1544 ?_
  refine z_iadd dLaw_law_1545 ?_
  refine z_sld (by omega) dLaw_law_1546 ?_
  refine z_aload_n dLaw_law_1547 rfl ?_
  refine z_callSX (bc' := bc - 6) (bs' := bs - 36) MW_Law_cuts lk_Law_270 dLaw_law_1548 (k_Law_cuts hO hC (zX9_r (xs := xs) (i + 1)) eo n1) rfl rfl (Nat.le_of_ble_eq_true rfl) (Nat.le_of_ble_eq_true rfl) (Nat.le_of_ble_eq_true rfl) (by omega) (by omega) (fun _ _ q => q.elim) ?_
  rintro _ h1 ⟨k5, z5, sv5, rfl, C1, f1, eo1, e5⟩
  have H1 : zMod G h1 ma S th := hM.mid n2 n3 f1
  refine z_istore dLaw_law_1551 (Nat.le_of_ble_eq_true rfl) ?_
  refine z_aload_n dLaw_law_1553 rfl ?_
  refine z_aload_n dLaw_law_1554 rfl ?_
  refine z_iload dLaw_law_1555 rfl ?_
  refine z_iconst dLaw_law_1557 ?_
  refine z_iadd dLaw_law_1558 ?_
  refine z_sld (by omega) dLaw_law_1559 ?_
  refine z_callV (bc' := bc - 6 - 1) (bs' := bs - 36 - 60) MV_Mod_cuts lk_Law_272 dLaw_law_1560 (k_Mod_cuts H1 (zX9_r (xs := xs) (i + 1)) hO h16) rfl rfl (Nat.le_of_ble_eq_true rfl) rfl H1.2.1 (Nat.le_of_ble_eq_true rfl) (Nat.le_of_ble_eq_true rfl) (by omega) (by omega) (fun _ _ q => q.elim) ?_
  rintro _ h2 ⟨ma2, th2, z6, rfl, m0, H2, F2, A2, e6⟩
  refine z_istore dLaw_law_1563 (Nat.le_of_ble_eq_true rfl) ?_
  refine z_goto (tgt := 2138) dLaw_law_1565 (by decide) ?_
  exact K _ _ h2 ma2 _ _ _ (zLi.fin C1 eo1 n1 n2 n3 H2 F2 A2 (ok_cuts hO h16) (oka_cuts oka)) m0 (by omega) (by omega)
theorem c_Law_31 {ou : Nat} {i : Int} {y5 y6 : Option Value} (I : zLi G h ad ma ou S) (hi : 0 ≤ i ∧ i + 4 ≤ L) (hb1 : 210 ≤ bc) (hb2 : 12100 ≤ bs) (K : zLK G l b L xs ad ma ou i bc bs) : zR G l (zLJ G b L xs) bc bs h 1568 [some (.ref b), some (.ref (ad 0)), some (.ref (ma 0)), some (.ref ou), some (zi i), y5, y6] [] := by
  obtain ⟨th, n0, sv, hC, hM, hO, oka, eo, n1, n2, n3⟩ := I
  have h16 : ∀ k, k < 4 → (S.1 k).length ≤ 16 := fun k hk => (hC.ls hk).len
  have x1 := zX9_r (xs := xs) (i + 1)
  have x2 := zX9_r (xs := xs) (i + 2)
  have x3 := zX9_r (xs := xs) (i + 3)
  refine z_aload_n dLaw_law_1568 rfl ?_
  refine z_aload_n dLaw_law_1569 rfl ?_
  refine z_iload dLaw_law_1570 rfl ?_
  refine z_iconst dLaw_law_1572 ?_
  refine z_iadd dLaw_law_1573 ?_
  refine z_sld (by omega) dLaw_law_1574 ?_
  refine z_aload_n dLaw_law_1575 rfl ?_
  refine z_iload dLaw_law_1576 rfl ?_
  refine z_iconst dLaw_law_1578 ?_
  refine z_iadd dLaw_law_1579 ?_
  refine z_sld (by omega) dLaw_law_1580 ?_
  refine z_aload_n dLaw_law_1581 rfl ?_
  refine z_callSX (bc' := bc - 6) (bs' := bs - 36) MW_Law_changes lk_Law_273 dLaw_law_1582 (k_Law_changes hO hC (zX9_r (xs := xs) (i + 1)) (zX9_r (xs := xs) (i + 2)) eo n1) rfl rfl (Nat.le_of_ble_eq_true rfl) (Nat.le_of_ble_eq_true rfl) (Nat.le_of_ble_eq_true rfl) (by omega) (by omega) (fun _ _ q => q.elim) ?_
  rintro _ h1 ⟨k5, z5, sv5, rfl, C1, f1, eo1, e5⟩
  have H1 : zMod G h1 ma S th := hM.mid n2 n3 f1
  refine z_istore dLaw_law_1585 (Nat.le_of_ble_eq_true rfl) ?_
  refine z_aload_n dLaw_law_1587 rfl ?_
  refine z_aload_n dLaw_law_1588 rfl ?_
  refine z_iload dLaw_law_1589 rfl ?_
  refine z_iconst dLaw_law_1591 ?_
  refine z_iadd dLaw_law_1592 ?_
  refine z_sld (by omega) dLaw_law_1593 ?_
  refine z_aload_n dLaw_law_1594 rfl ?_
  refine z_iload dLaw_law_1595 rfl ?_
  refine z_iconst dLaw_law_1597 ?_
  refine z_iadd dLaw_law_1598 ?_
  refine z_sld (by omega) dLaw_law_1599 ?_
  refine z_callV (bc' := bc - 6 - 0) (bs' := bs - 36 - 0) MV_Mod_changes lk_Law_275 dLaw_law_1600 (k_Mod_changes H1 (zX9_r (xs := xs) (i + 1)) (zX9_r (xs := xs) (i + 2)) hO h16) rfl rfl (Nat.le_of_ble_eq_true rfl) rfl H1.2.1 (Nat.le_of_ble_eq_true rfl) (Nat.le_of_ble_eq_true rfl) (by omega) (by omega) (fun _ _ q => q.elim) ?_
  rintro _ h2 ⟨ma2, th2, z6, rfl, m0, H2, F2, A2, e6⟩
  refine z_istore dLaw_law_1603 (Nat.le_of_ble_eq_true rfl) ?_
  refine z_goto (tgt := 2138) dLaw_law_1605 (by decide) ?_
  exact K _ _ h2 ma2 _ _ _ (zLi.fin C1 eo1 n1 n2 n3 H2 F2 A2 (ok_changes hO) (oka_changes oka)) m0 (by omega) (by omega)
theorem c_Law_32 {ou : Nat} {i : Int} {y5 y6 : Option Value} (I : zLi G h ad ma ou S) (hi : 0 ≤ i ∧ i + 4 ≤ L) (hb1 : 210 ≤ bc) (hb2 : 12100 ≤ bs) (K : zLK G l b L xs ad ma ou i bc bs) : zR G l (zLJ G b L xs) bc bs h 1608 [some (.ref b), some (.ref (ad 0)), some (.ref (ma 0)), some (.ref ou), some (zi i), y5, y6] [] := by
  obtain ⟨th, n0, sv, hC, hM, hO, oka, eo, n1, n2, n3⟩ := I
  have h16 : ∀ k, k < 4 → (S.1 k).length ≤ 16 := fun k hk => (hC.ls hk).len
  have x1 := zX9_r (xs := xs) (i + 1)
  have x2 := zX9_r (xs := xs) (i + 2)
  have x3 := zX9_r (xs := xs) (i + 3)
  refine z_aload_n dLaw_law_1608 rfl ?_
  refine z_aload_n dLaw_law_1609 rfl ?_
  refine z_iload dLaw_law_1610 rfl ?_
  refine z_iconst dLaw_law_1612 ?_
  refine z_iadd dLaw_law_1613 ?_
  refine z_sld (by omega) dLaw_law_1614 ?_
  refine z_aload_n dLaw_law_1615 rfl ?_
  refine z_iload dLaw_law_1616 rfl ?_
  refine z_iconst dLaw_law_1618 ?_
  refine z_iadd dLaw_law_1619 ?_
  refine z_sld (by omega) dLaw_law_1620 ?_
  refine z_aload_n dLaw_law_1621 rfl ?_
  refine z_callSX (bc' := bc - 6) (bs' := bs - 36) MW_Law_meet lk_Law_276 dLaw_law_1622 (k_Law_meet hO hC (zX9_r (xs := xs) (i + 1)) (zX9_r (xs := xs) (i + 2)) eo n1) rfl rfl (Nat.le_of_ble_eq_true rfl) (Nat.le_of_ble_eq_true rfl) (Nat.le_of_ble_eq_true rfl) (by omega) (by omega) (fun _ _ q => q.elim) ?_
  rintro _ h1 ⟨k5, z5, sv5, rfl, C1, f1, eo1, e5⟩
  have H1 : zMod G h1 ma S th := hM.mid n2 n3 f1
  refine z_istore dLaw_law_1625 (Nat.le_of_ble_eq_true rfl) ?_
  refine z_aload_n dLaw_law_1627 rfl ?_
  refine z_aload_n dLaw_law_1628 rfl ?_
  refine z_iload dLaw_law_1629 rfl ?_
  refine z_iconst dLaw_law_1631 ?_
  refine z_iadd dLaw_law_1632 ?_
  refine z_sld (by omega) dLaw_law_1633 ?_
  refine z_aload_n dLaw_law_1634 rfl ?_
  refine z_iload dLaw_law_1635 rfl ?_
  refine z_iconst dLaw_law_1637 ?_
  refine z_iadd dLaw_law_1638 ?_
  refine z_sld (by omega) dLaw_law_1639 ?_
  refine z_callV (bc' := bc - 6 - 0) (bs' := bs - 36 - 0) MV_Mod_meet lk_Law_278 dLaw_law_1640 (k_Mod_meet H1 (zX9_r (xs := xs) (i + 1)) (zX9_r (xs := xs) (i + 2)) hO h16) rfl rfl (Nat.le_of_ble_eq_true rfl) rfl H1.2.1 (Nat.le_of_ble_eq_true rfl) (Nat.le_of_ble_eq_true rfl) (by omega) (by omega) (fun _ _ q => q.elim) ?_
  rintro _ h2 ⟨ma2, th2, z6, rfl, m0, H2, F2, A2, e6⟩
  refine z_istore dLaw_law_1643 (Nat.le_of_ble_eq_true rfl) ?_
  refine z_goto (tgt := 2138) dLaw_law_1645 (by decide) ?_
  exact K _ _ h2 ma2 _ _ _ (zLi.fin C1 eo1 n1 n2 n3 H2 F2 A2 (ok_meet hO h16) (oka_meet oka)) m0 (by omega) (by omega)
theorem c_Law_33 {ou : Nat} {i : Int} {y5 y6 : Option Value} (I : zLi G h ad ma ou S) (hi : 0 ≤ i ∧ i + 4 ≤ L) (hb1 : 210 ≤ bc) (hb2 : 12100 ≤ bs) (K : zLK G l b L xs ad ma ou i bc bs) : zR G l (zLJ G b L xs) bc bs h 1648 [some (.ref b), some (.ref (ad 0)), some (.ref (ma 0)), some (.ref ou), some (zi i), y5, y6] [] := by
  obtain ⟨th, n0, sv, hC, hM, hO, oka, eo, n1, n2, n3⟩ := I
  have h16 : ∀ k, k < 4 → (S.1 k).length ≤ 16 := fun k hk => (hC.ls hk).len
  have x1 := zX9_r (xs := xs) (i + 1)
  have x2 := zX9_r (xs := xs) (i + 2)
  have x3 := zX9_r (xs := xs) (i + 3)
  refine z_aload_n dLaw_law_1648 rfl ?_
  refine z_aload_n dLaw_law_1649 rfl ?_
  refine z_iload dLaw_law_1650 rfl ?_
  refine z_iconst dLaw_law_1652 ?_
  refine z_iadd dLaw_law_1653 ?_
  refine z_sld (by omega) dLaw_law_1654 ?_
  refine z_aload_n dLaw_law_1655 rfl ?_
  refine z_iload dLaw_law_1656 rfl ?_
  refine z_iconst dLaw_law_1658 ?_
  refine z_iadd dLaw_law_1659 ?_
  refine z_sld (by omega) dLaw_law_1660 ?_
  refine z_aload_n dLaw_law_1661 rfl ?_
  refine z_callSX (bc' := bc - 6) (bs' := bs - 36) MW_Law_ofCursor lk_Law_279 dLaw_law_1662 (k_Law_ofCursor hO hC (zX9_r (xs := xs) (i + 1)) (zX9_r (xs := xs) (i + 2)) eo n1) rfl rfl (Nat.le_of_ble_eq_true rfl) (Nat.le_of_ble_eq_true rfl) (Nat.le_of_ble_eq_true rfl) (by omega) (by omega) (fun _ _ q => q.elim) ?_
  rintro _ h1 ⟨k5, z5, sv5, rfl, C1, f1, eo1, e5⟩
  have H1 : zMod G h1 ma S th := hM.mid n2 n3 f1
  refine z_istore dLaw_law_1665 (Nat.le_of_ble_eq_true rfl) ?_
  refine z_aload_n dLaw_law_1667 rfl ?_
  refine z_aload_n dLaw_law_1668 rfl ?_
  refine z_iload dLaw_law_1669 rfl ?_
  refine z_iconst dLaw_law_1671 ?_
  refine z_iadd dLaw_law_1672 ?_
  refine z_sld (by omega) dLaw_law_1673 ?_
  refine z_aload_n dLaw_law_1674 rfl ?_
  refine z_iload dLaw_law_1675 rfl ?_
  refine z_iconst dLaw_law_1677 ?_
  refine z_iadd dLaw_law_1678 ?_
  refine z_sld (by omega) dLaw_law_1679 ?_
  refine z_callV (bc' := bc - 6 - 1) (bs' := bs - 36 - 6) MV_Mod_ofCursor lk_Law_281 dLaw_law_1680 (k_Mod_ofCursor H1 (zX9_r (xs := xs) (i + 1)) (zX9_r (xs := xs) (i + 2)) hO h16) rfl rfl (Nat.le_of_ble_eq_true rfl) rfl H1.2.1 (Nat.le_of_ble_eq_true rfl) (Nat.le_of_ble_eq_true rfl) (by omega) (by omega) (fun _ _ q => q.elim) ?_
  rintro _ h2 ⟨ma2, th2, z6, rfl, m0, H2, F2, A2, e6⟩
  refine z_istore dLaw_law_1683 (Nat.le_of_ble_eq_true rfl) ?_
  refine z_goto (tgt := 2138) dLaw_law_1685 (by decide) ?_
  exact K _ _ h2 ma2 _ _ _ (zLi.fin C1 eo1 n1 n2 n3 H2 F2 A2 (ok_ofCursor hO) (oka_ofCursor oka)) m0 (by omega) (by omega)
theorem c_Law_34 {ou : Nat} {i : Int} {y5 y6 : Option Value} (I : zLi G h ad ma ou S) (hi : 0 ≤ i ∧ i + 4 ≤ L) (hb1 : 210 ≤ bc) (hb2 : 12100 ≤ bs) (K : zLK G l b L xs ad ma ou i bc bs) : zR G l (zLJ G b L xs) bc bs h 1688 [some (.ref b), some (.ref (ad 0)), some (.ref (ma 0)), some (.ref ou), some (zi i), y5, y6] [] := by
  obtain ⟨th, n0, sv, hC, hM, hO, oka, eo, n1, n2, n3⟩ := I
  have h16 : ∀ k, k < 4 → (S.1 k).length ≤ 16 := fun k hk => (hC.ls hk).len
  have x1 := zX9_r (xs := xs) (i + 1)
  have x2 := zX9_r (xs := xs) (i + 2)
  have x3 := zX9_r (xs := xs) (i + 3)
  refine z_aload_n dLaw_law_1688 rfl ?_
  refine z_aload_n dLaw_law_1689 rfl ?_
  refine z_iload dLaw_law_1690 rfl ?_
  refine z_iconst dLaw_law_1692 ?_
  refine z_iadd dLaw_law_1693 ?_
  refine z_sld (by omega) dLaw_law_1694 ?_
  refine z_aload_n dLaw_law_1695 rfl ?_
  refine z_iload dLaw_law_1696 rfl ?_
  refine z_iconst dLaw_law_1698 ?_
  refine z_iadd dLaw_law_1699 ?_
  refine z_sld (by omega) dLaw_law_1700 ?_
  refine z_aload_n dLaw_law_1701 rfl ?_
  refine z_callSX (bc' := bc - 6) (bs' := bs - 36) MW_Law_plus lk_Law_282 dLaw_law_1702 (k_Law_plus hC (zX9_r (xs := xs) (i + 1)) (zX9_r (xs := xs) (i + 2)) eo n1) rfl rfl (Nat.le_of_ble_eq_true rfl) (Nat.le_of_ble_eq_true rfl) (Nat.le_of_ble_eq_true rfl) (by omega) (by omega) (fun _ _ q => q.elim) ?_
  rintro _ h1 ⟨k5, z5, sv5, rfl, C1, f1, eo1, e5⟩
  have H1 : zMod G h1 ma S th := hM.mid n2 n3 f1
  refine z_istore dLaw_law_1705 (Nat.le_of_ble_eq_true rfl) ?_
  refine z_aload_n dLaw_law_1707 rfl ?_
  refine z_aload_n dLaw_law_1708 rfl ?_
  refine z_iload dLaw_law_1709 rfl ?_
  refine z_iconst dLaw_law_1711 ?_
  refine z_iadd dLaw_law_1712 ?_
  refine z_sld (by omega) dLaw_law_1713 ?_
  refine z_aload_n dLaw_law_1714 rfl ?_
  refine z_iload dLaw_law_1715 rfl ?_
  refine z_iconst dLaw_law_1717 ?_
  refine z_iadd dLaw_law_1718 ?_
  refine z_sld (by omega) dLaw_law_1719 ?_
  refine z_callV (bc' := bc - 6 - 2) (bs' := bs - 36 - 47) MV_Mod_plus lk_Law_284 dLaw_law_1720 (k_Mod_plus H1 (zX9_r (xs := xs) (i + 1)) (zX9_r (xs := xs) (i + 2)) h16) rfl rfl (Nat.le_of_ble_eq_true rfl) rfl H1.2.1 (Nat.le_of_ble_eq_true rfl) (Nat.le_of_ble_eq_true rfl) (by omega) (by omega) (fun _ _ q => q.elim) ?_
  rintro _ h2 ⟨ma2, th2, z6, rfl, m0, H2, F2, A2, e6⟩
  refine z_istore dLaw_law_1723 (Nat.le_of_ble_eq_true rfl) ?_
  refine z_goto (tgt := 2138) dLaw_law_1725 (by decide) ?_
  exact K _ _ h2 ma2 _ _ _ (zLi.fin C1 eo1 n1 n2 n3 H2 F2 A2 (ok_plus hO) (oka_plus oka)) m0 (by omega) (by omega)
theorem c_Law_35 {ou : Nat} {i : Int} {y5 y6 : Option Value} (I : zLi G h ad ma ou S) (hi : 0 ≤ i ∧ i + 4 ≤ L) (hb1 : 210 ≤ bc) (hb2 : 12100 ≤ bs) (K : zLK G l b L xs ad ma ou i bc bs) : zR G l (zLJ G b L xs) bc bs h 1728 [some (.ref b), some (.ref (ad 0)), some (.ref (ma 0)), some (.ref ou), some (zi i), y5, y6] [] := by
  obtain ⟨th, n0, sv, hC, hM, hO, oka, eo, n1, n2, n3⟩ := I
  have h16 : ∀ k, k < 4 → (S.1 k).length ≤ 16 := fun k hk => (hC.ls hk).len
  have x1 := zX9_r (xs := xs) (i + 1)
  have x2 := zX9_r (xs := xs) (i + 2)
  have x3 := zX9_r (xs := xs) (i + 3)
  refine z_aload_n dLaw_law_1728 rfl ?_
  refine z_aload_n dLaw_law_1729 rfl ?_
  refine z_iload dLaw_law_1730 rfl ?_
  refine z_iconst dLaw_law_1732 ?_
  refine z_iadd dLaw_law_1733 ?_
  refine z_sld (by omega) dLaw_law_1734 ?_
  refine z_aload_n dLaw_law_1735 rfl ?_
  refine z_iload dLaw_law_1736 rfl ?_
  refine z_iconst dLaw_law_1738 ?_
  refine z_iadd dLaw_law_1739 ?_
  refine z_sld (by omega) dLaw_law_1740 ?_
  refine z_aload_n dLaw_law_1741 rfl ?_
  refine z_callSX (bc' := bc - 6) (bs' := bs - 36) MW_Law_times lk_Law_285 dLaw_law_1742 (k_Law_times hC (zX9_r (xs := xs) (i + 1)) (zX9_r (xs := xs) (i + 2)) eo n1) rfl rfl (Nat.le_of_ble_eq_true rfl) (Nat.le_of_ble_eq_true rfl) (Nat.le_of_ble_eq_true rfl) (by omega) (by omega) (fun _ _ q => q.elim) ?_
  rintro _ h1 ⟨k5, z5, sv5, rfl, C1, f1, eo1, e5⟩
  have H1 : zMod G h1 ma S th := hM.mid n2 n3 f1
  refine z_istore dLaw_law_1745 (Nat.le_of_ble_eq_true rfl) ?_
  refine z_aload_n dLaw_law_1747 rfl ?_
  refine z_aload_n dLaw_law_1748 rfl ?_
  refine z_iload dLaw_law_1749 rfl ?_
  refine z_iconst dLaw_law_1751 ?_
  refine z_iadd dLaw_law_1752 ?_
  refine z_sld (by omega) dLaw_law_1753 ?_
  refine z_aload_n dLaw_law_1754 rfl ?_
  refine z_iload dLaw_law_1755 rfl ?_
  refine z_iconst dLaw_law_1757 ?_
  refine z_iadd dLaw_law_1758 ?_
  refine z_sld (by omega) dLaw_law_1759 ?_
  refine z_callV (bc' := bc - 6 - 2) (bs' := bs - 36 - 47) MV_Mod_times lk_Law_287 dLaw_law_1760 (k_Mod_times H1 (zX9_r (xs := xs) (i + 1)) (zX9_r (xs := xs) (i + 2)) h16) rfl rfl (Nat.le_of_ble_eq_true rfl) rfl H1.2.1 (Nat.le_of_ble_eq_true rfl) (Nat.le_of_ble_eq_true rfl) (by omega) (by omega) (fun _ _ q => q.elim) ?_
  rintro _ h2 ⟨ma2, th2, z6, rfl, m0, H2, F2, A2, e6⟩
  refine z_istore dLaw_law_1763 (Nat.le_of_ble_eq_true rfl) ?_
  refine z_goto (tgt := 2138) dLaw_law_1765 (by decide) ?_
  exact K _ _ h2 ma2 _ _ _ (zLi.fin C1 eo1 n1 n2 n3 H2 F2 A2 (ok_times hO) (oka_times oka)) m0 (by omega) (by omega)
theorem c_Law_36 {ou : Nat} {i : Int} {y5 y6 : Option Value} (I : zLi G h ad ma ou S) (hi : 0 ≤ i ∧ i + 4 ≤ L) (hb1 : 210 ≤ bc) (hb2 : 12100 ≤ bs) (K : zLK G l b L xs ad ma ou i bc bs) : zR G l (zLJ G b L xs) bc bs h 1768 [some (.ref b), some (.ref (ad 0)), some (.ref (ma 0)), some (.ref ou), some (zi i), y5, y6] [] := by
  obtain ⟨th, n0, sv, hC, hM, hO, oka, eo, n1, n2, n3⟩ := I
  have h16 : ∀ k, k < 4 → (S.1 k).length ≤ 16 := fun k hk => (hC.ls hk).len
  have x1 := zX9_r (xs := xs) (i + 1)
  have x2 := zX9_r (xs := xs) (i + 2)
  have x3 := zX9_r (xs := xs) (i + 3)
  refine z_aload_n dLaw_law_1768 rfl ?_
  refine z_aload_n dLaw_law_1769 rfl ?_
  refine z_iload dLaw_law_1770 rfl ?_
  refine z_iconst dLaw_law_1772 ?_
  refine z_iadd dLaw_law_1773 ?_
  refine z_sld (by omega) dLaw_law_1774 ?_
  refine z_aload_n dLaw_law_1775 rfl ?_
  refine z_callSX (bc' := bc - 6) (bs' := bs - 36) MW_Law_shift lk_Law_288 dLaw_law_1776 (k_Law_shift hC (zX9_r (xs := xs) (i + 1)) eo n1) rfl rfl (Nat.le_of_ble_eq_true rfl) (Nat.le_of_ble_eq_true rfl) (Nat.le_of_ble_eq_true rfl) (by omega) (by omega) (fun _ _ q => q.elim) ?_
  rintro _ h1 ⟨k5, z5, sv5, rfl, C1, f1, eo1, e5⟩
  have H1 : zMod G h1 ma S th := hM.mid n2 n3 f1
  refine z_istore dLaw_law_1779 (Nat.le_of_ble_eq_true rfl) ?_
  refine z_aload_n dLaw_law_1781 rfl ?_
  refine z_aload_n dLaw_law_1782 rfl ?_
  refine z_iload dLaw_law_1783 rfl ?_
  refine z_iconst dLaw_law_1785 ?_
  refine z_iadd dLaw_law_1786 ?_
  refine z_sld (by omega) dLaw_law_1787 ?_
  refine z_callV (bc' := bc - 6 - 1) (bs' := bs - 36 - 61) MV_Mod_shift lk_Law_290 dLaw_law_1788 (k_Mod_shift H1 (zX9_r (xs := xs) (i + 1)) h16) rfl rfl (Nat.le_of_ble_eq_true rfl) rfl H1.2.1 (Nat.le_of_ble_eq_true rfl) (Nat.le_of_ble_eq_true rfl) (by omega) (by omega) (fun _ _ q => q.elim) ?_
  rintro _ h2 ⟨ma2, th2, z6, rfl, m0, H2, F2, A2, e6⟩
  refine z_istore dLaw_law_1791 (Nat.le_of_ble_eq_true rfl) ?_
  refine z_goto (tgt := 2138) dLaw_law_1793 (by decide) ?_
  exact K _ _ h2 ma2 _ _ _ (zLi.fin C1 eo1 n1 n2 n3 H2 F2 A2 (ok_shift hO) (oka_shift oka)) m0 (by omega) (by omega)
theorem c_Law_37 {ou : Nat} {i : Int} {y5 y6 : Option Value} (I : zLi G h ad ma ou S) (hi : 0 ≤ i ∧ i + 4 ≤ L) (hb1 : 210 ≤ bc) (hb2 : 12100 ≤ bs) (K : zLK G l b L xs ad ma ou i bc bs) : zR G l (zLJ G b L xs) bc bs h 1796 [some (.ref b), some (.ref (ad 0)), some (.ref (ma 0)), some (.ref ou), some (zi i), y5, y6] [] := by
  obtain ⟨th, n0, sv, hC, hM, hO, oka, eo, n1, n2, n3⟩ := I
  have h16 : ∀ k, k < 4 → (S.1 k).length ≤ 16 := fun k hk => (hC.ls hk).len
  have x1 := zX9_r (xs := xs) (i + 1)
  have x2 := zX9_r (xs := xs) (i + 2)
  have x3 := zX9_r (xs := xs) (i + 3)
  refine z_aload_n dLaw_law_1796 rfl ?_
  refine z_aload_n dLaw_law_1797 rfl ?_
  refine z_iload dLaw_law_1798 rfl ?_
  refine z_iconst dLaw_law_1800 ?_
  refine z_iadd dLaw_law_1801 ?_
  refine z_sld (by omega) dLaw_law_1802 ?_
  refine z_aload_n dLaw_law_1803 rfl ?_
  refine z_callSX (bc' := bc - 6) (bs' := bs - 36) MW_Law_trim lk_Law_291 dLaw_law_1804 (k_Law_trim hC (zX9_r (xs := xs) (i + 1)) eo n1) rfl rfl (Nat.le_of_ble_eq_true rfl) (Nat.le_of_ble_eq_true rfl) (Nat.le_of_ble_eq_true rfl) (by omega) (by omega) (fun _ _ q => q.elim) ?_
  rintro _ h1 ⟨k5, z5, sv5, rfl, C1, f1, eo1, e5⟩
  have H1 : zMod G h1 ma S th := hM.mid n2 n3 f1
  refine z_istore dLaw_law_1807 (Nat.le_of_ble_eq_true rfl) ?_
  refine z_aload_n dLaw_law_1809 rfl ?_
  refine z_aload_n dLaw_law_1810 rfl ?_
  refine z_iload dLaw_law_1811 rfl ?_
  refine z_iconst dLaw_law_1813 ?_
  refine z_iadd dLaw_law_1814 ?_
  refine z_sld (by omega) dLaw_law_1815 ?_
  refine z_callV (bc' := bc - 6 - 16) (bs' := bs - 36 - 960) MV_Mod_trim lk_Law_293 dLaw_law_1816 (k_Mod_trim H1 (zX9_r (xs := xs) (i + 1)) h16) rfl rfl (Nat.le_of_ble_eq_true rfl) rfl H1.2.1 (Nat.le_of_ble_eq_true rfl) (Nat.le_of_ble_eq_true rfl) (by omega) (by omega) (fun _ _ q => q.elim) ?_
  rintro _ h2 ⟨ma2, th2, z6, rfl, m0, H2, F2, A2, e6⟩
  refine z_istore dLaw_law_1819 (Nat.le_of_ble_eq_true rfl) ?_
  refine z_goto (tgt := 2138) dLaw_law_1821 (by decide) ?_
  exact K _ _ h2 ma2 _ _ _ (zLi.fin C1 eo1 n1 n2 n3 H2 F2 A2 (ok_trim hO) (oka_trim oka)) m0 (by omega) (by omega)
theorem c_Law_38 {ou : Nat} {i : Int} {y5 y6 : Option Value} (I : zLi G h ad ma ou S) (hi : 0 ≤ i ∧ i + 4 ≤ L) (hb1 : 210 ≤ bc) (hb2 : 12100 ≤ bs) (K : zLK G l b L xs ad ma ou i bc bs) : zR G l (zLJ G b L xs) bc bs h 1824 [some (.ref b), some (.ref (ad 0)), some (.ref (ma 0)), some (.ref ou), some (zi i), y5, y6] [] := by
  obtain ⟨th, n0, sv, hC, hM, hO, oka, eo, n1, n2, n3⟩ := I
  have h16 : ∀ k, k < 4 → (S.1 k).length ≤ 16 := fun k hk => (hC.ls hk).len
  have x1 := zX9_r (xs := xs) (i + 1)
  have x2 := zX9_r (xs := xs) (i + 2)
  have x3 := zX9_r (xs := xs) (i + 3)
  refine z_aload_n dLaw_law_1824 rfl ?_
  refine z_aload_n dLaw_law_1825 rfl ?_
  refine z_iload dLaw_law_1826 rfl ?_
  refine z_iconst dLaw_law_1828 ?_
  refine z_iadd dLaw_law_1829 ?_
  refine z_sld (by omega) dLaw_law_1830 ?_
  refine z_aload_n dLaw_law_1831 rfl ?_
  refine z_callSX (bc' := bc - 6) (bs' := bs - 36) MW_Law_derive lk_Law_294 dLaw_law_1832 (k_Law_derive hC (zX9_r (xs := xs) (i + 1)) eo n1) rfl rfl (Nat.le_of_ble_eq_true rfl) (Nat.le_of_ble_eq_true rfl) (Nat.le_of_ble_eq_true rfl) (by omega) (by omega) (fun _ _ q => q.elim) ?_
  rintro _ h1 ⟨k5, z5, sv5, rfl, C1, f1, eo1, e5⟩
  have H1 : zMod G h1 ma S th := hM.mid n2 n3 f1
  refine z_istore dLaw_law_1835 (Nat.le_of_ble_eq_true rfl) ?_
  refine z_aload_n dLaw_law_1837 rfl ?_
  refine z_aload_n dLaw_law_1838 rfl ?_
  refine z_iload dLaw_law_1839 rfl ?_
  refine z_iconst dLaw_law_1841 ?_
  refine z_iadd dLaw_law_1842 ?_
  refine z_sld (by omega) dLaw_law_1843 ?_
  refine z_callV (bc' := bc - 6 - 2) (bs' := bs - 36 - 31) MV_Mod_derive lk_Law_296 dLaw_law_1844 (k_Mod_derive H1 (zX9_r (xs := xs) (i + 1)) h16) rfl rfl (Nat.le_of_ble_eq_true rfl) rfl H1.2.1 (Nat.le_of_ble_eq_true rfl) (Nat.le_of_ble_eq_true rfl) (by omega) (by omega) (fun _ _ q => q.elim) ?_
  rintro _ h2 ⟨ma2, th2, z6, rfl, m0, H2, F2, A2, e6⟩
  refine z_istore dLaw_law_1847 (Nat.le_of_ble_eq_true rfl) ?_
  refine z_goto (tgt := 2138) dLaw_law_1849 (by decide) ?_
  exact K _ _ h2 ma2 _ _ _ (zLi.fin C1 eo1 n1 n2 n3 H2 F2 A2 (ok_derive hO) (oka_derive oka)) m0 (by omega) (by omega)
theorem c_Law_39 {ou : Nat} {i : Int} {y5 y6 : Option Value} (I : zLi G h ad ma ou S) (hi : 0 ≤ i ∧ i + 4 ≤ L) (hb1 : 210 ≤ bc) (hb2 : 12100 ≤ bs) (K : zLK G l b L xs ad ma ou i bc bs) : zR G l (zLJ G b L xs) bc bs h 1852 [some (.ref b), some (.ref (ad 0)), some (.ref (ma 0)), some (.ref ou), some (zi i), y5, y6] [] := by
  obtain ⟨th, n0, sv, hC, hM, hO, oka, eo, n1, n2, n3⟩ := I
  have h16 : ∀ k, k < 4 → (S.1 k).length ≤ 16 := fun k hk => (hC.ls hk).len
  have x1 := zX9_r (xs := xs) (i + 1)
  have x2 := zX9_r (xs := xs) (i + 2)
  have x3 := zX9_r (xs := xs) (i + 3)
  refine z_aload_n dLaw_law_1852 rfl ?_
  refine z_aload_n dLaw_law_1853 rfl ?_
  refine z_iload dLaw_law_1854 rfl ?_
  refine z_iconst dLaw_law_1856 ?_
  refine z_iadd dLaw_law_1857 ?_
  refine z_sld (by omega) dLaw_law_1858 ?_
  refine z_aload_n dLaw_law_1859 rfl ?_
  refine z_iload dLaw_law_1860 rfl ?_
  refine z_iconst dLaw_law_1862 ?_
  refine z_iadd dLaw_law_1863 ?_
  refine z_sld (by omega) dLaw_law_1864 ?_
  refine z_aload_n dLaw_law_1865 rfl ?_
  refine z_callSX (bc' := bc - 6) (bs' := bs - 36) MW_Law_value lk_Law_297 dLaw_law_1866 (k_Law_value hC (zX9_r (xs := xs) (i + 1)) (zX9_r (xs := xs) (i + 2)) eo n1) rfl rfl (Nat.le_of_ble_eq_true rfl) (Nat.le_of_ble_eq_true rfl) (Nat.le_of_ble_eq_true rfl) (by omega) (by omega) (fun _ _ q => q.elim) ?_
  rintro _ h1 ⟨k5, z5, sv5, rfl, C1, f1, eo1, e5⟩
  have H1 : zMod G h1 ma S th := hM.mid n2 n3 f1
  refine z_istore dLaw_law_1869 (Nat.le_of_ble_eq_true rfl) ?_
  refine z_aload_n dLaw_law_1871 rfl ?_
  refine z_aload_n dLaw_law_1872 rfl ?_
  refine z_iload dLaw_law_1873 rfl ?_
  refine z_iconst dLaw_law_1875 ?_
  refine z_iadd dLaw_law_1876 ?_
  refine z_sld (by omega) dLaw_law_1877 ?_
  refine z_aload_n dLaw_law_1878 rfl ?_
  refine z_iload dLaw_law_1879 rfl ?_
  refine z_iconst dLaw_law_1881 ?_
  refine z_iadd dLaw_law_1882 ?_
  refine z_sld (by omega) dLaw_law_1883 ?_
  refine z_callV (bc' := bc - 6 - 0) (bs' := bs - 36 - 0) MV_Mod_value lk_Law_299 dLaw_law_1884 (k_Mod_value H1 (zX9_r (xs := xs) (i + 1)) (zX9_r (xs := xs) (i + 2))) rfl rfl (Nat.le_of_ble_eq_true rfl) rfl H1.2.1 (Nat.le_of_ble_eq_true rfl) (Nat.le_of_ble_eq_true rfl) (by omega) (by omega) (fun _ _ q => q.elim) ?_
  rintro _ h2 ⟨ma2, th2, z6, rfl, m0, H2, F2, A2, e6⟩
  refine z_istore dLaw_law_1887 (Nat.le_of_ble_eq_true rfl) ?_
  refine z_goto (tgt := 2138) dLaw_law_1889 (by decide) ?_
  exact K _ _ h2 ma2 _ _ _ (zLi.fin C1 eo1 n1 n2 n3 H2 F2 A2 (ok_value hO) (oka_value oka)) m0 (by omega) (by omega)
theorem c_Law_40 {ou : Nat} {i : Int} {y5 y6 : Option Value} (I : zLi G h ad ma ou S) (hi : 0 ≤ i ∧ i + 4 ≤ L) (hb1 : 210 ≤ bc) (hb2 : 12100 ≤ bs) (K : zLK G l b L xs ad ma ou i bc bs) : zR G l (zLJ G b L xs) bc bs h 1892 [some (.ref b), some (.ref (ad 0)), some (.ref (ma 0)), some (.ref ou), some (zi i), y5, y6] [] := by
  obtain ⟨th, n0, sv, hC, hM, hO, oka, eo, n1, n2, n3⟩ := I
  have h16 : ∀ k, k < 4 → (S.1 k).length ≤ 16 := fun k hk => (hC.ls hk).len
  have x1 := zX9_r (xs := xs) (i + 1)
  have x2 := zX9_r (xs := xs) (i + 2)
  have x3 := zX9_r (xs := xs) (i + 3)
  refine z_aload_n dLaw_law_1892 rfl ?_
  refine z_aload_n dLaw_law_1893 rfl ?_
  refine z_iload dLaw_law_1894 rfl ?_
  refine z_iconst dLaw_law_1896 ?_
  refine z_iadd dLaw_law_1897 ?_
  refine z_sld (by omega) dLaw_law_1898 ?_
  refine z_aload_n dLaw_law_1899 rfl ?_
  refine z_callSX (bc' := bc - 6) (bs' := bs - 36) MW_Law_degree lk_Law_300 dLaw_law_1900 (k_Law_degree hC (zX9_r (xs := xs) (i + 1)) eo n1) rfl rfl (Nat.le_of_ble_eq_true rfl) (Nat.le_of_ble_eq_true rfl) (Nat.le_of_ble_eq_true rfl) (by omega) (by omega) (fun _ _ q => q.elim) ?_
  rintro _ h1 ⟨k5, z5, sv5, rfl, C1, f1, eo1, e5⟩
  have H1 : zMod G h1 ma S th := hM.mid n2 n3 f1
  refine z_istore dLaw_law_1903 (Nat.le_of_ble_eq_true rfl) ?_
  refine z_aload_n dLaw_law_1905 rfl ?_
  refine z_aload_n dLaw_law_1906 rfl ?_
  refine z_iload dLaw_law_1907 rfl ?_
  refine z_iconst dLaw_law_1909 ?_
  refine z_iadd dLaw_law_1910 ?_
  refine z_sld (by omega) dLaw_law_1911 ?_
  refine z_callV (bc' := bc - 6 - 0) (bs' := bs - 36 - 0) MV_Mod_degree lk_Law_302 dLaw_law_1912 (k_Mod_degree H1 (zX9_r (xs := xs) (i + 1))) rfl rfl (Nat.le_of_ble_eq_true rfl) rfl H1.2.1 (Nat.le_of_ble_eq_true rfl) (Nat.le_of_ble_eq_true rfl) (by omega) (by omega) (fun _ _ q => q.elim) ?_
  rintro _ h2 ⟨ma2, th2, z6, rfl, m0, H2, F2, A2, e6⟩
  refine z_istore dLaw_law_1915 (Nat.le_of_ble_eq_true rfl) ?_
  refine z_goto (tgt := 2138) dLaw_law_1917 (by decide) ?_
  exact K _ _ h2 ma2 _ _ _ (zLi.fin C1 eo1 n1 n2 n3 H2 F2 A2 (ok_degree hO) (oka_degree oka)) m0 (by omega) (by omega)
theorem c_Law_41 {ou : Nat} {i : Int} {y5 y6 : Option Value} (I : zLi G h ad ma ou S) (hi : 0 ≤ i ∧ i + 4 ≤ L) (hb1 : 210 ≤ bc) (hb2 : 12100 ≤ bs) (K : zLK G l b L xs ad ma ou i bc bs) : zR G l (zLJ G b L xs) bc bs h 1920 [some (.ref b), some (.ref (ad 0)), some (.ref (ma 0)), some (.ref ou), some (zi i), y5, y6] [] := by
  obtain ⟨th, n0, sv, hC, hM, hO, oka, eo, n1, n2, n3⟩ := I
  have h16 : ∀ k, k < 4 → (S.1 k).length ≤ 16 := fun k hk => (hC.ls hk).len
  have x1 := zX9_r (xs := xs) (i + 1)
  have x2 := zX9_r (xs := xs) (i + 2)
  have x3 := zX9_r (xs := xs) (i + 3)
  refine z_aload_n dLaw_law_1920 rfl ?_
  refine z_aload_n dLaw_law_1921 rfl ?_
  refine z_iload dLaw_law_1922 rfl ?_
  refine z_iconst dLaw_law_1924 ?_
  refine z_iadd dLaw_law_1925 ?_
  refine z_sld (by omega) dLaw_law_1926 ?_
  refine z_aload_n dLaw_law_1927 rfl ?_
  refine z_callSX (bc' := bc - 6) (bs' := bs - 36) MW_Law_ask lk_Law_303 dLaw_law_1928 (k_Law_ask hO hC (zX9_r (xs := xs) (i + 1)) eo n1) rfl rfl (Nat.le_of_ble_eq_true rfl) (Nat.le_of_ble_eq_true rfl) (Nat.le_of_ble_eq_true rfl) (by omega) (by omega) (fun _ _ q => q.elim) ?_
  rintro _ h1 ⟨k5, z5, sv5, rfl, C1, f1, eo1, e5⟩
  have H1 : zMod G h1 ma S th := hM.mid n2 n3 f1
  refine z_istore dLaw_law_1931 (Nat.le_of_ble_eq_true rfl) ?_
  refine z_aload_n dLaw_law_1933 rfl ?_
  refine z_aload_n dLaw_law_1934 rfl ?_
  refine z_iload dLaw_law_1935 rfl ?_
  refine z_iconst dLaw_law_1937 ?_
  refine z_iadd dLaw_law_1938 ?_
  refine z_sld (by omega) dLaw_law_1939 ?_
  refine z_callV (bc' := bc - 6 - 2) (bs' := bs - 36 - 121) MV_Mod_ask lk_Law_305 dLaw_law_1940 (k_Mod_ask H1 (zX9_r (xs := xs) (i + 1)) hO) rfl rfl (Nat.le_of_ble_eq_true rfl) rfl H1.2.1 (Nat.le_of_ble_eq_true rfl) (Nat.le_of_ble_eq_true rfl) (by omega) (by omega) (fun _ _ q => q.elim) ?_
  rintro _ h2 ⟨ma2, th2, z6, rfl, m0, H2, F2, A2, e6⟩
  refine z_istore dLaw_law_1943 (Nat.le_of_ble_eq_true rfl) ?_
  refine z_goto (tgt := 2138) dLaw_law_1945 (by decide) ?_
  exact K _ _ h2 ma2 _ _ _ (zLi.fin C1 eo1 n1 n2 n3 H2 F2 A2 (ok_ask hO) (oka_ask oka)) m0 (by omega) (by omega)
theorem c_Law_42 {ou : Nat} {i : Int} {y5 y6 : Option Value} (I : zLi G h ad ma ou S) (hi : 0 ≤ i ∧ i + 4 ≤ L) (hb1 : 210 ≤ bc) (hb2 : 12100 ≤ bs) (K : zLK G l b L xs ad ma ou i bc bs) : zR G l (zLJ G b L xs) bc bs h 1948 [some (.ref b), some (.ref (ad 0)), some (.ref (ma 0)), some (.ref ou), some (zi i), y5, y6] [] := by
  obtain ⟨th, n0, sv, hC, hM, hO, oka, eo, n1, n2, n3⟩ := I
  have h16 : ∀ k, k < 4 → (S.1 k).length ≤ 16 := fun k hk => (hC.ls hk).len
  have x1 := zX9_r (xs := xs) (i + 1)
  have x2 := zX9_r (xs := xs) (i + 2)
  have x3 := zX9_r (xs := xs) (i + 3)
  refine z_aload_n dLaw_law_1948 rfl ?_
  refine z_callV (bc' := bc - 6) (bs' := bs - 36) MV_Cls_forget lk_Law_306 dLaw_law_1949 (k_Cls_forget hC) rfl rfl (Nat.le_of_ble_eq_true rfl) rfl hC.2.1 (Nat.le_of_ble_eq_true rfl) (Nat.le_of_ble_eq_true rfl) (by omega) (by omega) (fun E h9 q9 => absurd (Prod.mk.inj (show sp_forget S = _ from q9.choose_spec.1)).1 (by simp)) ?_
  rintro _ h1 ⟨z5, S5, e5, rfl, C1, f1⟩
  have eS : S5 = (sp_forget S).2 := by rw [e5]
  subst eS
  have eo1 := (f1 ou n1).trans eo
  have H1 : zMod G h1 ma S th := hM.mid (ad := ad) n2 n3 (fun q _ hq => f1 q hq)
  refine z_pop rfl dLaw_law_1952 ?_
  refine z_aload_n dLaw_law_1953 rfl ?_
  refine z_callV (bc' := bc - 6 - 0) (bs' := bs - 36 - 0) MV_Mod_forget lk_Law_310 dLaw_law_1954 (k_Mod_forget H1 hO) rfl rfl (Nat.le_of_ble_eq_true rfl) rfl H1.2.1 (Nat.le_of_ble_eq_true rfl) (Nat.le_of_ble_eq_true rfl) (by omega) (by omega) (fun _ _ q => q.elim) ?_
  rintro _ h2 ⟨ma2, th2, z6, rfl, m0, H2, F2, A2, e6⟩
  refine z_pop rfl dLaw_law_1957 ?_
  refine z_goto (tgt := 2138) dLaw_law_1958 (by decide) ?_
  exact K _ _ h2 ma2 _ _ _ (zLi.fin C1 eo1 n1 n2 n3 H2 F2 A2 (ok_forget hO) (oka_forget oka)) m0 (by omega) (by omega)
theorem c_Law_43 {ou : Nat} {i : Int} {y5 y6 : Option Value} (I : zLi G h ad ma ou S) (hi : 0 ≤ i ∧ i + 4 ≤ L) (hb1 : 210 ≤ bc) (hb2 : 12100 ≤ bs) (K : zLK G l b L xs ad ma ou i bc bs) : zR G l (zLJ G b L xs) bc bs h 1961 [some (.ref b), some (.ref (ad 0)), some (.ref (ma 0)), some (.ref ou), some (zi i), y5, y6] [] := by
  obtain ⟨th, n0, sv, hC, hM, hO, oka, eo, n1, n2, n3⟩ := I
  have h16 : ∀ k, k < 4 → (S.1 k).length ≤ 16 := fun k hk => (hC.ls hk).len
  have x1 := zX9_r (xs := xs) (i + 1)
  have x2 := zX9_r (xs := xs) (i + 2)
  have x3 := zX9_r (xs := xs) (i + 3)
  refine z_aload_n dLaw_law_1961 rfl ?_
  refine z_aload_n dLaw_law_1962 rfl ?_
  refine z_iload dLaw_law_1963 rfl ?_
  refine z_iconst dLaw_law_1965 ?_
  refine z_iadd dLaw_law_1966 ?_
  refine z_sld (by omega) dLaw_law_1967 ?_
  refine z_aload_n dLaw_law_1968 rfl ?_
  refine z_callSX (bc' := bc - 6) (bs' := bs - 36) MW_Law_asked lk_Law_311 dLaw_law_1969 (k_Law_asked hC (zX9_r (xs := xs) (i + 1)) eo n1) rfl rfl (Nat.le_of_ble_eq_true rfl) (Nat.le_of_ble_eq_true rfl) (Nat.le_of_ble_eq_true rfl) (by omega) (by omega) (fun _ _ q => q.elim) ?_
  rintro _ h1 ⟨k5, z5, sv5, rfl, C1, f1, eo1, e5⟩
  have H1 : zMod G h1 ma S th := hM.mid n2 n3 f1
  refine z_istore dLaw_law_1972 (Nat.le_of_ble_eq_true rfl) ?_
  refine z_aload_n dLaw_law_1974 rfl ?_
  refine z_aload_n dLaw_law_1975 rfl ?_
  refine z_iload dLaw_law_1976 rfl ?_
  refine z_iconst dLaw_law_1978 ?_
  refine z_iadd dLaw_law_1979 ?_
  refine z_sld (by omega) dLaw_law_1980 ?_
  refine z_callV (bc' := bc - 6 - 0) (bs' := bs - 36 - 0) MV_Mod_asked lk_Law_313 dLaw_law_1981 (k_Mod_asked H1 (zX9_r (xs := xs) (i + 1)) hO) rfl rfl (Nat.le_of_ble_eq_true rfl) rfl H1.2.1 (Nat.le_of_ble_eq_true rfl) (Nat.le_of_ble_eq_true rfl) (by omega) (by omega) (fun _ _ q => q.elim) ?_
  rintro _ h2 ⟨ma2, th2, z6, rfl, m0, H2, F2, A2, e6⟩
  refine z_istore dLaw_law_1984 (Nat.le_of_ble_eq_true rfl) ?_
  refine z_goto (tgt := 2138) dLaw_law_1986 (by decide) ?_
  exact K _ _ h2 ma2 _ _ _ (zLi.fin C1 eo1 n1 n2 n3 H2 F2 A2 (ok_asked hO) (oka_asked oka)) m0 (by omega) (by omega)
theorem c_Law_44 {ou : Nat} {i : Int} {y5 y6 : Option Value} (I : zLi G h ad ma ou S) (hi : 0 ≤ i ∧ i + 4 ≤ L) (hb1 : 210 ≤ bc) (hb2 : 12100 ≤ bs) (K : zLK G l b L xs ad ma ou i bc bs) : zR G l (zLJ G b L xs) bc bs h 1989 [some (.ref b), some (.ref (ad 0)), some (.ref (ma 0)), some (.ref ou), some (zi i), y5, y6] [] := by
  obtain ⟨th, n0, sv, hC, hM, hO, oka, eo, n1, n2, n3⟩ := I
  have h16 : ∀ k, k < 4 → (S.1 k).length ≤ 16 := fun k hk => (hC.ls hk).len
  have x1 := zX9_r (xs := xs) (i + 1)
  have x2 := zX9_r (xs := xs) (i + 2)
  have x3 := zX9_r (xs := xs) (i + 3)
  refine z_aload_n dLaw_law_1989 rfl ?_
  refine z_callV (bc' := bc - 36) (bs' := bs - 600) MV_Cls_recent lk_Law_314 dLaw_law_1990 (k_Cls_recent hC) rfl rfl (Nat.le_of_ble_eq_true rfl) rfl hC.2.1 (Nat.le_of_ble_eq_true rfl) (Nat.le_of_ble_eq_true rfl) (by omega) (by omega) (fun _ _ q => q.elim) ?_
  rintro _ h1 ⟨⟨s5, rfl⟩, rfl⟩
  have C1 := hC
  have f1 : zFrm ad h h := zFrm.rf
  have eo1 := (f1 ou n1).trans eo
  have H1 : zMod G h ma S th := hM.mid (ad := ad) n2 n3 (fun q _ hq => f1 q hq)
  refine z_pop rfl dLaw_law_1993 ?_
  refine z_aload_n dLaw_law_1994 rfl ?_
  refine z_callV (bc' := bc - 36 - 112) (bs' := bs - 600 - 9344) MV_Mod_recent lk_Law_318 dLaw_law_1995 (k_Mod_recent H1 hO) rfl rfl (Nat.le_of_ble_eq_true rfl) rfl H1.2.1 (Nat.le_of_ble_eq_true rfl) (Nat.le_of_ble_eq_true rfl) (by omega) (by omega) (fun _ _ q => q.elim) ?_
  rintro _ h2 ⟨⟨s6, rfl⟩, H2, F2⟩
  refine z_pop rfl dLaw_law_1998 ?_
  refine z_goto (tgt := 2138) dLaw_law_1999 (by decide) ?_
  exact K _ _ h2 ma _ _ _ (zLi.fin C1 eo1 n1 n2 n3 H2 F2 (fun _ _ => Or.inl rfl) hO oka) rfl (by omega) (by omega)
theorem c_Law_45 {ou : Nat} {i : Int} {y5 y6 : Option Value} (I : zLi G h ad ma ou S) (hi : 0 ≤ i ∧ i + 4 ≤ L) (hb1 : 210 ≤ bc) (hb2 : 12100 ≤ bs) (K : zLK G l b L xs ad ma ou i bc bs) : zR G l (zLJ G b L xs) bc bs h 2002 [some (.ref b), some (.ref (ad 0)), some (.ref (ma 0)), some (.ref ou), some (zi i), y5, y6] [] := by
  obtain ⟨th, n0, sv, hC, hM, hO, oka, eo, n1, n2, n3⟩ := I
  have h16 : ∀ k, k < 4 → (S.1 k).length ≤ 16 := fun k hk => (hC.ls hk).len
  have x1 := zX9_r (xs := xs) (i + 1)
  have x2 := zX9_r (xs := xs) (i + 2)
  have x3 := zX9_r (xs := xs) (i + 3)
  refine z_aload_n dLaw_law_2002 rfl ?_
  refine z_aload_n dLaw_law_2003 rfl ?_
  refine z_iload dLaw_law_2004 rfl ?_
  refine z_iconst dLaw_law_2006 ?_
  refine z_iadd dLaw_law_2007 ?_
  refine z_sld (by omega) dLaw_law_2008 ?_
  refine z_aload_n dLaw_law_2009 rfl ?_
  refine z_iload dLaw_law_2010 rfl ?_
  refine z_iconst dLaw_law_2012 ?_
  refine z_iadd dLaw_law_2013 ?_
  refine z_sld (by omega) dLaw_law_2014 ?_
  refine z_aload_n dLaw_law_2015 rfl ?_
  refine z_callSX (bc' := bc - 6) (bs' := bs - 36) MW_Law_byOrder lk_Law_319 dLaw_law_2016 (k_Law_byOrder hC (zX9_r (xs := xs) (i + 1)) (zX9_r (xs := xs) (i + 2)) eo n1) rfl rfl (Nat.le_of_ble_eq_true rfl) (Nat.le_of_ble_eq_true rfl) (Nat.le_of_ble_eq_true rfl) (by omega) (by omega) (fun _ _ q => q.elim) ?_
  rintro _ h1 ⟨k5, z5, sv5, rfl, C1, f1, eo1, e5⟩
  have H1 : zMod G h1 ma S th := hM.mid n2 n3 f1
  refine z_istore dLaw_law_2019 (Nat.le_of_ble_eq_true rfl) ?_
  refine z_aload_n dLaw_law_2021 rfl ?_
  refine z_aload_n dLaw_law_2022 rfl ?_
  refine z_iload dLaw_law_2023 rfl ?_
  refine z_iconst dLaw_law_2025 ?_
  refine z_iadd dLaw_law_2026 ?_
  refine z_sld (by omega) dLaw_law_2027 ?_
  refine z_aload_n dLaw_law_2028 rfl ?_
  refine z_iload dLaw_law_2029 rfl ?_
  refine z_iconst dLaw_law_2031 ?_
  refine z_iadd dLaw_law_2032 ?_
  refine z_sld (by omega) dLaw_law_2033 ?_
  refine z_callV (bc' := bc - 6 - 0) (bs' := bs - 36 - 0) MV_Mod_byOrder lk_Law_321 dLaw_law_2034 (k_Mod_byOrder H1 (zX9_r (xs := xs) (i + 1)) (zX9_r (xs := xs) (i + 2)) hO.2.2.2.1 (fun j hj => ⟨by have := (oka j hj).1; omega, by have := (oka j hj).2; omega⟩)) rfl rfl (Nat.le_of_ble_eq_true rfl) rfl H1.2.1 (Nat.le_of_ble_eq_true rfl) (Nat.le_of_ble_eq_true rfl) (by omega) (by omega) (fun _ _ q => q.elim) ?_
  rintro _ h2 ⟨ma2, th2, z6, rfl, m0, H2, F2, A2, e6⟩
  rw [spm_state] at H2
  refine z_istore dLaw_law_2037 (Nat.le_of_ble_eq_true rfl) ?_
  refine z_goto (tgt := 2138) dLaw_law_2039 (by decide) ?_
  exact K _ _ h2 ma2 _ _ _ (zLi.fin C1 eo1 n1 n2 n3 H2 F2 A2 (ok_byOrder hO) (oka_byOrder oka)) m0 (by omega) (by omega)
theorem c_Law_46 {ou : Nat} {i : Int} {y5 y6 : Option Value} (I : zLi G h ad ma ou S) (hi : 0 ≤ i ∧ i + 4 ≤ L) (hb1 : 210 ≤ bc) (hb2 : 12100 ≤ bs) (K : zLK G l b L xs ad ma ou i bc bs) : zR G l (zLJ G b L xs) bc bs h 2042 [some (.ref b), some (.ref (ad 0)), some (.ref (ma 0)), some (.ref ou), some (zi i), y5, y6] [] := by
  obtain ⟨th, n0, sv, hC, hM, hO, oka, eo, n1, n2, n3⟩ := I
  have h16 : ∀ k, k < 4 → (S.1 k).length ≤ 16 := fun k hk => (hC.ls hk).len
  have x1 := zX9_r (xs := xs) (i + 1)
  have x2 := zX9_r (xs := xs) (i + 2)
  have x3 := zX9_r (xs := xs) (i + 3)
  refine z_aload_n dLaw_law_2042 rfl ?_
  refine z_aload_n dLaw_law_2043 rfl ?_
  refine z_iload dLaw_law_2044 rfl ?_
  refine z_iconst dLaw_law_2046 ?_
  refine z_iadd dLaw_law_2047 ?_
  refine z_sld (by omega) dLaw_law_2048 ?_
  refine z_aload_n dLaw_law_2049 rfl ?_
  refine z_callSX (bc' := bc - 6) (bs' := bs - 36) MW_Law_house lk_Law_322 dLaw_law_2050 (k_Law_house hC (zX9_r (xs := xs) (i + 1)) eo n1) rfl rfl (Nat.le_of_ble_eq_true rfl) (Nat.le_of_ble_eq_true rfl) (Nat.le_of_ble_eq_true rfl) (by omega) (by omega) (fun _ _ q => q.elim) ?_
  rintro _ h1 ⟨k5, z5, sv5, rfl, C1, f1, eo1, e5⟩
  have H1 : zMod G h1 ma S th := hM.mid n2 n3 f1
  refine z_istore dLaw_law_2053 (Nat.le_of_ble_eq_true rfl) ?_
  refine z_aload_n dLaw_law_2055 rfl ?_
  refine z_aload_n dLaw_law_2056 rfl ?_
  refine z_iload dLaw_law_2057 rfl ?_
  refine z_iconst dLaw_law_2059 ?_
  refine z_iadd dLaw_law_2060 ?_
  refine z_sld (by omega) dLaw_law_2061 ?_
  refine z_callV (bc' := bc - 6 - 1) (bs' := bs - 36 - 5) MV_Mod_house lk_Law_324 dLaw_law_2062 (k_Mod_house H1 (zX9_r (xs := xs) (i + 1))) rfl rfl (Nat.le_of_ble_eq_true rfl) rfl H1.2.1 (Nat.le_of_ble_eq_true rfl) (Nat.le_of_ble_eq_true rfl) (by omega) (by omega) (fun _ _ q => q.elim) ?_
  rintro _ h2 ⟨ma2, th2, z6, rfl, m0, H2, F2, A2, e6⟩
  have hs : (k5 = th2 ∧ z5 = z6 ∧ k5 = 0) ∨ (k5 = th2 ∧ (k5 = 1 ∨ k5 = 2 ∨ k5 = 3)) := by
    rcases e5 with ⟨a5, b5⟩ | ⟨a5, b5⟩ | ⟨a5, b5⟩ | ⟨a5, b5⟩
    · rcases e6 with ⟨a6, b6⟩ | ⟨a6, b6⟩ | ⟨a6, b6⟩ | ⟨a6, b6⟩
      · exact Or.inl ⟨b5.trans b6.symm, Sum.inl.inj (a5.symm.trans a6), b5⟩
      · exact absurd (a5.symm.trans a6) (by first | (simp; done) | decide)
      · exact absurd (a5.symm.trans a6) (by first | (simp; done) | decide)
      · exact absurd (a5.symm.trans a6) (by first | (simp; done) | decide)
    · rcases e6 with ⟨a6, b6⟩ | ⟨a6, b6⟩ | ⟨a6, b6⟩ | ⟨a6, b6⟩
      · exact absurd (a5.symm.trans a6) (by first | (simp; done) | decide)
      · exact absurd (xE_house (Prod.ext a5 rfl)) (by decide)
      · exact absurd (a5.symm.trans a6) (by first | (simp; done) | decide)
      · exact absurd (a5.symm.trans a6) (by first | (simp; done) | decide)
    · rcases e6 with ⟨a6, b6⟩ | ⟨a6, b6⟩ | ⟨a6, b6⟩ | ⟨a6, b6⟩
      · exact absurd (a5.symm.trans a6) (by first | (simp; done) | decide)
      · exact absurd (a5.symm.trans a6) (by first | (simp; done) | decide)
      · exact Or.inr ⟨b5.trans b6.symm, by omega⟩
      · exact absurd (a5.symm.trans a6) (by first | (simp; done) | decide)
    · rcases e6 with ⟨a6, b6⟩ | ⟨a6, b6⟩ | ⟨a6, b6⟩ | ⟨a6, b6⟩
      · exact absurd (a5.symm.trans a6) (by first | (simp; done) | decide)
      · exact absurd (a5.symm.trans a6) (by first | (simp; done) | decide)
      · exact absurd (a5.symm.trans a6) (by first | (simp; done) | decide)
      · exact absurd (xE_house (Prod.ext a5 rfl)) (by decide)
  refine z_istore dLaw_law_2065 (Nat.le_of_ble_eq_true rfl) ?_
  refine z_aload_n dLaw_law_2067 rfl ?_
  rw [show ma 0 = ma2 0 from m0.symm]
  refine z_callV (bc' := bc - 6 - 1) (bs' := bs - 36 - 5) MV_Mod_thrown lk_Law_325 dLaw_law_2068 (k_Mod_thrown H2) rfl rfl (Nat.le_of_ble_eq_true rfl) rfl H2.2.1 (Nat.le_of_ble_eq_true rfl) (Nat.le_of_ble_eq_true rfl) (by omega) (by omega) (fun _ _ q => q.elim) ?_
  rintro _ _ ⟨rfl, rfl⟩
  refine z_iload dLaw_law_2071 rfl ?_
  refine z_icmp_eq (tgt := 2078) dLaw_law_2073 (by decide) (by omega) (by omega) (fun c1 => ?_) (fun c1 => ?_)
  · refine z_iload dLaw_law_2078 rfl ?_
    refine z_if_ne (tgt := 2096) dLaw_law_2080 (by decide) (by omega) (fun c2 => ?_) (fun c2 => ?_)
    · refine z_goto (tgt := 2138) dLaw_law_2096 (by decide) ?_
      rw [show ma2 0 = ma 0 from m0]
      exact K _ _ h2 ma2 _ _ _ (zLi.fin C1 eo1 n1 n2 n3 H2 F2 A2 (ok_house hO) (oka_house oka)) m0 (by omega) (by omega)
    · refine z_aload_n dLaw_law_2083 rfl ?_
      refine z_getN (k := 0) fd_Out (by decide) fl_Law_13 dLaw_law_2084 (F2 ou _ eo1 n2) rfl ?_
      refine z_iload dLaw_law_2087 rfl ?_
      rw [show Value.int (zI z6) = Value.int (zI (zwd z6)) from zwd_i z6]
      refine z_i2l (zwd_r z6) dLaw_law_2089 ?_
      refine z_lcmpI (zwd_64 z5) (zwd_64 z6) dLaw_law_2090 ?_
      have e56 : z5 = z6 := by omega
      rw [e56, zSg_self]
      refine z_if_eq (tgt := 2096) dLaw_law_2091 (by decide) (by decide) (fun c3 => ?_) (fun c3 => ?_)
      · refine z_goto (tgt := 2138) dLaw_law_2096 (by decide) ?_
        rw [show ma2 0 = ma 0 from m0]
        exact K _ _ h2 ma2 _ _ _ (zLi.fin C1 eo1 n1 n2 n3 H2 F2 A2 (ok_house hO) (oka_house oka)) m0 (by omega) (by omega)
      · exact absurd rfl c3
  · exfalso; omega
theorem c_Law_47 {ou : Nat} {i : Int} {y5 y6 : Option Value} (I : zLi G h ad ma ou S) (hi : 0 ≤ i ∧ i + 4 ≤ L) (hb1 : 210 ≤ bc) (hb2 : 12100 ≤ bs) (K : zLK G l b L xs ad ma ou i bc bs) : zR G l (zLJ G b L xs) bc bs h 2099 [some (.ref b), some (.ref (ad 0)), some (.ref (ma 0)), some (.ref ou), some (zi i), y5, y6] [] := by
  obtain ⟨th, n0, sv, hC, hM, hO, oka, eo, n1, n2, n3⟩ := I
  have h16 : ∀ k, k < 4 → (S.1 k).length ≤ 16 := fun k hk => (hC.ls hk).len
  have x1 := zX9_r (xs := xs) (i + 1)
  have x2 := zX9_r (xs := xs) (i + 2)
  have x3 := zX9_r (xs := xs) (i + 3)
  refine z_aload_n dLaw_law_2099 rfl ?_
  refine z_callV (bc' := bc - 6) (bs' := bs - 36) MV_Cls_knock lk_Law_328 dLaw_law_2100 (k_Cls_knock hC) rfl rfl (Nat.le_of_ble_eq_true rfl) rfl hC.2.1 (Nat.le_of_ble_eq_true rfl) (Nat.le_of_ble_eq_true rfl) (by omega) (by omega) (fun E h9 q9 => absurd (Prod.mk.inj (show sp_knock S = _ from q9.choose_spec.1)).1 (by simp)) ?_
  rintro _ h1 ⟨z5, S5, e5, rfl, C1, f1⟩
  have eS : S5 = (sp_knock S).2 := by rw [e5]
  subst eS
  have eo1 := (f1 ou n1).trans eo
  have H1 : zMod G h1 ma S th := hM.mid (ad := ad) n2 n3 (fun q _ hq => f1 q hq)
  refine z_pop rfl dLaw_law_2103 ?_
  refine z_aload_n dLaw_law_2104 rfl ?_
  refine z_callV (bc' := bc - 6 - 0) (bs' := bs - 36 - 0) MV_Mod_knock lk_Law_331 dLaw_law_2105 (k_Mod_knock H1) rfl rfl (Nat.le_of_ble_eq_true rfl) rfl H1.2.1 (Nat.le_of_ble_eq_true rfl) (Nat.le_of_ble_eq_true rfl) (by omega) (by omega) (fun _ _ q => q.elim) ?_
  rintro _ h2 ⟨rfl, H2, F2⟩
  refine z_pop rfl dLaw_law_2108 ?_
  refine z_goto (tgt := 2138) dLaw_law_2109 (by decide) ?_
  exact K _ _ h2 ma _ _ _ (zLi.fin C1 eo1 n1 n2 n3 H2 F2 (fun _ _ => Or.inl rfl) (ok_knock hO) (oka_knock oka)) rfl (by omega) (by omega)
theorem c_Law_48 {ou : Nat} {i : Int} {y5 y6 : Option Value} (I : zLi G h ad ma ou S) (hi : 0 ≤ i ∧ i + 4 ≤ L) (hb1 : 210 ≤ bc) (hb2 : 12100 ≤ bs) (K : zLK G l b L xs ad ma ou i bc bs) : zR G l (zLJ G b L xs) bc bs h 2112 [some (.ref b), some (.ref (ad 0)), some (.ref (ma 0)), some (.ref ou), some (zi i), y5, y6] [] := by
  obtain ⟨th, n0, sv, hC, hM, hO, oka, eo, n1, n2, n3⟩ := I
  have h16 : ∀ k, k < 4 → (S.1 k).length ≤ 16 := fun k hk => (hC.ls hk).len
  have x1 := zX9_r (xs := xs) (i + 1)
  have x2 := zX9_r (xs := xs) (i + 2)
  have x3 := zX9_r (xs := xs) (i + 3)
  refine z_aload_n dLaw_law_2112 rfl ?_
  refine z_callV (bc' := bc - 0) (bs' := bs - 0) MV_Cls_isSound lk_Law_332 dLaw_law_2113 (k_Cls_isSound hC hO) rfl rfl (Nat.le_of_ble_eq_true rfl) rfl hC.2.1 (Nat.le_of_ble_eq_true rfl) (Nat.le_of_ble_eq_true rfl) (by omega) (by omega) (fun _ _ q => q.elim) ?_
  rintro _ h1 ⟨z5, rfl, -, C1, f1⟩
  have eo1 := (f1 ou n1).trans eo
  have H1 : zMod G h1 ma S th := hM.mid (ad := ad) n2 n3 (fun q _ hq => f1 q hq)
  refine z_pop rfl dLaw_law_2116 ?_
  refine z_aload_n dLaw_law_2117 rfl ?_
  refine z_callV (bc' := bc - 0 - 0) (bs' := bs - 0 - 0) MV_Mod_isSound lk_Law_336 dLaw_law_2118 (k_Mod_isSound H1) rfl rfl (Nat.le_of_ble_eq_true rfl) rfl H1.2.1 (Nat.le_of_ble_eq_true rfl) (Nat.le_of_ble_eq_true rfl) (by omega) (by omega) (fun _ _ q => q.elim) ?_
  rintro _ h2 ⟨rfl, H2, F2⟩
  refine z_pop rfl dLaw_law_2121 ?_
  refine z_goto (tgt := 2138) dLaw_law_2122 (by decide) ?_
  exact K _ _ h2 ma _ _ _ (zLi.fin C1 eo1 n1 n2 n3 H2 F2 (fun _ _ => Or.inl rfl) hO oka) rfl (by omega) (by omega)
theorem c_Law_49 {ou : Nat} {i : Int} {y5 y6 : Option Value} (I : zLi G h ad ma ou S) (hi : 0 ≤ i ∧ i + 4 ≤ L) (hb1 : 210 ≤ bc) (hb2 : 12100 ≤ bs) (K : zLK G l b L xs ad ma ou i bc bs) : zR G l (zLJ G b L xs) bc bs h 2125 [some (.ref b), some (.ref (ad 0)), some (.ref (ma 0)), some (.ref ou), some (zi i), y5, y6] [] := by
  obtain ⟨th, n0, sv, hC, hM, hO, oka, eo, n1, n2, n3⟩ := I
  have h16 : ∀ k, k < 4 → (S.1 k).length ≤ 16 := fun k hk => (hC.ls hk).len
  have x1 := zX9_r (xs := xs) (i + 1)
  have x2 := zX9_r (xs := xs) (i + 2)
  have x3 := zX9_r (xs := xs) (i + 3)
  refine z_aload_n dLaw_law_2125 rfl ?_
  refine z_callV (bc' := bc - 0) (bs' := bs - 0) MV_Cls_digest lk_Law_337 dLaw_law_2126 (k_Cls_digest hC hO) rfl rfl (Nat.le_of_ble_eq_true rfl) rfl hC.2.1 (Nat.le_of_ble_eq_true rfl) (Nat.le_of_ble_eq_true rfl) (by omega) (by omega) (fun _ _ q => q.elim) ?_
  rintro _ h1 ⟨z5, -, rfl, C1, f1⟩
  have eo1 := (f1 ou n1).trans eo
  have H1 : zMod G h1 ma S th := hM.mid (ad := ad) n2 n3 (fun q _ hq => f1 q hq)
  refine z_pop2_2 rfl dLaw_law_2129 ?_
  refine z_aload_n dLaw_law_2130 rfl ?_
  refine z_callV (bc' := bc - 0 - 23) (bs' := bs - 0 - 133) MV_Mod_digest lk_Law_341 dLaw_law_2131 (k_Mod_digest H1 hO oka h16) rfl rfl (Nat.le_of_ble_eq_true rfl) rfl H1.2.1 (Nat.le_of_ble_eq_true rfl) (Nat.le_of_ble_eq_true rfl) (by omega) (by omega) (fun _ _ q => q.elim) ?_
  rintro _ h2 ⟨d6, rfl, H2, F2⟩
  refine z_pop2_2 rfl dLaw_law_2134 ?_
  refine z_goto (tgt := 2138) dLaw_law_2135 (by decide) ?_
  exact K _ _ h2 ma _ _ _ (zLi.fin C1 eo1 n1 n2 n3 H2 F2 (fun _ _ => Or.inl rfl) hO oka) rfl (by omega) (by omega)
end LAW3
end
