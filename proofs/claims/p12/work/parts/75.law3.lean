section LAW3
variable {G : zG} {l : Launch} {h h' h0 h1 h2 : zHp} {ad ma ma2 : Nat → Nat} {S S' : zSt} {th : Int} {b L : Nat} {xs : Nat → Int32} {bc bs pc : Nat} {ls : List (Option Value)} {st : List Value}
theorem text_st {p n : Int} : (sp_text S p n).2 = S := by unfold sp_text; split <;> rfl
/-- what a case comes to: the state of both again -/
def zLK (G : zG) (l : Launch) (b L : Nat) (xs : Nat → Int32) (ad ma : Nat → Nat) (ou : Nat) (i : Int) (bc bs : Nat) : Prop := ∀ (bc' bs' : Nat) (h2 : zHp) (ma2 : Nat → Nat) (S2 : zSt) (y5 y6 : Option Value), zLi G h2 ad ma2 ou S2 → ma2 0 = ma 0 → bc ≤ bc' + 210 → bs ≤ bs' + 12100 → zR G l (zLJ G b L xs) bc' bs' h2 2145 [some (.ref b), some (.ref (ad 0)), some (.ref (ma 0)), some (.ref ou), some (zi i), y5, y6] []
theorem zSg_self (a : Int) : zSg a a = 0 := by unfold zSg; simp
theorem c_Law_0 {ou : Nat} {i : Int} {y5 y6 : Option Value} (I : zLi G h ad ma ou S) (hi : 0 ≤ i ∧ i + 4 ≤ L) (hb1 : 210 ≤ bc) (hb2 : 12100 ≤ bs) (K : zLK G l b L xs ad ma ou i bc bs) : zR G l (zLJ G b L xs) bc bs h 256 [some (.ref b), some (.ref (ad 0)), some (.ref (ma 0)), some (.ref ou), some (zi i), y5, y6] [] := by
  obtain ⟨th, n0, sv, hC, hM, hO, oka, eo, n1, n2, n3⟩ := I
  have h16 : ∀ k, k < 4 → (S.1 k).length ≤ 16 := fun k hk => (hC.ls hk).len
  have x1 := zX9_r (xs := xs) (i + 1)
  have x2 := zX9_r (xs := xs) (i + 2)
  have x3 := zX9_r (xs := xs) (i + 3)
  refine z_aload_n dLaw_law_256 rfl ?_
  refine z_aload_n dLaw_law_257 rfl ?_
  refine z_iload dLaw_law_258 rfl ?_
  refine z_iconst dLaw_law_260 ?_
  refine z_iadd dLaw_law_261 ?_
  refine z_sld (by omega) dLaw_law_262 ?_
  refine z_aload_n dLaw_law_263 rfl ?_
  refine z_iload dLaw_law_264 rfl ?_
  refine z_iconst dLaw_law_266 ?_
  refine z_iadd dLaw_law_267 ?_
  refine z_sld (by omega) dLaw_law_268 ?_
  refine z_aload_n dLaw_law_269 rfl ?_
  refine z_iload dLaw_law_270 rfl ?_
  refine z_iconst dLaw_law_272 ?_
  refine z_iadd dLaw_law_273 ?_
  refine z_sld (by omega) dLaw_law_274 ?_
  refine z_aload_n dLaw_law_275 rfl ?_
  refine z_callSX (bc' := bc - 6) (bs' := bs - 36) MW_Law_put lk_Law_173 dLaw_law_276 (k_Law_put hC (zX9_r (xs := xs) (i + 1)) (zX9_r (xs := xs) (i + 2)) (zX9_r (xs := xs) (i + 3)) eo n1) rfl rfl (Nat.le_of_ble_eq_true rfl) (Nat.le_of_ble_eq_true rfl) (Nat.le_of_ble_eq_true rfl) (by omega) (by omega) (fun _ _ q => q.elim) ?_
  rintro _ h1 ⟨k5, z5, sv5, rfl, C1, f1, eo1, e5⟩
  have H1 : zMod G h1 ma S th := hM.mid n2 n3 f1
  refine z_istore dLaw_law_279 (Nat.le_of_ble_eq_true rfl) ?_
  refine z_aload_n dLaw_law_281 rfl ?_
  refine z_aload_n dLaw_law_282 rfl ?_
  refine z_iload dLaw_law_283 rfl ?_
  refine z_iconst dLaw_law_285 ?_
  refine z_iadd dLaw_law_286 ?_
  refine z_sld (by omega) dLaw_law_287 ?_
  refine z_aload_n dLaw_law_288 rfl ?_
  refine z_iload dLaw_law_289 rfl ?_
  refine z_iconst dLaw_law_291 ?_
  refine z_iadd dLaw_law_292 ?_
  refine z_sld (by omega) dLaw_law_293 ?_
  refine z_aload_n dLaw_law_294 rfl ?_
  refine z_iload dLaw_law_295 rfl ?_
  refine z_iconst dLaw_law_297 ?_
  refine z_iadd dLaw_law_298 ?_
  refine z_sld (by omega) dLaw_law_299 ?_
  refine z_callV (bc' := bc - 6 - 1) (bs' := bs - 36 - 61) MV_Mod_put lk_Law_178 dLaw_law_300 (k_Mod_put H1 (zX9_r (xs := xs) (i + 1)) (zX9_r (xs := xs) (i + 2)) (zX9_r (xs := xs) (i + 3)) h16) rfl rfl (Nat.le_of_ble_eq_true rfl) rfl H1.2.1 (Nat.le_of_ble_eq_true rfl) (Nat.le_of_ble_eq_true rfl) (by omega) (by omega) (fun _ _ q => q.elim) ?_
  rintro _ h2 ⟨ma2, th2, z6, rfl, m0, H2, F2, A2, e6⟩
  refine z_istore dLaw_law_303 (Nat.le_of_ble_eq_true rfl) ?_
  refine z_goto (tgt := 2145) dLaw_law_305 (by decide) ?_
  exact K _ _ h2 ma2 _ _ _ (zLi.fin C1 eo1 n1 n2 n3 H2 F2 A2 (ok_put hO) (oka_put oka)) m0 (by omega) (by omega)
theorem c_Law_1 {ou : Nat} {i : Int} {y5 y6 : Option Value} (I : zLi G h ad ma ou S) (hi : 0 ≤ i ∧ i + 4 ≤ L) (hb1 : 210 ≤ bc) (hb2 : 12100 ≤ bs) (K : zLK G l b L xs ad ma ou i bc bs) : zR G l (zLJ G b L xs) bc bs h 308 [some (.ref b), some (.ref (ad 0)), some (.ref (ma 0)), some (.ref ou), some (zi i), y5, y6] [] := by
  obtain ⟨th, n0, sv, hC, hM, hO, oka, eo, n1, n2, n3⟩ := I
  have h16 : ∀ k, k < 4 → (S.1 k).length ≤ 16 := fun k hk => (hC.ls hk).len
  have x1 := zX9_r (xs := xs) (i + 1)
  have x2 := zX9_r (xs := xs) (i + 2)
  have x3 := zX9_r (xs := xs) (i + 3)
  refine z_aload_n dLaw_law_308 rfl ?_
  refine z_aload_n dLaw_law_309 rfl ?_
  refine z_iload dLaw_law_310 rfl ?_
  refine z_iconst dLaw_law_312 ?_
  refine z_iadd dLaw_law_313 ?_
  refine z_sld (by omega) dLaw_law_314 ?_
  refine z_aload_n dLaw_law_315 rfl ?_
  refine z_iload dLaw_law_316 rfl ?_
  refine z_iconst dLaw_law_318 ?_
  refine z_iadd dLaw_law_319 ?_
  refine z_sld (by omega) dLaw_law_320 ?_
  refine z_aload_n dLaw_law_321 rfl ?_
  refine z_callSX (bc' := bc - 6) (bs' := bs - 36) MW_Law_take lk_Law_179 dLaw_law_322 (k_Law_take hC (zX9_r (xs := xs) (i + 1)) (zX9_r (xs := xs) (i + 2)) eo n1) rfl rfl (Nat.le_of_ble_eq_true rfl) (Nat.le_of_ble_eq_true rfl) (Nat.le_of_ble_eq_true rfl) (by omega) (by omega) (fun _ _ q => q.elim) ?_
  rintro _ h1 ⟨k5, z5, sv5, rfl, C1, f1, eo1, e5⟩
  have H1 : zMod G h1 ma S th := hM.mid n2 n3 f1
  refine z_istore dLaw_law_325 (Nat.le_of_ble_eq_true rfl) ?_
  refine z_aload_n dLaw_law_327 rfl ?_
  refine z_aload_n dLaw_law_328 rfl ?_
  refine z_iload dLaw_law_329 rfl ?_
  refine z_iconst dLaw_law_331 ?_
  refine z_iadd dLaw_law_332 ?_
  refine z_sld (by omega) dLaw_law_333 ?_
  refine z_aload_n dLaw_law_334 rfl ?_
  refine z_iload dLaw_law_335 rfl ?_
  refine z_iconst dLaw_law_337 ?_
  refine z_iadd dLaw_law_338 ?_
  refine z_sld (by omega) dLaw_law_339 ?_
  refine z_callV (bc' := bc - 6 - 1) (bs' := bs - 36 - 60) MV_Mod_take lk_Law_182 dLaw_law_340 (k_Mod_take H1 (zX9_r (xs := xs) (i + 1)) (zX9_r (xs := xs) (i + 2)) h16) rfl rfl (Nat.le_of_ble_eq_true rfl) rfl H1.2.1 (Nat.le_of_ble_eq_true rfl) (Nat.le_of_ble_eq_true rfl) (by omega) (by omega) (fun _ _ q => q.elim) ?_
  rintro _ h2 ⟨ma2, th2, z6, rfl, m0, H2, F2, A2, e6⟩
  refine z_istore dLaw_law_343 (Nat.le_of_ble_eq_true rfl) ?_
  refine z_goto (tgt := 2145) dLaw_law_345 (by decide) ?_
  exact K _ _ h2 ma2 _ _ _ (zLi.fin C1 eo1 n1 n2 n3 H2 F2 A2 (ok_take hO) (oka_take oka)) m0 (by omega) (by omega)
theorem c_Law_2 {ou : Nat} {i : Int} {y5 y6 : Option Value} (I : zLi G h ad ma ou S) (hi : 0 ≤ i ∧ i + 4 ≤ L) (hb1 : 210 ≤ bc) (hb2 : 12100 ≤ bs) (K : zLK G l b L xs ad ma ou i bc bs) : zR G l (zLJ G b L xs) bc bs h 348 [some (.ref b), some (.ref (ad 0)), some (.ref (ma 0)), some (.ref ou), some (zi i), y5, y6] [] := by
  obtain ⟨th, n0, sv, hC, hM, hO, oka, eo, n1, n2, n3⟩ := I
  have h16 : ∀ k, k < 4 → (S.1 k).length ≤ 16 := fun k hk => (hC.ls hk).len
  have x1 := zX9_r (xs := xs) (i + 1)
  have x2 := zX9_r (xs := xs) (i + 2)
  have x3 := zX9_r (xs := xs) (i + 3)
  refine z_aload_n dLaw_law_348 rfl ?_
  refine z_aload_n dLaw_law_349 rfl ?_
  refine z_iload dLaw_law_350 rfl ?_
  refine z_iconst dLaw_law_352 ?_
  refine z_iadd dLaw_law_353 ?_
  refine z_sld (by omega) dLaw_law_354 ?_
  refine z_aload_n dLaw_law_355 rfl ?_
  refine z_iload dLaw_law_356 rfl ?_
  refine z_iconst dLaw_law_358 ?_
  refine z_iadd dLaw_law_359 ?_
  refine z_sld (by omega) dLaw_law_360 ?_
  refine z_aload_n dLaw_law_361 rfl ?_
  refine z_callSX (bc' := bc - 6) (bs' := bs - 36) MW_Law_look lk_Law_183 dLaw_law_362 (k_Law_look hC (zX9_r (xs := xs) (i + 1)) (zX9_r (xs := xs) (i + 2)) eo n1) rfl rfl (Nat.le_of_ble_eq_true rfl) (Nat.le_of_ble_eq_true rfl) (Nat.le_of_ble_eq_true rfl) (by omega) (by omega) (fun _ _ q => q.elim) ?_
  rintro _ h1 ⟨k5, z5, sv5, rfl, C1, f1, eo1, e5⟩
  have H1 : zMod G h1 ma S th := hM.mid n2 n3 f1
  refine z_istore dLaw_law_365 (Nat.le_of_ble_eq_true rfl) ?_
  refine z_aload_n dLaw_law_367 rfl ?_
  refine z_aload_n dLaw_law_368 rfl ?_
  refine z_iload dLaw_law_369 rfl ?_
  refine z_iconst dLaw_law_371 ?_
  refine z_iadd dLaw_law_372 ?_
  refine z_sld (by omega) dLaw_law_373 ?_
  refine z_aload_n dLaw_law_374 rfl ?_
  refine z_iload dLaw_law_375 rfl ?_
  refine z_iconst dLaw_law_377 ?_
  refine z_iadd dLaw_law_378 ?_
  refine z_sld (by omega) dLaw_law_379 ?_
  refine z_callV (bc' := bc - 6 - 0) (bs' := bs - 36 - 0) MV_Mod_look lk_Law_185 dLaw_law_380 (k_Mod_look H1 (zX9_r (xs := xs) (i + 1)) (zX9_r (xs := xs) (i + 2))) rfl rfl (Nat.le_of_ble_eq_true rfl) rfl H1.2.1 (Nat.le_of_ble_eq_true rfl) (Nat.le_of_ble_eq_true rfl) (by omega) (by omega) (fun _ _ q => q.elim) ?_
  rintro _ h2 ⟨ma2, th2, z6, rfl, m0, H2, F2, A2, e6⟩
  refine z_istore dLaw_law_383 (Nat.le_of_ble_eq_true rfl) ?_
  refine z_goto (tgt := 2145) dLaw_law_385 (by decide) ?_
  exact K _ _ h2 ma2 _ _ _ (zLi.fin C1 eo1 n1 n2 n3 H2 F2 A2 (ok_look hO) (oka_look oka)) m0 (by omega) (by omega)
theorem c_Law_3 {ou : Nat} {i : Int} {y5 y6 : Option Value} (I : zLi G h ad ma ou S) (hi : 0 ≤ i ∧ i + 4 ≤ L) (hb1 : 210 ≤ bc) (hb2 : 12100 ≤ bs) (K : zLK G l b L xs ad ma ou i bc bs) : zR G l (zLJ G b L xs) bc bs h 388 [some (.ref b), some (.ref (ad 0)), some (.ref (ma 0)), some (.ref ou), some (zi i), y5, y6] [] := by
  obtain ⟨th, n0, sv, hC, hM, hO, oka, eo, n1, n2, n3⟩ := I
  have h16 : ∀ k, k < 4 → (S.1 k).length ≤ 16 := fun k hk => (hC.ls hk).len
  have x1 := zX9_r (xs := xs) (i + 1)
  have x2 := zX9_r (xs := xs) (i + 2)
  have x3 := zX9_r (xs := xs) (i + 3)
  refine z_aload_n dLaw_law_388 rfl ?_
  refine z_aload_n dLaw_law_389 rfl ?_
  refine z_iload dLaw_law_390 rfl ?_
  refine z_iconst dLaw_law_392 ?_
  refine z_iadd dLaw_law_393 ?_
  refine z_sld (by omega) dLaw_law_394 ?_
  refine z_aload_n dLaw_law_395 rfl ?_
  refine z_iload dLaw_law_396 rfl ?_
  refine z_iconst dLaw_law_398 ?_
  refine z_iadd dLaw_law_399 ?_
  refine z_sld (by omega) dLaw_law_400 ?_
  refine z_aload_n dLaw_law_401 rfl ?_
  refine z_callSX (bc' := bc - 6) (bs' := bs - 36) MW_Law_get lk_Law_186 dLaw_law_402 (k_Law_get hC (zX9_r (xs := xs) (i + 1)) (zX9_r (xs := xs) (i + 2)) eo n1) rfl rfl (Nat.le_of_ble_eq_true rfl) (Nat.le_of_ble_eq_true rfl) (Nat.le_of_ble_eq_true rfl) (by omega) (by omega) (fun _ _ q => q.elim) ?_
  rintro _ h1 ⟨k5, z5, sv5, rfl, C1, f1, eo1, e5⟩
  have H1 : zMod G h1 ma S th := hM.mid n2 n3 f1
  refine z_istore dLaw_law_405 (Nat.le_of_ble_eq_true rfl) ?_
  refine z_aload_n dLaw_law_407 rfl ?_
  refine z_aload_n dLaw_law_408 rfl ?_
  refine z_iload dLaw_law_409 rfl ?_
  refine z_iconst dLaw_law_411 ?_
  refine z_iadd dLaw_law_412 ?_
  refine z_sld (by omega) dLaw_law_413 ?_
  refine z_aload_n dLaw_law_414 rfl ?_
  refine z_iload dLaw_law_415 rfl ?_
  refine z_iconst dLaw_law_417 ?_
  refine z_iadd dLaw_law_418 ?_
  refine z_sld (by omega) dLaw_law_419 ?_
  refine z_callV (bc' := bc - 6 - 0) (bs' := bs - 36 - 0) MV_Mod_get lk_Law_188 dLaw_law_420 (k_Mod_get H1 (zX9_r (xs := xs) (i + 1)) (zX9_r (xs := xs) (i + 2))) rfl rfl (Nat.le_of_ble_eq_true rfl) rfl H1.2.1 (Nat.le_of_ble_eq_true rfl) (Nat.le_of_ble_eq_true rfl) (by omega) (by omega) (fun _ _ q => q.elim) ?_
  rintro _ h2 ⟨ma2, th2, z6, rfl, m0, H2, F2, A2, e6⟩
  refine z_istore dLaw_law_423 (Nat.le_of_ble_eq_true rfl) ?_
  refine z_goto (tgt := 2145) dLaw_law_425 (by decide) ?_
  exact K _ _ h2 ma2 _ _ _ (zLi.fin C1 eo1 n1 n2 n3 H2 F2 A2 (ok_get hO) (oka_get oka)) m0 (by omega) (by omega)
theorem c_Law_4 {ou : Nat} {i : Int} {y5 y6 : Option Value} (I : zLi G h ad ma ou S) (hi : 0 ≤ i ∧ i + 4 ≤ L) (hb1 : 210 ≤ bc) (hb2 : 12100 ≤ bs) (K : zLK G l b L xs ad ma ou i bc bs) : zR G l (zLJ G b L xs) bc bs h 428 [some (.ref b), some (.ref (ad 0)), some (.ref (ma 0)), some (.ref ou), some (zi i), y5, y6] [] := by
  obtain ⟨th, n0, sv, hC, hM, hO, oka, eo, n1, n2, n3⟩ := I
  have h16 : ∀ k, k < 4 → (S.1 k).length ≤ 16 := fun k hk => (hC.ls hk).len
  have x1 := zX9_r (xs := xs) (i + 1)
  have x2 := zX9_r (xs := xs) (i + 2)
  have x3 := zX9_r (xs := xs) (i + 3)
  refine z_aload_n dLaw_law_428 rfl ?_
  refine z_aload_n dLaw_law_429 rfl ?_
  refine z_iload dLaw_law_430 rfl ?_
  refine z_iconst dLaw_law_432 ?_
  refine z_iadd dLaw_law_433 ?_
  refine z_sld (by omega) dLaw_law_434 ?_
  refine z_aload_n dLaw_law_435 rfl ?_
  refine z_iload dLaw_law_436 rfl ?_
  refine z_iconst dLaw_law_438 ?_
  refine z_iadd dLaw_law_439 ?_
  refine z_sld (by omega) dLaw_law_440 ?_
  refine z_aload_n dLaw_law_441 rfl ?_
  refine z_iload dLaw_law_442 rfl ?_
  refine z_iconst dLaw_law_444 ?_
  refine z_iadd dLaw_law_445 ?_
  refine z_sld (by omega) dLaw_law_446 ?_
  refine z_aload_n dLaw_law_447 rfl ?_
  refine z_callSX (bc' := bc - 6) (bs' := bs - 36) MW_Law_set lk_Law_189 dLaw_law_448 (k_Law_set hC (zX9_r (xs := xs) (i + 1)) (zX9_r (xs := xs) (i + 2)) (zX9_r (xs := xs) (i + 3)) eo n1) rfl rfl (Nat.le_of_ble_eq_true rfl) (Nat.le_of_ble_eq_true rfl) (Nat.le_of_ble_eq_true rfl) (by omega) (by omega) (fun _ _ q => q.elim) ?_
  rintro _ h1 ⟨k5, z5, sv5, rfl, C1, f1, eo1, e5⟩
  have H1 : zMod G h1 ma S th := hM.mid n2 n3 f1
  refine z_istore dLaw_law_451 (Nat.le_of_ble_eq_true rfl) ?_
  refine z_aload_n dLaw_law_453 rfl ?_
  refine z_aload_n dLaw_law_454 rfl ?_
  refine z_iload dLaw_law_455 rfl ?_
  refine z_iconst dLaw_law_457 ?_
  refine z_iadd dLaw_law_458 ?_
  refine z_sld (by omega) dLaw_law_459 ?_
  refine z_aload_n dLaw_law_460 rfl ?_
  refine z_iload dLaw_law_461 rfl ?_
  refine z_iconst dLaw_law_463 ?_
  refine z_iadd dLaw_law_464 ?_
  refine z_sld (by omega) dLaw_law_465 ?_
  refine z_aload_n dLaw_law_466 rfl ?_
  refine z_iload dLaw_law_467 rfl ?_
  refine z_iconst dLaw_law_469 ?_
  refine z_iadd dLaw_law_470 ?_
  refine z_sld (by omega) dLaw_law_471 ?_
  refine z_callV (bc' := bc - 6 - 0) (bs' := bs - 36 - 0) MV_Mod_set lk_Law_191 dLaw_law_472 (k_Mod_set H1 (zX9_r (xs := xs) (i + 1)) (zX9_r (xs := xs) (i + 2)) (zX9_r (xs := xs) (i + 3))) rfl rfl (Nat.le_of_ble_eq_true rfl) rfl H1.2.1 (Nat.le_of_ble_eq_true rfl) (Nat.le_of_ble_eq_true rfl) (by omega) (by omega) (fun _ _ q => q.elim) ?_
  rintro _ h2 ⟨ma2, th2, z6, rfl, m0, H2, F2, A2, e6⟩
  refine z_istore dLaw_law_475 (Nat.le_of_ble_eq_true rfl) ?_
  refine z_goto (tgt := 2145) dLaw_law_477 (by decide) ?_
  exact K _ _ h2 ma2 _ _ _ (zLi.fin C1 eo1 n1 n2 n3 H2 F2 A2 (ok_set hO) (oka_set oka)) m0 (by omega) (by omega)
theorem c_Law_5 {ou : Nat} {i : Int} {y5 y6 : Option Value} (I : zLi G h ad ma ou S) (hi : 0 ≤ i ∧ i + 4 ≤ L) (hb1 : 210 ≤ bc) (hb2 : 12100 ≤ bs) (K : zLK G l b L xs ad ma ou i bc bs) : zR G l (zLJ G b L xs) bc bs h 480 [some (.ref b), some (.ref (ad 0)), some (.ref (ma 0)), some (.ref ou), some (zi i), y5, y6] [] := by
  obtain ⟨th, n0, sv, hC, hM, hO, oka, eo, n1, n2, n3⟩ := I
  have h16 : ∀ k, k < 4 → (S.1 k).length ≤ 16 := fun k hk => (hC.ls hk).len
  have x1 := zX9_r (xs := xs) (i + 1)
  have x2 := zX9_r (xs := xs) (i + 2)
  have x3 := zX9_r (xs := xs) (i + 3)
  refine z_aload_n dLaw_law_480 rfl ?_
  refine z_aload_n dLaw_law_481 rfl ?_
  refine z_iload dLaw_law_482 rfl ?_
  refine z_iconst dLaw_law_484 ?_
  refine z_iadd dLaw_law_485 ?_
  refine z_sld (by omega) dLaw_law_486 ?_
  refine z_aload_n dLaw_law_487 rfl ?_
  refine z_iload dLaw_law_488 rfl ?_
  refine z_iconst dLaw_law_490 ?_
  refine z_iadd dLaw_law_491 ?_
  refine z_sld (by omega) dLaw_law_492 ?_
  refine z_aload_n dLaw_law_493 rfl ?_
  refine z_iload dLaw_law_494 rfl ?_
  refine z_iconst dLaw_law_496 ?_
  refine z_iadd dLaw_law_497 ?_
  refine z_sld (by omega) dLaw_law_498 ?_
  refine z_aload_n dLaw_law_499 rfl ?_
  refine z_callSX (bc' := bc - 6) (bs' := bs - 36) MW_Law_insert lk_Law_192 dLaw_law_500 (k_Law_insert hC (zX9_r (xs := xs) (i + 1)) (zX9_r (xs := xs) (i + 2)) (zX9_r (xs := xs) (i + 3)) eo n1) rfl rfl (Nat.le_of_ble_eq_true rfl) (Nat.le_of_ble_eq_true rfl) (Nat.le_of_ble_eq_true rfl) (by omega) (by omega) (fun _ _ q => q.elim) ?_
  rintro _ h1 ⟨k5, z5, sv5, rfl, C1, f1, eo1, e5⟩
  have H1 : zMod G h1 ma S th := hM.mid n2 n3 f1
  refine z_istore dLaw_law_503 (Nat.le_of_ble_eq_true rfl) ?_
  refine z_aload_n dLaw_law_505 rfl ?_
  refine z_aload_n dLaw_law_506 rfl ?_
  refine z_iload dLaw_law_507 rfl ?_
  refine z_iconst dLaw_law_509 ?_
  refine z_iadd dLaw_law_510 ?_
  refine z_sld (by omega) dLaw_law_511 ?_
  refine z_aload_n dLaw_law_512 rfl ?_
  refine z_iload dLaw_law_513 rfl ?_
  refine z_iconst dLaw_law_515 ?_
  refine z_iadd dLaw_law_516 ?_
  refine z_sld (by omega) dLaw_law_517 ?_
  refine z_aload_n dLaw_law_518 rfl ?_
  refine z_iload dLaw_law_519 rfl ?_
  refine z_iconst dLaw_law_521 ?_
  refine z_iadd dLaw_law_522 ?_
  refine z_sld (by omega) dLaw_law_523 ?_
  refine z_callV (bc' := bc - 6 - 1) (bs' := bs - 36 - 61) MV_Mod_insert lk_Law_194 dLaw_law_524 (k_Mod_insert H1 (zX9_r (xs := xs) (i + 1)) (zX9_r (xs := xs) (i + 2)) (zX9_r (xs := xs) (i + 3)) h16) rfl rfl (Nat.le_of_ble_eq_true rfl) rfl H1.2.1 (Nat.le_of_ble_eq_true rfl) (Nat.le_of_ble_eq_true rfl) (by omega) (by omega) (fun _ _ q => q.elim) ?_
  rintro _ h2 ⟨ma2, th2, z6, rfl, m0, H2, F2, A2, e6⟩
  refine z_istore dLaw_law_527 (Nat.le_of_ble_eq_true rfl) ?_
  refine z_goto (tgt := 2145) dLaw_law_529 (by decide) ?_
  exact K _ _ h2 ma2 _ _ _ (zLi.fin C1 eo1 n1 n2 n3 H2 F2 A2 (ok_insert hO) (oka_insert oka)) m0 (by omega) (by omega)
theorem c_Law_6 {ou : Nat} {i : Int} {y5 y6 : Option Value} (I : zLi G h ad ma ou S) (hi : 0 ≤ i ∧ i + 4 ≤ L) (hb1 : 210 ≤ bc) (hb2 : 12100 ≤ bs) (K : zLK G l b L xs ad ma ou i bc bs) : zR G l (zLJ G b L xs) bc bs h 532 [some (.ref b), some (.ref (ad 0)), some (.ref (ma 0)), some (.ref ou), some (zi i), y5, y6] [] := by
  obtain ⟨th, n0, sv, hC, hM, hO, oka, eo, n1, n2, n3⟩ := I
  have h16 : ∀ k, k < 4 → (S.1 k).length ≤ 16 := fun k hk => (hC.ls hk).len
  have x1 := zX9_r (xs := xs) (i + 1)
  have x2 := zX9_r (xs := xs) (i + 2)
  have x3 := zX9_r (xs := xs) (i + 3)
  refine z_aload_n dLaw_law_532 rfl ?_
  refine z_aload_n dLaw_law_533 rfl ?_
  refine z_iload dLaw_law_534 rfl ?_
  refine z_iconst dLaw_law_536 ?_
  refine z_iadd dLaw_law_537 ?_
  refine z_sld (by omega) dLaw_law_538 ?_
  refine z_aload_n dLaw_law_539 rfl ?_
  refine z_iload dLaw_law_540 rfl ?_
  refine z_iconst dLaw_law_542 ?_
  refine z_iadd dLaw_law_543 ?_
  refine z_sld (by omega) dLaw_law_544 ?_
  refine z_aload_n dLaw_law_545 rfl ?_
  refine z_callSX (bc' := bc - 6) (bs' := bs - 36) MW_Law_removeAt lk_Law_195 dLaw_law_546 (k_Law_removeAt hC (zX9_r (xs := xs) (i + 1)) (zX9_r (xs := xs) (i + 2)) eo n1) rfl rfl (Nat.le_of_ble_eq_true rfl) (Nat.le_of_ble_eq_true rfl) (Nat.le_of_ble_eq_true rfl) (by omega) (by omega) (fun _ _ q => q.elim) ?_
  rintro _ h1 ⟨k5, z5, sv5, rfl, C1, f1, eo1, e5⟩
  have H1 : zMod G h1 ma S th := hM.mid n2 n3 f1
  refine z_istore dLaw_law_549 (Nat.le_of_ble_eq_true rfl) ?_
  refine z_aload_n dLaw_law_551 rfl ?_
  refine z_aload_n dLaw_law_552 rfl ?_
  refine z_iload dLaw_law_553 rfl ?_
  refine z_iconst dLaw_law_555 ?_
  refine z_iadd dLaw_law_556 ?_
  refine z_sld (by omega) dLaw_law_557 ?_
  refine z_aload_n dLaw_law_558 rfl ?_
  refine z_iload dLaw_law_559 rfl ?_
  refine z_iconst dLaw_law_561 ?_
  refine z_iadd dLaw_law_562 ?_
  refine z_sld (by omega) dLaw_law_563 ?_
  refine z_callV (bc' := bc - 6 - 1) (bs' := bs - 36 - 60) MV_Mod_removeAt lk_Law_197 dLaw_law_564 (k_Mod_removeAt H1 (zX9_r (xs := xs) (i + 1)) (zX9_r (xs := xs) (i + 2)) h16) rfl rfl (Nat.le_of_ble_eq_true rfl) rfl H1.2.1 (Nat.le_of_ble_eq_true rfl) (Nat.le_of_ble_eq_true rfl) (by omega) (by omega) (fun _ _ q => q.elim) ?_
  rintro _ h2 ⟨ma2, th2, z6, rfl, m0, H2, F2, A2, e6⟩
  refine z_istore dLaw_law_567 (Nat.le_of_ble_eq_true rfl) ?_
  refine z_goto (tgt := 2145) dLaw_law_569 (by decide) ?_
  exact K _ _ h2 ma2 _ _ _ (zLi.fin C1 eo1 n1 n2 n3 H2 F2 A2 (ok_removeAt hO) (oka_removeAt oka)) m0 (by omega) (by omega)
theorem c_Law_7 {ou : Nat} {i : Int} {y5 y6 : Option Value} (I : zLi G h ad ma ou S) (hi : 0 ≤ i ∧ i + 4 ≤ L) (hb1 : 210 ≤ bc) (hb2 : 12100 ≤ bs) (K : zLK G l b L xs ad ma ou i bc bs) : zR G l (zLJ G b L xs) bc bs h 572 [some (.ref b), some (.ref (ad 0)), some (.ref (ma 0)), some (.ref ou), some (zi i), y5, y6] [] := by
  obtain ⟨th, n0, sv, hC, hM, hO, oka, eo, n1, n2, n3⟩ := I
  have h16 : ∀ k, k < 4 → (S.1 k).length ≤ 16 := fun k hk => (hC.ls hk).len
  have x1 := zX9_r (xs := xs) (i + 1)
  have x2 := zX9_r (xs := xs) (i + 2)
  have x3 := zX9_r (xs := xs) (i + 3)
  refine z_aload_n dLaw_law_572 rfl ?_
  refine z_aload_n dLaw_law_573 rfl ?_
  refine z_iload dLaw_law_574 rfl ?_
  refine z_iconst dLaw_law_576 ?_
  refine z_iadd dLaw_law_577 ?_
  refine z_sld (by omega) dLaw_law_578 ?_
  refine z_aload_n dLaw_law_579 rfl ?_
  refine z_iload dLaw_law_580 rfl ?_
  refine z_iconst dLaw_law_582 ?_
  refine z_iadd dLaw_law_583 ?_
  refine z_sld (by omega) dLaw_law_584 ?_
  refine z_aload_n dLaw_law_585 rfl ?_
  refine z_iload dLaw_law_586 rfl ?_
  refine z_iconst dLaw_law_588 ?_
  refine z_iadd dLaw_law_589 ?_
  refine z_sld (by omega) dLaw_law_590 ?_
  refine z_if_eq (tgt := 598) dLaw_law_591 (by decide) (by omega) (fun c1a => ?_) (fun c1b => ?_)
  · refine z_iconst dLaw_law_598 ?_
    refine z_aload_n dLaw_law_599 rfl ?_
    refine z_callSX (bc' := bc - 6) (bs' := bs - 36) MW_Law_drop lk_Law_198 dLaw_law_600 (k_Law_drop (Or.inl rfl) hC (zX9_r (xs := xs) (i + 1)) (zX9_r (xs := xs) (i + 2)) (by decide) eo n1) rfl rfl (Nat.le_of_ble_eq_true rfl) (Nat.le_of_ble_eq_true rfl) (Nat.le_of_ble_eq_true rfl) (by omega) (by omega) (fun _ _ q => q.elim) ?_
    rintro _ h1 ⟨k5, z5, sv5, rfl, C1, f1, eo1, e5⟩
    have H1 : zMod G h1 ma S th := hM.mid n2 n3 f1
    refine z_istore dLaw_law_603 (Nat.le_of_ble_eq_true rfl) ?_
    refine z_aload_n dLaw_law_605 rfl ?_
    refine z_aload_n dLaw_law_606 rfl ?_
    refine z_iload dLaw_law_607 rfl ?_
    refine z_iconst dLaw_law_609 ?_
    refine z_iadd dLaw_law_610 ?_
    refine z_sld (by omega) dLaw_law_611 ?_
    refine z_aload_n dLaw_law_612 rfl ?_
    refine z_iload dLaw_law_613 rfl ?_
    refine z_iconst dLaw_law_615 ?_
    refine z_iadd dLaw_law_616 ?_
    refine z_sld (by omega) dLaw_law_617 ?_
    refine z_aload_n dLaw_law_618 rfl ?_
    refine z_iload dLaw_law_619 rfl ?_
    refine z_iconst dLaw_law_621 ?_
    refine z_iadd dLaw_law_622 ?_
    refine z_sld (by omega) dLaw_law_623 ?_
    refine z_if_eq (tgt := 631) dLaw_law_624 (by decide) (by omega) (fun c2a => ?_) (fun c2b => ?_)
    · refine z_iconst dLaw_law_631 ?_
      refine z_callV (bc' := bc - 6 - 1) (bs' := bs - 36 - 60) MV_Mod_drop lk_Law_201 dLaw_law_632 (k_Mod_drop H1 (zX9_r (xs := xs) (i + 1)) (zX9_r (xs := xs) (i + 2)) (by decide) h16 (Or.inl rfl)) rfl rfl (Nat.le_of_ble_eq_true rfl) rfl H1.2.1 (Nat.le_of_ble_eq_true rfl) (Nat.le_of_ble_eq_true rfl) (by omega) (by omega) (fun _ _ q => q.elim) ?_
      rintro _ h2 ⟨ma2, th2, z6, rfl, m0, H2, F2, A2, e6⟩
      refine z_istore dLaw_law_635 (Nat.le_of_ble_eq_true rfl) ?_
      refine z_goto (tgt := 2145) dLaw_law_637 (by decide) ?_
      exact K _ _ h2 ma2 _ _ _ (zLi.fin C1 eo1 n1 n2 n3 H2 F2 A2 (ok_drop hO) (oka_drop oka)) m0 (by omega) (by omega)
    · exact absurd c1a c2b
  · refine z_iconst dLaw_law_594 ?_
    refine z_goto (tgt := 599) dLaw_law_595 (by decide) ?_
    refine z_aload_n dLaw_law_599 rfl ?_
    refine z_callSX (bc' := bc - 6) (bs' := bs - 36) MW_Law_drop lk_Law_198 dLaw_law_600 (k_Law_drop (Or.inr rfl) hC (zX9_r (xs := xs) (i + 1)) (zX9_r (xs := xs) (i + 2)) (by decide) eo n1) rfl rfl (Nat.le_of_ble_eq_true rfl) (Nat.le_of_ble_eq_true rfl) (Nat.le_of_ble_eq_true rfl) (by omega) (by omega) (fun _ _ q => q.elim) ?_
    rintro _ h1 ⟨k5, z5, sv5, rfl, C1, f1, eo1, e5⟩
    have H1 : zMod G h1 ma S th := hM.mid n2 n3 f1
    refine z_istore dLaw_law_603 (Nat.le_of_ble_eq_true rfl) ?_
    refine z_aload_n dLaw_law_605 rfl ?_
    refine z_aload_n dLaw_law_606 rfl ?_
    refine z_iload dLaw_law_607 rfl ?_
    refine z_iconst dLaw_law_609 ?_
    refine z_iadd dLaw_law_610 ?_
    refine z_sld (by omega) dLaw_law_611 ?_
    refine z_aload_n dLaw_law_612 rfl ?_
    refine z_iload dLaw_law_613 rfl ?_
    refine z_iconst dLaw_law_615 ?_
    refine z_iadd dLaw_law_616 ?_
    refine z_sld (by omega) dLaw_law_617 ?_
    refine z_aload_n dLaw_law_618 rfl ?_
    refine z_iload dLaw_law_619 rfl ?_
    refine z_iconst dLaw_law_621 ?_
    refine z_iadd dLaw_law_622 ?_
    refine z_sld (by omega) dLaw_law_623 ?_
    refine z_if_eq (tgt := 631) dLaw_law_624 (by decide) (by omega) (fun c2a => ?_) (fun c2b => ?_)
    · exact absurd c2a c1b
    · refine z_iconst dLaw_law_627 ?_
      refine z_goto (tgt := 632) dLaw_law_628 (by decide) ?_
      refine z_callV (bc' := bc - 6 - 1) (bs' := bs - 36 - 60) MV_Mod_drop lk_Law_201 dLaw_law_632 (k_Mod_drop H1 (zX9_r (xs := xs) (i + 1)) (zX9_r (xs := xs) (i + 2)) (by decide) h16 (Or.inr rfl)) rfl rfl (Nat.le_of_ble_eq_true rfl) rfl H1.2.1 (Nat.le_of_ble_eq_true rfl) (Nat.le_of_ble_eq_true rfl) (by omega) (by omega) (fun _ _ q => q.elim) ?_
      rintro _ h2 ⟨ma2, th2, z6, rfl, m0, H2, F2, A2, e6⟩
      refine z_istore dLaw_law_635 (Nat.le_of_ble_eq_true rfl) ?_
      refine z_goto (tgt := 2145) dLaw_law_637 (by decide) ?_
      exact K _ _ h2 ma2 _ _ _ (zLi.fin C1 eo1 n1 n2 n3 H2 F2 A2 (ok_drop hO) (oka_drop oka)) m0 (by omega) (by omega)
theorem c_Law_8 {ou : Nat} {i : Int} {y5 y6 : Option Value} (I : zLi G h ad ma ou S) (hi : 0 ≤ i ∧ i + 4 ≤ L) (hb1 : 210 ≤ bc) (hb2 : 12100 ≤ bs) (K : zLK G l b L xs ad ma ou i bc bs) : zR G l (zLJ G b L xs) bc bs h 640 [some (.ref b), some (.ref (ad 0)), some (.ref (ma 0)), some (.ref ou), some (zi i), y5, y6] [] := by
  obtain ⟨th, n0, sv, hC, hM, hO, oka, eo, n1, n2, n3⟩ := I
  have h16 : ∀ k, k < 4 → (S.1 k).length ≤ 16 := fun k hk => (hC.ls hk).len
  have x1 := zX9_r (xs := xs) (i + 1)
  have x2 := zX9_r (xs := xs) (i + 2)
  have x3 := zX9_r (xs := xs) (i + 3)
  refine z_aload_n dLaw_law_640 rfl ?_
  refine z_aload_n dLaw_law_641 rfl ?_
  refine z_iload dLaw_law_642 rfl ?_
  refine z_iconst dLaw_law_644 ?_
  refine z_iadd dLaw_law_645 ?_
  refine z_sld (by omega) dLaw_law_646 ?_
  refine z_aload_n dLaw_law_647 rfl ?_
  refine z_iload dLaw_law_648 rfl ?_
  refine z_iconst dLaw_law_650 ?_
  refine z_iadd dLaw_law_651 ?_
  refine z_sld (by omega) dLaw_law_652 ?_
  refine z_aload_n dLaw_law_653 rfl ?_
  refine z_callSX (bc' := bc - 6) (bs' := bs - 36) MW_Law_thin lk_Law_202 dLaw_law_654 (k_Law_thin hC (zX9_r (xs := xs) (i + 1)) (zX9_r (xs := xs) (i + 2)) eo n1) rfl rfl (Nat.le_of_ble_eq_true rfl) (Nat.le_of_ble_eq_true rfl) (Nat.le_of_ble_eq_true rfl) (by omega) (by omega) (fun _ _ q => q.elim) ?_
  rintro _ h1 ⟨k5, z5, sv5, rfl, C1, f1, eo1, e5⟩
  have H1 : zMod G h1 ma S th := hM.mid n2 n3 f1
  refine z_istore dLaw_law_657 (Nat.le_of_ble_eq_true rfl) ?_
  refine z_aload_n dLaw_law_659 rfl ?_
  refine z_aload_n dLaw_law_660 rfl ?_
  refine z_iload dLaw_law_661 rfl ?_
  refine z_iconst dLaw_law_663 ?_
  refine z_iadd dLaw_law_664 ?_
  refine z_sld (by omega) dLaw_law_665 ?_
  refine z_aload_n dLaw_law_666 rfl ?_
  refine z_iload dLaw_law_667 rfl ?_
  refine z_iconst dLaw_law_669 ?_
  refine z_iadd dLaw_law_670 ?_
  refine z_sld (by omega) dLaw_law_671 ?_
  refine z_callV (bc' := bc - 6 - 16) (bs' := bs - 36 - 960) MV_Mod_thin lk_Law_204 dLaw_law_672 (k_Mod_thin H1 (zX9_r (xs := xs) (i + 1)) (zX9_r (xs := xs) (i + 2)) h16) rfl rfl (Nat.le_of_ble_eq_true rfl) rfl H1.2.1 (Nat.le_of_ble_eq_true rfl) (Nat.le_of_ble_eq_true rfl) (by omega) (by omega) (fun _ _ q => q.elim) ?_
  rintro _ h2 ⟨ma2, th2, z6, rfl, m0, H2, F2, A2, e6⟩
  refine z_istore dLaw_law_675 (Nat.le_of_ble_eq_true rfl) ?_
  refine z_goto (tgt := 2145) dLaw_law_677 (by decide) ?_
  exact K _ _ h2 ma2 _ _ _ (zLi.fin C1 eo1 n1 n2 n3 H2 F2 A2 (ok_thin hO) (oka_thin oka)) m0 (by omega) (by omega)
theorem c_Law_9 {ou : Nat} {i : Int} {y5 y6 : Option Value} (I : zLi G h ad ma ou S) (hi : 0 ≤ i ∧ i + 4 ≤ L) (hb1 : 210 ≤ bc) (hb2 : 12100 ≤ bs) (K : zLK G l b L xs ad ma ou i bc bs) : zR G l (zLJ G b L xs) bc bs h 680 [some (.ref b), some (.ref (ad 0)), some (.ref (ma 0)), some (.ref ou), some (zi i), y5, y6] [] := by
  obtain ⟨th, n0, sv, hC, hM, hO, oka, eo, n1, n2, n3⟩ := I
  have h16 : ∀ k, k < 4 → (S.1 k).length ≤ 16 := fun k hk => (hC.ls hk).len
  have x1 := zX9_r (xs := xs) (i + 1)
  have x2 := zX9_r (xs := xs) (i + 2)
  have x3 := zX9_r (xs := xs) (i + 3)
  refine z_aload_n dLaw_law_680 rfl ?_
  refine z_aload_n dLaw_law_681 rfl ?_
  refine z_iload dLaw_law_682 rfl ?_
  refine z_iconst dLaw_law_684 ?_
  refine z_iadd dLaw_law_685 ?_
  refine z_sld (by omega) dLaw_law_686 ?_
  refine z_aload_n dLaw_law_687 rfl ?_
  refine z_iload dLaw_law_688 rfl ?_
  refine z_iconst dLaw_law_690 ?_
  refine z_iadd dLaw_law_691 ?_
  refine z_sld (by omega) dLaw_law_692 ?_
  refine z_aload_n dLaw_law_693 rfl ?_
  refine z_iload dLaw_law_694 rfl ?_
  refine z_iconst dLaw_law_696 ?_
  refine z_iadd dLaw_law_697 ?_
  refine z_sld (by omega) dLaw_law_698 ?_
  refine z_if_eq (tgt := 706) dLaw_law_699 (by decide) (by omega) (fun c1a => ?_) (fun c1b => ?_)
  · refine z_iconst dLaw_law_706 ?_
    refine z_aload_n dLaw_law_707 rfl ?_
    refine z_callSX (bc' := bc - 6) (bs' := bs - 36) MW_Law_indexOf lk_Law_205 dLaw_law_708 (k_Law_indexOf (Or.inl rfl) hC (zX9_r (xs := xs) (i + 1)) (zX9_r (xs := xs) (i + 2)) (by decide) eo n1) rfl rfl (Nat.le_of_ble_eq_true rfl) (Nat.le_of_ble_eq_true rfl) (Nat.le_of_ble_eq_true rfl) (by omega) (by omega) (fun _ _ q => q.elim) ?_
    rintro _ h1 ⟨k5, z5, sv5, rfl, C1, f1, eo1, e5⟩
    have H1 : zMod G h1 ma S th := hM.mid n2 n3 f1
    refine z_istore dLaw_law_711 (Nat.le_of_ble_eq_true rfl) ?_
    refine z_aload_n dLaw_law_713 rfl ?_
    refine z_aload_n dLaw_law_714 rfl ?_
    refine z_iload dLaw_law_715 rfl ?_
    refine z_iconst dLaw_law_717 ?_
    refine z_iadd dLaw_law_718 ?_
    refine z_sld (by omega) dLaw_law_719 ?_
    refine z_aload_n dLaw_law_720 rfl ?_
    refine z_iload dLaw_law_721 rfl ?_
    refine z_iconst dLaw_law_723 ?_
    refine z_iadd dLaw_law_724 ?_
    refine z_sld (by omega) dLaw_law_725 ?_
    refine z_aload_n dLaw_law_726 rfl ?_
    refine z_iload dLaw_law_727 rfl ?_
    refine z_iconst dLaw_law_729 ?_
    refine z_iadd dLaw_law_730 ?_
    refine z_sld (by omega) dLaw_law_731 ?_
    refine z_if_eq (tgt := 739) dLaw_law_732 (by decide) (by omega) (fun c2a => ?_) (fun c2b => ?_)
    · refine z_iconst dLaw_law_739 ?_
      refine z_callV (bc' := bc - 6 - 0) (bs' := bs - 36 - 0) MV_Mod_indexOf lk_Law_207 dLaw_law_740 (k_Mod_indexOf H1 (zX9_r (xs := xs) (i + 1)) (zX9_r (xs := xs) (i + 2)) (by decide) (Or.inl rfl)) rfl rfl (Nat.le_of_ble_eq_true rfl) rfl H1.2.1 (Nat.le_of_ble_eq_true rfl) (Nat.le_of_ble_eq_true rfl) (by omega) (by omega) (fun _ _ q => q.elim) ?_
      rintro _ h2 ⟨ma2, th2, z6, rfl, m0, H2, F2, A2, e6⟩
      refine z_istore dLaw_law_743 (Nat.le_of_ble_eq_true rfl) ?_
      refine z_goto (tgt := 2145) dLaw_law_745 (by decide) ?_
      exact K _ _ h2 ma2 _ _ _ (zLi.fin C1 eo1 n1 n2 n3 H2 F2 A2 (ok_indexOf hO) (oka_indexOf oka)) m0 (by omega) (by omega)
    · exact absurd c1a c2b
  · refine z_iconst dLaw_law_702 ?_
    refine z_goto (tgt := 707) dLaw_law_703 (by decide) ?_
    refine z_aload_n dLaw_law_707 rfl ?_
    refine z_callSX (bc' := bc - 6) (bs' := bs - 36) MW_Law_indexOf lk_Law_205 dLaw_law_708 (k_Law_indexOf (Or.inr rfl) hC (zX9_r (xs := xs) (i + 1)) (zX9_r (xs := xs) (i + 2)) (by decide) eo n1) rfl rfl (Nat.le_of_ble_eq_true rfl) (Nat.le_of_ble_eq_true rfl) (Nat.le_of_ble_eq_true rfl) (by omega) (by omega) (fun _ _ q => q.elim) ?_
    rintro _ h1 ⟨k5, z5, sv5, rfl, C1, f1, eo1, e5⟩
    have H1 : zMod G h1 ma S th := hM.mid n2 n3 f1
    refine z_istore dLaw_law_711 (Nat.le_of_ble_eq_true rfl) ?_
    refine z_aload_n dLaw_law_713 rfl ?_
    refine z_aload_n dLaw_law_714 rfl ?_
    refine z_iload dLaw_law_715 rfl ?_
    refine z_iconst dLaw_law_717 ?_
    refine z_iadd dLaw_law_718 ?_
    refine z_sld (by omega) dLaw_law_719 ?_
    refine z_aload_n dLaw_law_720 rfl ?_
    refine z_iload dLaw_law_721 rfl ?_
    refine z_iconst dLaw_law_723 ?_
    refine z_iadd dLaw_law_724 ?_
    refine z_sld (by omega) dLaw_law_725 ?_
    refine z_aload_n dLaw_law_726 rfl ?_
    refine z_iload dLaw_law_727 rfl ?_
    refine z_iconst dLaw_law_729 ?_
    refine z_iadd dLaw_law_730 ?_
    refine z_sld (by omega) dLaw_law_731 ?_
    refine z_if_eq (tgt := 739) dLaw_law_732 (by decide) (by omega) (fun c2a => ?_) (fun c2b => ?_)
    · exact absurd c2a c1b
    · refine z_iconst dLaw_law_735 ?_
      refine z_goto (tgt := 740) dLaw_law_736 (by decide) ?_
      refine z_callV (bc' := bc - 6 - 0) (bs' := bs - 36 - 0) MV_Mod_indexOf lk_Law_207 dLaw_law_740 (k_Mod_indexOf H1 (zX9_r (xs := xs) (i + 1)) (zX9_r (xs := xs) (i + 2)) (by decide) (Or.inr rfl)) rfl rfl (Nat.le_of_ble_eq_true rfl) rfl H1.2.1 (Nat.le_of_ble_eq_true rfl) (Nat.le_of_ble_eq_true rfl) (by omega) (by omega) (fun _ _ q => q.elim) ?_
      rintro _ h2 ⟨ma2, th2, z6, rfl, m0, H2, F2, A2, e6⟩
      refine z_istore dLaw_law_743 (Nat.le_of_ble_eq_true rfl) ?_
      refine z_goto (tgt := 2145) dLaw_law_745 (by decide) ?_
      exact K _ _ h2 ma2 _ _ _ (zLi.fin C1 eo1 n1 n2 n3 H2 F2 A2 (ok_indexOf hO) (oka_indexOf oka)) m0 (by omega) (by omega)
theorem c_Law_10 {ou : Nat} {i : Int} {y5 y6 : Option Value} (I : zLi G h ad ma ou S) (hi : 0 ≤ i ∧ i + 4 ≤ L) (hb1 : 210 ≤ bc) (hb2 : 12100 ≤ bs) (K : zLK G l b L xs ad ma ou i bc bs) : zR G l (zLJ G b L xs) bc bs h 748 [some (.ref b), some (.ref (ad 0)), some (.ref (ma 0)), some (.ref ou), some (zi i), y5, y6] [] := by
  obtain ⟨th, n0, sv, hC, hM, hO, oka, eo, n1, n2, n3⟩ := I
  have h16 : ∀ k, k < 4 → (S.1 k).length ≤ 16 := fun k hk => (hC.ls hk).len
  have x1 := zX9_r (xs := xs) (i + 1)
  have x2 := zX9_r (xs := xs) (i + 2)
  have x3 := zX9_r (xs := xs) (i + 3)
  refine z_aload_n dLaw_law_748 rfl ?_
  refine z_aload_n dLaw_law_749 rfl ?_
  refine z_iload dLaw_law_750 rfl ?_
  refine z_iconst dLaw_law_752 ?_
  refine z_iadd dLaw_law_753 ?_
  refine z_sld (by omega) dLaw_law_754 ?_
  refine z_aload_n dLaw_law_755 rfl ?_
  refine z_iload dLaw_law_756 rfl ?_
  refine z_iconst dLaw_law_758 ?_
  refine z_iadd dLaw_law_759 ?_
  refine z_sld (by omega) dLaw_law_760 ?_
  refine z_aload_n dLaw_law_761 rfl ?_
  refine z_callSX (bc' := bc - 6) (bs' := bs - 36) MW_Law_has lk_Law_208 dLaw_law_762 (k_Law_has hC (zX9_r (xs := xs) (i + 1)) (zX9_r (xs := xs) (i + 2)) eo n1) rfl rfl (Nat.le_of_ble_eq_true rfl) (Nat.le_of_ble_eq_true rfl) (Nat.le_of_ble_eq_true rfl) (by omega) (by omega) (fun _ _ q => q.elim) ?_
  rintro _ h1 ⟨k5, z5, sv5, rfl, C1, f1, eo1, e5⟩
  have H1 : zMod G h1 ma S th := hM.mid n2 n3 f1
  refine z_istore dLaw_law_765 (Nat.le_of_ble_eq_true rfl) ?_
  refine z_aload_n dLaw_law_767 rfl ?_
  refine z_aload_n dLaw_law_768 rfl ?_
  refine z_iload dLaw_law_769 rfl ?_
  refine z_iconst dLaw_law_771 ?_
  refine z_iadd dLaw_law_772 ?_
  refine z_sld (by omega) dLaw_law_773 ?_
  refine z_aload_n dLaw_law_774 rfl ?_
  refine z_iload dLaw_law_775 rfl ?_
  refine z_iconst dLaw_law_777 ?_
  refine z_iadd dLaw_law_778 ?_
  refine z_sld (by omega) dLaw_law_779 ?_
  refine z_callV (bc' := bc - 6 - 0) (bs' := bs - 36 - 0) MV_Mod_has lk_Law_210 dLaw_law_780 (k_Mod_has H1 (zX9_r (xs := xs) (i + 1)) (zX9_r (xs := xs) (i + 2))) rfl rfl (Nat.le_of_ble_eq_true rfl) rfl H1.2.1 (Nat.le_of_ble_eq_true rfl) (Nat.le_of_ble_eq_true rfl) (by omega) (by omega) (fun _ _ q => q.elim) ?_
  rintro _ h2 ⟨ma2, th2, z6, rfl, m0, H2, F2, A2, e6⟩
  have hs : (k5 = th2 ∧ z5 = z6 ∧ k5 = 0 ∧ (z5 = 0 ∨ z5 = 1)) ∨ (k5 = th2 ∧ (k5 = 1 ∨ k5 = 2 ∨ k5 = 3)) := by
    rcases e5 with ⟨a5, b5⟩ | ⟨a5, b5⟩ | ⟨a5, b5⟩ | ⟨a5, b5⟩
    · rcases e6 with ⟨a6, b6⟩ | ⟨a6, b6⟩ | ⟨a6, b6⟩ | ⟨a6, b6⟩
      · exact Or.inl ⟨b5.trans b6.symm, Sum.inl.inj (a5.symm.trans a6), b5, xB_has (Prod.ext a5 rfl)⟩
      · exact absurd (a5.symm.trans a6) (by first | (simp; done) | decide)
      · exact absurd (a5.symm.trans a6) (by first | (simp; done) | decide)
      · exact absurd (a5.symm.trans a6) (by first | (simp; done) | decide)
    · rcases e6 with ⟨a6, b6⟩ | ⟨a6, b6⟩ | ⟨a6, b6⟩ | ⟨a6, b6⟩
      · exact absurd (a5.symm.trans a6) (by first | (simp; done) | decide)
      · exact Or.inr ⟨b5.trans b6.symm, by omega⟩
      · exact absurd (a5.symm.trans a6) (by first | (simp; done) | decide)
      · exact absurd (a5.symm.trans a6) (by first | (simp; done) | decide)
    · rcases e6 with ⟨a6, b6⟩ | ⟨a6, b6⟩ | ⟨a6, b6⟩ | ⟨a6, b6⟩
      · exact absurd (a5.symm.trans a6) (by first | (simp; done) | decide)
      · exact absurd (a5.symm.trans a6) (by first | (simp; done) | decide)
      · exact absurd (xE_has (Prod.ext a5 rfl)) (by decide)
      · exact absurd (a5.symm.trans a6) (by first | (simp; done) | decide)
    · rcases e6 with ⟨a6, b6⟩ | ⟨a6, b6⟩ | ⟨a6, b6⟩ | ⟨a6, b6⟩
      · exact absurd (a5.symm.trans a6) (by first | (simp; done) | decide)
      · exact absurd (a5.symm.trans a6) (by first | (simp; done) | decide)
      · exact absurd (a5.symm.trans a6) (by first | (simp; done) | decide)
      · exact absurd (xE_has (Prod.ext a5 rfl)) (by decide)
  refine z_istore dLaw_law_783 (Nat.le_of_ble_eq_true rfl) ?_
  refine z_aload_n dLaw_law_785 rfl ?_
  rw [show ma 0 = ma2 0 from m0.symm]
  refine z_callV (bc' := bc - 6 - 0) (bs' := bs - 36 - 0) MV_Mod_thrown lk_Law_211 dLaw_law_786 (k_Mod_thrown H2) rfl rfl (Nat.le_of_ble_eq_true rfl) rfl H2.2.1 (Nat.le_of_ble_eq_true rfl) (Nat.le_of_ble_eq_true rfl) (by omega) (by omega) (fun _ _ q => q.elim) ?_
  rintro _ _ ⟨rfl, rfl⟩
  refine z_iload dLaw_law_789 rfl ?_
  refine z_icmp_eq (tgt := 796) dLaw_law_791 (by decide) (by omega) (by omega) (fun c1 => ?_) (fun c1 => ?_)
  · refine z_iload dLaw_law_796 rfl ?_
    refine z_if_ne (tgt := 821) dLaw_law_798 (by decide) (by omega) (fun c2 => ?_) (fun c2 => ?_)
    · refine z_goto (tgt := 2145) dLaw_law_821 (by decide) ?_
      rw [show ma2 0 = ma 0 from m0]
      exact K _ _ h2 ma2 _ _ _ (zLi.fin C1 eo1 n1 n2 n3 H2 F2 A2 (ok_has hO) (oka_has oka)) m0 (by omega) (by omega)
    · refine z_aload_n dLaw_law_801 rfl ?_
      refine z_getN (k := 0) fd_Out (by decide) fl_Law_13 dLaw_law_802 (F2 ou _ eo1 n2) rfl ?_
      refine z_iload dLaw_law_805 rfl ?_
      have e56 : z5 = z6 := by omega
      refine z_if_eq (tgt := 814) dLaw_law_807 (by decide) (by omega) (fun c3 => ?_) (fun c3 => ?_)
      · refine z_lconst dLaw_law_814 0 rfl ?_
        have e0 : zwd z5 = 0 := by rw [show z5 = 0 by omega]; decide
        rw [e0]
        refine z_lcmpI (by decide) (by decide) dLaw_law_815 ?_
        rw [zSg_self]
        refine z_if_eq (tgt := 821) dLaw_law_816 (by decide) (by decide) (fun c4 => ?_) (fun c4 => ?_)
        · refine z_goto (tgt := 2145) dLaw_law_821 (by decide) ?_
          rw [show ma2 0 = ma 0 from m0]
          exact K _ _ h2 ma2 _ _ _ (zLi.fin C1 eo1 n1 n2 n3 H2 F2 A2 (ok_has hO) (oka_has oka)) m0 (by omega) (by omega)
        · exact absurd rfl c4
      · refine z_lconst dLaw_law_810 1 rfl ?_
        refine z_goto (tgt := 815) dLaw_law_811 (by decide) ?_
        have e0 : zwd z5 = 1 := by rw [show z5 = 1 by omega]; decide
        rw [e0]
        refine z_lcmpI (by decide) (by decide) dLaw_law_815 ?_
        rw [zSg_self]
        refine z_if_eq (tgt := 821) dLaw_law_816 (by decide) (by decide) (fun c4 => ?_) (fun c4 => ?_)
        · refine z_goto (tgt := 2145) dLaw_law_821 (by decide) ?_
          rw [show ma2 0 = ma 0 from m0]
          exact K _ _ h2 ma2 _ _ _ (zLi.fin C1 eo1 n1 n2 n3 H2 F2 A2 (ok_has hO) (oka_has oka)) m0 (by omega) (by omega)
        · exact absurd rfl c4
  · exfalso; omega
theorem c_Law_11 {ou : Nat} {i : Int} {y5 y6 : Option Value} (I : zLi G h ad ma ou S) (hi : 0 ≤ i ∧ i + 4 ≤ L) (hb1 : 210 ≤ bc) (hb2 : 12100 ≤ bs) (K : zLK G l b L xs ad ma ou i bc bs) : zR G l (zLJ G b L xs) bc bs h 824 [some (.ref b), some (.ref (ad 0)), some (.ref (ma 0)), some (.ref ou), some (zi i), y5, y6] [] := by
  obtain ⟨th, n0, sv, hC, hM, hO, oka, eo, n1, n2, n3⟩ := I
  have h16 : ∀ k, k < 4 → (S.1 k).length ≤ 16 := fun k hk => (hC.ls hk).len
  have x1 := zX9_r (xs := xs) (i + 1)
  have x2 := zX9_r (xs := xs) (i + 2)
  have x3 := zX9_r (xs := xs) (i + 3)
  refine z_aload_n dLaw_law_824 rfl ?_
  refine z_aload_n dLaw_law_825 rfl ?_
  refine z_iload dLaw_law_826 rfl ?_
  refine z_iconst dLaw_law_828 ?_
  refine z_iadd dLaw_law_829 ?_
  refine z_sld (by omega) dLaw_law_830 ?_
  refine z_aload_n dLaw_law_831 rfl ?_
  refine z_callSX (bc' := bc - 6) (bs' := bs - 36) MW_Law_size lk_Law_215 dLaw_law_832 (k_Law_size hC (zX9_r (xs := xs) (i + 1)) eo n1) rfl rfl (Nat.le_of_ble_eq_true rfl) (Nat.le_of_ble_eq_true rfl) (Nat.le_of_ble_eq_true rfl) (by omega) (by omega) (fun _ _ q => q.elim) ?_
  rintro _ h1 ⟨k5, z5, sv5, rfl, C1, f1, eo1, e5⟩
  have H1 : zMod G h1 ma S th := hM.mid n2 n3 f1
  refine z_istore dLaw_law_835 (Nat.le_of_ble_eq_true rfl) ?_
  refine z_aload_n dLaw_law_837 rfl ?_
  refine z_aload_n dLaw_law_838 rfl ?_
  refine z_iload dLaw_law_839 rfl ?_
  refine z_iconst dLaw_law_841 ?_
  refine z_iadd dLaw_law_842 ?_
  refine z_sld (by omega) dLaw_law_843 ?_
  refine z_callV (bc' := bc - 6 - 0) (bs' := bs - 36 - 0) MV_Mod_size lk_Law_218 dLaw_law_844 (k_Mod_size H1 (zX9_r (xs := xs) (i + 1))) rfl rfl (Nat.le_of_ble_eq_true rfl) rfl H1.2.1 (Nat.le_of_ble_eq_true rfl) (Nat.le_of_ble_eq_true rfl) (by omega) (by omega) (fun _ _ q => q.elim) ?_
  rintro _ h2 ⟨ma2, th2, z6, rfl, m0, H2, F2, A2, e6⟩
  refine z_istore dLaw_law_847 (Nat.le_of_ble_eq_true rfl) ?_
  refine z_goto (tgt := 2145) dLaw_law_849 (by decide) ?_
  exact K _ _ h2 ma2 _ _ _ (zLi.fin C1 eo1 n1 n2 n3 H2 F2 A2 (ok_size hO) (oka_size oka)) m0 (by omega) (by omega)
theorem c_Law_12 {ou : Nat} {i : Int} {y5 y6 : Option Value} (I : zLi G h ad ma ou S) (hi : 0 ≤ i ∧ i + 4 ≤ L) (hb1 : 210 ≤ bc) (hb2 : 12100 ≤ bs) (K : zLK G l b L xs ad ma ou i bc bs) : zR G l (zLJ G b L xs) bc bs h 852 [some (.ref b), some (.ref (ad 0)), some (.ref (ma 0)), some (.ref ou), some (zi i), y5, y6] [] := by
  obtain ⟨th, n0, sv, hC, hM, hO, oka, eo, n1, n2, n3⟩ := I
  have h16 : ∀ k, k < 4 → (S.1 k).length ≤ 16 := fun k hk => (hC.ls hk).len
  have x1 := zX9_r (xs := xs) (i + 1)
  have x2 := zX9_r (xs := xs) (i + 2)
  have x3 := zX9_r (xs := xs) (i + 3)
  refine z_aload_n dLaw_law_852 rfl ?_
  refine z_aload_n dLaw_law_853 rfl ?_
  refine z_iload dLaw_law_854 rfl ?_
  refine z_iconst dLaw_law_856 ?_
  refine z_iadd dLaw_law_857 ?_
  refine z_sld (by omega) dLaw_law_858 ?_
  refine z_aload_n dLaw_law_859 rfl ?_
  refine z_iload dLaw_law_860 rfl ?_
  refine z_iconst dLaw_law_862 ?_
  refine z_iadd dLaw_law_863 ?_
  refine z_sld (by omega) dLaw_law_864 ?_
  refine z_if_eq (tgt := 872) dLaw_law_865 (by decide) (by omega) (fun c1a => ?_) (fun c1b => ?_)
  · refine z_iconst dLaw_law_872 ?_
    refine z_aload_n dLaw_law_873 rfl ?_
    refine z_callSX (bc' := bc - 37) (bs' := bs - 606) MW_Law_text lk_Law_219 dLaw_law_874 (k_Law_text hC (zX9_r (xs := xs) (i + 1)) (Or.inl rfl) eo n1) rfl rfl (Nat.le_of_ble_eq_true rfl) (Nat.le_of_ble_eq_true rfl) (Nat.le_of_ble_eq_true rfl) (by omega) (by omega) (fun _ _ q => q.elim) ?_
    rintro _ h1 ⟨k5, z5, sv5, rfl, C1, f1, eo1, e5⟩
    have H1 : zMod G h1 ma S th := hM.mid n2 n3 f1
    rw [text_st] at C1
    refine z_istore dLaw_law_877 (Nat.le_of_ble_eq_true rfl) ?_
    refine z_aload_n dLaw_law_879 rfl ?_
    refine z_aload_n dLaw_law_880 rfl ?_
    refine z_iload dLaw_law_881 rfl ?_
    refine z_iconst dLaw_law_883 ?_
    refine z_iadd dLaw_law_884 ?_
    refine z_sld (by omega) dLaw_law_885 ?_
    refine z_aload_n dLaw_law_886 rfl ?_
    refine z_iload dLaw_law_887 rfl ?_
    refine z_iconst dLaw_law_889 ?_
    refine z_iadd dLaw_law_890 ?_
    refine z_sld (by omega) dLaw_law_891 ?_
    refine z_if_eq (tgt := 899) dLaw_law_892 (by decide) (by omega) (fun c2a => ?_) (fun c2b => ?_)
    · refine z_iconst dLaw_law_899 ?_
      refine z_callV (bc' := bc - 37 - 113) (bs' := bs - 606 - 9405) MV_Mod_text lk_Law_222 dLaw_law_900 (k_Mod_text H1 (zX9_r (xs := xs) (i + 1)) (Or.inl rfl) h16) rfl rfl (Nat.le_of_ble_eq_true rfl) rfl H1.2.1 (Nat.le_of_ble_eq_true rfl) (Nat.le_of_ble_eq_true rfl) (by omega) (by omega) (fun _ _ q => q.elim) ?_
      rintro _ h2 ⟨⟨s6, rfl⟩, th2, H2, F2, e6⟩
      refine z_astore dLaw_law_903 (Nat.le_of_ble_eq_true rfl) ?_
      refine z_goto (tgt := 2145) dLaw_law_905 (by decide) ?_
      exact K _ _ h2 ma _ _ _ (zLi.fin C1 eo1 n1 n2 n3 H2 F2 (fun _ _ => Or.inl rfl) hO oka) rfl (by omega) (by omega)
    · exact absurd c1a c2b
  · refine z_iconst dLaw_law_868 ?_
    refine z_goto (tgt := 873) dLaw_law_869 (by decide) ?_
    refine z_aload_n dLaw_law_873 rfl ?_
    refine z_callSX (bc' := bc - 37) (bs' := bs - 606) MW_Law_text lk_Law_219 dLaw_law_874 (k_Law_text hC (zX9_r (xs := xs) (i + 1)) (Or.inr rfl) eo n1) rfl rfl (Nat.le_of_ble_eq_true rfl) (Nat.le_of_ble_eq_true rfl) (Nat.le_of_ble_eq_true rfl) (by omega) (by omega) (fun _ _ q => q.elim) ?_
    rintro _ h1 ⟨k5, z5, sv5, rfl, C1, f1, eo1, e5⟩
    have H1 : zMod G h1 ma S th := hM.mid n2 n3 f1
    rw [text_st] at C1
    refine z_istore dLaw_law_877 (Nat.le_of_ble_eq_true rfl) ?_
    refine z_aload_n dLaw_law_879 rfl ?_
    refine z_aload_n dLaw_law_880 rfl ?_
    refine z_iload dLaw_law_881 rfl ?_
    refine z_iconst dLaw_law_883 ?_
    refine z_iadd dLaw_law_884 ?_
    refine z_sld (by omega) dLaw_law_885 ?_
    refine z_aload_n dLaw_law_886 rfl ?_
    refine z_iload dLaw_law_887 rfl ?_
    refine z_iconst dLaw_law_889 ?_
    refine z_iadd dLaw_law_890 ?_
    refine z_sld (by omega) dLaw_law_891 ?_
    refine z_if_eq (tgt := 899) dLaw_law_892 (by decide) (by omega) (fun c2a => ?_) (fun c2b => ?_)
    · exact absurd c2a c1b
    · refine z_iconst dLaw_law_895 ?_
      refine z_goto (tgt := 900) dLaw_law_896 (by decide) ?_
      refine z_callV (bc' := bc - 37 - 113) (bs' := bs - 606 - 9405) MV_Mod_text lk_Law_222 dLaw_law_900 (k_Mod_text H1 (zX9_r (xs := xs) (i + 1)) (Or.inr rfl) h16) rfl rfl (Nat.le_of_ble_eq_true rfl) rfl H1.2.1 (Nat.le_of_ble_eq_true rfl) (Nat.le_of_ble_eq_true rfl) (by omega) (by omega) (fun _ _ q => q.elim) ?_
      rintro _ h2 ⟨⟨s6, rfl⟩, th2, H2, F2, e6⟩
      refine z_astore dLaw_law_903 (Nat.le_of_ble_eq_true rfl) ?_
      refine z_goto (tgt := 2145) dLaw_law_905 (by decide) ?_
      exact K _ _ h2 ma _ _ _ (zLi.fin C1 eo1 n1 n2 n3 H2 F2 (fun _ _ => Or.inl rfl) hO oka) rfl (by omega) (by omega)
theorem c_Law_13 {ou : Nat} {i : Int} {y5 y6 : Option Value} (I : zLi G h ad ma ou S) (hi : 0 ≤ i ∧ i + 4 ≤ L) (hb1 : 210 ≤ bc) (hb2 : 12100 ≤ bs) (K : zLK G l b L xs ad ma ou i bc bs) : zR G l (zLJ G b L xs) bc bs h 908 [some (.ref b), some (.ref (ad 0)), some (.ref (ma 0)), some (.ref ou), some (zi i), y5, y6] [] := by
  obtain ⟨th, n0, sv, hC, hM, hO, oka, eo, n1, n2, n3⟩ := I
  have h16 : ∀ k, k < 4 → (S.1 k).length ≤ 16 := fun k hk => (hC.ls hk).len
  have x1 := zX9_r (xs := xs) (i + 1)
  have x2 := zX9_r (xs := xs) (i + 2)
  have x3 := zX9_r (xs := xs) (i + 3)
  refine z_aload_n dLaw_law_908 rfl ?_
  refine z_aload_n dLaw_law_909 rfl ?_
  refine z_iload dLaw_law_910 rfl ?_
  refine z_iconst dLaw_law_912 ?_
  refine z_iadd dLaw_law_913 ?_
  refine z_sld (by omega) dLaw_law_914 ?_
  refine z_aload_n dLaw_law_915 rfl ?_
  refine z_callSX (bc' := bc - 6) (bs' := bs - 36) MW_Law_clear lk_Law_223 dLaw_law_916 (k_Law_clear hC (zX9_r (xs := xs) (i + 1)) eo n1) rfl rfl (Nat.le_of_ble_eq_true rfl) (Nat.le_of_ble_eq_true rfl) (Nat.le_of_ble_eq_true rfl) (by omega) (by omega) (fun _ _ q => q.elim) ?_
  rintro _ h1 ⟨k5, z5, sv5, rfl, C1, f1, eo1, e5⟩
  have H1 : zMod G h1 ma S th := hM.mid n2 n3 f1
  refine z_istore dLaw_law_919 (Nat.le_of_ble_eq_true rfl) ?_
  refine z_aload_n dLaw_law_921 rfl ?_
  refine z_aload_n dLaw_law_922 rfl ?_
  refine z_iload dLaw_law_923 rfl ?_
  refine z_iconst dLaw_law_925 ?_
  refine z_iadd dLaw_law_926 ?_
  refine z_sld (by omega) dLaw_law_927 ?_
  refine z_callV (bc' := bc - 6 - 1) (bs' := bs - 36 - 0) MV_Mod_clear lk_Law_225 dLaw_law_928 (k_Mod_clear H1 (zX9_r (xs := xs) (i + 1)) h16) rfl rfl (Nat.le_of_ble_eq_true rfl) rfl H1.2.1 (Nat.le_of_ble_eq_true rfl) (Nat.le_of_ble_eq_true rfl) (by omega) (by omega) (fun _ _ q => q.elim) ?_
  rintro _ h2 ⟨ma2, th2, z6, rfl, m0, H2, F2, A2, e6⟩
  refine z_istore dLaw_law_931 (Nat.le_of_ble_eq_true rfl) ?_
  refine z_goto (tgt := 2145) dLaw_law_933 (by decide) ?_
  exact K _ _ h2 ma2 _ _ _ (zLi.fin C1 eo1 n1 n2 n3 H2 F2 A2 (ok_clear hO) (oka_clear oka)) m0 (by omega) (by omega)
theorem c_Law_14 {ou : Nat} {i : Int} {y5 y6 : Option Value} (I : zLi G h ad ma ou S) (hi : 0 ≤ i ∧ i + 4 ≤ L) (hb1 : 210 ≤ bc) (hb2 : 12100 ≤ bs) (K : zLK G l b L xs ad ma ou i bc bs) : zR G l (zLJ G b L xs) bc bs h 936 [some (.ref b), some (.ref (ad 0)), some (.ref (ma 0)), some (.ref ou), some (zi i), y5, y6] [] := by
  obtain ⟨th, n0, sv, hC, hM, hO, oka, eo, n1, n2, n3⟩ := I
  have h16 : ∀ k, k < 4 → (S.1 k).length ≤ 16 := fun k hk => (hC.ls hk).len
  have x1 := zX9_r (xs := xs) (i + 1)
  have x2 := zX9_r (xs := xs) (i + 2)
  have x3 := zX9_r (xs := xs) (i + 3)
  refine z_aload_n dLaw_law_936 rfl ?_
  refine z_aload_n dLaw_law_937 rfl ?_
  refine z_iload dLaw_law_938 rfl ?_
  refine z_iconst dLaw_law_940 ?_
  refine z_iadd dLaw_law_941 ?_
  refine z_sld (by omega) dLaw_law_942 ?_
  refine z_aload_n dLaw_law_943 rfl ?_
  refine z_iload dLaw_law_944 rfl ?_
  refine z_iconst dLaw_law_946 ?_
  refine z_iadd dLaw_law_947 ?_
  refine z_sld (by omega) dLaw_law_948 ?_
  refine z_aload_n dLaw_law_949 rfl ?_
  refine z_callSX (bc' := bc - 6) (bs' := bs - 36) MW_Law_append lk_Law_226 dLaw_law_950 (k_Law_append hC (zX9_r (xs := xs) (i + 1)) (zX9_r (xs := xs) (i + 2)) eo n1) rfl rfl (Nat.le_of_ble_eq_true rfl) (Nat.le_of_ble_eq_true rfl) (Nat.le_of_ble_eq_true rfl) (by omega) (by omega) (fun _ _ q => q.elim) ?_
  rintro _ h1 ⟨k5, z5, sv5, rfl, C1, f1, eo1, e5⟩
  have H1 : zMod G h1 ma S th := hM.mid n2 n3 f1
  refine z_istore dLaw_law_953 (Nat.le_of_ble_eq_true rfl) ?_
  refine z_aload_n dLaw_law_955 rfl ?_
  refine z_aload_n dLaw_law_956 rfl ?_
  refine z_iload dLaw_law_957 rfl ?_
  refine z_iconst dLaw_law_959 ?_
  refine z_iadd dLaw_law_960 ?_
  refine z_sld (by omega) dLaw_law_961 ?_
  refine z_aload_n dLaw_law_962 rfl ?_
  refine z_iload dLaw_law_963 rfl ?_
  refine z_iconst dLaw_law_965 ?_
  refine z_iadd dLaw_law_966 ?_
  refine z_sld (by omega) dLaw_law_967 ?_
  refine z_callV (bc' := bc - 6 - 16) (bs' := bs - 36 - 976) MV_Mod_append lk_Law_228 dLaw_law_968 (k_Mod_append H1 (zX9_r (xs := xs) (i + 1)) (zX9_r (xs := xs) (i + 2)) h16) rfl rfl (Nat.le_of_ble_eq_true rfl) rfl H1.2.1 (Nat.le_of_ble_eq_true rfl) (Nat.le_of_ble_eq_true rfl) (by omega) (by omega) (fun _ _ q => q.elim) ?_
  rintro _ h2 ⟨ma2, th2, z6, rfl, m0, H2, F2, A2, e6⟩
  refine z_istore dLaw_law_971 (Nat.le_of_ble_eq_true rfl) ?_
  refine z_goto (tgt := 2145) dLaw_law_973 (by decide) ?_
  exact K _ _ h2 ma2 _ _ _ (zLi.fin C1 eo1 n1 n2 n3 H2 F2 A2 (ok_append hO) (oka_append oka)) m0 (by omega) (by omega)
theorem c_Law_15 {ou : Nat} {i : Int} {y5 y6 : Option Value} (I : zLi G h ad ma ou S) (hi : 0 ≤ i ∧ i + 4 ≤ L) (hb1 : 210 ≤ bc) (hb2 : 12100 ≤ bs) (K : zLK G l b L xs ad ma ou i bc bs) : zR G l (zLJ G b L xs) bc bs h 976 [some (.ref b), some (.ref (ad 0)), some (.ref (ma 0)), some (.ref ou), some (zi i), y5, y6] [] := by
  obtain ⟨th, n0, sv, hC, hM, hO, oka, eo, n1, n2, n3⟩ := I
  have h16 : ∀ k, k < 4 → (S.1 k).length ≤ 16 := fun k hk => (hC.ls hk).len
  have x1 := zX9_r (xs := xs) (i + 1)
  have x2 := zX9_r (xs := xs) (i + 2)
  have x3 := zX9_r (xs := xs) (i + 3)
  refine z_aload_n dLaw_law_976 rfl ?_
  refine z_aload_n dLaw_law_977 rfl ?_
  refine z_iload dLaw_law_978 rfl ?_
  refine z_iconst dLaw_law_980 ?_
  refine z_iadd dLaw_law_981 ?_
  refine z_sld (by omega) dLaw_law_982 ?_
  refine z_aload_n dLaw_law_983 rfl ?_
  refine z_iload dLaw_law_984 rfl ?_
  refine z_iconst dLaw_law_986 ?_
  refine z_iadd dLaw_law_987 ?_
  refine z_sld (by omega) dLaw_law_988 ?_
  refine z_aload_n dLaw_law_989 rfl ?_
  refine z_iload dLaw_law_990 rfl ?_
  refine z_iconst dLaw_law_992 ?_
  refine z_iadd dLaw_law_993 ?_
  refine z_sld (by omega) dLaw_law_994 ?_
  refine z_aload_n dLaw_law_995 rfl ?_
  refine z_callSX (bc' := bc - 6) (bs' := bs - 36) MW_Law_appendAt lk_Law_229 dLaw_law_996 (k_Law_appendAt hC (zX9_r (xs := xs) (i + 1)) (zX9_r (xs := xs) (i + 2)) (zX9_r (xs := xs) (i + 3)) eo n1) rfl rfl (Nat.le_of_ble_eq_true rfl) (Nat.le_of_ble_eq_true rfl) (Nat.le_of_ble_eq_true rfl) (by omega) (by omega) (fun _ _ q => q.elim) ?_
  rintro _ h1 ⟨k5, z5, sv5, rfl, C1, f1, eo1, e5⟩
  have H1 : zMod G h1 ma S th := hM.mid n2 n3 f1
  refine z_istore dLaw_law_999 (Nat.le_of_ble_eq_true rfl) ?_
  refine z_aload_n dLaw_law_1001 rfl ?_
  refine z_aload_n dLaw_law_1002 rfl ?_
  refine z_iload dLaw_law_1003 rfl ?_
  refine z_iconst dLaw_law_1005 ?_
  refine z_iadd dLaw_law_1006 ?_
  refine z_sld (by omega) dLaw_law_1007 ?_
  refine z_aload_n dLaw_law_1008 rfl ?_
  refine z_iload dLaw_law_1009 rfl ?_
  refine z_iconst dLaw_law_1011 ?_
  refine z_iadd dLaw_law_1012 ?_
  refine z_sld (by omega) dLaw_law_1013 ?_
  refine z_aload_n dLaw_law_1014 rfl ?_
  refine z_iload dLaw_law_1015 rfl ?_
  refine z_iconst dLaw_law_1017 ?_
  refine z_iadd dLaw_law_1018 ?_
  refine z_sld (by omega) dLaw_law_1019 ?_
  refine z_callV (bc' := bc - 6 - 16) (bs' := bs - 36 - 976) MV_Mod_appendAt lk_Law_231 dLaw_law_1020 (k_Mod_appendAt H1 (zX9_r (xs := xs) (i + 1)) (zX9_r (xs := xs) (i + 2)) (zX9_r (xs := xs) (i + 3)) h16) rfl rfl (Nat.le_of_ble_eq_true rfl) rfl H1.2.1 (Nat.le_of_ble_eq_true rfl) (Nat.le_of_ble_eq_true rfl) (by omega) (by omega) (fun _ _ q => q.elim) ?_
  rintro _ h2 ⟨ma2, th2, z6, rfl, m0, H2, F2, A2, e6⟩
  refine z_istore dLaw_law_1023 (Nat.le_of_ble_eq_true rfl) ?_
  refine z_goto (tgt := 2145) dLaw_law_1025 (by decide) ?_
  exact K _ _ h2 ma2 _ _ _ (zLi.fin C1 eo1 n1 n2 n3 H2 F2 A2 (ok_appendAt hO) (oka_appendAt oka)) m0 (by omega) (by omega)
theorem c_Law_16 {ou : Nat} {i : Int} {y5 y6 : Option Value} (I : zLi G h ad ma ou S) (hi : 0 ≤ i ∧ i + 4 ≤ L) (hb1 : 210 ≤ bc) (hb2 : 12100 ≤ bs) (K : zLK G l b L xs ad ma ou i bc bs) : zR G l (zLJ G b L xs) bc bs h 1028 [some (.ref b), some (.ref (ad 0)), some (.ref (ma 0)), some (.ref ou), some (zi i), y5, y6] [] := by
  obtain ⟨th, n0, sv, hC, hM, hO, oka, eo, n1, n2, n3⟩ := I
  have h16 : ∀ k, k < 4 → (S.1 k).length ≤ 16 := fun k hk => (hC.ls hk).len
  have x1 := zX9_r (xs := xs) (i + 1)
  have x2 := zX9_r (xs := xs) (i + 2)
  have x3 := zX9_r (xs := xs) (i + 3)
  refine z_aload_n dLaw_law_1028 rfl ?_
  refine z_aload_n dLaw_law_1029 rfl ?_
  refine z_iload dLaw_law_1030 rfl ?_
  refine z_iconst dLaw_law_1032 ?_
  refine z_iadd dLaw_law_1033 ?_
  refine z_sld (by omega) dLaw_law_1034 ?_
  refine z_aload_n dLaw_law_1035 rfl ?_
  refine z_iload dLaw_law_1036 rfl ?_
  refine z_iconst dLaw_law_1038 ?_
  refine z_iadd dLaw_law_1039 ?_
  refine z_sld (by omega) dLaw_law_1040 ?_
  refine z_aload_n dLaw_law_1041 rfl ?_
  refine z_callSX (bc' := bc - 6) (bs' := bs - 36) MW_Law_copy lk_Law_232 dLaw_law_1042 (k_Law_copy hC (zX9_r (xs := xs) (i + 1)) (zX9_r (xs := xs) (i + 2)) eo n1) rfl rfl (Nat.le_of_ble_eq_true rfl) (Nat.le_of_ble_eq_true rfl) (Nat.le_of_ble_eq_true rfl) (by omega) (by omega) (fun _ _ q => q.elim) ?_
  rintro _ h1 ⟨k5, z5, sv5, rfl, C1, f1, eo1, e5⟩
  have H1 : zMod G h1 ma S th := hM.mid n2 n3 f1
  refine z_istore dLaw_law_1045 (Nat.le_of_ble_eq_true rfl) ?_
  refine z_aload_n dLaw_law_1047 rfl ?_
  refine z_aload_n dLaw_law_1048 rfl ?_
  refine z_iload dLaw_law_1049 rfl ?_
  refine z_iconst dLaw_law_1051 ?_
  refine z_iadd dLaw_law_1052 ?_
  refine z_sld (by omega) dLaw_law_1053 ?_
  refine z_aload_n dLaw_law_1054 rfl ?_
  refine z_iload dLaw_law_1055 rfl ?_
  refine z_iconst dLaw_law_1057 ?_
  refine z_iadd dLaw_law_1058 ?_
  refine z_sld (by omega) dLaw_law_1059 ?_
  refine z_callV (bc' := bc - 6 - 17) (bs' := bs - 36 - 976) MV_Mod_copy lk_Law_234 dLaw_law_1060 (k_Mod_copy H1 (zX9_r (xs := xs) (i + 1)) (zX9_r (xs := xs) (i + 2)) h16) rfl rfl (Nat.le_of_ble_eq_true rfl) rfl H1.2.1 (Nat.le_of_ble_eq_true rfl) (Nat.le_of_ble_eq_true rfl) (by omega) (by omega) (fun _ _ q => q.elim) ?_
  rintro _ h2 ⟨ma2, th2, z6, rfl, m0, H2, F2, A2, e6⟩
  refine z_istore dLaw_law_1063 (Nat.le_of_ble_eq_true rfl) ?_
  refine z_goto (tgt := 2145) dLaw_law_1065 (by decide) ?_
  exact K _ _ h2 ma2 _ _ _ (zLi.fin C1 eo1 n1 n2 n3 H2 F2 A2 (ok_copy hO) (oka_copy oka)) m0 (by omega) (by omega)
theorem c_Law_17 {ou : Nat} {i : Int} {y5 y6 : Option Value} (I : zLi G h ad ma ou S) (hi : 0 ≤ i ∧ i + 4 ≤ L) (hb1 : 210 ≤ bc) (hb2 : 12100 ≤ bs) (K : zLK G l b L xs ad ma ou i bc bs) : zR G l (zLJ G b L xs) bc bs h 1068 [some (.ref b), some (.ref (ad 0)), some (.ref (ma 0)), some (.ref ou), some (zi i), y5, y6] [] := by
  obtain ⟨th, n0, sv, hC, hM, hO, oka, eo, n1, n2, n3⟩ := I
  have h16 : ∀ k, k < 4 → (S.1 k).length ≤ 16 := fun k hk => (hC.ls hk).len
  have x1 := zX9_r (xs := xs) (i + 1)
  have x2 := zX9_r (xs := xs) (i + 2)
  have x3 := zX9_r (xs := xs) (i + 3)
  refine z_aload_n dLaw_law_1068 rfl ?_
  refine z_aload_n dLaw_law_1069 rfl ?_
  refine z_iload dLaw_law_1070 rfl ?_
  refine z_iconst dLaw_law_1072 ?_
  refine z_iadd dLaw_law_1073 ?_
  refine z_sld (by omega) dLaw_law_1074 ?_
  refine z_aload_n dLaw_law_1075 rfl ?_
  refine z_iload dLaw_law_1076 rfl ?_
  refine z_iconst dLaw_law_1078 ?_
  refine z_iadd dLaw_law_1079 ?_
  refine z_sld (by omega) dLaw_law_1080 ?_
  refine z_aload_n dLaw_law_1081 rfl ?_
  refine z_callSX (bc' := bc - 6) (bs' := bs - 36) MW_Law_places lk_Law_235 dLaw_law_1082 (k_Law_places hC (zX9_r (xs := xs) (i + 1)) (zX9_r (xs := xs) (i + 2)) eo n1) rfl rfl (Nat.le_of_ble_eq_true rfl) (Nat.le_of_ble_eq_true rfl) (Nat.le_of_ble_eq_true rfl) (by omega) (by omega) (fun _ _ q => q.elim) ?_
  rintro _ h1 ⟨k5, z5, sv5, rfl, C1, f1, eo1, e5⟩
  have H1 : zMod G h1 ma S th := hM.mid n2 n3 f1
  refine z_istore dLaw_law_1085 (Nat.le_of_ble_eq_true rfl) ?_
  refine z_aload_n dLaw_law_1087 rfl ?_
  refine z_aload_n dLaw_law_1088 rfl ?_
  refine z_iload dLaw_law_1089 rfl ?_
  refine z_iconst dLaw_law_1091 ?_
  refine z_iadd dLaw_law_1092 ?_
  refine z_sld (by omega) dLaw_law_1093 ?_
  refine z_aload_n dLaw_law_1094 rfl ?_
  refine z_iload dLaw_law_1095 rfl ?_
  refine z_iconst dLaw_law_1097 ?_
  refine z_iadd dLaw_law_1098 ?_
  refine z_sld (by omega) dLaw_law_1099 ?_
  refine z_callV (bc' := bc - 6 - 1) (bs' := bs - 36 - 16) MV_Mod_places lk_Law_237 dLaw_law_1100 (k_Mod_places H1 (zX9_r (xs := xs) (i + 1)) (zX9_r (xs := xs) (i + 2)) h16) rfl rfl (Nat.le_of_ble_eq_true rfl) rfl H1.2.1 (Nat.le_of_ble_eq_true rfl) (Nat.le_of_ble_eq_true rfl) (by omega) (by omega) (fun _ _ q => q.elim) ?_
  rintro _ h2 ⟨ma2, th2, z6, rfl, m0, H2, F2, A2, e6⟩
  refine z_istore dLaw_law_1103 (Nat.le_of_ble_eq_true rfl) ?_
  refine z_goto (tgt := 2145) dLaw_law_1105 (by decide) ?_
  exact K _ _ h2 ma2 _ _ _ (zLi.fin C1 eo1 n1 n2 n3 H2 F2 A2 (ok_places hO) (oka_places oka)) m0 (by omega) (by omega)
theorem c_Law_18 {ou : Nat} {i : Int} {y5 y6 : Option Value} (I : zLi G h ad ma ou S) (hi : 0 ≤ i ∧ i + 4 ≤ L) (hb1 : 210 ≤ bc) (hb2 : 12100 ≤ bs) (K : zLK G l b L xs ad ma ou i bc bs) : zR G l (zLJ G b L xs) bc bs h 1108 [some (.ref b), some (.ref (ad 0)), some (.ref (ma 0)), some (.ref ou), some (zi i), y5, y6] [] := by
  obtain ⟨th, n0, sv, hC, hM, hO, oka, eo, n1, n2, n3⟩ := I
  have h16 : ∀ k, k < 4 → (S.1 k).length ≤ 16 := fun k hk => (hC.ls hk).len
  have x1 := zX9_r (xs := xs) (i + 1)
  have x2 := zX9_r (xs := xs) (i + 2)
  have x3 := zX9_r (xs := xs) (i + 3)
  refine z_aload_n dLaw_law_1108 rfl ?_
  refine z_aload_n dLaw_law_1109 rfl ?_
  refine z_iload dLaw_law_1110 rfl ?_
  refine z_iconst dLaw_law_1112 ?_
  refine z_iadd dLaw_law_1113 ?_
  refine z_sld (by omega) dLaw_law_1114 ?_
  refine z_aload_n dLaw_law_1115 rfl ?_
  refine z_iload dLaw_law_1116 rfl ?_
  refine z_iconst dLaw_law_1118 ?_
  refine z_iadd dLaw_law_1119 ?_
  refine z_sld (by omega) dLaw_law_1120 ?_
  refine z_aload_n dLaw_law_1121 rfl ?_
  refine z_callSX (bc' := bc - 6) (bs' := bs - 36) MW_Law_rotate lk_Law_238 dLaw_law_1122 (k_Law_rotate hC (zX9_r (xs := xs) (i + 1)) (zX9_r (xs := xs) (i + 2)) eo n1) rfl rfl (Nat.le_of_ble_eq_true rfl) (Nat.le_of_ble_eq_true rfl) (Nat.le_of_ble_eq_true rfl) (by omega) (by omega) (fun _ _ q => q.elim) ?_
  rintro _ h1 ⟨k5, z5, sv5, rfl, C1, f1, eo1, e5⟩
  have H1 : zMod G h1 ma S th := hM.mid n2 n3 f1
  refine z_istore dLaw_law_1125 (Nat.le_of_ble_eq_true rfl) ?_
  refine z_aload_n dLaw_law_1127 rfl ?_
  refine z_aload_n dLaw_law_1128 rfl ?_
  refine z_iload dLaw_law_1129 rfl ?_
  refine z_iconst dLaw_law_1131 ?_
  refine z_iadd dLaw_law_1132 ?_
  refine z_sld (by omega) dLaw_law_1133 ?_
  refine z_aload_n dLaw_law_1134 rfl ?_
  refine z_iload dLaw_law_1135 rfl ?_
  refine z_iconst dLaw_law_1137 ?_
  refine z_iadd dLaw_law_1138 ?_
  refine z_sld (by omega) dLaw_law_1139 ?_
  refine z_callV (bc' := bc - 6 - 198) (bs' := bs - 36 - 11979) MV_Mod_rotate lk_Law_240 dLaw_law_1140 (k_Mod_rotate H1 (zX9_r (xs := xs) (i + 1)) (zX9_r (xs := xs) (i + 2)) h16) rfl rfl (Nat.le_of_ble_eq_true rfl) rfl H1.2.1 (Nat.le_of_ble_eq_true rfl) (Nat.le_of_ble_eq_true rfl) (by omega) (by omega) (fun _ _ q => q.elim) ?_
  rintro _ h2 ⟨ma2, th2, z6, rfl, m0, H2, F2, A2, e6⟩
  refine z_istore dLaw_law_1143 (Nat.le_of_ble_eq_true rfl) ?_
  refine z_goto (tgt := 2145) dLaw_law_1145 (by decide) ?_
  exact K _ _ h2 ma2 _ _ _ (zLi.fin C1 eo1 n1 n2 n3 H2 F2 A2 (ok_rotate hO) (oka_rotate oka)) m0 (by omega) (by omega)
theorem c_Law_19 {ou : Nat} {i : Int} {y5 y6 : Option Value} (I : zLi G h ad ma ou S) (hi : 0 ≤ i ∧ i + 4 ≤ L) (hb1 : 210 ≤ bc) (hb2 : 12100 ≤ bs) (K : zLK G l b L xs ad ma ou i bc bs) : zR G l (zLJ G b L xs) bc bs h 1148 [some (.ref b), some (.ref (ad 0)), some (.ref (ma 0)), some (.ref ou), some (zi i), y5, y6] [] := by
  obtain ⟨th, n0, sv, hC, hM, hO, oka, eo, n1, n2, n3⟩ := I
  have h16 : ∀ k, k < 4 → (S.1 k).length ≤ 16 := fun k hk => (hC.ls hk).len
  have x1 := zX9_r (xs := xs) (i + 1)
  have x2 := zX9_r (xs := xs) (i + 2)
  have x3 := zX9_r (xs := xs) (i + 3)
  refine z_aload_n dLaw_law_1148 rfl ?_
  refine z_aload_n dLaw_law_1149 rfl ?_
  refine z_iload dLaw_law_1150 rfl ?_
  refine z_iconst dLaw_law_1152 ?_
  refine z_iadd dLaw_law_1153 ?_
  refine z_sld (by omega) dLaw_law_1154 ?_
  refine z_aload_n dLaw_law_1155 rfl ?_
  refine z_iload dLaw_law_1156 rfl ?_
  refine z_iconst dLaw_law_1158 ?_
  refine z_iadd dLaw_law_1159 ?_
  refine z_sld (by omega) dLaw_law_1160 ?_
  refine z_aload_n dLaw_law_1161 rfl ?_
  refine z_iload dLaw_law_1162 rfl ?_
  refine z_iconst dLaw_law_1164 ?_
  refine z_iadd dLaw_law_1165 ?_
  refine z_sld (by omega) dLaw_law_1166 ?_
  refine z_aload_n dLaw_law_1167 rfl ?_
  refine z_callSX (bc' := bc - 6) (bs' := bs - 36) MW_Law_move lk_Law_241 dLaw_law_1168 (k_Law_move hC (zX9_r (xs := xs) (i + 1)) (zX9_r (xs := xs) (i + 2)) (zX9_r (xs := xs) (i + 3)) eo n1) rfl rfl (Nat.le_of_ble_eq_true rfl) (Nat.le_of_ble_eq_true rfl) (Nat.le_of_ble_eq_true rfl) (by omega) (by omega) (fun _ _ q => q.elim) ?_
  rintro _ h1 ⟨k5, z5, sv5, rfl, C1, f1, eo1, e5⟩
  have H1 : zMod G h1 ma S th := hM.mid n2 n3 f1
  refine z_istore dLaw_law_1171 (Nat.le_of_ble_eq_true rfl) ?_
  refine z_aload_n dLaw_law_1173 rfl ?_
  refine z_aload_n dLaw_law_1174 rfl ?_
  refine z_iload dLaw_law_1175 rfl ?_
  refine z_iconst dLaw_law_1177 ?_
  refine z_iadd dLaw_law_1178 ?_
  refine z_sld (by omega) dLaw_law_1179 ?_
  refine z_aload_n dLaw_law_1180 rfl ?_
  refine z_iload dLaw_law_1181 rfl ?_
  refine z_iconst dLaw_law_1183 ?_
  refine z_iadd dLaw_law_1184 ?_
  refine z_sld (by omega) dLaw_law_1185 ?_
  refine z_aload_n dLaw_law_1186 rfl ?_
  refine z_iload dLaw_law_1187 rfl ?_
  refine z_iconst dLaw_law_1189 ?_
  refine z_iadd dLaw_law_1190 ?_
  refine z_sld (by omega) dLaw_law_1191 ?_
  refine z_callV (bc' := bc - 6 - 2) (bs' := bs - 36 - 121) MV_Mod_move lk_Law_243 dLaw_law_1192 (k_Mod_move H1 (zX9_r (xs := xs) (i + 1)) (zX9_r (xs := xs) (i + 2)) (zX9_r (xs := xs) (i + 3)) h16) rfl rfl (Nat.le_of_ble_eq_true rfl) rfl H1.2.1 (Nat.le_of_ble_eq_true rfl) (Nat.le_of_ble_eq_true rfl) (by omega) (by omega) (fun _ _ q => q.elim) ?_
  rintro _ h2 ⟨ma2, th2, z6, rfl, m0, H2, F2, A2, e6⟩
  refine z_istore dLaw_law_1195 (Nat.le_of_ble_eq_true rfl) ?_
  refine z_goto (tgt := 2145) dLaw_law_1197 (by decide) ?_
  exact K _ _ h2 ma2 _ _ _ (zLi.fin C1 eo1 n1 n2 n3 H2 F2 A2 (ok_move hO) (oka_move oka)) m0 (by omega) (by omega)
theorem c_Law_20 {ou : Nat} {i : Int} {y5 y6 : Option Value} (I : zLi G h ad ma ou S) (hi : 0 ≤ i ∧ i + 4 ≤ L) (hb1 : 210 ≤ bc) (hb2 : 12100 ≤ bs) (K : zLK G l b L xs ad ma ou i bc bs) : zR G l (zLJ G b L xs) bc bs h 1200 [some (.ref b), some (.ref (ad 0)), some (.ref (ma 0)), some (.ref ou), some (zi i), y5, y6] [] := by
  obtain ⟨th, n0, sv, hC, hM, hO, oka, eo, n1, n2, n3⟩ := I
  have h16 : ∀ k, k < 4 → (S.1 k).length ≤ 16 := fun k hk => (hC.ls hk).len
  have x1 := zX9_r (xs := xs) (i + 1)
  have x2 := zX9_r (xs := xs) (i + 2)
  have x3 := zX9_r (xs := xs) (i + 3)
  refine z_aload_n dLaw_law_1200 rfl ?_
  refine z_aload_n dLaw_law_1201 rfl ?_
  refine z_iload dLaw_law_1202 rfl ?_
  refine z_iconst dLaw_law_1204 ?_
  refine z_iadd dLaw_law_1205 ?_
  refine z_sld (by omega) dLaw_law_1206 ?_
  refine z_aload_n dLaw_law_1207 rfl ?_
  refine z_iload dLaw_law_1208 rfl ?_
  refine z_iconst dLaw_law_1210 ?_
  refine z_iadd dLaw_law_1211 ?_
  refine z_sld (by omega) dLaw_law_1212 ?_
  refine z_aload_n dLaw_law_1213 rfl ?_
  refine z_iload dLaw_law_1214 rfl ?_
  refine z_iconst dLaw_law_1216 ?_
  refine z_iadd dLaw_law_1217 ?_
  refine z_sld (by omega) dLaw_law_1218 ?_
  refine z_aload_n dLaw_law_1219 rfl ?_
  refine z_callSX (bc' := bc - 6) (bs' := bs - 36) MW_Law_swap lk_Law_244 dLaw_law_1220 (k_Law_swap hC (zX9_r (xs := xs) (i + 1)) (zX9_r (xs := xs) (i + 2)) (zX9_r (xs := xs) (i + 3)) eo n1) rfl rfl (Nat.le_of_ble_eq_true rfl) (Nat.le_of_ble_eq_true rfl) (Nat.le_of_ble_eq_true rfl) (by omega) (by omega) (fun _ _ q => q.elim) ?_
  rintro _ h1 ⟨k5, z5, sv5, rfl, C1, f1, eo1, e5⟩
  have H1 : zMod G h1 ma S th := hM.mid n2 n3 f1
  refine z_istore dLaw_law_1223 (Nat.le_of_ble_eq_true rfl) ?_
  refine z_aload_n dLaw_law_1225 rfl ?_
  refine z_aload_n dLaw_law_1226 rfl ?_
  refine z_iload dLaw_law_1227 rfl ?_
  refine z_iconst dLaw_law_1229 ?_
  refine z_iadd dLaw_law_1230 ?_
  refine z_sld (by omega) dLaw_law_1231 ?_
  refine z_aload_n dLaw_law_1232 rfl ?_
  refine z_iload dLaw_law_1233 rfl ?_
  refine z_iconst dLaw_law_1235 ?_
  refine z_iadd dLaw_law_1236 ?_
  refine z_sld (by omega) dLaw_law_1237 ?_
  refine z_aload_n dLaw_law_1238 rfl ?_
  refine z_iload dLaw_law_1239 rfl ?_
  refine z_iconst dLaw_law_1241 ?_
  refine z_iadd dLaw_law_1242 ?_
  refine z_sld (by omega) dLaw_law_1243 ?_
  refine z_callV (bc' := bc - 6 - 0) (bs' := bs - 36 - 0) MV_Mod_swap lk_Law_246 dLaw_law_1244 (k_Mod_swap H1 (zX9_r (xs := xs) (i + 1)) (zX9_r (xs := xs) (i + 2)) (zX9_r (xs := xs) (i + 3)) h16) rfl rfl (Nat.le_of_ble_eq_true rfl) rfl H1.2.1 (Nat.le_of_ble_eq_true rfl) (Nat.le_of_ble_eq_true rfl) (by omega) (by omega) (fun _ _ q => q.elim) ?_
  rintro _ h2 ⟨ma2, th2, z6, rfl, m0, H2, F2, A2, e6⟩
  refine z_istore dLaw_law_1247 (Nat.le_of_ble_eq_true rfl) ?_
  refine z_goto (tgt := 2145) dLaw_law_1249 (by decide) ?_
  exact K _ _ h2 ma2 _ _ _ (zLi.fin C1 eo1 n1 n2 n3 H2 F2 A2 (ok_swap hO) (oka_swap oka)) m0 (by omega) (by omega)
theorem c_Law_21 {ou : Nat} {i : Int} {y5 y6 : Option Value} (I : zLi G h ad ma ou S) (hi : 0 ≤ i ∧ i + 4 ≤ L) (hb1 : 210 ≤ bc) (hb2 : 12100 ≤ bs) (K : zLK G l b L xs ad ma ou i bc bs) : zR G l (zLJ G b L xs) bc bs h 1252 [some (.ref b), some (.ref (ad 0)), some (.ref (ma 0)), some (.ref ou), some (zi i), y5, y6] [] := by
  obtain ⟨th, n0, sv, hC, hM, hO, oka, eo, n1, n2, n3⟩ := I
  have h16 : ∀ k, k < 4 → (S.1 k).length ≤ 16 := fun k hk => (hC.ls hk).len
  have x1 := zX9_r (xs := xs) (i + 1)
  have x2 := zX9_r (xs := xs) (i + 2)
  have x3 := zX9_r (xs := xs) (i + 3)
  refine z_aload_n dLaw_law_1252 rfl ?_
  refine z_aload_n dLaw_law_1253 rfl ?_
  refine z_iload dLaw_law_1254 rfl ?_
  refine z_iconst dLaw_law_1256 ?_
  refine z_iadd dLaw_law_1257 ?_
  refine z_sld (by omega) dLaw_law_1258 ?_
  refine z_aload_n dLaw_law_1259 rfl ?_
  refine z_callSX (bc' := bc - 6) (bs' := bs - 36) MW_Law_reverse lk_Law_247 dLaw_law_1260 (k_Law_reverse hC (zX9_r (xs := xs) (i + 1)) eo n1) rfl rfl (Nat.le_of_ble_eq_true rfl) (Nat.le_of_ble_eq_true rfl) (Nat.le_of_ble_eq_true rfl) (by omega) (by omega) (fun _ _ q => q.elim) ?_
  rintro _ h1 ⟨k5, z5, sv5, rfl, C1, f1, eo1, e5⟩
  have H1 : zMod G h1 ma S th := hM.mid n2 n3 f1
  refine z_istore dLaw_law_1263 (Nat.le_of_ble_eq_true rfl) ?_
  refine z_aload_n dLaw_law_1265 rfl ?_
  refine z_aload_n dLaw_law_1266 rfl ?_
  refine z_iload dLaw_law_1267 rfl ?_
  refine z_iconst dLaw_law_1269 ?_
  refine z_iadd dLaw_law_1270 ?_
  refine z_sld (by omega) dLaw_law_1271 ?_
  refine z_callV (bc' := bc - 6 - 1) (bs' := bs - 36 - 61) MV_Mod_reverse lk_Law_249 dLaw_law_1272 (k_Mod_reverse H1 (zX9_r (xs := xs) (i + 1)) h16) rfl rfl (Nat.le_of_ble_eq_true rfl) rfl H1.2.1 (Nat.le_of_ble_eq_true rfl) (Nat.le_of_ble_eq_true rfl) (by omega) (by omega) (fun _ _ q => q.elim) ?_
  rintro _ h2 ⟨ma2, th2, z6, rfl, m0, H2, F2, A2, e6⟩
  refine z_istore dLaw_law_1275 (Nat.le_of_ble_eq_true rfl) ?_
  refine z_goto (tgt := 2145) dLaw_law_1277 (by decide) ?_
  exact K _ _ h2 ma2 _ _ _ (zLi.fin C1 eo1 n1 n2 n3 H2 F2 A2 (ok_reverse hO) (oka_reverse oka)) m0 (by omega) (by omega)
theorem c_Law_22 {ou : Nat} {i : Int} {y5 y6 : Option Value} (I : zLi G h ad ma ou S) (hi : 0 ≤ i ∧ i + 4 ≤ L) (hb1 : 210 ≤ bc) (hb2 : 12100 ≤ bs) (K : zLK G l b L xs ad ma ou i bc bs) : zR G l (zLJ G b L xs) bc bs h 1280 [some (.ref b), some (.ref (ad 0)), some (.ref (ma 0)), some (.ref ou), some (zi i), y5, y6] [] := by
  obtain ⟨th, n0, sv, hC, hM, hO, oka, eo, n1, n2, n3⟩ := I
  have h16 : ∀ k, k < 4 → (S.1 k).length ≤ 16 := fun k hk => (hC.ls hk).len
  have x1 := zX9_r (xs := xs) (i + 1)
  have x2 := zX9_r (xs := xs) (i + 2)
  have x3 := zX9_r (xs := xs) (i + 3)
  refine z_aload_n dLaw_law_1280 rfl ?_
  refine z_aload_n dLaw_law_1281 rfl ?_
  refine z_iload dLaw_law_1282 rfl ?_
  refine z_iconst dLaw_law_1284 ?_
  refine z_iadd dLaw_law_1285 ?_
  refine z_sld (by omega) dLaw_law_1286 ?_
  refine z_aload_n dLaw_law_1287 rfl ?_
  refine z_iload dLaw_law_1288 rfl ?_
  refine z_iconst dLaw_law_1290 ?_
  refine z_iadd dLaw_law_1291 ?_
  refine z_sld (by omega) dLaw_law_1292 ?_
  refine z_aload_n dLaw_law_1293 rfl ?_
  refine z_iload dLaw_law_1294 rfl ?_
  refine z_iconst dLaw_law_1296 ?_
  refine z_iadd dLaw_law_1297 ?_
  refine z_sld (by omega) dLaw_law_1298 ?_
  refine z_aload_n dLaw_law_1299 rfl ?_
  refine z_callSX (bc' := bc - 6) (bs' := bs - 36) MW_Law_through lk_Law_250 dLaw_law_1300 (k_Law_through hC (zX9_r (xs := xs) (i + 1)) (zX9_r (xs := xs) (i + 2)) (zX9_r (xs := xs) (i + 3)) eo n1) rfl rfl (Nat.le_of_ble_eq_true rfl) (Nat.le_of_ble_eq_true rfl) (Nat.le_of_ble_eq_true rfl) (by omega) (by omega) (fun _ _ q => q.elim) ?_
  rintro _ h1 ⟨k5, z5, sv5, rfl, C1, f1, eo1, e5⟩
  have H1 : zMod G h1 ma S th := hM.mid n2 n3 f1
  refine z_istore dLaw_law_1303 (Nat.le_of_ble_eq_true rfl) ?_
  refine z_aload_n dLaw_law_1305 rfl ?_
  refine z_aload_n dLaw_law_1306 rfl ?_
  refine z_iload dLaw_law_1307 rfl ?_
  refine z_iconst dLaw_law_1309 ?_
  refine z_iadd dLaw_law_1310 ?_
  refine z_sld (by omega) dLaw_law_1311 ?_
  refine z_aload_n dLaw_law_1312 rfl ?_
  refine z_iload dLaw_law_1313 rfl ?_
  refine z_iconst dLaw_law_1315 ?_
  refine z_iadd dLaw_law_1316 ?_
  refine z_sld (by omega) dLaw_law_1317 ?_
  refine z_aload_n dLaw_law_1318 rfl ?_
  refine z_iload dLaw_law_1319 rfl ?_
  refine z_iconst dLaw_law_1321 ?_
  refine z_iadd dLaw_law_1322 ?_
  refine z_sld (by omega) dLaw_law_1323 ?_
  refine z_callV (bc' := bc - 6 - 1) (bs' := bs - 36 - 16) MV_Mod_through lk_Law_252 dLaw_law_1324 (k_Mod_through H1 (zX9_r (xs := xs) (i + 1)) (zX9_r (xs := xs) (i + 2)) (zX9_r (xs := xs) (i + 3)) h16) rfl rfl (Nat.le_of_ble_eq_true rfl) rfl H1.2.1 (Nat.le_of_ble_eq_true rfl) (Nat.le_of_ble_eq_true rfl) (by omega) (by omega) (fun _ _ q => q.elim) ?_
  rintro _ h2 ⟨ma2, th2, z6, rfl, m0, H2, F2, A2, e6⟩
  refine z_istore dLaw_law_1327 (Nat.le_of_ble_eq_true rfl) ?_
  refine z_goto (tgt := 2145) dLaw_law_1329 (by decide) ?_
  exact K _ _ h2 ma2 _ _ _ (zLi.fin C1 eo1 n1 n2 n3 H2 F2 A2 (ok_through hO) (oka_through oka)) m0 (by omega) (by omega)
theorem c_Law_23 {ou : Nat} {i : Int} {y5 y6 : Option Value} (I : zLi G h ad ma ou S) (hi : 0 ≤ i ∧ i + 4 ≤ L) (hb1 : 210 ≤ bc) (hb2 : 12100 ≤ bs) (K : zLK G l b L xs ad ma ou i bc bs) : zR G l (zLJ G b L xs) bc bs h 1332 [some (.ref b), some (.ref (ad 0)), some (.ref (ma 0)), some (.ref ou), some (zi i), y5, y6] [] := by
  obtain ⟨th, n0, sv, hC, hM, hO, oka, eo, n1, n2, n3⟩ := I
  have h16 : ∀ k, k < 4 → (S.1 k).length ≤ 16 := fun k hk => (hC.ls hk).len
  have x1 := zX9_r (xs := xs) (i + 1)
  have x2 := zX9_r (xs := xs) (i + 2)
  have x3 := zX9_r (xs := xs) (i + 3)
  refine z_aload_n dLaw_law_1332 rfl ?_
  refine z_aload_n dLaw_law_1333 rfl ?_
  refine z_iload dLaw_law_1334 rfl ?_
  refine z_iconst dLaw_law_1336 ?_
  refine z_iadd dLaw_law_1337 ?_
  refine z_sld (by omega) dLaw_law_1338 ?_
  refine z_aload_n dLaw_law_1339 rfl ?_
  refine z_iload dLaw_law_1340 rfl ?_
  refine z_iconst dLaw_law_1342 ?_
  refine z_iadd dLaw_law_1343 ?_
  refine z_sld (by omega) dLaw_law_1344 ?_
  refine z_aload_n dLaw_law_1345 rfl ?_
  refine z_callSX (bc' := bc - 6) (bs' := bs - 36) MW_Law_areSame lk_Law_253 dLaw_law_1346 (k_Law_areSame hC (zX9_r (xs := xs) (i + 1)) (zX9_r (xs := xs) (i + 2)) eo n1) rfl rfl (Nat.le_of_ble_eq_true rfl) (Nat.le_of_ble_eq_true rfl) (Nat.le_of_ble_eq_true rfl) (by omega) (by omega) (fun _ _ q => q.elim) ?_
  rintro _ h1 ⟨k5, z5, sv5, rfl, C1, f1, eo1, e5⟩
  have H1 : zMod G h1 ma S th := hM.mid n2 n3 f1
  refine z_istore dLaw_law_1349 (Nat.le_of_ble_eq_true rfl) ?_
  refine z_aload_n dLaw_law_1351 rfl ?_
  refine z_aload_n dLaw_law_1352 rfl ?_
  refine z_iload dLaw_law_1353 rfl ?_
  refine z_iconst dLaw_law_1355 ?_
  refine z_iadd dLaw_law_1356 ?_
  refine z_sld (by omega) dLaw_law_1357 ?_
  refine z_aload_n dLaw_law_1358 rfl ?_
  refine z_iload dLaw_law_1359 rfl ?_
  refine z_iconst dLaw_law_1361 ?_
  refine z_iadd dLaw_law_1362 ?_
  refine z_sld (by omega) dLaw_law_1363 ?_
  refine z_callV (bc' := bc - 6 - 0) (bs' := bs - 36 - 0) MV_Mod_areSame lk_Law_255 dLaw_law_1364 (k_Mod_areSame H1 (zX9_r (xs := xs) (i + 1)) (zX9_r (xs := xs) (i + 2))) rfl rfl (Nat.le_of_ble_eq_true rfl) rfl H1.2.1 (Nat.le_of_ble_eq_true rfl) (Nat.le_of_ble_eq_true rfl) (by omega) (by omega) (fun _ _ q => q.elim) ?_
  rintro _ h2 ⟨ma2, th2, z6, rfl, m0, H2, F2, A2, e6⟩
  refine z_istore dLaw_law_1367 (Nat.le_of_ble_eq_true rfl) ?_
  refine z_goto (tgt := 2145) dLaw_law_1369 (by decide) ?_
  exact K _ _ h2 ma2 _ _ _ (zLi.fin C1 eo1 n1 n2 n3 H2 F2 A2 (ok_areSame hO) (oka_areSame oka)) m0 (by omega) (by omega)
theorem c_Law_24 {ou : Nat} {i : Int} {y5 y6 : Option Value} (I : zLi G h ad ma ou S) (hi : 0 ≤ i ∧ i + 4 ≤ L) (hb1 : 210 ≤ bc) (hb2 : 12100 ≤ bs) (K : zLK G l b L xs ad ma ou i bc bs) : zR G l (zLJ G b L xs) bc bs h 1372 [some (.ref b), some (.ref (ad 0)), some (.ref (ma 0)), some (.ref ou), some (zi i), y5, y6] [] := by
  obtain ⟨th, n0, sv, hC, hM, hO, oka, eo, n1, n2, n3⟩ := I
  have h16 : ∀ k, k < 4 → (S.1 k).length ≤ 16 := fun k hk => (hC.ls hk).len
  have x1 := zX9_r (xs := xs) (i + 1)
  have x2 := zX9_r (xs := xs) (i + 2)
  have x3 := zX9_r (xs := xs) (i + 3)
  refine z_aload_n dLaw_law_1372 rfl ?_
  refine z_aload_n dLaw_law_1373 rfl ?_
  refine z_iload dLaw_law_1374 rfl ?_
  refine z_iconst dLaw_law_1376 ?_
  refine z_iadd dLaw_law_1377 ?_
  refine z_sld (by omega) dLaw_law_1378 ?_
  refine z_aload_n dLaw_law_1379 rfl ?_
  refine z_callSX (bc' := bc - 6) (bs' := bs - 36) MW_Law_isMirror lk_Law_256 dLaw_law_1380 (k_Law_isMirror hC (zX9_r (xs := xs) (i + 1)) eo n1) rfl rfl (Nat.le_of_ble_eq_true rfl) (Nat.le_of_ble_eq_true rfl) (Nat.le_of_ble_eq_true rfl) (by omega) (by omega) (fun _ _ q => q.elim) ?_
  rintro _ h1 ⟨k5, z5, sv5, rfl, C1, f1, eo1, e5⟩
  have H1 : zMod G h1 ma S th := hM.mid n2 n3 f1
  refine z_istore dLaw_law_1383 (Nat.le_of_ble_eq_true rfl) ?_
  refine z_aload_n dLaw_law_1385 rfl ?_
  refine z_aload_n dLaw_law_1386 rfl ?_
  refine z_iload dLaw_law_1387 rfl ?_
  refine z_iconst dLaw_law_1389 ?_
  refine z_iadd dLaw_law_1390 ?_
  refine z_sld (by omega) dLaw_law_1391 ?_
  refine z_callV (bc' := bc - 6 - 1) (bs' := bs - 36 - 61) MV_Mod_isMirror lk_Law_258 dLaw_law_1392 (k_Mod_isMirror H1 (zX9_r (xs := xs) (i + 1)) h16) rfl rfl (Nat.le_of_ble_eq_true rfl) rfl H1.2.1 (Nat.le_of_ble_eq_true rfl) (Nat.le_of_ble_eq_true rfl) (by omega) (by omega) (fun _ _ q => q.elim) ?_
  rintro _ h2 ⟨ma2, th2, z6, rfl, m0, H2, F2, A2, e6⟩
  refine z_istore dLaw_law_1395 (Nat.le_of_ble_eq_true rfl) ?_
  refine z_goto (tgt := 2145) dLaw_law_1397 (by decide) ?_
  exact K _ _ h2 ma2 _ _ _ (zLi.fin C1 eo1 n1 n2 n3 H2 F2 A2 (ok_isMirror hO) (oka_isMirror oka)) m0 (by omega) (by omega)
theorem c_Law_25 {ou : Nat} {i : Int} {y5 y6 : Option Value} (I : zLi G h ad ma ou S) (hi : 0 ≤ i ∧ i + 4 ≤ L) (hb1 : 210 ≤ bc) (hb2 : 12100 ≤ bs) (K : zLK G l b L xs ad ma ou i bc bs) : zR G l (zLJ G b L xs) bc bs h 1400 [some (.ref b), some (.ref (ad 0)), some (.ref (ma 0)), some (.ref ou), some (zi i), y5, y6] [] := by
  obtain ⟨th, n0, sv, hC, hM, hO, oka, eo, n1, n2, n3⟩ := I
  have h16 : ∀ k, k < 4 → (S.1 k).length ≤ 16 := fun k hk => (hC.ls hk).len
  have x1 := zX9_r (xs := xs) (i + 1)
  have x2 := zX9_r (xs := xs) (i + 2)
  have x3 := zX9_r (xs := xs) (i + 3)
  refine z_aload_n dLaw_law_1400 rfl ?_
  refine z_aload_n dLaw_law_1401 rfl ?_
  refine z_iload dLaw_law_1402 rfl ?_
  refine z_iconst dLaw_law_1404 ?_
  refine z_iadd dLaw_law_1405 ?_
  refine z_sld (by omega) dLaw_law_1406 ?_
  refine z_aload_n dLaw_law_1407 rfl ?_
  refine z_iload dLaw_law_1408 rfl ?_
  refine z_iconst dLaw_law_1410 ?_
  refine z_iadd dLaw_law_1411 ?_
  refine z_sld (by omega) dLaw_law_1412 ?_
  refine z_aload_n dLaw_law_1413 rfl ?_
  refine z_iload dLaw_law_1414 rfl ?_
  refine z_iconst dLaw_law_1416 ?_
  refine z_iadd dLaw_law_1417 ?_
  refine z_sld (by omega) dLaw_law_1418 ?_
  refine z_aload_n dLaw_law_1419 rfl ?_
  refine z_callSX (bc' := bc - 6) (bs' := bs - 36) MW_Law_open lk_Law_259 dLaw_law_1420 (k_Law_open hC (zX9_r (xs := xs) (i + 1)) (zX9_r (xs := xs) (i + 2)) (zX9_r (xs := xs) (i + 3)) eo n1) rfl rfl (Nat.le_of_ble_eq_true rfl) (Nat.le_of_ble_eq_true rfl) (Nat.le_of_ble_eq_true rfl) (by omega) (by omega) (fun _ _ q => q.elim) ?_
  rintro _ h1 ⟨k5, z5, sv5, rfl, C1, f1, eo1, e5⟩
  have H1 : zMod G h1 ma S th := hM.mid n2 n3 f1
  refine z_istore dLaw_law_1423 (Nat.le_of_ble_eq_true rfl) ?_
  refine z_aload_n dLaw_law_1425 rfl ?_
  refine z_aload_n dLaw_law_1426 rfl ?_
  refine z_iload dLaw_law_1427 rfl ?_
  refine z_iconst dLaw_law_1429 ?_
  refine z_iadd dLaw_law_1430 ?_
  refine z_sld (by omega) dLaw_law_1431 ?_
  refine z_aload_n dLaw_law_1432 rfl ?_
  refine z_iload dLaw_law_1433 rfl ?_
  refine z_iconst dLaw_law_1435 ?_
  refine z_iadd dLaw_law_1436 ?_
  refine z_sld (by omega) dLaw_law_1437 ?_
  refine z_aload_n dLaw_law_1438 rfl ?_
  refine z_iload dLaw_law_1439 rfl ?_
  refine z_iconst dLaw_law_1441 ?_
  refine z_iadd dLaw_law_1442 ?_
  refine z_sld (by omega) dLaw_law_1443 ?_
  refine z_callV (bc' := bc - 6 - 0) (bs' := bs - 36 - 0) MV_Mod_open lk_Law_261 dLaw_law_1444 (k_Mod_open H1 (zX9_r (xs := xs) (i + 1)) (zX9_r (xs := xs) (i + 2)) (zX9_r (xs := xs) (i + 3)) h16) rfl rfl (Nat.le_of_ble_eq_true rfl) rfl H1.2.1 (Nat.le_of_ble_eq_true rfl) (Nat.le_of_ble_eq_true rfl) (by omega) (by omega) (fun _ _ q => q.elim) ?_
  rintro _ h2 ⟨ma2, th2, z6, rfl, m0, H2, F2, A2, e6⟩
  refine z_istore dLaw_law_1447 (Nat.le_of_ble_eq_true rfl) ?_
  refine z_goto (tgt := 2145) dLaw_law_1449 (by decide) ?_
  exact K _ _ h2 ma2 _ _ _ (zLi.fin C1 eo1 n1 n2 n3 H2 F2 A2 (ok_open hO h16) (oka_open oka)) m0 (by omega) (by omega)
theorem c_Law_26 {ou : Nat} {i : Int} {y5 y6 : Option Value} (I : zLi G h ad ma ou S) (hi : 0 ≤ i ∧ i + 4 ≤ L) (hb1 : 210 ≤ bc) (hb2 : 12100 ≤ bs) (K : zLK G l b L xs ad ma ou i bc bs) : zR G l (zLJ G b L xs) bc bs h 1452 [some (.ref b), some (.ref (ad 0)), some (.ref (ma 0)), some (.ref ou), some (zi i), y5, y6] [] := by
  obtain ⟨th, n0, sv, hC, hM, hO, oka, eo, n1, n2, n3⟩ := I
  have h16 : ∀ k, k < 4 → (S.1 k).length ≤ 16 := fun k hk => (hC.ls hk).len
  have x1 := zX9_r (xs := xs) (i + 1)
  have x2 := zX9_r (xs := xs) (i + 2)
  have x3 := zX9_r (xs := xs) (i + 3)
  refine z_aload_n dLaw_law_1452 rfl ?_
  refine z_aload_n dLaw_law_1453 rfl ?_
  refine z_iload dLaw_law_1454 rfl ?_
  refine z_iconst dLaw_law_1456 ?_
  refine z_iadd dLaw_law_1457 ?_
  refine z_sld (by omega) dLaw_law_1458 ?_
  refine z_aload_n dLaw_law_1459 rfl ?_
  refine z_callSX (bc' := bc - 6) (bs' := bs - 36) MW_Law_shut lk_Law_262 dLaw_law_1460 (k_Law_shut hC (zX9_r (xs := xs) (i + 1)) eo n1) rfl rfl (Nat.le_of_ble_eq_true rfl) (Nat.le_of_ble_eq_true rfl) (Nat.le_of_ble_eq_true rfl) (by omega) (by omega) (fun _ _ q => q.elim) ?_
  rintro _ h1 ⟨k5, z5, sv5, rfl, C1, f1, eo1, e5⟩
  have H1 : zMod G h1 ma S th := hM.mid n2 n3 f1
  refine z_istore dLaw_law_1463 (Nat.le_of_ble_eq_true rfl) ?_
  refine z_aload_n dLaw_law_1465 rfl ?_
  refine z_aload_n dLaw_law_1466 rfl ?_
  refine z_iload dLaw_law_1467 rfl ?_
  refine z_iconst dLaw_law_1469 ?_
  refine z_iadd dLaw_law_1470 ?_
  refine z_sld (by omega) dLaw_law_1471 ?_
  refine z_callV (bc' := bc - 6 - 0) (bs' := bs - 36 - 0) MV_Mod_shut lk_Law_264 dLaw_law_1472 (k_Mod_shut H1 (zX9_r (xs := xs) (i + 1)) h16) rfl rfl (Nat.le_of_ble_eq_true rfl) rfl H1.2.1 (Nat.le_of_ble_eq_true rfl) (Nat.le_of_ble_eq_true rfl) (by omega) (by omega) (fun _ _ q => q.elim) ?_
  rintro _ h2 ⟨ma2, th2, z6, rfl, m0, H2, F2, A2, e6⟩
  refine z_istore dLaw_law_1475 (Nat.le_of_ble_eq_true rfl) ?_
  refine z_goto (tgt := 2145) dLaw_law_1477 (by decide) ?_
  exact K _ _ h2 ma2 _ _ _ (zLi.fin C1 eo1 n1 n2 n3 H2 F2 A2 (ok_shut hO) (oka_shut oka)) m0 (by omega) (by omega)
theorem c_Law_27 {ou : Nat} {i : Int} {y5 y6 : Option Value} (I : zLi G h ad ma ou S) (hi : 0 ≤ i ∧ i + 4 ≤ L) (hb1 : 210 ≤ bc) (hb2 : 12100 ≤ bs) (K : zLK G l b L xs ad ma ou i bc bs) : zR G l (zLJ G b L xs) bc bs h 1480 [some (.ref b), some (.ref (ad 0)), some (.ref (ma 0)), some (.ref ou), some (zi i), y5, y6] [] := by
  obtain ⟨th, n0, sv, hC, hM, hO, oka, eo, n1, n2, n3⟩ := I
  have h16 : ∀ k, k < 4 → (S.1 k).length ≤ 16 := fun k hk => (hC.ls hk).len
  have x1 := zX9_r (xs := xs) (i + 1)
  have x2 := zX9_r (xs := xs) (i + 2)
  have x3 := zX9_r (xs := xs) (i + 3)
  refine z_aload_n dLaw_law_1480 rfl ?_
  refine z_aload_n dLaw_law_1481 rfl ?_
  refine z_iload dLaw_law_1482 rfl ?_
  refine z_iconst dLaw_law_1484 ?_
  refine z_iadd dLaw_law_1485 ?_
  refine z_sld (by omega) dLaw_law_1486 ?_
  refine z_aload_n dLaw_law_1487 rfl ?_
  refine z_callSX (bc' := bc - 6) (bs' := bs - 36) MW_Law_forth lk_Law_265 dLaw_law_1488 (k_Law_forth hO hC (zX9_r (xs := xs) (i + 1)) eo n1) rfl rfl (Nat.le_of_ble_eq_true rfl) (Nat.le_of_ble_eq_true rfl) (Nat.le_of_ble_eq_true rfl) (by omega) (by omega) (fun _ _ q => q.elim) ?_
  rintro _ h1 ⟨k5, z5, sv5, rfl, C1, f1, eo1, e5⟩
  have H1 : zMod G h1 ma S th := hM.mid n2 n3 f1
  refine z_istore dLaw_law_1491 (Nat.le_of_ble_eq_true rfl) ?_
  refine z_aload_n dLaw_law_1493 rfl ?_
  refine z_aload_n dLaw_law_1494 rfl ?_
  refine z_iload dLaw_law_1495 rfl ?_
  refine z_iconst dLaw_law_1497 ?_
  refine z_iadd dLaw_law_1498 ?_
  refine z_sld (by omega) dLaw_law_1499 ?_
  refine z_callV (bc' := bc - 6 - 0) (bs' := bs - 36 - 0) MV_Mod_forth lk_Law_267 dLaw_law_1500 (k_Mod_forth H1 (zX9_r (xs := xs) (i + 1)) hO h16) rfl rfl (Nat.le_of_ble_eq_true rfl) rfl H1.2.1 (Nat.le_of_ble_eq_true rfl) (Nat.le_of_ble_eq_true rfl) (by omega) (by omega) (fun _ _ q => q.elim) ?_
  rintro _ h2 ⟨ma2, th2, z6, rfl, m0, H2, F2, A2, e6⟩
  refine z_istore dLaw_law_1503 (Nat.le_of_ble_eq_true rfl) ?_
  refine z_goto (tgt := 2145) dLaw_law_1505 (by decide) ?_
  exact K _ _ h2 ma2 _ _ _ (zLi.fin C1 eo1 n1 n2 n3 H2 F2 A2 (ok_forth hO h16) (oka_forth oka)) m0 (by omega) (by omega)
theorem c_Law_28 {ou : Nat} {i : Int} {y5 y6 : Option Value} (I : zLi G h ad ma ou S) (hi : 0 ≤ i ∧ i + 4 ≤ L) (hb1 : 210 ≤ bc) (hb2 : 12100 ≤ bs) (K : zLK G l b L xs ad ma ou i bc bs) : zR G l (zLJ G b L xs) bc bs h 1508 [some (.ref b), some (.ref (ad 0)), some (.ref (ma 0)), some (.ref ou), some (zi i), y5, y6] [] := by
  obtain ⟨th, n0, sv, hC, hM, hO, oka, eo, n1, n2, n3⟩ := I
  have h16 : ∀ k, k < 4 → (S.1 k).length ≤ 16 := fun k hk => (hC.ls hk).len
  have x1 := zX9_r (xs := xs) (i + 1)
  have x2 := zX9_r (xs := xs) (i + 2)
  have x3 := zX9_r (xs := xs) (i + 3)
  refine z_aload_n dLaw_law_1508 rfl ?_
  refine z_aload_n dLaw_law_1509 rfl ?_
  refine z_iload dLaw_law_1510 rfl ?_
  refine z_iconst dLaw_law_1512 ?_
  refine z_iadd dLaw_law_1513 ?_
  refine z_sld (by omega) dLaw_law_1514 ?_
  refine z_aload_n dLaw_law_1515 rfl ?_
  refine z_callSX (bc' := bc - 6) (bs' := bs - 36) MW_Law_back lk_Law_268 dLaw_law_1516 (k_Law_back hO hC (zX9_r (xs := xs) (i + 1)) eo n1) rfl rfl (Nat.le_of_ble_eq_true rfl) (Nat.le_of_ble_eq_true rfl) (Nat.le_of_ble_eq_true rfl) (by omega) (by omega) (fun _ _ q => q.elim) ?_
  rintro _ h1 ⟨k5, z5, sv5, rfl, C1, f1, eo1, e5⟩
  have H1 : zMod G h1 ma S th := hM.mid n2 n3 f1
  refine z_istore dLaw_law_1519 (Nat.le_of_ble_eq_true rfl) ?_
  refine z_aload_n dLaw_law_1521 rfl ?_
  refine z_aload_n dLaw_law_1522 rfl ?_
  refine z_iload dLaw_law_1523 rfl ?_
  refine z_iconst dLaw_law_1525 ?_
  refine z_iadd dLaw_law_1526 ?_
  refine z_sld (by omega) dLaw_law_1527 ?_
  refine z_callV (bc' := bc - 6 - 0) (bs' := bs - 36 - 0) MV_Mod_back lk_Law_270 dLaw_law_1528 (k_Mod_back H1 (zX9_r (xs := xs) (i + 1)) hO h16) rfl rfl (Nat.le_of_ble_eq_true rfl) rfl H1.2.1 (Nat.le_of_ble_eq_true rfl) (Nat.le_of_ble_eq_true rfl) (by omega) (by omega) (fun _ _ q => q.elim) ?_
  rintro _ h2 ⟨ma2, th2, z6, rfl, m0, H2, F2, A2, e6⟩
  refine z_istore dLaw_law_1531 (Nat.le_of_ble_eq_true rfl) ?_
  refine z_goto (tgt := 2145) dLaw_law_1533 (by decide) ?_
  exact K _ _ h2 ma2 _ _ _ (zLi.fin C1 eo1 n1 n2 n3 H2 F2 A2 (ok_back hO h16) (oka_back oka)) m0 (by omega) (by omega)
theorem c_Law_29 {ou : Nat} {i : Int} {y5 y6 : Option Value} (I : zLi G h ad ma ou S) (hi : 0 ≤ i ∧ i + 4 ≤ L) (hb1 : 210 ≤ bc) (hb2 : 12100 ≤ bs) (K : zLK G l b L xs ad ma ou i bc bs) : zR G l (zLJ G b L xs) bc bs h 1536 [some (.ref b), some (.ref (ad 0)), some (.ref (ma 0)), some (.ref ou), some (zi i), y5, y6] [] := by
  obtain ⟨th, n0, sv, hC, hM, hO, oka, eo, n1, n2, n3⟩ := I
  have h16 : ∀ k, k < 4 → (S.1 k).length ≤ 16 := fun k hk => (hC.ls hk).len
  have x1 := zX9_r (xs := xs) (i + 1)
  have x2 := zX9_r (xs := xs) (i + 2)
  have x3 := zX9_r (xs := xs) (i + 3)
  refine z_aload_n dLaw_law_1536 rfl ?_
  refine z_aload_n dLaw_law_1537 rfl ?_
  refine z_iload dLaw_law_1538 rfl ?_
  refine z_iconst dLaw_law_1540 ?_
  refine z_iadd dLaw_law_1541 ?_
  refine z_sld (by omega) dLaw_law_1542 ?_
  refine z_aload_n dLaw_law_1543 rfl ?_
  refine z_iload dLaw_law_1544 rfl ?_
  refine z_iconst dLaw_law_1546 ?_
  refine z_iadd dLaw_law_1547 ?_
  refine z_sld (by omega) dLaw_law_1548 ?_
  refine z_aload_n dLaw_law_1549 rfl ?_
  refine z_callSX (bc' := bc - 6) (bs' := bs - 36) MW_Law_puts lk_Law_271 dLaw_law_1550 (k_Law_puts hO hC (zX9_r (xs := xs) (i + 1)) (zX9_r (xs := xs) (i + 2)) eo n1) rfl rfl (Nat.le_of_ble_eq_true rfl) (Nat.le_of_ble_eq_true rfl) (Nat.le_of_ble_eq_true rfl) (by omega) (by omega) (fun _ _ q => q.elim) ?_
  rintro _ h1 ⟨k5, z5, sv5, rfl, C1, f1, eo1, e5⟩
  have H1 : zMod G h1 ma S th := hM.mid n2 n3 f1
  refine z_istore dLaw_law_1553 (Nat.le_of_ble_eq_true rfl) ?_
  refine z_aload_n dLaw_law_1555 rfl ?_
  refine z_aload_n dLaw_law_1556 rfl ?_
  refine z_iload dLaw_law_1557 rfl ?_
  refine z_iconst dLaw_law_1559 ?_
  refine z_iadd dLaw_law_1560 ?_
  refine z_sld (by omega) dLaw_law_1561 ?_
  refine z_aload_n dLaw_law_1562 rfl ?_
  refine z_iload dLaw_law_1563 rfl ?_
  refine z_iconst dLaw_law_1565 ?_
  refine z_iadd dLaw_law_1566 ?_
  refine z_sld (by omega) dLaw_law_1567 ?_
  refine z_callV (bc' := bc - 6 - 1) (bs' := bs - 36 - 61) MV_Mod_puts lk_Law_273 dLaw_law_1568 (k_Mod_puts H1 (zX9_r (xs := xs) (i + 1)) (zX9_r (xs := xs) (i + 2)) hO h16) rfl rfl (Nat.le_of_ble_eq_true rfl) rfl H1.2.1 (Nat.le_of_ble_eq_true rfl) (Nat.le_of_ble_eq_true rfl) (by omega) (by omega) (fun _ _ q => q.elim) ?_
  rintro _ h2 ⟨ma2, th2, z6, rfl, m0, H2, F2, A2, e6⟩
  refine z_istore dLaw_law_1571 (Nat.le_of_ble_eq_true rfl) ?_
  refine z_goto (tgt := 2145) dLaw_law_1573 (by decide) ?_
  exact K _ _ h2 ma2 _ _ _ (zLi.fin C1 eo1 n1 n2 n3 H2 F2 A2 (ok_puts hO h16) (oka_puts oka)) m0 (by omega) (by omega)
theorem c_Law_30 {ou : Nat} {i : Int} {y5 y6 : Option Value} (I : zLi G h ad ma ou S) (hi : 0 ≤ i ∧ i + 4 ≤ L) (hb1 : 210 ≤ bc) (hb2 : 12100 ≤ bs) (K : zLK G l b L xs ad ma ou i bc bs) : zR G l (zLJ G b L xs) bc bs h 1576 [some (.ref b), some (.ref (ad 0)), some (.ref (ma 0)), some (.ref ou), some (zi i), y5, y6] [] := by
  obtain ⟨th, n0, sv, hC, hM, hO, oka, eo, n1, n2, n3⟩ := I
  have h16 : ∀ k, k < 4 → (S.1 k).length ≤ 16 := fun k hk => (hC.ls hk).len
  have x1 := zX9_r (xs := xs) (i + 1)
  have x2 := zX9_r (xs := xs) (i + 2)
  have x3 := zX9_r (xs := xs) (i + 3)
  refine z_aload_n dLaw_law_1576 rfl ?_
  refine z_aload_n dLaw_law_1577 rfl ?_
  refine z_iload dLaw_law_1578 rfl ?_
  refine z_iconst dLaw_law_1580 ?_
  refine z_iadd dLaw_law_1581 ?_
  refine z_sld (by omega) dLaw_law_1582 ?_
  refine z_aload_n dLaw_law_1583 rfl ?_
  refine z_callSX (bc' := bc - 6) (bs' := bs - 36) MW_Law_cuts lk_Law_274 dLaw_law_1584 (k_Law_cuts hO hC (zX9_r (xs := xs) (i + 1)) eo n1) rfl rfl (Nat.le_of_ble_eq_true rfl) (Nat.le_of_ble_eq_true rfl) (Nat.le_of_ble_eq_true rfl) (by omega) (by omega) (fun _ _ q => q.elim) ?_
  rintro _ h1 ⟨k5, z5, sv5, rfl, C1, f1, eo1, e5⟩
  have H1 : zMod G h1 ma S th := hM.mid n2 n3 f1
  refine z_istore dLaw_law_1587 (Nat.le_of_ble_eq_true rfl) ?_
  refine z_aload_n dLaw_law_1589 rfl ?_
  refine z_aload_n dLaw_law_1590 rfl ?_
  refine z_iload dLaw_law_1591 rfl ?_
  refine z_iconst dLaw_law_1593 ?_
  refine z_iadd dLaw_law_1594 ?_
  refine z_sld (by omega) dLaw_law_1595 ?_
  refine z_callV (bc' := bc - 6 - 1) (bs' := bs - 36 - 60) MV_Mod_cuts lk_Law_276 dLaw_law_1596 (k_Mod_cuts H1 (zX9_r (xs := xs) (i + 1)) hO h16) rfl rfl (Nat.le_of_ble_eq_true rfl) rfl H1.2.1 (Nat.le_of_ble_eq_true rfl) (Nat.le_of_ble_eq_true rfl) (by omega) (by omega) (fun _ _ q => q.elim) ?_
  rintro _ h2 ⟨ma2, th2, z6, rfl, m0, H2, F2, A2, e6⟩
  refine z_istore dLaw_law_1599 (Nat.le_of_ble_eq_true rfl) ?_
  refine z_goto (tgt := 2145) dLaw_law_1601 (by decide) ?_
  exact K _ _ h2 ma2 _ _ _ (zLi.fin C1 eo1 n1 n2 n3 H2 F2 A2 (ok_cuts hO h16) (oka_cuts oka)) m0 (by omega) (by omega)
theorem c_Law_31 {ou : Nat} {i : Int} {y5 y6 : Option Value} (I : zLi G h ad ma ou S) (hi : 0 ≤ i ∧ i + 4 ≤ L) (hb1 : 210 ≤ bc) (hb2 : 12100 ≤ bs) (K : zLK G l b L xs ad ma ou i bc bs) : zR G l (zLJ G b L xs) bc bs h 1604 [some (.ref b), some (.ref (ad 0)), some (.ref (ma 0)), some (.ref ou), some (zi i), y5, y6] [] := by
  obtain ⟨th, n0, sv, hC, hM, hO, oka, eo, n1, n2, n3⟩ := I
  have h16 : ∀ k, k < 4 → (S.1 k).length ≤ 16 := fun k hk => (hC.ls hk).len
  have x1 := zX9_r (xs := xs) (i + 1)
  have x2 := zX9_r (xs := xs) (i + 2)
  have x3 := zX9_r (xs := xs) (i + 3)
  refine z_aload_n dLaw_law_1604 rfl ?_
  refine z_aload_n dLaw_law_1605 rfl ?_
  refine z_iload dLaw_law_1606 rfl ?_
  refine z_iconst dLaw_law_1608 ?_
  refine z_iadd dLaw_law_1609 ?_
  refine z_sld (by omega) dLaw_law_1610 ?_
  refine z_aload_n dLaw_law_1611 rfl ?_
  refine z_iload dLaw_law_1612 rfl ?_
  refine z_iconst dLaw_law_1614 ?_
  refine z_iadd dLaw_law_1615 ?_
  refine z_sld (by omega) dLaw_law_1616 ?_
  refine z_aload_n dLaw_law_1617 rfl ?_
  refine z_callSX (bc' := bc - 6) (bs' := bs - 36) MW_Law_changes lk_Law_277 dLaw_law_1618 (k_Law_changes hO hC (zX9_r (xs := xs) (i + 1)) (zX9_r (xs := xs) (i + 2)) eo n1) rfl rfl (Nat.le_of_ble_eq_true rfl) (Nat.le_of_ble_eq_true rfl) (Nat.le_of_ble_eq_true rfl) (by omega) (by omega) (fun _ _ q => q.elim) ?_
  rintro _ h1 ⟨k5, z5, sv5, rfl, C1, f1, eo1, e5⟩
  have H1 : zMod G h1 ma S th := hM.mid n2 n3 f1
  refine z_istore dLaw_law_1621 (Nat.le_of_ble_eq_true rfl) ?_
  refine z_aload_n dLaw_law_1623 rfl ?_
  refine z_aload_n dLaw_law_1624 rfl ?_
  refine z_iload dLaw_law_1625 rfl ?_
  refine z_iconst dLaw_law_1627 ?_
  refine z_iadd dLaw_law_1628 ?_
  refine z_sld (by omega) dLaw_law_1629 ?_
  refine z_aload_n dLaw_law_1630 rfl ?_
  refine z_iload dLaw_law_1631 rfl ?_
  refine z_iconst dLaw_law_1633 ?_
  refine z_iadd dLaw_law_1634 ?_
  refine z_sld (by omega) dLaw_law_1635 ?_
  refine z_callV (bc' := bc - 6 - 0) (bs' := bs - 36 - 0) MV_Mod_changes lk_Law_279 dLaw_law_1636 (k_Mod_changes H1 (zX9_r (xs := xs) (i + 1)) (zX9_r (xs := xs) (i + 2)) hO h16) rfl rfl (Nat.le_of_ble_eq_true rfl) rfl H1.2.1 (Nat.le_of_ble_eq_true rfl) (Nat.le_of_ble_eq_true rfl) (by omega) (by omega) (fun _ _ q => q.elim) ?_
  rintro _ h2 ⟨ma2, th2, z6, rfl, m0, H2, F2, A2, e6⟩
  refine z_istore dLaw_law_1639 (Nat.le_of_ble_eq_true rfl) ?_
  refine z_goto (tgt := 2145) dLaw_law_1641 (by decide) ?_
  exact K _ _ h2 ma2 _ _ _ (zLi.fin C1 eo1 n1 n2 n3 H2 F2 A2 (ok_changes hO) (oka_changes oka)) m0 (by omega) (by omega)
theorem c_Law_32 {ou : Nat} {i : Int} {y5 y6 : Option Value} (I : zLi G h ad ma ou S) (hi : 0 ≤ i ∧ i + 4 ≤ L) (hb1 : 210 ≤ bc) (hb2 : 12100 ≤ bs) (K : zLK G l b L xs ad ma ou i bc bs) : zR G l (zLJ G b L xs) bc bs h 1644 [some (.ref b), some (.ref (ad 0)), some (.ref (ma 0)), some (.ref ou), some (zi i), y5, y6] [] := by
  obtain ⟨th, n0, sv, hC, hM, hO, oka, eo, n1, n2, n3⟩ := I
  have h16 : ∀ k, k < 4 → (S.1 k).length ≤ 16 := fun k hk => (hC.ls hk).len
  have x1 := zX9_r (xs := xs) (i + 1)
  have x2 := zX9_r (xs := xs) (i + 2)
  have x3 := zX9_r (xs := xs) (i + 3)
  refine z_aload_n dLaw_law_1644 rfl ?_
  refine z_aload_n dLaw_law_1645 rfl ?_
  refine z_iload dLaw_law_1646 rfl ?_
  refine z_iconst dLaw_law_1648 ?_
  refine z_iadd dLaw_law_1649 ?_
  refine z_sld (by omega) dLaw_law_1650 ?_
  refine z_aload_n dLaw_law_1651 rfl ?_
  refine z_iload dLaw_law_1652 rfl ?_
  refine z_iconst dLaw_law_1654 ?_
  refine z_iadd dLaw_law_1655 ?_
  refine z_sld (by omega) dLaw_law_1656 ?_
  refine z_aload_n dLaw_law_1657 rfl ?_
  refine z_callSX (bc' := bc - 6) (bs' := bs - 36) MW_Law_meet lk_Law_280 dLaw_law_1658 (k_Law_meet hO hC (zX9_r (xs := xs) (i + 1)) (zX9_r (xs := xs) (i + 2)) eo n1) rfl rfl (Nat.le_of_ble_eq_true rfl) (Nat.le_of_ble_eq_true rfl) (Nat.le_of_ble_eq_true rfl) (by omega) (by omega) (fun _ _ q => q.elim) ?_
  rintro _ h1 ⟨k5, z5, sv5, rfl, C1, f1, eo1, e5⟩
  have H1 : zMod G h1 ma S th := hM.mid n2 n3 f1
  refine z_istore dLaw_law_1661 (Nat.le_of_ble_eq_true rfl) ?_
  refine z_aload_n dLaw_law_1663 rfl ?_
  refine z_aload_n dLaw_law_1664 rfl ?_
  refine z_iload dLaw_law_1665 rfl ?_
  refine z_iconst dLaw_law_1667 ?_
  refine z_iadd dLaw_law_1668 ?_
  refine z_sld (by omega) dLaw_law_1669 ?_
  refine z_aload_n dLaw_law_1670 rfl ?_
  refine z_iload dLaw_law_1671 rfl ?_
  refine z_iconst dLaw_law_1673 ?_
  refine z_iadd dLaw_law_1674 ?_
  refine z_sld (by omega) dLaw_law_1675 ?_
  refine z_callV (bc' := bc - 6 - 0) (bs' := bs - 36 - 0) MV_Mod_meet lk_Law_282 dLaw_law_1676 (k_Mod_meet H1 (zX9_r (xs := xs) (i + 1)) (zX9_r (xs := xs) (i + 2)) hO h16) rfl rfl (Nat.le_of_ble_eq_true rfl) rfl H1.2.1 (Nat.le_of_ble_eq_true rfl) (Nat.le_of_ble_eq_true rfl) (by omega) (by omega) (fun _ _ q => q.elim) ?_
  rintro _ h2 ⟨ma2, th2, z6, rfl, m0, H2, F2, A2, e6⟩
  refine z_istore dLaw_law_1679 (Nat.le_of_ble_eq_true rfl) ?_
  refine z_goto (tgt := 2145) dLaw_law_1681 (by decide) ?_
  exact K _ _ h2 ma2 _ _ _ (zLi.fin C1 eo1 n1 n2 n3 H2 F2 A2 (ok_meet hO h16) (oka_meet oka)) m0 (by omega) (by omega)
theorem c_Law_33 {ou : Nat} {i : Int} {y5 y6 : Option Value} (I : zLi G h ad ma ou S) (hi : 0 ≤ i ∧ i + 4 ≤ L) (hb1 : 210 ≤ bc) (hb2 : 12100 ≤ bs) (K : zLK G l b L xs ad ma ou i bc bs) : zR G l (zLJ G b L xs) bc bs h 1684 [some (.ref b), some (.ref (ad 0)), some (.ref (ma 0)), some (.ref ou), some (zi i), y5, y6] [] := by
  obtain ⟨th, n0, sv, hC, hM, hO, oka, eo, n1, n2, n3⟩ := I
  have h16 : ∀ k, k < 4 → (S.1 k).length ≤ 16 := fun k hk => (hC.ls hk).len
  have x1 := zX9_r (xs := xs) (i + 1)
  have x2 := zX9_r (xs := xs) (i + 2)
  have x3 := zX9_r (xs := xs) (i + 3)
  refine z_aload_n dLaw_law_1684 rfl ?_
  refine z_aload_n dLaw_law_1685 rfl ?_
  refine z_iload dLaw_law_1686 rfl ?_
  refine z_iconst dLaw_law_1688 ?_
  refine z_iadd dLaw_law_1689 ?_
  refine z_sld (by omega) dLaw_law_1690 ?_
  refine z_aload_n dLaw_law_1691 rfl ?_
  refine z_iload dLaw_law_1692 rfl ?_
  refine z_iconst dLaw_law_1694 ?_
  refine z_iadd dLaw_law_1695 ?_
  refine z_sld (by omega) dLaw_law_1696 ?_
  refine z_aload_n dLaw_law_1697 rfl ?_
  refine z_callSX (bc' := bc - 6) (bs' := bs - 36) MW_Law_ofCursor lk_Law_283 dLaw_law_1698 (k_Law_ofCursor hO hC (zX9_r (xs := xs) (i + 1)) (zX9_r (xs := xs) (i + 2)) eo n1) rfl rfl (Nat.le_of_ble_eq_true rfl) (Nat.le_of_ble_eq_true rfl) (Nat.le_of_ble_eq_true rfl) (by omega) (by omega) (fun _ _ q => q.elim) ?_
  rintro _ h1 ⟨k5, z5, sv5, rfl, C1, f1, eo1, e5⟩
  have H1 : zMod G h1 ma S th := hM.mid n2 n3 f1
  refine z_istore dLaw_law_1701 (Nat.le_of_ble_eq_true rfl) ?_
  refine z_aload_n dLaw_law_1703 rfl ?_
  refine z_aload_n dLaw_law_1704 rfl ?_
  refine z_iload dLaw_law_1705 rfl ?_
  refine z_iconst dLaw_law_1707 ?_
  refine z_iadd dLaw_law_1708 ?_
  refine z_sld (by omega) dLaw_law_1709 ?_
  refine z_aload_n dLaw_law_1710 rfl ?_
  refine z_iload dLaw_law_1711 rfl ?_
  refine z_iconst dLaw_law_1713 ?_
  refine z_iadd dLaw_law_1714 ?_
  refine z_sld (by omega) dLaw_law_1715 ?_
  refine z_callV (bc' := bc - 6 - 1) (bs' := bs - 36 - 6) MV_Mod_ofCursor lk_Law_285 dLaw_law_1716 (k_Mod_ofCursor H1 (zX9_r (xs := xs) (i + 1)) (zX9_r (xs := xs) (i + 2)) hO h16) rfl rfl (Nat.le_of_ble_eq_true rfl) rfl H1.2.1 (Nat.le_of_ble_eq_true rfl) (Nat.le_of_ble_eq_true rfl) (by omega) (by omega) (fun _ _ q => q.elim) ?_
  rintro _ h2 ⟨ma2, th2, z6, rfl, m0, H2, F2, A2, e6⟩
  refine z_istore dLaw_law_1719 (Nat.le_of_ble_eq_true rfl) ?_
  refine z_goto (tgt := 2145) dLaw_law_1721 (by decide) ?_
  exact K _ _ h2 ma2 _ _ _ (zLi.fin C1 eo1 n1 n2 n3 H2 F2 A2 (ok_ofCursor hO) (oka_ofCursor oka)) m0 (by omega) (by omega)
theorem c_Law_34 {ou : Nat} {i : Int} {y5 y6 : Option Value} (I : zLi G h ad ma ou S) (hi : 0 ≤ i ∧ i + 4 ≤ L) (hb1 : 210 ≤ bc) (hb2 : 12100 ≤ bs) (K : zLK G l b L xs ad ma ou i bc bs) : zR G l (zLJ G b L xs) bc bs h 1724 [some (.ref b), some (.ref (ad 0)), some (.ref (ma 0)), some (.ref ou), some (zi i), y5, y6] [] := by
  obtain ⟨th, n0, sv, hC, hM, hO, oka, eo, n1, n2, n3⟩ := I
  have h16 : ∀ k, k < 4 → (S.1 k).length ≤ 16 := fun k hk => (hC.ls hk).len
  have x1 := zX9_r (xs := xs) (i + 1)
  have x2 := zX9_r (xs := xs) (i + 2)
  have x3 := zX9_r (xs := xs) (i + 3)
  refine z_aload_n dLaw_law_1724 rfl ?_
  refine z_aload_n dLaw_law_1725 rfl ?_
  refine z_iload dLaw_law_1726 rfl ?_
  refine z_iconst dLaw_law_1728 ?_
  refine z_iadd dLaw_law_1729 ?_
  refine z_sld (by omega) dLaw_law_1730 ?_
  refine z_aload_n dLaw_law_1731 rfl ?_
  refine z_iload dLaw_law_1732 rfl ?_
  refine z_iconst dLaw_law_1734 ?_
  refine z_iadd dLaw_law_1735 ?_
  refine z_sld (by omega) dLaw_law_1736 ?_
  refine z_aload_n dLaw_law_1737 rfl ?_
  refine z_callSX (bc' := bc - 6) (bs' := bs - 36) MW_Law_plus lk_Law_286 dLaw_law_1738 (k_Law_plus hC (zX9_r (xs := xs) (i + 1)) (zX9_r (xs := xs) (i + 2)) eo n1) rfl rfl (Nat.le_of_ble_eq_true rfl) (Nat.le_of_ble_eq_true rfl) (Nat.le_of_ble_eq_true rfl) (by omega) (by omega) (fun _ _ q => q.elim) ?_
  rintro _ h1 ⟨k5, z5, sv5, rfl, C1, f1, eo1, e5⟩
  have H1 : zMod G h1 ma S th := hM.mid n2 n3 f1
  refine z_istore dLaw_law_1741 (Nat.le_of_ble_eq_true rfl) ?_
  refine z_aload_n dLaw_law_1743 rfl ?_
  refine z_aload_n dLaw_law_1744 rfl ?_
  refine z_iload dLaw_law_1745 rfl ?_
  refine z_iconst dLaw_law_1747 ?_
  refine z_iadd dLaw_law_1748 ?_
  refine z_sld (by omega) dLaw_law_1749 ?_
  refine z_aload_n dLaw_law_1750 rfl ?_
  refine z_iload dLaw_law_1751 rfl ?_
  refine z_iconst dLaw_law_1753 ?_
  refine z_iadd dLaw_law_1754 ?_
  refine z_sld (by omega) dLaw_law_1755 ?_
  refine z_callV (bc' := bc - 6 - 2) (bs' := bs - 36 - 47) MV_Mod_plus lk_Law_288 dLaw_law_1756 (k_Mod_plus H1 (zX9_r (xs := xs) (i + 1)) (zX9_r (xs := xs) (i + 2)) h16) rfl rfl (Nat.le_of_ble_eq_true rfl) rfl H1.2.1 (Nat.le_of_ble_eq_true rfl) (Nat.le_of_ble_eq_true rfl) (by omega) (by omega) (fun _ _ q => q.elim) ?_
  rintro _ h2 ⟨ma2, th2, z6, rfl, m0, H2, F2, A2, e6⟩
  refine z_istore dLaw_law_1759 (Nat.le_of_ble_eq_true rfl) ?_
  refine z_goto (tgt := 2145) dLaw_law_1761 (by decide) ?_
  exact K _ _ h2 ma2 _ _ _ (zLi.fin C1 eo1 n1 n2 n3 H2 F2 A2 (ok_plus hO) (oka_plus oka)) m0 (by omega) (by omega)
theorem c_Law_35 {ou : Nat} {i : Int} {y5 y6 : Option Value} (I : zLi G h ad ma ou S) (hi : 0 ≤ i ∧ i + 4 ≤ L) (hb1 : 210 ≤ bc) (hb2 : 12100 ≤ bs) (K : zLK G l b L xs ad ma ou i bc bs) : zR G l (zLJ G b L xs) bc bs h 1764 [some (.ref b), some (.ref (ad 0)), some (.ref (ma 0)), some (.ref ou), some (zi i), y5, y6] [] := by
  obtain ⟨th, n0, sv, hC, hM, hO, oka, eo, n1, n2, n3⟩ := I
  have h16 : ∀ k, k < 4 → (S.1 k).length ≤ 16 := fun k hk => (hC.ls hk).len
  have x1 := zX9_r (xs := xs) (i + 1)
  have x2 := zX9_r (xs := xs) (i + 2)
  have x3 := zX9_r (xs := xs) (i + 3)
  refine z_aload_n dLaw_law_1764 rfl ?_
  refine z_aload_n dLaw_law_1765 rfl ?_
  refine z_iload dLaw_law_1766 rfl ?_
  refine z_iconst dLaw_law_1768 ?_
  refine z_iadd dLaw_law_1769 ?_
  refine z_sld (by omega) dLaw_law_1770 ?_
  refine z_aload_n dLaw_law_1771 rfl ?_
  refine z_iload dLaw_law_1772 rfl ?_
  refine z_iconst dLaw_law_1774 ?_
  refine z_iadd dLaw_law_1775 ?_
  refine z_sld (by omega) dLaw_law_1776 ?_
  refine z_aload_n dLaw_law_1777 rfl ?_
  refine z_callSX (bc' := bc - 6) (bs' := bs - 36) MW_Law_times lk_Law_289 dLaw_law_1778 (k_Law_times hC (zX9_r (xs := xs) (i + 1)) (zX9_r (xs := xs) (i + 2)) eo n1) rfl rfl (Nat.le_of_ble_eq_true rfl) (Nat.le_of_ble_eq_true rfl) (Nat.le_of_ble_eq_true rfl) (by omega) (by omega) (fun _ _ q => q.elim) ?_
  rintro _ h1 ⟨k5, z5, sv5, rfl, C1, f1, eo1, e5⟩
  have H1 : zMod G h1 ma S th := hM.mid n2 n3 f1
  refine z_istore dLaw_law_1781 (Nat.le_of_ble_eq_true rfl) ?_
  refine z_aload_n dLaw_law_1783 rfl ?_
  refine z_aload_n dLaw_law_1784 rfl ?_
  refine z_iload dLaw_law_1785 rfl ?_
  refine z_iconst dLaw_law_1787 ?_
  refine z_iadd dLaw_law_1788 ?_
  refine z_sld (by omega) dLaw_law_1789 ?_
  refine z_aload_n dLaw_law_1790 rfl ?_
  refine z_iload dLaw_law_1791 rfl ?_
  refine z_iconst dLaw_law_1793 ?_
  refine z_iadd dLaw_law_1794 ?_
  refine z_sld (by omega) dLaw_law_1795 ?_
  refine z_callV (bc' := bc - 6 - 2) (bs' := bs - 36 - 47) MV_Mod_times lk_Law_291 dLaw_law_1796 (k_Mod_times H1 (zX9_r (xs := xs) (i + 1)) (zX9_r (xs := xs) (i + 2)) h16) rfl rfl (Nat.le_of_ble_eq_true rfl) rfl H1.2.1 (Nat.le_of_ble_eq_true rfl) (Nat.le_of_ble_eq_true rfl) (by omega) (by omega) (fun _ _ q => q.elim) ?_
  rintro _ h2 ⟨ma2, th2, z6, rfl, m0, H2, F2, A2, e6⟩
  refine z_istore dLaw_law_1799 (Nat.le_of_ble_eq_true rfl) ?_
  refine z_goto (tgt := 2145) dLaw_law_1801 (by decide) ?_
  exact K _ _ h2 ma2 _ _ _ (zLi.fin C1 eo1 n1 n2 n3 H2 F2 A2 (ok_times hO) (oka_times oka)) m0 (by omega) (by omega)
theorem c_Law_36 {ou : Nat} {i : Int} {y5 y6 : Option Value} (I : zLi G h ad ma ou S) (hi : 0 ≤ i ∧ i + 4 ≤ L) (hb1 : 210 ≤ bc) (hb2 : 12100 ≤ bs) (K : zLK G l b L xs ad ma ou i bc bs) : zR G l (zLJ G b L xs) bc bs h 1804 [some (.ref b), some (.ref (ad 0)), some (.ref (ma 0)), some (.ref ou), some (zi i), y5, y6] [] := by
  obtain ⟨th, n0, sv, hC, hM, hO, oka, eo, n1, n2, n3⟩ := I
  have h16 : ∀ k, k < 4 → (S.1 k).length ≤ 16 := fun k hk => (hC.ls hk).len
  have x1 := zX9_r (xs := xs) (i + 1)
  have x2 := zX9_r (xs := xs) (i + 2)
  have x3 := zX9_r (xs := xs) (i + 3)
  refine z_aload_n dLaw_law_1804 rfl ?_
  refine z_aload_n dLaw_law_1805 rfl ?_
  refine z_iload dLaw_law_1806 rfl ?_
  refine z_iconst dLaw_law_1808 ?_
  refine z_iadd dLaw_law_1809 ?_
  refine z_sld (by omega) dLaw_law_1810 ?_
  refine z_aload_n dLaw_law_1811 rfl ?_
  refine z_callSX (bc' := bc - 6) (bs' := bs - 36) MW_Law_shift lk_Law_292 dLaw_law_1812 (k_Law_shift hC (zX9_r (xs := xs) (i + 1)) eo n1) rfl rfl (Nat.le_of_ble_eq_true rfl) (Nat.le_of_ble_eq_true rfl) (Nat.le_of_ble_eq_true rfl) (by omega) (by omega) (fun _ _ q => q.elim) ?_
  rintro _ h1 ⟨k5, z5, sv5, rfl, C1, f1, eo1, e5⟩
  have H1 : zMod G h1 ma S th := hM.mid n2 n3 f1
  refine z_istore dLaw_law_1815 (Nat.le_of_ble_eq_true rfl) ?_
  refine z_aload_n dLaw_law_1817 rfl ?_
  refine z_aload_n dLaw_law_1818 rfl ?_
  refine z_iload dLaw_law_1819 rfl ?_
  refine z_iconst dLaw_law_1821 ?_
  refine z_iadd dLaw_law_1822 ?_
  refine z_sld (by omega) dLaw_law_1823 ?_
  refine z_callV (bc' := bc - 6 - 1) (bs' := bs - 36 - 61) MV_Mod_shift lk_Law_294 dLaw_law_1824 (k_Mod_shift H1 (zX9_r (xs := xs) (i + 1)) h16) rfl rfl (Nat.le_of_ble_eq_true rfl) rfl H1.2.1 (Nat.le_of_ble_eq_true rfl) (Nat.le_of_ble_eq_true rfl) (by omega) (by omega) (fun _ _ q => q.elim) ?_
  rintro _ h2 ⟨ma2, th2, z6, rfl, m0, H2, F2, A2, e6⟩
  refine z_istore dLaw_law_1827 (Nat.le_of_ble_eq_true rfl) ?_
  refine z_goto (tgt := 2145) dLaw_law_1829 (by decide) ?_
  exact K _ _ h2 ma2 _ _ _ (zLi.fin C1 eo1 n1 n2 n3 H2 F2 A2 (ok_shift hO) (oka_shift oka)) m0 (by omega) (by omega)
theorem c_Law_37 {ou : Nat} {i : Int} {y5 y6 : Option Value} (I : zLi G h ad ma ou S) (hi : 0 ≤ i ∧ i + 4 ≤ L) (hb1 : 210 ≤ bc) (hb2 : 12100 ≤ bs) (K : zLK G l b L xs ad ma ou i bc bs) : zR G l (zLJ G b L xs) bc bs h 1832 [some (.ref b), some (.ref (ad 0)), some (.ref (ma 0)), some (.ref ou), some (zi i), y5, y6] [] := by
  obtain ⟨th, n0, sv, hC, hM, hO, oka, eo, n1, n2, n3⟩ := I
  have h16 : ∀ k, k < 4 → (S.1 k).length ≤ 16 := fun k hk => (hC.ls hk).len
  have x1 := zX9_r (xs := xs) (i + 1)
  have x2 := zX9_r (xs := xs) (i + 2)
  have x3 := zX9_r (xs := xs) (i + 3)
  refine z_aload_n dLaw_law_1832 rfl ?_
  refine z_aload_n dLaw_law_1833 rfl ?_
  refine z_iload dLaw_law_1834 rfl ?_
  refine z_iconst dLaw_law_1836 ?_
  refine z_iadd dLaw_law_1837 ?_
  refine z_sld (by omega) dLaw_law_1838 ?_
  refine z_aload_n dLaw_law_1839 rfl ?_
  refine z_callSX (bc' := bc - 6) (bs' := bs - 36) MW_Law_trim lk_Law_295 dLaw_law_1840 (k_Law_trim hC (zX9_r (xs := xs) (i + 1)) eo n1) rfl rfl (Nat.le_of_ble_eq_true rfl) (Nat.le_of_ble_eq_true rfl) (Nat.le_of_ble_eq_true rfl) (by omega) (by omega) (fun _ _ q => q.elim) ?_
  rintro _ h1 ⟨k5, z5, sv5, rfl, C1, f1, eo1, e5⟩
  have H1 : zMod G h1 ma S th := hM.mid n2 n3 f1
  refine z_istore dLaw_law_1843 (Nat.le_of_ble_eq_true rfl) ?_
  refine z_aload_n dLaw_law_1845 rfl ?_
  refine z_aload_n dLaw_law_1846 rfl ?_
  refine z_iload dLaw_law_1847 rfl ?_
  refine z_iconst dLaw_law_1849 ?_
  refine z_iadd dLaw_law_1850 ?_
  refine z_sld (by omega) dLaw_law_1851 ?_
  refine z_callV (bc' := bc - 6 - 16) (bs' := bs - 36 - 960) MV_Mod_trim lk_Law_297 dLaw_law_1852 (k_Mod_trim H1 (zX9_r (xs := xs) (i + 1)) h16) rfl rfl (Nat.le_of_ble_eq_true rfl) rfl H1.2.1 (Nat.le_of_ble_eq_true rfl) (Nat.le_of_ble_eq_true rfl) (by omega) (by omega) (fun _ _ q => q.elim) ?_
  rintro _ h2 ⟨ma2, th2, z6, rfl, m0, H2, F2, A2, e6⟩
  refine z_istore dLaw_law_1855 (Nat.le_of_ble_eq_true rfl) ?_
  refine z_goto (tgt := 2145) dLaw_law_1857 (by decide) ?_
  exact K _ _ h2 ma2 _ _ _ (zLi.fin C1 eo1 n1 n2 n3 H2 F2 A2 (ok_trim hO) (oka_trim oka)) m0 (by omega) (by omega)
theorem c_Law_38 {ou : Nat} {i : Int} {y5 y6 : Option Value} (I : zLi G h ad ma ou S) (hi : 0 ≤ i ∧ i + 4 ≤ L) (hb1 : 210 ≤ bc) (hb2 : 12100 ≤ bs) (K : zLK G l b L xs ad ma ou i bc bs) : zR G l (zLJ G b L xs) bc bs h 1860 [some (.ref b), some (.ref (ad 0)), some (.ref (ma 0)), some (.ref ou), some (zi i), y5, y6] [] := by
  obtain ⟨th, n0, sv, hC, hM, hO, oka, eo, n1, n2, n3⟩ := I
  have h16 : ∀ k, k < 4 → (S.1 k).length ≤ 16 := fun k hk => (hC.ls hk).len
  have x1 := zX9_r (xs := xs) (i + 1)
  have x2 := zX9_r (xs := xs) (i + 2)
  have x3 := zX9_r (xs := xs) (i + 3)
  refine z_aload_n dLaw_law_1860 rfl ?_
  refine z_aload_n dLaw_law_1861 rfl ?_
  refine z_iload dLaw_law_1862 rfl ?_
  refine z_iconst dLaw_law_1864 ?_
  refine z_iadd dLaw_law_1865 ?_
  refine z_sld (by omega) dLaw_law_1866 ?_
  refine z_aload_n dLaw_law_1867 rfl ?_
  refine z_callSX (bc' := bc - 6) (bs' := bs - 36) MW_Law_derive lk_Law_298 dLaw_law_1868 (k_Law_derive hC (zX9_r (xs := xs) (i + 1)) eo n1) rfl rfl (Nat.le_of_ble_eq_true rfl) (Nat.le_of_ble_eq_true rfl) (Nat.le_of_ble_eq_true rfl) (by omega) (by omega) (fun _ _ q => q.elim) ?_
  rintro _ h1 ⟨k5, z5, sv5, rfl, C1, f1, eo1, e5⟩
  have H1 : zMod G h1 ma S th := hM.mid n2 n3 f1
  refine z_istore dLaw_law_1871 (Nat.le_of_ble_eq_true rfl) ?_
  refine z_aload_n dLaw_law_1873 rfl ?_
  refine z_aload_n dLaw_law_1874 rfl ?_
  refine z_iload dLaw_law_1875 rfl ?_
  refine z_iconst dLaw_law_1877 ?_
  refine z_iadd dLaw_law_1878 ?_
  refine z_sld (by omega) dLaw_law_1879 ?_
  refine z_callV (bc' := bc - 6 - 2) (bs' := bs - 36 - 31) MV_Mod_derive lk_Law_300 dLaw_law_1880 (k_Mod_derive H1 (zX9_r (xs := xs) (i + 1)) h16) rfl rfl (Nat.le_of_ble_eq_true rfl) rfl H1.2.1 (Nat.le_of_ble_eq_true rfl) (Nat.le_of_ble_eq_true rfl) (by omega) (by omega) (fun _ _ q => q.elim) ?_
  rintro _ h2 ⟨ma2, th2, z6, rfl, m0, H2, F2, A2, e6⟩
  refine z_istore dLaw_law_1883 (Nat.le_of_ble_eq_true rfl) ?_
  refine z_goto (tgt := 2145) dLaw_law_1885 (by decide) ?_
  exact K _ _ h2 ma2 _ _ _ (zLi.fin C1 eo1 n1 n2 n3 H2 F2 A2 (ok_derive hO) (oka_derive oka)) m0 (by omega) (by omega)
theorem c_Law_39 {ou : Nat} {i : Int} {y5 y6 : Option Value} (I : zLi G h ad ma ou S) (hi : 0 ≤ i ∧ i + 4 ≤ L) (hb1 : 210 ≤ bc) (hb2 : 12100 ≤ bs) (K : zLK G l b L xs ad ma ou i bc bs) : zR G l (zLJ G b L xs) bc bs h 1888 [some (.ref b), some (.ref (ad 0)), some (.ref (ma 0)), some (.ref ou), some (zi i), y5, y6] [] := by
  obtain ⟨th, n0, sv, hC, hM, hO, oka, eo, n1, n2, n3⟩ := I
  have h16 : ∀ k, k < 4 → (S.1 k).length ≤ 16 := fun k hk => (hC.ls hk).len
  have x1 := zX9_r (xs := xs) (i + 1)
  have x2 := zX9_r (xs := xs) (i + 2)
  have x3 := zX9_r (xs := xs) (i + 3)
  refine z_aload_n dLaw_law_1888 rfl ?_
  refine z_aload_n dLaw_law_1889 rfl ?_
  refine z_iload dLaw_law_1890 rfl ?_
  refine z_iconst dLaw_law_1892 ?_
  refine z_iadd dLaw_law_1893 ?_
  refine z_sld (by omega) dLaw_law_1894 ?_
  refine z_aload_n dLaw_law_1895 rfl ?_
  refine z_iload dLaw_law_1896 rfl ?_
  refine z_iconst dLaw_law_1898 ?_
  refine z_iadd dLaw_law_1899 ?_
  refine z_sld (by omega) dLaw_law_1900 ?_
  refine z_aload_n dLaw_law_1901 rfl ?_
  refine z_callSX (bc' := bc - 6) (bs' := bs - 36) MW_Law_value lk_Law_301 dLaw_law_1902 (k_Law_value hC (zX9_r (xs := xs) (i + 1)) (zX9_r (xs := xs) (i + 2)) eo n1) rfl rfl (Nat.le_of_ble_eq_true rfl) (Nat.le_of_ble_eq_true rfl) (Nat.le_of_ble_eq_true rfl) (by omega) (by omega) (fun _ _ q => q.elim) ?_
  rintro _ h1 ⟨k5, z5, sv5, rfl, C1, f1, eo1, e5⟩
  have H1 : zMod G h1 ma S th := hM.mid n2 n3 f1
  refine z_istore dLaw_law_1905 (Nat.le_of_ble_eq_true rfl) ?_
  refine z_aload_n dLaw_law_1907 rfl ?_
  refine z_aload_n dLaw_law_1908 rfl ?_
  refine z_iload dLaw_law_1909 rfl ?_
  refine z_iconst dLaw_law_1911 ?_
  refine z_iadd dLaw_law_1912 ?_
  refine z_sld (by omega) dLaw_law_1913 ?_
  refine z_aload_n dLaw_law_1914 rfl ?_
  refine z_iload dLaw_law_1915 rfl ?_
  refine z_iconst dLaw_law_1917 ?_
  refine z_iadd dLaw_law_1918 ?_
  refine z_sld (by omega) dLaw_law_1919 ?_
  refine z_callV (bc' := bc - 6 - 0) (bs' := bs - 36 - 0) MV_Mod_value lk_Law_303 dLaw_law_1920 (k_Mod_value H1 (zX9_r (xs := xs) (i + 1)) (zX9_r (xs := xs) (i + 2))) rfl rfl (Nat.le_of_ble_eq_true rfl) rfl H1.2.1 (Nat.le_of_ble_eq_true rfl) (Nat.le_of_ble_eq_true rfl) (by omega) (by omega) (fun _ _ q => q.elim) ?_
  rintro _ h2 ⟨ma2, th2, z6, rfl, m0, H2, F2, A2, e6⟩
  refine z_istore dLaw_law_1923 (Nat.le_of_ble_eq_true rfl) ?_
  refine z_goto (tgt := 2145) dLaw_law_1925 (by decide) ?_
  exact K _ _ h2 ma2 _ _ _ (zLi.fin C1 eo1 n1 n2 n3 H2 F2 A2 (ok_value hO) (oka_value oka)) m0 (by omega) (by omega)
theorem c_Law_40 {ou : Nat} {i : Int} {y5 y6 : Option Value} (I : zLi G h ad ma ou S) (hi : 0 ≤ i ∧ i + 4 ≤ L) (hb1 : 210 ≤ bc) (hb2 : 12100 ≤ bs) (K : zLK G l b L xs ad ma ou i bc bs) : zR G l (zLJ G b L xs) bc bs h 1928 [some (.ref b), some (.ref (ad 0)), some (.ref (ma 0)), some (.ref ou), some (zi i), y5, y6] [] := by
  obtain ⟨th, n0, sv, hC, hM, hO, oka, eo, n1, n2, n3⟩ := I
  have h16 : ∀ k, k < 4 → (S.1 k).length ≤ 16 := fun k hk => (hC.ls hk).len
  have x1 := zX9_r (xs := xs) (i + 1)
  have x2 := zX9_r (xs := xs) (i + 2)
  have x3 := zX9_r (xs := xs) (i + 3)
  refine z_aload_n dLaw_law_1928 rfl ?_
  refine z_aload_n dLaw_law_1929 rfl ?_
  refine z_iload dLaw_law_1930 rfl ?_
  refine z_iconst dLaw_law_1932 ?_
  refine z_iadd dLaw_law_1933 ?_
  refine z_sld (by omega) dLaw_law_1934 ?_
  refine z_aload_n dLaw_law_1935 rfl ?_
  refine z_callSX (bc' := bc - 6) (bs' := bs - 36) MW_Law_degree lk_Law_304 dLaw_law_1936 (k_Law_degree hC (zX9_r (xs := xs) (i + 1)) eo n1) rfl rfl (Nat.le_of_ble_eq_true rfl) (Nat.le_of_ble_eq_true rfl) (Nat.le_of_ble_eq_true rfl) (by omega) (by omega) (fun _ _ q => q.elim) ?_
  rintro _ h1 ⟨k5, z5, sv5, rfl, C1, f1, eo1, e5⟩
  have H1 : zMod G h1 ma S th := hM.mid n2 n3 f1
  refine z_istore dLaw_law_1939 (Nat.le_of_ble_eq_true rfl) ?_
  refine z_aload_n dLaw_law_1941 rfl ?_
  refine z_aload_n dLaw_law_1942 rfl ?_
  refine z_iload dLaw_law_1943 rfl ?_
  refine z_iconst dLaw_law_1945 ?_
  refine z_iadd dLaw_law_1946 ?_
  refine z_sld (by omega) dLaw_law_1947 ?_
  refine z_callV (bc' := bc - 6 - 0) (bs' := bs - 36 - 0) MV_Mod_degree lk_Law_306 dLaw_law_1948 (k_Mod_degree H1 (zX9_r (xs := xs) (i + 1))) rfl rfl (Nat.le_of_ble_eq_true rfl) rfl H1.2.1 (Nat.le_of_ble_eq_true rfl) (Nat.le_of_ble_eq_true rfl) (by omega) (by omega) (fun _ _ q => q.elim) ?_
  rintro _ h2 ⟨ma2, th2, z6, rfl, m0, H2, F2, A2, e6⟩
  refine z_istore dLaw_law_1951 (Nat.le_of_ble_eq_true rfl) ?_
  refine z_goto (tgt := 2145) dLaw_law_1953 (by decide) ?_
  exact K _ _ h2 ma2 _ _ _ (zLi.fin C1 eo1 n1 n2 n3 H2 F2 A2 (ok_degree hO) (oka_degree oka)) m0 (by omega) (by omega)
theorem c_Law_41 {ou : Nat} {i : Int} {y5 y6 : Option Value} (I : zLi G h ad ma ou S) (hi : 0 ≤ i ∧ i + 4 ≤ L) (hb1 : 210 ≤ bc) (hb2 : 12100 ≤ bs) (K : zLK G l b L xs ad ma ou i bc bs) : zR G l (zLJ G b L xs) bc bs h 1956 [some (.ref b), some (.ref (ad 0)), some (.ref (ma 0)), some (.ref ou), some (zi i), y5, y6] [] := by
  obtain ⟨th, n0, sv, hC, hM, hO, oka, eo, n1, n2, n3⟩ := I
  have h16 : ∀ k, k < 4 → (S.1 k).length ≤ 16 := fun k hk => (hC.ls hk).len
  have x1 := zX9_r (xs := xs) (i + 1)
  have x2 := zX9_r (xs := xs) (i + 2)
  have x3 := zX9_r (xs := xs) (i + 3)
  refine z_aload_n dLaw_law_1956 rfl ?_
  refine z_aload_n dLaw_law_1957 rfl ?_
  refine z_iload dLaw_law_1958 rfl ?_
  refine z_iconst dLaw_law_1960 ?_
  refine z_iadd dLaw_law_1961 ?_
  refine z_sld (by omega) dLaw_law_1962 ?_
  refine z_aload_n dLaw_law_1963 rfl ?_
  refine z_callSX (bc' := bc - 6) (bs' := bs - 36) MW_Law_ask lk_Law_307 dLaw_law_1964 (k_Law_ask hO hC (zX9_r (xs := xs) (i + 1)) eo n1) rfl rfl (Nat.le_of_ble_eq_true rfl) (Nat.le_of_ble_eq_true rfl) (Nat.le_of_ble_eq_true rfl) (by omega) (by omega) (fun _ _ q => q.elim) ?_
  rintro _ h1 ⟨k5, z5, sv5, rfl, C1, f1, eo1, e5⟩
  have H1 : zMod G h1 ma S th := hM.mid n2 n3 f1
  refine z_istore dLaw_law_1967 (Nat.le_of_ble_eq_true rfl) ?_
  refine z_aload_n dLaw_law_1969 rfl ?_
  refine z_aload_n dLaw_law_1970 rfl ?_
  refine z_iload dLaw_law_1971 rfl ?_
  refine z_iconst dLaw_law_1973 ?_
  refine z_iadd dLaw_law_1974 ?_
  refine z_sld (by omega) dLaw_law_1975 ?_
  refine z_callV (bc' := bc - 6 - 2) (bs' := bs - 36 - 121) MV_Mod_ask lk_Law_309 dLaw_law_1976 (k_Mod_ask H1 (zX9_r (xs := xs) (i + 1)) hO) rfl rfl (Nat.le_of_ble_eq_true rfl) rfl H1.2.1 (Nat.le_of_ble_eq_true rfl) (Nat.le_of_ble_eq_true rfl) (by omega) (by omega) (fun _ _ q => q.elim) ?_
  rintro _ h2 ⟨ma2, th2, z6, rfl, m0, H2, F2, A2, e6⟩
  refine z_istore dLaw_law_1979 (Nat.le_of_ble_eq_true rfl) ?_
  refine z_goto (tgt := 2145) dLaw_law_1981 (by decide) ?_
  exact K _ _ h2 ma2 _ _ _ (zLi.fin C1 eo1 n1 n2 n3 H2 F2 A2 (ok_ask hO) (oka_ask oka)) m0 (by omega) (by omega)
theorem c_Law_42 {ou : Nat} {i : Int} {y5 y6 : Option Value} (I : zLi G h ad ma ou S) (hi : 0 ≤ i ∧ i + 4 ≤ L) (hb1 : 210 ≤ bc) (hb2 : 12100 ≤ bs) (K : zLK G l b L xs ad ma ou i bc bs) : zR G l (zLJ G b L xs) bc bs h 1984 [some (.ref b), some (.ref (ad 0)), some (.ref (ma 0)), some (.ref ou), some (zi i), y5, y6] [] := by
  obtain ⟨th, n0, sv, hC, hM, hO, oka, eo, n1, n2, n3⟩ := I
  have h16 : ∀ k, k < 4 → (S.1 k).length ≤ 16 := fun k hk => (hC.ls hk).len
  have x1 := zX9_r (xs := xs) (i + 1)
  have x2 := zX9_r (xs := xs) (i + 2)
  have x3 := zX9_r (xs := xs) (i + 3)
  refine z_aload_n dLaw_law_1984 rfl ?_
  refine z_callV (bc' := bc - 6) (bs' := bs - 36) MV_Cls_forget lk_Law_310 dLaw_law_1985 (k_Cls_forget hC) rfl rfl (Nat.le_of_ble_eq_true rfl) rfl hC.2.1 (Nat.le_of_ble_eq_true rfl) (Nat.le_of_ble_eq_true rfl) (by omega) (by omega) (fun E h9 q9 => absurd (Prod.mk.inj (show sp_forget S = _ from q9.choose_spec.1)).1 (by simp)) ?_
  rintro _ h1 ⟨z5, S5, e5, rfl, C1, f1⟩
  have eS : S5 = (sp_forget S).2 := by rw [e5]
  subst eS
  have eo1 := (f1 ou n1).trans eo
  have H1 : zMod G h1 ma S th := hM.mid (ad := ad) n2 n3 (fun q _ hq => f1 q hq)
  refine z_pop rfl dLaw_law_1988 ?_
  refine z_aload_n dLaw_law_1989 rfl ?_
  refine z_callV (bc' := bc - 6 - 0) (bs' := bs - 36 - 0) MV_Mod_forget lk_Law_313 dLaw_law_1990 (k_Mod_forget H1 hO) rfl rfl (Nat.le_of_ble_eq_true rfl) rfl H1.2.1 (Nat.le_of_ble_eq_true rfl) (Nat.le_of_ble_eq_true rfl) (by omega) (by omega) (fun _ _ q => q.elim) ?_
  rintro _ h2 ⟨ma2, th2, z6, rfl, m0, H2, F2, A2, e6⟩
  refine z_pop rfl dLaw_law_1993 ?_
  refine z_goto (tgt := 2145) dLaw_law_1994 (by decide) ?_
  exact K _ _ h2 ma2 _ _ _ (zLi.fin C1 eo1 n1 n2 n3 H2 F2 A2 (ok_forget hO) (oka_forget oka)) m0 (by omega) (by omega)
theorem c_Law_43 {ou : Nat} {i : Int} {y5 y6 : Option Value} (I : zLi G h ad ma ou S) (hi : 0 ≤ i ∧ i + 4 ≤ L) (hb1 : 210 ≤ bc) (hb2 : 12100 ≤ bs) (K : zLK G l b L xs ad ma ou i bc bs) : zR G l (zLJ G b L xs) bc bs h 1997 [some (.ref b), some (.ref (ad 0)), some (.ref (ma 0)), some (.ref ou), some (zi i), y5, y6] [] := by
  obtain ⟨th, n0, sv, hC, hM, hO, oka, eo, n1, n2, n3⟩ := I
  have h16 : ∀ k, k < 4 → (S.1 k).length ≤ 16 := fun k hk => (hC.ls hk).len
  have x1 := zX9_r (xs := xs) (i + 1)
  have x2 := zX9_r (xs := xs) (i + 2)
  have x3 := zX9_r (xs := xs) (i + 3)
  refine z_aload_n dLaw_law_1997 rfl ?_
  refine z_aload_n dLaw_law_1998 rfl ?_
  refine z_iload dLaw_law_1999 rfl ?_
  refine z_iconst dLaw_law_2001 ?_
  refine z_iadd dLaw_law_2002 ?_
  refine z_sld (by omega) dLaw_law_2003 ?_
  refine z_aload_n dLaw_law_2004 rfl ?_
  refine z_callSX (bc' := bc - 6) (bs' := bs - 36) MW_Law_asked lk_Law_314 dLaw_law_2005 (k_Law_asked hC (zX9_r (xs := xs) (i + 1)) eo n1) rfl rfl (Nat.le_of_ble_eq_true rfl) (Nat.le_of_ble_eq_true rfl) (Nat.le_of_ble_eq_true rfl) (by omega) (by omega) (fun _ _ q => q.elim) ?_
  rintro _ h1 ⟨k5, z5, sv5, rfl, C1, f1, eo1, e5⟩
  have H1 : zMod G h1 ma S th := hM.mid n2 n3 f1
  refine z_istore dLaw_law_2008 (Nat.le_of_ble_eq_true rfl) ?_
  refine z_aload_n dLaw_law_2010 rfl ?_
  refine z_aload_n dLaw_law_2011 rfl ?_
  refine z_iload dLaw_law_2012 rfl ?_
  refine z_iconst dLaw_law_2014 ?_
  refine z_iadd dLaw_law_2015 ?_
  refine z_sld (by omega) dLaw_law_2016 ?_
  refine z_callV (bc' := bc - 6 - 0) (bs' := bs - 36 - 0) MV_Mod_asked lk_Law_316 dLaw_law_2017 (k_Mod_asked H1 (zX9_r (xs := xs) (i + 1)) hO) rfl rfl (Nat.le_of_ble_eq_true rfl) rfl H1.2.1 (Nat.le_of_ble_eq_true rfl) (Nat.le_of_ble_eq_true rfl) (by omega) (by omega) (fun _ _ q => q.elim) ?_
  rintro _ h2 ⟨ma2, th2, z6, rfl, m0, H2, F2, A2, e6⟩
  refine z_istore dLaw_law_2020 (Nat.le_of_ble_eq_true rfl) ?_
  refine z_goto (tgt := 2145) dLaw_law_2022 (by decide) ?_
  exact K _ _ h2 ma2 _ _ _ (zLi.fin C1 eo1 n1 n2 n3 H2 F2 A2 (ok_asked hO) (oka_asked oka)) m0 (by omega) (by omega)
theorem c_Law_44 {ou : Nat} {i : Int} {y5 y6 : Option Value} (I : zLi G h ad ma ou S) (hi : 0 ≤ i ∧ i + 4 ≤ L) (hb1 : 210 ≤ bc) (hb2 : 12100 ≤ bs) (K : zLK G l b L xs ad ma ou i bc bs) : zR G l (zLJ G b L xs) bc bs h 2025 [some (.ref b), some (.ref (ad 0)), some (.ref (ma 0)), some (.ref ou), some (zi i), y5, y6] [] := by
  obtain ⟨th, n0, sv, hC, hM, hO, oka, eo, n1, n2, n3⟩ := I
  have h16 : ∀ k, k < 4 → (S.1 k).length ≤ 16 := fun k hk => (hC.ls hk).len
  have x1 := zX9_r (xs := xs) (i + 1)
  have x2 := zX9_r (xs := xs) (i + 2)
  have x3 := zX9_r (xs := xs) (i + 3)
  refine z_aload_n dLaw_law_2025 rfl ?_
  refine z_callV (bc' := bc - 36) (bs' := bs - 600) MV_Cls_recent lk_Law_317 dLaw_law_2026 (k_Cls_recent hC) rfl rfl (Nat.le_of_ble_eq_true rfl) rfl hC.2.1 (Nat.le_of_ble_eq_true rfl) (Nat.le_of_ble_eq_true rfl) (by omega) (by omega) (fun _ _ q => q.elim) ?_
  rintro _ h1 ⟨⟨s5, rfl⟩, rfl⟩
  have C1 := hC
  have f1 : zFrm ad h h := zFrm.rf
  have eo1 := (f1 ou n1).trans eo
  have H1 : zMod G h ma S th := hM.mid (ad := ad) n2 n3 (fun q _ hq => f1 q hq)
  refine z_pop rfl dLaw_law_2029 ?_
  refine z_aload_n dLaw_law_2030 rfl ?_
  refine z_callV (bc' := bc - 36 - 112) (bs' := bs - 600 - 9344) MV_Mod_recent lk_Law_321 dLaw_law_2031 (k_Mod_recent H1 hO) rfl rfl (Nat.le_of_ble_eq_true rfl) rfl H1.2.1 (Nat.le_of_ble_eq_true rfl) (Nat.le_of_ble_eq_true rfl) (by omega) (by omega) (fun _ _ q => q.elim) ?_
  rintro _ h2 ⟨⟨s6, rfl⟩, H2, F2⟩
  refine z_pop rfl dLaw_law_2034 ?_
  refine z_goto (tgt := 2145) dLaw_law_2035 (by decide) ?_
  exact K _ _ h2 ma _ _ _ (zLi.fin C1 eo1 n1 n2 n3 H2 F2 (fun _ _ => Or.inl rfl) hO oka) rfl (by omega) (by omega)
theorem c_Law_45 {ou : Nat} {i : Int} {y5 y6 : Option Value} (I : zLi G h ad ma ou S) (hi : 0 ≤ i ∧ i + 4 ≤ L) (hb1 : 210 ≤ bc) (hb2 : 12100 ≤ bs) (K : zLK G l b L xs ad ma ou i bc bs) : zR G l (zLJ G b L xs) bc bs h 2038 [some (.ref b), some (.ref (ad 0)), some (.ref (ma 0)), some (.ref ou), some (zi i), y5, y6] [] := by
  obtain ⟨th, n0, sv, hC, hM, hO, oka, eo, n1, n2, n3⟩ := I
  have h16 : ∀ k, k < 4 → (S.1 k).length ≤ 16 := fun k hk => (hC.ls hk).len
  have x1 := zX9_r (xs := xs) (i + 1)
  have x2 := zX9_r (xs := xs) (i + 2)
  have x3 := zX9_r (xs := xs) (i + 3)
  refine z_aload_n dLaw_law_2038 rfl ?_
  refine z_aload_n dLaw_law_2039 rfl ?_
  refine z_iload dLaw_law_2040 rfl ?_
  refine z_iconst dLaw_law_2042 ?_
  refine z_iadd dLaw_law_2043 ?_
  refine z_sld (by omega) dLaw_law_2044 ?_
  refine z_aload_n dLaw_law_2045 rfl ?_
  refine z_iload dLaw_law_2046 rfl ?_
  refine z_iconst dLaw_law_2048 ?_
  refine z_iadd dLaw_law_2049 ?_
  refine z_sld (by omega) dLaw_law_2050 ?_
  refine z_aload_n dLaw_law_2051 rfl ?_
  refine z_callSX (bc' := bc - 6) (bs' := bs - 36) MW_Law_byOrder lk_Law_322 dLaw_law_2052 (k_Law_byOrder hC (zX9_r (xs := xs) (i + 1)) (zX9_r (xs := xs) (i + 2)) eo n1) rfl rfl (Nat.le_of_ble_eq_true rfl) (Nat.le_of_ble_eq_true rfl) (Nat.le_of_ble_eq_true rfl) (by omega) (by omega) (fun _ _ q => q.elim) ?_
  rintro _ h1 ⟨k5, z5, sv5, rfl, C1, f1, eo1, e5⟩
  have H1 : zMod G h1 ma S th := hM.mid n2 n3 f1
  refine z_istore dLaw_law_2055 (Nat.le_of_ble_eq_true rfl) ?_
  refine z_aload_n dLaw_law_2057 rfl ?_
  refine z_aload_n dLaw_law_2058 rfl ?_
  refine z_iload dLaw_law_2059 rfl ?_
  refine z_iconst dLaw_law_2061 ?_
  refine z_iadd dLaw_law_2062 ?_
  refine z_sld (by omega) dLaw_law_2063 ?_
  refine z_aload_n dLaw_law_2064 rfl ?_
  refine z_iload dLaw_law_2065 rfl ?_
  refine z_iconst dLaw_law_2067 ?_
  refine z_iadd dLaw_law_2068 ?_
  refine z_sld (by omega) dLaw_law_2069 ?_
  refine z_callV (bc' := bc - 6 - 0) (bs' := bs - 36 - 0) MV_Mod_byOrder lk_Law_324 dLaw_law_2070 (k_Mod_byOrder H1 (zX9_r (xs := xs) (i + 1)) (zX9_r (xs := xs) (i + 2)) hO.2.2.2.1 (fun j hj => ⟨by have := (oka j hj).1; omega, by have := (oka j hj).2; omega⟩)) rfl rfl (Nat.le_of_ble_eq_true rfl) rfl H1.2.1 (Nat.le_of_ble_eq_true rfl) (Nat.le_of_ble_eq_true rfl) (by omega) (by omega) (fun _ _ q => q.elim) ?_
  rintro _ h2 ⟨ma2, th2, z6, rfl, m0, H2, F2, A2, e6⟩
  rw [spm_state] at H2
  refine z_istore dLaw_law_2073 (Nat.le_of_ble_eq_true rfl) ?_
  refine z_goto (tgt := 2145) dLaw_law_2075 (by decide) ?_
  exact K _ _ h2 ma2 _ _ _ (zLi.fin C1 eo1 n1 n2 n3 H2 F2 A2 (ok_byOrder hO) (oka_byOrder oka)) m0 (by omega) (by omega)
theorem c_Law_46 {ou : Nat} {i : Int} {y5 y6 : Option Value} (I : zLi G h ad ma ou S) (hi : 0 ≤ i ∧ i + 4 ≤ L) (hb1 : 210 ≤ bc) (hb2 : 12100 ≤ bs) (K : zLK G l b L xs ad ma ou i bc bs) : zR G l (zLJ G b L xs) bc bs h 2078 [some (.ref b), some (.ref (ad 0)), some (.ref (ma 0)), some (.ref ou), some (zi i), y5, y6] [] := by
  obtain ⟨th, n0, sv, hC, hM, hO, oka, eo, n1, n2, n3⟩ := I
  have h16 : ∀ k, k < 4 → (S.1 k).length ≤ 16 := fun k hk => (hC.ls hk).len
  have x1 := zX9_r (xs := xs) (i + 1)
  have x2 := zX9_r (xs := xs) (i + 2)
  have x3 := zX9_r (xs := xs) (i + 3)
  refine z_aload_n dLaw_law_2078 rfl ?_
  refine z_aload_n dLaw_law_2079 rfl ?_
  refine z_iload dLaw_law_2080 rfl ?_
  refine z_iconst dLaw_law_2082 ?_
  refine z_iadd dLaw_law_2083 ?_
  refine z_sld (by omega) dLaw_law_2084 ?_
  refine z_aload_n dLaw_law_2085 rfl ?_
  refine z_callSX (bc' := bc - 6) (bs' := bs - 36) MW_Law_house lk_Law_325 dLaw_law_2086 (k_Law_house hC (zX9_r (xs := xs) (i + 1)) eo n1) rfl rfl (Nat.le_of_ble_eq_true rfl) (Nat.le_of_ble_eq_true rfl) (Nat.le_of_ble_eq_true rfl) (by omega) (by omega) (fun _ _ q => q.elim) ?_
  rintro _ h1 ⟨k5, z5, sv5, rfl, C1, f1, eo1, e5⟩
  have H1 : zMod G h1 ma S th := hM.mid n2 n3 f1
  refine z_istore dLaw_law_2089 (Nat.le_of_ble_eq_true rfl) ?_
  refine z_aload_n dLaw_law_2091 rfl ?_
  refine z_aload_n dLaw_law_2092 rfl ?_
  refine z_iload dLaw_law_2093 rfl ?_
  refine z_iconst dLaw_law_2095 ?_
  refine z_iadd dLaw_law_2096 ?_
  refine z_sld (by omega) dLaw_law_2097 ?_
  refine z_callV (bc' := bc - 6 - 1) (bs' := bs - 36 - 5) MV_Mod_house lk_Law_327 dLaw_law_2098 (k_Mod_house H1 (zX9_r (xs := xs) (i + 1))) rfl rfl (Nat.le_of_ble_eq_true rfl) rfl H1.2.1 (Nat.le_of_ble_eq_true rfl) (Nat.le_of_ble_eq_true rfl) (by omega) (by omega) (fun _ _ q => q.elim) ?_
  rintro _ h2 ⟨ma2, th2, z6, rfl, m0, H2, F2, A2, e6⟩
  refine z_istore dLaw_law_2101 (Nat.le_of_ble_eq_true rfl) ?_
  refine z_goto (tgt := 2145) dLaw_law_2103 (by decide) ?_
  exact K _ _ h2 ma2 _ _ _ (zLi.fin C1 eo1 n1 n2 n3 H2 F2 A2 (ok_house hO) (oka_house oka)) m0 (by omega) (by omega)
theorem c_Law_47 {ou : Nat} {i : Int} {y5 y6 : Option Value} (I : zLi G h ad ma ou S) (hi : 0 ≤ i ∧ i + 4 ≤ L) (hb1 : 210 ≤ bc) (hb2 : 12100 ≤ bs) (K : zLK G l b L xs ad ma ou i bc bs) : zR G l (zLJ G b L xs) bc bs h 2106 [some (.ref b), some (.ref (ad 0)), some (.ref (ma 0)), some (.ref ou), some (zi i), y5, y6] [] := by
  obtain ⟨th, n0, sv, hC, hM, hO, oka, eo, n1, n2, n3⟩ := I
  have h16 : ∀ k, k < 4 → (S.1 k).length ≤ 16 := fun k hk => (hC.ls hk).len
  have x1 := zX9_r (xs := xs) (i + 1)
  have x2 := zX9_r (xs := xs) (i + 2)
  have x3 := zX9_r (xs := xs) (i + 3)
  refine z_aload_n dLaw_law_2106 rfl ?_
  refine z_callV (bc' := bc - 6) (bs' := bs - 36) MV_Cls_knock lk_Law_328 dLaw_law_2107 (k_Cls_knock hC) rfl rfl (Nat.le_of_ble_eq_true rfl) rfl hC.2.1 (Nat.le_of_ble_eq_true rfl) (Nat.le_of_ble_eq_true rfl) (by omega) (by omega) (fun E h9 q9 => absurd (Prod.mk.inj (show sp_knock S = _ from q9.choose_spec.1)).1 (by simp)) ?_
  rintro _ h1 ⟨z5, S5, e5, rfl, C1, f1⟩
  have eS : S5 = (sp_knock S).2 := by rw [e5]
  subst eS
  have eo1 := (f1 ou n1).trans eo
  have H1 : zMod G h1 ma S th := hM.mid (ad := ad) n2 n3 (fun q _ hq => f1 q hq)
  refine z_pop rfl dLaw_law_2110 ?_
  refine z_aload_n dLaw_law_2111 rfl ?_
  refine z_callV (bc' := bc - 6 - 0) (bs' := bs - 36 - 0) MV_Mod_knock lk_Law_331 dLaw_law_2112 (k_Mod_knock H1) rfl rfl (Nat.le_of_ble_eq_true rfl) rfl H1.2.1 (Nat.le_of_ble_eq_true rfl) (Nat.le_of_ble_eq_true rfl) (by omega) (by omega) (fun _ _ q => q.elim) ?_
  rintro _ h2 ⟨rfl, H2, F2⟩
  refine z_pop rfl dLaw_law_2115 ?_
  refine z_goto (tgt := 2145) dLaw_law_2116 (by decide) ?_
  exact K _ _ h2 ma _ _ _ (zLi.fin C1 eo1 n1 n2 n3 H2 F2 (fun _ _ => Or.inl rfl) (ok_knock hO) (oka_knock oka)) rfl (by omega) (by omega)
theorem c_Law_48 {ou : Nat} {i : Int} {y5 y6 : Option Value} (I : zLi G h ad ma ou S) (hi : 0 ≤ i ∧ i + 4 ≤ L) (hb1 : 210 ≤ bc) (hb2 : 12100 ≤ bs) (K : zLK G l b L xs ad ma ou i bc bs) : zR G l (zLJ G b L xs) bc bs h 2119 [some (.ref b), some (.ref (ad 0)), some (.ref (ma 0)), some (.ref ou), some (zi i), y5, y6] [] := by
  obtain ⟨th, n0, sv, hC, hM, hO, oka, eo, n1, n2, n3⟩ := I
  have h16 : ∀ k, k < 4 → (S.1 k).length ≤ 16 := fun k hk => (hC.ls hk).len
  have x1 := zX9_r (xs := xs) (i + 1)
  have x2 := zX9_r (xs := xs) (i + 2)
  have x3 := zX9_r (xs := xs) (i + 3)
  refine z_aload_n dLaw_law_2119 rfl ?_
  refine z_callV (bc' := bc - 0) (bs' := bs - 0) MV_Cls_isSound lk_Law_332 dLaw_law_2120 (k_Cls_isSound hC hO) rfl rfl (Nat.le_of_ble_eq_true rfl) rfl hC.2.1 (Nat.le_of_ble_eq_true rfl) (Nat.le_of_ble_eq_true rfl) (by omega) (by omega) (fun _ _ q => q.elim) ?_
  rintro _ h1 ⟨z5, rfl, -, C1, f1⟩
  have eo1 := (f1 ou n1).trans eo
  have H1 : zMod G h1 ma S th := hM.mid (ad := ad) n2 n3 (fun q _ hq => f1 q hq)
  refine z_pop rfl dLaw_law_2123 ?_
  refine z_aload_n dLaw_law_2124 rfl ?_
  refine z_callV (bc' := bc - 0 - 0) (bs' := bs - 0 - 0) MV_Mod_isSound lk_Law_336 dLaw_law_2125 (k_Mod_isSound H1) rfl rfl (Nat.le_of_ble_eq_true rfl) rfl H1.2.1 (Nat.le_of_ble_eq_true rfl) (Nat.le_of_ble_eq_true rfl) (by omega) (by omega) (fun _ _ q => q.elim) ?_
  rintro _ h2 ⟨rfl, H2, F2⟩
  refine z_pop rfl dLaw_law_2128 ?_
  refine z_goto (tgt := 2145) dLaw_law_2129 (by decide) ?_
  exact K _ _ h2 ma _ _ _ (zLi.fin C1 eo1 n1 n2 n3 H2 F2 (fun _ _ => Or.inl rfl) hO oka) rfl (by omega) (by omega)
theorem c_Law_49 {ou : Nat} {i : Int} {y5 y6 : Option Value} (I : zLi G h ad ma ou S) (hi : 0 ≤ i ∧ i + 4 ≤ L) (hb1 : 210 ≤ bc) (hb2 : 12100 ≤ bs) (K : zLK G l b L xs ad ma ou i bc bs) : zR G l (zLJ G b L xs) bc bs h 2132 [some (.ref b), some (.ref (ad 0)), some (.ref (ma 0)), some (.ref ou), some (zi i), y5, y6] [] := by
  obtain ⟨th, n0, sv, hC, hM, hO, oka, eo, n1, n2, n3⟩ := I
  have h16 : ∀ k, k < 4 → (S.1 k).length ≤ 16 := fun k hk => (hC.ls hk).len
  have x1 := zX9_r (xs := xs) (i + 1)
  have x2 := zX9_r (xs := xs) (i + 2)
  have x3 := zX9_r (xs := xs) (i + 3)
  refine z_aload_n dLaw_law_2132 rfl ?_
  refine z_callV (bc' := bc - 0) (bs' := bs - 0) MV_Cls_digest lk_Law_337 dLaw_law_2133 (k_Cls_digest hC hO) rfl rfl (Nat.le_of_ble_eq_true rfl) rfl hC.2.1 (Nat.le_of_ble_eq_true rfl) (Nat.le_of_ble_eq_true rfl) (by omega) (by omega) (fun _ _ q => q.elim) ?_
  rintro _ h1 ⟨z5, -, rfl, C1, f1⟩
  have eo1 := (f1 ou n1).trans eo
  have H1 : zMod G h1 ma S th := hM.mid (ad := ad) n2 n3 (fun q _ hq => f1 q hq)
  refine z_pop2_2 rfl dLaw_law_2136 ?_
  refine z_aload_n dLaw_law_2137 rfl ?_
  refine z_callV (bc' := bc - 0 - 23) (bs' := bs - 0 - 133) MV_Mod_digest lk_Law_341 dLaw_law_2138 (k_Mod_digest H1 hO oka h16) rfl rfl (Nat.le_of_ble_eq_true rfl) rfl H1.2.1 (Nat.le_of_ble_eq_true rfl) (Nat.le_of_ble_eq_true rfl) (by omega) (by omega) (fun _ _ q => q.elim) ?_
  rintro _ h2 ⟨d6, rfl, H2, F2⟩
  refine z_pop2_2 rfl dLaw_law_2141 ?_
  refine z_goto (tgt := 2145) dLaw_law_2142 (by decide) ?_
  exact K _ _ h2 ma _ _ _ (zLi.fin C1 eo1 n1 n2 n3 H2 F2 (fun _ _ => Or.inl rfl) hO oka) rfl (by omega) (by omega)
end LAW3
