section LAW3
variable {G : zG} {l : Launch} {h h' h0 h1 h2 : zHp} {ad ma ma2 : Nat → Nat} {S S' : zSt} {th : Int} {b L : Nat} {xs : Nat → Int32} {bc bs pc : Nat} {ls : List (Option Value)} {st : List Value}
theorem text_st {p n : Int} : (sp_text S p n).2 = S := by unfold sp_text; split <;> rfl
/-- what a case comes to: the state of both again -/
def zLK (G : zG) (l : Launch) (b L : Nat) (xs : Nat → Int32) (ad ma : Nat → Nat) (ou : Nat) (i : Int) (bc bs : Nat) : Prop := ∀ (bc' bs' : Nat) (h2 : zHp) (ma2 : Nat → Nat) (S2 : zSt) (y5 y6 : Option Value), zLi G h2 ad ma2 ou S2 → ma2 0 = ma 0 → bc ≤ bc' + 210 → bs ≤ bs' + 12100 → zR G l (zLJ G b L xs) bc' bs' h2 2138 [some (.ref b), some (.ref (ad 0)), some (.ref (ma 0)), some (.ref ou), some (zi i), y5, y6] []
theorem zSg_self (a : Int) : zSg a a = 0 := by unfold zSg; simp
theorem c_Law_0 {ou : Nat} {i : Int} {y5 y6 : Option Value} (I : zLi G h ad ma ou S) (hi : 0 ≤ i ∧ i + 4 ≤ L) (hb1 : 210 ≤ bc) (hb2 : 12100 ≤ bs) (K : zLK G l b L xs ad ma ou i bc bs) : zR G l (zLJ G b L xs) bc bs h 256 [some (.ref b), some (.ref (ad 0)), some (.ref (ma 0)), some (.ref ou), some (zi i), y5, y6] [] := by
  obtain ⟨th, n0, sv, hC, hM, hO, oka, eo, n1, n2, n3⟩ := I
  have h16 : ∀ k, k < 4 → (S.1 k).length ≤ 16 := fun k hk => (hC.ls hk).len
  have x1 := zX9_r (xs := xs) (i + 1)
  have x2 := zX9_r (xs := xs) (i + 2)
  have x3 := zX9_r (xs := xs) (i + 3)
  refine z_aload_n dLaw_law_256 rfl ?_
  refine z_aload_n dLaw_law_257 rfl ?_
  refine z_iload dLaw_law_258 rfl ?_
  refine z_iconst dLaw_law_260 ?_
  refine z_iadd dLaw_law_261 ?_
  refine z_sld (by omega) dLaw_law_262 ?_
  refine z_aload_n dLaw_law_263 rfl ?_
  refine z_iload dLaw_law_264 rfl ?_
  refine z_iconst dLaw_law_266 ?_
  refine z_iadd dLaw_law_267 ?_
  refine z_sld (by omega) dLaw_law_268 ?_
  refine z_aload_n dLaw_law_269 rfl ?_
  refine z_iload dLaw_law_270 rfl ?_
  refine z_iconst dLaw_law_272 ?_
  refine z_iadd dLaw_law_273 ?_
  refine z_sld (by omega) dLaw_law_274 ?_
  refine z_aload_n dLaw_law_275 rfl ?_
  refine z_callSX (bc' := bc - 6) (bs' := bs - 36) MW_Law_put lk_Law_173 dLaw_law_276 (k_Law_put hC (zX9_r (xs := xs) (i + 1)) (zX9_r (xs := xs) (i + 2)) (zX9_r (xs := xs) (i + 3)) eo n1) rfl rfl (Nat.le_of_ble_eq_true rfl) (Nat.le_of_ble_eq_true rfl) (Nat.le_of_ble_eq_true rfl) (by omega) (by omega) (fun _ _ q => q.elim) ?_
  rintro _ h1 ⟨k5, z5, sv5, rfl, C1, f1, eo1, e5⟩
  have H1 : zMod G h1 ma S th := hM.mid n2 n3 f1
  refine z_istore dLaw_law_279 (Nat.le_of_ble_eq_true rfl) ?_
  refine z_aload_n dLaw_law_281 rfl ?_
  refine z_aload_n dLaw_law_282 rfl ?_
  refine z_iload dLaw_law_283 rfl ?_
  refine z_iconst dLaw_law_285 ?_
  refine z_iadd dLaw_law_286 ?_
  refine z_sld (by omega) dLaw_law_287 ?_
  refine z_aload_n dLaw_law_288 rfl ?_
  refine z_iload dLaw_law_289 rfl ?_
  refine z_iconst dLaw_law_291 ?_
  refine z_iadd dLaw_law_292 ?_
  refine z_sld (by omega) dLaw_law_293 ?_
  refine z_aload_n dLaw_law_294 rfl ?_
  refine z_iload dLaw_law_295 rfl ?_
  refine z_iconst dLaw_law_297 ?_
  refine z_iadd dLaw_law_298 ?_
  refine z_sld (by omega) dLaw_law_299 ?_
  refine z_callV (bc' := bc - 6 - 1) (bs' := bs - 36 - 61) MV_Mod_put lk_Law_178 dLaw_law_300 (k_Mod_put H1 (zX9_r (xs := xs) (i + 1)) (zX9_r (xs := xs) (i + 2)) (zX9_r (xs := xs) (i + 3)) h16) rfl rfl (Nat.le_of_ble_eq_true rfl) rfl H1.2.1 (Nat.le_of_ble_eq_true rfl) (Nat.le_of_ble_eq_true rfl) (by omega) (by omega) (fun _ _ q => q.elim) ?_
  rintro _ h2 ⟨ma2, th2, z6, rfl, m0, H2, F2, A2, e6⟩
  refine z_istore dLaw_law_303 (Nat.le_of_ble_eq_true rfl) ?_
  refine z_goto (tgt := 2138) dLaw_law_305 (by decide) ?_
  exact K _ _ h2 ma2 _ _ _ (zLi.fin C1 eo1 n1 n2 n3 H2 F2 A2 (ok_put hO) (oka_put oka)) m0 (by omega) (by omega)
theorem c_Law_1 {ou : Nat} {i : Int} {y5 y6 : Option Value} (I : zLi G h ad ma ou S) (hi : 0 ≤ i ∧ i + 4 ≤ L) (hb1 : 210 ≤ bc) (hb2 : 12100 ≤ bs) (K : zLK G l b L xs ad ma ou i bc bs) : zR G l (zLJ G b L xs) bc bs h 308 [some (.ref b), some (.ref (ad 0)), some (.ref (ma 0)), some (.ref ou), some (zi i), y5, y6] [] := by
  obtain ⟨th, n0, sv, hC, hM, hO, oka, eo, n1, n2, n3⟩ := I
  have h16 : ∀ k, k < 4 → (S.1 k).length ≤ 16 := fun k hk => (hC.ls hk).len
  have x1 := zX9_r (xs := xs) (i + 1)
  have x2 := zX9_r (xs := xs) (i + 2)
  have x3 := zX9_r (xs := xs) (i + 3)
  refine z_aload_n dLaw_law_308 rfl ?_
  refine z_aload_n dLaw_law_309 rfl ?_
  refine z_iload dLaw_law_310 rfl ?_
  refine z_iconst dLaw_law_312 ?_
  refine z_iadd dLaw_law_313 ?_
  refine z_sld (by omega) dLaw_law_314 ?_
  refine z_aload_n dLaw_law_315 rfl ?_
  refine z_iload dLaw_law_316 rfl ?_
  refine z_iconst dLaw_law_318 ?_
  refine z_iadd dLaw_law_319 ?_
  refine z_sld (by omega) dLaw_law_320 ?_
  refine z_aload_n dLaw_law_321 rfl ?_
  refine z_callSX (bc' := bc - 6) (bs' := bs - 36) MW_Law_take lk_Law_179 dLaw_law_322 (k_Law_take hC (zX9_r (xs := xs) (i + 1)) (zX9_r (xs := xs) (i + 2)) eo n1) rfl rfl (Nat.le_of_ble_eq_true rfl) (Nat.le_of_ble_eq_true rfl) (Nat.le_of_ble_eq_true rfl) (by omega) (by omega) (fun _ _ q => q.elim) ?_
  rintro _ h1 ⟨k5, z5, sv5, rfl, C1, f1, eo1, e5⟩
  have H1 : zMod G h1 ma S th := hM.mid n2 n3 f1
  refine z_istore dLaw_law_325 (Nat.le_of_ble_eq_true rfl) ?_
  refine z_aload_n dLaw_law_327 rfl ?_
  refine z_aload_n dLaw_law_328 rfl ?_
  refine z_iload dLaw_law_329 rfl ?_
  refine z_iconst dLaw_law_331 ?_
  refine z_iadd dLaw_law_332 ?_
  refine z_sld (by omega) dLaw_law_333 ?_
  refine z_aload_n dLaw_law_334 rfl ?_
  refine z_iload dLaw_law_335 rfl ?_
  refine z_iconst dLaw_law_337 ?_
  refine z_iadd dLaw_law_338 ?_
  refine z_sld (by omega) dLaw_law_339 ?_
  refine z_callV (bc' := bc - 6 - 1) (bs' := bs - 36 - 60) MV_Mod_take lk_Law_182 dLaw_law_340 (k_Mod_take H1 (zX9_r (xs := xs) (i + 1)) (zX9_r (xs := xs) (i + 2)) h16) rfl rfl (Nat.le_of_ble_eq_true rfl) rfl H1.2.1 (Nat.le_of_ble_eq_true rfl) (Nat.le_of_ble_eq_true rfl) (by omega) (by omega) (fun _ _ q => q.elim) ?_
  rintro _ h2 ⟨ma2, th2, z6, rfl, m0, H2, F2, A2, e6⟩
  refine z_istore dLaw_law_343 (Nat.le_of_ble_eq_true rfl) ?_
  refine z_goto (tgt := 2138) dLaw_law_345 (by decide) ?_
  exact K _ _ h2 ma2 _ _ _ (zLi.fin C1 eo1 n1 n2 n3 H2 F2 A2 (ok_take hO) (oka_take oka)) m0 (by omega) (by omega)
theorem c_Law_2 {ou : Nat} {i : Int} {y5 y6 : Option Value} (I : zLi G h ad ma ou S) (hi : 0 ≤ i ∧ i + 4 ≤ L) (hb1 : 210 ≤ bc) (hb2 : 12100 ≤ bs) (K : zLK G l b L xs ad ma ou i bc bs) : zR G l (zLJ G b L xs) bc bs h 348 [some (.ref b), some (.ref (ad 0)), some (.ref (ma 0)), some (.ref ou), some (zi i), y5, y6] [] := by
  obtain ⟨th, n0, sv, hC, hM, hO, oka, eo, n1, n2, n3⟩ := I
  have h16 : ∀ k, k < 4 → (S.1 k).length ≤ 16 := fun k hk => (hC.ls hk).len
  have x1 := zX9_r (xs := xs) (i + 1)
  have x2 := zX9_r (xs := xs) (i + 2)
  have x3 := zX9_r (xs := xs) (i + 3)
  refine z_aload_n dLaw_law_348 rfl ?_
  refine z_aload_n dLaw_law_349 rfl ?_
  refine z_iload dLaw_law_350 rfl ?_
  refine z_iconst dLaw_law_352 ?_
  refine z_iadd dLaw_law_353 ?_
  refine z_sld (by omega) dLaw_law_354 ?_
  refine z_aload_n dLaw_law_355 rfl ?_
  refine z_iload dLaw_law_356 rfl ?_
  refine z_iconst dLaw_law_358 ?_
  refine z_iadd dLaw_law_359 ?_
  refine z_sld (by omega) dLaw_law_360 ?_
  refine z_aload_n dLaw_law_361 rfl ?_
  refine z_callSX (bc' := bc - 6) (bs' := bs - 36) MW_Law_look lk_Law_183 dLaw_law_362 (k_Law_look hC (zX9_r (xs := xs) (i + 1)) (zX9_r (xs := xs) (i + 2)) eo n1) rfl rfl (Nat.le_of_ble_eq_true rfl) (Nat.le_of_ble_eq_true rfl) (Nat.le_of_ble_eq_true rfl) (by omega) (by omega) (fun _ _ q => q.elim) ?_
  rintro _ h1 ⟨k5, z5, sv5, rfl, C1, f1, eo1, e5⟩
  have H1 : zMod G h1 ma S th := hM.mid n2 n3 f1
  refine z_istore dLaw_law_365 (Nat.le_of_ble_eq_true rfl) ?_
  refine z_aload_n dLaw_law_367 rfl ?_
  refine z_aload_n dLaw_law_368 rfl ?_
  refine z_iload dLaw_law_369 rfl ?_
  refine z_iconst dLaw_law_371 ?_
  refine z_iadd dLaw_law_372 ?_
  refine z_sld (by omega) dLaw_law_373 ?_
  refine z_aload_n dLaw_law_374 rfl ?_
  refine z_iload dLaw_law_375 rfl ?_
  refine z_iconst dLaw_law_377 ?_
  refine z_iadd dLaw_law_378 ?_
  refine z_sld (by omega) dLaw_law_379 ?_
  refine z_callV (bc' := bc - 6 - 0) (bs' := bs - 36 - 0) MV_Mod_look lk_Law_185 dLaw_law_380 (k_Mod_look H1 (zX9_r (xs := xs) (i + 1)) (zX9_r (xs := xs) (i + 2))) rfl rfl (Nat.le_of_ble_eq_true rfl) rfl H1.2.1 (Nat.le_of_ble_eq_true rfl) (Nat.le_of_ble_eq_true rfl) (by omega) (by omega) (fun _ _ q => q.elim) ?_
  rintro _ h2 ⟨ma2, th2, z6, rfl, m0, H2, F2, A2, e6⟩
  refine z_istore dLaw_law_383 (Nat.le_of_ble_eq_true rfl) ?_
  refine z_goto (tgt := 2138) dLaw_law_385 (by decide) ?_
  exact K _ _ h2 ma2 _ _ _ (zLi.fin C1 eo1 n1 n2 n3 H2 F2 A2 (ok_look hO) (oka_look oka)) m0 (by omega) (by omega)
theorem c_Law_3 {ou : Nat} {i : Int} {y5 y6 : Option Value} (I : zLi G h ad ma ou S) (hi : 0 ≤ i ∧ i + 4 ≤ L) (hb1 : 210 ≤ bc) (hb2 : 12100 ≤ bs) (K : zLK G l b L xs ad ma ou i bc bs) : zR G l (zLJ G b L xs) bc bs h 388 [some (.ref b), some (.ref (ad 0)), some (.ref (ma 0)), some (.ref ou), some (zi i), y5, y6] [] := by
  obtain ⟨th, n0, sv, hC, hM, hO, oka, eo, n1, n2, n3⟩ := I
  have h16 : ∀ k, k < 4 → (S.1 k).length ≤ 16 := fun k hk => (hC.ls hk).len
  have x1 := zX9_r (xs := xs) (i + 1)
  have x2 := zX9_r (xs := xs) (i + 2)
  have x3 := zX9_r (xs := xs) (i + 3)
  refine z_aload_n dLaw_law_388 rfl ?_
  refine z_aload_n dLaw_law_389 rfl ?_
  refine z_iload dLaw_law_390 rfl ?_
  refine z_iconst dLaw_law_392 ?_
  refine z_iadd dLaw_law_393 ?_
  refine z_sld (by omega) dLaw_law_394 ?_
  refine z_aload_n dLaw_law_395 rfl ?_
  refine z_iload dLaw_law_396 rfl ?_
  refine z_iconst dLaw_law_398 ?_
  refine z_iadd dLaw_law_399 ?_
  refine z_sld (by omega) dLaw_law_400 ?_
  refine z_aload_n dLaw_law_401 rfl ?_
  refine z_callSX (bc' := bc - 6) (bs' := bs - 36) MW_Law_get lk_Law_186 dLaw_law_402 (k_Law_get hC (zX9_r (xs := xs) (i + 1)) (zX9_r (xs := xs) (i + 2)) eo n1) rfl rfl (Nat.le_of_ble_eq_true rfl) (Nat.le_of_ble_eq_true rfl) (Nat.le_of_ble_eq_true rfl) (by omega) (by omega) (fun _ _ q => q.elim) ?_
  rintro _ h1 ⟨k5, z5, sv5, rfl, C1, f1, eo1, e5⟩
  have H1 : zMod G h1 ma S th := hM.mid n2 n3 f1
  refine z_istore dLaw_law_405 (Nat.le_of_ble_eq_true rfl) ?_
  refine z_aload_n dLaw_law_407 rfl ?_
  refine z_aload_n dLaw_law_408 rfl ?_
  refine z_iload dLaw_law_409 rfl ?_
  refine z_iconst dLaw_law_411 ?_
  refine z_iadd dLaw_law_412 ?_
  refine z_sld (by omega) dLaw_law_413 ?_
  refine z_aload_n dLaw_law_414 rfl ?_
  refine z_iload dLaw_law_415 rfl ?_
  refine z_iconst dLaw_law_417 ?_
  refine z_iadd dLaw_law_418 ?_
  refine z_sld (by omega) dLaw_law_419 ?_
  refine z_callV (bc' := bc - 6 - 0) (bs' := bs - 36 - 0) MV_Mod_get lk_Law_188 dLaw_law_420 (k_Mod_get H1 (zX9_r (xs := xs) (i + 1)) (zX9_r (xs := xs) (i + 2))) rfl rfl (Nat.le_of_ble_eq_true rfl) rfl H1.2.1 (Nat.le_of_ble_eq_true rfl) (Nat.le_of_ble_eq_true rfl) (by omega) (by omega) (fun _ _ q => q.elim) ?_
  rintro _ h2 ⟨ma2, th2, z6, rfl, m0, H2, F2, A2, e6⟩
  refine z_istore dLaw_law_423 (Nat.le_of_ble_eq_true rfl) ?_
  refine z_goto (tgt := 2138) dLaw_law_425 (by decide) ?_
  exact K _ _ h2 ma2 _ _ _ (zLi.fin C1 eo1 n1 n2 n3 H2 F2 A2 (ok_get hO) (oka_get oka)) m0 (by omega) (by omega)
theorem c_Law_4 {ou : Nat} {i : Int} {y5 y6 : Option Value} (I : zLi G h ad ma ou S) (hi : 0 ≤ i ∧ i + 4 ≤ L) (hb1 : 210 ≤ bc) (hb2 : 12100 ≤ bs) (K : zLK G l b L xs ad ma ou i bc bs) : zR G l (zLJ G b L xs) bc bs h 428 [some (.ref b), some (.ref (ad 0)), some (.ref (ma 0)), some (.ref ou), some (zi i), y5, y6] [] := by
  obtain ⟨th, n0, sv, hC, hM, hO, oka, eo, n1, n2, n3⟩ := I
  have h16 : ∀ k, k < 4 → (S.1 k).length ≤ 16 := fun k hk => (hC.ls hk).len
  have x1 := zX9_r (xs := xs) (i + 1)
  have x2 := zX9_r (xs := xs) (i + 2)
  have x3 := zX9_r (xs := xs) (i + 3)
  refine z_aload_n dLaw_law_428 rfl ?_
  refine z_aload_n dLaw_law_429 rfl ?_
  refine z_iload dLaw_law_430 rfl ?_
  refine z_iconst dLaw_law_432 ?_
  refine z_iadd dLaw_law_433 ?_
  refine z_sld (by omega) dLaw_law_434 ?_
  refine z_aload_n dLaw_law_435 rfl ?_
  refine z_iload dLaw_law_436 rfl ?_
  refine z_iconst dLaw_law_438 ?_
  refine z_iadd dLaw_law_439 ?_
  refine z_sld (by omega) dLaw_law_440 ?_
  refine z_aload_n dLaw_law_441 rfl ?_
  refine z_iload dLaw_law_442 rfl ?_
  refine z_iconst dLaw_law_444 ?_
  refine z_iadd dLaw_law_445 ?_
  refine z_sld (by omega) dLaw_law_446 ?_
  refine z_aload_n dLaw_law_447 rfl ?_
  refine z_callSX (bc' := bc - 6) (bs' := bs - 36) MW_Law_set lk_Law_189 dLaw_law_448 (k_Law_set hC (zX9_r (xs := xs) (i + 1)) (zX9_r (xs := xs) (i + 2)) (zX9_r (xs := xs) (i + 3)) eo n1) rfl rfl (Nat.le_of_ble_eq_true rfl) (Nat.le_of_ble_eq_true rfl) (Nat.le_of_ble_eq_true rfl) (by omega) (by omega) (fun _ _ q => q.elim) ?_
  rintro _ h1 ⟨k5, z5, sv5, rfl, C1, f1, eo1, e5⟩
  have H1 : zMod G h1 ma S th := hM.mid n2 n3 f1
  refine z_istore dLaw_law_451 (Nat.le_of_ble_eq_true rfl) ?_
  refine z_aload_n dLaw_law_453 rfl ?_
  refine z_aload_n dLaw_law_454 rfl ?_
  refine z_iload dLaw_law_455 rfl ?_
  refine z_iconst dLaw_law_457 ?_
  refine z_iadd dLaw_law_458 ?_
  refine z_sld (by omega) dLaw_law_459 ?_
  refine z_aload_n dLaw_law_460 rfl ?_
  refine z_iload dLaw_law_461 rfl ?_
  refine z_iconst dLaw_law_463 ?_
  refine z_iadd dLaw_law_464 ?_
  refine z_sld (by omega) dLaw_law_465 ?_
  refine z_aload_n dLaw_law_466 rfl ?_
  refine z_iload dLaw_law_467 rfl ?_
  refine z_iconst dLaw_law_469 ?_
  refine z_iadd dLaw_law_470 ?_
  refine z_sld (by omega) dLaw_law_471 ?_
  refine z_callV (bc' := bc - 6 - 0) (bs' := bs - 36 - 0) MV_Mod_set lk_Law_191 dLaw_law_472 (k_Mod_set H1 (zX9_r (xs := xs) (i + 1)) (zX9_r (xs := xs) (i + 2)) (zX9_r (xs := xs) (i + 3))) rfl rfl (Nat.le_of_ble_eq_true rfl) rfl H1.2.1 (Nat.le_of_ble_eq_true rfl) (Nat.le_of_ble_eq_true rfl) (by omega) (by omega) (fun _ _ q => q.elim) ?_
  rintro _ h2 ⟨ma2, th2, z6, rfl, m0, H2, F2, A2, e6⟩
  refine z_istore dLaw_law_475 (Nat.le_of_ble_eq_true rfl) ?_
  refine z_goto (tgt := 2138) dLaw_law_477 (by decide) ?_
  exact K _ _ h2 ma2 _ _ _ (zLi.fin C1 eo1 n1 n2 n3 H2 F2 A2 (ok_set hO) (oka_set oka)) m0 (by omega) (by omega)
theorem c_Law_5 {ou : Nat} {i : Int} {y5 y6 : Option Value} (I : zLi G h ad ma ou S) (hi : 0 ≤ i ∧ i + 4 ≤ L) (hb1 : 210 ≤ bc) (hb2 : 12100 ≤ bs) (K : zLK G l b L xs ad ma ou i bc bs) : zR G l (zLJ G b L xs) bc bs h 480 [some (.ref b), some (.ref (ad 0)), some (.ref (ma 0)), some (.ref ou), some (zi i), y5, y6] [] := by
  obtain ⟨th, n0, sv, hC, hM, hO, oka, eo, n1, n2, n3⟩ := I
  have h16 : ∀ k, k < 4 → (S.1 k).length ≤ 16 := fun k hk => (hC.ls hk).len
  have x1 := zX9_r (xs := xs) (i + 1)
  have x2 := zX9_r (xs := xs) (i + 2)
  have x3 := zX9_r (xs := xs) (i + 3)
  refine z_aload_n dLaw_law_480 rfl ?_
  refine z_aload_n dLaw_law_481 rfl ?_
  refine z_iload dLaw_law_482 rfl ?_
  refine z_iconst dLaw_law_484 ?_
  refine z_iadd dLaw_law_485 ?_
  refine z_sld (by omega) dLaw_law_486 ?_
  refine z_aload_n dLaw_law_487 rfl ?_
  refine z_iload dLaw_law_488 rfl ?_
  refine z_iconst dLaw_law_490 ?_
  refine z_iadd dLaw_law_491 ?_
  refine z_sld (by omega) dLaw_law_492 ?_
  refine z_aload_n dLaw_law_493 rfl ?_
  refine z_iload dLaw_law_494 rfl ?_
  refine z_iconst dLaw_law_496 ?_
  refine z_iadd dLaw_law_497 ?_
  refine z_sld (by omega) dLaw_law_498 ?_
  refine z_aload_n dLaw_law_499 rfl ?_
  refine z_callSX (bc' := bc - 6) (bs' := bs - 36) MW_Law_insert lk_Law_192 dLaw_law_500 (k_Law_insert hC (zX9_r (xs := xs) (i + 1)) (zX9_r (xs := xs) (i + 2)) (zX9_r (xs := xs) (i + 3)) eo n1) rfl rfl (Nat.le_of_ble_eq_true rfl) (Nat.le_of_ble_eq_true rfl) (Nat.le_of_ble_eq_true rfl) (by omega) (by omega) (fun _ _ q => q.elim) ?_
  rintro _ h1 ⟨k5, z5, sv5, rfl, C1, f1, eo1, e5⟩
  have H1 : zMod G h1 ma S th := hM.mid n2 n3 f1
  refine z_istore dLaw_law_503 (Nat.le_of_ble_eq_true rfl) ?_
  refine z_aload_n dLaw_law_505 rfl ?_
  refine z_aload_n dLaw_law_506 rfl ?_
  refine z_iload dLaw_law_507 rfl ?_
  refine z_iconst dLaw_law_509 ?_
  refine z_iadd dLaw_law_510 ?_
  refine z_sld (by omega) dLaw_law_511 ?_
  refine z_aload_n dLaw_law_512 rfl ?_
  refine z_iload dLaw_law_513 rfl ?_
  refine z_iconst dLaw_law_515 ?_
  refine z_iadd dLaw_law_516 ?_
  refine z_sld (by omega) dLaw_law_517 ?_
  refine z_aload_n dLaw_law_518 rfl ?_
  refine z_iload dLaw_law_519 rfl ?_
  refine z_iconst dLaw_law_521 ?_
  refine z_iadd dLaw_law_522 ?_
  refine z_sld (by omega) dLaw_law_523 ?_
  refine z_callV (bc' := bc - 6 - 1) (bs' := bs - 36 - 61) MV_Mod_insert lk_Law_194 dLaw_law_524 (k_Mod_insert H1 (zX9_r (xs := xs) (i + 1)) (zX9_r (xs := xs) (i + 2)) (zX9_r (xs := xs) (i + 3)) h16) rfl rfl (Nat.le_of_ble_eq_true rfl) rfl H1.2.1 (Nat.le_of_ble_eq_true rfl) (Nat.le_of_ble_eq_true rfl) (by omega) (by omega) (fun _ _ q => q.elim) ?_
  rintro _ h2 ⟨ma2, th2, z6, rfl, m0, H2, F2, A2, e6⟩
  refine z_istore dLaw_law_527 (Nat.le_of_ble_eq_true rfl) ?_
  refine z_goto (tgt := 2138) dLaw_law_529 (by decide) ?_
  exact K _ _ h2 ma2 _ _ _ (zLi.fin C1 eo1 n1 n2 n3 H2 F2 A2 (ok_insert hO) (oka_insert oka)) m0 (by omega) (by omega)
theorem c_Law_6 {ou : Nat} {i : Int} {y5 y6 : Option Value} (I : zLi G h ad ma ou S) (hi : 0 ≤ i ∧ i + 4 ≤ L) (hb1 : 210 ≤ bc) (hb2 : 12100 ≤ bs) (K : zLK G l b L xs ad ma ou i bc bs) : zR G l (zLJ G b L xs) bc bs h 532 [some (.ref b), some (.ref (ad 0)), some (.ref (ma 0)), some (.ref ou), some (zi i), y5, y6] [] := by
  obtain ⟨th, n0, sv, hC, hM, hO, oka, eo, n1, n2, n3⟩ := I
  have h16 : ∀ k, k < 4 → (S.1 k).length ≤ 16 := fun k hk => (hC.ls hk).len
  have x1 := zX9_r (xs := xs) (i + 1)
  have x2 := zX9_r (xs := xs) (i + 2)
  have x3 := zX9_r (xs := xs) (i + 3)
  refine z_aload_n dLaw_law_532 rfl ?_
  refine z_aload_n dLaw_law_533 rfl ?_
  refine z_iload dLaw_law_534 rfl ?_
  refine z_iconst dLaw_law_536 ?_
  refine z_iadd dLaw_law_537 ?_
  refine z_sld (by omega) dLaw_law_538 ?_
  refine z_aload_n dLaw_law_539 rfl ?_
  refine z_iload dLaw_law_540 rfl ?_
  refine z_iconst dLaw_law_542 ?_
  refine z_iadd dLaw_law_543 ?_
  refine z_sld (by omega) dLaw_law_544 ?_
  refine z_aload_n dLaw_law_545 rfl ?_
  refine z_callSX (bc' := bc - 6) (bs' := bs - 36) MW_Law_removeAt lk_Law_195 dLaw_law_546 (k_Law_removeAt hC (zX9_r (xs := xs) (i + 1)) (zX9_r (xs := xs) (i + 2)) eo n1) rfl rfl (Nat.le_of_ble_eq_true rfl) (Nat.le_of_ble_eq_true rfl) (Nat.le_of_ble_eq_true rfl) (by omega) (by omega) (fun _ _ q => q.elim) ?_
  rintro _ h1 ⟨k5, z5, sv5, rfl, C1, f1, eo1, e5⟩
  have H1 : zMod G h1 ma S th := hM.mid n2 n3 f1
  refine z_istore dLaw_law_549 (Nat.le_of_ble_eq_true rfl) ?_
  refine z_aload_n dLaw_law_551 rfl ?_
  refine z_aload_n dLaw_law_552 rfl ?_
  refine z_iload dLaw_law_553 rfl ?_
  refine z_iconst dLaw_law_555 ?_
  refine z_iadd dLaw_law_556 ?_
  refine z_sld (by omega) dLaw_law_557 ?_
  refine z_aload_n dLaw_law_558 rfl ?_
  refine z_iload dLaw_law_559 rfl ?_
  refine z_iconst dLaw_law_561 ?_
  refine z_iadd dLaw_law_562 ?_
  refine z_sld (by omega) dLaw_law_563 ?_
  refine z_callV (bc' := bc - 6 - 1) (bs' := bs - 36 - 60) MV_Mod_removeAt lk_Law_197 dLaw_law_564 (k_Mod_removeAt H1 (zX9_r (xs := xs) (i + 1)) (zX9_r (xs := xs) (i + 2)) h16) rfl rfl (Nat.le_of_ble_eq_true rfl) rfl H1.2.1 (Nat.le_of_ble_eq_true rfl) (Nat.le_of_ble_eq_true rfl) (by omega) (by omega) (fun _ _ q => q.elim) ?_
  rintro _ h2 ⟨ma2, th2, z6, rfl, m0, H2, F2, A2, e6⟩
  refine z_istore dLaw_law_567 (Nat.le_of_ble_eq_true rfl) ?_
  refine z_goto (tgt := 2138) dLaw_law_569 (by decide) ?_
  exact K _ _ h2 ma2 _ _ _ (zLi.fin C1 eo1 n1 n2 n3 H2 F2 A2 (ok_removeAt hO) (oka_removeAt oka)) m0 (by omega) (by omega)
theorem c_Law_7 {ou : Nat} {i : Int} {y5 y6 : Option Value} (I : zLi G h ad ma ou S) (hi : 0 ≤ i ∧ i + 4 ≤ L) (hb1 : 210 ≤ bc) (hb2 : 12100 ≤ bs) (K : zLK G l b L xs ad ma ou i bc bs) : zR G l (zLJ G b L xs) bc bs h 572 [some (.ref b), some (.ref (ad 0)), some (.ref (ma 0)), some (.ref ou), some (zi i), y5, y6] [] := by
  obtain ⟨th, n0, sv, hC, hM, hO, oka, eo, n1, n2, n3⟩ := I
  have h16 : ∀ k, k < 4 → (S.1 k).length ≤ 16 := fun k hk => (hC.ls hk).len
  have x1 := zX9_r (xs := xs) (i + 1)
  have x2 := zX9_r (xs := xs) (i + 2)
  have x3 := zX9_r (xs := xs) (i + 3)
  refine z_aload_n dLaw_law_572 rfl ?_
  refine z_aload_n dLaw_law_573 rfl ?_
  refine z_iload dLaw_law_574 rfl ?_
  refine z_iconst dLaw_law_576 ?_
  refine z_iadd dLaw_law_577 ?_
  refine z_sld (by omega) dLaw_law_578 ?_
  refine z_aload_n dLaw_law_579 rfl ?_
  refine z_iload dLaw_law_580 rfl ?_
  refine z_iconst dLaw_law_582 ?_
  refine z_iadd dLaw_law_583 ?_
  refine z_sld (by omega) dLaw_law_584 ?_
  refine z_aload_n dLaw_law_585 rfl ?_
  refine z_iload dLaw_law_586 rfl ?_
  refine z_iconst dLaw_law_588 ?_
  refine z_iadd dLaw_law_589 ?_
  refine z_sld (by omega) dLaw_law_590 ?_
  refine z_if_eq (tgt := 598) dLaw_law_591 (by decide) (by omega) (fun c1a => ?_) (fun c1b => ?_)
  · refine z_iconst dLaw_law_598 ?_
    refine z_aload_n dLaw_law_599 rfl ?_
    refine z_callSX (bc' := bc - 6) (bs' := bs - 36) MW_Law_drop lk_Law_198 dLaw_law_600 (k_Law_drop (Or.inl rfl) hC (zX9_r (xs := xs) (i + 1)) (zX9_r (xs := xs) (i + 2)) (by decide) eo n1) rfl rfl (Nat.le_of_ble_eq_true rfl) (Nat.le_of_ble_eq_true rfl) (Nat.le_of_ble_eq_true rfl) (by omega) (by omega) (fun _ _ q => q.elim) ?_
    rintro _ h1 ⟨k5, z5, sv5, rfl, C1, f1, eo1, e5⟩
    have H1 : zMod G h1 ma S th := hM.mid n2 n3 f1
    refine z_istore dLaw_law_603 (Nat.le_of_ble_eq_true rfl) ?_
    refine z_aload_n dLaw_law_605 rfl ?_
    refine z_aload_n dLaw_law_606 rfl ?_
    refine z_iload dLaw_law_607 rfl ?_
    refine z_iconst dLaw_law_609 ?_
    refine z_iadd dLaw_law_610 ?_
    refine z_sld (by omega) dLaw_law_611 ?_
    refine z_aload_n dLaw_law_612 rfl ?_
    refine z_iload dLaw_law_613 rfl ?_
    refine z_iconst dLaw_law_615 ?_
    refine z_iadd dLaw_law_616 ?_
    refine z_sld (by omega) dLaw_law_617 ?_
    refine z_aload_n dLaw_law_618 rfl ?_
    refine z_iload dLaw_law_619 rfl ?_
    refine z_iconst dLaw_law_621 ?_
    refine z_iadd dLaw_law_622 ?_
    refine z_sld (by omega) dLaw_law_623 ?_
    refine z_if_eq (tgt := 631) dLaw_law_624 (by decide) (by omega) (fun c2a => ?_) (fun c2b => ?_)
    · refine z_iconst dLaw_law_631 ?_
      refine z_callV (bc' := bc - 6 - 1) (bs' := bs - 36 - 60) MV_Mod_drop lk_Law_201 dLaw_law_632 (k_Mod_drop H1 (zX9_r (xs := xs) (i + 1)) (zX9_r (xs := xs) (i + 2)) (by decide) h16 (Or.inl rfl)) rfl rfl (Nat.le_of_ble_eq_true rfl) rfl H1.2.1 (Nat.le_of_ble_eq_true rfl) (Nat.le_of_ble_eq_true rfl) (by omega) (by omega) (fun _ _ q => q.elim) ?_
      rintro _ h2 ⟨ma2, th2, z6, rfl, m0, H2, F2, A2, e6⟩
      refine z_istore dLaw_law_635 (Nat.le_of_ble_eq_true rfl) ?_
      refine z_goto (tgt := 2138) dLaw_law_637 (by decide) ?_
      exact K _ _ h2 ma2 _ _ _ (zLi.fin C1 eo1 n1 n2 n3 H2 F2 A2 (ok_drop hO) (oka_drop oka)) m0 (by omega) (by omega)
    · exact absurd c1a c2b
  · refine z_iconst dLaw_law_594 ?_
    refine z_goto (tgt := 599) dLaw_law_595 (by decide) ?_
    refine z_aload_n dLaw_law_599 rfl ?_
    refine z_callSX (bc' := bc - 6) (bs' := bs - 36) MW_Law_drop lk_Law_198 dLaw_law_600 (k_Law_drop (Or.inr rfl) hC (zX9_r (xs := xs) (i + 1)) (zX9_r (xs := xs) (i + 2)) (by decide) eo n1) rfl rfl (Nat.le_of_ble_eq_true rfl) (Nat.le_of_ble_eq_true rfl) (Nat.le_of_ble_eq_true rfl) (by omega) (by omega) (fun _ _ q => q.elim) ?_
    rintro _ h1 ⟨k5, z5, sv5, rfl, C1, f1, eo1, e5⟩
    have H1 : zMod G h1 ma S th := hM.mid n2 n3 f1
    refine z_istore dLaw_law_603 (Nat.le_of_ble_eq_true rfl) ?_
    refine z_aload_n dLaw_law_605 rfl ?_
    refine z_aload_n dLaw_law_606 rfl ?_
    refine z_iload dLaw_law_607 rfl ?_
    refine z_iconst dLaw_law_609 ?_
    refine z_iadd dLaw_law_610 ?_
    refine z_sld (by omega) dLaw_law_611 ?_
    refine z_aload_n dLaw_law_612 rfl ?_
    refine z_iload dLaw_law_613 rfl ?_
    refine z_iconst dLaw_law_615 ?_
    refine z_iadd dLaw_law_616 ?_
    refine z_sld (by omega) dLaw_law_617 ?_
    refine z_aload_n dLaw_law_618 rfl ?_
    refine z_iload dLaw_law_619 rfl ?_
    refine z_iconst dLaw_law_621 ?_
    refine z_iadd dLaw_law_622 ?_
    refine z_sld (by omega) dLaw_law_623 ?_
    refine z_if_eq (tgt := 631) dLaw_law_624 (by decide) (by omega) (fun c2a => ?_) (fun c2b => ?_)
    · exact absurd c2a c1b
    · refine z_iconst dLaw_law_627 ?_
      refine z_goto (tgt := 632) dLaw_law_628 (by decide) ?_
      refine z_callV (bc' := bc - 6 - 1) (bs' := bs - 36 - 60) MV_Mod_drop lk_Law_201 dLaw_law_632 (k_Mod_drop H1 (zX9_r (xs := xs) (i + 1)) (zX9_r (xs := xs) (i + 2)) (by decide) h16 (Or.inr rfl)) rfl rfl (Nat.le_of_ble_eq_true rfl) rfl H1.2.1 (Nat.le_of_ble_eq_true rfl) (Nat.le_of_ble_eq_true rfl) (by omega) (by omega) (fun _ _ q => q.elim) ?_
      rintro _ h2 ⟨ma2, th2, z6, rfl, m0, H2, F2, A2, e6⟩
      refine z_istore dLaw_law_635 (Nat.le_of_ble_eq_true rfl) ?_
      refine z_goto (tgt := 2138) dLaw_law_637 (by decide) ?_
      exact K _ _ h2 ma2 _ _ _ (zLi.fin C1 eo1 n1 n2 n3 H2 F2 A2 (ok_drop hO) (oka_drop oka)) m0 (by omega) (by omega)
theorem c_Law_8 {ou : Nat} {i : Int} {y5 y6 : Option Value} (I : zLi G h ad ma ou S) (hi : 0 ≤ i ∧ i + 4 ≤ L) (hb1 : 210 ≤ bc) (hb2 : 12100 ≤ bs) (K : zLK G l b L xs ad ma ou i bc bs) : zR G l (zLJ G b L xs) bc bs h 640 [some (.ref b), some (.ref (ad 0)), some (.ref (ma 0)), some (.ref ou), some (zi i), y5, y6] [] := by
  obtain ⟨th, n0, sv, hC, hM, hO, oka, eo, n1, n2, n3⟩ := I
  have h16 : ∀ k, k < 4 → (S.1 k).length ≤ 16 := fun k hk => (hC.ls hk).len
  have x1 := zX9_r (xs := xs) (i + 1)
  have x2 := zX9_r (xs := xs) (i + 2)
  have x3 := zX9_r (xs := xs) (i + 3)
  refine z_aload_n dLaw_law_640 rfl ?_
  refine z_aload_n dLaw_law_641 rfl ?_
  refine z_iload dLaw_law_642 rfl ?_
  refine z_iconst dLaw_law_644 ?_
  refine z_iadd dLaw_law_645 ?_
  refine z_sld (by omega) dLaw_law_646 ?_
  refine z_aload_n dLaw_law_647 rfl ?_
  refine z_iload dLaw_law_648 rfl ?_
  refine z_iconst dLaw_law_650 ?_
  refine z_iadd dLaw_law_651 ?_
  refine z_sld (by omega) dLaw_law_652 ?_
  refine z_aload_n dLaw_law_653 rfl ?_
  refine z_callSX (bc' := bc - 6) (bs' := bs - 36) MW_Law_thin lk_Law_202 dLaw_law_654 (k_Law_thin hC (zX9_r (xs := xs) (i + 1)) (zX9_r (xs := xs) (i + 2)) eo n1) rfl rfl (Nat.le_of_ble_eq_true rfl) (Nat.le_of_ble_eq_true rfl) (Nat.le_of_ble_eq_true rfl) (by omega) (by omega) (fun _ _ q => q.elim) ?_
  rintro _ h1 ⟨k5, z5, sv5, rfl, C1, f1, eo1, e5⟩
  have H1 : zMod G h1 ma S th := hM.mid n2 n3 f1
  refine z_istore dLaw_law_657 (Nat.le_of_ble_eq_true rfl) ?_
  refine z_aload_n dLaw_law_659 rfl ?_
  refine z_aload_n dLaw_law_660 rfl ?_
  refine z_iload dLaw_law_661 rfl ?_
  refine z_iconst dLaw_law_663 ?_
  refine z_iadd dLaw_law_664 ?_
  refine z_sld (by omega) dLaw_law_665 ?_
  refine z_aload_n dLaw_law_666 rfl ?_
  refine z_iload dLaw_law_667 rfl ?_
  refine z_iconst dLaw_law_669 ?_
  refine z_iadd dLaw_law_670 ?_
  refine z_sld (by omega) dLaw_law_671 ?_
  refine z_callV (bc' := bc - 6 - 16) (bs' := bs - 36 - 960) MV_Mod_thin lk_Law_204 dLaw_law_672 (k_Mod_thin H1 (zX9_r (xs := xs) (i + 1)) (zX9_r (xs := xs) (i + 2)) h16) rfl rfl (Nat.le_of_ble_eq_true rfl) rfl H1.2.1 (Nat.le_of_ble_eq_true rfl) (Nat.le_of_ble_eq_true rfl) (by omega) (by omega) (fun _ _ q => q.elim) ?_
  rintro _ h2 ⟨ma2, th2, z6, rfl, m0, H2, F2, A2, e6⟩
  refine z_istore dLaw_law_675 (Nat.le_of_ble_eq_true rfl) ?_
  refine z_goto (tgt := 2138) dLaw_law_677 (by decide) ?_
  exact K _ _ h2 ma2 _ _ _ (zLi.fin C1 eo1 n1 n2 n3 H2 F2 A2 (ok_thin hO) (oka_thin oka)) m0 (by omega) (by omega)
theorem c_Law_9 {ou : Nat} {i : Int} {y5 y6 : Option Value} (I : zLi G h ad ma ou S) (hi : 0 ≤ i ∧ i + 4 ≤ L) (hb1 : 210 ≤ bc) (hb2 : 12100 ≤ bs) (K : zLK G l b L xs ad ma ou i bc bs) : zR G l (zLJ G b L xs) bc bs h 680 [some (.ref b), some (.ref (ad 0)), some (.ref (ma 0)), some (.ref ou), some (zi i), y5, y6] [] := by
  obtain ⟨th, n0, sv, hC, hM, hO, oka, eo, n1, n2, n3⟩ := I
  have h16 : ∀ k, k < 4 → (S.1 k).length ≤ 16 := fun k hk => (hC.ls hk).len
  have x1 := zX9_r (xs := xs) (i + 1)
  have x2 := zX9_r (xs := xs) (i + 2)
  have x3 := zX9_r (xs := xs) (i + 3)
  refine z_aload_n dLaw_law_680 rfl ?_
  refine z_aload_n dLaw_law_681 rfl ?_
  refine z_iload dLaw_law_682 rfl ?_
  refine z_iconst dLaw_law_684 ?_
  refine z_iadd dLaw_law_685 ?_
  refine z_sld (by omega) dLaw_law_686 ?_
  refine z_aload_n dLaw_law_687 rfl ?_
  refine z_iload dLaw_law_688 rfl ?_
  refine z_iconst dLaw_law_690 ?_
  refine z_iadd dLaw_law_691 ?_
  refine z_sld (by omega) dLaw_law_692 ?_
  refine z_aload_n dLaw_law_693 rfl ?_
  refine z_iload dLaw_law_694 rfl ?_
  refine z_iconst dLaw_law_696 ?_
  refine z_iadd dLaw_law_697 ?_
  refine z_sld (by omega) dLaw_law_698 ?_
  refine z_if_eq (tgt := 706) dLaw_law_699 (by decide) (by omega) (fun c1a => ?_) (fun c1b => ?_)
  · refine z_iconst dLaw_law_706 ?_
    refine z_aload_n dLaw_law_707 rfl ?_
    refine z_callSX (bc' := bc - 6) (bs' := bs - 36) MW_Law_indexOf lk_Law_205 dLaw_law_708 (k_Law_indexOf (Or.inl rfl) hC (zX9_r (xs := xs) (i + 1)) (zX9_r (xs := xs) (i + 2)) (by decide) eo n1) rfl rfl (Nat.le_of_ble_eq_true rfl) (Nat.le_of_ble_eq_true rfl) (Nat.le_of_ble_eq_true rfl) (by omega) (by omega) (fun _ _ q => q.elim) ?_
    rintro _ h1 ⟨k5, z5, sv5, rfl, C1, f1, eo1, e5⟩
    have H1 : zMod G h1 ma S th := hM.mid n2 n3 f1
    refine z_istore dLaw_law_711 (Nat.le_of_ble_eq_true rfl) ?_
    refine z_aload_n dLaw_law_713 rfl ?_
    refine z_aload_n dLaw_law_714 rfl ?_
    refine z_iload dLaw_law_715 rfl ?_
    refine z_iconst dLaw_law_717 ?_
    refine z_iadd dLaw_law_718 ?_
    refine z_sld (by omega) dLaw_law_719 ?_
    refine z_aload_n dLaw_law_720 rfl ?_
    refine z_iload dLaw_law_721 rfl ?_
    refine z_iconst dLaw_law_723 ?_
    refine z_iadd dLaw_law_724 ?_
    refine z_sld (by omega) dLaw_law_725 ?_
    refine z_aload_n dLaw_law_726 rfl ?_
    refine z_iload dLaw_law_727 rfl ?_
    refine z_iconst dLaw_law_729 ?_
    refine z_iadd dLaw_law_730 ?_
    refine z_sld (by omega) dLaw_law_731 ?_
    refine z_if_eq (tgt := 739) dLaw_law_732 (by decide) (by omega) (fun c2a => ?_) (fun c2b => ?_)
    · refine z_iconst dLaw_law_739 ?_
      refine z_callV (bc' := bc - 6 - 0) (bs' := bs - 36 - 0) MV_Mod_indexOf lk_Law_207 dLaw_law_740 (k_Mod_indexOf H1 (zX9_r (xs := xs) (i + 1)) (zX9_r (xs := xs) (i + 2)) (by decide) (Or.inl rfl)) rfl rfl (Nat.le_of_ble_eq_true rfl) rfl H1.2.1 (Nat.le_of_ble_eq_true rfl) (Nat.le_of_ble_eq_true rfl) (by omega) (by omega) (fun _ _ q => q.elim) ?_
      rintro _ h2 ⟨ma2, th2, z6, rfl, m0, H2, F2, A2, e6⟩
      have hs : (k5 = th2 ∧ z5 = z6 ∧ k5 = 0) ∨ (k5 = th2 ∧ (k5 = 1 ∨ k5 = 2 ∨ k5 = 3)) := by
        rcases e5 with ⟨a5, b5⟩ | ⟨a5, b5⟩ | ⟨a5, b5⟩ | ⟨a5, b5⟩
        · rcases e6 with ⟨a6, b6⟩ | ⟨a6, b6⟩ | ⟨a6, b6⟩ | ⟨a6, b6⟩
          · exact Or.inl ⟨b5.trans b6.symm, Sum.inl.inj (a5.symm.trans a6), b5⟩
          · exact absurd (a5.symm.trans a6) (by first | (simp; done) | decide)
          · exact absurd (a5.symm.trans a6) (by first | (simp; done) | decide)
          · exact absurd (a5.symm.trans a6) (by first | (simp; done) | decide)
        · rcases e6 with ⟨a6, b6⟩ | ⟨a6, b6⟩ | ⟨a6, b6⟩ | ⟨a6, b6⟩
          · exact absurd (a5.symm.trans a6) (by first | (simp; done) | decide)
          · exact Or.inr ⟨b5.trans b6.symm, by omega⟩
          · exact absurd (a5.symm.trans a6) (by first | (simp; done) | decide)
          · exact absurd (a5.symm.trans a6) (by first | (simp; done) | decide)
        · rcases e6 with ⟨a6, b6⟩ | ⟨a6, b6⟩ | ⟨a6, b6⟩ | ⟨a6, b6⟩
          · exact absurd (a5.symm.trans a6) (by first | (simp; done) | decide)
          · exact absurd (a5.symm.trans a6) (by first | (simp; done) | decide)
          · exact absurd (xE_indexOf (Prod.ext a5 rfl)) (by decide)
          · exact absurd (a5.symm.trans a6) (by first | (simp; done) | decide)
        · rcases e6 with ⟨a6, b6⟩ | ⟨a6, b6⟩ | ⟨a6, b6⟩ | ⟨a6, b6⟩
          · exact absurd (a5.symm.trans a6) (by first | (simp; done) | decide)
          · exact absurd (a5.symm.trans a6) (by first | (simp; done) | decide)
          · exact absurd (a5.symm.trans a6) (by first | (simp; done) | decide)
          · exact absurd (xE_indexOf (Prod.ext a5 rfl)) (by decide)
      refine z_istore dLaw_law_743 (Nat.le_of_ble_eq_true rfl) ?_
      refine z_aload_n dLaw_law_745 rfl ?_
      rw [show ma 0 = ma2 0 from m0.symm]
      refine z_callV (bc' := bc - 6 - 0) (bs' := bs - 36 - 0) MV_Mod_thrown lk_Law_208 dLaw_law_746 (k_Mod_thrown H2) rfl rfl (Nat.le_of_ble_eq_true rfl) rfl H2.2.1 (Nat.le_of_ble_eq_true rfl) (Nat.le_of_ble_eq_true rfl) (by omega) (by omega) (fun _ _ q => q.elim) ?_
      rintro _ _ ⟨rfl, rfl⟩
      refine z_iload dLaw_law_749 rfl ?_
      refine z_icmp_eq (tgt := 756) dLaw_law_751 (by decide) (by omega) (by omega) (fun c1 => ?_) (fun c1 => ?_)
      · refine z_iload dLaw_law_756 rfl ?_
        refine z_if_ne (tgt := 774) dLaw_law_758 (by decide) (by omega) (fun c2 => ?_) (fun c2 => ?_)
        · refine z_goto (tgt := 2138) dLaw_law_774 (by decide) ?_
          rw [show ma2 0 = ma 0 from m0]
          exact K _ _ h2 ma2 _ _ _ (zLi.fin C1 eo1 n1 n2 n3 H2 F2 A2 (ok_indexOf hO) (oka_indexOf oka)) m0 (by omega) (by omega)
        · refine z_aload_n dLaw_law_761 rfl ?_
          refine z_getN (k := 0) fd_Out (by decide) fl_Law_13 dLaw_law_762 (F2 ou _ eo1 n2) rfl ?_
          refine z_iload dLaw_law_765 rfl ?_
          rw [show Value.int (zI z6) = Value.int (zI (zwd z6)) from zwd_i z6]
          refine z_i2l (zwd_r z6) dLaw_law_767 ?_
          refine z_lcmpI (zwd_64 z5) (zwd_64 z6) dLaw_law_768 ?_
          have e56 : z5 = z6 := by omega
          rw [e56, zSg_self]
          refine z_if_eq (tgt := 774) dLaw_law_769 (by decide) (by decide) (fun c3 => ?_) (fun c3 => ?_)
          · refine z_goto (tgt := 2138) dLaw_law_774 (by decide) ?_
            rw [show ma2 0 = ma 0 from m0]
            exact K _ _ h2 ma2 _ _ _ (zLi.fin C1 eo1 n1 n2 n3 H2 F2 A2 (ok_indexOf hO) (oka_indexOf oka)) m0 (by omega) (by omega)
          · exact absurd rfl c3
      · exfalso; omega
    · exact absurd c1a c2b
  · refine z_iconst dLaw_law_702 ?_
    refine z_goto (tgt := 707) dLaw_law_703 (by decide) ?_
    refine z_aload_n dLaw_law_707 rfl ?_
    refine z_callSX (bc' := bc - 6) (bs' := bs - 36) MW_Law_indexOf lk_Law_205 dLaw_law_708 (k_Law_indexOf (Or.inr rfl) hC (zX9_r (xs := xs) (i + 1)) (zX9_r (xs := xs) (i + 2)) (by decide) eo n1) rfl rfl (Nat.le_of_ble_eq_true rfl) (Nat.le_of_ble_eq_true rfl) (Nat.le_of_ble_eq_true rfl) (by omega) (by omega) (fun _ _ q => q.elim) ?_
    rintro _ h1 ⟨k5, z5, sv5, rfl, C1, f1, eo1, e5⟩
    have H1 : zMod G h1 ma S th := hM.mid n2 n3 f1
    refine z_istore dLaw_law_711 (Nat.le_of_ble_eq_true rfl) ?_
    refine z_aload_n dLaw_law_713 rfl ?_
    refine z_aload_n dLaw_law_714 rfl ?_
    refine z_iload dLaw_law_715 rfl ?_
    refine z_iconst dLaw_law_717 ?_
    refine z_iadd dLaw_law_718 ?_
    refine z_sld (by omega) dLaw_law_719 ?_
    refine z_aload_n dLaw_law_720 rfl ?_
    refine z_iload dLaw_law_721 rfl ?_
    refine z_iconst dLaw_law_723 ?_
    refine z_iadd dLaw_law_724 ?_
    refine z_sld (by omega) dLaw_law_725 ?_
    refine z_aload_n dLaw_law_726 rfl ?_
    refine z_iload dLaw_law_727 rfl ?_
    refine z_iconst dLaw_law_729 ?_
    refine z_iadd dLaw_law_730 ?_
    refine z_sld (by omega) dLaw_law_731 ?_
    refine z_if_eq (tgt := 739) dLaw_law_732 (by decide) (by omega) (fun c2a => ?_) (fun c2b => ?_)
    · exact absurd c2a c1b
    · refine z_iconst dLaw_law_735 ?_
      refine z_goto (tgt := 740) dLaw_law_736 (by decide) ?_
      refine z_callV (bc' := bc - 6 - 0) (bs' := bs - 36 - 0) MV_Mod_indexOf lk_Law_207 dLaw_law_740 (k_Mod_indexOf H1 (zX9_r (xs := xs) (i + 1)) (zX9_r (xs := xs) (i + 2)) (by decide) (Or.inr rfl)) rfl rfl (Nat.le_of_ble_eq_true rfl) rfl H1.2.1 (Nat.le_of_ble_eq_true rfl) (Nat.le_of_ble_eq_true rfl) (by omega) (by omega) (fun _ _ q => q.elim) ?_
      rintro _ h2 ⟨ma2, th2, z6, rfl, m0, H2, F2, A2, e6⟩
      have hs : (k5 = th2 ∧ z5 = z6 ∧ k5 = 0) ∨ (k5 = th2 ∧ (k5 = 1 ∨ k5 = 2 ∨ k5 = 3)) := by
        rcases e5 with ⟨a5, b5⟩ | ⟨a5, b5⟩ | ⟨a5, b5⟩ | ⟨a5, b5⟩
        · rcases e6 with ⟨a6, b6⟩ | ⟨a6, b6⟩ | ⟨a6, b6⟩ | ⟨a6, b6⟩
          · exact Or.inl ⟨b5.trans b6.symm, Sum.inl.inj (a5.symm.trans a6), b5⟩
          · exact absurd (a5.symm.trans a6) (by first | (simp; done) | decide)
          · exact absurd (a5.symm.trans a6) (by first | (simp; done) | decide)
          · exact absurd (a5.symm.trans a6) (by first | (simp; done) | decide)
        · rcases e6 with ⟨a6, b6⟩ | ⟨a6, b6⟩ | ⟨a6, b6⟩ | ⟨a6, b6⟩
          · exact absurd (a5.symm.trans a6) (by first | (simp; done) | decide)
          · exact Or.inr ⟨b5.trans b6.symm, by omega⟩
          · exact absurd (a5.symm.trans a6) (by first | (simp; done) | decide)
          · exact absurd (a5.symm.trans a6) (by first | (simp; done) | decide)
        · rcases e6 with ⟨a6, b6⟩ | ⟨a6, b6⟩ | ⟨a6, b6⟩ | ⟨a6, b6⟩
          · exact absurd (a5.symm.trans a6) (by first | (simp; done) | decide)
          · exact absurd (a5.symm.trans a6) (by first | (simp; done) | decide)
          · exact absurd (xE_indexOf (Prod.ext a5 rfl)) (by decide)
          · exact absurd (a5.symm.trans a6) (by first | (simp; done) | decide)
        · rcases e6 with ⟨a6, b6⟩ | ⟨a6, b6⟩ | ⟨a6, b6⟩ | ⟨a6, b6⟩
          · exact absurd (a5.symm.trans a6) (by first | (simp; done) | decide)
          · exact absurd (a5.symm.trans a6) (by first | (simp; done) | decide)
          · exact absurd (a5.symm.trans a6) (by first | (simp; done) | decide)
          · exact absurd (xE_indexOf (Prod.ext a5 rfl)) (by decide)
      refine z_istore dLaw_law_743 (Nat.le_of_ble_eq_true rfl) ?_
      refine z_aload_n dLaw_law_745 rfl ?_
      rw [show ma 0 = ma2 0 from m0.symm]
      refine z_callV (bc' := bc - 6 - 0) (bs' := bs - 36 - 0) MV_Mod_thrown lk_Law_208 dLaw_law_746 (k_Mod_thrown H2) rfl rfl (Nat.le_of_ble_eq_true rfl) rfl H2.2.1 (Nat.le_of_ble_eq_true rfl) (Nat.le_of_ble_eq_true rfl) (by omega) (by omega) (fun _ _ q => q.elim) ?_
      rintro _ _ ⟨rfl, rfl⟩
      refine z_iload dLaw_law_749 rfl ?_
      refine z_icmp_eq (tgt := 756) dLaw_law_751 (by decide) (by omega) (by omega) (fun c1 => ?_) (fun c1 => ?_)
      · refine z_iload dLaw_law_756 rfl ?_
        refine z_if_ne (tgt := 774) dLaw_law_758 (by decide) (by omega) (fun c2 => ?_) (fun c2 => ?_)
        · refine z_goto (tgt := 2138) dLaw_law_774 (by decide) ?_
          rw [show ma2 0 = ma 0 from m0]
          exact K _ _ h2 ma2 _ _ _ (zLi.fin C1 eo1 n1 n2 n3 H2 F2 A2 (ok_indexOf hO) (oka_indexOf oka)) m0 (by omega) (by omega)
        · refine z_aload_n dLaw_law_761 rfl ?_
          refine z_getN (k := 0) fd_Out (by decide) fl_Law_13 dLaw_law_762 (F2 ou _ eo1 n2) rfl ?_
          refine z_iload dLaw_law_765 rfl ?_
          rw [show Value.int (zI z6) = Value.int (zI (zwd z6)) from zwd_i z6]
          refine z_i2l (zwd_r z6) dLaw_law_767 ?_
          refine z_lcmpI (zwd_64 z5) (zwd_64 z6) dLaw_law_768 ?_
          have e56 : z5 = z6 := by omega
          rw [e56, zSg_self]
          refine z_if_eq (tgt := 774) dLaw_law_769 (by decide) (by decide) (fun c3 => ?_) (fun c3 => ?_)
          · refine z_goto (tgt := 2138) dLaw_law_774 (by decide) ?_
            rw [show ma2 0 = ma 0 from m0]
            exact K _ _ h2 ma2 _ _ _ (zLi.fin C1 eo1 n1 n2 n3 H2 F2 A2 (ok_indexOf hO) (oka_indexOf oka)) m0 (by omega) (by omega)
          · exact absurd rfl c3
      · exfalso; omega
theorem c_Law_10 {ou : Nat} {i : Int} {y5 y6 : Option Value} (I : zLi G h ad ma ou S) (hi : 0 ≤ i ∧ i + 4 ≤ L) (hb1 : 210 ≤ bc) (hb2 : 12100 ≤ bs) (K : zLK G l b L xs ad ma ou i bc bs) : zR G l (zLJ G b L xs) bc bs h 777 [some (.ref b), some (.ref (ad 0)), some (.ref (ma 0)), some (.ref ou), some (zi i), y5, y6] [] := by
  obtain ⟨th, n0, sv, hC, hM, hO, oka, eo, n1, n2, n3⟩ := I
  have h16 : ∀ k, k < 4 → (S.1 k).length ≤ 16 := fun k hk => (hC.ls hk).len
  have x1 := zX9_r (xs := xs) (i + 1)
  have x2 := zX9_r (xs := xs) (i + 2)
  have x3 := zX9_r (xs := xs) (i + 3)
  refine z_aload_n dLaw_law_777 rfl ?_
  refine z_aload_n dLaw_law_778 rfl ?_
  refine z_iload dLaw_law_779 rfl ?_
  refine z_iconst dLaw_law_781 ?_
  refine z_iadd dLaw_law_782 ?_
  refine z_sld (by omega) dLaw_law_783 ?_
  refine z_aload_n dLaw_law_784 rfl ?_
  refine z_iload dLaw_law_785 rfl ?_
  refine z_iconst dLaw_law_787 ?_
  refine z_iadd dLaw_law_788 ?_
  refine z_sld (by omega) dLaw_law_789 ?_
  refine z_aload_n dLaw_law_790 rfl ?_
  refine z_callSX (bc' := bc - 6) (bs' := bs - 36) MW_Law_has lk_Law_212 dLaw_law_791 (k_Law_has hC (zX9_r (xs := xs) (i + 1)) (zX9_r (xs := xs) (i + 2)) eo n1) rfl rfl (Nat.le_of_ble_eq_true rfl) (Nat.le_of_ble_eq_true rfl) (Nat.le_of_ble_eq_true rfl) (by omega) (by omega) (fun _ _ q => q.elim) ?_
  rintro _ h1 ⟨k5, z5, sv5, rfl, C1, f1, eo1, e5⟩
  have H1 : zMod G h1 ma S th := hM.mid n2 n3 f1
  refine z_istore dLaw_law_794 (Nat.le_of_ble_eq_true rfl) ?_
  refine z_aload_n dLaw_law_796 rfl ?_
  refine z_aload_n dLaw_law_797 rfl ?_
  refine z_iload dLaw_law_798 rfl ?_
  refine z_iconst dLaw_law_800 ?_
  refine z_iadd dLaw_law_801 ?_
  refine z_sld (by omega) dLaw_law_802 ?_
  refine z_aload_n dLaw_law_803 rfl ?_
  refine z_iload dLaw_law_804 rfl ?_
  refine z_iconst dLaw_law_806 ?_
  refine z_iadd dLaw_law_807 ?_
  refine z_sld (by omega) dLaw_law_808 ?_
  refine z_callV (bc' := bc - 6 - 0) (bs' := bs - 36 - 0) MV_Mod_has lk_Law_214 dLaw_law_809 (k_Mod_has H1 (zX9_r (xs := xs) (i + 1)) (zX9_r (xs := xs) (i + 2))) rfl rfl (Nat.le_of_ble_eq_true rfl) rfl H1.2.1 (Nat.le_of_ble_eq_true rfl) (Nat.le_of_ble_eq_true rfl) (by omega) (by omega) (fun _ _ q => q.elim) ?_
  rintro _ h2 ⟨ma2, th2, z6, rfl, m0, H2, F2, A2, e6⟩
  refine z_istore dLaw_law_812 (Nat.le_of_ble_eq_true rfl) ?_
  refine z_goto (tgt := 2138) dLaw_law_814 (by decide) ?_
  exact K _ _ h2 ma2 _ _ _ (zLi.fin C1 eo1 n1 n2 n3 H2 F2 A2 (ok_has hO) (oka_has oka)) m0 (by omega) (by omega)
theorem c_Law_11 {ou : Nat} {i : Int} {y5 y6 : Option Value} (I : zLi G h ad ma ou S) (hi : 0 ≤ i ∧ i + 4 ≤ L) (hb1 : 210 ≤ bc) (hb2 : 12100 ≤ bs) (K : zLK G l b L xs ad ma ou i bc bs) : zR G l (zLJ G b L xs) bc bs h 817 [some (.ref b), some (.ref (ad 0)), some (.ref (ma 0)), some (.ref ou), some (zi i), y5, y6] [] := by
  obtain ⟨th, n0, sv, hC, hM, hO, oka, eo, n1, n2, n3⟩ := I
  have h16 : ∀ k, k < 4 → (S.1 k).length ≤ 16 := fun k hk => (hC.ls hk).len
  have x1 := zX9_r (xs := xs) (i + 1)
  have x2 := zX9_r (xs := xs) (i + 2)
  have x3 := zX9_r (xs := xs) (i + 3)
  refine z_aload_n dLaw_law_817 rfl ?_
  refine z_aload_n dLaw_law_818 rfl ?_
  refine z_iload dLaw_law_819 rfl ?_
  refine z_iconst dLaw_law_821 ?_
  refine z_iadd dLaw_law_822 ?_
  refine z_sld (by omega) dLaw_law_823 ?_
  refine z_aload_n dLaw_law_824 rfl ?_
  refine z_callSX (bc' := bc - 6) (bs' := bs - 36) MW_Law_size lk_Law_215 dLaw_law_825 (k_Law_size hC (zX9_r (xs := xs) (i + 1)) eo n1) rfl rfl (Nat.le_of_ble_eq_true rfl) (Nat.le_of_ble_eq_true rfl) (Nat.le_of_ble_eq_true rfl) (by omega) (by omega) (fun _ _ q => q.elim) ?_
  rintro _ h1 ⟨k5, z5, sv5, rfl, C1, f1, eo1, e5⟩
  have H1 : zMod G h1 ma S th := hM.mid n2 n3 f1
  refine z_istore dLaw_law_828 (Nat.le_of_ble_eq_true rfl) ?_
  refine z_aload_n dLaw_law_830 rfl ?_
  refine z_aload_n dLaw_law_831 rfl ?_
  refine z_iload dLaw_law_832 rfl ?_
  refine z_iconst dLaw_law_834 ?_
  refine z_iadd dLaw_law_835 ?_
  refine z_sld (by omega) dLaw_law_836 ?_
  refine z_callV (bc' := bc - 6 - 0) (bs' := bs - 36 - 0) MV_Mod_size lk_Law_218 dLaw_law_837 (k_Mod_size H1 (zX9_r (xs := xs) (i + 1))) rfl rfl (Nat.le_of_ble_eq_true rfl) rfl H1.2.1 (Nat.le_of_ble_eq_true rfl) (Nat.le_of_ble_eq_true rfl) (by omega) (by omega) (fun _ _ q => q.elim) ?_
  rintro _ h2 ⟨ma2, th2, z6, rfl, m0, H2, F2, A2, e6⟩
  refine z_istore dLaw_law_840 (Nat.le_of_ble_eq_true rfl) ?_
  refine z_goto (tgt := 2138) dLaw_law_842 (by decide) ?_
  exact K _ _ h2 ma2 _ _ _ (zLi.fin C1 eo1 n1 n2 n3 H2 F2 A2 (ok_size hO) (oka_size oka)) m0 (by omega) (by omega)
theorem c_Law_12 {ou : Nat} {i : Int} {y5 y6 : Option Value} (I : zLi G h ad ma ou S) (hi : 0 ≤ i ∧ i + 4 ≤ L) (hb1 : 210 ≤ bc) (hb2 : 12100 ≤ bs) (K : zLK G l b L xs ad ma ou i bc bs) : zR G l (zLJ G b L xs) bc bs h 845 [some (.ref b), some (.ref (ad 0)), some (.ref (ma 0)), some (.ref ou), some (zi i), y5, y6] [] := by
  obtain ⟨th, n0, sv, hC, hM, hO, oka, eo, n1, n2, n3⟩ := I
  have h16 : ∀ k, k < 4 → (S.1 k).length ≤ 16 := fun k hk => (hC.ls hk).len
  have x1 := zX9_r (xs := xs) (i + 1)
  have x2 := zX9_r (xs := xs) (i + 2)
  have x3 := zX9_r (xs := xs) (i + 3)
  refine z_aload_n dLaw_law_845 rfl ?_
  refine z_aload_n dLaw_law_846 rfl ?_
  refine z_iload dLaw_law_847 rfl ?_
  refine z_iconst dLaw_law_849 ?_
  refine z_iadd dLaw_law_850 ?_
  refine z_sld (by omega) dLaw_law_851 ?_
  refine z_aload_n dLaw_law_852 rfl ?_
  refine z_iload dLaw_law_853 rfl ?_
  refine z_iconst dLaw_law_855 ?_
  refine z_iadd dLaw_law_856 ?_
  refine z_sld (by omega) dLaw_law_857 ?_
  refine z_if_eq (tgt := 865) dLaw_law_858 (by decide) (by omega) (fun c1a => ?_) (fun c1b => ?_)
  · refine z_iconst dLaw_law_865 ?_
    refine z_aload_n dLaw_law_866 rfl ?_
    refine z_callSX (bc' := bc - 37) (bs' := bs - 606) MW_Law_text lk_Law_219 dLaw_law_867 (k_Law_text hC (zX9_r (xs := xs) (i + 1)) (Or.inl rfl) eo n1) rfl rfl (Nat.le_of_ble_eq_true rfl) (Nat.le_of_ble_eq_true rfl) (Nat.le_of_ble_eq_true rfl) (by omega) (by omega) (fun _ _ q => q.elim) ?_
    rintro _ h1 ⟨k5, z5, sv5, rfl, C1, f1, eo1, e5⟩
    have H1 : zMod G h1 ma S th := hM.mid n2 n3 f1
    rw [text_st] at C1
    refine z_istore dLaw_law_870 (Nat.le_of_ble_eq_true rfl) ?_
    refine z_aload_n dLaw_law_872 rfl ?_
    refine z_aload_n dLaw_law_873 rfl ?_
    refine z_iload dLaw_law_874 rfl ?_
    refine z_iconst dLaw_law_876 ?_
    refine z_iadd dLaw_law_877 ?_
    refine z_sld (by omega) dLaw_law_878 ?_
    refine z_aload_n dLaw_law_879 rfl ?_
    refine z_iload dLaw_law_880 rfl ?_
    refine z_iconst dLaw_law_882 ?_
    refine z_iadd dLaw_law_883 ?_
    refine z_sld (by omega) dLaw_law_884 ?_
    refine z_if_eq (tgt := 892) dLaw_law_885 (by decide) (by omega) (fun c2a => ?_) (fun c2b => ?_)
    · refine z_iconst dLaw_law_892 ?_
      refine z_callV (bc' := bc - 37 - 113) (bs' := bs - 606 - 9405) MV_Mod_text lk_Law_222 dLaw_law_893 (k_Mod_text H1 (zX9_r (xs := xs) (i + 1)) (Or.inl rfl) h16) rfl rfl (Nat.le_of_ble_eq_true rfl) rfl H1.2.1 (Nat.le_of_ble_eq_true rfl) (Nat.le_of_ble_eq_true rfl) (by omega) (by omega) (fun _ _ q => q.elim) ?_
      rintro _ h2 ⟨⟨s6, rfl⟩, th2, H2, F2, e6⟩
      refine z_astore dLaw_law_896 (Nat.le_of_ble_eq_true rfl) ?_
      refine z_goto (tgt := 2138) dLaw_law_898 (by decide) ?_
      exact K _ _ h2 ma _ _ _ (zLi.fin C1 eo1 n1 n2 n3 H2 F2 (fun _ _ => Or.inl rfl) hO oka) rfl (by omega) (by omega)
    · exact absurd c1a c2b
  · refine z_iconst dLaw_law_861 ?_
    refine z_goto (tgt := 866) dLaw_law_862 (by decide) ?_
    refine z_aload_n dLaw_law_866 rfl ?_
    refine z_callSX (bc' := bc - 37) (bs' := bs - 606) MW_Law_text lk_Law_219 dLaw_law_867 (k_Law_text hC (zX9_r (xs := xs) (i + 1)) (Or.inr rfl) eo n1) rfl rfl (Nat.le_of_ble_eq_true rfl) (Nat.le_of_ble_eq_true rfl) (Nat.le_of_ble_eq_true rfl) (by omega) (by omega) (fun _ _ q => q.elim) ?_
    rintro _ h1 ⟨k5, z5, sv5, rfl, C1, f1, eo1, e5⟩
    have H1 : zMod G h1 ma S th := hM.mid n2 n3 f1
    rw [text_st] at C1
    refine z_istore dLaw_law_870 (Nat.le_of_ble_eq_true rfl) ?_
    refine z_aload_n dLaw_law_872 rfl ?_
    refine z_aload_n dLaw_law_873 rfl ?_
    refine z_iload dLaw_law_874 rfl ?_
    refine z_iconst dLaw_law_876 ?_
    refine z_iadd dLaw_law_877 ?_
    refine z_sld (by omega) dLaw_law_878 ?_
    refine z_aload_n dLaw_law_879 rfl ?_
    refine z_iload dLaw_law_880 rfl ?_
    refine z_iconst dLaw_law_882 ?_
    refine z_iadd dLaw_law_883 ?_
    refine z_sld (by omega) dLaw_law_884 ?_
    refine z_if_eq (tgt := 892) dLaw_law_885 (by decide) (by omega) (fun c2a => ?_) (fun c2b => ?_)
    · exact absurd c2a c1b
    · refine z_iconst dLaw_law_888 ?_
      refine z_goto (tgt := 893) dLaw_law_889 (by decide) ?_
      refine z_callV (bc' := bc - 37 - 113) (bs' := bs - 606 - 9405) MV_Mod_text lk_Law_222 dLaw_law_893 (k_Mod_text H1 (zX9_r (xs := xs) (i + 1)) (Or.inr rfl) h16) rfl rfl (Nat.le_of_ble_eq_true rfl) rfl H1.2.1 (Nat.le_of_ble_eq_true rfl) (Nat.le_of_ble_eq_true rfl) (by omega) (by omega) (fun _ _ q => q.elim) ?_
      rintro _ h2 ⟨⟨s6, rfl⟩, th2, H2, F2, e6⟩
      refine z_astore dLaw_law_896 (Nat.le_of_ble_eq_true rfl) ?_
      refine z_goto (tgt := 2138) dLaw_law_898 (by decide) ?_
      exact K _ _ h2 ma _ _ _ (zLi.fin C1 eo1 n1 n2 n3 H2 F2 (fun _ _ => Or.inl rfl) hO oka) rfl (by omega) (by omega)
theorem c_Law_13 {ou : Nat} {i : Int} {y5 y6 : Option Value} (I : zLi G h ad ma ou S) (hi : 0 ≤ i ∧ i + 4 ≤ L) (hb1 : 210 ≤ bc) (hb2 : 12100 ≤ bs) (K : zLK G l b L xs ad ma ou i bc bs) : zR G l (zLJ G b L xs) bc bs h 901 [some (.ref b), some (.ref (ad 0)), some (.ref (ma 0)), some (.ref ou), some (zi i), y5, y6] [] := by
  obtain ⟨th, n0, sv, hC, hM, hO, oka, eo, n1, n2, n3⟩ := I
  have h16 : ∀ k, k < 4 → (S.1 k).length ≤ 16 := fun k hk => (hC.ls hk).len
  have x1 := zX9_r (xs := xs) (i + 1)
  have x2 := zX9_r (xs := xs) (i + 2)
  have x3 := zX9_r (xs := xs) (i + 3)
  refine z_aload_n dLaw_law_901 rfl ?_
  refine z_aload_n dLaw_law_902 rfl ?_
  refine z_iload dLaw_law_903 rfl ?_
  refine z_iconst dLaw_law_905 ?_
  refine z_iadd dLaw_law_906 ?_
  refine z_sld (by omega) dLaw_law_907 ?_
  refine z_aload_n dLaw_law_908 rfl ?_
  refine z_callSX (bc' := bc - 6) (bs' := bs - 36) MW_Law_clear lk_Law_223 dLaw_law_909 (k_Law_clear hC (zX9_r (xs := xs) (i + 1)) eo n1) rfl rfl (Nat.le_of_ble_eq_true rfl) (Nat.le_of_ble_eq_true rfl) (Nat.le_of_ble_eq_true rfl) (by omega) (by omega) (fun _ _ q => q.elim) ?_
  rintro _ h1 ⟨k5, z5, sv5, rfl, C1, f1, eo1, e5⟩
  have H1 : zMod G h1 ma S th := hM.mid n2 n3 f1
  refine z_istore dLaw_law_912 (Nat.le_of_ble_eq_true rfl) ?_
  refine z_aload_n dLaw_law_914 rfl ?_
  refine z_aload_n dLaw_law_915 rfl ?_
  refine z_iload dLaw_law_916 rfl ?_
  refine z_iconst dLaw_law_918 ?_
  refine z_iadd dLaw_law_919 ?_
  refine z_sld (by omega) dLaw_law_920 ?_
  refine z_callV (bc' := bc - 6 - 1) (bs' := bs - 36 - 0) MV_Mod_clear lk_Law_225 dLaw_law_921 (k_Mod_clear H1 (zX9_r (xs := xs) (i + 1)) h16) rfl rfl (Nat.le_of_ble_eq_true rfl) rfl H1.2.1 (Nat.le_of_ble_eq_true rfl) (Nat.le_of_ble_eq_true rfl) (by omega) (by omega) (fun _ _ q => q.elim) ?_
  rintro _ h2 ⟨ma2, th2, z6, rfl, m0, H2, F2, A2, e6⟩
  refine z_istore dLaw_law_924 (Nat.le_of_ble_eq_true rfl) ?_
  refine z_goto (tgt := 2138) dLaw_law_926 (by decide) ?_
  exact K _ _ h2 ma2 _ _ _ (zLi.fin C1 eo1 n1 n2 n3 H2 F2 A2 (ok_clear hO) (oka_clear oka)) m0 (by omega) (by omega)
theorem c_Law_14 {ou : Nat} {i : Int} {y5 y6 : Option Value} (I : zLi G h ad ma ou S) (hi : 0 ≤ i ∧ i + 4 ≤ L) (hb1 : 210 ≤ bc) (hb2 : 12100 ≤ bs) (K : zLK G l b L xs ad ma ou i bc bs) : zR G l (zLJ G b L xs) bc bs h 929 [some (.ref b), some (.ref (ad 0)), some (.ref (ma 0)), some (.ref ou), some (zi i), y5, y6] [] := by
  obtain ⟨th, n0, sv, hC, hM, hO, oka, eo, n1, n2, n3⟩ := I
  have h16 : ∀ k, k < 4 → (S.1 k).length ≤ 16 := fun k hk => (hC.ls hk).len
  have x1 := zX9_r (xs := xs) (i + 1)
  have x2 := zX9_r (xs := xs) (i + 2)
  have x3 := zX9_r (xs := xs) (i + 3)
  refine z_aload_n dLaw_law_929 rfl ?_
  refine z_aload_n dLaw_law_930 rfl ?_
  refine z_iload dLaw_law_931 rfl ?_
  refine z_iconst dLaw_law_933 ?_
  refine z_iadd dLaw_law_934 ?_
  refine z_sld (by omega) dLaw_law_935 ?_
  refine z_aload_n dLaw_law_936 rfl ?_
  refine z_iload dLaw_law_937 rfl ?_
  refine z_iconst dLaw_law_939 ?_
  refine z_iadd dLaw_law_940 ?_
  refine z_sld (by omega) dLaw_law_941 ?_
  refine z_aload_n dLaw_law_942 rfl ?_
  refine z_callSX (bc' := bc - 6) (bs' := bs - 36) MW_Law_append lk_Law_226 dLaw_law_943 (k_Law_append hC (zX9_r (xs := xs) (i + 1)) (zX9_r (xs := xs) (i + 2)) eo n1) rfl rfl (Nat.le_of_ble_eq_true rfl) (Nat.le_of_ble_eq_true rfl) (Nat.le_of_ble_eq_true rfl) (by omega) (by omega) (fun _ _ q => q.elim) ?_
  rintro _ h1 ⟨k5, z5, sv5, rfl, C1, f1, eo1, e5⟩
  have H1 : zMod G h1 ma S th := hM.mid n2 n3 f1
  refine z_istore dLaw_law_946 (Nat.le_of_ble_eq_true rfl) ?_
  refine z_aload_n dLaw_law_948 rfl ?_
  refine z_aload_n dLaw_law_949 rfl ?_
  refine z_iload dLaw_law_950 rfl ?_
  refine z_iconst dLaw_law_952 ?_
  refine z_iadd dLaw_law_953 ?_
  refine z_sld (by omega) dLaw_law_954 ?_
  refine z_aload_n dLaw_law_955 rfl ?_
  refine z_iload dLaw_law_956 rfl ?_
  refine z_iconst dLaw_law_958 ?_
  refine z_iadd dLaw_law_959 ?_
  refine z_sld (by omega) dLaw_law_960 ?_
  refine z_callV (bc' := bc - 6 - 16) (bs' := bs - 36 - 976) MV_Mod_append lk_Law_228 dLaw_law_961 (k_Mod_append H1 (zX9_r (xs := xs) (i + 1)) (zX9_r (xs := xs) (i + 2)) h16) rfl rfl (Nat.le_of_ble_eq_true rfl) rfl H1.2.1 (Nat.le_of_ble_eq_true rfl) (Nat.le_of_ble_eq_true rfl) (by omega) (by omega) (fun _ _ q => q.elim) ?_
  rintro _ h2 ⟨ma2, th2, z6, rfl, m0, H2, F2, A2, e6⟩
  refine z_istore dLaw_law_964 (Nat.le_of_ble_eq_true rfl) ?_
  refine z_goto (tgt := 2138) dLaw_law_966 (by decide) ?_
  exact K _ _ h2 ma2 _ _ _ (zLi.fin C1 eo1 n1 n2 n3 H2 F2 A2 (ok_append hO) (oka_append oka)) m0 (by omega) (by omega)
theorem c_Law_15 {ou : Nat} {i : Int} {y5 y6 : Option Value} (I : zLi G h ad ma ou S) (hi : 0 ≤ i ∧ i + 4 ≤ L) (hb1 : 210 ≤ bc) (hb2 : 12100 ≤ bs) (K : zLK G l b L xs ad ma ou i bc bs) : zR G l (zLJ G b L xs) bc bs h 969 [some (.ref b), some (.ref (ad 0)), some (.ref (ma 0)), some (.ref ou), some (zi i), y5, y6] [] := by
  obtain ⟨th, n0, sv, hC, hM, hO, oka, eo, n1, n2, n3⟩ := I
  have h16 : ∀ k, k < 4 → (S.1 k).length ≤ 16 := fun k hk => (hC.ls hk).len
  have x1 := zX9_r (xs := xs) (i + 1)
  have x2 := zX9_r (xs := xs) (i + 2)
  have x3 := zX9_r (xs := xs) (i + 3)
  refine z_aload_n dLaw_law_969 rfl ?_
  refine z_aload_n dLaw_law_970 rfl ?_
  refine z_iload dLaw_law_971 rfl ?_
  refine z_iconst dLaw_law_973 ?_
  refine z_iadd dLaw_law_974 ?_
  refine z_sld (by omega) dLaw_law_975 ?_
  refine z_aload_n dLaw_law_976 rfl ?_
  refine z_iload dLaw_law_977 rfl ?_
  refine z_iconst dLaw_law_979 ?_
  refine z_iadd dLaw_law_980 ?_
  refine z_sld (by omega) dLaw_law_981 ?_
  refine z_aload_n dLaw_law_982 rfl ?_
  refine z_iload dLaw_law_983 rfl ?_
  refine z_iconst dLaw_law_985 ?_
  refine z_iadd dLaw_law_986 ?_
  refine z_sld (by omega) dLaw_law_987 ?_
  refine z_aload_n dLaw_law_988 rfl ?_
  refine z_callSX (bc' := bc - 6) (bs' := bs - 36) MW_Law_appendAt lk_Law_229 dLaw_law_989 (k_Law_appendAt hC (zX9_r (xs := xs) (i + 1)) (zX9_r (xs := xs) (i + 2)) (zX9_r (xs := xs) (i + 3)) eo n1) rfl rfl (Nat.le_of_ble_eq_true rfl) (Nat.le_of_ble_eq_true rfl) (Nat.le_of_ble_eq_true rfl) (by omega) (by omega) (fun _ _ q => q.elim) ?_
  rintro _ h1 ⟨k5, z5, sv5, rfl, C1, f1, eo1, e5⟩
  have H1 : zMod G h1 ma S th := hM.mid n2 n3 f1
  refine z_istore dLaw_law_992 (Nat.le_of_ble_eq_true rfl) ?_
  refine z_aload_n dLaw_law_994 rfl ?_
  refine z_aload_n dLaw_law_995 rfl ?_
  refine z_iload dLaw_law_996 rfl ?_
  refine z_iconst dLaw_law_998 ?_
  refine z_iadd dLaw_law_999 ?_
  refine z_sld (by omega) dLaw_law_1000 ?_
  refine z_aload_n dLaw_law_1001 rfl ?_
  refine z_iload dLaw_law_1002 rfl ?_
  refine z_iconst dLaw_law_1004 ?_
  refine z_iadd dLaw_law_1005 ?_
  refine z_sld (by omega) dLaw_law_1006 ?_
  refine z_aload_n dLaw_law_1007 rfl ?_
  refine z_iload dLaw_law_1008 rfl ?_
  refine z_iconst dLaw_law_1010 ?_
  refine z_iadd dLaw_law_1011 ?_
  refine z_sld (by omega) dLaw_law_1012 ?_
  refine z_callV (bc' := bc - 6 - 16) (bs' := bs - 36 - 976) MV_Mod_appendAt lk_Law_231 dLaw_law_1013 (k_Mod_appendAt H1 (zX9_r (xs := xs) (i + 1)) (zX9_r (xs := xs) (i + 2)) (zX9_r (xs := xs) (i + 3)) h16) rfl rfl (Nat.le_of_ble_eq_true rfl) rfl H1.2.1 (Nat.le_of_ble_eq_true rfl) (Nat.le_of_ble_eq_true rfl) (by omega) (by omega) (fun _ _ q => q.elim) ?_
  rintro _ h2 ⟨ma2, th2, z6, rfl, m0, H2, F2, A2, e6⟩
  refine z_istore dLaw_law_1016 (Nat.le_of_ble_eq_true rfl) ?_
  refine z_goto (tgt := 2138) dLaw_law_1018 (by decide) ?_
  exact K _ _ h2 ma2 _ _ _ (zLi.fin C1 eo1 n1 n2 n3 H2 F2 A2 (ok_appendAt hO) (oka_appendAt oka)) m0 (by omega) (by omega)
theorem c_Law_16 {ou : Nat} {i : Int} {y5 y6 : Option Value} (I : zLi G h ad ma ou S) (hi : 0 ≤ i ∧ i + 4 ≤ L) (hb1 : 210 ≤ bc) (hb2 : 12100 ≤ bs) (K : zLK G l b L xs ad ma ou i bc bs) : zR G l (zLJ G b L xs) bc bs h 1021 [some (.ref b), some (.ref (ad 0)), some (.ref (ma 0)), some (.ref ou), some (zi i), y5, y6] [] := by
  obtain ⟨th, n0, sv, hC, hM, hO, oka, eo, n1, n2, n3⟩ := I
  have h16 : ∀ k, k < 4 → (S.1 k).length ≤ 16 := fun k hk => (hC.ls hk).len
  have x1 := zX9_r (xs := xs) (i + 1)
  have x2 := zX9_r (xs := xs) (i + 2)
  have x3 := zX9_r (xs := xs) (i + 3)
  refine z_aload_n dLaw_law_1021 rfl ?_
  refine z_aload_n dLaw_law_1022 rfl ?_
  refine z_iload dLaw_law_1023 rfl ?_
  refine z_iconst dLaw_law_1025 ?_
  refine z_iadd dLaw_law_1026 ?_
  refine z_sld (by omega) dLaw_law_1027 ?_
  refine z_aload_n dLaw_law_1028 rfl ?_
  refine z_iload dLaw_law_1029 rfl ?_
  refine z_iconst dLaw_law_1031 ?_
  refine z_iadd dLaw_law_1032 ?_
  refine z_sld (by omega) dLaw_law_1033 ?_
  refine z_aload_n dLaw_law_1034 rfl ?_
  refine z_callSX (bc' := bc - 6) (bs' := bs - 36) MW_Law_copy lk_Law_232 dLaw_law_1035 (k_Law_copy hC (zX9_r (xs := xs) (i + 1)) (zX9_r (xs := xs) (i + 2)) eo n1) rfl rfl (Nat.le_of_ble_eq_true rfl) (Nat.le_of_ble_eq_true rfl) (Nat.le_of_ble_eq_true rfl) (by omega) (by omega) (fun _ _ q => q.elim) ?_
  rintro _ h1 ⟨k5, z5, sv5, rfl, C1, f1, eo1, e5⟩
  have H1 : zMod G h1 ma S th := hM.mid n2 n3 f1
  refine z_istore dLaw_law_1038 (Nat.le_of_ble_eq_true rfl) ?_
  refine z_aload_n dLaw_law_1040 rfl ?_
  refine z_aload_n dLaw_law_1041 rfl ?_
  refine z_iload dLaw_law_1042 rfl ?_
  refine z_iconst dLaw_law_1044 ?_
  refine z_iadd dLaw_law_1045 ?_
  refine z_sld (by omega) dLaw_law_1046 ?_
  refine z_aload_n dLaw_law_1047 rfl ?_
  refine z_iload dLaw_law_1048 rfl ?_
  refine z_iconst dLaw_law_1050 ?_
  refine z_iadd dLaw_law_1051 ?_
  refine z_sld (by omega) dLaw_law_1052 ?_
  refine z_callV (bc' := bc - 6 - 17) (bs' := bs - 36 - 976) MV_Mod_copy lk_Law_234 dLaw_law_1053 (k_Mod_copy H1 (zX9_r (xs := xs) (i + 1)) (zX9_r (xs := xs) (i + 2)) h16) rfl rfl (Nat.le_of_ble_eq_true rfl) rfl H1.2.1 (Nat.le_of_ble_eq_true rfl) (Nat.le_of_ble_eq_true rfl) (by omega) (by omega) (fun _ _ q => q.elim) ?_
  rintro _ h2 ⟨ma2, th2, z6, rfl, m0, H2, F2, A2, e6⟩
  refine z_istore dLaw_law_1056 (Nat.le_of_ble_eq_true rfl) ?_
  refine z_goto (tgt := 2138) dLaw_law_1058 (by decide) ?_
  exact K _ _ h2 ma2 _ _ _ (zLi.fin C1 eo1 n1 n2 n3 H2 F2 A2 (ok_copy hO) (oka_copy oka)) m0 (by omega) (by omega)
theorem c_Law_17 {ou : Nat} {i : Int} {y5 y6 : Option Value} (I : zLi G h ad ma ou S) (hi : 0 ≤ i ∧ i + 4 ≤ L) (hb1 : 210 ≤ bc) (hb2 : 12100 ≤ bs) (K : zLK G l b L xs ad ma ou i bc bs) : zR G l (zLJ G b L xs) bc bs h 1061 [some (.ref b), some (.ref (ad 0)), some (.ref (ma 0)), some (.ref ou), some (zi i), y5, y6] [] := by
  obtain ⟨th, n0, sv, hC, hM, hO, oka, eo, n1, n2, n3⟩ := I
  have h16 : ∀ k, k < 4 → (S.1 k).length ≤ 16 := fun k hk => (hC.ls hk).len
  have x1 := zX9_r (xs := xs) (i + 1)
  have x2 := zX9_r (xs := xs) (i + 2)
  have x3 := zX9_r (xs := xs) (i + 3)
  refine z_aload_n dLaw_law_1061 rfl ?_
  refine z_aload_n dLaw_law_1062 rfl ?_
  refine z_iload dLaw_law_1063 rfl ?_
  refine z_iconst dLaw_law_1065 ?_
  refine z_iadd dLaw_law_1066 ?_
  refine z_sld (by omega) dLaw_law_1067 ?_
  refine z_aload_n dLaw_law_1068 rfl ?_
  refine z_iload dLaw_law_1069 rfl ?_
  refine z_iconst dLaw_law_1071 ?_
  refine z_iadd dLaw_law_1072 ?_
  refine z_sld (by omega) dLaw_law_1073 ?_
  refine z_aload_n dLaw_law_1074 rfl ?_
  refine z_callSX (bc' := bc - 6) (bs' := bs - 36) MW_Law_places lk_Law_235 dLaw_law_1075 (k_Law_places hC (zX9_r (xs := xs) (i + 1)) (zX9_r (xs := xs) (i + 2)) eo n1) rfl rfl (Nat.le_of_ble_eq_true rfl) (Nat.le_of_ble_eq_true rfl) (Nat.le_of_ble_eq_true rfl) (by omega) (by omega) (fun _ _ q => q.elim) ?_
  rintro _ h1 ⟨k5, z5, sv5, rfl, C1, f1, eo1, e5⟩
  have H1 : zMod G h1 ma S th := hM.mid n2 n3 f1
  refine z_istore dLaw_law_1078 (Nat.le_of_ble_eq_true rfl) ?_
  refine z_aload_n dLaw_law_1080 rfl ?_
  refine z_aload_n dLaw_law_1081 rfl ?_
  refine z_iload dLaw_law_1082 rfl ?_
  refine z_iconst dLaw_law_1084 ?_
  refine z_iadd dLaw_law_1085 ?_
  refine z_sld (by omega) dLaw_law_1086 ?_
  refine z_aload_n dLaw_law_1087 rfl ?_
  refine z_iload dLaw_law_1088 rfl ?_
  refine z_iconst dLaw_law_1090 ?_
  refine z_iadd dLaw_law_1091 ?_
  refine z_sld (by omega) dLaw_law_1092 ?_
  refine z_callV (bc' := bc - 6 - 1) (bs' := bs - 36 - 16) MV_Mod_places lk_Law_237 dLaw_law_1093 (k_Mod_places H1 (zX9_r (xs := xs) (i + 1)) (zX9_r (xs := xs) (i + 2)) h16) rfl rfl (Nat.le_of_ble_eq_true rfl) rfl H1.2.1 (Nat.le_of_ble_eq_true rfl) (Nat.le_of_ble_eq_true rfl) (by omega) (by omega) (fun _ _ q => q.elim) ?_
  rintro _ h2 ⟨ma2, th2, z6, rfl, m0, H2, F2, A2, e6⟩
  refine z_istore dLaw_law_1096 (Nat.le_of_ble_eq_true rfl) ?_
  refine z_goto (tgt := 2138) dLaw_law_1098 (by decide) ?_
  exact K _ _ h2 ma2 _ _ _ (zLi.fin C1 eo1 n1 n2 n3 H2 F2 A2 (ok_places hO) (oka_places oka)) m0 (by omega) (by omega)
theorem c_Law_18 {ou : Nat} {i : Int} {y5 y6 : Option Value} (I : zLi G h ad ma ou S) (hi : 0 ≤ i ∧ i + 4 ≤ L) (hb1 : 210 ≤ bc) (hb2 : 12100 ≤ bs) (K : zLK G l b L xs ad ma ou i bc bs) : zR G l (zLJ G b L xs) bc bs h 1101 [some (.ref b), some (.ref (ad 0)), some (.ref (ma 0)), some (.ref ou), some (zi i), y5, y6] [] := by
  obtain ⟨th, n0, sv, hC, hM, hO, oka, eo, n1, n2, n3⟩ := I
  have h16 : ∀ k, k < 4 → (S.1 k).length ≤ 16 := fun k hk => (hC.ls hk).len
  have x1 := zX9_r (xs := xs) (i + 1)
  have x2 := zX9_r (xs := xs) (i + 2)
  have x3 := zX9_r (xs := xs) (i + 3)
  refine z_aload_n dLaw_law_1101 rfl ?_
  refine z_aload_n dLaw_law_1102 rfl ?_
  refine z_iload dLaw_law_1103 rfl ?_
  refine z_iconst dLaw_law_1105 ?_
  refine z_iadd dLaw_law_1106 ?_
  refine z_sld (by omega) dLaw_law_1107 ?_
  refine z_aload_n dLaw_law_1108 rfl ?_
  refine z_iload dLaw_law_1109 rfl ?_
  refine z_iconst dLaw_law_1111 ?_
  refine z_iadd dLaw_law_1112 ?_
  refine z_sld (by omega) dLaw_law_1113 ?_
  refine z_aload_n dLaw_law_1114 rfl ?_
  refine z_callSX (bc' := bc - 6) (bs' := bs - 36) MW_Law_rotate lk_Law_238 dLaw_law_1115 (k_Law_rotate hC (zX9_r (xs := xs) (i + 1)) (zX9_r (xs := xs) (i + 2)) eo n1) rfl rfl (Nat.le_of_ble_eq_true rfl) (Nat.le_of_ble_eq_true rfl) (Nat.le_of_ble_eq_true rfl) (by omega) (by omega) (fun _ _ q => q.elim) ?_
  rintro _ h1 ⟨k5, z5, sv5, rfl, C1, f1, eo1, e5⟩
  have H1 : zMod G h1 ma S th := hM.mid n2 n3 f1
  refine z_istore dLaw_law_1118 (Nat.le_of_ble_eq_true rfl) ?_
  refine z_aload_n dLaw_law_1120 rfl ?_
  refine z_aload_n dLaw_law_1121 rfl ?_
  refine z_iload dLaw_law_1122 rfl ?_
  refine z_iconst dLaw_law_1124 ?_
  refine z_iadd dLaw_law_1125 ?_
  refine z_sld (by omega) dLaw_law_1126 ?_
  refine z_aload_n dLaw_law_1127 rfl ?_
  refine z_iload dLaw_law_1128 rfl ?_
  refine z_iconst dLaw_law_1130 ?_
  refine z_iadd dLaw_law_1131 ?_
  refine z_sld (by omega) dLaw_law_1132 ?_
  refine z_callV (bc' := bc - 6 - 198) (bs' := bs - 36 - 11979) MV_Mod_rotate lk_Law_240 dLaw_law_1133 (k_Mod_rotate H1 (zX9_r (xs := xs) (i + 1)) (zX9_r (xs := xs) (i + 2)) h16) rfl rfl (Nat.le_of_ble_eq_true rfl) rfl H1.2.1 (Nat.le_of_ble_eq_true rfl) (Nat.le_of_ble_eq_true rfl) (by omega) (by omega) (fun _ _ q => q.elim) ?_
  rintro _ h2 ⟨ma2, th2, z6, rfl, m0, H2, F2, A2, e6⟩
  refine z_istore dLaw_law_1136 (Nat.le_of_ble_eq_true rfl) ?_
  refine z_goto (tgt := 2138) dLaw_law_1138 (by decide) ?_
  exact K _ _ h2 ma2 _ _ _ (zLi.fin C1 eo1 n1 n2 n3 H2 F2 A2 (ok_rotate hO) (oka_rotate oka)) m0 (by omega) (by omega)
theorem c_Law_19 {ou : Nat} {i : Int} {y5 y6 : Option Value} (I : zLi G h ad ma ou S) (hi : 0 ≤ i ∧ i + 4 ≤ L) (hb1 : 210 ≤ bc) (hb2 : 12100 ≤ bs) (K : zLK G l b L xs ad ma ou i bc bs) : zR G l (zLJ G b L xs) bc bs h 1141 [some (.ref b), some (.ref (ad 0)), some (.ref (ma 0)), some (.ref ou), some (zi i), y5, y6] [] := by
  obtain ⟨th, n0, sv, hC, hM, hO, oka, eo, n1, n2, n3⟩ := I
  have h16 : ∀ k, k < 4 → (S.1 k).length ≤ 16 := fun k hk => (hC.ls hk).len
  have x1 := zX9_r (xs := xs) (i + 1)
  have x2 := zX9_r (xs := xs) (i + 2)
  have x3 := zX9_r (xs := xs) (i + 3)
  refine z_aload_n dLaw_law_1141 rfl ?_
  refine z_aload_n dLaw_law_1142 rfl ?_
  refine z_iload dLaw_law_1143 rfl ?_
  refine z_iconst dLaw_law_1145 ?_
  refine z_iadd dLaw_law_1146 ?_
  refine z_sld (by omega) dLaw_law_1147 ?_
  refine z_aload_n dLaw_law_1148 rfl ?_
  refine z_iload dLaw_law_1149 rfl ?_
  refine z_iconst dLaw_law_1151 ?_
  refine z_iadd dLaw_law_1152 ?_
  refine z_sld (by omega) dLaw_law_1153 ?_
  refine z_aload_n dLaw_law_1154 rfl ?_
  refine z_iload dLaw_law_1155 rfl ?_
  refine z_iconst dLaw_law_1157 ?_
  refine z_iadd dLaw_law_1158 ?_
  refine z_sld (by omega) dLaw_law_1159 ?_
  refine z_aload_n dLaw_law_1160 rfl ?_
  refine z_callSX (bc' := bc - 6) (bs' := bs - 36) MW_Law_move lk_Law_241 dLaw_law_1161 (k_Law_move hC (zX9_r (xs := xs) (i + 1)) (zX9_r (xs := xs) (i + 2)) (zX9_r (xs := xs) (i + 3)) eo n1) rfl rfl (Nat.le_of_ble_eq_true rfl) (Nat.le_of_ble_eq_true rfl) (Nat.le_of_ble_eq_true rfl) (by omega) (by omega) (fun _ _ q => q.elim) ?_
  rintro _ h1 ⟨k5, z5, sv5, rfl, C1, f1, eo1, e5⟩
  have H1 : zMod G h1 ma S th := hM.mid n2 n3 f1
  refine z_istore dLaw_law_1164 (Nat.le_of_ble_eq_true rfl) ?_
  refine z_aload_n dLaw_law_1166 rfl ?_
  refine z_aload_n dLaw_law_1167 rfl ?_
  refine z_iload dLaw_law_1168 rfl ?_
  refine z_iconst dLaw_law_1170 ?_
  refine z_iadd dLaw_law_1171 ?_
  refine z_sld (by omega) dLaw_law_1172 ?_
  refine z_aload_n dLaw_law_1173 rfl ?_
  refine z_iload dLaw_law_1174 rfl ?_
  refine z_iconst dLaw_law_1176 ?_
  refine z_iadd dLaw_law_1177 ?_
  refine z_sld (by omega) dLaw_law_1178 ?_
  refine z_aload_n dLaw_law_1179 rfl ?_
  refine z_iload dLaw_law_1180 rfl ?_
  refine z_iconst dLaw_law_1182 ?_
  refine z_iadd dLaw_law_1183 ?_
  refine z_sld (by omega) dLaw_law_1184 ?_
  refine z_callV (bc' := bc - 6 - 2) (bs' := bs - 36 - 121) MV_Mod_move lk_Law_243 dLaw_law_1185 (k_Mod_move H1 (zX9_r (xs := xs) (i + 1)) (zX9_r (xs := xs) (i + 2)) (zX9_r (xs := xs) (i + 3)) h16) rfl rfl (Nat.le_of_ble_eq_true rfl) rfl H1.2.1 (Nat.le_of_ble_eq_true rfl) (Nat.le_of_ble_eq_true rfl) (by omega) (by omega) (fun _ _ q => q.elim) ?_
  rintro _ h2 ⟨ma2, th2, z6, rfl, m0, H2, F2, A2, e6⟩
  refine z_istore dLaw_law_1188 (Nat.le_of_ble_eq_true rfl) ?_
  refine z_goto (tgt := 2138) dLaw_law_1190 (by decide) ?_
  exact K _ _ h2 ma2 _ _ _ (zLi.fin C1 eo1 n1 n2 n3 H2 F2 A2 (ok_move hO) (oka_move oka)) m0 (by omega) (by omega)
theorem c_Law_20 {ou : Nat} {i : Int} {y5 y6 : Option Value} (I : zLi G h ad ma ou S) (hi : 0 ≤ i ∧ i + 4 ≤ L) (hb1 : 210 ≤ bc) (hb2 : 12100 ≤ bs) (K : zLK G l b L xs ad ma ou i bc bs) : zR G l (zLJ G b L xs) bc bs h 1193 [some (.ref b), some (.ref (ad 0)), some (.ref (ma 0)), some (.ref ou), some (zi i), y5, y6] [] := by
  obtain ⟨th, n0, sv, hC, hM, hO, oka, eo, n1, n2, n3⟩ := I
  have h16 : ∀ k, k < 4 → (S.1 k).length ≤ 16 := fun k hk => (hC.ls hk).len
  have x1 := zX9_r (xs := xs) (i + 1)
  have x2 := zX9_r (xs := xs) (i + 2)
  have x3 := zX9_r (xs := xs) (i + 3)
  refine z_aload_n dLaw_law_1193 rfl ?_
  refine z_aload_n dLaw_law_1194 rfl ?_
  refine z_iload dLaw_law_1195 rfl ?_
  refine z_iconst dLaw_law_1197 ?_
  refine z_iadd dLaw_law_1198 ?_
  refine z_sld (by omega) dLaw_law_1199 ?_
  refine z_aload_n dLaw_law_1200 rfl ?_
  refine z_iload dLaw_law_1201 rfl ?_
  refine z_iconst dLaw_law_1203 ?_
  refine z_iadd dLaw_law_1204 ?_
  refine z_sld (by omega) dLaw_law_1205 ?_
  refine z_aload_n dLaw_law_1206 rfl ?_
  refine z_iload dLaw_law_1207 rfl ?_
  refine z_iconst dLaw_law_1209 ?_
  refine z_iadd dLaw_law_1210 ?_
  refine z_sld (by omega) dLaw_law_1211 ?_
  refine z_aload_n dLaw_law_1212 rfl ?_
  refine z_callSX (bc' := bc - 6) (bs' := bs - 36) MW_Law_swap lk_Law_244 dLaw_law_1213 (k_Law_swap hC (zX9_r (xs := xs) (i + 1)) (zX9_r (xs := xs) (i + 2)) (zX9_r (xs := xs) (i + 3)) eo n1) rfl rfl (Nat.le_of_ble_eq_true rfl) (Nat.le_of_ble_eq_true rfl) (Nat.le_of_ble_eq_true rfl) (by omega) (by omega) (fun _ _ q => q.elim) ?_
  rintro _ h1 ⟨k5, z5, sv5, rfl, C1, f1, eo1, e5⟩
  have H1 : zMod G h1 ma S th := hM.mid n2 n3 f1
  refine z_istore dLaw_law_1216 (Nat.le_of_ble_eq_true rfl) ?_
  refine z_aload_n dLaw_law_1218 rfl ?_
  refine z_aload_n dLaw_law_1219 rfl ?_
  refine z_iload dLaw_law_1220 rfl ?_
  refine z_iconst dLaw_law_1222 ?_
  refine z_iadd dLaw_law_1223 ?_
  refine z_sld (by omega) dLaw_law_1224 ?_
  refine z_aload_n dLaw_law_1225 rfl ?_
  refine z_iload dLaw_law_1226 rfl ?_
  refine z_iconst dLaw_law_1228 ?_
  refine z_iadd dLaw_law_1229 ?_
  refine z_sld (by omega) dLaw_law_1230 ?_
  refine z_aload_n dLaw_law_1231 rfl ?_
  refine z_iload dLaw_law_1232 rfl ?_
  refine z_iconst dLaw_law_1234 ?_
  refine z_iadd dLaw_law_1235 ?_
  refine z_sld (by omega) dLaw_law_1236 ?_
  refine z_callV (bc' := bc - 6 - 0) (bs' := bs - 36 - 0) MV_Mod_swap lk_Law_246 dLaw_law_1237 (k_Mod_swap H1 (zX9_r (xs := xs) (i + 1)) (zX9_r (xs := xs) (i + 2)) (zX9_r (xs := xs) (i + 3)) h16) rfl rfl (Nat.le_of_ble_eq_true rfl) rfl H1.2.1 (Nat.le_of_ble_eq_true rfl) (Nat.le_of_ble_eq_true rfl) (by omega) (by omega) (fun _ _ q => q.elim) ?_
  rintro _ h2 ⟨ma2, th2, z6, rfl, m0, H2, F2, A2, e6⟩
  refine z_istore dLaw_law_1240 (Nat.le_of_ble_eq_true rfl) ?_
  refine z_goto (tgt := 2138) dLaw_law_1242 (by decide) ?_
  exact K _ _ h2 ma2 _ _ _ (zLi.fin C1 eo1 n1 n2 n3 H2 F2 A2 (ok_swap hO) (oka_swap oka)) m0 (by omega) (by omega)
theorem c_Law_21 {ou : Nat} {i : Int} {y5 y6 : Option Value} (I : zLi G h ad ma ou S) (hi : 0 ≤ i ∧ i + 4 ≤ L) (hb1 : 210 ≤ bc) (hb2 : 12100 ≤ bs) (K : zLK G l b L xs ad ma ou i bc bs) : zR G l (zLJ G b L xs) bc bs h 1245 [some (.ref b), some (.ref (ad 0)), some (.ref (ma 0)), some (.ref ou), some (zi i), y5, y6] [] := by
  obtain ⟨th, n0, sv, hC, hM, hO, oka, eo, n1, n2, n3⟩ := I
  have h16 : ∀ k, k < 4 → (S.1 k).length ≤ 16 := fun k hk => (hC.ls hk).len
  have x1 := zX9_r (xs := xs) (i + 1)
  have x2 := zX9_r (xs := xs) (i + 2)
  have x3 := zX9_r (xs := xs) (i + 3)
  refine z_aload_n dLaw_law_1245 rfl ?_
  refine z_aload_n dLaw_law_1246 rfl ?_
  refine z_iload dLaw_law_1247 rfl ?_
  refine z_iconst dLaw_law_1249 ?_
  refine z_iadd dLaw_law_1250 ?_
  refine z_sld (by omega) dLaw_law_1251 ?_
  refine z_aload_n dLaw_law_1252 rfl ?_
  refine z_callSX (bc' := bc - 6) (bs' := bs - 36) MW_Law_reverse lk_Law_247 dLaw_law_1253 (k_Law_reverse hC (zX9_r (xs := xs) (i + 1)) eo n1) rfl rfl (Nat.le_of_ble_eq_true rfl) (Nat.le_of_ble_eq_true rfl) (Nat.le_of_ble_eq_true rfl) (by omega) (by omega) (fun _ _ q => q.elim) ?_
  rintro _ h1 ⟨k5, z5, sv5, rfl, C1, f1, eo1, e5⟩
  have H1 : zMod G h1 ma S th := hM.mid n2 n3 f1
  refine z_istore dLaw_law_1256 (Nat.le_of_ble_eq_true rfl) ?_
  refine z_aload_n dLaw_law_1258 rfl ?_
  refine z_aload_n dLaw_law_1259 rfl ?_
  refine z_iload dLaw_law_1260 rfl ?_
  refine z_iconst dLaw_law_1262 ?_
  refine z_iadd dLaw_law_1263 ?_
  refine z_sld (by omega) dLaw_law_1264 ?_
  refine z_callV (bc' := bc - 6 - 1) (bs' := bs - 36 - 61) MV_Mod_reverse lk_Law_249 dLaw_law_1265 (k_Mod_reverse H1 (zX9_r (xs := xs) (i + 1)) h16) rfl rfl (Nat.le_of_ble_eq_true rfl) rfl H1.2.1 (Nat.le_of_ble_eq_true rfl) (Nat.le_of_ble_eq_true rfl) (by omega) (by omega) (fun _ _ q => q.elim) ?_
  rintro _ h2 ⟨ma2, th2, z6, rfl, m0, H2, F2, A2, e6⟩
  refine z_istore dLaw_law_1268 (Nat.le_of_ble_eq_true rfl) ?_
  refine z_goto (tgt := 2138) dLaw_law_1270 (by decide) ?_
  exact K _ _ h2 ma2 _ _ _ (zLi.fin C1 eo1 n1 n2 n3 H2 F2 A2 (ok_reverse hO) (oka_reverse oka)) m0 (by omega) (by omega)
theorem c_Law_22 {ou : Nat} {i : Int} {y5 y6 : Option Value} (I : zLi G h ad ma ou S) (hi : 0 ≤ i ∧ i + 4 ≤ L) (hb1 : 210 ≤ bc) (hb2 : 12100 ≤ bs) (K : zLK G l b L xs ad ma ou i bc bs) : zR G l (zLJ G b L xs) bc bs h 1273 [some (.ref b), some (.ref (ad 0)), some (.ref (ma 0)), some (.ref ou), some (zi i), y5, y6] [] := by
  obtain ⟨th, n0, sv, hC, hM, hO, oka, eo, n1, n2, n3⟩ := I
  have h16 : ∀ k, k < 4 → (S.1 k).length ≤ 16 := fun k hk => (hC.ls hk).len
  have x1 := zX9_r (xs := xs) (i + 1)
  have x2 := zX9_r (xs := xs) (i + 2)
  have x3 := zX9_r (xs := xs) (i + 3)
  refine z_aload_n dLaw_law_1273 rfl ?_
  refine z_aload_n dLaw_law_1274 rfl ?_
  refine z_iload dLaw_law_1275 rfl ?_
  refine z_iconst dLaw_law_1277 ?_
  refine z_iadd dLaw_law_1278 ?_
  refine z_sld (by omega) dLaw_law_1279 ?_
  refine z_aload_n dLaw_law_1280 rfl ?_
  refine z_iload dLaw_law_1281 rfl ?_
  refine z_iconst dLaw_law_1283 ?_
  refine z_iadd dLaw_law_1284 ?_
  refine z_sld (by omega) dLaw_law_1285 ?_
  refine z_aload_n dLaw_law_1286 rfl ?_
  refine z_iload dLaw_law_1287 rfl ?_
  refine z_iconst dLaw_law_1289 ?_
  refine z_iadd dLaw_law_1290 ?_
  refine z_sld (by omega) dLaw_law_1291 ?_
  refine z_aload_n dLaw_law_1292 rfl ?_
  refine z_callSX (bc' := bc - 6) (bs' := bs - 36) MW_Law_through lk_Law_250 dLaw_law_1293 (k_Law_through hC (zX9_r (xs := xs) (i + 1)) (zX9_r (xs := xs) (i + 2)) (zX9_r (xs := xs) (i + 3)) eo n1) rfl rfl (Nat.le_of_ble_eq_true rfl) (Nat.le_of_ble_eq_true rfl) (Nat.le_of_ble_eq_true rfl) (by omega) (by omega) (fun _ _ q => q.elim) ?_
  rintro _ h1 ⟨k5, z5, sv5, rfl, C1, f1, eo1, e5⟩
  have H1 : zMod G h1 ma S th := hM.mid n2 n3 f1
  refine z_istore dLaw_law_1296 (Nat.le_of_ble_eq_true rfl) ?_
  refine z_aload_n dLaw_law_1298 rfl ?_
  refine z_aload_n dLaw_law_1299 rfl ?_
  refine z_iload dLaw_law_1300 rfl ?_
  refine z_iconst dLaw_law_1302 ?_
  refine z_iadd dLaw_law_1303 ?_
  refine z_sld (by omega) dLaw_law_1304 ?_
  refine z_aload_n dLaw_law_1305 rfl ?_
  refine z_iload dLaw_law_1306 rfl ?_
  refine z_iconst dLaw_law_1308 ?_
  refine z_iadd dLaw_law_1309 ?_
  refine z_sld (by omega) dLaw_law_1310 ?_
  refine z_aload_n dLaw_law_1311 rfl ?_
  refine z_iload dLaw_law_1312 rfl ?_
  refine z_iconst dLaw_law_1314 ?_
  refine z_iadd dLaw_law_1315 ?_
  refine z_sld (by omega) dLaw_law_1316 ?_
  refine z_callV (bc' := bc - 6 - 1) (bs' := bs - 36 - 16) MV_Mod_through lk_Law_252 dLaw_law_1317 (k_Mod_through H1 (zX9_r (xs := xs) (i + 1)) (zX9_r (xs := xs) (i + 2)) (zX9_r (xs := xs) (i + 3)) h16) rfl rfl (Nat.le_of_ble_eq_true rfl) rfl H1.2.1 (Nat.le_of_ble_eq_true rfl) (Nat.le_of_ble_eq_true rfl) (by omega) (by omega) (fun _ _ q => q.elim) ?_
  rintro _ h2 ⟨ma2, th2, z6, rfl, m0, H2, F2, A2, e6⟩
  refine z_istore dLaw_law_1320 (Nat.le_of_ble_eq_true rfl) ?_
  refine z_goto (tgt := 2138) dLaw_law_1322 (by decide) ?_
  exact K _ _ h2 ma2 _ _ _ (zLi.fin C1 eo1 n1 n2 n3 H2 F2 A2 (ok_through hO) (oka_through oka)) m0 (by omega) (by omega)
theorem c_Law_23 {ou : Nat} {i : Int} {y5 y6 : Option Value} (I : zLi G h ad ma ou S) (hi : 0 ≤ i ∧ i + 4 ≤ L) (hb1 : 210 ≤ bc) (hb2 : 12100 ≤ bs) (K : zLK G l b L xs ad ma ou i bc bs) : zR G l (zLJ G b L xs) bc bs h 1325 [some (.ref b), some (.ref (ad 0)), some (.ref (ma 0)), some (.ref ou), some (zi i), y5, y6] [] := by
  obtain ⟨th, n0, sv, hC, hM, hO, oka, eo, n1, n2, n3⟩ := I
  have h16 : ∀ k, k < 4 → (S.1 k).length ≤ 16 := fun k hk => (hC.ls hk).len
  have x1 := zX9_r (xs := xs) (i + 1)
  have x2 := zX9_r (xs := xs) (i + 2)
  have x3 := zX9_r (xs := xs) (i + 3)
  refine z_aload_n dLaw_law_1325 rfl ?_
  refine z_aload_n dLaw_law_1326 rfl ?_
  refine z_iload dLaw_law_1327 rfl ?_
  refine z_iconst dLaw_law_1329 ?_
  refine z_iadd dLaw_law_1330 ?_
  refine z_sld (by omega) dLaw_law_1331 ?_
  refine z_aload_n dLaw_law_1332 rfl ?_
  refine z_iload dLaw_law_1333 rfl ?_
  refine z_iconst dLaw_law_1335 ?_
  refine z_iadd dLaw_law_1336 ?_
  refine z_sld (by omega) dLaw_law_1337 ?_
  refine z_aload_n dLaw_law_1338 rfl ?_
  refine z_callSX (bc' := bc - 6) (bs' := bs - 36) MW_Law_areSame lk_Law_253 dLaw_law_1339 (k_Law_areSame hC (zX9_r (xs := xs) (i + 1)) (zX9_r (xs := xs) (i + 2)) eo n1) rfl rfl (Nat.le_of_ble_eq_true rfl) (Nat.le_of_ble_eq_true rfl) (Nat.le_of_ble_eq_true rfl) (by omega) (by omega) (fun _ _ q => q.elim) ?_
  rintro _ h1 ⟨k5, z5, sv5, rfl, C1, f1, eo1, e5⟩
  have H1 : zMod G h1 ma S th := hM.mid n2 n3 f1
  refine z_istore dLaw_law_1342 (Nat.le_of_ble_eq_true rfl) ?_
  refine z_aload_n dLaw_law_1344 rfl ?_
  refine z_aload_n dLaw_law_1345 rfl ?_
  refine z_iload dLaw_law_1346 rfl ?_
  refine z_iconst dLaw_law_1348 ?_
  refine z_iadd dLaw_law_1349 ?_
  refine z_sld (by omega) dLaw_law_1350 ?_
  refine z_aload_n dLaw_law_1351 rfl ?_
  refine z_iload dLaw_law_1352 rfl ?_
  refine z_iconst dLaw_law_1354 ?_
  refine z_iadd dLaw_law_1355 ?_
  refine z_sld (by omega) dLaw_law_1356 ?_
  refine z_callV (bc' := bc - 6 - 0) (bs' := bs - 36 - 0) MV_Mod_areSame lk_Law_255 dLaw_law_1357 (k_Mod_areSame H1 (zX9_r (xs := xs) (i + 1)) (zX9_r (xs := xs) (i + 2))) rfl rfl (Nat.le_of_ble_eq_true rfl) rfl H1.2.1 (Nat.le_of_ble_eq_true rfl) (Nat.le_of_ble_eq_true rfl) (by omega) (by omega) (fun _ _ q => q.elim) ?_
  rintro _ h2 ⟨ma2, th2, z6, rfl, m0, H2, F2, A2, e6⟩
  refine z_istore dLaw_law_1360 (Nat.le_of_ble_eq_true rfl) ?_
  refine z_goto (tgt := 2138) dLaw_law_1362 (by decide) ?_
  exact K _ _ h2 ma2 _ _ _ (zLi.fin C1 eo1 n1 n2 n3 H2 F2 A2 (ok_areSame hO) (oka_areSame oka)) m0 (by omega) (by omega)
theorem c_Law_24 {ou : Nat} {i : Int} {y5 y6 : Option Value} (I : zLi G h ad ma ou S) (hi : 0 ≤ i ∧ i + 4 ≤ L) (hb1 : 210 ≤ bc) (hb2 : 12100 ≤ bs) (K : zLK G l b L xs ad ma ou i bc bs) : zR G l (zLJ G b L xs) bc bs h 1365 [some (.ref b), some (.ref (ad 0)), some (.ref (ma 0)), some (.ref ou), some (zi i), y5, y6] [] := by
  obtain ⟨th, n0, sv, hC, hM, hO, oka, eo, n1, n2, n3⟩ := I
  have h16 : ∀ k, k < 4 → (S.1 k).length ≤ 16 := fun k hk => (hC.ls hk).len
  have x1 := zX9_r (xs := xs) (i + 1)
  have x2 := zX9_r (xs := xs) (i + 2)
  have x3 := zX9_r (xs := xs) (i + 3)
  refine z_aload_n dLaw_law_1365 rfl ?_
  refine z_aload_n dLaw_law_1366 rfl ?_
  refine z_iload dLaw_law_1367 rfl ?_
  refine z_iconst dLaw_law_1369 ?_
  refine z_iadd dLaw_law_1370 ?_
  refine z_sld (by omega) dLaw_law_1371 ?_
  refine z_aload_n dLaw_law_1372 rfl ?_
  refine z_callSX (bc' := bc - 6) (bs' := bs - 36) MW_Law_isMirror lk_Law_256 dLaw_law_1373 (k_Law_isMirror hC (zX9_r (xs := xs) (i + 1)) eo n1) rfl rfl (Nat.le_of_ble_eq_true rfl) (Nat.le_of_ble_eq_true rfl) (Nat.le_of_ble_eq_true rfl) (by omega) (by omega) (fun _ _ q => q.elim) ?_
  rintro _ h1 ⟨k5, z5, sv5, rfl, C1, f1, eo1, e5⟩
  have H1 : zMod G h1 ma S th := hM.mid n2 n3 f1
  refine z_istore dLaw_law_1376 (Nat.le_of_ble_eq_true rfl) ?_
  refine z_aload_n dLaw_law_1378 rfl ?_
  refine z_aload_n dLaw_law_1379 rfl ?_
  refine z_iload dLaw_law_1380 rfl ?_
  refine z_iconst dLaw_law_1382 ?_
  refine z_iadd dLaw_law_1383 ?_
  refine z_sld (by omega) dLaw_law_1384 ?_
  refine z_callV (bc' := bc - 6 - 1) (bs' := bs - 36 - 61) MV_Mod_isMirror lk_Law_258 dLaw_law_1385 (k_Mod_isMirror H1 (zX9_r (xs := xs) (i + 1)) h16) rfl rfl (Nat.le_of_ble_eq_true rfl) rfl H1.2.1 (Nat.le_of_ble_eq_true rfl) (Nat.le_of_ble_eq_true rfl) (by omega) (by omega) (fun _ _ q => q.elim) ?_
  rintro _ h2 ⟨ma2, th2, z6, rfl, m0, H2, F2, A2, e6⟩
  refine z_istore dLaw_law_1388 (Nat.le_of_ble_eq_true rfl) ?_
  refine z_goto (tgt := 2138) dLaw_law_1390 (by decide) ?_
  exact K _ _ h2 ma2 _ _ _ (zLi.fin C1 eo1 n1 n2 n3 H2 F2 A2 (ok_isMirror hO) (oka_isMirror oka)) m0 (by omega) (by omega)
theorem c_Law_25 {ou : Nat} {i : Int} {y5 y6 : Option Value} (I : zLi G h ad ma ou S) (hi : 0 ≤ i ∧ i + 4 ≤ L) (hb1 : 210 ≤ bc) (hb2 : 12100 ≤ bs) (K : zLK G l b L xs ad ma ou i bc bs) : zR G l (zLJ G b L xs) bc bs h 1393 [some (.ref b), some (.ref (ad 0)), some (.ref (ma 0)), some (.ref ou), some (zi i), y5, y6] [] := by
  obtain ⟨th, n0, sv, hC, hM, hO, oka, eo, n1, n2, n3⟩ := I
  have h16 : ∀ k, k < 4 → (S.1 k).length ≤ 16 := fun k hk => (hC.ls hk).len
  have x1 := zX9_r (xs := xs) (i + 1)
  have x2 := zX9_r (xs := xs) (i + 2)
  have x3 := zX9_r (xs := xs) (i + 3)
  refine z_aload_n dLaw_law_1393 rfl ?_
  refine z_aload_n dLaw_law_1394 rfl ?_
  refine z_iload dLaw_law_1395 rfl ?_
  refine z_iconst dLaw_law_1397 ?_
  refine z_iadd dLaw_law_1398 ?_
  refine z_sld (by omega) dLaw_law_1399 ?_
  refine z_aload_n dLaw_law_1400 rfl ?_
  refine z_iload dLaw_law_1401 rfl ?_
  refine z_iconst dLaw_law_1403 ?_
  refine z_iadd dLaw_law_1404 ?_
  refine z_sld (by omega) dLaw_law_1405 ?_
  refine z_aload_n dLaw_law_1406 rfl ?_
  refine z_iload dLaw_law_1407 rfl ?_
  refine z_iconst dLaw_law_1409 ?_
  refine z_iadd dLaw_law_1410 ?_
  refine z_sld (by omega) dLaw_law_1411 ?_
  refine z_aload_n dLaw_law_1412 rfl ?_
  refine z_callSX (bc' := bc - 6) (bs' := bs - 36) MW_Law_open lk_Law_259 dLaw_law_1413 (k_Law_open hC (zX9_r (xs := xs) (i + 1)) (zX9_r (xs := xs) (i + 2)) (zX9_r (xs := xs) (i + 3)) eo n1) rfl rfl (Nat.le_of_ble_eq_true rfl) (Nat.le_of_ble_eq_true rfl) (Nat.le_of_ble_eq_true rfl) (by omega) (by omega) (fun _ _ q => q.elim) ?_
  rintro _ h1 ⟨k5, z5, sv5, rfl, C1, f1, eo1, e5⟩
  have H1 : zMod G h1 ma S th := hM.mid n2 n3 f1
  refine z_istore dLaw_law_1416 (Nat.le_of_ble_eq_true rfl) ?_
  refine z_aload_n dLaw_law_1418 rfl ?_
  refine z_aload_n dLaw_law_1419 rfl ?_
  refine z_iload dLaw_law_1420 rfl ?_
  refine z_iconst dLaw_law_1422 ?_
  refine z_iadd dLaw_law_1423 ?_
  refine z_sld (by omega) dLaw_law_1424 ?_
  refine z_aload_n dLaw_law_1425 rfl ?_
  refine z_iload dLaw_law_1426 rfl ?_
  refine z_iconst dLaw_law_1428 ?_
  refine z_iadd dLaw_law_1429 ?_
  refine z_sld (by omega) dLaw_law_1430 ?_
  refine z_aload_n dLaw_law_1431 rfl ?_
  refine z_iload dLaw_law_1432 rfl ?_
  refine z_iconst dLaw_law_1434 ?_
  refine z_iadd dLaw_law_1435 ?_
  refine z_sld (by omega) dLaw_law_1436 ?_
  refine z_callV (bc' := bc - 6 - 0) (bs' := bs - 36 - 0) MV_Mod_open lk_Law_261 dLaw_law_1437 (k_Mod_open H1 (zX9_r (xs := xs) (i + 1)) (zX9_r (xs := xs) (i + 2)) (zX9_r (xs := xs) (i + 3)) h16) rfl rfl (Nat.le_of_ble_eq_true rfl) rfl H1.2.1 (Nat.le_of_ble_eq_true rfl) (Nat.le_of_ble_eq_true rfl) (by omega) (by omega) (fun _ _ q => q.elim) ?_
  rintro _ h2 ⟨ma2, th2, z6, rfl, m0, H2, F2, A2, e6⟩
  refine z_istore dLaw_law_1440 (Nat.le_of_ble_eq_true rfl) ?_
  refine z_goto (tgt := 2138) dLaw_law_1442 (by decide) ?_
  exact K _ _ h2 ma2 _ _ _ (zLi.fin C1 eo1 n1 n2 n3 H2 F2 A2 (ok_open hO h16) (oka_open oka)) m0 (by omega) (by omega)
theorem c_Law_26 {ou : Nat} {i : Int} {y5 y6 : Option Value} (I : zLi G h ad ma ou S) (hi : 0 ≤ i ∧ i + 4 ≤ L) (hb1 : 210 ≤ bc) (hb2 : 12100 ≤ bs) (K : zLK G l b L xs ad ma ou i bc bs) : zR G l (zLJ G b L xs) bc bs h 1445 [some (.ref b), some (.ref (ad 0)), some (.ref (ma 0)), some (.ref ou), some (zi i), y5, y6] [] := by
  obtain ⟨th, n0, sv, hC, hM, hO, oka, eo, n1, n2, n3⟩ := I
  have h16 : ∀ k, k < 4 → (S.1 k).length ≤ 16 := fun k hk => (hC.ls hk).len
  have x1 := zX9_r (xs := xs) (i + 1)
  have x2 := zX9_r (xs := xs) (i + 2)
  have x3 := zX9_r (xs := xs) (i + 3)
  refine z_aload_n dLaw_law_1445 rfl ?_
  refine z_aload_n dLaw_law_1446 rfl ?_
  refine z_iload dLaw_law_1447 rfl ?_
  refine z_iconst dLaw_law_1449 ?_
  refine z_iadd dLaw_law_1450 ?_
  refine z_sld (by omega) dLaw_law_1451 ?_
  refine z_aload_n dLaw_law_1452 rfl ?_
  refine z_callSX (bc' := bc - 6) (bs' := bs - 36) MW_Law_shut lk_Law_262 dLaw_law_1453 (k_Law_shut hC (zX9_r (xs := xs) (i + 1)) eo n1) rfl rfl (Nat.le_of_ble_eq_true rfl) (Nat.le_of_ble_eq_true rfl) (Nat.le_of_ble_eq_true rfl) (by omega) (by omega) (fun _ _ q => q.elim) ?_
  rintro _ h1 ⟨k5, z5, sv5, rfl, C1, f1, eo1, e5⟩
  have H1 : zMod G h1 ma S th := hM.mid n2 n3 f1
  refine z_istore dLaw_law_1456 (Nat.le_of_ble_eq_true rfl) ?_
  refine z_aload_n dLaw_law_1458 rfl ?_
  refine z_aload_n dLaw_law_1459 rfl ?_
  refine z_iload dLaw_law_1460 rfl ?_
  refine z_iconst dLaw_law_1462 ?_
  refine z_iadd dLaw_law_1463 ?_
  refine z_sld (by omega) dLaw_law_1464 ?_
  refine z_callV (bc' := bc - 6 - 0) (bs' := bs - 36 - 0) MV_Mod_shut lk_Law_264 dLaw_law_1465 (k_Mod_shut H1 (zX9_r (xs := xs) (i + 1)) h16) rfl rfl (Nat.le_of_ble_eq_true rfl) rfl H1.2.1 (Nat.le_of_ble_eq_true rfl) (Nat.le_of_ble_eq_true rfl) (by omega) (by omega) (fun _ _ q => q.elim) ?_
  rintro _ h2 ⟨ma2, th2, z6, rfl, m0, H2, F2, A2, e6⟩
  refine z_istore dLaw_law_1468 (Nat.le_of_ble_eq_true rfl) ?_
  refine z_goto (tgt := 2138) dLaw_law_1470 (by decide) ?_
  exact K _ _ h2 ma2 _ _ _ (zLi.fin C1 eo1 n1 n2 n3 H2 F2 A2 (ok_shut hO) (oka_shut oka)) m0 (by omega) (by omega)
theorem c_Law_27 {ou : Nat} {i : Int} {y5 y6 : Option Value} (I : zLi G h ad ma ou S) (hi : 0 ≤ i ∧ i + 4 ≤ L) (hb1 : 210 ≤ bc) (hb2 : 12100 ≤ bs) (K : zLK G l b L xs ad ma ou i bc bs) : zR G l (zLJ G b L xs) bc bs h 1473 [some (.ref b), some (.ref (ad 0)), some (.ref (ma 0)), some (.ref ou), some (zi i), y5, y6] [] := by
  obtain ⟨th, n0, sv, hC, hM, hO, oka, eo, n1, n2, n3⟩ := I
  have h16 : ∀ k, k < 4 → (S.1 k).length ≤ 16 := fun k hk => (hC.ls hk).len
  have x1 := zX9_r (xs := xs) (i + 1)
  have x2 := zX9_r (xs := xs) (i + 2)
  have x3 := zX9_r (xs := xs) (i + 3)
  refine z_aload_n dLaw_law_1473 rfl ?_
  refine z_aload_n dLaw_law_1474 rfl ?_
  refine z_iload dLaw_law_1475 rfl ?_
  refine z_iconst dLaw_law_1477 ?_
  refine z_iadd dLaw_law_1478 ?_
  refine z_sld (by omega) dLaw_law_1479 ?_
  refine z_aload_n dLaw_law_1480 rfl ?_
  refine z_callSX (bc' := bc - 6) (bs' := bs - 36) MW_Law_forth lk_Law_265 dLaw_law_1481 (k_Law_forth hO hC (zX9_r (xs := xs) (i + 1)) eo n1) rfl rfl (Nat.le_of_ble_eq_true rfl) (Nat.le_of_ble_eq_true rfl) (Nat.le_of_ble_eq_true rfl) (by omega) (by omega) (fun _ _ q => q.elim) ?_
  rintro _ h1 ⟨k5, z5, sv5, rfl, C1, f1, eo1, e5⟩
  have H1 : zMod G h1 ma S th := hM.mid n2 n3 f1
  refine z_istore dLaw_law_1484 (Nat.le_of_ble_eq_true rfl) ?_
  refine z_aload_n dLaw_law_1486 rfl ?_
  refine z_aload_n dLaw_law_1487 rfl ?_
  refine z_iload dLaw_law_1488 rfl ?_
  refine z_iconst dLaw_law_1490 ?_
  refine z_iadd dLaw_law_1491 ?_
  refine z_sld (by omega) dLaw_law_1492 ?_
  refine z_callV (bc' := bc - 6 - 0) (bs' := bs - 36 - 0) MV_Mod_forth lk_Law_267 dLaw_law_1493 (k_Mod_forth H1 (zX9_r (xs := xs) (i + 1)) hO h16) rfl rfl (Nat.le_of_ble_eq_true rfl) rfl H1.2.1 (Nat.le_of_ble_eq_true rfl) (Nat.le_of_ble_eq_true rfl) (by omega) (by omega) (fun _ _ q => q.elim) ?_
  rintro _ h2 ⟨ma2, th2, z6, rfl, m0, H2, F2, A2, e6⟩
  refine z_istore dLaw_law_1496 (Nat.le_of_ble_eq_true rfl) ?_
  refine z_goto (tgt := 2138) dLaw_law_1498 (by decide) ?_
  exact K _ _ h2 ma2 _ _ _ (zLi.fin C1 eo1 n1 n2 n3 H2 F2 A2 (ok_forth hO h16) (oka_forth oka)) m0 (by omega) (by omega)
theorem c_Law_28 {ou : Nat} {i : Int} {y5 y6 : Option Value} (I : zLi G h ad ma ou S) (hi : 0 ≤ i ∧ i + 4 ≤ L) (hb1 : 210 ≤ bc) (hb2 : 12100 ≤ bs) (K : zLK G l b L xs ad ma ou i bc bs) : zR G l (zLJ G b L xs) bc bs h 1501 [some (.ref b), some (.ref (ad 0)), some (.ref (ma 0)), some (.ref ou), some (zi i), y5, y6] [] := by
  obtain ⟨th, n0, sv, hC, hM, hO, oka, eo, n1, n2, n3⟩ := I
  have h16 : ∀ k, k < 4 → (S.1 k).length ≤ 16 := fun k hk => (hC.ls hk).len
  have x1 := zX9_r (xs := xs) (i + 1)
  have x2 := zX9_r (xs := xs) (i + 2)
  have x3 := zX9_r (xs := xs) (i + 3)
  refine z_aload_n dLaw_law_1501 rfl ?_
  refine z_aload_n dLaw_law_1502 rfl ?_
  refine z_iload dLaw_law_1503 rfl ?_
  refine z_iconst dLaw_law_1505 ?_
  refine z_iadd dLaw_law_1506 ?_
  refine z_sld (by omega) dLaw_law_1507 ?_
  refine z_aload_n dLaw_law_1508 rfl ?_
  refine z_callSX (bc' := bc - 6) (bs' := bs - 36) MW_Law_back lk_Law_268 dLaw_law_1509 (k_Law_back hO hC (zX9_r (xs := xs) (i + 1)) eo n1) rfl rfl (Nat.le_of_ble_eq_true rfl) (Nat.le_of_ble_eq_true rfl) (Nat.le_of_ble_eq_true rfl) (by omega) (by omega) (fun _ _ q => q.elim) ?_
  rintro _ h1 ⟨k5, z5, sv5, rfl, C1, f1, eo1, e5⟩
  have H1 : zMod G h1 ma S th := hM.mid n2 n3 f1
  refine z_istore dLaw_law_1512 (Nat.le_of_ble_eq_true rfl) ?_
  refine z_aload_n dLaw_law_1514 rfl ?_
  refine z_aload_n dLaw_law_1515 rfl ?_
  refine z_iload dLaw_law_1516 rfl ?_
  refine z_iconst dLaw_law_1518 ?_
  refine z_iadd dLaw_law_1519 ?_
  refine z_sld (by omega) dLaw_law_1520 ?_
  refine z_callV (bc' := bc - 6 - 0) (bs' := bs - 36 - 0) MV_Mod_back lk_Law_270 dLaw_law_1521 (k_Mod_back H1 (zX9_r (xs := xs) (i + 1)) hO h16) rfl rfl (Nat.le_of_ble_eq_true rfl) rfl H1.2.1 (Nat.le_of_ble_eq_true rfl) (Nat.le_of_ble_eq_true rfl) (by omega) (by omega) (fun _ _ q => q.elim) ?_
  rintro _ h2 ⟨ma2, th2, z6, rfl, m0, H2, F2, A2, e6⟩
  refine z_istore dLaw_law_1524 (Nat.le_of_ble_eq_true rfl) ?_
  refine z_goto (tgt := 2138) dLaw_law_1526 (by decide) ?_
  exact K _ _ h2 ma2 _ _ _ (zLi.fin C1 eo1 n1 n2 n3 H2 F2 A2 (ok_back hO h16) (oka_back oka)) m0 (by omega) (by omega)
theorem c_Law_29 {ou : Nat} {i : Int} {y5 y6 : Option Value} (I : zLi G h ad ma ou S) (hi : 0 ≤ i ∧ i + 4 ≤ L) (hb1 : 210 ≤ bc) (hb2 : 12100 ≤ bs) (K : zLK G l b L xs ad ma ou i bc bs) : zR G l (zLJ G b L xs) bc bs h 1529 [some (.ref b), some (.ref (ad 0)), some (.ref (ma 0)), some (.ref ou), some (zi i), y5, y6] [] := by
  obtain ⟨th, n0, sv, hC, hM, hO, oka, eo, n1, n2, n3⟩ := I
  have h16 : ∀ k, k < 4 → (S.1 k).length ≤ 16 := fun k hk => (hC.ls hk).len
  have x1 := zX9_r (xs := xs) (i + 1)
  have x2 := zX9_r (xs := xs) (i + 2)
  have x3 := zX9_r (xs := xs) (i + 3)
  refine z_aload_n dLaw_law_1529 rfl ?_
  refine z_aload_n dLaw_law_1530 rfl ?_
  refine z_iload dLaw_law_1531 rfl ?_
  refine z_iconst dLaw_law_1533 ?_
  refine z_iadd dLaw_law_1534 ?_
  refine z_sld (by omega) dLaw_law_1535 ?_
  refine z_aload_n dLaw_law_1536 rfl ?_
  refine z_iload dLaw_law_1537 rfl ?_
  refine z_iconst dLaw_law_1539 ?_
  refine z_iadd dLaw_law_1540 ?_
  refine z_sld (by omega) dLaw_law_1541 ?_
  refine z_aload_n dLaw_law_1542 rfl ?_
  refine z_callSX (bc' := bc - 6) (bs' := bs - 36) MW_Law_puts lk_Law_271 dLaw_law_1543 (k_Law_puts hO hC (zX9_r (xs := xs) (i + 1)) (zX9_r (xs := xs) (i + 2)) eo n1) rfl rfl (Nat.le_of_ble_eq_true rfl) (Nat.le_of_ble_eq_true rfl) (Nat.le_of_ble_eq_true rfl) (by omega) (by omega) (fun _ _ q => q.elim) ?_
  rintro _ h1 ⟨k5, z5, sv5, rfl, C1, f1, eo1, e5⟩
  have H1 : zMod G h1 ma S th := hM.mid n2 n3 f1
  refine z_istore dLaw_law_1546 (Nat.le_of_ble_eq_true rfl) ?_
  refine z_aload_n dLaw_law_1548 rfl ?_
  refine z_aload_n dLaw_law_1549 rfl ?_
  refine z_iload dLaw_law_1550 rfl ?_
  refine z_iconst dLaw_law_1552 ?_
  refine z_iadd dLaw_law_1553 ?_
  refine z_sld (by omega) dLaw_law_1554 ?_
  refine z_aload_n dLaw_law_1555 rfl ?_
  refine z_iload dLaw_law_1556 rfl ?_
  refine z_iconst dLaw_law_1558 ?_
  refine z_iadd dLaw_law_1559 ?_
  refine z_sld (by omega) dLaw_law_1560 ?_
  refine z_callV (bc' := bc - 6 - 1) (bs' := bs - 36 - 61) MV_Mod_puts lk_Law_273 dLaw_law_1561 (k_Mod_puts H1 (zX9_r (xs := xs) (i + 1)) (zX9_r (xs := xs) (i + 2)) hO h16) rfl rfl (Nat.le_of_ble_eq_true rfl) rfl H1.2.1 (Nat.le_of_ble_eq_true rfl) (Nat.le_of_ble_eq_true rfl) (by omega) (by omega) (fun _ _ q => q.elim) ?_
  rintro _ h2 ⟨ma2, th2, z6, rfl, m0, H2, F2, A2, e6⟩
  refine z_istore dLaw_law_1564 (Nat.le_of_ble_eq_true rfl) ?_
  refine z_goto (tgt := 2138) dLaw_law_1566 (by decide) ?_
  exact K _ _ h2 ma2 _ _ _ (zLi.fin C1 eo1 n1 n2 n3 H2 F2 A2 (ok_puts hO h16) (oka_puts oka)) m0 (by omega) (by omega)
theorem c_Law_30 {ou : Nat} {i : Int} {y5 y6 : Option Value} (I : zLi G h ad ma ou S) (hi : 0 ≤ i ∧ i + 4 ≤ L) (hb1 : 210 ≤ bc) (hb2 : 12100 ≤ bs) (K : zLK G l b L xs ad ma ou i bc bs) : zR G l (zLJ G b L xs) bc bs h 1569 [some (.ref b), some (.ref (ad 0)), some (.ref (ma 0)), some (.ref ou), some (zi i), y5, y6] [] := by
  obtain ⟨th, n0, sv, hC, hM, hO, oka, eo, n1, n2, n3⟩ := I
  have h16 : ∀ k, k < 4 → (S.1 k).length ≤ 16 := fun k hk => (hC.ls hk).len
  have x1 := zX9_r (xs := xs) (i + 1)
  have x2 := zX9_r (xs := xs) (i + 2)
  have x3 := zX9_r (xs := xs) (i + 3)
  refine z_aload_n dLaw_law_1569 rfl ?_
  refine z_aload_n dLaw_law_1570 rfl ?_
  refine z_iload dLaw_law_1571 rfl ?_
  refine z_iconst dLaw_law_1573 ?_
  refine z_iadd dLaw_law_1574 ?_
  refine z_sld (by omega) dLaw_law_1575 ?_
  refine z_aload_n dLaw_law_1576 rfl ?_
  refine z_callSX (bc' := bc - 6) (bs' := bs - 36) MW_Law_cuts lk_Law_274 dLaw_law_1577 (k_Law_cuts hO hC (zX9_r (xs := xs) (i + 1)) eo n1) rfl rfl (Nat.le_of_ble_eq_true rfl) (Nat.le_of_ble_eq_true rfl) (Nat.le_of_ble_eq_true rfl) (by omega) (by omega) (fun _ _ q => q.elim) ?_
  rintro _ h1 ⟨k5, z5, sv5, rfl, C1, f1, eo1, e5⟩
  have H1 : zMod G h1 ma S th := hM.mid n2 n3 f1
  refine z_istore dLaw_law_1580 (Nat.le_of_ble_eq_true rfl) ?_
  refine z_aload_n dLaw_law_1582 rfl ?_
  refine z_aload_n dLaw_law_1583 rfl ?_
  refine z_iload dLaw_law_1584 rfl ?_
  refine z_iconst dLaw_law_1586 ?_
  refine z_iadd dLaw_law_1587 ?_
  refine z_sld (by omega) dLaw_law_1588 ?_
  refine z_callV (bc' := bc - 6 - 1) (bs' := bs - 36 - 60) MV_Mod_cuts lk_Law_276 dLaw_law_1589 (k_Mod_cuts H1 (zX9_r (xs := xs) (i + 1)) hO h16) rfl rfl (Nat.le_of_ble_eq_true rfl) rfl H1.2.1 (Nat.le_of_ble_eq_true rfl) (Nat.le_of_ble_eq_true rfl) (by omega) (by omega) (fun _ _ q => q.elim) ?_
  rintro _ h2 ⟨ma2, th2, z6, rfl, m0, H2, F2, A2, e6⟩
  refine z_istore dLaw_law_1592 (Nat.le_of_ble_eq_true rfl) ?_
  refine z_goto (tgt := 2138) dLaw_law_1594 (by decide) ?_
  exact K _ _ h2 ma2 _ _ _ (zLi.fin C1 eo1 n1 n2 n3 H2 F2 A2 (ok_cuts hO h16) (oka_cuts oka)) m0 (by omega) (by omega)
theorem c_Law_31 {ou : Nat} {i : Int} {y5 y6 : Option Value} (I : zLi G h ad ma ou S) (hi : 0 ≤ i ∧ i + 4 ≤ L) (hb1 : 210 ≤ bc) (hb2 : 12100 ≤ bs) (K : zLK G l b L xs ad ma ou i bc bs) : zR G l (zLJ G b L xs) bc bs h 1597 [some (.ref b), some (.ref (ad 0)), some (.ref (ma 0)), some (.ref ou), some (zi i), y5, y6] [] := by
  obtain ⟨th, n0, sv, hC, hM, hO, oka, eo, n1, n2, n3⟩ := I
  have h16 : ∀ k, k < 4 → (S.1 k).length ≤ 16 := fun k hk => (hC.ls hk).len
  have x1 := zX9_r (xs := xs) (i + 1)
  have x2 := zX9_r (xs := xs) (i + 2)
  have x3 := zX9_r (xs := xs) (i + 3)
  refine z_aload_n dLaw_law_1597 rfl ?_
  refine z_aload_n dLaw_law_1598 rfl ?_
  refine z_iload dLaw_law_1599 rfl ?_
  refine z_iconst dLaw_law_1601 ?_
  refine z_iadd dLaw_law_1602 ?_
  refine z_sld (by omega) dLaw_law_1603 ?_
  refine z_aload_n dLaw_law_1604 rfl ?_
  refine z_iload dLaw_law_1605 rfl ?_
  refine z_iconst dLaw_law_1607 ?_
  refine z_iadd dLaw_law_1608 ?_
  refine z_sld (by omega) dLaw_law_1609 ?_
  refine z_aload_n dLaw_law_1610 rfl ?_
  refine z_callSX (bc' := bc - 6) (bs' := bs - 36) MW_Law_changes lk_Law_277 dLaw_law_1611 (k_Law_changes hO hC (zX9_r (xs := xs) (i + 1)) (zX9_r (xs := xs) (i + 2)) eo n1) rfl rfl (Nat.le_of_ble_eq_true rfl) (Nat.le_of_ble_eq_true rfl) (Nat.le_of_ble_eq_true rfl) (by omega) (by omega) (fun _ _ q => q.elim) ?_
  rintro _ h1 ⟨k5, z5, sv5, rfl, C1, f1, eo1, e5⟩
  have H1 : zMod G h1 ma S th := hM.mid n2 n3 f1
  refine z_istore dLaw_law_1614 (Nat.le_of_ble_eq_true rfl) ?_
  refine z_aload_n dLaw_law_1616 rfl ?_
  refine z_aload_n dLaw_law_1617 rfl ?_
  refine z_iload dLaw_law_1618 rfl ?_
  refine z_iconst dLaw_law_1620 ?_
  refine z_iadd dLaw_law_1621 ?_
  refine z_sld (by omega) dLaw_law_1622 ?_
  refine z_aload_n dLaw_law_1623 rfl ?_
  refine z_iload dLaw_law_1624 rfl ?_
  refine z_iconst dLaw_law_1626 ?_
  refine z_iadd dLaw_law_1627 ?_
  refine z_sld (by omega) dLaw_law_1628 ?_
  refine z_callV (bc' := bc - 6 - 0) (bs' := bs - 36 - 0) MV_Mod_changes lk_Law_279 dLaw_law_1629 (k_Mod_changes H1 (zX9_r (xs := xs) (i + 1)) (zX9_r (xs := xs) (i + 2)) hO h16) rfl rfl (Nat.le_of_ble_eq_true rfl) rfl H1.2.1 (Nat.le_of_ble_eq_true rfl) (Nat.le_of_ble_eq_true rfl) (by omega) (by omega) (fun _ _ q => q.elim) ?_
  rintro _ h2 ⟨ma2, th2, z6, rfl, m0, H2, F2, A2, e6⟩
  refine z_istore dLaw_law_1632 (Nat.le_of_ble_eq_true rfl) ?_
  refine z_goto (tgt := 2138) dLaw_law_1634 (by decide) ?_
  exact K _ _ h2 ma2 _ _ _ (zLi.fin C1 eo1 n1 n2 n3 H2 F2 A2 (ok_changes hO) (oka_changes oka)) m0 (by omega) (by omega)
theorem c_Law_32 {ou : Nat} {i : Int} {y5 y6 : Option Value} (I : zLi G h ad ma ou S) (hi : 0 ≤ i ∧ i + 4 ≤ L) (hb1 : 210 ≤ bc) (hb2 : 12100 ≤ bs) (K : zLK G l b L xs ad ma ou i bc bs) : zR G l (zLJ G b L xs) bc bs h 1637 [some (.ref b), some (.ref (ad 0)), some (.ref (ma 0)), some (.ref ou), some (zi i), y5, y6] [] := by
  obtain ⟨th, n0, sv, hC, hM, hO, oka, eo, n1, n2, n3⟩ := I
  have h16 : ∀ k, k < 4 → (S.1 k).length ≤ 16 := fun k hk => (hC.ls hk).len
  have x1 := zX9_r (xs := xs) (i + 1)
  have x2 := zX9_r (xs := xs) (i + 2)
  have x3 := zX9_r (xs := xs) (i + 3)
  refine z_aload_n dLaw_law_1637 rfl ?_
  refine z_aload_n dLaw_law_1638 rfl ?_
  refine z_iload dLaw_law_1639 rfl ?_
  refine z_iconst dLaw_law_1641 ?_
  refine z_iadd dLaw_law_1642 ?_
  refine z_sld (by omega) dLaw_law_1643 ?_
  refine z_aload_n dLaw_law_1644 rfl ?_
  refine z_iload dLaw_law_1645 rfl ?_
  refine z_iconst dLaw_law_1647 ?_
  refine z_iadd dLaw_law_1648 ?_
  refine z_sld (by omega) dLaw_law_1649 ?_
  refine z_aload_n dLaw_law_1650 rfl ?_
  refine z_callSX (bc' := bc - 6) (bs' := bs - 36) MW_Law_meet lk_Law_280 dLaw_law_1651 (k_Law_meet hO hC (zX9_r (xs := xs) (i + 1)) (zX9_r (xs := xs) (i + 2)) eo n1) rfl rfl (Nat.le_of_ble_eq_true rfl) (Nat.le_of_ble_eq_true rfl) (Nat.le_of_ble_eq_true rfl) (by omega) (by omega) (fun _ _ q => q.elim) ?_
  rintro _ h1 ⟨k5, z5, sv5, rfl, C1, f1, eo1, e5⟩
  have H1 : zMod G h1 ma S th := hM.mid n2 n3 f1
  refine z_istore dLaw_law_1654 (Nat.le_of_ble_eq_true rfl) ?_
  refine z_aload_n dLaw_law_1656 rfl ?_
  refine z_aload_n dLaw_law_1657 rfl ?_
  refine z_iload dLaw_law_1658 rfl ?_
  refine z_iconst dLaw_law_1660 ?_
  refine z_iadd dLaw_law_1661 ?_
  refine z_sld (by omega) dLaw_law_1662 ?_
  refine z_aload_n dLaw_law_1663 rfl ?_
  refine z_iload dLaw_law_1664 rfl ?_
  refine z_iconst dLaw_law_1666 ?_
  refine z_iadd dLaw_law_1667 ?_
  refine z_sld (by omega) dLaw_law_1668 ?_
  refine z_callV (bc' := bc - 6 - 0) (bs' := bs - 36 - 0) MV_Mod_meet lk_Law_282 dLaw_law_1669 (k_Mod_meet H1 (zX9_r (xs := xs) (i + 1)) (zX9_r (xs := xs) (i + 2)) hO h16) rfl rfl (Nat.le_of_ble_eq_true rfl) rfl H1.2.1 (Nat.le_of_ble_eq_true rfl) (Nat.le_of_ble_eq_true rfl) (by omega) (by omega) (fun _ _ q => q.elim) ?_
  rintro _ h2 ⟨ma2, th2, z6, rfl, m0, H2, F2, A2, e6⟩
  refine z_istore dLaw_law_1672 (Nat.le_of_ble_eq_true rfl) ?_
  refine z_goto (tgt := 2138) dLaw_law_1674 (by decide) ?_
  exact K _ _ h2 ma2 _ _ _ (zLi.fin C1 eo1 n1 n2 n3 H2 F2 A2 (ok_meet hO h16) (oka_meet oka)) m0 (by omega) (by omega)
theorem c_Law_33 {ou : Nat} {i : Int} {y5 y6 : Option Value} (I : zLi G h ad ma ou S) (hi : 0 ≤ i ∧ i + 4 ≤ L) (hb1 : 210 ≤ bc) (hb2 : 12100 ≤ bs) (K : zLK G l b L xs ad ma ou i bc bs) : zR G l (zLJ G b L xs) bc bs h 1677 [some (.ref b), some (.ref (ad 0)), some (.ref (ma 0)), some (.ref ou), some (zi i), y5, y6] [] := by
  obtain ⟨th, n0, sv, hC, hM, hO, oka, eo, n1, n2, n3⟩ := I
  have h16 : ∀ k, k < 4 → (S.1 k).length ≤ 16 := fun k hk => (hC.ls hk).len
  have x1 := zX9_r (xs := xs) (i + 1)
  have x2 := zX9_r (xs := xs) (i + 2)
  have x3 := zX9_r (xs := xs) (i + 3)
  refine z_aload_n dLaw_law_1677 rfl ?_
  refine z_aload_n dLaw_law_1678 rfl ?_
  refine z_iload dLaw_law_1679 rfl ?_
  refine z_iconst dLaw_law_1681 ?_
  refine z_iadd dLaw_law_1682 ?_
  refine z_sld (by omega) dLaw_law_1683 ?_
  refine z_aload_n dLaw_law_1684 rfl ?_
  refine z_iload dLaw_law_1685 rfl ?_
  refine z_iconst dLaw_law_1687 ?_
  refine z_iadd dLaw_law_1688 ?_
  refine z_sld (by omega) dLaw_law_1689 ?_
  refine z_aload_n dLaw_law_1690 rfl ?_
  refine z_callSX (bc' := bc - 6) (bs' := bs - 36) MW_Law_ofCursor lk_Law_283 dLaw_law_1691 (k_Law_ofCursor hO hC (zX9_r (xs := xs) (i + 1)) (zX9_r (xs := xs) (i + 2)) eo n1) rfl rfl (Nat.le_of_ble_eq_true rfl) (Nat.le_of_ble_eq_true rfl) (Nat.le_of_ble_eq_true rfl) (by omega) (by omega) (fun _ _ q => q.elim) ?_
  rintro _ h1 ⟨k5, z5, sv5, rfl, C1, f1, eo1, e5⟩
  have H1 : zMod G h1 ma S th := hM.mid n2 n3 f1
  refine z_istore dLaw_law_1694 (Nat.le_of_ble_eq_true rfl) ?_
  refine z_aload_n dLaw_law_1696 rfl ?_
  refine z_aload_n dLaw_law_1697 rfl ?_
  refine z_iload dLaw_law_1698 rfl ?_
  refine z_iconst dLaw_law_1700 ?_
  refine z_iadd dLaw_law_1701 ?_
  refine z_sld (by omega) dLaw_law_1702 ?_
  refine z_aload_n dLaw_law_1703 rfl ?_
  refine z_iload dLaw_law_1704 rfl ?_
  refine z_iconst dLaw_law_1706 ?_
  refine z_iadd dLaw_law_1707 ?_
  refine z_sld (by omega) dLaw_law_1708 ?_
  refine z_callV (bc' := bc - 6 - 1) (bs' := bs - 36 - 6) MV_Mod_ofCursor lk_Law_285 dLaw_law_1709 (k_Mod_ofCursor H1 (zX9_r (xs := xs) (i + 1)) (zX9_r (xs := xs) (i + 2)) hO h16) rfl rfl (Nat.le_of_ble_eq_true rfl) rfl H1.2.1 (Nat.le_of_ble_eq_true rfl) (Nat.le_of_ble_eq_true rfl) (by omega) (by omega) (fun _ _ q => q.elim) ?_
  rintro _ h2 ⟨ma2, th2, z6, rfl, m0, H2, F2, A2, e6⟩
  refine z_istore dLaw_law_1712 (Nat.le_of_ble_eq_true rfl) ?_
  refine z_goto (tgt := 2138) dLaw_law_1714 (by decide) ?_
  exact K _ _ h2 ma2 _ _ _ (zLi.fin C1 eo1 n1 n2 n3 H2 F2 A2 (ok_ofCursor hO) (oka_ofCursor oka)) m0 (by omega) (by omega)
theorem c_Law_34 {ou : Nat} {i : Int} {y5 y6 : Option Value} (I : zLi G h ad ma ou S) (hi : 0 ≤ i ∧ i + 4 ≤ L) (hb1 : 210 ≤ bc) (hb2 : 12100 ≤ bs) (K : zLK G l b L xs ad ma ou i bc bs) : zR G l (zLJ G b L xs) bc bs h 1717 [some (.ref b), some (.ref (ad 0)), some (.ref (ma 0)), some (.ref ou), some (zi i), y5, y6] [] := by
  obtain ⟨th, n0, sv, hC, hM, hO, oka, eo, n1, n2, n3⟩ := I
  have h16 : ∀ k, k < 4 → (S.1 k).length ≤ 16 := fun k hk => (hC.ls hk).len
  have x1 := zX9_r (xs := xs) (i + 1)
  have x2 := zX9_r (xs := xs) (i + 2)
  have x3 := zX9_r (xs := xs) (i + 3)
  refine z_aload_n dLaw_law_1717 rfl ?_
  refine z_aload_n dLaw_law_1718 rfl ?_
  refine z_iload dLaw_law_1719 rfl ?_
  refine z_iconst dLaw_law_1721 ?_
  refine z_iadd dLaw_law_1722 ?_
  refine z_sld (by omega) dLaw_law_1723 ?_
  refine z_aload_n dLaw_law_1724 rfl ?_
  refine z_iload dLaw_law_1725 rfl ?_
  refine z_iconst dLaw_law_1727 ?_
  refine z_iadd dLaw_law_1728 ?_
  refine z_sld (by omega) dLaw_law_1729 ?_
  refine z_aload_n dLaw_law_1730 rfl ?_
  refine z_callSX (bc' := bc - 6) (bs' := bs - 36) MW_Law_plus lk_Law_286 dLaw_law_1731 (k_Law_plus hC (zX9_r (xs := xs) (i + 1)) (zX9_r (xs := xs) (i + 2)) eo n1) rfl rfl (Nat.le_of_ble_eq_true rfl) (Nat.le_of_ble_eq_true rfl) (Nat.le_of_ble_eq_true rfl) (by omega) (by omega) (fun _ _ q => q.elim) ?_
  rintro _ h1 ⟨k5, z5, sv5, rfl, C1, f1, eo1, e5⟩
  have H1 : zMod G h1 ma S th := hM.mid n2 n3 f1
  refine z_istore dLaw_law_1734 (Nat.le_of_ble_eq_true rfl) ?_
  refine z_aload_n dLaw_law_1736 rfl ?_
  refine z_aload_n dLaw_law_1737 rfl ?_
  refine z_iload dLaw_law_1738 rfl ?_
  refine z_iconst dLaw_law_1740 ?_
  refine z_iadd dLaw_law_1741 ?_
  refine z_sld (by omega) dLaw_law_1742 ?_
  refine z_aload_n dLaw_law_1743 rfl ?_
  refine z_iload dLaw_law_1744 rfl ?_
  refine z_iconst dLaw_law_1746 ?_
  refine z_iadd dLaw_law_1747 ?_
  refine z_sld (by omega) dLaw_law_1748 ?_
  refine z_callV (bc' := bc - 6 - 2) (bs' := bs - 36 - 47) MV_Mod_plus lk_Law_288 dLaw_law_1749 (k_Mod_plus H1 (zX9_r (xs := xs) (i + 1)) (zX9_r (xs := xs) (i + 2)) h16) rfl rfl (Nat.le_of_ble_eq_true rfl) rfl H1.2.1 (Nat.le_of_ble_eq_true rfl) (Nat.le_of_ble_eq_true rfl) (by omega) (by omega) (fun _ _ q => q.elim) ?_
  rintro _ h2 ⟨ma2, th2, z6, rfl, m0, H2, F2, A2, e6⟩
  refine z_istore dLaw_law_1752 (Nat.le_of_ble_eq_true rfl) ?_
  refine z_goto (tgt := 2138) dLaw_law_1754 (by decide) ?_
  exact K _ _ h2 ma2 _ _ _ (zLi.fin C1 eo1 n1 n2 n3 H2 F2 A2 (ok_plus hO) (oka_plus oka)) m0 (by omega) (by omega)
theorem c_Law_35 {ou : Nat} {i : Int} {y5 y6 : Option Value} (I : zLi G h ad ma ou S) (hi : 0 ≤ i ∧ i + 4 ≤ L) (hb1 : 210 ≤ bc) (hb2 : 12100 ≤ bs) (K : zLK G l b L xs ad ma ou i bc bs) : zR G l (zLJ G b L xs) bc bs h 1757 [some (.ref b), some (.ref (ad 0)), some (.ref (ma 0)), some (.ref ou), some (zi i), y5, y6] [] := by
  obtain ⟨th, n0, sv, hC, hM, hO, oka, eo, n1, n2, n3⟩ := I
  have h16 : ∀ k, k < 4 → (S.1 k).length ≤ 16 := fun k hk => (hC.ls hk).len
  have x1 := zX9_r (xs := xs) (i + 1)
  have x2 := zX9_r (xs := xs) (i + 2)
  have x3 := zX9_r (xs := xs) (i + 3)
  refine z_aload_n dLaw_law_1757 rfl ?_
  refine z_aload_n dLaw_law_1758 rfl ?_
  refine z_iload dLaw_law_1759 rfl ?_
  refine z_iconst dLaw_law_1761 ?_
  refine z_iadd dLaw_law_1762 ?_
  refine z_sld (by omega) dLaw_law_1763 ?_
  refine z_aload_n dLaw_law_1764 rfl ?_
  refine z_iload dLaw_law_1765 rfl ?_
  refine z_iconst dLaw_law_1767 ?_
  refine z_iadd dLaw_law_1768 ?_
  refine z_sld (by omega) dLaw_law_1769 ?_
  refine z_aload_n dLaw_law_1770 rfl ?_
  refine z_callSX (bc' := bc - 6) (bs' := bs - 36) MW_Law_times lk_Law_289 dLaw_law_1771 (k_Law_times hC (zX9_r (xs := xs) (i + 1)) (zX9_r (xs := xs) (i + 2)) eo n1) rfl rfl (Nat.le_of_ble_eq_true rfl) (Nat.le_of_ble_eq_true rfl) (Nat.le_of_ble_eq_true rfl) (by omega) (by omega) (fun _ _ q => q.elim) ?_
  rintro _ h1 ⟨k5, z5, sv5, rfl, C1, f1, eo1, e5⟩
  have H1 : zMod G h1 ma S th := hM.mid n2 n3 f1
  refine z_istore dLaw_law_1774 (Nat.le_of_ble_eq_true rfl) ?_
  refine z_aload_n dLaw_law_1776 rfl ?_
  refine z_aload_n dLaw_law_1777 rfl ?_
  refine z_iload dLaw_law_1778 rfl ?_
  refine z_iconst dLaw_law_1780 ?_
  refine z_iadd dLaw_law_1781 ?_
  refine z_sld (by omega) dLaw_law_1782 ?_
  refine z_aload_n dLaw_law_1783 rfl ?_
  refine z_iload dLaw_law_1784 rfl ?_
  refine z_iconst dLaw_law_1786 ?_
  refine z_iadd dLaw_law_1787 ?_
  refine z_sld (by omega) dLaw_law_1788 ?_
  refine z_callV (bc' := bc - 6 - 2) (bs' := bs - 36 - 47) MV_Mod_times lk_Law_291 dLaw_law_1789 (k_Mod_times H1 (zX9_r (xs := xs) (i + 1)) (zX9_r (xs := xs) (i + 2)) h16) rfl rfl (Nat.le_of_ble_eq_true rfl) rfl H1.2.1 (Nat.le_of_ble_eq_true rfl) (Nat.le_of_ble_eq_true rfl) (by omega) (by omega) (fun _ _ q => q.elim) ?_
  rintro _ h2 ⟨ma2, th2, z6, rfl, m0, H2, F2, A2, e6⟩
  refine z_istore dLaw_law_1792 (Nat.le_of_ble_eq_true rfl) ?_
  refine z_goto (tgt := 2138) dLaw_law_1794 (by decide) ?_
  exact K _ _ h2 ma2 _ _ _ (zLi.fin C1 eo1 n1 n2 n3 H2 F2 A2 (ok_times hO) (oka_times oka)) m0 (by omega) (by omega)
theorem c_Law_36 {ou : Nat} {i : Int} {y5 y6 : Option Value} (I : zLi G h ad ma ou S) (hi : 0 ≤ i ∧ i + 4 ≤ L) (hb1 : 210 ≤ bc) (hb2 : 12100 ≤ bs) (K : zLK G l b L xs ad ma ou i bc bs) : zR G l (zLJ G b L xs) bc bs h 1797 [some (.ref b), some (.ref (ad 0)), some (.ref (ma 0)), some (.ref ou), some (zi i), y5, y6] [] := by
  obtain ⟨th, n0, sv, hC, hM, hO, oka, eo, n1, n2, n3⟩ := I
  have h16 : ∀ k, k < 4 → (S.1 k).length ≤ 16 := fun k hk => (hC.ls hk).len
  have x1 := zX9_r (xs := xs) (i + 1)
  have x2 := zX9_r (xs := xs) (i + 2)
  have x3 := zX9_r (xs := xs) (i + 3)
  refine z_aload_n dLaw_law_1797 rfl ?_
  refine z_aload_n dLaw_law_1798 rfl ?_
  refine z_iload dLaw_law_1799 rfl ?_
  refine z_iconst dLaw_law_1801 ?_
  refine z_iadd dLaw_law_1802 ?_
  refine z_sld (by omega) dLaw_law_1803 ?_
  refine z_aload_n dLaw_law_1804 rfl ?_
  refine z_callSX (bc' := bc - 6) (bs' := bs - 36) MW_Law_shift lk_Law_292 dLaw_law_1805 (k_Law_shift hC (zX9_r (xs := xs) (i + 1)) eo n1) rfl rfl (Nat.le_of_ble_eq_true rfl) (Nat.le_of_ble_eq_true rfl) (Nat.le_of_ble_eq_true rfl) (by omega) (by omega) (fun _ _ q => q.elim) ?_
  rintro _ h1 ⟨k5, z5, sv5, rfl, C1, f1, eo1, e5⟩
  have H1 : zMod G h1 ma S th := hM.mid n2 n3 f1
  refine z_istore dLaw_law_1808 (Nat.le_of_ble_eq_true rfl) ?_
  refine z_aload_n dLaw_law_1810 rfl ?_
  refine z_aload_n dLaw_law_1811 rfl ?_
  refine z_iload dLaw_law_1812 rfl ?_
  refine z_iconst dLaw_law_1814 ?_
  refine z_iadd dLaw_law_1815 ?_
  refine z_sld (by omega) dLaw_law_1816 ?_
  refine z_callV (bc' := bc - 6 - 1) (bs' := bs - 36 - 61) MV_Mod_shift lk_Law_294 dLaw_law_1817 (k_Mod_shift H1 (zX9_r (xs := xs) (i + 1)) h16) rfl rfl (Nat.le_of_ble_eq_true rfl) rfl H1.2.1 (Nat.le_of_ble_eq_true rfl) (Nat.le_of_ble_eq_true rfl) (by omega) (by omega) (fun _ _ q => q.elim) ?_
  rintro _ h2 ⟨ma2, th2, z6, rfl, m0, H2, F2, A2, e6⟩
  refine z_istore dLaw_law_1820 (Nat.le_of_ble_eq_true rfl) ?_
  refine z_goto (tgt := 2138) dLaw_law_1822 (by decide) ?_
  exact K _ _ h2 ma2 _ _ _ (zLi.fin C1 eo1 n1 n2 n3 H2 F2 A2 (ok_shift hO) (oka_shift oka)) m0 (by omega) (by omega)
theorem c_Law_37 {ou : Nat} {i : Int} {y5 y6 : Option Value} (I : zLi G h ad ma ou S) (hi : 0 ≤ i ∧ i + 4 ≤ L) (hb1 : 210 ≤ bc) (hb2 : 12100 ≤ bs) (K : zLK G l b L xs ad ma ou i bc bs) : zR G l (zLJ G b L xs) bc bs h 1825 [some (.ref b), some (.ref (ad 0)), some (.ref (ma 0)), some (.ref ou), some (zi i), y5, y6] [] := by
  obtain ⟨th, n0, sv, hC, hM, hO, oka, eo, n1, n2, n3⟩ := I
  have h16 : ∀ k, k < 4 → (S.1 k).length ≤ 16 := fun k hk => (hC.ls hk).len
  have x1 := zX9_r (xs := xs) (i + 1)
  have x2 := zX9_r (xs := xs) (i + 2)
  have x3 := zX9_r (xs := xs) (i + 3)
  refine z_aload_n dLaw_law_1825 rfl ?_
  refine z_aload_n dLaw_law_1826 rfl ?_
  refine z_iload dLaw_law_1827 rfl ?_
  refine z_iconst dLaw_law_1829 ?_
  refine z_iadd dLaw_law_1830 ?_
  refine z_sld (by omega) dLaw_law_1831 ?_
  refine z_aload_n dLaw_law_1832 rfl ?_
  refine z_callSX (bc' := bc - 6) (bs' := bs - 36) MW_Law_trim lk_Law_295 dLaw_law_1833 (k_Law_trim hC (zX9_r (xs := xs) (i + 1)) eo n1) rfl rfl (Nat.le_of_ble_eq_true rfl) (Nat.le_of_ble_eq_true rfl) (Nat.le_of_ble_eq_true rfl) (by omega) (by omega) (fun _ _ q => q.elim) ?_
  rintro _ h1 ⟨k5, z5, sv5, rfl, C1, f1, eo1, e5⟩
  have H1 : zMod G h1 ma S th := hM.mid n2 n3 f1
  refine z_istore dLaw_law_1836 (Nat.le_of_ble_eq_true rfl) ?_
  refine z_aload_n dLaw_law_1838 rfl ?_
  refine z_aload_n dLaw_law_1839 rfl ?_
  refine z_iload dLaw_law_1840 rfl ?_
  refine z_iconst dLaw_law_1842 ?_
  refine z_iadd dLaw_law_1843 ?_
  refine z_sld (by omega) dLaw_law_1844 ?_
  refine z_callV (bc' := bc - 6 - 16) (bs' := bs - 36 - 960) MV_Mod_trim lk_Law_297 dLaw_law_1845 (k_Mod_trim H1 (zX9_r (xs := xs) (i + 1)) h16) rfl rfl (Nat.le_of_ble_eq_true rfl) rfl H1.2.1 (Nat.le_of_ble_eq_true rfl) (Nat.le_of_ble_eq_true rfl) (by omega) (by omega) (fun _ _ q => q.elim) ?_
  rintro _ h2 ⟨ma2, th2, z6, rfl, m0, H2, F2, A2, e6⟩
  refine z_istore dLaw_law_1848 (Nat.le_of_ble_eq_true rfl) ?_
  refine z_goto (tgt := 2138) dLaw_law_1850 (by decide) ?_
  exact K _ _ h2 ma2 _ _ _ (zLi.fin C1 eo1 n1 n2 n3 H2 F2 A2 (ok_trim hO) (oka_trim oka)) m0 (by omega) (by omega)
theorem c_Law_38 {ou : Nat} {i : Int} {y5 y6 : Option Value} (I : zLi G h ad ma ou S) (hi : 0 ≤ i ∧ i + 4 ≤ L) (hb1 : 210 ≤ bc) (hb2 : 12100 ≤ bs) (K : zLK G l b L xs ad ma ou i bc bs) : zR G l (zLJ G b L xs) bc bs h 1853 [some (.ref b), some (.ref (ad 0)), some (.ref (ma 0)), some (.ref ou), some (zi i), y5, y6] [] := by
  obtain ⟨th, n0, sv, hC, hM, hO, oka, eo, n1, n2, n3⟩ := I
  have h16 : ∀ k, k < 4 → (S.1 k).length ≤ 16 := fun k hk => (hC.ls hk).len
  have x1 := zX9_r (xs := xs) (i + 1)
  have x2 := zX9_r (xs := xs) (i + 2)
  have x3 := zX9_r (xs := xs) (i + 3)
  refine z_aload_n dLaw_law_1853 rfl ?_
  refine z_aload_n dLaw_law_1854 rfl ?_
  refine z_iload dLaw_law_1855 rfl ?_
  refine z_iconst dLaw_law_1857 ?_
  refine z_iadd dLaw_law_1858 ?_
  refine z_sld (by omega) dLaw_law_1859 ?_
  refine z_aload_n dLaw_law_1860 rfl ?_
  refine z_callSX (bc' := bc - 6) (bs' := bs - 36) MW_Law_derive lk_Law_298 dLaw_law_1861 (k_Law_derive hC (zX9_r (xs := xs) (i + 1)) eo n1) rfl rfl (Nat.le_of_ble_eq_true rfl) (Nat.le_of_ble_eq_true rfl) (Nat.le_of_ble_eq_true rfl) (by omega) (by omega) (fun _ _ q => q.elim) ?_
  rintro _ h1 ⟨k5, z5, sv5, rfl, C1, f1, eo1, e5⟩
  have H1 : zMod G h1 ma S th := hM.mid n2 n3 f1
  refine z_istore dLaw_law_1864 (Nat.le_of_ble_eq_true rfl) ?_
  refine z_aload_n dLaw_law_1866 rfl ?_
  refine z_aload_n dLaw_law_1867 rfl ?_
  refine z_iload dLaw_law_1868 rfl ?_
  refine z_iconst dLaw_law_1870 ?_
  refine z_iadd dLaw_law_1871 ?_
  refine z_sld (by omega) dLaw_law_1872 ?_
  refine z_callV (bc' := bc - 6 - 2) (bs' := bs - 36 - 31) MV_Mod_derive lk_Law_300 dLaw_law_1873 (k_Mod_derive H1 (zX9_r (xs := xs) (i + 1)) h16) rfl rfl (Nat.le_of_ble_eq_true rfl) rfl H1.2.1 (Nat.le_of_ble_eq_true rfl) (Nat.le_of_ble_eq_true rfl) (by omega) (by omega) (fun _ _ q => q.elim) ?_
  rintro _ h2 ⟨ma2, th2, z6, rfl, m0, H2, F2, A2, e6⟩
  refine z_istore dLaw_law_1876 (Nat.le_of_ble_eq_true rfl) ?_
  refine z_goto (tgt := 2138) dLaw_law_1878 (by decide) ?_
  exact K _ _ h2 ma2 _ _ _ (zLi.fin C1 eo1 n1 n2 n3 H2 F2 A2 (ok_derive hO) (oka_derive oka)) m0 (by omega) (by omega)
theorem c_Law_39 {ou : Nat} {i : Int} {y5 y6 : Option Value} (I : zLi G h ad ma ou S) (hi : 0 ≤ i ∧ i + 4 ≤ L) (hb1 : 210 ≤ bc) (hb2 : 12100 ≤ bs) (K : zLK G l b L xs ad ma ou i bc bs) : zR G l (zLJ G b L xs) bc bs h 1881 [some (.ref b), some (.ref (ad 0)), some (.ref (ma 0)), some (.ref ou), some (zi i), y5, y6] [] := by
  obtain ⟨th, n0, sv, hC, hM, hO, oka, eo, n1, n2, n3⟩ := I
  have h16 : ∀ k, k < 4 → (S.1 k).length ≤ 16 := fun k hk => (hC.ls hk).len
  have x1 := zX9_r (xs := xs) (i + 1)
  have x2 := zX9_r (xs := xs) (i + 2)
  have x3 := zX9_r (xs := xs) (i + 3)
  refine z_aload_n dLaw_law_1881 rfl ?_
  refine z_aload_n dLaw_law_1882 rfl ?_
  refine z_iload dLaw_law_1883 rfl ?_
  refine z_iconst dLaw_law_1885 ?_
  refine z_iadd dLaw_law_1886 ?_
  refine z_sld (by omega) dLaw_law_1887 ?_
  refine z_aload_n dLaw_law_1888 rfl ?_
  refine z_iload dLaw_law_1889 rfl ?_
  refine z_iconst dLaw_law_1891 ?_
  refine z_iadd dLaw_law_1892 ?_
  refine z_sld (by omega) dLaw_law_1893 ?_
  refine z_aload_n dLaw_law_1894 rfl ?_
  refine z_callSX (bc' := bc - 6) (bs' := bs - 36) MW_Law_value lk_Law_301 dLaw_law_1895 (k_Law_value hC (zX9_r (xs := xs) (i + 1)) (zX9_r (xs := xs) (i + 2)) eo n1) rfl rfl (Nat.le_of_ble_eq_true rfl) (Nat.le_of_ble_eq_true rfl) (Nat.le_of_ble_eq_true rfl) (by omega) (by omega) (fun _ _ q => q.elim) ?_
  rintro _ h1 ⟨k5, z5, sv5, rfl, C1, f1, eo1, e5⟩
  have H1 : zMod G h1 ma S th := hM.mid n2 n3 f1
  refine z_istore dLaw_law_1898 (Nat.le_of_ble_eq_true rfl) ?_
  refine z_aload_n dLaw_law_1900 rfl ?_
  refine z_aload_n dLaw_law_1901 rfl ?_
  refine z_iload dLaw_law_1902 rfl ?_
  refine z_iconst dLaw_law_1904 ?_
  refine z_iadd dLaw_law_1905 ?_
  refine z_sld (by omega) dLaw_law_1906 ?_
  refine z_aload_n dLaw_law_1907 rfl ?_
  refine z_iload dLaw_law_1908 rfl ?_
  refine z_iconst dLaw_law_1910 ?_
  refine z_iadd dLaw_law_1911 ?_
  refine z_sld (by omega) dLaw_law_1912 ?_
  refine z_callV (bc' := bc - 6 - 0) (bs' := bs - 36 - 0) MV_Mod_value lk_Law_303 dLaw_law_1913 (k_Mod_value H1 (zX9_r (xs := xs) (i + 1)) (zX9_r (xs := xs) (i + 2))) rfl rfl (Nat.le_of_ble_eq_true rfl) rfl H1.2.1 (Nat.le_of_ble_eq_true rfl) (Nat.le_of_ble_eq_true rfl) (by omega) (by omega) (fun _ _ q => q.elim) ?_
  rintro _ h2 ⟨ma2, th2, z6, rfl, m0, H2, F2, A2, e6⟩
  refine z_istore dLaw_law_1916 (Nat.le_of_ble_eq_true rfl) ?_
  refine z_goto (tgt := 2138) dLaw_law_1918 (by decide) ?_
  exact K _ _ h2 ma2 _ _ _ (zLi.fin C1 eo1 n1 n2 n3 H2 F2 A2 (ok_value hO) (oka_value oka)) m0 (by omega) (by omega)
theorem c_Law_40 {ou : Nat} {i : Int} {y5 y6 : Option Value} (I : zLi G h ad ma ou S) (hi : 0 ≤ i ∧ i + 4 ≤ L) (hb1 : 210 ≤ bc) (hb2 : 12100 ≤ bs) (K : zLK G l b L xs ad ma ou i bc bs) : zR G l (zLJ G b L xs) bc bs h 1921 [some (.ref b), some (.ref (ad 0)), some (.ref (ma 0)), some (.ref ou), some (zi i), y5, y6] [] := by
  obtain ⟨th, n0, sv, hC, hM, hO, oka, eo, n1, n2, n3⟩ := I
  have h16 : ∀ k, k < 4 → (S.1 k).length ≤ 16 := fun k hk => (hC.ls hk).len
  have x1 := zX9_r (xs := xs) (i + 1)
  have x2 := zX9_r (xs := xs) (i + 2)
  have x3 := zX9_r (xs := xs) (i + 3)
  refine z_aload_n dLaw_law_1921 rfl ?_
  refine z_aload_n dLaw_law_1922 rfl ?_
  refine z_iload dLaw_law_1923 rfl ?_
  refine z_iconst dLaw_law_1925 ?_
  refine z_iadd dLaw_law_1926 ?_
  refine z_sld (by omega) dLaw_law_1927 ?_
  refine z_aload_n dLaw_law_1928 rfl ?_
  refine z_callSX (bc' := bc - 6) (bs' := bs - 36) MW_Law_degree lk_Law_304 dLaw_law_1929 (k_Law_degree hC (zX9_r (xs := xs) (i + 1)) eo n1) rfl rfl (Nat.le_of_ble_eq_true rfl) (Nat.le_of_ble_eq_true rfl) (Nat.le_of_ble_eq_true rfl) (by omega) (by omega) (fun _ _ q => q.elim) ?_
  rintro _ h1 ⟨k5, z5, sv5, rfl, C1, f1, eo1, e5⟩
  have H1 : zMod G h1 ma S th := hM.mid n2 n3 f1
  refine z_istore dLaw_law_1932 (Nat.le_of_ble_eq_true rfl) ?_
  refine z_aload_n dLaw_law_1934 rfl ?_
  refine z_aload_n dLaw_law_1935 rfl ?_
  refine z_iload dLaw_law_1936 rfl ?_
  refine z_iconst dLaw_law_1938 ?_
  refine z_iadd dLaw_law_1939 ?_
  refine z_sld (by omega) dLaw_law_1940 ?_
  refine z_callV (bc' := bc - 6 - 0) (bs' := bs - 36 - 0) MV_Mod_degree lk_Law_306 dLaw_law_1941 (k_Mod_degree H1 (zX9_r (xs := xs) (i + 1))) rfl rfl (Nat.le_of_ble_eq_true rfl) rfl H1.2.1 (Nat.le_of_ble_eq_true rfl) (Nat.le_of_ble_eq_true rfl) (by omega) (by omega) (fun _ _ q => q.elim) ?_
  rintro _ h2 ⟨ma2, th2, z6, rfl, m0, H2, F2, A2, e6⟩
  refine z_istore dLaw_law_1944 (Nat.le_of_ble_eq_true rfl) ?_
  refine z_goto (tgt := 2138) dLaw_law_1946 (by decide) ?_
  exact K _ _ h2 ma2 _ _ _ (zLi.fin C1 eo1 n1 n2 n3 H2 F2 A2 (ok_degree hO) (oka_degree oka)) m0 (by omega) (by omega)
theorem c_Law_41 {ou : Nat} {i : Int} {y5 y6 : Option Value} (I : zLi G h ad ma ou S) (hi : 0 ≤ i ∧ i + 4 ≤ L) (hb1 : 210 ≤ bc) (hb2 : 12100 ≤ bs) (K : zLK G l b L xs ad ma ou i bc bs) : zR G l (zLJ G b L xs) bc bs h 1949 [some (.ref b), some (.ref (ad 0)), some (.ref (ma 0)), some (.ref ou), some (zi i), y5, y6] [] := by
  obtain ⟨th, n0, sv, hC, hM, hO, oka, eo, n1, n2, n3⟩ := I
  have h16 : ∀ k, k < 4 → (S.1 k).length ≤ 16 := fun k hk => (hC.ls hk).len
  have x1 := zX9_r (xs := xs) (i + 1)
  have x2 := zX9_r (xs := xs) (i + 2)
  have x3 := zX9_r (xs := xs) (i + 3)
  refine z_aload_n dLaw_law_1949 rfl ?_
  refine z_aload_n dLaw_law_1950 rfl ?_
  refine z_iload dLaw_law_1951 rfl ?_
  refine z_iconst dLaw_law_1953 ?_
  refine z_iadd dLaw_law_1954 ?_
  refine z_sld (by omega) dLaw_law_1955 ?_
  refine z_aload_n dLaw_law_1956 rfl ?_
  refine z_callSX (bc' := bc - 6) (bs' := bs - 36) MW_Law_ask lk_Law_307 dLaw_law_1957 (k_Law_ask hO hC (zX9_r (xs := xs) (i + 1)) eo n1) rfl rfl (Nat.le_of_ble_eq_true rfl) (Nat.le_of_ble_eq_true rfl) (Nat.le_of_ble_eq_true rfl) (by omega) (by omega) (fun _ _ q => q.elim) ?_
  rintro _ h1 ⟨k5, z5, sv5, rfl, C1, f1, eo1, e5⟩
  have H1 : zMod G h1 ma S th := hM.mid n2 n3 f1
  refine z_istore dLaw_law_1960 (Nat.le_of_ble_eq_true rfl) ?_
  refine z_aload_n dLaw_law_1962 rfl ?_
  refine z_aload_n dLaw_law_1963 rfl ?_
  refine z_iload dLaw_law_1964 rfl ?_
  refine z_iconst dLaw_law_1966 ?_
  refine z_iadd dLaw_law_1967 ?_
  refine z_sld (by omega) dLaw_law_1968 ?_
  refine z_callV (bc' := bc - 6 - 2) (bs' := bs - 36 - 121) MV_Mod_ask lk_Law_309 dLaw_law_1969 (k_Mod_ask H1 (zX9_r (xs := xs) (i + 1)) hO) rfl rfl (Nat.le_of_ble_eq_true rfl) rfl H1.2.1 (Nat.le_of_ble_eq_true rfl) (Nat.le_of_ble_eq_true rfl) (by omega) (by omega) (fun _ _ q => q.elim) ?_
  rintro _ h2 ⟨ma2, th2, z6, rfl, m0, H2, F2, A2, e6⟩
  refine z_istore dLaw_law_1972 (Nat.le_of_ble_eq_true rfl) ?_
  refine z_goto (tgt := 2138) dLaw_law_1974 (by decide) ?_
  exact K _ _ h2 ma2 _ _ _ (zLi.fin C1 eo1 n1 n2 n3 H2 F2 A2 (ok_ask hO) (oka_ask oka)) m0 (by omega) (by omega)
theorem c_Law_42 {ou : Nat} {i : Int} {y5 y6 : Option Value} (I : zLi G h ad ma ou S) (hi : 0 ≤ i ∧ i + 4 ≤ L) (hb1 : 210 ≤ bc) (hb2 : 12100 ≤ bs) (K : zLK G l b L xs ad ma ou i bc bs) : zR G l (zLJ G b L xs) bc bs h 1977 [some (.ref b), some (.ref (ad 0)), some (.ref (ma 0)), some (.ref ou), some (zi i), y5, y6] [] := by
  obtain ⟨th, n0, sv, hC, hM, hO, oka, eo, n1, n2, n3⟩ := I
  have h16 : ∀ k, k < 4 → (S.1 k).length ≤ 16 := fun k hk => (hC.ls hk).len
  have x1 := zX9_r (xs := xs) (i + 1)
  have x2 := zX9_r (xs := xs) (i + 2)
  have x3 := zX9_r (xs := xs) (i + 3)
  refine z_aload_n dLaw_law_1977 rfl ?_
  refine z_callV (bc' := bc - 6) (bs' := bs - 36) MV_Cls_forget lk_Law_310 dLaw_law_1978 (k_Cls_forget hC) rfl rfl (Nat.le_of_ble_eq_true rfl) rfl hC.2.1 (Nat.le_of_ble_eq_true rfl) (Nat.le_of_ble_eq_true rfl) (by omega) (by omega) (fun E h9 q9 => absurd (Prod.mk.inj (show sp_forget S = _ from q9.choose_spec.1)).1 (by simp)) ?_
  rintro _ h1 ⟨z5, S5, e5, rfl, C1, f1⟩
  have eS : S5 = (sp_forget S).2 := by rw [e5]
  subst eS
  have eo1 := (f1 ou n1).trans eo
  have H1 : zMod G h1 ma S th := hM.mid (ad := ad) n2 n3 (fun q _ hq => f1 q hq)
  refine z_pop rfl dLaw_law_1981 ?_
  refine z_aload_n dLaw_law_1982 rfl ?_
  refine z_callV (bc' := bc - 6 - 0) (bs' := bs - 36 - 0) MV_Mod_forget lk_Law_313 dLaw_law_1983 (k_Mod_forget H1 hO) rfl rfl (Nat.le_of_ble_eq_true rfl) rfl H1.2.1 (Nat.le_of_ble_eq_true rfl) (Nat.le_of_ble_eq_true rfl) (by omega) (by omega) (fun _ _ q => q.elim) ?_
  rintro _ h2 ⟨ma2, th2, z6, rfl, m0, H2, F2, A2, e6⟩
  refine z_pop rfl dLaw_law_1986 ?_
  refine z_goto (tgt := 2138) dLaw_law_1987 (by decide) ?_
  exact K _ _ h2 ma2 _ _ _ (zLi.fin C1 eo1 n1 n2 n3 H2 F2 A2 (ok_forget hO) (oka_forget oka)) m0 (by omega) (by omega)
theorem c_Law_43 {ou : Nat} {i : Int} {y5 y6 : Option Value} (I : zLi G h ad ma ou S) (hi : 0 ≤ i ∧ i + 4 ≤ L) (hb1 : 210 ≤ bc) (hb2 : 12100 ≤ bs) (K : zLK G l b L xs ad ma ou i bc bs) : zR G l (zLJ G b L xs) bc bs h 1990 [some (.ref b), some (.ref (ad 0)), some (.ref (ma 0)), some (.ref ou), some (zi i), y5, y6] [] := by
  obtain ⟨th, n0, sv, hC, hM, hO, oka, eo, n1, n2, n3⟩ := I
  have h16 : ∀ k, k < 4 → (S.1 k).length ≤ 16 := fun k hk => (hC.ls hk).len
  have x1 := zX9_r (xs := xs) (i + 1)
  have x2 := zX9_r (xs := xs) (i + 2)
  have x3 := zX9_r (xs := xs) (i + 3)
  refine z_aload_n dLaw_law_1990 rfl ?_
  refine z_aload_n dLaw_law_1991 rfl ?_
  refine z_iload dLaw_law_1992 rfl ?_
  refine z_iconst dLaw_law_1994 ?_
  refine z_iadd dLaw_law_1995 ?_
  refine z_sld (by omega) dLaw_law_1996 ?_
  refine z_aload_n dLaw_law_1997 rfl ?_
  refine z_callSX (bc' := bc - 6) (bs' := bs - 36) MW_Law_asked lk_Law_314 dLaw_law_1998 (k_Law_asked hC (zX9_r (xs := xs) (i + 1)) eo n1) rfl rfl (Nat.le_of_ble_eq_true rfl) (Nat.le_of_ble_eq_true rfl) (Nat.le_of_ble_eq_true rfl) (by omega) (by omega) (fun _ _ q => q.elim) ?_
  rintro _ h1 ⟨k5, z5, sv5, rfl, C1, f1, eo1, e5⟩
  have H1 : zMod G h1 ma S th := hM.mid n2 n3 f1
  refine z_istore dLaw_law_2001 (Nat.le_of_ble_eq_true rfl) ?_
  refine z_aload_n dLaw_law_2003 rfl ?_
  refine z_aload_n dLaw_law_2004 rfl ?_
  refine z_iload dLaw_law_2005 rfl ?_
  refine z_iconst dLaw_law_2007 ?_
  refine z_iadd dLaw_law_2008 ?_
  refine z_sld (by omega) dLaw_law_2009 ?_
  refine z_callV (bc' := bc - 6 - 0) (bs' := bs - 36 - 0) MV_Mod_asked lk_Law_316 dLaw_law_2010 (k_Mod_asked H1 (zX9_r (xs := xs) (i + 1)) hO) rfl rfl (Nat.le_of_ble_eq_true rfl) rfl H1.2.1 (Nat.le_of_ble_eq_true rfl) (Nat.le_of_ble_eq_true rfl) (by omega) (by omega) (fun _ _ q => q.elim) ?_
  rintro _ h2 ⟨ma2, th2, z6, rfl, m0, H2, F2, A2, e6⟩
  refine z_istore dLaw_law_2013 (Nat.le_of_ble_eq_true rfl) ?_
  refine z_goto (tgt := 2138) dLaw_law_2015 (by decide) ?_
  exact K _ _ h2 ma2 _ _ _ (zLi.fin C1 eo1 n1 n2 n3 H2 F2 A2 (ok_asked hO) (oka_asked oka)) m0 (by omega) (by omega)
theorem c_Law_44 {ou : Nat} {i : Int} {y5 y6 : Option Value} (I : zLi G h ad ma ou S) (hi : 0 ≤ i ∧ i + 4 ≤ L) (hb1 : 210 ≤ bc) (hb2 : 12100 ≤ bs) (K : zLK G l b L xs ad ma ou i bc bs) : zR G l (zLJ G b L xs) bc bs h 2018 [some (.ref b), some (.ref (ad 0)), some (.ref (ma 0)), some (.ref ou), some (zi i), y5, y6] [] := by
  obtain ⟨th, n0, sv, hC, hM, hO, oka, eo, n1, n2, n3⟩ := I
  have h16 : ∀ k, k < 4 → (S.1 k).length ≤ 16 := fun k hk => (hC.ls hk).len
  have x1 := zX9_r (xs := xs) (i + 1)
  have x2 := zX9_r (xs := xs) (i + 2)
  have x3 := zX9_r (xs := xs) (i + 3)
  refine z_aload_n dLaw_law_2018 rfl ?_
  refine z_callV (bc' := bc - 36) (bs' := bs - 600) MV_Cls_recent lk_Law_317 dLaw_law_2019 (k_Cls_recent hC) rfl rfl (Nat.le_of_ble_eq_true rfl) rfl hC.2.1 (Nat.le_of_ble_eq_true rfl) (Nat.le_of_ble_eq_true rfl) (by omega) (by omega) (fun _ _ q => q.elim) ?_
  rintro _ h1 ⟨⟨s5, rfl⟩, rfl⟩
  have C1 := hC
  have f1 : zFrm ad h h := zFrm.rf
  have eo1 := (f1 ou n1).trans eo
  have H1 : zMod G h ma S th := hM.mid (ad := ad) n2 n3 (fun q _ hq => f1 q hq)
  refine z_pop rfl dLaw_law_2022 ?_
  refine z_aload_n dLaw_law_2023 rfl ?_
  refine z_callV (bc' := bc - 36 - 112) (bs' := bs - 600 - 9344) MV_Mod_recent lk_Law_321 dLaw_law_2024 (k_Mod_recent H1 hO) rfl rfl (Nat.le_of_ble_eq_true rfl) rfl H1.2.1 (Nat.le_of_ble_eq_true rfl) (Nat.le_of_ble_eq_true rfl) (by omega) (by omega) (fun _ _ q => q.elim) ?_
  rintro _ h2 ⟨⟨s6, rfl⟩, H2, F2⟩
  refine z_pop rfl dLaw_law_2027 ?_
  refine z_goto (tgt := 2138) dLaw_law_2028 (by decide) ?_
  exact K _ _ h2 ma _ _ _ (zLi.fin C1 eo1 n1 n2 n3 H2 F2 (fun _ _ => Or.inl rfl) hO oka) rfl (by omega) (by omega)
theorem c_Law_45 {ou : Nat} {i : Int} {y5 y6 : Option Value} (I : zLi G h ad ma ou S) (hi : 0 ≤ i ∧ i + 4 ≤ L) (hb1 : 210 ≤ bc) (hb2 : 12100 ≤ bs) (K : zLK G l b L xs ad ma ou i bc bs) : zR G l (zLJ G b L xs) bc bs h 2031 [some (.ref b), some (.ref (ad 0)), some (.ref (ma 0)), some (.ref ou), some (zi i), y5, y6] [] := by
  obtain ⟨th, n0, sv, hC, hM, hO, oka, eo, n1, n2, n3⟩ := I
  have h16 : ∀ k, k < 4 → (S.1 k).length ≤ 16 := fun k hk => (hC.ls hk).len
  have x1 := zX9_r (xs := xs) (i + 1)
  have x2 := zX9_r (xs := xs) (i + 2)
  have x3 := zX9_r (xs := xs) (i + 3)
  refine z_aload_n dLaw_law_2031 rfl ?_
  refine z_aload_n dLaw_law_2032 rfl ?_
  refine z_iload dLaw_law_2033 rfl ?_
  refine z_iconst dLaw_law_2035 ?_
  refine z_iadd dLaw_law_2036 ?_
  refine z_sld (by omega) dLaw_law_2037 ?_
  refine z_aload_n dLaw_law_2038 rfl ?_
  refine z_iload dLaw_law_2039 rfl ?_
  refine z_iconst dLaw_law_2041 ?_
  refine z_iadd dLaw_law_2042 ?_
  refine z_sld (by omega) dLaw_law_2043 ?_
  refine z_aload_n dLaw_law_2044 rfl ?_
  refine z_callSX (bc' := bc - 6) (bs' := bs - 36) MW_Law_byOrder lk_Law_322 dLaw_law_2045 (k_Law_byOrder hC (zX9_r (xs := xs) (i + 1)) (zX9_r (xs := xs) (i + 2)) eo n1) rfl rfl (Nat.le_of_ble_eq_true rfl) (Nat.le_of_ble_eq_true rfl) (Nat.le_of_ble_eq_true rfl) (by omega) (by omega) (fun _ _ q => q.elim) ?_
  rintro _ h1 ⟨k5, z5, sv5, rfl, C1, f1, eo1, e5⟩
  have H1 : zMod G h1 ma S th := hM.mid n2 n3 f1
  refine z_istore dLaw_law_2048 (Nat.le_of_ble_eq_true rfl) ?_
  refine z_aload_n dLaw_law_2050 rfl ?_
  refine z_aload_n dLaw_law_2051 rfl ?_
  refine z_iload dLaw_law_2052 rfl ?_
  refine z_iconst dLaw_law_2054 ?_
  refine z_iadd dLaw_law_2055 ?_
  refine z_sld (by omega) dLaw_law_2056 ?_
  refine z_aload_n dLaw_law_2057 rfl ?_
  refine z_iload dLaw_law_2058 rfl ?_
  refine z_iconst dLaw_law_2060 ?_
  refine z_iadd dLaw_law_2061 ?_
  refine z_sld (by omega) dLaw_law_2062 ?_
  refine z_callV (bc' := bc - 6 - 0) (bs' := bs - 36 - 0) MV_Mod_byOrder lk_Law_324 dLaw_law_2063 (k_Mod_byOrder H1 (zX9_r (xs := xs) (i + 1)) (zX9_r (xs := xs) (i + 2)) hO.2.2.2.1 (fun j hj => ⟨by have := (oka j hj).1; omega, by have := (oka j hj).2; omega⟩)) rfl rfl (Nat.le_of_ble_eq_true rfl) rfl H1.2.1 (Nat.le_of_ble_eq_true rfl) (Nat.le_of_ble_eq_true rfl) (by omega) (by omega) (fun _ _ q => q.elim) ?_
  rintro _ h2 ⟨ma2, th2, z6, rfl, m0, H2, F2, A2, e6⟩
  rw [spm_state] at H2
  refine z_istore dLaw_law_2066 (Nat.le_of_ble_eq_true rfl) ?_
  refine z_goto (tgt := 2138) dLaw_law_2068 (by decide) ?_
  exact K _ _ h2 ma2 _ _ _ (zLi.fin C1 eo1 n1 n2 n3 H2 F2 A2 (ok_byOrder hO) (oka_byOrder oka)) m0 (by omega) (by omega)
theorem c_Law_46 {ou : Nat} {i : Int} {y5 y6 : Option Value} (I : zLi G h ad ma ou S) (hi : 0 ≤ i ∧ i + 4 ≤ L) (hb1 : 210 ≤ bc) (hb2 : 12100 ≤ bs) (K : zLK G l b L xs ad ma ou i bc bs) : zR G l (zLJ G b L xs) bc bs h 2071 [some (.ref b), some (.ref (ad 0)), some (.ref (ma 0)), some (.ref ou), some (zi i), y5, y6] [] := by
  obtain ⟨th, n0, sv, hC, hM, hO, oka, eo, n1, n2, n3⟩ := I
  have h16 : ∀ k, k < 4 → (S.1 k).length ≤ 16 := fun k hk => (hC.ls hk).len
  have x1 := zX9_r (xs := xs) (i + 1)
  have x2 := zX9_r (xs := xs) (i + 2)
  have x3 := zX9_r (xs := xs) (i + 3)
  refine z_aload_n dLaw_law_2071 rfl ?_
  refine z_aload_n dLaw_law_2072 rfl ?_
  refine z_iload dLaw_law_2073 rfl ?_
  refine z_iconst dLaw_law_2075 ?_
  refine z_iadd dLaw_law_2076 ?_
  refine z_sld (by omega) dLaw_law_2077 ?_
  refine z_aload_n dLaw_law_2078 rfl ?_
  refine z_callSX (bc' := bc - 6) (bs' := bs - 36) MW_Law_house lk_Law_325 dLaw_law_2079 (k_Law_house hC (zX9_r (xs := xs) (i + 1)) eo n1) rfl rfl (Nat.le_of_ble_eq_true rfl) (Nat.le_of_ble_eq_true rfl) (Nat.le_of_ble_eq_true rfl) (by omega) (by omega) (fun _ _ q => q.elim) ?_
  rintro _ h1 ⟨k5, z5, sv5, rfl, C1, f1, eo1, e5⟩
  have H1 : zMod G h1 ma S th := hM.mid n2 n3 f1
  refine z_istore dLaw_law_2082 (Nat.le_of_ble_eq_true rfl) ?_
  refine z_aload_n dLaw_law_2084 rfl ?_
  refine z_aload_n dLaw_law_2085 rfl ?_
  refine z_iload dLaw_law_2086 rfl ?_
  refine z_iconst dLaw_law_2088 ?_
  refine z_iadd dLaw_law_2089 ?_
  refine z_sld (by omega) dLaw_law_2090 ?_
  refine z_callV (bc' := bc - 6 - 1) (bs' := bs - 36 - 5) MV_Mod_house lk_Law_327 dLaw_law_2091 (k_Mod_house H1 (zX9_r (xs := xs) (i + 1))) rfl rfl (Nat.le_of_ble_eq_true rfl) rfl H1.2.1 (Nat.le_of_ble_eq_true rfl) (Nat.le_of_ble_eq_true rfl) (by omega) (by omega) (fun _ _ q => q.elim) ?_
  rintro _ h2 ⟨ma2, th2, z6, rfl, m0, H2, F2, A2, e6⟩
  refine z_istore dLaw_law_2094 (Nat.le_of_ble_eq_true rfl) ?_
  refine z_goto (tgt := 2138) dLaw_law_2096 (by decide) ?_
  exact K _ _ h2 ma2 _ _ _ (zLi.fin C1 eo1 n1 n2 n3 H2 F2 A2 (ok_house hO) (oka_house oka)) m0 (by omega) (by omega)
theorem c_Law_47 {ou : Nat} {i : Int} {y5 y6 : Option Value} (I : zLi G h ad ma ou S) (hi : 0 ≤ i ∧ i + 4 ≤ L) (hb1 : 210 ≤ bc) (hb2 : 12100 ≤ bs) (K : zLK G l b L xs ad ma ou i bc bs) : zR G l (zLJ G b L xs) bc bs h 2099 [some (.ref b), some (.ref (ad 0)), some (.ref (ma 0)), some (.ref ou), some (zi i), y5, y6] [] := by
  obtain ⟨th, n0, sv, hC, hM, hO, oka, eo, n1, n2, n3⟩ := I
  have h16 : ∀ k, k < 4 → (S.1 k).length ≤ 16 := fun k hk => (hC.ls hk).len
  have x1 := zX9_r (xs := xs) (i + 1)
  have x2 := zX9_r (xs := xs) (i + 2)
  have x3 := zX9_r (xs := xs) (i + 3)
  refine z_aload_n dLaw_law_2099 rfl ?_
  refine z_callV (bc' := bc - 6) (bs' := bs - 36) MV_Cls_knock lk_Law_328 dLaw_law_2100 (k_Cls_knock hC) rfl rfl (Nat.le_of_ble_eq_true rfl) rfl hC.2.1 (Nat.le_of_ble_eq_true rfl) (Nat.le_of_ble_eq_true rfl) (by omega) (by omega) (fun E h9 q9 => absurd (Prod.mk.inj (show sp_knock S = _ from q9.choose_spec.1)).1 (by simp)) ?_
  rintro _ h1 ⟨z5, S5, e5, rfl, C1, f1⟩
  have eS : S5 = (sp_knock S).2 := by rw [e5]
  subst eS
  have eo1 := (f1 ou n1).trans eo
  have H1 : zMod G h1 ma S th := hM.mid (ad := ad) n2 n3 (fun q _ hq => f1 q hq)
  refine z_pop rfl dLaw_law_2103 ?_
  refine z_aload_n dLaw_law_2104 rfl ?_
  refine z_callV (bc' := bc - 6 - 0) (bs' := bs - 36 - 0) MV_Mod_knock lk_Law_331 dLaw_law_2105 (k_Mod_knock H1) rfl rfl (Nat.le_of_ble_eq_true rfl) rfl H1.2.1 (Nat.le_of_ble_eq_true rfl) (Nat.le_of_ble_eq_true rfl) (by omega) (by omega) (fun _ _ q => q.elim) ?_
  rintro _ h2 ⟨rfl, H2, F2⟩
  refine z_pop rfl dLaw_law_2108 ?_
  refine z_goto (tgt := 2138) dLaw_law_2109 (by decide) ?_
  exact K _ _ h2 ma _ _ _ (zLi.fin C1 eo1 n1 n2 n3 H2 F2 (fun _ _ => Or.inl rfl) (ok_knock hO) (oka_knock oka)) rfl (by omega) (by omega)
theorem c_Law_48 {ou : Nat} {i : Int} {y5 y6 : Option Value} (I : zLi G h ad ma ou S) (hi : 0 ≤ i ∧ i + 4 ≤ L) (hb1 : 210 ≤ bc) (hb2 : 12100 ≤ bs) (K : zLK G l b L xs ad ma ou i bc bs) : zR G l (zLJ G b L xs) bc bs h 2112 [some (.ref b), some (.ref (ad 0)), some (.ref (ma 0)), some (.ref ou), some (zi i), y5, y6] [] := by
  obtain ⟨th, n0, sv, hC, hM, hO, oka, eo, n1, n2, n3⟩ := I
  have h16 : ∀ k, k < 4 → (S.1 k).length ≤ 16 := fun k hk => (hC.ls hk).len
  have x1 := zX9_r (xs := xs) (i + 1)
  have x2 := zX9_r (xs := xs) (i + 2)
  have x3 := zX9_r (xs := xs) (i + 3)
  refine z_aload_n dLaw_law_2112 rfl ?_
  refine z_callV (bc' := bc - 0) (bs' := bs - 0) MV_Cls_isSound lk_Law_332 dLaw_law_2113 (k_Cls_isSound hC hO) rfl rfl (Nat.le_of_ble_eq_true rfl) rfl hC.2.1 (Nat.le_of_ble_eq_true rfl) (Nat.le_of_ble_eq_true rfl) (by omega) (by omega) (fun _ _ q => q.elim) ?_
  rintro _ h1 ⟨z5, rfl, -, C1, f1⟩
  have eo1 := (f1 ou n1).trans eo
  have H1 : zMod G h1 ma S th := hM.mid (ad := ad) n2 n3 (fun q _ hq => f1 q hq)
  refine z_pop rfl dLaw_law_2116 ?_
  refine z_aload_n dLaw_law_2117 rfl ?_
  refine z_callV (bc' := bc - 0 - 0) (bs' := bs - 0 - 0) MV_Mod_isSound lk_Law_336 dLaw_law_2118 (k_Mod_isSound H1) rfl rfl (Nat.le_of_ble_eq_true rfl) rfl H1.2.1 (Nat.le_of_ble_eq_true rfl) (Nat.le_of_ble_eq_true rfl) (by omega) (by omega) (fun _ _ q => q.elim) ?_
  rintro _ h2 ⟨rfl, H2, F2⟩
  refine z_pop rfl dLaw_law_2121 ?_
  refine z_goto (tgt := 2138) dLaw_law_2122 (by decide) ?_
  exact K _ _ h2 ma _ _ _ (zLi.fin C1 eo1 n1 n2 n3 H2 F2 (fun _ _ => Or.inl rfl) hO oka) rfl (by omega) (by omega)
theorem c_Law_49 {ou : Nat} {i : Int} {y5 y6 : Option Value} (I : zLi G h ad ma ou S) (hi : 0 ≤ i ∧ i + 4 ≤ L) (hb1 : 210 ≤ bc) (hb2 : 12100 ≤ bs) (K : zLK G l b L xs ad ma ou i bc bs) : zR G l (zLJ G b L xs) bc bs h 2125 [some (.ref b), some (.ref (ad 0)), some (.ref (ma 0)), some (.ref ou), some (zi i), y5, y6] [] := by
  obtain ⟨th, n0, sv, hC, hM, hO, oka, eo, n1, n2, n3⟩ := I
  have h16 : ∀ k, k < 4 → (S.1 k).length ≤ 16 := fun k hk => (hC.ls hk).len
  have x1 := zX9_r (xs := xs) (i + 1)
  have x2 := zX9_r (xs := xs) (i + 2)
  have x3 := zX9_r (xs := xs) (i + 3)
  refine z_aload_n dLaw_law_2125 rfl ?_
  refine z_callV (bc' := bc - 0) (bs' := bs - 0) MV_Cls_digest lk_Law_337 dLaw_law_2126 (k_Cls_digest hC hO) rfl rfl (Nat.le_of_ble_eq_true rfl) rfl hC.2.1 (Nat.le_of_ble_eq_true rfl) (Nat.le_of_ble_eq_true rfl) (by omega) (by omega) (fun _ _ q => q.elim) ?_
  rintro _ h1 ⟨z5, -, rfl, C1, f1⟩
  have eo1 := (f1 ou n1).trans eo
  have H1 : zMod G h1 ma S th := hM.mid (ad := ad) n2 n3 (fun q _ hq => f1 q hq)
  refine z_pop2_2 rfl dLaw_law_2129 ?_
  refine z_aload_n dLaw_law_2130 rfl ?_
  refine z_callV (bc' := bc - 0 - 23) (bs' := bs - 0 - 133) MV_Mod_digest lk_Law_341 dLaw_law_2131 (k_Mod_digest H1 hO oka h16) rfl rfl (Nat.le_of_ble_eq_true rfl) rfl H1.2.1 (Nat.le_of_ble_eq_true rfl) (Nat.le_of_ble_eq_true rfl) (by omega) (by omega) (fun _ _ q => q.elim) ?_
  rintro _ h2 ⟨d6, rfl, H2, F2⟩
  refine z_pop2_2 rfl dLaw_law_2134 ?_
  refine z_goto (tgt := 2138) dLaw_law_2135 (by decide) ?_
  exact K _ _ h2 ma _ _ _ (zLi.fin C1 eo1 n1 n2 n3 H2 F2 (fun _ _ => Or.inl rfl) hO oka) rfl (by omega) (by omega)
end LAW3
