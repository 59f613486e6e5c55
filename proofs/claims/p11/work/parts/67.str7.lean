section STR7
variable {G : zG} {l : Launch} {h h' h0 : zHp}
theorem k_Arr_checkLength {n : Nat} (hn : n ≤ 1000) : zM G l hArr_checkLength_df160 yArr_checkLength_df160 1 [zi 0, zi (n : Int)] h (fun v h' => v = none ∧ h = h') zNo 0 0 := by
  refine zM.of [some (zi 0), some (zi (n : Int))] (by decide +kernel) rfl (by decide) rfl (Nat.le_of_ble_eq_true rfl) rfl ?_
  refine z_iload_n dArr_checkLength_df160_0 rfl ?_
  refine z_iload_n dArr_checkLength_df160_1 rfl ?_
  refine z_icmp_ge (tgt := 37) dArr_checkLength_df160_2 (by decide) (by omega) (by omega) (fun c2 => ?_) (fun c2 => ?_)
  rotate_left
  · exfalso; omega
  refine z_vret rfl dArr_checkLength_df160_37 ?_
  exact ⟨rfl, rfl⟩
theorem k_Arr_copyOfRangeByte {a cap n : Nat} {f : Nat → Int} (ea : h a = some (zBytes G cap f)) (hf : zFit f) (hn : n ≤ cap) (hc : cap ≤ 1000) : zM G l hArr_copyOfRangeByte_39247 yArr_copyOfRangeByte_39247 2 [.ref a, zi 0, zi (n : Int)] h (fun v h' => ∃ (q : Nat) (f' : Nat → Int), v = some (.ref q) ∧ zDm h q ∧ G.2.2 ≤ q ∧ h' q = some (zBytes G n f') ∧ zFit f' ∧ ∀ z, z ≠ q → h' z = h z) zNo 1 n := by
  refine zM.of [some (.ref a), some (zi 0), some (zi (n : Int)), none, none] (by decide +kernel) rfl (by decide) rfl (Nat.le_of_ble_eq_true rfl) rfl ?_
  refine z_iload_n dArr_copyOfRangeByte_39247_0 rfl ?_
  refine z_iload_n dArr_copyOfRangeByte_39247_1 rfl ?_
  refine z_callS MS_Arr_checkLength_df160 lk_Arr_343 dArr_copyOfRangeByte_39247_2 (k_Arr_checkLength (by omega)) rfl rfl (Nat.le_of_ble_eq_true rfl)  (Nat.le_of_ble_eq_true rfl) (Nat.le_of_ble_eq_true rfl) (Nat.le_of_eq (Nat.zero_add _)) (Nat.le_of_eq (Nat.zero_add _)) (fun _ _ q => q.elim) ?_
  rintro _ _ ⟨rfl, rfl⟩
  refine z_iload_n dArr_copyOfRangeByte_39247_5 rfl ?_
  refine z_iload_n dArr_copyOfRangeByte_39247_6 rfl ?_
  refine z_isub dArr_copyOfRangeByte_39247_7 ?_
  refine z_istore_n dArr_copyOfRangeByte_39247_8 (Nat.le_of_ble_eq_true rfl) ?_
  refine z_iload_n dArr_copyOfRangeByte_39247_9 rfl ?_
  rw [show (n : Int) - 0 = (n : Int) by omega]
  refine z_newB (n := n) (bc' := 0) (bs' := 0) rfl dArr_copyOfRangeByte_39247_10 (by omega) (by decide) (by omega) (fun q h1 hq gq p1 F1 => ?_)
  have ea1 := (F1 a (Nat.ne_of_lt (hq a _ ea))).trans ea
  refine z_astore dArr_copyOfRangeByte_39247_12 (Nat.le_of_ble_eq_true rfl) ?_
  refine z_aload_n dArr_copyOfRangeByte_39247_14 rfl ?_
  refine z_iload_n dArr_copyOfRangeByte_39247_15 rfl ?_
  refine z_aload dArr_copyOfRangeByte_39247_16 rfl ?_
  refine z_iconst dArr_copyOfRangeByte_39247_18 ?_
  refine z_aload_n dArr_copyOfRangeByte_39247_19 rfl ?_
  refine z_alenB dArr_copyOfRangeByte_39247_20 ea1 ?_
  refine z_iload_n dArr_copyOfRangeByte_39247_21 rfl ?_
  refine z_isub dArr_copyOfRangeByte_39247_22 ?_
  refine z_iload_n dArr_copyOfRangeByte_39247_23 rfl ?_
  refine z_callS MS_Mth_min_7cf53 lk_Arr_304 dArr_copyOfRangeByte_39247_24 (k_Mth_min_7cf53 (by omega) (by omega)) rfl rfl (Nat.le_of_ble_eq_true rfl)  (Nat.le_of_ble_eq_true rfl) (Nat.le_of_ble_eq_true rfl) (Nat.le_of_eq (Nat.zero_add _)) (Nat.le_of_eq (Nat.zero_add _)) (fun _ _ q => q.elim) ?_
  rintro _ _ ⟨rfl, rfl⟩
  rw [show (if (cap : Int) - 0 ≤ (n : Int) then (cap : Int) - 0 else (n : Int)) = (n : Int) by split <;> omega]
  refine z_copyb (n0 := cap) (n1 := n) (sp := 0) (dp := 0) (n := n) lk_Arr_150 dArr_copyOfRangeByte_39247_27 ea1 p1 (by omega) (by omega) (by omega) hf (Nat.le_of_ble_eq_true rfl) (show 0 + (nativeFrameWords "java/lang/System" "arraycopy" 5 + 11) ≤ 2 * 64 by decide) ?_
  refine z_hx (fun h2 p2 F2 => ?_)
  refine z_aload dArr_copyOfRangeByte_39247_30 rfl ?_
  refine z_aret rfl (Or.inr ⟨_, rfl⟩) (Or.inr ⟨_, rfl⟩) dArr_copyOfRangeByte_39247_32 ?_
  exact ⟨q, _, rfl, hq, gq, p2, zFit_cpy hf zFit_0, fun z hz => (F2 z hz).trans (F1 z hz)⟩
theorem k_Arr_copyOfRange {a cap n : Nat} {f : Nat → Int} (ea : h a = some (zBytes G cap f)) (hf : zFit f) (hn : n ≤ cap) (hc : cap ≤ 1000) : zM G l hArr_copyOfRange_39247 yArr_copyOfRange_39247 3 [.ref a, zi 0, zi (n : Int)] h (fun v h' => ∃ (q : Nat) (f' : Nat → Int), v = some (.ref q) ∧ zDm h q ∧ G.2.2 ≤ q ∧ h' q = some (zBytes G n f') ∧ zFit f' ∧ ∀ z, z ≠ q → h' z = h z) zNo 1 n := by
  refine zM.of [some (.ref a), some (zi 0), some (zi (n : Int))] (by decide +kernel) rfl (by decide) rfl (Nat.le_of_ble_eq_true rfl) rfl ?_
  refine z_iload_n dArr_copyOfRange_39247_0 rfl ?_
  refine z_if_ne (tgt := 10) dArr_copyOfRange_39247_1 (by decide) (by omega) (fun c1 => absurd rfl c1) (fun c1 => ?_)
  refine z_iload_n dArr_copyOfRange_39247_4 rfl ?_
  refine z_aload_n dArr_copyOfRange_39247_5 rfl ?_
  refine z_alenB dArr_copyOfRange_39247_6 ea ?_
  refine z_icmp_eq (tgt := 17) dArr_copyOfRange_39247_7 (by decide) (by omega) (by omega) (fun c7 => ?_) (fun c7 => ?_)
  · refine z_aload_n dArr_copyOfRange_39247_17 rfl ?_
    refine z_clone (bc' := 0) (bs' := 0) lk_Arr_310 dArr_copyOfRange_39247_18 ea hf (Nat.le_of_ble_eq_true rfl) (show 0 + 14 ≤ 3 * 64 by decide) (by omega) (by omega) (fun q h1 hq gq p1 F1 => ?_)
    have hcn : cap = n := by omega
    have hf1 := hf
    refine z_castB cl_Arr_311 dArr_copyOfRange_39247_21 p1 ?_
    rw [hcn] at p1
    refine z_aret rfl (Or.inr ⟨_, rfl⟩) (Or.inr ⟨_, rfl⟩) dArr_copyOfRange_39247_24 ?_
    exact ⟨q, _, rfl, hq, gq, p1, hf1, F1⟩
  · refine z_aload_n dArr_copyOfRange_39247_10 rfl ?_
    refine z_iload_n dArr_copyOfRange_39247_11 rfl ?_
    refine z_iload_n dArr_copyOfRange_39247_12 rfl ?_
    refine z_callS (bc' := 0) (bs' := 0) MS_Arr_copyOfRangeByte_39247 lk_Arr_339 dArr_copyOfRange_39247_13 (k_Arr_copyOfRangeByte ea hf hn hc) rfl rfl (Nat.le_of_ble_eq_true rfl)  (Nat.le_of_ble_eq_true rfl) (Nat.le_of_ble_eq_true rfl) (by omega) (by omega) (fun _ _ q => q.elim) ?_
    rintro _ h1 ⟨q, f', rfl, hq, gq, p1, hf1, F1⟩
    refine z_aret rfl (Or.inr ⟨_, rfl⟩) (Or.inr ⟨_, rfl⟩) dArr_copyOfRange_39247_16 ?_
    exact ⟨q, _, rfl, hq, gq, p1, hf1, F1⟩
theorem k_Asb_getValue {b a : Nat} {x1 ml x3 : Value} (e : h b = some (.inr (zkSbd, [.ref a, x1, ml, x3]))) : zM G l hAsb_getValue_6d5f1 yAsb_getValue_6d5f1 1 [.ref b] h (fun v h' => v = some (.ref a) ∧ h = h') zNo 0 0 := by
  refine zM.of [some (.ref b)] (by decide +kernel) rfl (by decide) rfl (Nat.le_of_ble_eq_true rfl) rfl ?_
  refine z_aload_n dAsb_getValue_6d5f1_0 rfl ?_
  refine z_get (k := 0) fd_Sbd (by decide) fl_Asb_15 dAsb_getValue_6d5f1_1 (by assumption) (by rfl) ?_
  refine z_aret rfl (Or.inr ⟨_, rfl⟩) (Or.inr ⟨_, rfl⟩) dAsb_getValue_6d5f1_4 ?_
  exact ⟨rfl, rfl⟩
theorem k_Asb_length {b : Nat} {n : Int} {x0 x1 ml : Value} (e : h b = some (.inr (zkSbd, [x0, x1, ml, zi n]))) : zM G l hAsb_length_8abf5 yAsb_length_8abf5 1 [.ref b] h (fun v h' => v = some (zi n) ∧ h = h') zNo 0 0 := by
  refine zM.of [some (.ref b)] (by decide +kernel) rfl (by decide) rfl (Nat.le_of_ble_eq_true rfl) rfl ?_
  refine z_aload_n dAsb_length_8abf5_0 rfl ?_
  refine z_get (k := 3) fd_Sbd (by decide) fl_Asb_79 dAsb_length_8abf5_1 (by assumption) (by rfl) ?_
  refine z_iret rfl rfl dAsb_length_8abf5_4 ?_
  exact ⟨rfl, rfl⟩
theorem k_Sbd_length {b : Nat} {n : Int} {x0 x1 ml : Value} (e : h b = some (.inr (zkSbd, [x0, x1, ml, zi n]))) : zM G l hSbd_length_8abf5 ySbd_length_8abf5 2 [.ref b] h (fun v h' => v = some (zi n) ∧ h = h') zNo 0 0 := by
  refine zM.of [some (.ref b)] (by decide +kernel) rfl (by decide) rfl (Nat.le_of_ble_eq_true rfl) rfl ?_
  refine z_aload_n dSbd_length_8abf5_0 rfl ?_
  refine z_callSU ME_Asb_length_8abf5 IN_Asb_length_8abf5 SM_Asb_length_8abf5 SU_Sbd (by decide) lk_Sbd_343 dSbd_length_8abf5_1 (k_Asb_length e) rfl rfl (Nat.le_of_ble_eq_true rfl) (by assumption) (Nat.le_of_ble_eq_true rfl) (Nat.le_of_ble_eq_true rfl) (Nat.le_of_eq (Nat.zero_add _)) (Nat.le_of_eq (Nat.zero_add _)) (fun _ _ q => q.elim) ?_
  rintro _ _ ⟨rfl, rfl⟩
  refine z_iret rfl rfl dSbd_length_8abf5_4 ?_
  exact ⟨rfl, rfl⟩
set_option maxRecDepth 40000 in
theorem CX_length : Cond.code yAsb_length_8abf5 hAsb_length_8abf5.2.1 hAsb_length_8abf5.2.2.1 hAsb_length_8abf5.2.2.2.1 ∈ zWS := (zin_of zc2 (i := 102) rfl rfl)
theorem k_Str_initA {s b a cap n : Nat} {ml : Value} {f : Nat → Int} (es : h s = some (.inr (zkStr, [.null, zi 0, zi 0, zi 0]))) (e : h b = some (.inr (zkSbd, [.ref a, zi 0, ml, zi (n : Int)]))) (ea : h a = some (zBytes G cap f)) (hf : zFit f) (hn : n ≤ cap) (hc : cap ≤ 1000) (hsb : s ≠ b) (hsa : s ≠ a) : zM G l hStr_init_db425 yStr_init_db425 4 [.ref s, .ref b, .null] h (fun v h' => v = none ∧ zSr G h' s n ∧ ∀ z e, h z = some e → z ≠ s → h' z = some e) zNo 1 n := by
  refine zM.of [some (.ref s), some (.ref b), some .null, none, none] (by decide +kernel) rfl (by decide) rfl (Nat.le_of_ble_eq_true rfl) rfl ?_
  refine z_aload_n dStr_init_db425_0 rfl ?_
  refine z_obj lk_Str_1 ob_i ob_c dStr_init_db425_1 (Nat.le_of_ble_eq_true rfl) (Nat.le_of_ble_eq_true rfl) (Nat.le_of_ble_eq_true rfl) ?_
  refine z_aload_n dStr_init_db425_4 rfl ?_
  refine z_callC ME_Asb_getValue_6d5f1 IN_Asb_getValue_6d5f1 SE_Asb_getValue_6d5f1 lk_Str_552 dStr_init_db425_5 (k_Asb_getValue e) rfl rfl (Nat.le_of_ble_eq_true rfl) (ci := zkSbd) rfl (by assumption) (Nat.le_of_ble_eq_true rfl) (Nat.le_of_ble_eq_true rfl) (Nat.le_of_eq (Nat.zero_add _)) (Nat.le_of_eq (Nat.zero_add _)) (fun _ _ q => q.elim) ?_
  rintro _ _ ⟨rfl, rfl⟩
  refine z_astore_n dStr_init_db425_8 (Nat.le_of_ble_eq_true rfl) ?_
  refine z_aload_n dStr_init_db425_9 rfl ?_
  refine z_callO ME_Sbd_length IN_Sbd_length SM_Asb_length_8abf5 IN_Asb_length_8abf5 SE_length CX_length ⟨by decide +kernel, by decide +kernel, by decide +kernel⟩ lk_Str_549 dStr_init_db425_10 (k_Sbd_length e) rfl rfl (Nat.le_of_ble_eq_true rfl) (by assumption) (Nat.le_of_ble_eq_true rfl) (Nat.le_of_ble_eq_true rfl) (Nat.le_of_eq (Nat.zero_add _)) (Nat.le_of_eq (Nat.zero_add _)) (fun _ _ q => q.elim) ?_
  rintro _ _ ⟨rfl, rfl⟩
  refine z_istore dStr_init_db425_13 (Nat.le_of_ble_eq_true rfl) ?_
  refine z_aload_n dStr_init_db425_15 rfl ?_
  refine z_callC ME_Asb_isLatin1_aae02 IN_Asb_isLatin1_aae02 SE_Asb_isLatin1_aae02 lk_Str_1047 dStr_init_db425_16 (k_Asb_isLatin1 e) rfl rfl (Nat.le_of_ble_eq_true rfl) (ci := zkSbd) rfl (by assumption) (Nat.le_of_ble_eq_true rfl) (Nat.le_of_ble_eq_true rfl) (Nat.le_of_eq (Nat.zero_add _)) (Nat.le_of_eq (Nat.zero_add _)) (fun _ _ q => q.elim) ?_
  rintro _ _ ⟨rfl, rfl⟩
  refine z_if_eq (tgt := 41) dStr_init_db425_19 (by decide) (by omega) (fun c19 => ?_) (fun c19 => ?_)
  · exact absurd c19 (by decide)
  · refine z_aload_n dStr_init_db425_22 rfl ?_
    refine z_iconst dStr_init_db425_23 ?_
    refine z_putF (k := 1) fd_Str (by decide) fl_Str_15 rfl rfl rfl dStr_init_db425_24 es (by simp) rfl rfl ?_
    refine z_hx (fun h1 p1 F1 => ?_)
    have ea1 := (F1 a (Ne.symm hsa)).trans ea
    refine z_aload_n dStr_init_db425_27 rfl ?_
    refine z_aload_n dStr_init_db425_28 rfl ?_
    refine z_iconst dStr_init_db425_29 ?_
    refine z_iload dStr_init_db425_30 rfl ?_
    refine z_callS (bc' := 0) (bs' := 0) MS_Arr_copyOfRange_39247 lk_Str_54 dStr_init_db425_32 (k_Arr_copyOfRange ea1 hf hn hc) rfl rfl (Nat.le_of_ble_eq_true rfl)  (Nat.le_of_ble_eq_true rfl) (Nat.le_of_ble_eq_true rfl) (by omega) (by omega) (fun _ _ q => q.elim) ?_
    rintro _ h2 ⟨q, f', rfl, hq, gq, p2, hf2, F2⟩
    have hsq : s ≠ q := Nat.ne_of_lt (hq s _ p1)
    have es2 := (F2 s hsq).trans p1
    refine z_putF (k := 0) fd_Str (by decide) fl_Str_9 rfl rfl rfl dStr_init_db425_35 es2 (by simp) rfl rfl ?_
    refine z_hx (fun h3 p3 F3 => ?_)
    refine z_goto (tgt := 97) dStr_init_db425_38 (by decide) ?_
    refine z_vret rfl dStr_init_db425_97 ?_
    refine ⟨rfl, Or.inr ⟨q, f', _, _, p3, (F3 q (Ne.symm hsq)).trans p2, hf2⟩, fun z x hz hs => ?_⟩
    have z1 := (F1 z hs).trans hz
    exact (F3 z hs).trans ((F2 z (Nat.ne_of_lt (hq z _ z1))).trans z1)
theorem k_Str_init {s b a cap n : Nat} {ml : Value} {f : Nat → Int} (es : h s = some (.inr (zkStr, [.null, zi 0, zi 0, zi 0]))) (e : h b = some (.inr (zkSbd, [.ref a, zi 0, ml, zi (n : Int)]))) (ea : h a = some (zBytes G cap f)) (hf : zFit f) (hn : n ≤ cap) (hc : cap ≤ 1000) (hsb : s ≠ b) (hsa : s ≠ a) : zM G l hStr_init_81219 yStr_init_81219 5 [.ref s, .ref b] h (fun v h' => v = none ∧ zSr G h' s n ∧ ∀ z e, h z = some e → z ≠ s → h' z = some e) zNo 1 n := by
  refine zM.of [some (.ref s), some (.ref b)] (by decide +kernel) rfl (by decide) rfl (Nat.le_of_ble_eq_true rfl) rfl ?_
  refine z_aload_n dStr_init_81219_0 rfl ?_
  refine z_aload_n dStr_init_81219_1 rfl ?_
  refine z_null dStr_init_81219_2 ?_
  refine z_callI (bc' := 0) (bs' := 0) MI_Str_init_db425 lk_Str_489 dStr_init_81219_3 (k_Str_initA es e ea hf hn hc hsb hsa) rfl rfl (Nat.le_of_ble_eq_true rfl)  (Nat.le_of_ble_eq_true rfl) (Nat.le_of_ble_eq_true rfl) (by omega) (by omega) (fun _ _ q => q.elim) ?_
  rintro _ h1 ⟨rfl, hq9⟩
  refine z_vret rfl dStr_init_81219_6 ?_
  exact ⟨rfl, hq9⟩
theorem k_Sbd_toString {b a cap n : Nat} (B : zSb G h0 h b a cap n) (hc : cap ≤ 1000) : zM G l hSbd_toString_0e30d ySbd_toString_0e30d 6 [.ref b] h (fun v h' => ∃ s, v = some (.ref s) ∧ zSr G h' s n ∧ zExt h h') zNo 2 (4 + n) := by
  obtain ⟨ml, f, e, ea, hf, hnc, hba, db, da, hx⟩ := B
  refine zM.of [some (.ref b)] (by decide +kernel) rfl (by decide) rfl (Nat.le_of_ble_eq_true rfl) rfl ?_
  refine z_new (fs := [.null, zi 0, zi 0, zi 0]) (bc' := 1) (bs' := n) fd_Str cl_Sbd_18 im_Str in_Str (by intro j hj; match j, hj with | 0, _ => rfl | 1, _ => rfl | 2, _ => rfl | 3, _ => rfl) dSbd_toString_0e30d_0 (by omega) (by omega) (fun s hs gs => ?_)
  refine z_hx (fun h1 p1 F1 => ?_)
  have nb : b ≠ s := Nat.ne_of_lt (hs b _ e)
  have na : a ≠ s := Nat.ne_of_lt (hs a _ ea)
  have e1 := (F1 b nb).trans e
  have ea1 := (F1 a na).trans ea
  refine z_dup rfl dSbd_toString_0e30d_3 ?_
  refine z_aload_n dSbd_toString_0e30d_4 rfl ?_
  refine z_callI (bc' := 0) (bs' := 0) MI_Str_init_81219 lk_Sbd_137 dSbd_toString_0e30d_5 (k_Str_init p1 e1 ea1 hf hnc hc (Ne.symm nb) (Ne.symm na)) rfl rfl (Nat.le_of_ble_eq_true rfl)  (Nat.le_of_ble_eq_true rfl) (Nat.le_of_ble_eq_true rfl) (by omega) (by omega) (fun _ _ q => q.elim) ?_
  rintro _ h2 ⟨rfl, S2, F2⟩
  refine z_aret rfl (Or.inl ⟨_, rfl⟩) (Or.inr ⟨_, rfl⟩) dSbd_toString_0e30d_8 ?_
  exact ⟨s, rfl, S2, fun z x hz => F2 z x ((F1 z (Nat.ne_of_lt (hs z _ hz))).trans hz) (Nat.ne_of_lt (hs z _ hz))⟩
end STR7
