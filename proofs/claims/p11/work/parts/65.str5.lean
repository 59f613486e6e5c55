section STR5
variable {G : zG} {l : Launch} {h h' h0 : zHp}
theorem k_Asb_init {b : Nat} (e : h b = some (.inr (zkSbd, [.null, zi 0, zi 0, zi 0]))) : zM G l hAsb_init_d00df yAsb_init_d00df 2 [.ref b, zi 16] h (fun v h' => v = none ∧ ∃ q, zDm h q ∧ G.2.2 ≤ q ∧ h' b = some (.inr (zkSbd, [.ref q, zi 0, zi 0, zi 0])) ∧ h' q = some (zBytes G 16 (fun _ => 0)) ∧ ∀ z, z ≠ b → z ≠ q → h' z = h z) zNo 1 16 := by
  refine zM.of [some (.ref b), some (zi 16)] (by decide +kernel) rfl (by decide) rfl (Nat.le_of_ble_eq_true rfl) rfl ?_
  refine z_aload_n dAsb_init_d00df_0 rfl ?_
  refine z_obj lk_Asb_3 ob_i ob_c dAsb_init_d00df_1 (Nat.le_of_ble_eq_true rfl) (Nat.le_of_ble_eq_true rfl) (Nat.le_of_ble_eq_true rfl) ?_
  refine z_gets zZcs fl_Asb_18 dAsb_init_d00df_4 ?_
  refine z_if_eq (tgt := 25) dAsb_init_d00df_7 (by decide) (by omega) (fun c7 => ?_) (fun c7 => ?_)
  · exact absurd c7 (by decide)
  · refine z_aload_n dAsb_init_d00df_10 rfl ?_
    refine z_iload_n dAsb_init_d00df_11 rfl ?_
    refine z_newB (n := 16) (bc' := 0) (bs' := 0) rfl dAsb_init_d00df_12 (by decide) (by decide) (by decide) (fun q h1 hq gq p1 f1 => ?_)
    have hbq : b ≠ q := Nat.ne_of_lt (hq b _ e)
    have e1 := (f1 b hbq).trans e
    refine z_put (k := 0) fd_Sbd (by decide) fl_Asb_15 rfl dAsb_init_d00df_14 e1 (by simp) rfl rfl ?_
    refine z_hx (fun h2 p2 F2 => ?_)
    refine z_aload_n dAsb_init_d00df_17 rfl ?_
    refine z_iconst dAsb_init_d00df_18 ?_
    refine z_put (k := 1) fd_Sbd (by decide) fl_Asb_22 rfl dAsb_init_d00df_19 p2 (by simp) rfl rfl ?_
    refine z_hx (fun h3 p3 F3 => ?_)
    refine z_goto (tgt := 38) dAsb_init_d00df_22 (by decide) ?_
    refine z_vret rfl dAsb_init_d00df_38 ?_
    exact ⟨rfl, q, hq, gq, p3, (F3 q (Ne.symm hbq)).trans ((F2 q (Ne.symm hbq)).trans p1), fun z z1 z2 => (F3 z z1).trans ((F2 z z1).trans (f1 z z2))⟩
theorem k_Sbd_init {b : Nat} (e : h b = some (.inr (zkSbd, [.null, zi 0, zi 0, zi 0]))) : zM G l hSbd_init_da8c8 ySbd_init_da8c8 3 [.ref b] h (fun v h' => v = none ∧ ∃ q, zDm h q ∧ G.2.2 ≤ q ∧ h' b = some (.inr (zkSbd, [.ref q, zi 0, zi 0, zi 0])) ∧ h' q = some (zBytes G 16 (fun _ => 0)) ∧ ∀ z, z ≠ b → z ≠ q → h' z = h z) zNo 1 16 := by
  refine zM.of [some (.ref b)] (by decide +kernel) rfl (by decide) rfl (Nat.le_of_ble_eq_true rfl) rfl ?_
  refine z_aload_n dSbd_init_da8c8_0 rfl ?_
  refine z_bipush dSbd_init_da8c8_1 rfl ?_
  refine z_callI (bc' := 0) (bs' := 0) MI_Asb_init_d00df lk_Sbd_1 dSbd_init_da8c8_3 (k_Asb_init e) rfl rfl (Nat.le_of_ble_eq_true rfl)  (Nat.le_of_ble_eq_true rfl) (Nat.le_of_ble_eq_true rfl) (by decide) (by decide) (fun _ _ q => q.elim) ?_
  rintro _ h1 ⟨rfl, hq9⟩
  refine z_vret rfl dSbd_init_da8c8_6 ?_
  exact ⟨rfl, hq9⟩
theorem k_Str_coder {q n : Nat} (hs : zSr G h q n) : zM G l hStr_coder_7d493 yStr_coder_7d493 1 [.ref q] h (fun v h' => v = some (zi 0) ∧ h = h') zNo 0 0 := by
  refine zM.of [some (.ref q)] (by decide +kernel) rfl (by decide) rfl (Nat.le_of_ble_eq_true rfl) rfl ?_
  rcases hs with ⟨b9, rfl, hn9⟩ | ⟨v, f, x2, x3, e, ev, hf⟩
  · refine z_gets zZcs fl_Str_38 dStr_coder_7d493_0 ?_
    refine z_if_eq (tgt := 13) dStr_coder_7d493_3 (by decide) (by omega) (fun c3 => ?_) (fun c3 => ?_)
    · exact absurd c3 (by decide)
    · refine z_aload_n dStr_coder_7d493_6 rfl ?_
      refine z_getO (o := "java/lang/String") (n := "coder") (d := "B") (zOc b9) fl_Str_15 dStr_coder_7d493_7 ?_
      refine z_goto (tgt := 14) dStr_coder_7d493_10 (by decide) ?_
      refine z_iret rfl rfl dStr_coder_7d493_14 ?_
      exact ⟨rfl, rfl⟩
  · refine z_gets zZcs fl_Str_38 dStr_coder_7d493_0 ?_
    refine z_if_eq (tgt := 13) dStr_coder_7d493_3 (by decide) (by omega) (fun c3 => ?_) (fun c3 => ?_)
    · exact absurd c3 (by decide)
    · refine z_aload_n dStr_coder_7d493_6 rfl ?_
      refine z_get (k := 1) fd_Str (by decide) fl_Str_15 dStr_coder_7d493_7 (by assumption) (by rfl) ?_
      refine z_goto (tgt := 14) dStr_coder_7d493_10 (by decide) ?_
      refine z_iret rfl rfl dStr_coder_7d493_14 ?_
      exact ⟨rfl, rfl⟩
theorem k_Str_length {q n : Nat} (hs : zSr G h q n) : zM G l hStr_length_8abf5 yStr_length_8abf5 2 [.ref q] h (fun v h' => v = some (zi (n : Int)) ∧ h = h') zNo 0 0 := by
  have hs0 := hs
  refine zM.of [some (.ref q)] (by decide +kernel) rfl (by decide) rfl (Nat.le_of_ble_eq_true rfl) rfl ?_
  rcases hs with ⟨b9, rfl, hn9⟩ | ⟨v, f, x2, x3, e, ev, hf⟩
  · refine z_aload_n dStr_length_8abf5_0 rfl ?_
    refine z_getO (o := "java/lang/String") (n := "value") (d := "[B") (zOv b9) fl_Str_9 dStr_length_8abf5_1 ?_
    refine z_alenO (ty := .byte) (N := if b9 then 0 else 1) (fun U H hZ => ⟨_, (zOt b9 U H hZ).choose_spec.1⟩) dStr_length_8abf5_4 ?_
    refine z_aload_n dStr_length_8abf5_5 rfl ?_
    refine z_callVR MV_Str_coder_7d493 lk_Str_335 dStr_length_8abf5_6 (k_Str_coder hs0) rfl rfl (Nat.le_of_ble_eq_true rfl) hs0.recv (Nat.le_of_ble_eq_true rfl) (Nat.le_of_ble_eq_true rfl) (Nat.le_of_eq (Nat.zero_add _)) (Nat.le_of_eq (Nat.zero_add _)) (fun _ _ q => q.elim) ?_
    rintro _ _ ⟨rfl, rfl⟩
    refine z_ishr _ (zshr0 _) dStr_length_8abf5_9 ?_
    refine z_iret rfl rfl dStr_length_8abf5_10 ?_
    exact ⟨by rw [hn9], rfl⟩
  · refine z_aload_n dStr_length_8abf5_0 rfl ?_
    refine z_get (k := 0) fd_Str (by decide) fl_Str_9 dStr_length_8abf5_1 (by assumption) (by rfl) ?_
    refine z_alenB dStr_length_8abf5_4 ev ?_
    refine z_aload_n dStr_length_8abf5_5 rfl ?_
    refine z_callVR MV_Str_coder_7d493 lk_Str_335 dStr_length_8abf5_6 (k_Str_coder hs0) rfl rfl (Nat.le_of_ble_eq_true rfl) hs0.recv (Nat.le_of_ble_eq_true rfl) (Nat.le_of_ble_eq_true rfl) (Nat.le_of_eq (Nat.zero_add _)) (Nat.le_of_eq (Nat.zero_add _)) (fun _ _ q => q.elim) ?_
    rintro _ _ ⟨rfl, rfl⟩
    refine z_ishr _ (zshr0 _) dStr_length_8abf5_9 ?_
    refine z_iret rfl rfl dStr_length_8abf5_10 ?_
    exact ⟨rfl, rfl⟩
theorem k_Asb_isLatin1 {b : Nat} {x0 ml x3 : Value} (e : h b = some (.inr (zkSbd, [x0, zi 0, ml, x3]))) : zM G l hAsb_isLatin1_aae02 yAsb_isLatin1_aae02 1 [.ref b] h (fun v h' => v = some (zi 1) ∧ h = h') zNo 0 0 := by
  refine zM.of [some (.ref b)] (by decide +kernel) rfl (by decide) rfl (Nat.le_of_ble_eq_true rfl) rfl ?_
  refine z_gets zZcs fl_Asb_18 dAsb_isLatin1_aae02_0 ?_
  refine z_if_eq (tgt := 17) dAsb_isLatin1_aae02_3 (by decide) (by omega) (fun c3 => ?_) (fun c3 => ?_)
  · first
      | exact absurd c3 (by decide)
      | exact absurd rfl c10
  · refine z_aload_n dAsb_isLatin1_aae02_6 rfl ?_
    refine z_get (k := 1) fd_Sbd (by decide) fl_Asb_22 dAsb_isLatin1_aae02_7 (by assumption) (by rfl) ?_
    refine z_if_ne (tgt := 17) dAsb_isLatin1_aae02_10 (by decide) (by omega) (fun c10 => ?_) (fun c10 => ?_)
    · first
        | exact absurd c3 (by decide)
        | exact absurd rfl c10
    · refine z_iconst dAsb_isLatin1_aae02_13 ?_
      refine z_goto (tgt := 18) dAsb_isLatin1_aae02_14 (by decide) ?_
      refine z_iret rfl rfl dAsb_isLatin1_aae02_18 ?_
      exact ⟨rfl, rfl⟩
theorem k_Str_getBytes {q n a cap p : Nat} {g : Nat → Int} (hs : zSr G h q n) (ea : h a = some (zBytes G cap g)) (hg : zFit g) (hp : p + n ≤ cap) (hc : cap ≤ 1000) : zM G l hStr_getBytes_840e7 yStr_getBytes_840e7 2 [.ref q, .ref a, zi (p : Int), zi 0] h (fun v h' => v = none ∧ ∃ g', zFit g' ∧ h' a = some (zBytes G cap g') ∧ ∀ z, z ≠ a → h' z = h z) zNo 0 0 := by
  have hs0 := hs
  refine zM.of [some (.ref q), some (.ref a), some (zi (p : Int)), some (zi 0)] (by decide +kernel) rfl (by decide) rfl (Nat.le_of_ble_eq_true rfl) rfl ?_
  rcases hs with ⟨b9, rfl, hn9⟩ | ⟨v, f, x2, x3, e, ev, hf⟩
  · refine z_aload_n dStr_getBytes_840e7_0 rfl ?_
    refine z_callVR MV_Str_coder_7d493 lk_Str_335 dStr_getBytes_840e7_1 (k_Str_coder hs0) rfl rfl (Nat.le_of_ble_eq_true rfl) hs0.recv (Nat.le_of_ble_eq_true rfl) (Nat.le_of_ble_eq_true rfl) (Nat.le_of_eq (Nat.zero_add _)) (Nat.le_of_eq (Nat.zero_add _)) (fun _ _ q => q.elim) ?_
    rintro _ _ ⟨rfl, rfl⟩
    refine z_iload_n dStr_getBytes_840e7_4 rfl ?_
    refine z_icmp_ne (tgt := 28) dStr_getBytes_840e7_5 (by decide) (by omega) (by omega) (fun c5 => ?_) (fun c5 => ?_)
    · exact absurd rfl c5
    · refine z_aload_n dStr_getBytes_840e7_8 rfl ?_
      refine z_getO (o := "java/lang/String") (n := "value") (d := "[B") (zOv b9) fl_Str_9 dStr_getBytes_840e7_9 ?_
      refine z_iconst dStr_getBytes_840e7_12 ?_
      refine z_aload_n dStr_getBytes_840e7_13 rfl ?_
      refine z_iload_n dStr_getBytes_840e7_14 rfl ?_
      refine z_iload_n dStr_getBytes_840e7_15 rfl ?_
      refine z_ishl _ (zshl0 _) dStr_getBytes_840e7_16 ?_
      refine z_aload_n dStr_getBytes_840e7_17 rfl ?_
      refine z_getO (o := "java/lang/String") (n := "value") (d := "[B") (zOv b9) fl_Str_9 dStr_getBytes_840e7_18 ?_
      refine z_alenO (ty := .byte) (N := if b9 then 0 else 1) (fun U H hZ => ⟨_, (zOt b9 U H hZ).choose_spec.1⟩) dStr_getBytes_840e7_21 ?_
      refine z_copyO lk_Str_212 dStr_getBytes_840e7_22 ea (by rw [← hn9]; exact hp) (by omega) hg (Nat.le_of_ble_eq_true rfl) (show 0 + (nativeFrameWords "java/lang/System" "arraycopy" 5 + 11) ≤ 2 * 64 by decide) (fun g2 hg2 => ?_)
      refine z_hx (fun h2 p2 F2 => ?_)
      refine z_goto (tgt := 43) dStr_getBytes_840e7_25 (by decide) ?_
      refine z_vret rfl dStr_getBytes_840e7_43 ?_
      exact ⟨rfl, g2, hg2, p2, F2⟩
  · refine z_aload_n dStr_getBytes_840e7_0 rfl ?_
    refine z_callVR MV_Str_coder_7d493 lk_Str_335 dStr_getBytes_840e7_1 (k_Str_coder hs0) rfl rfl (Nat.le_of_ble_eq_true rfl) hs0.recv (Nat.le_of_ble_eq_true rfl) (Nat.le_of_ble_eq_true rfl) (Nat.le_of_eq (Nat.zero_add _)) (Nat.le_of_eq (Nat.zero_add _)) (fun _ _ q => q.elim) ?_
    rintro _ _ ⟨rfl, rfl⟩
    refine z_iload_n dStr_getBytes_840e7_4 rfl ?_
    refine z_icmp_ne (tgt := 28) dStr_getBytes_840e7_5 (by decide) (by omega) (by omega) (fun c5 => ?_) (fun c5 => ?_)
    · exact absurd rfl c5
    · refine z_aload_n dStr_getBytes_840e7_8 rfl ?_
      refine z_get (k := 0) fd_Str (by decide) fl_Str_9 dStr_getBytes_840e7_9 e (by rfl) ?_
      refine z_iconst dStr_getBytes_840e7_12 ?_
      refine z_aload_n dStr_getBytes_840e7_13 rfl ?_
      refine z_iload_n dStr_getBytes_840e7_14 rfl ?_
      refine z_iload_n dStr_getBytes_840e7_15 rfl ?_
      refine z_ishl _ (zshl0 _) dStr_getBytes_840e7_16 ?_
      refine z_aload_n dStr_getBytes_840e7_17 rfl ?_
      refine z_get (k := 0) fd_Str (by decide) fl_Str_9 dStr_getBytes_840e7_18 e (by rfl) ?_
      refine z_alenB dStr_getBytes_840e7_21 ev ?_
      refine z_copyb (n0 := n) (n1 := cap) (sp := 0) (dp := p) (n := n) lk_Str_212 dStr_getBytes_840e7_22 ev ea (by omega) (by omega) (by omega) hf (Nat.le_of_ble_eq_true rfl) (show 0 + (nativeFrameWords "java/lang/System" "arraycopy" 5 + 11) ≤ 2 * 64 by decide) ?_
      refine z_hx (fun h2 p2 F2 => ?_)
      refine z_goto (tgt := 43) dStr_getBytes_840e7_25 (by decide) ?_
      refine z_vret rfl dStr_getBytes_840e7_43 ?_
      exact ⟨rfl, _, zFit_cpy hf hg, p2, F2⟩
theorem k_Asb_inflateIf {b q n : Nat} {x0 ml x3 : Value} (e : h b = some (.inr (zkSbd, [x0, zi 0, ml, x3]))) (hs : zSr G h q n) : zM G l hAsb_inflateIfNeededFor_a7421 yAsb_inflateIfNeededFor_a7421 2 [.ref b, .ref q] h (fun v h' => v = none ∧ h = h') zNo 0 0 := by
  refine zM.of [some (.ref b), some (.ref q)] (by decide +kernel) rfl (by decide) rfl (Nat.le_of_ble_eq_true rfl) rfl ?_
  refine z_gets zZcs fl_Asb_18 dAsb_inflateIfNeededFor_a7421_0 ?_
  refine z_if_eq (tgt := 21) dAsb_inflateIfNeededFor_a7421_3 (by decide) (by omega) (fun c3 => ?_) (fun c3 => ?_)
  · refine z_vret rfl dAsb_inflateIfNeededFor_a7421_21 ?_
    exact ⟨rfl, rfl⟩
  · refine z_aload_n dAsb_inflateIfNeededFor_a7421_6 rfl ?_
    refine z_get (k := 1) fd_Sbd (by decide) fl_Asb_22 dAsb_inflateIfNeededFor_a7421_7 (by assumption) (by rfl) ?_
    refine z_aload_n dAsb_inflateIfNeededFor_a7421_10 rfl ?_
    refine z_callVR MV_Str_coder_7d493 lk_Asb_40 dAsb_inflateIfNeededFor_a7421_11 (k_Str_coder hs) rfl rfl (Nat.le_of_ble_eq_true rfl) hs.recv (Nat.le_of_ble_eq_true rfl) (Nat.le_of_ble_eq_true rfl) (Nat.le_of_eq (Nat.zero_add _)) (Nat.le_of_eq (Nat.zero_add _)) (fun _ _ q => q.elim) ?_
    rintro _ _ ⟨rfl, rfl⟩
    refine z_icmp_eq (tgt := 21) dAsb_inflateIfNeededFor_a7421_14 (by decide) (by omega) (by omega) (fun c14 => ?_) (fun c14 => ?_)
    · refine z_vret rfl dAsb_inflateIfNeededFor_a7421_21 ?_
      exact ⟨rfl, rfl⟩
    · exact absurd rfl c14
theorem k_Asb_putStringAt {b a cap q w p : Nat} {ml x3 : Value} {f : Nat → Int} (e : h b = some (.inr (zkSbd, [.ref a, zi 0, ml, x3]))) (ea : h a = some (zBytes G cap f)) (hf : zFit f) (hs : zSr G h q w) (hp : p + w ≤ cap) (hc : cap ≤ 1000) : zM G l hAsb_putStringAt_47b60 yAsb_putStringAt_47b60 3 [.ref b, zi (p : Int), .ref q] h (fun v h' => v = none ∧ ∃ g', zFit g' ∧ h' a = some (zBytes G cap g') ∧ ∀ z, z ≠ a → h' z = h z) zNo 0 0 := by
  refine zM.of [some (.ref b), some (zi (p : Int)), some (.ref q)] (by decide +kernel) rfl (by decide) rfl (Nat.le_of_ble_eq_true rfl) rfl ?_
  refine z_aload_n dAsb_putStringAt_47b60_0 rfl ?_
  refine z_aload_n dAsb_putStringAt_47b60_1 rfl ?_
  refine z_callC ME_Asb_inflateIfNeededFor_a7421 IN_Asb_inflateIfNeededFor_a7421 SE_Asb_inflateIfNeededFor_a7421 lk_Asb_397 dAsb_putStringAt_47b60_2 (k_Asb_inflateIf e hs) rfl rfl (Nat.le_of_ble_eq_true rfl) (ci := zkSbd) rfl (by assumption) (Nat.le_of_ble_eq_true rfl) (Nat.le_of_ble_eq_true rfl) (Nat.le_of_eq (Nat.zero_add _)) (Nat.le_of_eq (Nat.zero_add _)) (fun _ _ q => q.elim) ?_
  rintro _ _ ⟨rfl, rfl⟩
  refine z_aload_n dAsb_putStringAt_47b60_5 rfl ?_
  refine z_aload_n dAsb_putStringAt_47b60_6 rfl ?_
  refine z_get (k := 0) fd_Sbd (by decide) fl_Asb_15 dAsb_putStringAt_47b60_7 (by assumption) (by rfl) ?_
  refine z_iload_n dAsb_putStringAt_47b60_10 rfl ?_
  refine z_aload_n dAsb_putStringAt_47b60_11 rfl ?_
  refine z_get (k := 1) fd_Sbd (by decide) fl_Asb_22 dAsb_putStringAt_47b60_12 (by assumption) (by rfl) ?_
  refine z_callVR MV_Str_getBytes_840e7 lk_Asb_399 dAsb_putStringAt_47b60_15 (k_Str_getBytes hs ea hf hp hc) rfl rfl (Nat.le_of_ble_eq_true rfl) hs.recv (Nat.le_of_ble_eq_true rfl) (Nat.le_of_ble_eq_true rfl) (Nat.le_of_eq (Nat.zero_add _)) (Nat.le_of_eq (Nat.zero_add _)) (fun _ _ q => q.elim) ?_
  rintro _ h2 ⟨rfl, hq9⟩
  refine z_vret rfl dAsb_putStringAt_47b60_18 ?_
  exact ⟨rfl, hq9⟩
theorem k_Asb_appendS {b a cap n q w : Nat} (B : zSb G h0 h b a cap n) (hs : zSr G h0 q w) (hm : n + w ≤ 120) (hc : cap ≤ 240) : zM G l hAsb_append_cf1ce yAsb_append_cf1ce 5 [.ref b, .ref q] h (fun v h' => v = some (.ref b) ∧ ∃ a', zSb G h0 h' b a' (zCp cap (n + w)) (n + w)) zNo 1 (zGr cap (n + w)) := by
  have B0 := B
  obtain ⟨ml, f, e, ea, hf, hnc, hba, db, da, hx⟩ := B
  refine zM.of [some (.ref b), some (.ref q), none] (by decide +kernel) rfl (by decide) rfl (Nat.le_of_ble_eq_true rfl) rfl ?_
  refine z_aload_n dAsb_append_cf1ce_0 rfl ?_
  refine z_ifnonnull (tgt := 9) dAsb_append_cf1ce_1 (by decide) ?_
  refine z_aload_n dAsb_append_cf1ce_9 rfl ?_
  refine z_callVR MV_Str_length_8abf5 lk_Asb_32 dAsb_append_cf1ce_10 (k_Str_length (hs.ext hx)) rfl rfl (Nat.le_of_ble_eq_true rfl) (hs.ext hx).recv (Nat.le_of_ble_eq_true rfl) (Nat.le_of_ble_eq_true rfl) (Nat.le_of_eq (Nat.zero_add _)) (Nat.le_of_eq (Nat.zero_add _)) (fun _ _ q => q.elim) ?_
  rintro _ _ ⟨rfl, rfl⟩
  refine z_istore_n dAsb_append_cf1ce_13 (Nat.le_of_ble_eq_true rfl) ?_
  refine z_aload_n dAsb_append_cf1ce_14 rfl ?_
  refine z_aload_n dAsb_append_cf1ce_15 rfl ?_
  refine z_get (k := 3) fd_Sbd (by decide) fl_Asb_79 dAsb_append_cf1ce_16 (by assumption) (by rfl) ?_
  refine z_iload_n dAsb_append_cf1ce_19 rfl ?_
  refine z_iadd dAsb_append_cf1ce_20 ?_
  rw [show (n : Int) + (w : Int) = ((n + w : Nat) : Int) by omega]
  refine z_callC (bc' := 0) (bs' := 0) ME_Asb_ensureCapacityInternal_d00df IN_Asb_ensureCapacityInternal_d00df SE_Asb_ensureCapacityInternal_d00df lk_Asb_100 dAsb_append_cf1ce_21 (k_Asb_ensure (k := n + w) B0 (by omega) hc) rfl rfl (Nat.le_of_ble_eq_true rfl) (ci := zkSbd) rfl (by assumption) (Nat.le_of_ble_eq_true rfl) (Nat.le_of_ble_eq_true rfl) (by omega) (by omega) (fun _ _ q => q.elim) ?_
  rintro _ h2 ⟨rfl, a2, B2⟩
  obtain ⟨ml2, f2, e2, ea2, hf2, hnc2, hba2, db2, da2, hx2⟩ := B2
  have hcp : n + w ≤ zCp cap (n + w) ∧ zCp cap (n + w) ≤ 240 := by unfold zCp zNc; split <;> (try split) <;> omega
  refine z_aload_n dAsb_append_cf1ce_24 rfl ?_
  refine z_aload_n dAsb_append_cf1ce_25 rfl ?_
  refine z_get (k := 3) fd_Sbd (by decide) fl_Asb_79 dAsb_append_cf1ce_26 (by assumption) (by rfl) ?_
  refine z_aload_n dAsb_append_cf1ce_29 rfl ?_
  refine z_callC ME_Asb_putStringAt_47b60 IN_Asb_putStringAt_47b60 SE_Asb_putStringAt_47b60 lk_Asb_208 dAsb_append_cf1ce_30 (k_Asb_putStringAt e2 ea2 hf2 (hs.ext hx2) hcp.1 (by omega)) rfl rfl (Nat.le_of_ble_eq_true rfl) (ci := zkSbd) rfl (by assumption) (Nat.le_of_ble_eq_true rfl) (Nat.le_of_ble_eq_true rfl) (Nat.le_of_eq (Nat.zero_add _)) (Nat.le_of_eq (Nat.zero_add _)) (fun _ _ q => q.elim) ?_
  rintro _ h3 ⟨rfl, g3, hg3, p3, F3⟩
  have e3 := (F3 b hba2).trans e2
  refine z_aload_n dAsb_append_cf1ce_33 rfl ?_
  refine z_dup rfl dAsb_append_cf1ce_34 ?_
  refine z_get (k := 3) fd_Sbd (by decide) fl_Asb_79 dAsb_append_cf1ce_35 (by assumption) (by rfl) ?_
  refine z_iload_n dAsb_append_cf1ce_38 rfl ?_
  refine z_iadd dAsb_append_cf1ce_39 ?_
  refine z_put (k := 3) fd_Sbd (by decide) fl_Asb_79 rfl dAsb_append_cf1ce_40 e3 (by simp) rfl rfl ?_
  refine z_hx (fun h4 p4 F4 => ?_)
  refine z_aload_n dAsb_append_cf1ce_43 rfl ?_
  refine z_aret rfl (Or.inl ⟨_, rfl⟩) (Or.inr ⟨_, rfl⟩) dAsb_append_cf1ce_44 ?_
  refine ⟨rfl, a2, ml2, g3, ?_, (F4 a2 (Ne.symm hba2)).trans p3, hg3, hcp.1, hba2, db2, da2, fun z x hz => ?_⟩
  · rw [show ((n + w : Nat) : Int) = (n : Int) + (w : Int) by omega]
    exact p4
  · exact (F4 z (Nat.ne_of_lt (db2 z x hz))).trans ((F3 z (Nat.ne_of_lt (da2 z x hz))).trans (hx2 z x hz))
theorem k_Sbd_appendS {b a cap n q w : Nat} (B : zSb G h0 h b a cap n) (hs : zSr G h0 q w) (hm : n + w ≤ 120) (hc : cap ≤ 240) : zM G l hSbd_append_15ec4 ySbd_append_15ec4 6 [.ref b, .ref q] h (fun v h' => v = some (.ref b) ∧ ∃ a', zSb G h0 h' b a' (zCp cap (n + w)) (n + w)) zNo 1 (zGr cap (n + w)) := by
  have B0 := B
  obtain ⟨ml, f, e, ea, hf, hnc, hba, db, da, hx⟩ := B
  refine zM.of [some (.ref b), some (.ref q)] (by decide +kernel) rfl (by decide) rfl (Nat.le_of_ble_eq_true rfl) rfl ?_
  refine z_aload_n dSbd_append_15ec4_0 rfl ?_
  refine z_aload_n dSbd_append_15ec4_1 rfl ?_
  refine z_callSU (bc' := 0) (bs' := 0) ME_Asb_append_cf1ce IN_Asb_append_cf1ce SM_Asb_append_cf1ce SU_Sbd (by decide) lk_Sbd_29 dSbd_append_15ec4_2 (k_Asb_appendS B0 hs hm hc) rfl rfl (Nat.le_of_ble_eq_true rfl) (by assumption) (Nat.le_of_ble_eq_true rfl) (Nat.le_of_ble_eq_true rfl) (by omega) (by omega) (fun _ _ q => q.elim) ?_
  rintro _ h2 ⟨rfl, a2, B2⟩
  refine z_pop rfl dSbd_append_15ec4_5 ?_
  refine z_aload_n dSbd_append_15ec4_6 rfl ?_
  refine z_aret rfl (Or.inl ⟨_, rfl⟩) (Or.inr ⟨_, rfl⟩) dSbd_append_15ec4_7 ?_
  exact ⟨rfl, a2, B2⟩
end STR5
