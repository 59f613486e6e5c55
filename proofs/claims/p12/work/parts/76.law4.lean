section LAW4
variable {G : zG} {l : Launch} {h h' h0 h1 h2 : zHp} {ad ma ma2 : Nat → Nat} {S S' : zSt} {th : Int} {b L : Nat} {xs : Nat → Int32} {bc bs pc : Nat} {ls : List (Option Value)} {st : List Value}
theorem l_Law_case {ou : Nat} {i : Int} {y5 y6 : Option Value} (I : zLi G h ad ma ou S) (hi : 0 ≤ i ∧ i + 4 ≤ L) (hb1 : 210 ≤ bc) (hb2 : 12100 ≤ bs) (K : zLK G l b L xs ad ma ou i bc bs) : zR G l (zLJ G b L xs) bc bs h 36 [some (.ref b), some (.ref (ad 0)), some (.ref (ma 0)), some (.ref ou), some (zi i), y5, y6] [] := by
  refine z_aload_n dLaw_law_36 rfl ?_
  refine z_iload dLaw_law_37 rfl ?_
  refine z_sld (by omega) dLaw_law_39 ?_
  refine z_bipush dLaw_law_40 rfl ?_
  obtain ⟨k, hk, ek⟩ := zand63 (zI (zX9 xs i))
  refine z_iand k ek dLaw_law_42 ?_
  obtain ⟨n, rfl⟩ := Int.eq_ofNat_of_zero_le hk.1
  by_cases c : (n : Int) ≤ 49
  · match n, c with
    | 0, _ => exact z_tableIn (off := 213) (tgt := 256) dLaw_law_43 (by decide) (by decide) (by decide) rfl (by decide) (c_Law_0 I hi hb1 hb2 K)
    | 1, _ => exact z_tableIn (off := 265) (tgt := 308) dLaw_law_43 (by decide) (by decide) (by decide) rfl (by decide) (c_Law_1 I hi hb1 hb2 K)
    | 2, _ => exact z_tableIn (off := 305) (tgt := 348) dLaw_law_43 (by decide) (by decide) (by decide) rfl (by decide) (c_Law_2 I hi hb1 hb2 K)
    | 3, _ => exact z_tableIn (off := 345) (tgt := 388) dLaw_law_43 (by decide) (by decide) (by decide) rfl (by decide) (c_Law_3 I hi hb1 hb2 K)
    | 4, _ => exact z_tableIn (off := 385) (tgt := 428) dLaw_law_43 (by decide) (by decide) (by decide) rfl (by decide) (c_Law_4 I hi hb1 hb2 K)
    | 5, _ => exact z_tableIn (off := 437) (tgt := 480) dLaw_law_43 (by decide) (by decide) (by decide) rfl (by decide) (c_Law_5 I hi hb1 hb2 K)
    | 6, _ => exact z_tableIn (off := 489) (tgt := 532) dLaw_law_43 (by decide) (by decide) (by decide) rfl (by decide) (c_Law_6 I hi hb1 hb2 K)
    | 7, _ => exact z_tableIn (off := 529) (tgt := 572) dLaw_law_43 (by decide) (by decide) (by decide) rfl (by decide) (c_Law_7 I hi hb1 hb2 K)
    | 8, _ => exact z_tableIn (off := 597) (tgt := 640) dLaw_law_43 (by decide) (by decide) (by decide) rfl (by decide) (c_Law_8 I hi hb1 hb2 K)
    | 9, _ => exact z_tableIn (off := 637) (tgt := 680) dLaw_law_43 (by decide) (by decide) (by decide) rfl (by decide) (c_Law_9 I hi hb1 hb2 K)
    | 10, _ => exact z_tableIn (off := 705) (tgt := 748) dLaw_law_43 (by decide) (by decide) (by decide) rfl (by decide) (c_Law_10 I hi hb1 hb2 K)
    | 11, _ => exact z_tableIn (off := 781) (tgt := 824) dLaw_law_43 (by decide) (by decide) (by decide) rfl (by decide) (c_Law_11 I hi hb1 hb2 K)
    | 12, _ => exact z_tableIn (off := 809) (tgt := 852) dLaw_law_43 (by decide) (by decide) (by decide) rfl (by decide) (c_Law_12 I hi hb1 hb2 K)
    | 13, _ => exact z_tableIn (off := 865) (tgt := 908) dLaw_law_43 (by decide) (by decide) (by decide) rfl (by decide) (c_Law_13 I hi hb1 hb2 K)
    | 14, _ => exact z_tableIn (off := 893) (tgt := 936) dLaw_law_43 (by decide) (by decide) (by decide) rfl (by decide) (c_Law_14 I hi hb1 hb2 K)
    | 15, _ => exact z_tableIn (off := 933) (tgt := 976) dLaw_law_43 (by decide) (by decide) (by decide) rfl (by decide) (c_Law_15 I hi hb1 hb2 K)
    | 16, _ => exact z_tableIn (off := 985) (tgt := 1028) dLaw_law_43 (by decide) (by decide) (by decide) rfl (by decide) (c_Law_16 I hi hb1 hb2 K)
    | 17, _ => exact z_tableIn (off := 1025) (tgt := 1068) dLaw_law_43 (by decide) (by decide) (by decide) rfl (by decide) (c_Law_17 I hi hb1 hb2 K)
    | 18, _ => exact z_tableIn (off := 1065) (tgt := 1108) dLaw_law_43 (by decide) (by decide) (by decide) rfl (by decide) (c_Law_18 I hi hb1 hb2 K)
    | 19, _ => exact z_tableIn (off := 1105) (tgt := 1148) dLaw_law_43 (by decide) (by decide) (by decide) rfl (by decide) (c_Law_19 I hi hb1 hb2 K)
    | 20, _ => exact z_tableIn (off := 1157) (tgt := 1200) dLaw_law_43 (by decide) (by decide) (by decide) rfl (by decide) (c_Law_20 I hi hb1 hb2 K)
    | 21, _ => exact z_tableIn (off := 1209) (tgt := 1252) dLaw_law_43 (by decide) (by decide) (by decide) rfl (by decide) (c_Law_21 I hi hb1 hb2 K)
    | 22, _ => exact z_tableIn (off := 1237) (tgt := 1280) dLaw_law_43 (by decide) (by decide) (by decide) rfl (by decide) (c_Law_22 I hi hb1 hb2 K)
    | 23, _ => exact z_tableIn (off := 1289) (tgt := 1332) dLaw_law_43 (by decide) (by decide) (by decide) rfl (by decide) (c_Law_23 I hi hb1 hb2 K)
    | 24, _ => exact z_tableIn (off := 1329) (tgt := 1372) dLaw_law_43 (by decide) (by decide) (by decide) rfl (by decide) (c_Law_24 I hi hb1 hb2 K)
    | 25, _ => exact z_tableIn (off := 1357) (tgt := 1400) dLaw_law_43 (by decide) (by decide) (by decide) rfl (by decide) (c_Law_25 I hi hb1 hb2 K)
    | 26, _ => exact z_tableIn (off := 1409) (tgt := 1452) dLaw_law_43 (by decide) (by decide) (by decide) rfl (by decide) (c_Law_26 I hi hb1 hb2 K)
    | 27, _ => exact z_tableIn (off := 1437) (tgt := 1480) dLaw_law_43 (by decide) (by decide) (by decide) rfl (by decide) (c_Law_27 I hi hb1 hb2 K)
    | 28, _ => exact z_tableIn (off := 1465) (tgt := 1508) dLaw_law_43 (by decide) (by decide) (by decide) rfl (by decide) (c_Law_28 I hi hb1 hb2 K)
    | 29, _ => exact z_tableIn (off := 1493) (tgt := 1536) dLaw_law_43 (by decide) (by decide) (by decide) rfl (by decide) (c_Law_29 I hi hb1 hb2 K)
    | 30, _ => exact z_tableIn (off := 1533) (tgt := 1576) dLaw_law_43 (by decide) (by decide) (by decide) rfl (by decide) (c_Law_30 I hi hb1 hb2 K)
    | 31, _ => exact z_tableIn (off := 1561) (tgt := 1604) dLaw_law_43 (by decide) (by decide) (by decide) rfl (by decide) (c_Law_31 I hi hb1 hb2 K)
    | 32, _ => exact z_tableIn (off := 1601) (tgt := 1644) dLaw_law_43 (by decide) (by decide) (by decide) rfl (by decide) (c_Law_32 I hi hb1 hb2 K)
    | 33, _ => exact z_tableIn (off := 1641) (tgt := 1684) dLaw_law_43 (by decide) (by decide) (by decide) rfl (by decide) (c_Law_33 I hi hb1 hb2 K)
    | 34, _ => exact z_tableIn (off := 1681) (tgt := 1724) dLaw_law_43 (by decide) (by decide) (by decide) rfl (by decide) (c_Law_34 I hi hb1 hb2 K)
    | 35, _ => exact z_tableIn (off := 1721) (tgt := 1764) dLaw_law_43 (by decide) (by decide) (by decide) rfl (by decide) (c_Law_35 I hi hb1 hb2 K)
    | 36, _ => exact z_tableIn (off := 1761) (tgt := 1804) dLaw_law_43 (by decide) (by decide) (by decide) rfl (by decide) (c_Law_36 I hi hb1 hb2 K)
    | 37, _ => exact z_tableIn (off := 1789) (tgt := 1832) dLaw_law_43 (by decide) (by decide) (by decide) rfl (by decide) (c_Law_37 I hi hb1 hb2 K)
    | 38, _ => exact z_tableIn (off := 1817) (tgt := 1860) dLaw_law_43 (by decide) (by decide) (by decide) rfl (by decide) (c_Law_38 I hi hb1 hb2 K)
    | 39, _ => exact z_tableIn (off := 1845) (tgt := 1888) dLaw_law_43 (by decide) (by decide) (by decide) rfl (by decide) (c_Law_39 I hi hb1 hb2 K)
    | 40, _ => exact z_tableIn (off := 1885) (tgt := 1928) dLaw_law_43 (by decide) (by decide) (by decide) rfl (by decide) (c_Law_40 I hi hb1 hb2 K)
    | 41, _ => exact z_tableIn (off := 1913) (tgt := 1956) dLaw_law_43 (by decide) (by decide) (by decide) rfl (by decide) (c_Law_41 I hi hb1 hb2 K)
    | 42, _ => exact z_tableIn (off := 1941) (tgt := 1984) dLaw_law_43 (by decide) (by decide) (by decide) rfl (by decide) (c_Law_42 I hi hb1 hb2 K)
    | 43, _ => exact z_tableIn (off := 1954) (tgt := 1997) dLaw_law_43 (by decide) (by decide) (by decide) rfl (by decide) (c_Law_43 I hi hb1 hb2 K)
    | 44, _ => exact z_tableIn (off := 1982) (tgt := 2025) dLaw_law_43 (by decide) (by decide) (by decide) rfl (by decide) (c_Law_44 I hi hb1 hb2 K)
    | 45, _ => exact z_tableIn (off := 1995) (tgt := 2038) dLaw_law_43 (by decide) (by decide) (by decide) rfl (by decide) (c_Law_45 I hi hb1 hb2 K)
    | 46, _ => exact z_tableIn (off := 2035) (tgt := 2078) dLaw_law_43 (by decide) (by decide) (by decide) rfl (by decide) (c_Law_46 I hi hb1 hb2 K)
    | 47, _ => exact z_tableIn (off := 2063) (tgt := 2106) dLaw_law_43 (by decide) (by decide) (by decide) rfl (by decide) (c_Law_47 I hi hb1 hb2 K)
    | 48, _ => exact z_tableIn (off := 2076) (tgt := 2119) dLaw_law_43 (by decide) (by decide) (by decide) rfl (by decide) (c_Law_48 I hi hb1 hb2 K)
    | 49, _ => exact z_tableIn (off := 2089) (tgt := 2132) dLaw_law_43 (by decide) (by decide) (by decide) rfl (by decide) (c_Law_49 I hi hb1 hb2 K)
    | n + 50, c => exact absurd c (by omega)
  · refine z_tableOut (tgt := 2145) dLaw_law_43 (by omega) (Or.inr (by omega)) (by decide) ?_
    exact K _ _ h ma S _ _ I rfl (by omega) (by omega)
theorem l_Law {ou : Nat} : ∀ (n bc bs : Nat) (h : zHp) (ma : Nat → Nat) (S : zSt) (i : Int) (y5 y6 : Option Value), 0 ≤ i → i ≤ 2060 → (L : Int) - i < 4 * n → 210 * n ≤ bc → 12100 * n ≤ bs → zLi G h ad ma ou S → L ≤ 2048 → zR G l (zLJ G b L xs) bc bs h 27 [some (.ref b), some (.ref (ad 0)), some (.ref (ma 0)), some (.ref ou), some (zi i), y5, y6] [] := by
  intro n
  induction n with
  | zero =>
    intro bc bs h ma S i y5 y6 i0 i1 hn q1 q2 I hL
    refine z_iload dLaw_law_27 rfl ?_
    refine z_aload_n dLaw_law_29 rfl ?_
    refine z_slen dLaw_law_30 (fun _ => ?_)
    refine z_iconst dLaw_law_31 ?_
    refine z_isub dLaw_law_32 ?_
    refine z_icmp_gt (tgt := 2151) dLaw_law_33 (by decide) (by omega) (by omega) (fun c => ?_) (fun c => ?_)
    · refine z_iconst dLaw_law_2151 ?_
      exact z_lawret dLaw_law_2152
    · exfalso; omega
  | succ n ih =>
    intro bc bs h ma S i y5 y6 i0 i1 hn q1 q2 I hL
    refine z_iload dLaw_law_27 rfl ?_
    refine z_aload_n dLaw_law_29 rfl ?_
    refine z_slen dLaw_law_30 (fun _ => ?_)
    refine z_iconst dLaw_law_31 ?_
    refine z_isub dLaw_law_32 ?_
    refine z_icmp_gt (tgt := 2151) dLaw_law_33 (by decide) (by omega) (by omega) (fun c => ?_) (fun c => ?_)
    · refine z_iconst dLaw_law_2151 ?_
      exact z_lawret dLaw_law_2152
    · refine l_Law_case I ⟨i0, by omega⟩ (by omega) (by omega) ?_
      intro bc' bs' h2 ma2 S2 z5 z6 I2 m0 g1 g2
      refine z_iinc dLaw_law_2145 rfl (Nat.le_of_ble_eq_true rfl) ?_
      refine z_goto (tgt := 27) dLaw_law_2148 (by decide) ?_
      rw [← m0]
      exact ih bc' bs' h2 ma2 S2 (i + 4) z5 z6 (by omega) (by omega) (by omega) (by omega) (by omega) I2 hL
theorem k_Out_init {o : Nat} : zM G l hOut_init yOut_init 1 [.ref o] h (fun v h' => v = none ∧ h = h') zNo 0 0 := by
  refine zM.of [some (.ref o)] (by decide +kernel) rfl (by decide) rfl (Nat.le_of_ble_eq_true rfl) rfl ?_
  refine z_aload_n dOut_init_0 rfl ?_
  refine z_obj lk_Out_1 ob_i ob_c dOut_init_1 (Nat.le_of_ble_eq_true rfl) (Nat.le_of_ble_eq_true rfl) (Nat.le_of_ble_eq_true rfl) ?_
  refine z_vret rfl dOut_init_4 ?_
  exact ⟨rfl, rfl⟩
theorem l_Law_start (hL : L ≤ 2048) : zR G l (zLJ G b L xs) 751288 6842239 (fun _ => none) 0 [some (.ref b), none, none, none, none, none, none] [] := by
  refine z_new (fs := [.null, .null, .null, .null, zi 0, zi 0]) (bc' := 751287) (bs' := 6842233) fd_Cls cl_Law_8 im_Cls in_Cls (by intro j hj; match j, hj with | 0, _ => rfl | 1, _ => rfl | 2, _ => rfl | 3, _ => rfl | 4, _ => rfl | 5, _ => rfl) dLaw_law_0 (by decide) (by decide) (fun b1 db1 gb1 => ?_)
  refine z_hx (fun h1 pb1 Fb1 => ?_)
  refine z_dup rfl dLaw_law_3 ?_
  refine z_callI (bc' := 751268) (bs' := 6842090) MI_Cls_init lk_Law_168 dLaw_law_4 (k_Cls_init pb1) rfl rfl (Nat.le_of_ble_eq_true rfl)  (Nat.le_of_ble_eq_true rfl) (Nat.le_of_ble_eq_true rfl) (by decide) (by decide) (fun _ _ q => q.elim) ?_
  rintro _ h2 ⟨rfl, ad, rfl, C2, A2, F2⟩
  refine z_astore_n dLaw_law_7 (Nat.le_of_ble_eq_true rfl) ?_
  refine z_new (fs := [.null, .null, .null, .null, .null, .null, .null, .null, zi 0, zi 0, zi 0, zi 0, zi 0]) (bc' := 751267) (bs' := 6842077) fd_Mod cl_Law_169 im_Mod in_Mod (by intro j hj; match j, hj with | 0, _ => rfl | 1, _ => rfl | 2, _ => rfl | 3, _ => rfl | 4, _ => rfl | 5, _ => rfl | 6, _ => rfl | 7, _ => rfl | 8, _ => rfl | 9, _ => rfl | 10, _ => rfl | 11, _ => rfl | 12, _ => rfl) dLaw_law_8 (by decide) (by decide) (fun b2 db2 gb2 => ?_)
  refine z_hx (fun h3 pb2 Fb2 => ?_)
  refine z_dup rfl dLaw_law_11 ?_
  refine z_callI (bc' := 751255) (bs' := 6841990) MI_Mod_init lk_Law_171 dLaw_law_12 (k_Mod_init pb2) rfl rfl (Nat.le_of_ble_eq_true rfl)  (Nat.le_of_ble_eq_true rfl) (Nat.le_of_ble_eq_true rfl) (by decide) (by decide) (fun _ _ q => q.elim) ?_
  rintro _ h4 ⟨rfl, ma, rfl, M4, A4, F4⟩
  refine z_astore_n dLaw_law_15 (Nat.le_of_ble_eq_true rfl) ?_
  refine z_new (fs := [zl 0, .null]) (bc' := 751254) (bs' := 6841988) fd_Out cl_Law_14 im_Out in_Out (by intro j hj; match j, hj with | 0, _ => rfl | 1, _ => rfl) dLaw_law_16 (by decide) (by decide) (fun ou dou gou => ?_)
  refine z_hx (fun h5 pou Fou => ?_)
  refine z_dup rfl dLaw_law_19 ?_
  refine z_callIN (bc' := 751254) (bs' := 6841988) MI_Out_init lk_Law_172 dLaw_law_20 k_Out_init rfl rfl (Nat.le_of_ble_eq_true rfl)  (Nat.le_of_ble_eq_true rfl) (Nat.le_of_ble_eq_true rfl) (by decide) (by decide) (fun _ _ q => q.elim) ?_
  rintro _ _ ⟨rfl, rfl⟩
  refine z_astore_n dLaw_law_23 (Nat.le_of_ble_eq_true rfl) ?_
  refine z_iconst dLaw_law_24 ?_
  refine z_istore dLaw_law_25 (Nat.le_of_ble_eq_true rfl) ?_
  have n1 : ∀ i, i < 20 → ou ≠ ad i := fun i hi => by
    obtain ⟨e, he⟩ := C2.dom hi
    have h3e : h3 (ad i) = some e := (Fb2 _ (Nat.ne_of_lt (db2 _ _ he))).trans he
    have h4e : h4 (ad i) = some e := (F4 _ (fun j hj => by
      by_cases c : j = 0
      · subst c; exact Nat.ne_of_lt (db2 _ _ he)
      · exact Nat.ne_of_lt ((A4 j (by omega) hj).1 _ _ h3e))).trans h3e
    exact Ne.symm (Nat.ne_of_lt (dou _ _ h4e))
  have n3 : ∀ i j, i < 20 → j < 13 → ad i ≠ ma j := fun i j hi hj => by
    obtain ⟨e, he⟩ := C2.dom hi
    have h3e : h3 (ad i) = some e := (Fb2 _ (Nat.ne_of_lt (db2 _ _ he))).trans he
    by_cases c : j = 0
    · subst c; exact Nat.ne_of_lt (db2 _ _ he)
    · exact Nat.ne_of_lt ((A4 j (by omega) hj).1 _ _ h3e)
  have n2 : ∀ j, j < 13 → ou ≠ ma j := fun j hj => by
    obtain ⟨e, he⟩ := M4.dom hj
    exact Ne.symm (Nat.ne_of_lt (dou _ _ he))
  have C5 : zCls G h5 ad zS0 := C2.at (fun i hi => (Fou _ (Ne.symm (n1 i hi))).trans ((F4 _ (fun j hj => n3 i j hi hj)).trans (Fb2 _ (n3 i 0 hi (by omega)))))
  have M5 : zMod G h5 ma zS0 0 := M4.at (fun j hj => Fou _ (Ne.symm (n2 j hj)))
  exact l_Law 513 _ _ h5 ma zS0 0 _ _ (by decide) (by decide) (by omega) (by decide) (by decide) ⟨0, 0, .null, C5, M5, ok_zS0, oka_zS0, pou, n1, n2, n3⟩ hL
end LAW4
