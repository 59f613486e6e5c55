section
section LAW4
variable {G : zG} {l : Launch} {h h' h0 h1 h2 : zHp} {ad ma ma2 : Nat → Nat} {S S' : zSt} {th : Int} {b L : Nat} {xs : Nat → Int32} {bc bs pc : Nat} {ls : List (Option Value)} {st : List Value}
theorem l_Law_case {ou : Nat} {i : Int} {y5 y6 : Option Value} (I : zLi G h ad ma ou S) (hi : 0 ≤ i ∧ i + 4 ≤ L) (hb1 : 210 ≤ bc) (hb2 : 12100 ≤ bs) (K : zLK G l b L xs ad ma ou i bc bs) : zR G l (zLJ G b L xs) bc bs h 36 [some (.ref b), some (.ref (ad 0)), some (.ref (ma 0)), some (.ref ou), some (zi i), y5, y6] [] := by
  refine z_aload_n dLaw_law_36 rfl ?_
  refine z_iload dLaw_law_37 rfl ?_
  refine z_sld (by omega) dLaw_law_39 ?_
  refine z_bipush dLaw_law_40 rfl ?_
  obtain ⟨k, hk, ek⟩ := zand63 (zI (zX9 xs i))
  refine z_iand k ek dLaw_law_42 ?_
  obtain ⟨n, rfl⟩ := Int.eq_ofNat_of_zero_le hk.1
  by_cases c : (n : Int) ≤ 49
  · match n, c with
    | 0, _ => exact z_tableIn (off := 213) (tgt := 256) dLaw_law_43 (by decide) (by decide) (by decide) rfl (by decide) (c_Law_0 I hi hb1 hb2 K)
    | 1, _ => exact z_tableIn (off := 265) (tgt := 308) dLaw_law_43 (by decide) (by decide) (by decide) rfl (by decide) (c_Law_1 I hi hb1 hb2 K)
    | 2, _ => exact z_tableIn (off := 305) (tgt := 348) dLaw_law_43 (by decide) (by decide) (by decide) rfl (by decide) (c_Law_2 I hi hb1 hb2 K)
    | 3, _ => exact z_tableIn (off := 345) (tgt := 388) dLaw_law_43 (by decide) (by decide) (by decide) rfl (by decide) (c_Law_3 I hi hb1 hb2 K)
    | 4, _ => exact z_tableIn (off := 385) (tgt := 428) dLaw_law_43 (by decide) (by decide) (by decide) rfl (by decide) (c_Law_4 I hi hb1 hb2 K)
    | 5, _ => exact z_tableIn (off := 437) (tgt := 480) dLaw_law_43 (by decide) (by decide) (by decide) rfl (by decide) (c_Law_5 I hi hb1 hb2 K)
    | 6, _ => exact z_tableIn (off := 489) (tgt := 532) dLaw_law_43 (by decide) (by decide) (by decide) rfl (by decide) (c_Law_6 I hi hb1 hb2 K)
    | 7, _ => exact z_tableIn (off := 529) (tgt := 572) dLaw_law_43 (by decide) (by decide) (by decide) rfl (by decide) (c_Law_7 I hi hb1 hb2 K)
    | 8, _ => exact z_tableIn (off := 597) (tgt := 640) dLaw_law_43 (by decide) (by decide) (by decide) rfl (by decide) (c_Law_8 I hi hb1 hb2 K)
    | 9, _ => exact z_tableIn (off := 637) (tgt := 680) dLaw_law_43 (by decide) (by decide) (by decide) rfl (by decide) (c_Law_9 I hi hb1 hb2 K)
    | 10, _ => exact z_tableIn (off := 705) (tgt := 748) dLaw_law_43 (by decide) (by decide) (by decide) rfl (by decide) (c_Law_10 I hi hb1 hb2 K)
    | 11, _ => exact z_tableIn (off := 745) (tgt := 788) dLaw_law_43 (by decide) (by decide) (by decide) rfl (by decide) (c_Law_11 I hi hb1 hb2 K)
    | 12, _ => exact z_tableIn (off := 773) (tgt := 816) dLaw_law_43 (by decide) (by decide) (by decide) rfl (by decide) (c_Law_12 I hi hb1 hb2 K)
    | 13, _ => exact z_tableIn (off := 829) (tgt := 872) dLaw_law_43 (by decide) (by decide) (by decide) rfl (by decide) (c_Law_13 I hi hb1 hb2 K)
    | 14, _ => exact z_tableIn (off := 857) (tgt := 900) dLaw_law_43 (by decide) (by decide) (by decide) rfl (by decide) (c_Law_14 I hi hb1 hb2 K)
    | 15, _ => exact z_tableIn (off := 897) (tgt := 940) dLaw_law_43 (by decide) (by decide) (by decide) rfl (by decide) (c_Law_15 I hi hb1 hb2 K)
    | 16, _ => exact z_tableIn (off := 949) (tgt := 992) dLaw_law_43 (by decide) (by decide) (by decide) rfl (by decide) (c_Law_16 I hi hb1 hb2 K)
    | 17, _ => exact z_tableIn (off := 989) (tgt := 1032) dLaw_law_43 (by decide) (by decide) (by decide) rfl (by decide) (c_Law_17 I hi hb1 hb2 K)
    | 18, _ => exact z_tableIn (off := 1029) (tgt := 1072) dLaw_law_43 (by decide) (by decide) (by decide) rfl (by decide) (c_Law_18 I hi hb1 hb2 K)
    | 19, _ => exact z_tableIn (off := 1069) (tgt := 1112) dLaw_law_43 (by decide) (by decide) (by decide) rfl (by decide) (c_Law_19 I hi hb1 hb2 K)
    | 20, _ => exact z_tableIn (off := 1121) (tgt := 1164) dLaw_law_43 (by decide) (by decide) (by decide) rfl (by decide) (c_Law_20 I hi hb1 hb2 K)
    | 21, _ => exact z_tableIn (off := 1173) (tgt := 1216) dLaw_law_43 (by decide) (by decide) (by decide) rfl (by decide) (c_Law_21 I hi hb1 hb2 K)
    | 22, _ => exact z_tableIn (off := 1201) (tgt := 1244) dLaw_law_43 (by decide) (by decide) (by decide) rfl (by decide) (c_Law_22 I hi hb1 hb2 K)
    | 23, _ => exact z_tableIn (off := 1253) (tgt := 1296) dLaw_law_43 (by decide) (by decide) (by decide) rfl (by decide) (c_Law_23 I hi hb1 hb2 K)
    | 24, _ => exact z_tableIn (off := 1293) (tgt := 1336) dLaw_law_43 (by decide) (by decide) (by decide) rfl (by decide) (c_Law_24 I hi hb1 hb2 K)
    | 25, _ => exact z_tableIn (off := 1321) (tgt := 1364) dLaw_law_43 (by decide) (by decide) (by decide) rfl (by decide) (c_Law_25 I hi hb1 hb2 K)
    | 26, _ => exact z_tableIn (off := 1373) (tgt := 1416) dLaw_law_43 (by decide) (by decide) (by decide) rfl (by decide) (c_Law_26 I hi hb1 hb2 K)
    | 27, _ => exact z_tableIn (off := 1401) (tgt := 1444) dLaw_law_43 (by decide) (by decide) (by decide) rfl (by decide) (c_Law_27 I hi hb1 hb2 K)
    | 28, _ => exact z_tableIn (off := 1429) (tgt := 1472) dLaw_law_43 (by decide) (by decide) (by decide) rfl (by decide) (c_Law_28 I hi hb1 hb2 K)
    | 29, _ => exact z_tableIn (off := 1457) (tgt := 1500) dLaw_law_43 (by decide) (by decide) (by decide) rfl (by decide) (c_Law_29 I hi hb1 hb2 K)
    | 30, _ => exact z_tableIn (off := 1497) (tgt := 1540) dLaw_law_43 (by decide) (by decide) (by decide) rfl (by decide) (c_Law_30 I hi hb1 hb2 K)
    | 31, _ => exact z_tableIn (off := 1525) (tgt := 1568) dLaw_law_43 (by decide) (by decide) (by decide) rfl (by decide) (c_Law_31 I hi hb1 hb2 K)
    | 32, _ => exact z_tableIn (off := 1565) (tgt := 1608) dLaw_law_43 (by decide) (by decide) (by decide) rfl (by decide) (c_Law_32 I hi hb1 hb2 K)
    | 33, _ => exact z_tableIn (off := 1605) (tgt := 1648) dLaw_law_43 (by decide) (by decide) (by decide) rfl (by decide) (c_Law_33 I hi hb1 hb2 K)
    | 34, _ => exact z_tableIn (off := 1645) (tgt := 1688) dLaw_law_43 (by decide) (by decide) (by decide) rfl (by decide) (c_Law_34 I hi hb1 hb2 K)
    | 35, _ => exact z_tableIn (off := 1685) (tgt := 1728) dLaw_law_43 (by decide) (by decide) (by decide) rfl (by decide) (c_Law_35 I hi hb1 hb2 K)
    | 36, _ => exact z_tableIn (off := 1725) (tgt := 1768) dLaw_law_43 (by decide) (by decide) (by decide) rfl (by decide) (c_Law_36 I hi hb1 hb2 K)
    | 37, _ => exact z_tableIn (off := 1753) (tgt := 1796) dLaw_law_43 (by decide) (by decide) (by decide) rfl (by decide) (c_Law_37 I hi hb1 hb2 K)
    | 38, _ => exact z_tableIn (off := 1781) (tgt := 1824) dLaw_law_43 (by decide) (by decide) (by decide) rfl (by decide) (c_Law_38 I hi hb1 hb2 K)
    | 39, _ => exact z_tableIn (off := 1809) (tgt := 1852) dLaw_law_43 (by decide) (by decide) (by decide) rfl (by decide) (c_Law_39 I hi hb1 hb2 K)
    | 40, _ => exact z_tableIn (off := 1849) (tgt := 1892) dLaw_law_43 (by decide) (by decide) (by decide) rfl (by decide) (c_Law_40 I hi hb1 hb2 K)
    | 41, _ => exact z_tableIn (off := 1877) (tgt := 1920) dLaw_law_43 (by decide) (by decide) (by decide) rfl (by decide) (c_Law_41 I hi hb1 hb2 K)
    | 42, _ => exact z_tableIn (off := 1905) (tgt := 1948) dLaw_law_43 (by decide) (by decide) (by decide) rfl (by decide) (c_Law_42 I hi hb1 hb2 K)
    | 43, _ => exact z_tableIn (off := 1918) (tgt := 1961) dLaw_law_43 (by decide) (by decide) (by decide) rfl (by decide) (c_Law_43 I hi hb1 hb2 K)
    | 44, _ => exact z_tableIn (off := 1946) (tgt := 1989) dLaw_law_43 (by decide) (by decide) (by decide) rfl (by decide) (c_Law_44 I hi hb1 hb2 K)
    | 45, _ => exact z_tableIn (off := 1959) (tgt := 2002) dLaw_law_43 (by decide) (by decide) (by decide) rfl (by decide) (c_Law_45 I hi hb1 hb2 K)
    | 46, _ => exact z_tableIn (off := 1999) (tgt := 2042) dLaw_law_43 (by decide) (by decide) (by decide) rfl (by decide) (c_Law_46 I hi hb1 hb2 K)
    | 47, _ => exact z_tableIn (off := 2056) (tgt := 2099) dLaw_law_43 (by decide) (by decide) (by decide) rfl (by decide) (c_Law_47 I hi hb1 hb2 K)
    | 48, _ => exact z_tableIn (off := 2069) (tgt := 2112) dLaw_law_43 (by decide) (by decide) (by decide) rfl (by decide) (c_Law_48 I hi hb1 hb2 K)
    | 49, _ => exact z_tableIn (off := 2082) (tgt := 2125) dLaw_law_43 (by decide) (by decide) (by decide) rfl (by decide) (c_Law_49 I hi hb1 hb2 K)
    | n + 50, c => exact absurd c (by omega)
  · refine z_tableOut (tgt := 2138) dLaw_law_43 (by omega) (Or.inr (by omega)) (by decide) ?_
    exact K _ _ h ma S _ _ I rfl (by omega) (by omega)
theorem l_Law {ou : Nat} : ∀ (n bc bs : Nat) (h : zHp) (ma : Nat → Nat) (S : zSt) (i : Int) (y5 y6 : Option Value), 0 ≤ i → i ≤ 2060 → (L : Int) - i < 4 * n → 210 * n ≤ bc → 12100 * n ≤ bs → zLi G h ad ma ou S → L ≤ 2048 → zR G l (zLJ G b L xs) bc bs h 27 [some (.ref b), some (.ref (ad 0)), some (.ref (ma 0)), some (.ref ou), some (zi i), y5, y6] [] := by
  intro n
  induction n with
  | zero =>
    intro bc bs h ma S i y5 y6 i0 i1 hn q1 q2 I hL
    refine z_iload dLaw_law_27 rfl ?_
    refine z_aload_n dLaw_law_29 rfl ?_
    refine z_slen dLaw_law_30 (fun _ => ?_)
    refine z_iconst dLaw_law_31 ?_
    refine z_isub dLaw_law_32 ?_
    refine z_icmp_gt (tgt := 2144) dLaw_law_33 (by decide) (by omega) (by omega) (fun c => ?_) (fun c => ?_)
    · refine z_iconst dLaw_law_2144 ?_
      exact z_lawret dLaw_law_2145
    · exfalso; omega
  | succ n ih =>
    intro bc bs h ma S i y5 y6 i0 i1 hn q1 q2 I hL
    refine z_iload dLaw_law_27 rfl ?_
    refine z_aload_n dLaw_law_29 rfl ?_
    refine z_slen dLaw_law_30 (fun _ => ?_)
    refine z_iconst dLaw_law_31 ?_
    refine z_isub dLaw_law_32 ?_
    refine z_icmp_gt (tgt := 2144) dLaw_law_33 (by decide) (by omega) (by omega) (fun c => ?_) (fun c => ?_)
    · refine z_iconst dLaw_law_2144 ?_
      exact z_lawret dLaw_law_2145
    · refine l_Law_case I ⟨i0, by omega⟩ (by omega) (by omega) ?_
      intro bc' bs' h2 ma2 S2 z5 z6 I2 m0 g1 g2
      refine z_iinc dLaw_law_2138 rfl (Nat.le_of_ble_eq_true rfl) ?_
      refine z_goto (tgt := 27) dLaw_law_2141 (by decide) ?_
      rw [← m0]
      exact ih bc' bs' h2 ma2 S2 (i + 4) z5 z6 (by omega) (by omega) (by omega) (by omega) (by omega) I2 hL
theorem k_Out_init {o : Nat} : zM G l hOut_init yOut_init 1 [.ref o] h (fun v h' => v = none ∧ h = h') zNo 0 0 := by
  refine zM.of [some (.ref o)] (by decide +kernel) rfl (by decide) rfl (Nat.le_of_ble_eq_true rfl) rfl ?_
  refine z_aload_n dOut_init_0 rfl ?_
  refine z_obj lk_Out_1 ob_i ob_c dOut_init_1 (Nat.le_of_ble_eq_true rfl) (Nat.le_of_ble_eq_true rfl) (Nat.le_of_ble_eq_true rfl) ?_
  refine z_vret rfl dOut_init_4 ?_
  exact ⟨rfl, rfl⟩
theorem l_Law_start (hL : L ≤ 2048) : zR G l (zLJ G b L xs) 745109 6860778 (fun _ => none) 0 [some (.ref b), none, none, none, none, none, none] [] := by
  refine z_new (fs := [.null, .null, .null, .null, zi 0, zi 0]) (bc' := 745108) (bs' := 6860772) fd_Cls cl_Law_8 im_Cls in_Cls (by intro j hj; match j, hj with | 0, _ => rfl | 1, _ => rfl | 2, _ => rfl | 3, _ => rfl | 4, _ => rfl | 5, _ => rfl) dLaw_law_0 (by decide) (by decide) (fun b1 db1 gb1 => ?_)
  refine z_hx (fun h1 pb1 Fb1 => ?_)
  refine z_dup rfl dLaw_law_3 ?_
  refine z_callI (bc' := 745089) (bs' := 6860629) MI_Cls_init lk_Law_168 dLaw_law_4 (k_Cls_init pb1) rfl rfl (Nat.le_of_ble_eq_true rfl)  (Nat.le_of_ble_eq_true rfl) (Nat.le_of_ble_eq_true rfl) (by decide) (by decide) (fun _ _ q => q.elim) ?_
  rintro _ h2 ⟨rfl, ad, rfl, C2, A2, F2⟩
  refine z_astore_n dLaw_law_7 (Nat.le_of_ble_eq_true rfl) ?_
  refine z_new (fs := [.null, .null, .null, .null, .null, .null, .null, .null, zi 0, zi 0, zi 0, zi 0, zi 0]) (bc' := 745088) (bs' := 6860616) fd_Mod cl_Law_169 im_Mod in_Mod (by intro j hj; match j, hj with | 0, _ => rfl | 1, _ => rfl | 2, _ => rfl | 3, _ => rfl | 4, _ => rfl | 5, _ => rfl | 6, _ => rfl | 7, _ => rfl | 8, _ => rfl | 9, _ => rfl | 10, _ => rfl | 11, _ => rfl | 12, _ => rfl) dLaw_law_8 (by decide) (by decide) (fun b2 db2 gb2 => ?_)
  refine z_hx (fun h3 pb2 Fb2 => ?_)
  refine z_dup rfl dLaw_law_11 ?_
  refine z_callI (bc' := 745076) (bs' := 6860529) MI_Mod_init lk_Law_171 dLaw_law_12 (k_Mod_init pb2) rfl rfl (Nat.le_of_ble_eq_true rfl)  (Nat.le_of_ble_eq_true rfl) (Nat.le_of_ble_eq_true rfl) (by decide) (by decide) (fun _ _ q => q.elim) ?_
  rintro _ h4 ⟨rfl, ma, rfl, M4, A4, F4⟩
  refine z_astore_n dLaw_law_15 (Nat.le_of_ble_eq_true rfl) ?_
  refine z_new (fs := [zl 0, .null]) (bc' := 745075) (bs' := 6860527) fd_Out cl_Law_14 im_Out in_Out (by intro j hj; match j, hj with | 0, _ => rfl | 1, _ => rfl) dLaw_law_16 (by decide) (by decide) (fun ou dou gou => ?_)
  refine z_hx (fun h5 pou Fou => ?_)
  refine z_dup rfl dLaw_law_19 ?_
  refine z_callIN (bc' := 745075) (bs' := 6860527) MI_Out_init lk_Law_172 dLaw_law_20 k_Out_init rfl rfl (Nat.le_of_ble_eq_true rfl)  (Nat.le_of_ble_eq_true rfl) (Nat.le_of_ble_eq_true rfl) (by decide) (by decide) (fun _ _ q => q.elim) ?_
  rintro _ _ ⟨rfl, rfl⟩
  refine z_astore_n dLaw_law_23 (Nat.le_of_ble_eq_true rfl) ?_
  refine z_iconst dLaw_law_24 ?_
  refine z_istore dLaw_law_25 (Nat.le_of_ble_eq_true rfl) ?_
  have n1 : ∀ i, i < 20 → ou ≠ ad i := fun i hi => by
    obtain ⟨e, he⟩ := C2.dom hi
    have h3e : h3 (ad i) = some e := (Fb2 _ (Nat.ne_of_lt (db2 _ _ he))).trans he
    have h4e : h4 (ad i) = some e := (F4 _ (fun j hj => by
      by_cases c : j = 0
      · subst c; exact Nat.ne_of_lt (db2 _ _ he)
      · exact Nat.ne_of_lt ((A4 j (by omega) hj).1 _ _ h3e))).trans h3e
    exact Ne.symm (Nat.ne_of_lt (dou _ _ h4e))
  have n3 : ∀ i j, i < 20 → j < 13 → ad i ≠ ma j := fun i j hi hj => by
    obtain ⟨e, he⟩ := C2.dom hi
    have h3e : h3 (ad i) = some e := (Fb2 _ (Nat.ne_of_lt (db2 _ _ he))).trans he
    by_cases c : j = 0
    · subst c; exact Nat.ne_of_lt (db2 _ _ he)
    · exact Nat.ne_of_lt ((A4 j (by omega) hj).1 _ _ h3e)
  have n2 : ∀ j, j < 13 → ou ≠ ma j := fun j hj => by
    obtain ⟨e, he⟩ := M4.dom hj
    exact Ne.symm (Nat.ne_of_lt (dou _ _ he))
  have C5 : zCls G h5 ad zS0 := C2.at (fun i hi => (Fou _ (Ne.symm (n1 i hi))).trans ((F4 _ (fun j hj => n3 i j hi hj)).trans (Fb2 _ (n3 i 0 hi (by omega)))))
  have M5 : zMod G h5 ma zS0 0 := M4.at (fun j hj => Fou _ (Ne.symm (n2 j hj)))
  exact l_Law 513 _ _ h5 ma zS0 0 _ _ (by decide) (by decide) (by omega) (by decide) (by decide) ⟨0, 0, .null, C5, M5, ok_zS0, oka_zS0, pou, n1, n2, n3⟩ hL
end LAW4
end
section
/-! ===== the start: what the tables and the premises say of the classes, the statics and the constants ===== -/
theorem ws_sub {args : Array Value} {s : State} {C : String} {y z : MethodName} (hz : z.cls = y.cls) (hy : y.cls ≠ "java/lang/invoke/MethodHandle" ∧ y.cls ≠ "java/lang/invoke/VarHandle") (h0 : (Cond.selects C z z).before args s = true) (hpriv : (Cond.privateMethod y).before args s = true) (hinst : (Cond.instanceMethod y).before args s = true) : (Cond.selects C y y).before args s = true := by
  obtain ⟨c2, r2, m2, q1, q2, q3, q4, kP, hkP, hkPi⟩ := Cond.selects_spec h0
  obtain ⟨mk, methM, hnamed, hmethM, -, -⟩ := Cond.instanceMethod_spec hinst
  have hfound : s.methodFound? y.cls y.name y.desc = some mk := State.methodFound?_of_named hnamed hy
  have e1 := findClass_of_methodNamed q3
  rw [hz] at e1
  have hcls : m2.cls = mk.cls := Option.some.inj (e1.symm.trans (findClass_of_methodNamed hnamed))
  rw [hcls] at hkP
  have hsel : selectMethod {} s.vm c2 mk = .method mk := selectMethod_private hmethM (Cond.privateMethod_at hpriv mk methM hnamed hmethM)
  simp only [Cond.before, Cond.holds, Cond.value, q1, hfound, hnamed, hsel, hkP]
  simp
  exact hkPi
def zDO : List Int32 := [48, 49, 50, 51, 52, 53, 54, 55, 56, 57, 48, 49, 50, 51, 52, 53, 54, 55, 56, 57, 48, 49, 50, 51, 52, 53, 54, 55, 56, 57, 48, 49, 50, 51, 52, 53, 54, 55, 56, 57, 48, 49, 50, 51, 52, 53, 54, 55, 56, 57, 48, 49, 50, 51, 52, 53, 54, 55, 56, 57, 48, 49, 50, 51, 52, 53, 54, 55, 56, 57, 48, 49, 50, 51, 52, 53, 54, 55, 56, 57, 48, 49, 50, 51, 52, 53, 54, 55, 56, 57, 48, 49, 50, 51, 52, 53, 54, 55, 56, 57]
def zDT : List Int32 := [48, 48, 48, 48, 48, 48, 48, 48, 48, 48, 49, 49, 49, 49, 49, 49, 49, 49, 49, 49, 50, 50, 50, 50, 50, 50, 50, 50, 50, 50, 51, 51, 51, 51, 51, 51, 51, 51, 51, 51, 52, 52, 52, 52, 52, 52, 52, 52, 52, 52, 53, 53, 53, 53, 53, 53, 53, 53, 53, 53, 54, 54, 54, 54, 54, 54, 54, 54, 54, 54, 55, 55, 55, 55, 55, 55, 55, 55, 55, 55, 56, 56, 56, 56, 56, 56, 56, 56, 56, 56, 57, 57, 57, 57, 57, 57, 57, 57, 57, 57]
abbrev zFl0 : List Cond := flatC (Jvm.Cond.and given_1 narrow_1)
theorem zm_texts : ∀ q ∈ zTexts, Cond.stringRef q.1 q.2.1 q.2.2 ∈ lw_tbl ∧ Cond.exactly (.string q.1 q.2.1) "java/lang/String" ∈ zFl0 := by decide +kernel
theorem zm_ncs : ∀ q ∈ zNcs, Cond.not (.castable q.1 q.2) ∈ zFl0 := by decide +kernel
theorem z_run {Ls : List Cond} {N p : Nat} {f : Nat → Cond} (h : (List.range N).map f = (Ls.drop p).take N) (j : Nat) (hj : j < N) : f j ∈ Ls := by
  have h1 : f j ∈ (List.range N).map f := List.mem_map.mpr ⟨j, List.mem_range.mpr hj, rfl⟩
  rw [h] at h1
  exact List.mem_of_mem_drop (List.mem_of_mem_take h1)
theorem zm_do : ∀ j, j < 100 → Cond.eq (.elem (.static "java/lang/Integer" "DigitOnes" "[B") (.int (Int32.ofNat j))) (.int (zDO.getD j 0)) ∈ zFl0 := z_run (p := 12) (by decide +kernel)
theorem zm_dt : ∀ j, j < 100 → Cond.eq (.elem (.static "java/lang/Integer" "DigitTens" "[B") (.int (Int32.ofNat j))) (.int (zDT.getD j 0)) ∈ zFl0 := z_run (p := 115) (by decide +kernel)
theorem zm_sub : ∀ y ∈ zSbP, y.cls = yAsb_isLatin1_aae02.cls ∧ (y.cls ≠ "java/lang/invoke/MethodHandle" ∧ y.cls ≠ "java/lang/invoke/VarHandle") ∧ Cond.privateMethod y ∈ lw_tbl ∧ Cond.instanceMethod y ∈ lw_tbl := by decide +kernel
section LAW5
variable {s : State} {b : Nat}
/-- a string constant of the model's, by its premises -/
theorem z_str {k : Nat} {tx : String} {n : Nat} {f : Nat → Int32} (hn : n < 2 ^ 31) (h1 : (Cond.stringRef "CursorlistModel" k tx).before #[Value.ref b] s = true) (hex : (Cond.exactly (.string "CursorlistModel" k) "java/lang/String").before #[Value.ref b] s = true) (hco : (Cond.eq (.field (.string "CursorlistModel" k) "java/lang/String" "coder" "B") (.int 0)).before #[Value.ref b] s = true)
    (har : (Cond.arrayOf (.field (.string "CursorlistModel" k) "java/lang/String" "value" "[B") .byte).before #[Value.ref b] s = true) (hlen : (Cond.eq (.length (.field (.string "CursorlistModel" k) "java/lang/String" "value" "[B")) (.int (Int32.ofNat n))).before #[Value.ref b] s = true) (hel : ∀ j, j < n → (Cond.eq (.elem (.field (.string "CursorlistModel" k) "java/lang/String" "value" "[B") (.int (Int32.ofNat j))) (.int (f j))).before #[Value.ref b] s = true) :
    ∃ a t : Nat, vk_R "CursorlistModel" k tx a s ∧ va_O "java/lang/String" a (fun q => s.heap.size ≤ q) s s.heap ∧ va_OF "java/lang/String" "coder" "B" (.int 0) a (fun q => s.heap.size ≤ q) s s.heap ∧ va_OF "java/lang/String" "value" "[B" (.ref t) a (fun q => s.heap.size ≤ q) s s.heap ∧ va_T .byte t n (fun j => .int (f j)) (fun q => s.heap.size ≤ q) s s.heap := by
  have hA : ∀ a : Nat, a < s.heap.size → ¬ (s.heap.size ≤ a) := fun a h q => by omega
  obtain ⟨a, c, cA, kA, q1, q2, q3, q4, q5, q6, -⟩ := Cond.exactly_spec hex
  obtain ⟨t, ht, hT⟩ := va_Tof (A := fun q => s.heap.size ≤ q) (f := fun j => .int (f j)) hn har (va_eqt hlen) (fun j hj => va_eqt (hel j hj)) hA
  exact ⟨a, t, vk_R.of h1 q1, ⟨cA, q3, q5, by rw [q6]; exact q2, hA a (Array.getElem?_eq_some_iff.mp q3).1⟩, vk_OFof q1 (va_eqt hco) hA, vk_OFof q1 ht hA, hT⟩
theorem zS_start (hts : ∀ w ∈ lw_tbl, w.before #[Value.ref b] s = true) (hs : ∀ c ∈ zFl0, c.before #[Value.ref b] s = true) : ∃ G : zG, G.2.2 = s.heap.size ∧ zS G s s.heap := by
  have hA : ∀ a : Nat, a < s.heap.size → ¬ (s.heap.size ≤ a) := fun a h q => by omega
  have hz : ∀ w ∈ zWS, w.before #[Value.ref b] s = true := fun w hw => hts w (List.mem_filter.mp hw).1
  have hk : ∀ c : Nat, ∃ r : ClassId × (Nat → Nat), ∀ q, vwCl[c]? = some q → u_Kn s q.1 q.2.1 q.2.2 r.1 r.2 := fun c => match c with
    | 0 => by
      obtain ⟨cC, iS, h⟩ := u_known hz fd_Str.2.1 (hz _ im_Str)
      exact ⟨(cC, iS), fun q hq => by cases hq; exact h⟩
    | 1 => by
      obtain ⟨cC, iS, h⟩ := u_known hz fd_Sbd.2.1 (hz _ im_Sbd)
      exact ⟨(cC, iS), fun q hq => by cases hq; exact h⟩
    | 2 => by
      obtain ⟨cC, iS, h⟩ := u_known hz fd_Cur.2.1 (hz _ im_Cur)
      exact ⟨(cC, iS), fun q hq => by cases hq; exact h⟩
    | 3 => by
      obtain ⟨cC, iS, h⟩ := u_known hz fd_Rec.2.1 (hz _ im_Rec)
      exact ⟨(cC, iS), fun q hq => by cases hq; exact h⟩
    | 4 => by
      obtain ⟨cC, iS, h⟩ := u_known hz fd_Row.2.1 (hz _ im_Row)
      exact ⟨(cC, iS), fun q hq => by cases hq; exact h⟩
    | 5 => by
      obtain ⟨cC, iS, h⟩ := u_known hz fd_Cls.2.1 (hz _ im_Cls)
      exact ⟨(cC, iS), fun q hq => by cases hq; exact h⟩
    | 6 => by
      obtain ⟨cC, iS, h⟩ := u_known hz fd_Out.2.1 (hz _ im_Out)
      exact ⟨(cC, iS), fun q hq => by cases hq; exact h⟩
    | 7 => by
      obtain ⟨cC, iS, h⟩ := u_known hz fd_Mod.2.1 (hz _ im_Mod)
      exact ⟨(cC, iS), fun q hq => by cases hq; exact h⟩
    | n + 8 => ⟨(0, fun _ => 0), fun q hq => by simp at hq⟩
  obtain ⟨D, hD⟩ := Classical.axiomOfChoice hk
  obtain ⟨cI, kI, coI, fI, gI, eI⟩ := Cond.arrayClass_spec (hz _ ac_int)
  obtain ⟨cZ, kZ, coZ, fZ, gZ, eZ⟩ := Cond.arrayClass_spec (hz _ ac_boolean)
  obtain ⟨cB, kB, coB, fB, gB, eB⟩ := Cond.arrayClass_spec (hz _ ac_byte)
  obtain ⟨cL, kL, coL, fL, gL, eL⟩ := Cond.arrayClass_spec (hz _ ac_long)
  have hAOA : va_AOA .int s := hts (.arrayOver (.array .int)) (by decide +kernel)
  obtain ⟨coA, cA, kA, fA, iA, gA, eA, nA⟩ := hAOA.spec
  have hR9 := hts (.arrayOver (.object "Cursorlist$Row")) (by decide +kernel)
  have hC9 := hts (.arrayOver (.object "Cursorlist$Cursor")) (by decide +kernel)
  obtain ⟨coR, cR, kR, fR, iR, gR, eR, nR⟩ := Cond.arrayOver_spec hR9
  obtain ⟨coC, cC, kC, fC, iC, gC, eC, nC⟩ := Cond.arrayOver_spec hC9
  obtain ⟨a7, t8, s1, s2, s3, s4, s5⟩ := z_str (b := b) (k := zkE) (tx := "") (n := 0) (f := fun _ => 32) (by decide) (hts _ (by decide +kernel)) (hs _ (by decide +kernel)) (hs _ (by decide +kernel)) (hs _ (by decide +kernel)) (hs _ (by decide +kernel)) (fun j hj => absurd hj (Nat.not_lt_zero j))
  obtain ⟨a9, t10, r1, r2, r3, r4, r5⟩ := z_str (b := b) (k := zkB) (tx := " ") (n := 1) (f := fun _ => 32) (by decide) (hts _ (by decide +kernel)) (hs _ (by decide +kernel)) (hs _ (by decide +kernel)) (hs _ (by decide +kernel)) (hs _ (by decide +kernel)) (fun j hj => match j, hj with | 0, _ => hs _ (by decide +kernel))
  obtain ⟨tO, vO, TO⟩ := va_Tof (args := #[Value.ref b]) (A := fun q => s.heap.size ≤ q) (N := 100) (ty := .byte) (tm := .static "java/lang/Integer" "DigitOnes" "[B") (f := fun j => .int (zDO.getD j 0)) (by decide) (hs _ (by decide +kernel)) (va_eqt (z := Int32.ofNat 100) (hs _ (by decide +kernel))) (fun j hj => va_eqt (hs _ (zm_do j hj))) hA
  obtain ⟨tT, vT, TT⟩ := va_Tof (args := #[Value.ref b]) (A := fun q => s.heap.size ≤ q) (N := 100) (ty := .byte) (tm := .static "java/lang/Integer" "DigitTens" "[B") (f := fun j => .int (zDT.getD j 0)) (by decide) (hs _ (by decide +kernel)) (va_eqt (z := Int32.ofNat 100) (hs _ (by decide +kernel))) (fun j hj => va_eqt (hs _ (zm_dt j hj))) hA
  let ids : Nat → Nat := fun j => match j with
    | 0 => cI
    | 1 => cZ
    | 2 => cB
    | 3 => cL
    | 4 => cA
    | 5 => cR
    | 6 => cC
    | 7 => a7
    | 8 => t8
    | 9 => a9
    | 10 => t10
    | 11 => tO
    | _ => tT
  refine ⟨((fun c => (D c).1, fun c => (D c).2), ids, s.heap.size), rfl, ⟨fun c q hq => hD c q hq, fun k q hq => ?_⟩, ⟨kA, kI, coI, gA, ?_, gI, eI⟩, fun w hw => ?_, fun q hq => ?_, fun q hq => va_Nc.of (hs _ (zm_ncs q hq)), ?_, ?_, va_AO.of hR9, va_AO.of hC9, hAOA, ?_, ?_, ⟨_, ?_, TO⟩, ⟨_, ?_, TT⟩, ⟨_, s1, s2, s3, s4, s5, fun j hj => absurd hj (Nat.not_lt_zero j)⟩, ⟨_, r1, r2, r3, r4, r5, fun j hj => rfl⟩, fun y hy => ?_⟩
  · match k, hq with
    | 0, hq => cases hq; exact ⟨fun n z => ⟨(fun k h => by cases h), kI, gI, coI, eI⟩, fI⟩
    | 1, hq => cases hq; exact ⟨fun n z => ⟨(fun k h => by cases h), kZ, gZ, coZ, eZ⟩, fZ⟩
    | 2, hq => cases hq; exact ⟨fun n z => ⟨(fun k h => by cases h), kB, gB, coB, eB⟩, fB⟩
    | 3, hq => cases hq; exact ⟨fun n z => ⟨(fun k h => by cases h), kL, gL, coL, eL⟩, fL⟩
    | 4, hq => cases hq; exact ⟨fun n z => ⟨(fun k h => by cases h), kA, gA, coA, eA⟩, nA⟩
    | 5, hq => cases hq; exact ⟨fun n z => ⟨(fun k h => by cases h), kR, gR, coR, eR⟩, kR, coR, gR, eR, fR, nR⟩
    | 6, hq => cases hq; exact ⟨fun n z => ⟨(fun k h => by cases h), kC, gC, coC, eC⟩, kC, coC, gC, eC, fC, nC⟩
    | n + 7, hq => simp [zTys] at hq
  · have e9 : coA = cI := Option.some.inj (fA.symm.trans fI)
    rw [eA, e9]
    rfl
  · have h1 := List.mem_filter.mp hw
    have h2 := hts w h1.1
    have h3 : zIsN w = true := h1.2
    cases w <;> first | exact va_Nw.of rfl h2 | (simp [zIsN] at h3)
  · obtain ⟨a, c, cA, kA, q1, q2, q3, q4, q5, q6, -⟩ := Cond.exactly_spec (hs _ (zm_texts q hq).2)
    exact ⟨a, vk_R.of (hts _ (zm_texts q hq).1) q1⟩
  · exact vx_Zqof (hts _ (by decide +kernel)) (hts _ (by decide +kernel)) (hs _ (by decide +kernel)) hA
  · exact vx_Zqof (hts _ (by decide +kernel)) (hts _ (by decide +kernel)) (hs _ (by decide +kernel)) hA
  · exact va_Zof (hts _ (by decide +kernel)) (hts _ (by decide +kernel)) (va_eqi (z := 1) (hs _ (by decide +kernel))) hA
  · exact va_Zqof (hts _ (by decide +kernel)) (hts _ (by decide +kernel)) (hs _ (by decide +kernel)) hA
  · exact va_Zof (hts _ (by decide +kernel)) (hts _ (by decide +kernel)) vO hA
  · exact va_Zof (hts _ (by decide +kernel)) (hts _ (by decide +kernel)) vT hA
  · obtain ⟨y1, y2, y3, y4⟩ := zm_sub y hy
    exact ws_sub (args := #[]) (z := yAsb_isLatin1_aae02) y1.symm y2 (hts (.selects "java/lang/StringBuilder" yAsb_isLatin1_aae02 yAsb_isLatin1_aae02) (by decide +kernel)) (hts _ y3) (hts _ y4)
end LAW5
end
section
/-- from the entry the law comes to its end with true -/
theorem whole_start {p : Program} {e : Env} {s : State} {m : MethodId} {below : List Frame} {meth : Method} {c : Code} (l : Launch) (hflags : l.flags = flags0) (ht9 : c.exceptionTable.toList = []) {b L : Nat} {xs : Nat → Int32} (hL : L ≤ 2048) (C0 : lw_At p s m meth c b L xs) : W p l e room_1 s m #[Value.ref b] below meth c s.heap [] 0 0 (lw_Z below #[Value.ref b] s) (entryFrame m ([Value.ref b] : List Value).toArray 7) := by
  obtain ⟨hx, hb, hr, hml, hown, hts, hX, hbl, hlocks, hgv⟩ := C0
  have hs := flat_of_before _ hgv
  obtain ⟨G, hG, hZ⟩ := zS_start hts hs
  have hst : l.stackTraces = false := by
    show (!l.flags.contains noTraceFlag) = false
    rw [hflags]
    decide +kernel
  have hl0 := lv_entry ([.ref b]) (n := 7) (Nat.le_of_ble_eq_true rfl)
  rw [lg_entry_eq]
  have hC : zCx G l (zLJ G b L xs) p s m #[Value.ref b] meth c := ⟨hx, hb, hml, hr, ht9, (fun h => nomatch h), hown, fun w hw => hts w (List.mem_filter.mp hw).1, hlocks, hZ, hst, ⟨rfl, hG, hX, hbl, hL⟩, Nat.le_of_eq hG⟩
  exact l_Law_start hL p e s m #[Value.ref b] below meth c s.heap [] 0 0 _ hC ⟨Nat.le_of_eq hG, fun a e9 h9 => by cases h9⟩ va_S.rf ⟨hl0.1, hl0.2.1, fun q hq => hl0.2.2 q hq⟩ (show 0 + 745109 ≤ 745109 by omega) (show 0 + 6860778 ≤ 6860778 by omega)
set_option maxHeartbeats 4000000 in
theorem lw_walk (l : Launch) (hflags : l.flags = flags0) (b : Addr) (xs : List Int32) : MetFree l x (headSpec (Jvm.Cond.code x code maxLocals ret :: tables_1) room_1) (lw_P b xs) (fun _ _ _ _ _ => True) lw_Q := by
  refine MetFree.of_bodyS (code := code) (maxLocals := maxLocals) (ret := ret) (by decide) ?_ ?_
  · intro args s m h hn
    obtain ⟨meth, c, h1, h2, h3, h4, h5, h6, -, -⟩ := Cond.code_spec hn (atoms_spec (ws := Jvm.Cond.code x code maxLocals ret :: tables_1) h _ List.mem_cons_self)
    exact ⟨meth, c, h1, h2, h3, h4, h5, h6⟩
  · intro p e s m args below meth c s₁ B hml0 hP _
    obtain ⟨rfl, hx, hbd, hgv⟩ := hP
    obtain ⟨scr, harrAt, hlist, hof, hsmall⟩ := hx
    obtain ⟨hcb, hkn, -, -⟩ := State.arrayAt?_spec harrAt
    have hown : s.vm.findClass R_law = some m.cls := findClass_of_methodNamed B.named
    have hts0 : ∀ c ∈ (Jvm.Cond.code x code maxLocals ret :: tables_1), c.before #[Value.ref b] s = true := atoms_spec (ws := Jvm.Cond.code x code maxLocals ret :: tables_1) B.pre
    have hts : ∀ w ∈ lw_tbl, w.before #[Value.ref b] s = true := k2_hts_sels lw_privs (fun w hw => hts0 w (List.mem_cons_of_mem _ hw)) lw_privs_ok
    have hml : c.maxLocals = 7 := B.maxLocals_eq (hts0 _ List.mem_cons_self)
    have X₀ : Stand p l e room_1 s m #[Value.ref b] below meth c s₁ [] 0 0 := Stand.of_body B
    have hh0 : s₁.heap = s.heap := by rw [B.state]; rfl
    have ht9 : c.exceptionTable.toList = [] := by
      obtain ⟨meth9, c9, h1, h2, -, -, -, -, h7, -⟩ := Cond.code_spec B.named (hts0 _ List.mem_cons_self)
      cases Option.some.inj (h1.symm.trans B.method)
      cases Option.some.inj (h2.symm.trans (Stand.of_body B).code)
      rw [Array.isEmpty_iff.mp h7]
    have hsz : scr.slots.size = xs.length := by rw [← Array.length_toList, hlist, List.length_map]
    have hval : ∀ j : Nat, j < xs.length → scr.slots[j]? = some (.int (xs.getD j 0)) := fun j hj => by
      rw [← Array.getElem?_toList, hlist]
      simp [hj]
    have hbl : b < s.heap.size := (Array.getElem?_eq_some_iff.mp hcb).1
    have hX : va_X b xs.length (fun j => xs.getD j 0) s s.heap := ⟨scr, hcb, hof, hkn, hsz, hval⟩
    have K : W p l e room_1 s m #[Value.ref b] below meth c s₁.heap [] 0 0 (lw_Z below #[Value.ref b] s) (entryFrame m ([Value.ref b] : List Value).toArray 7) := by
      rw [hh0]
      exact whole_start l hflags ht9 hbd ⟨B.exec, B.bytes, B.returns, hml, hown, hts, hX, hbl, B.notSynchronized, hgv⟩
    obtain ⟨t, a1, o, b1, b2, b3⟩ := K s₁ rfl X₀
    exact ⟨t, o, a1, b1, b2, b3⟩
theorem lw_pre_spec {args : Array Value} {s : State} (h : (Jvm.Cond.and given_1 narrow_1).before args s = true) (hr : rest_1_c.before args s = true) : ∃ (b : Addr) (xs : List Int32), lw_P b xs args s := by
  have hs := flat_of_before _ h
  have hq := flat_of_before _ hr
  have hc : (Cond.count 1).before args s = true := hs _ (by decide +kernel)
  have harr : (Cond.arrayOf (.arg 0) .int).before args s = true := hs _ (by decide +kernel)
  have hle : (Cond.le (.length (.arg 0)) (.int 2048)).before args s = true := hs _ (by decide +kernel)
  have hlen : (Cond.isInt (.length (.arg 0))).before args s = true := hq _ (by decide +kernel)
  have hall : (Cond.all (.arg 0) (.isInt (.elem (.arg 0) (.index 0)))).before args s = true := hq _ (by decide +kernel)
  obtain ⟨b, xs, hb, hx⟩ := State.ints_of_pre rfl harr hlen hall
  have hsm : xs.length < 2 ^ 31 := hx.choose_spec.2.2.2
  have hev : (Term.length (.arg 0)).eval args s none [] s = some (.int xs.length.toInt32) := hx.length_eval hb
  have hv := Cond.le_ints hev (show (Term.int 2048).eval args s none [] s = some (.int 2048) from rfl)
  have hd : xs.length.toInt32 ≤ 2048 := by
    simpa [Cond.before, Cond.holds, hv] using hle
  have hN : xs.length ≤ 2048 := (Int32.ofNat_le_ofNat hsm (by decide)).mp (show Int32.ofNat xs.length ≤ Int32.ofNat 2048 from hd)
  exact ⟨b, xs, Cond.one_arg hc (show args[0]? = some (.ref b) from hb), hx, hN, h⟩
theorem lw_comes (l : Launch) (hflags : l.flags = flags0) : Comes l x (Jvm.Cond.code x code maxLocals ret :: tables_1) room_1 (fun tb e args s => Calls_1 tb e args s ∧ rest_1 tb e args s ∧ Pre_1 tb e args s)
    (fun _ _ args s o t => lw_Q args s o t) := by
  intro p e ha hc hk s m args below hf hfit hheap happ hpre
  obtain ⟨b, xs, hP⟩ := lw_pre_spec hpre.2.2 hpre.2.1
  obtain ⟨k, o, h1, h2, h3, hQ⟩ := lw_walk l hflags b xs p e ha hc hk s m args below hf ((Spec.applies_iff_loose hf).mp happ).1 hP trivial
  exact ⟨k, o, h1, h2, h3, hQ⟩
theorem lw_frame {s t : State} {o : Outcome} {args : Array Value} (h : Framed s o t [] 745109 6860778) :
    Framed s o t (fieldLocs frame_1_writes args s ++ arrayLocs frame_1_arrays args s ++ staticLocs frame_1_statics s) 745109 6860778 := h
theorem lw_limb (L : Cond) (hL : ∀ (args : Array Value) (s t : State), L.after args s (.returned (some (.int 1))) t = true) :
    ArmFor flags0 classFile x code maxLocals ret World_1 tables_1 room_1 Calls_1 rest_1 Pre_1
      (fun tb e a s o t => postC L tb e a s o t ∧ Framed s o t (fieldLocs frame_1_writes a s ++ arrayLocs frame_1_arrays a s ++ staticLocs frame_1_statics s) 745109 6860778) := by
  intro l hflags _ _ p e ha hc hk s m args below hf hfit hheap happ hpre
  obtain ⟨k, o, h1, h2, h3, rfl, hF⟩ := lw_comes l hflags p e ha hc hk s m args below hf hfit hheap happ hpre
  exact ⟨k, _, h1, h2, h3, hL args s _, lw_frame hF⟩
theorem i_vc : Claimed_1_1 ∧ Claimed_1_2 := ⟨lw_limb limb_1_1 (fun args s t => by simp [limb_1_1, Cond.after, Cond.holds, Cond.value]), lw_limb limb_1_2 (fun args s t => Cond.after_iff.mpr (by
  first | (rw [show limb_1_2 = Cond.eq .result (.int 1) from rfl, Cond.eq_ints (x := 1) (y := 1) rfl rfl]; simp; done) | (simp [limb_1_2, Cond.value, Term.eval]; done)))⟩
end
