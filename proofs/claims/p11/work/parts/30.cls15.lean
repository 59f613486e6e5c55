section CLS15
variable {G : zG} {l : Launch} {h h' : zHp} {ad : Nat → Nat} {S : zSt}
noncomputable def zDgO (S : zSt) (d : Int) (L : List Int) : Int := @ite _ (zOrd L) (Classical.propDecidable _) ((((d * 31 + 1) * 31 + zwd (zCost (zCntT S.2.2.2.1) L 8)) * 31 + zwd (zInv L)) * 31 + zwd (zBd S L)) (d * 31 + 0)
def zD1 (S : zSt) : Int := zFld (fun n e => e * 31 + zwd (zHv S n)) 7834 5
def zD2 (S : zSt) : Int := zFld (fun n e => zDgL e (S.1 n)) (zD1 S) 4
def zDc (S : zSt) (c : Nat) (e : Int) : Int := zFld (fun n e => e * 31 + zwd (zCuV S c n)) e 6
def zD3 (S : zSt) : Int := zFld (fun n e => zDc S n e) (zD2 S) 3
def zD4 (S : zSt) : Int := zFld (fun n e => e * 31 + zwd (zAkV S n)) (zD3 S) 4
def zD5 (S : zSt) : Int := zDgI (zD4 S) S.2.2.1 S.2.2.1.length
noncomputable def zD6 (S : zSt) : Int := zFld (fun n e => zDgO S e (S.1 n)) (zD5 S) 4
theorem k_Cls_mixed {x y : Int} : zM G l hCls_mixed yCls_mixed 1 [zl x, zl y] h (fun v h' => v = some (zl (x * 31 + y)) ∧ h = h') zNo 0 0 := by
  refine zM.of [some (zl x), none, some (zl y), none] (by decide +kernel) rfl (by decide) rfl (Nat.le_of_ble_eq_true rfl) rfl ?_
  refine z_lload_n dCls_mixed_0 rfl ?_
  refine z_ldc2 (v := (31 : Int64)) dCls_mixed_1 (31) (by decide) ct_Cls_338 ?_
  refine z_lmul dCls_mixed_4 ?_
  refine z_lload_n dCls_mixed_5 rfl ?_
  refine z_ladd dCls_mixed_6 ?_
  refine z_lret rfl dCls_mixed_7 ?_
  exact ⟨rfl, rfl⟩
theorem l_Cls_mixedWithItems {d mc ms bc bs : Nat} {Qn : Option Value → zHp → Prop} {Qx : String → zHp → Prop} {r a : Nat} {L : List Int} (hr : zRow G h r a L) {x : Int} (hd : 3 ≤ d) (K : ∀ y, zR G l (zMJ G hCls_mixedWithItems d Qn Qx mc ms) bc bs h 32 [some (zl x), none, some (.ref r), some (zl (zDgI x L L.length)), none, y] []) :
    ∀ (n : Nat) (m : Nat), L.length - m < n → m ≤ L.length → zR G l (zMJ G hCls_mixedWithItems d Qn Qx mc ms) bc bs h 5 [some (zl x), none, some (.ref r), some (zl (zDgI x L m)), none, some (zi (m : Int))] [] := by
  intro n
  induction n with
  | zero => intro m q1 q2; omega
  | succ n ih =>
  intro m q1 q2
  obtain ⟨fr, er, -⟩ := id hr
  have hl := hr.len
  have hi := zAt_in hr m
  refine z_iload dCls_mixedWithItems_5 rfl ?_
  refine z_aload_n dCls_mixedWithItems_7 rfl ?_
  refine z_getN (k := 1) fd_Row (by decide) fl_Cls_46 dCls_mixedWithItems_8 (by assumption) (by rfl) ?_
  refine z_icmp_ge (tgt := 32) dCls_mixedWithItems_11 (by decide) (by omega) (by omega) (fun c11 => ?_) (fun c11 => ?_)
  · have em : m = L.length := by omega
    rw [em]
    exact K _
  · refine z_lload_n dCls_mixedWithItems_14 rfl ?_
    refine z_aload_n dCls_mixedWithItems_15 rfl ?_
    refine z_iload dCls_mixedWithItems_16 rfl ?_
    refine z_callVN MV_Row_itemAt lk_Cls_70 dCls_mixedWithItems_18 (k_Row_itemAt hr (by omega)) rfl rfl (Nat.le_of_ble_eq_true rfl) rfl (by assumption) (by show _ + 1 ≤ d; omega) (by show _ * 64 + 64 ≤ d * 64; omega) (Nat.le_of_eq (Nat.zero_add _)) (Nat.le_of_eq (Nat.zero_add _)) (fun _ _ q => q.elim) ?_
    rintro _ _ ⟨rfl, rfl⟩
    refine z_i2l (by omega) dCls_mixedWithItems_21 ?_
    refine z_callS MS_Cls_mixed lk_Cls_279 dCls_mixedWithItems_22 (k_Cls_mixed) rfl rfl (Nat.le_of_ble_eq_true rfl)  (by show _ + 1 ≤ d; omega) (by show _ * 64 + 64 ≤ d * 64; omega) (Nat.le_of_eq (Nat.zero_add _)) (Nat.le_of_eq (Nat.zero_add _)) (fun _ _ q => q.elim) ?_
    rintro _ _ ⟨rfl, rfl⟩
    refine z_lstore_n dCls_mixedWithItems_25 (Nat.le_of_ble_eq_true rfl) ?_
    refine z_iinc dCls_mixedWithItems_26 rfl (Nat.le_of_ble_eq_true rfl) ?_
    refine z_goto (tgt := 5) dCls_mixedWithItems_29 (by decide) ?_
    exact ih (m + 1) (by omega) (by omega)
theorem k_Cls_mixedWithItems {r a : Nat} {L : List Int} (hr : zRow G h r a L) {x : Int} : zM G l hCls_mixedWithItems yCls_mixedWithItems 3 [zl x, .ref r] h (fun v h' => v = some (zl (zDgI x L L.length)) ∧ h = h') zNo 0 0 := by
  refine zM.of [some (zl x), none, some (.ref r), none, none, none] (by decide +kernel) rfl (by decide) rfl (Nat.le_of_ble_eq_true rfl) rfl ?_
  refine z_lload_n dCls_mixedWithItems_0 rfl ?_
  refine z_lstore_n dCls_mixedWithItems_1 (Nat.le_of_ble_eq_true rfl) ?_
  refine z_iconst dCls_mixedWithItems_2 ?_
  refine z_istore dCls_mixedWithItems_3 (Nat.le_of_ble_eq_true rfl) ?_
  refine l_Cls_mixedWithItems hr (by omega) (fun y => ?_) (L.length + 1) 0 (by omega) (by omega)
  refine z_lload_n dCls_mixedWithItems_32 rfl ?_
  refine z_lret rfl dCls_mixedWithItems_33 ?_
  exact ⟨rfl, rfl⟩
theorem k_Cls_mixedWithList {r a : Nat} {L : List Int} (hr : zRow G h r a L) {x : Int} : zM G l hCls_mixedWithList yCls_mixedWithList 4 [zl x, .ref r] h (fun v h' => v = some (zl (zDgL x L)) ∧ h = h') zNo 0 0 := by
  obtain ⟨fr, er, -⟩ := id hr
  have hl := hr.len
  have z1 := zHr_in L 2 L.length
  have z2 := zLnz_in L
  refine zM.of [some (zl x), none, some (.ref r), none, none] (by decide +kernel) rfl (by decide) rfl (Nat.le_of_ble_eq_true rfl) rfl ?_
  refine z_lload_n dCls_mixedWithList_0 rfl ?_
  refine z_aload_n dCls_mixedWithList_1 rfl ?_
  refine z_getN (k := 1) fd_Row (by decide) fl_Cls_46 dCls_mixedWithList_2 (by assumption) (by rfl) ?_
  refine z_i2l (by omega) dCls_mixedWithList_5 ?_
  refine z_callS MS_Cls_mixed lk_Cls_279 dCls_mixedWithList_6 (k_Cls_mixed) rfl rfl (Nat.le_of_ble_eq_true rfl)  (Nat.le_of_ble_eq_true rfl) (Nat.le_of_ble_eq_true rfl) (Nat.le_of_eq (Nat.zero_add _)) (Nat.le_of_eq (Nat.zero_add _)) (fun _ _ q => q.elim) ?_
  rintro _ _ ⟨rfl, rfl⟩
  refine z_aload_n dCls_mixedWithList_9 rfl ?_
  refine z_callS MS_Cls_mixedWithItems lk_Cls_293 dCls_mixedWithList_10 (k_Cls_mixedWithItems hr) rfl rfl (Nat.le_of_ble_eq_true rfl)  (Nat.le_of_ble_eq_true rfl) (Nat.le_of_ble_eq_true rfl) (Nat.le_of_eq (Nat.zero_add _)) (Nat.le_of_eq (Nat.zero_add _)) (fun _ _ q => q.elim) ?_
  rintro _ _ ⟨rfl, rfl⟩
  refine z_lstore_n dCls_mixedWithList_13 (Nat.le_of_ble_eq_true rfl) ?_
  refine z_lload_n dCls_mixedWithList_14 rfl ?_
  refine z_aload_n dCls_mixedWithList_15 rfl ?_
  refine z_iconst dCls_mixedWithList_16 ?_
  refine z_callVN MV_Row_restAt lk_Cls_212 dCls_mixedWithList_17 (k_Row_restAt hr (by omega)) rfl rfl (Nat.le_of_ble_eq_true rfl) rfl (by assumption) (Nat.le_of_ble_eq_true rfl) (Nat.le_of_ble_eq_true rfl) (Nat.le_of_eq (Nat.zero_add _)) (Nat.le_of_eq (Nat.zero_add _)) (fun _ _ q => q.elim) ?_
  rintro _ _ ⟨rfl, rfl⟩
  refine z_i2l (by omega) dCls_mixedWithList_20 ?_
  refine z_callS MS_Cls_mixed lk_Cls_279 dCls_mixedWithList_21 (k_Cls_mixed) rfl rfl (Nat.le_of_ble_eq_true rfl)  (Nat.le_of_ble_eq_true rfl) (Nat.le_of_ble_eq_true rfl) (Nat.le_of_eq (Nat.zero_add _)) (Nat.le_of_eq (Nat.zero_add _)) (fun _ _ q => q.elim) ?_
  rintro _ _ ⟨rfl, rfl⟩
  refine z_lstore_n dCls_mixedWithList_24 (Nat.le_of_ble_eq_true rfl) ?_
  refine z_lload_n dCls_mixedWithList_25 rfl ?_
  refine z_aload_n dCls_mixedWithList_26 rfl ?_
  refine z_callVN MV_Row_lastNotZero lk_Cls_206 dCls_mixedWithList_27 (k_Row_lastNotZero hr) rfl rfl (Nat.le_of_ble_eq_true rfl) rfl (by assumption) (Nat.le_of_ble_eq_true rfl) (Nat.le_of_ble_eq_true rfl) (Nat.le_of_eq (Nat.zero_add _)) (Nat.le_of_eq (Nat.zero_add _)) (fun _ _ q => q.elim) ?_
  rintro _ _ ⟨rfl, rfl⟩
  refine z_i2l (by omega) dCls_mixedWithList_30 ?_
  refine z_callS MS_Cls_mixed lk_Cls_279 dCls_mixedWithList_31 (k_Cls_mixed) rfl rfl (Nat.le_of_ble_eq_true rfl)  (Nat.le_of_ble_eq_true rfl) (Nat.le_of_ble_eq_true rfl) (Nat.le_of_eq (Nat.zero_add _)) (Nat.le_of_eq (Nat.zero_add _)) (fun _ _ q => q.elim) ?_
  rintro _ _ ⟨rfl, rfl⟩
  refine z_lret rfl dCls_mixedWithList_34 ?_
  exact ⟨rfl, rfl⟩
theorem k_Cls_mixedWithOrder {k : Nat} {x : Int} (hC : zCls G h ad S) (hk : k < 4) : zM G l hCls_mixedWithOrder yCls_mixedWithOrder 5 [.ref (ad 0), zl x, .ref (ad (8 + 2 * k))] h (fun v h' => v = some (zl (zDgO S x (S.1 k))) ∧ h = h') zNo 0 0 := by
  obtain ⟨c1, c2, ⟨g3, c3, d3⟩, ⟨g4, c4, d4⟩, c5, ⟨T6, c6, d6⟩, c7, c8, ⟨R9, c9⟩, c10⟩ := id hC
  have hrA := hC.ls hk
  obtain ⟨fA, eA, -⟩ := id hrA
  refine zM.of [some (.ref (ad 0)), some (zl x), none, some (.ref (ad (8 + 2 * k))), none, none] (by decide +kernel) rfl (by decide) rfl (Nat.le_of_ble_eq_true rfl) rfl ?_
  refine z_aload_n dCls_mixedWithOrder_0 rfl ?_
  refine z_callVN MV_Row_isOrder lk_Cls_237 dCls_mixedWithOrder_1 (k_Row_isOrder hrA) rfl rfl (Nat.le_of_ble_eq_true rfl) rfl (by assumption) (Nat.le_of_ble_eq_true rfl) (Nat.le_of_ble_eq_true rfl) (Nat.le_of_eq (Nat.zero_add _)) (Nat.le_of_eq (Nat.zero_add _)) (fun _ _ q => q.elim) ?_
  rintro _ _ ⟨b9, rfl, (⟨rfl, m9⟩ | ⟨rfl, m9⟩), rfl⟩
  · refine z_if_ne (tgt := 13) dCls_mixedWithOrder_4 (by decide) (by omega) (fun c4 => ?_) (fun c4 => ?_)
    · refine z_lload_n dCls_mixedWithOrder_13 rfl ?_
      refine z_lconst dCls_mixedWithOrder_14 (1) rfl ?_
      refine z_callS MS_Cls_mixed lk_Cls_279 dCls_mixedWithOrder_15 (k_Cls_mixed) rfl rfl (Nat.le_of_ble_eq_true rfl)  (Nat.le_of_ble_eq_true rfl) (Nat.le_of_ble_eq_true rfl) (Nat.le_of_eq (Nat.zero_add _)) (Nat.le_of_eq (Nat.zero_add _)) (fun _ _ q => q.elim) ?_
      rintro _ _ ⟨rfl, rfl⟩
      refine z_lstore dCls_mixedWithOrder_18 (Nat.le_of_ble_eq_true rfl) ?_
      refine z_lload dCls_mixedWithOrder_20 rfl ?_
      refine z_aload_n dCls_mixedWithOrder_22 rfl ?_
      refine z_get (k := 2) fd_Cls (by decide) fl_Cls_24 dCls_mixedWithOrder_23 (by assumption) (by rfl) ?_
      refine z_aload_n dCls_mixedWithOrder_26 rfl ?_
      refine z_callVN MV_Rec_costBy lk_Cls_241 dCls_mixedWithOrder_27 (k_Rec_costBy hrA c5 c6) rfl rfl (Nat.le_of_ble_eq_true rfl) rfl (by assumption) (Nat.le_of_ble_eq_true rfl) (Nat.le_of_ble_eq_true rfl) (Nat.le_of_eq (Nat.zero_add _)) (Nat.le_of_eq (Nat.zero_add _)) (fun _ _ q => q.elim) ?_
      rintro _ _ ⟨rfl, rfl⟩
      rw [zCost_cg d6]
      refine z_i2lw dCls_mixedWithOrder_30 ?_
      refine z_callS MS_Cls_mixed lk_Cls_279 dCls_mixedWithOrder_31 (k_Cls_mixed) rfl rfl (Nat.le_of_ble_eq_true rfl)  (Nat.le_of_ble_eq_true rfl) (Nat.le_of_ble_eq_true rfl) (Nat.le_of_eq (Nat.zero_add _)) (Nat.le_of_eq (Nat.zero_add _)) (fun _ _ q => q.elim) ?_
      rintro _ _ ⟨rfl, rfl⟩
      refine z_lstore dCls_mixedWithOrder_34 (Nat.le_of_ble_eq_true rfl) ?_
      refine z_lload dCls_mixedWithOrder_36 rfl ?_
      refine z_aload_n dCls_mixedWithOrder_38 rfl ?_
      refine z_callVN MV_Row_inversions lk_Cls_244 dCls_mixedWithOrder_39 (k_Row_inversions hrA) rfl rfl (Nat.le_of_ble_eq_true rfl) rfl (by assumption) (Nat.le_of_ble_eq_true rfl) (Nat.le_of_ble_eq_true rfl) (Nat.le_of_eq (Nat.zero_add _)) (Nat.le_of_eq (Nat.zero_add _)) (fun _ _ q => q.elim) ?_
      rintro _ _ ⟨rfl, rfl⟩
      refine z_i2lw dCls_mixedWithOrder_42 ?_
      refine z_callS MS_Cls_mixed lk_Cls_279 dCls_mixedWithOrder_43 (k_Cls_mixed) rfl rfl (Nat.le_of_ble_eq_true rfl)  (Nat.le_of_ble_eq_true rfl) (Nat.le_of_ble_eq_true rfl) (Nat.le_of_eq (Nat.zero_add _)) (Nat.le_of_eq (Nat.zero_add _)) (fun _ _ q => q.elim) ?_
      rintro _ _ ⟨rfl, rfl⟩
      refine z_lstore dCls_mixedWithOrder_46 (Nat.le_of_ble_eq_true rfl) ?_
      refine z_lload dCls_mixedWithOrder_48 rfl ?_
      refine z_aload_n dCls_mixedWithOrder_50 rfl ?_
      refine z_get (k := 2) fd_Cls (by decide) fl_Cls_24 dCls_mixedWithOrder_51 (by assumption) (by rfl) ?_
      refine z_aload_n dCls_mixedWithOrder_54 rfl ?_
      refine z_callVN MV_Rec_boundBy lk_Cls_247 dCls_mixedWithOrder_55 (k_Rec_boundBy hrA c5 c6) rfl rfl (Nat.le_of_ble_eq_true rfl) rfl (by assumption) (Nat.le_of_ble_eq_true rfl) (Nat.le_of_ble_eq_true rfl) (Nat.le_of_eq (Nat.zero_add _)) (Nat.le_of_eq (Nat.zero_add _)) (fun _ _ q => q.elim) ?_
      rintro _ _ ⟨rfl, rfl⟩
      rw [zCost_cg d6]
      refine z_i2lw dCls_mixedWithOrder_58 ?_
      refine z_callS MS_Cls_mixed lk_Cls_279 dCls_mixedWithOrder_59 (k_Cls_mixed) rfl rfl (Nat.le_of_ble_eq_true rfl)  (Nat.le_of_ble_eq_true rfl) (Nat.le_of_ble_eq_true rfl) (Nat.le_of_eq (Nat.zero_add _)) (Nat.le_of_eq (Nat.zero_add _)) (fun _ _ q => q.elim) ?_
      rintro _ _ ⟨rfl, rfl⟩
      refine z_lret rfl dCls_mixedWithOrder_62 ?_
      first
        | (exfalso; omega)
        | (unfold zDgO; rw [if_pos m9]; exact ⟨rfl, rfl⟩)
        | (unfold zDgO; rw [if_neg m9]; exact ⟨rfl, rfl⟩)
    · refine z_lload_n dCls_mixedWithOrder_7 rfl ?_
      refine z_lconst dCls_mixedWithOrder_8 (0) rfl ?_
      refine z_callS MS_Cls_mixed lk_Cls_279 dCls_mixedWithOrder_9 (k_Cls_mixed) rfl rfl (Nat.le_of_ble_eq_true rfl)  (Nat.le_of_ble_eq_true rfl) (Nat.le_of_ble_eq_true rfl) (Nat.le_of_eq (Nat.zero_add _)) (Nat.le_of_eq (Nat.zero_add _)) (fun _ _ q => q.elim) ?_
      rintro _ _ ⟨rfl, rfl⟩
      refine z_lret rfl dCls_mixedWithOrder_12 ?_
      first
        | (exfalso; omega)
        | (unfold zDgO; rw [if_pos m9]; exact ⟨rfl, rfl⟩)
        | (unfold zDgO; rw [if_neg m9]; exact ⟨rfl, rfl⟩)
  · refine z_if_ne (tgt := 13) dCls_mixedWithOrder_4 (by decide) (by omega) (fun c4 => ?_) (fun c4 => ?_)
    · refine z_lload_n dCls_mixedWithOrder_13 rfl ?_
      refine z_lconst dCls_mixedWithOrder_14 (1) rfl ?_
      refine z_callS MS_Cls_mixed lk_Cls_279 dCls_mixedWithOrder_15 (k_Cls_mixed) rfl rfl (Nat.le_of_ble_eq_true rfl)  (Nat.le_of_ble_eq_true rfl) (Nat.le_of_ble_eq_true rfl) (Nat.le_of_eq (Nat.zero_add _)) (Nat.le_of_eq (Nat.zero_add _)) (fun _ _ q => q.elim) ?_
      rintro _ _ ⟨rfl, rfl⟩
      refine z_lstore dCls_mixedWithOrder_18 (Nat.le_of_ble_eq_true rfl) ?_
      refine z_lload dCls_mixedWithOrder_20 rfl ?_
      refine z_aload_n dCls_mixedWithOrder_22 rfl ?_
      refine z_get (k := 2) fd_Cls (by decide) fl_Cls_24 dCls_mixedWithOrder_23 (by assumption) (by rfl) ?_
      refine z_aload_n dCls_mixedWithOrder_26 rfl ?_
      refine z_callVN MV_Rec_costBy lk_Cls_241 dCls_mixedWithOrder_27 (k_Rec_costBy hrA c5 c6) rfl rfl (Nat.le_of_ble_eq_true rfl) rfl (by assumption) (Nat.le_of_ble_eq_true rfl) (Nat.le_of_ble_eq_true rfl) (Nat.le_of_eq (Nat.zero_add _)) (Nat.le_of_eq (Nat.zero_add _)) (fun _ _ q => q.elim) ?_
      rintro _ _ ⟨rfl, rfl⟩
      rw [zCost_cg d6]
      refine z_i2lw dCls_mixedWithOrder_30 ?_
      refine z_callS MS_Cls_mixed lk_Cls_279 dCls_mixedWithOrder_31 (k_Cls_mixed) rfl rfl (Nat.le_of_ble_eq_true rfl)  (Nat.le_of_ble_eq_true rfl) (Nat.le_of_ble_eq_true rfl) (Nat.le_of_eq (Nat.zero_add _)) (Nat.le_of_eq (Nat.zero_add _)) (fun _ _ q => q.elim) ?_
      rintro _ _ ⟨rfl, rfl⟩
      refine z_lstore dCls_mixedWithOrder_34 (Nat.le_of_ble_eq_true rfl) ?_
      refine z_lload dCls_mixedWithOrder_36 rfl ?_
      refine z_aload_n dCls_mixedWithOrder_38 rfl ?_
      refine z_callVN MV_Row_inversions lk_Cls_244 dCls_mixedWithOrder_39 (k_Row_inversions hrA) rfl rfl (Nat.le_of_ble_eq_true rfl) rfl (by assumption) (Nat.le_of_ble_eq_true rfl) (Nat.le_of_ble_eq_true rfl) (Nat.le_of_eq (Nat.zero_add _)) (Nat.le_of_eq (Nat.zero_add _)) (fun _ _ q => q.elim) ?_
      rintro _ _ ⟨rfl, rfl⟩
      refine z_i2lw dCls_mixedWithOrder_42 ?_
      refine z_callS MS_Cls_mixed lk_Cls_279 dCls_mixedWithOrder_43 (k_Cls_mixed) rfl rfl (Nat.le_of_ble_eq_true rfl)  (Nat.le_of_ble_eq_true rfl) (Nat.le_of_ble_eq_true rfl) (Nat.le_of_eq (Nat.zero_add _)) (Nat.le_of_eq (Nat.zero_add _)) (fun _ _ q => q.elim) ?_
      rintro _ _ ⟨rfl, rfl⟩
      refine z_lstore dCls_mixedWithOrder_46 (Nat.le_of_ble_eq_true rfl) ?_
      refine z_lload dCls_mixedWithOrder_48 rfl ?_
      refine z_aload_n dCls_mixedWithOrder_50 rfl ?_
      refine z_get (k := 2) fd_Cls (by decide) fl_Cls_24 dCls_mixedWithOrder_51 (by assumption) (by rfl) ?_
      refine z_aload_n dCls_mixedWithOrder_54 rfl ?_
      refine z_callVN MV_Rec_boundBy lk_Cls_247 dCls_mixedWithOrder_55 (k_Rec_boundBy hrA c5 c6) rfl rfl (Nat.le_of_ble_eq_true rfl) rfl (by assumption) (Nat.le_of_ble_eq_true rfl) (Nat.le_of_ble_eq_true rfl) (Nat.le_of_eq (Nat.zero_add _)) (Nat.le_of_eq (Nat.zero_add _)) (fun _ _ q => q.elim) ?_
      rintro _ _ ⟨rfl, rfl⟩
      rw [zCost_cg d6]
      refine z_i2lw dCls_mixedWithOrder_58 ?_
      refine z_callS MS_Cls_mixed lk_Cls_279 dCls_mixedWithOrder_59 (k_Cls_mixed) rfl rfl (Nat.le_of_ble_eq_true rfl)  (Nat.le_of_ble_eq_true rfl) (Nat.le_of_ble_eq_true rfl) (Nat.le_of_eq (Nat.zero_add _)) (Nat.le_of_eq (Nat.zero_add _)) (fun _ _ q => q.elim) ?_
      rintro _ _ ⟨rfl, rfl⟩
      refine z_lret rfl dCls_mixedWithOrder_62 ?_
      first
        | (exfalso; omega)
        | (unfold zDgO; rw [if_pos m9]; exact ⟨rfl, rfl⟩)
        | (unfold zDgO; rw [if_neg m9]; exact ⟨rfl, rfl⟩)
    · refine z_lload_n dCls_mixedWithOrder_7 rfl ?_
      refine z_lconst dCls_mixedWithOrder_8 (0) rfl ?_
      refine z_callS MS_Cls_mixed lk_Cls_279 dCls_mixedWithOrder_9 (k_Cls_mixed) rfl rfl (Nat.le_of_ble_eq_true rfl)  (Nat.le_of_ble_eq_true rfl) (Nat.le_of_ble_eq_true rfl) (Nat.le_of_eq (Nat.zero_add _)) (Nat.le_of_eq (Nat.zero_add _)) (fun _ _ q => q.elim) ?_
      rintro _ _ ⟨rfl, rfl⟩
      refine z_lret rfl dCls_mixedWithOrder_12 ?_
      first
        | (exfalso; omega)
        | (unfold zDgO; rw [if_pos m9]; exact ⟨rfl, rfl⟩)
        | (unfold zDgO; rw [if_neg m9]; exact ⟨rfl, rfl⟩)
theorem l_dg1 (hC : zCls G h ad S) (hO : zOk S) (K : ∀ y z, zR G l (zMJ G hCls_digest 7 (fun v h' => ∃ b9 : Int, ((b9 = 1 ∧ zSnd S) ∨ (b9 = 0 ∧ ¬ zSnd S)) ∧ v = some (zl (zD6 S * 31 + b9)) ∧ zCls G h' ad S ∧ zFrm ad h h') zNo 0 0) 0 0 h 28 [some (.ref (ad 0)), some (zl (zD1 S)), none, y, z] []) :
    ∀ (n : Nat) (m : Nat), 5 - m < n → m ≤ 5 → ∀ z, zR G l (zMJ G hCls_digest 7 (fun v h' => ∃ b9 : Int, ((b9 = 1 ∧ zSnd S) ∨ (b9 = 0 ∧ ¬ zSnd S)) ∧ v = some (zl (zD6 S * 31 + b9)) ∧ zCls G h' ad S ∧ zFrm ad h h') zNo 0 0) 0 0 h 6 [some (.ref (ad 0)), some (zl (zFld (fun n e => e * 31 + zwd (zHv S n)) (7834) m)), none, some (zi (m : Int)), z] [] := by
  intro n
  induction n with
  | zero => intro m q1 q2 z; omega
  | succ n ih =>
  intro m q1 q2 z
  obtain ⟨c1, c2, ⟨g3, c3, d3⟩, ⟨g4, c4, d4⟩, c5, ⟨T6, c6, d6⟩, c7, c8, ⟨R9, c9⟩, c10⟩ := id hC
  refine z_iload_n dCls_digest_6 rfl ?_
  refine z_iconst dCls_digest_7 ?_
  refine z_icmp_gt (tgt := 28) dCls_digest_8 (by decide) (by omega) (by omega) (fun c8 => ?_) (fun c8 => ?_)
  · have em : m = 5 := by omega
    subst em
    exact K _ _
  · refine z_lload_n dCls_digest_11 rfl ?_
    refine z_aload_n dCls_digest_12 rfl ?_
    refine z_iload_n dCls_digest_13 rfl ?_
    refine z_callV MV_Cls_house lk_Cls_276 dCls_digest_14 (k_Cls_house0 hC (by omega)) rfl rfl (Nat.le_of_ble_eq_true rfl) rfl (by assumption) (Nat.le_of_ble_eq_true rfl) (Nat.le_of_ble_eq_true rfl) (Nat.le_of_eq (Nat.zero_add _)) (Nat.le_of_eq (Nat.zero_add _)) (fun _ _ q => q.elim) ?_
    rintro _ _ ⟨rfl, rfl⟩
    refine z_i2lw dCls_digest_17 ?_
    refine z_callS MS_Cls_mixed lk_Cls_279 dCls_digest_18 (k_Cls_mixed) rfl rfl (Nat.le_of_ble_eq_true rfl)  (Nat.le_of_ble_eq_true rfl) (Nat.le_of_ble_eq_true rfl) (Nat.le_of_eq (Nat.zero_add _)) (Nat.le_of_eq (Nat.zero_add _)) (fun _ _ q => q.elim) ?_
    rintro _ _ ⟨rfl, rfl⟩
    refine z_lstore_n dCls_digest_21 (Nat.le_of_ble_eq_true rfl) ?_
    refine z_iinc dCls_digest_22 rfl (Nat.le_of_ble_eq_true rfl) ?_
    refine z_goto (tgt := 6) dCls_digest_25 (by decide) ?_
    exact ih (m + 1) (by omega) (by omega) _
theorem l_dg2 (hC : zCls G h ad S) (hO : zOk S) (K : ∀ y z, zR G l (zMJ G hCls_digest 7 (fun v h' => ∃ b9 : Int, ((b9 = 1 ∧ zSnd S) ∨ (b9 = 0 ∧ ¬ zSnd S)) ∧ v = some (zl (zD6 S * 31 + b9)) ∧ zCls G h' ad S ∧ zFrm ad h h') zNo 0 0) 0 0 h 52 [some (.ref (ad 0)), some (zl (zD2 S)), none, y, z] []) :
    ∀ (n : Nat) (m : Nat), 4 - m < n → m ≤ 4 → ∀ z, zR G l (zMJ G hCls_digest 7 (fun v h' => ∃ b9 : Int, ((b9 = 1 ∧ zSnd S) ∨ (b9 = 0 ∧ ¬ zSnd S)) ∧ v = some (zl (zD6 S * 31 + b9)) ∧ zCls G h' ad S ∧ zFrm ad h h') zNo 0 0) 0 0 h 30 [some (.ref (ad 0)), some (zl (zFld (fun n e => zDgL e (S.1 n)) (zD1 S) m)), none, some (zi (m : Int)), z] [] := by
  intro n
  induction n with
  | zero => intro m q1 q2 z; omega
  | succ n ih =>
  intro m q1 q2 z
  obtain ⟨c1, c2, ⟨g3, c3, d3⟩, ⟨g4, c4, d4⟩, c5, ⟨T6, c6, d6⟩, c7, c8, ⟨R9, c9⟩, c10⟩ := id hC
  refine z_iload_n dCls_digest_30 rfl ?_
  refine z_iconst dCls_digest_31 ?_
  refine z_icmp_ge (tgt := 52) dCls_digest_32 (by decide) (by omega) (by omega) (fun c32 => ?_) (fun c32 => ?_)
  · have em : m = 4 := by omega
    subst em
    exact K _ _
  · have hrm := hC.ls (k := m) (by omega)
    obtain ⟨fm, em, -⟩ := id hrm
    refine z_lload_n dCls_digest_35 rfl ?_
    refine z_aload_n dCls_digest_36 rfl ?_
    refine z_get (k := 0) fd_Cls (by decide) fl_Cls_11 dCls_digest_37 (by assumption) (by rfl) ?_
    refine z_iload_n dCls_digest_40 rfl ?_
    refine z_aald (t := 5) (ty := .object "Cursorlist$Row") rfl rfl dCls_digest_41 c3 (by refine ⟨?_, ?_, ?_⟩ <;> omega) ?_
    rw [show (m : Int).toNat = m by omega, d3 m (by omega)]
    refine z_callS MS_Cls_mixedWithList lk_Cls_283 dCls_digest_42 (k_Cls_mixedWithList hrm) rfl rfl (Nat.le_of_ble_eq_true rfl)  (Nat.le_of_ble_eq_true rfl) (Nat.le_of_ble_eq_true rfl) (Nat.le_of_eq (Nat.zero_add _)) (Nat.le_of_eq (Nat.zero_add _)) (fun _ _ q => q.elim) ?_
    rintro _ _ ⟨rfl, rfl⟩
    refine z_lstore_n dCls_digest_45 (Nat.le_of_ble_eq_true rfl) ?_
    refine z_iinc dCls_digest_46 rfl (Nat.le_of_ble_eq_true rfl) ?_
    refine z_goto (tgt := 30) dCls_digest_49 (by decide) ?_
    exact ih (m + 1) (by omega) (by omega) _
theorem l_dg3a (hC : zCls G h ad S) (hO : zOk S) {c : Nat} {e : Int} (hc : c < 3) (K : ∀ y , zR G l (zMJ G hCls_digest 7 (fun v h' => ∃ b9 : Int, ((b9 = 1 ∧ zSnd S) ∨ (b9 = 0 ∧ ¬ zSnd S)) ∧ v = some (zl (zD6 S * 31 + b9)) ∧ zCls G h' ad S ∧ zFrm ad h h') zNo 0 0) 0 0 h 87 [some (.ref (ad 0)), some (zl (zDc S c e)), none, some (zi (c : Int)), y] []) :
    ∀ (n : Nat) (m : Nat), 6 - m < n → m ≤ 6 → zR G l (zMJ G hCls_digest 7 (fun v h' => ∃ b9 : Int, ((b9 = 1 ∧ zSnd S) ∨ (b9 = 0 ∧ ¬ zSnd S)) ∧ v = some (zl (zD6 S * 31 + b9)) ∧ zCls G h' ad S ∧ zFrm ad h h') zNo 0 0) 0 0 h 62 [some (.ref (ad 0)), some (zl (zFld (fun n e => e * 31 + zwd (zCuV S c n)) (e) m)), none, some (zi (c : Int)), some (zi (m : Int))] [] := by
  intro n
  induction n with
  | zero => intro m q1 q2; omega
  | succ n ih =>
  intro m q1 q2
  obtain ⟨c1, c2, ⟨g3, c3, d3⟩, ⟨g4, c4, d4⟩, c5, ⟨T6, c6, d6⟩, c7, c8, ⟨R9, c9⟩, c10⟩ := id hC
  refine z_iload dCls_digest_62 rfl ?_
  refine z_iconst dCls_digest_64 ?_
  refine z_icmp_gt (tgt := 87) dCls_digest_65 (by decide) (by omega) (by omega) (fun c65 => ?_) (fun c65 => ?_)
  · have em : m = 6 := by omega
    subst em
    exact K _
  · refine z_lload_n dCls_digest_68 rfl ?_
    refine z_aload_n dCls_digest_69 rfl ?_
    refine z_iload_n dCls_digest_70 rfl ?_
    refine z_iload dCls_digest_71 rfl ?_
    refine z_callV MV_Cls_ofCursor lk_Cls_287 dCls_digest_73 (k_Cls_ofCursor0 hC hO hc (by omega)) rfl rfl (Nat.le_of_ble_eq_true rfl) rfl (by assumption) (Nat.le_of_ble_eq_true rfl) (Nat.le_of_ble_eq_true rfl) (Nat.le_of_eq (Nat.zero_add _)) (Nat.le_of_eq (Nat.zero_add _)) (fun _ _ q => q.elim) ?_
    rintro _ _ ⟨rfl, rfl⟩
    refine z_i2lw dCls_digest_76 ?_
    refine z_callS MS_Cls_mixed lk_Cls_279 dCls_digest_77 (k_Cls_mixed) rfl rfl (Nat.le_of_ble_eq_true rfl)  (Nat.le_of_ble_eq_true rfl) (Nat.le_of_ble_eq_true rfl) (Nat.le_of_eq (Nat.zero_add _)) (Nat.le_of_eq (Nat.zero_add _)) (fun _ _ q => q.elim) ?_
    rintro _ _ ⟨rfl, rfl⟩
    refine z_lstore_n dCls_digest_80 (Nat.le_of_ble_eq_true rfl) ?_
    refine z_iinc dCls_digest_81 rfl (Nat.le_of_ble_eq_true rfl) ?_
    refine z_goto (tgt := 62) dCls_digest_84 (by decide) ?_
    exact ih (m + 1) (by omega) (by omega)
theorem l_dg3 (hC : zCls G h ad S) (hO : zOk S) (K : ∀ y z, zR G l (zMJ G hCls_digest 7 (fun v h' => ∃ b9 : Int, ((b9 = 1 ∧ zSnd S) ∨ (b9 = 0 ∧ ¬ zSnd S)) ∧ v = some (zl (zD6 S * 31 + b9)) ∧ zCls G h' ad S ∧ zFrm ad h h') zNo 0 0) 0 0 h 93 [some (.ref (ad 0)), some (zl (zD3 S)), none, y, z] []) :
    ∀ (n : Nat) (m : Nat), 3 - m < n → m ≤ 3 → ∀ z, zR G l (zMJ G hCls_digest 7 (fun v h' => ∃ b9 : Int, ((b9 = 1 ∧ zSnd S) ∨ (b9 = 0 ∧ ¬ zSnd S)) ∧ v = some (zl (zD6 S * 31 + b9)) ∧ zCls G h' ad S ∧ zFrm ad h h') zNo 0 0) 0 0 h 54 [some (.ref (ad 0)), some (zl (zFld (fun n e => zDc S n e) (zD2 S) m)), none, some (zi (m : Int)), z] [] := by
  intro n
  induction n with
  | zero => intro m q1 q2 z; omega
  | succ n ih =>
  intro m q1 q2 z
  obtain ⟨c1, c2, ⟨g3, c3, d3⟩, ⟨g4, c4, d4⟩, c5, ⟨T6, c6, d6⟩, c7, c8, ⟨R9, c9⟩, c10⟩ := id hC
  refine z_iload_n dCls_digest_54 rfl ?_
  refine z_iconst dCls_digest_55 ?_
  refine z_icmp_ge (tgt := 93) dCls_digest_56 (by decide) (by omega) (by omega) (fun c56 => ?_) (fun c56 => ?_)
  · have em : m = 3 := by omega
    subst em
    exact K _ _
  · refine z_iconst dCls_digest_59 ?_
    refine z_istore dCls_digest_60 (Nat.le_of_ble_eq_true rfl) ?_
    refine l_dg3a hC hO (by omega) (fun y => ?_) 7 0 (by omega) (by omega)
    refine z_iinc dCls_digest_87 rfl (Nat.le_of_ble_eq_true rfl) ?_
    refine z_goto (tgt := 54) dCls_digest_90 (by decide) ?_
    exact ih (m + 1) (by omega) (by omega) _
theorem l_dg4 (hC : zCls G h ad S) (hO : zOk S) (K : ∀ y z, zR G l (zMJ G hCls_digest 7 (fun v h' => ∃ b9 : Int, ((b9 = 1 ∧ zSnd S) ∨ (b9 = 0 ∧ ¬ zSnd S)) ∧ v = some (zl (zD6 S * 31 + b9)) ∧ zCls G h' ad S ∧ zFrm ad h h') zNo 0 0) 0 0 h 117 [some (.ref (ad 0)), some (zl (zD4 S)), none, y, z] []) :
    ∀ (n : Nat) (m : Nat), 4 - m < n → m ≤ 4 → ∀ z, zR G l (zMJ G hCls_digest 7 (fun v h' => ∃ b9 : Int, ((b9 = 1 ∧ zSnd S) ∨ (b9 = 0 ∧ ¬ zSnd S)) ∧ v = some (zl (zD6 S * 31 + b9)) ∧ zCls G h' ad S ∧ zFrm ad h h') zNo 0 0) 0 0 h 95 [some (.ref (ad 0)), some (zl (zFld (fun n e => e * 31 + zwd (zAkV S n)) (zD3 S) m)), none, some (zi (m : Int)), z] [] := by
  intro n
  induction n with
  | zero => intro m q1 q2 z; omega
  | succ n ih =>
  intro m q1 q2 z
  obtain ⟨c1, c2, ⟨g3, c3, d3⟩, ⟨g4, c4, d4⟩, c5, ⟨T6, c6, d6⟩, c7, c8, ⟨R9, c9⟩, c10⟩ := id hC
  refine z_iload_n dCls_digest_95 rfl ?_
  refine z_iconst dCls_digest_96 ?_
  refine z_icmp_gt (tgt := 117) dCls_digest_97 (by decide) (by omega) (by omega) (fun c97 => ?_) (fun c97 => ?_)
  · have em : m = 4 := by omega
    subst em
    exact K _ _
  · refine z_lload_n dCls_digest_100 rfl ?_
    refine z_aload_n dCls_digest_101 rfl ?_
    refine z_iload_n dCls_digest_102 rfl ?_
    refine z_callV MV_Cls_asked lk_Cls_290 dCls_digest_103 (k_Cls_asked0 hC (by omega)) rfl rfl (Nat.le_of_ble_eq_true rfl) rfl (by assumption) (Nat.le_of_ble_eq_true rfl) (Nat.le_of_ble_eq_true rfl) (Nat.le_of_eq (Nat.zero_add _)) (Nat.le_of_eq (Nat.zero_add _)) (fun _ _ q => q.elim) ?_
    rintro _ _ ⟨rfl, rfl⟩
    refine z_i2lw dCls_digest_106 ?_
    refine z_callS MS_Cls_mixed lk_Cls_279 dCls_digest_107 (k_Cls_mixed) rfl rfl (Nat.le_of_ble_eq_true rfl)  (Nat.le_of_ble_eq_true rfl) (Nat.le_of_ble_eq_true rfl) (Nat.le_of_eq (Nat.zero_add _)) (Nat.le_of_eq (Nat.zero_add _)) (fun _ _ q => q.elim) ?_
    rintro _ _ ⟨rfl, rfl⟩
    refine z_lstore_n dCls_digest_110 (Nat.le_of_ble_eq_true rfl) ?_
    refine z_iinc dCls_digest_111 rfl (Nat.le_of_ble_eq_true rfl) ?_
    refine z_goto (tgt := 95) dCls_digest_114 (by decide) ?_
    exact ih (m + 1) (by omega) (by omega) _
theorem l_dg6 (hC : zCls G h ad S) (hO : zOk S) (K : ∀ y z, zR G l (zMJ G hCls_digest 7 (fun v h' => ∃ b9 : Int, ((b9 = 1 ∧ zSnd S) ∨ (b9 = 0 ∧ ¬ zSnd S)) ∧ v = some (zl (zD6 S * 31 + b9)) ∧ zCls G h' ad S ∧ zFrm ad h h') zNo 0 0) 0 0 h 154 [some (.ref (ad 0)), some (zl (zD6 S)), none, y, z] []) :
    ∀ (n : Nat) (m : Nat), 4 - m < n → m ≤ 4 → ∀ z, zR G l (zMJ G hCls_digest 7 (fun v h' => ∃ b9 : Int, ((b9 = 1 ∧ zSnd S) ∨ (b9 = 0 ∧ ¬ zSnd S)) ∧ v = some (zl (zD6 S * 31 + b9)) ∧ zCls G h' ad S ∧ zFrm ad h h') zNo 0 0) 0 0 h 131 [some (.ref (ad 0)), some (zl (zFld (fun n e => zDgO S e (S.1 n)) (zD5 S) m)), none, some (zi (m : Int)), z] [] := by
  intro n
  induction n with
  | zero => intro m q1 q2 z; omega
  | succ n ih =>
  intro m q1 q2 z
  obtain ⟨c1, c2, ⟨g3, c3, d3⟩, ⟨g4, c4, d4⟩, c5, ⟨T6, c6, d6⟩, c7, c8, ⟨R9, c9⟩, c10⟩ := id hC
  refine z_iload_n dCls_digest_131 rfl ?_
  refine z_iconst dCls_digest_132 ?_
  refine z_icmp_ge (tgt := 154) dCls_digest_133 (by decide) (by omega) (by omega) (fun c133 => ?_) (fun c133 => ?_)
  · have em : m = 4 := by omega
    subst em
    exact K _ _
  · refine z_aload_n dCls_digest_136 rfl ?_
    refine z_lload_n dCls_digest_137 rfl ?_
    refine z_aload_n dCls_digest_138 rfl ?_
    refine z_get (k := 0) fd_Cls (by decide) fl_Cls_11 dCls_digest_139 (by assumption) (by rfl) ?_
    refine z_iload_n dCls_digest_142 rfl ?_
    refine z_aald (t := 5) (ty := .object "Cursorlist$Row") rfl rfl dCls_digest_143 c3 (by refine ⟨?_, ?_, ?_⟩ <;> omega) ?_
    rw [show (m : Int).toNat = m by omega, d3 m (by omega)]
    refine z_callV MV_Cls_mixedWithOrder lk_Cls_296 dCls_digest_144 (k_Cls_mixedWithOrder hC (by omega)) rfl rfl (Nat.le_of_ble_eq_true rfl) rfl (by assumption) (Nat.le_of_ble_eq_true rfl) (Nat.le_of_ble_eq_true rfl) (Nat.le_of_eq (Nat.zero_add _)) (Nat.le_of_eq (Nat.zero_add _)) (fun _ _ q => q.elim) ?_
    rintro _ _ ⟨rfl, rfl⟩
    refine z_lstore_n dCls_digest_147 (Nat.le_of_ble_eq_true rfl) ?_
    refine z_iinc dCls_digest_148 rfl (Nat.le_of_ble_eq_true rfl) ?_
    refine z_goto (tgt := 131) dCls_digest_151 (by decide) ?_
    exact ih (m + 1) (by omega) (by omega) _
theorem k_Cls_digest (hC : zCls G h ad S) (hO : zOk S) : zM G l hCls_digest yCls_digest 7 [.ref (ad 0)] h (fun v h' => ∃ b9 : Int, ((b9 = 1 ∧ zSnd S) ∨ (b9 = 0 ∧ ¬ zSnd S)) ∧ v = some (zl (zD6 S * 31 + b9)) ∧ zCls G h' ad S ∧ zFrm ad h h') zNo 0 0 := by
  obtain ⟨c1, c2, ⟨g3, c3, d3⟩, ⟨g4, c4, d4⟩, c5, ⟨T6, c6, d6⟩, c7, c8, ⟨R9, c9⟩, c10⟩ := id hC
  refine zM.of [some (.ref (ad 0)), none, none, none, none] (by decide +kernel) rfl (by decide) rfl (Nat.le_of_ble_eq_true rfl) rfl ?_
  refine z_ldc2 (v := (7834 : Int64)) dCls_digest_0 (7834) (by decide) ct_Cls_274 ?_
  refine z_lstore_n dCls_digest_3 (Nat.le_of_ble_eq_true rfl) ?_
  refine z_iconst dCls_digest_4 ?_
  refine z_istore_n dCls_digest_5 (Nat.le_of_ble_eq_true rfl) ?_
  refine l_dg1 hC hO (fun y z => ?_) 6 0 (by omega) (by omega) _
  refine z_iconst dCls_digest_28 ?_
  refine z_istore_n dCls_digest_29 (Nat.le_of_ble_eq_true rfl) ?_
  refine l_dg2 hC hO (fun y z => ?_) 5 0 (by omega) (by omega) _
  refine z_iconst dCls_digest_52 ?_
  refine z_istore_n dCls_digest_53 (Nat.le_of_ble_eq_true rfl) ?_
  refine l_dg3 hC hO (fun y z => ?_) 4 0 (by omega) (by omega) _
  refine z_iconst dCls_digest_93 ?_
  refine z_istore_n dCls_digest_94 (Nat.le_of_ble_eq_true rfl) ?_
  refine l_dg4 hC hO (fun y z => ?_) 5 0 (by omega) (by omega) _
  obtain ⟨f18, e18, -⟩ := id c10
  refine z_lload_n dCls_digest_117 rfl ?_
  refine z_aload_n dCls_digest_118 rfl ?_
  refine z_get (k := 2) fd_Cls (by decide) fl_Cls_24 dCls_digest_119 (by assumption) (by rfl) ?_
  refine z_getN (k := 0) fd_Rec (by decide) fl_Cls_234 dCls_digest_122 (by assumption) (by rfl) ?_
  refine z_callS MS_Cls_mixedWithItems lk_Cls_293 dCls_digest_125 (k_Cls_mixedWithItems c10) rfl rfl (Nat.le_of_ble_eq_true rfl)  (Nat.le_of_ble_eq_true rfl) (Nat.le_of_ble_eq_true rfl) (Nat.le_of_eq (Nat.zero_add _)) (Nat.le_of_eq (Nat.zero_add _)) (fun _ _ q => q.elim) ?_
  rintro _ _ ⟨rfl, rfl⟩
  refine z_lstore_n dCls_digest_128 (Nat.le_of_ble_eq_true rfl) ?_
  refine z_iconst dCls_digest_129 ?_
  refine z_istore_n dCls_digest_130 (Nat.le_of_ble_eq_true rfl) ?_
  refine l_dg6 hC hO (fun y z => ?_) 5 0 (by omega) (by omega) _
  refine z_lload_n dCls_digest_154 rfl ?_
  refine z_aload_n dCls_digest_155 rfl ?_
  refine z_callV MV_Cls_isSound lk_Cls_299 dCls_digest_156 (k_Cls_isSound hC hO) rfl rfl (Nat.le_of_ble_eq_true rfl) rfl (by assumption) (Nat.le_of_ble_eq_true rfl) (Nat.le_of_ble_eq_true rfl) (Nat.le_of_eq (Nat.zero_add _)) (Nat.le_of_eq (Nat.zero_add _)) (fun _ _ q => q.elim) ?_
  rintro _ h2 ⟨b9, rfl, hb9, hC2, fz2⟩
  refine z_callS MS_Cls_numberOf lk_Cls_192 dCls_digest_159 (k_Cls_numberOf (by omega)) rfl rfl (Nat.le_of_ble_eq_true rfl)  (Nat.le_of_ble_eq_true rfl) (Nat.le_of_ble_eq_true rfl) (Nat.le_of_eq (Nat.zero_add _)) (Nat.le_of_eq (Nat.zero_add _)) (fun _ _ q => q.elim) ?_
  rintro _ _ ⟨rfl, rfl⟩
  refine z_i2lw dCls_digest_162 ?_
  refine z_callS MS_Cls_mixed lk_Cls_279 dCls_digest_163 (k_Cls_mixed) rfl rfl (Nat.le_of_ble_eq_true rfl)  (Nat.le_of_ble_eq_true rfl) (Nat.le_of_ble_eq_true rfl) (Nat.le_of_eq (Nat.zero_add _)) (Nat.le_of_eq (Nat.zero_add _)) (fun _ _ q => q.elim) ?_
  rintro _ _ ⟨rfl, rfl⟩
  refine z_lret rfl dCls_digest_166 ?_
  first
    | (rcases hb9 with ⟨rfl, hb9⟩ | ⟨rfl, hb9⟩
       · exact ⟨1, Or.inl ⟨rfl, hb9⟩, rfl, hC2, fz2⟩
       · exact ⟨0, Or.inr ⟨rfl, hb9⟩, rfl, hC2, fz2⟩)
end CLS15
