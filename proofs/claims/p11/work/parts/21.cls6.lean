section CLS6
variable {G : zG} {l : Launch} {h h' : zHp} {ad : Nat → Nat} {S : zSt}
theorem zRow.cut {h1 : zHp} {r a : Nat} {L : List Int} {n : Int} (hr : zRow G h r a L) (hn : 0 ≤ n ∧ n ≤ L.length) (p1 : h1 r = some (.inr (zkRow, [.ref a, zi n]))) (f1 : ∀ q, q ≠ r → h1 q = h q) : zRow G h1 r a (L.take n.toNat) := by
  have hne := hr.ne
  obtain ⟨f, e1, e2, e3, e4, e5⟩ := hr
  have hl : (L.take n.toNat).length = n.toNat := by rw [List.length_take]; omega
  have hg : ∀ j, j < n.toNat → (L.take n.toNat).getD j 0 = L.getD j 0 := fun j hj => by
    simp only [List.getD_eq_getElem?_getD, List.getElem?_take, if_pos hj]
  refine ⟨f, ?_, (f1 a hne.symm).trans e2, by omega, fun j hj => ?_, fun j hj => ?_⟩
  · rw [hl, show ((n.toNat : Nat) : Int) = n by omega]; exact p1
  · rw [hg j (by omega)]; exact e4 j (by omega)
  · rw [hg j (by omega)]; exact e5 j (by omega)
theorem k_Cls_drop {p x b : Int} (hb : b = 0 ∨ b = 1) (hC : zCls G h ad S) (z_p : zI32 p) (z_x : zI32 x) (z_b : zI32 b) : zM G l hCls_drop yCls_drop 9 [.ref (ad 0), zi p, zi x, zi b] h (zQc G ad h (sp_drop S p x b)) (zXc G ad h (sp_drop S p x b)) 6 36 := by
  obtain ⟨c1, c2, ⟨g3, c3, d3⟩, ⟨g4, c4, d4⟩, c5, ⟨T6, c6, d6⟩, c7, c8, ⟨R9, c9⟩, c10⟩ := id hC
  obtain ⟨f16, e16, -⟩ := id c9
  refine zM.of [some (.ref (ad 0)), some (zi p), some (zi x), some (zi b), none, none] (by decide +kernel) rfl (by decide) rfl (Nat.le_of_ble_eq_true rfl) rfl ?_
  refine z_aload_n dCls_drop_0 rfl ?_
  refine z_iload_n dCls_drop_1 rfl ?_
  refine z_callV (bc' := 5) (bs' := 30) MV_Cls_listAt lk_Cls_34 dCls_drop_2 (k_Cls_listAt (by assumption) (by omega)) rfl rfl (Nat.le_of_ble_eq_true rfl) rfl (by assumption) (Nat.le_of_ble_eq_true rfl) (Nat.le_of_ble_eq_true rfl) (by decide) (by decide) (fun E h9 q9 => z_out rfl (by obtain ⟨rfl, q1, rfl⟩ := q9; exact zXc.mk (by assumption) (by first | exact zFrm.rf | assumption) (by unfold sp_drop; (try unfold spPut); (try simp only [Int.toNat_natCast]); (repeat (first | rw [if_pos (by omega)] | rw [if_neg (by omega)] | rw [if_pos (by assumption)] | rw [if_neg (by assumption)])); all_goals (first | rfl | (congr 2; omega) | (congr 1; congr 1; omega))))) ?_
  rintro _ _ ⟨rfl, aA1, aA2, rfl⟩
  obtain ⟨kA, rfl⟩ := Int.eq_ofNat_of_zero_le aA1
  simp only [Int.toNat_natCast]
  have hkA : kA < 4 := by omega
  have hrA := hC.ls hkA
  obtain ⟨fA, eA, -⟩ := id hrA
  have hlA := hrA.len
  refine z_astore dCls_drop_5 (Nat.le_of_ble_eq_true rfl) ?_
  refine z_aload dCls_drop_7 rfl ?_
  refine z_iload_n dCls_drop_9 rfl ?_
  refine z_iload_n dCls_drop_10 rfl ?_
  refine z_callVN MV_Row_placeOf lk_Cls_84 dCls_drop_11 (k_Row_placeOf hrA (by omega) (by omega)) rfl rfl (Nat.le_of_ble_eq_true rfl) rfl (by assumption) (Nat.le_of_ble_eq_true rfl) (Nat.le_of_ble_eq_true rfl) (Nat.le_of_eq (Nat.zero_add _)) (Nat.le_of_eq (Nat.zero_add _)) (fun _ _ q => q.elim) ?_
  rintro _ _ ⟨rfl, rfl⟩
  have hz := zFind_in (S.1 kA) x b
  refine z_istore dCls_drop_14 (Nat.le_of_ble_eq_true rfl) ?_
  refine z_aload dCls_drop_16 rfl ?_
  refine z_iload dCls_drop_18 rfl ?_
  refine z_callVN MV_Row_takeOut lk_Cls_88 dCls_drop_20 (k_Row_takeOut hrA (by omega)) rfl rfl (Nat.le_of_ble_eq_true rfl) rfl (by assumption) (Nat.le_of_ble_eq_true rfl) (Nat.le_of_ble_eq_true rfl) (Nat.le_of_eq (Nat.zero_add _)) (Nat.le_of_eq (Nat.zero_add _)) (fun _ _ q => q.elim) ?_
  rintro _ h1 (⟨rfl, m1, m2, hr1, f1⟩ | ⟨rfl, m1, rfl⟩)
  · have hC1 := hC.row hkA hr1 f1
    obtain ⟨-, d1, -⟩ := id hC1
    have fz1 : zFrm ad h h1 := zFrm.of2 (i := 8 + 2 * kA) (j := 9 + 2 * kA) (by omega) (by omega) f1
    obtain ⟨fr1, er1, -⟩ := id hr1
    have hl1 := hr1.len
    refine z_pop rfl dCls_drop_23 ?_
    refine z_aload_n dCls_drop_24 rfl ?_
    refine z_iload_n dCls_drop_25 rfl ?_
    refine z_iconst dCls_drop_26 ?_
    refine z_callV MV_Cls_makeStale lk_Cls_58 dCls_drop_27 (k_Cls_makeStale (by assumption) (by omega) (by omega)) rfl rfl (Nat.le_of_ble_eq_true rfl) rfl (by assumption) (Nat.le_of_ble_eq_true rfl) (Nat.le_of_ble_eq_true rfl) (Nat.le_of_eq (Nat.zero_add _)) (Nat.le_of_eq (Nat.zero_add _)) (fun _ _ q => q.elim) ?_
    rintro _ h2 ⟨rfl, hC2, gz2⟩
    obtain ⟨-, d2, -⟩ := id hC2
    have fz2 : zFrm ad h h2 := by first | exact fz1.tr gz2 | exact gz2
    have hm2 := hC2.ls hkA
    simp only [zsS_l, zsS_0, zsL_l] at hm2
    obtain ⟨fm2, em2, -⟩ := id hm2
    refine z_iload dCls_drop_30 rfl ?_
    refine z_iconst dCls_drop_32 ?_
    refine z_icmp_eq (tgt := 40) dCls_drop_33 (by decide) (by omega) (by omega) (fun c33 => ?_) (fun c33 => ?_)
    · refine z_iconst dCls_drop_40 ?_
      refine z_iret rfl rfl dCls_drop_41 ?_
      first
        | (exfalso; omega)
        | exact zQc.mk (by assumption) (by first | exact zFrm.rf | assumption) (by unfold sp_drop; (try unfold spPut); (try simp only [Int.toNat_natCast]); (repeat (first | rw [if_pos (by omega)] | rw [if_neg (by omega)] | rw [if_pos (by assumption)] | rw [if_neg (by assumption)])); all_goals (first | rfl | (congr 2; omega) | (congr 1; congr 1; omega)))
    · refine z_iconst dCls_drop_36 ?_
      refine z_goto (tgt := 41) dCls_drop_37 (by decide) ?_
      refine z_iret rfl rfl dCls_drop_41 ?_
      first
        | (exfalso; omega)
        | exact zQc.mk (by assumption) (by first | exact zFrm.rf | assumption) (by unfold sp_drop; (try unfold spPut); (try simp only [Int.toNat_natCast]); (repeat (first | rw [if_pos (by omega)] | rw [if_neg (by omega)] | rw [if_pos (by assumption)] | rw [if_neg (by assumption)])); all_goals (first | rfl | (congr 2; omega) | (congr 1; congr 1; omega)))
  · refine z_pop rfl dCls_drop_23 ?_
    refine z_aload_n dCls_drop_24 rfl ?_
    refine z_iload_n dCls_drop_25 rfl ?_
    refine z_iconst dCls_drop_26 ?_
    refine z_callV MV_Cls_makeStale lk_Cls_58 dCls_drop_27 (k_Cls_makeStale (by assumption) (by omega) (by omega)) rfl rfl (Nat.le_of_ble_eq_true rfl) rfl (by assumption) (Nat.le_of_ble_eq_true rfl) (Nat.le_of_ble_eq_true rfl) (Nat.le_of_eq (Nat.zero_add _)) (Nat.le_of_eq (Nat.zero_add _)) (fun _ _ q => q.elim) ?_
    rintro _ h2 ⟨rfl, hC2, gz2⟩
    obtain ⟨-, d2, -⟩ := id hC2
    have fz2 : zFrm ad h h2 := by first | exact fz1.tr gz2 | exact gz2
    have hm2 := hC2.ls hkA
    simp only [zsS_l, zsS_0, zsL_l] at hm2
    obtain ⟨fm2, em2, -⟩ := id hm2
    refine z_iload dCls_drop_30 rfl ?_
    refine z_iconst dCls_drop_32 ?_
    refine z_icmp_eq (tgt := 40) dCls_drop_33 (by decide) (by omega) (by omega) (fun c33 => ?_) (fun c33 => ?_)
    · refine z_iconst dCls_drop_40 ?_
      refine z_iret rfl rfl dCls_drop_41 ?_
      first
        | (exfalso; omega)
        | exact zQc.mk (by assumption) (by first | exact zFrm.rf | assumption) (by unfold sp_drop; (try unfold spPut); (try simp only [Int.toNat_natCast]); (repeat (first | rw [if_pos (by omega)] | rw [if_neg (by omega)] | rw [if_pos (by assumption)] | rw [if_neg (by assumption)])); all_goals (first | rfl | (congr 2; omega) | (congr 1; congr 1; omega)))
    · refine z_iconst dCls_drop_36 ?_
      refine z_goto (tgt := 41) dCls_drop_37 (by decide) ?_
      refine z_iret rfl rfl dCls_drop_41 ?_
      first
        | (exfalso; omega)
        | exact zQc.mk (by assumption) (by first | exact zFrm.rf | assumption) (by unfold sp_drop; (try unfold spPut); (try simp only [Int.toNat_natCast]); (repeat (first | rw [if_pos (by omega)] | rw [if_neg (by omega)] | rw [if_pos (by assumption)] | rw [if_neg (by assumption)])); all_goals (first | rfl | (congr 2; omega) | (congr 1; congr 1; omega)))
theorem k_Cls_thin {p x : Int}  (hC : zCls G h ad S) (z_p : zI32 p) (z_x : zI32 x) : zM G l hCls_thin yCls_thin 9 [.ref (ad 0), zi p, zi x] h (zQc G ad h (sp_thin S p x)) (zXc G ad h (sp_thin S p x)) 6 36 := by
  obtain ⟨c1, c2, ⟨g3, c3, d3⟩, ⟨g4, c4, d4⟩, c5, ⟨T6, c6, d6⟩, c7, c8, ⟨R9, c9⟩, c10⟩ := id hC
  obtain ⟨f16, e16, -⟩ := id c9
  refine zM.of [some (.ref (ad 0)), some (zi p), some (zi x), none] (by decide +kernel) rfl (by decide) rfl (Nat.le_of_ble_eq_true rfl) rfl ?_
  refine z_aload_n dCls_thin_0 rfl ?_
  refine z_iload_n dCls_thin_1 rfl ?_
  refine z_callV (bc' := 5) (bs' := 30) MV_Cls_listAt lk_Cls_34 dCls_thin_2 (k_Cls_listAt (by assumption) (by omega)) rfl rfl (Nat.le_of_ble_eq_true rfl) rfl (by assumption) (Nat.le_of_ble_eq_true rfl) (Nat.le_of_ble_eq_true rfl) (by decide) (by decide) (fun E h9 q9 => z_out rfl (by obtain ⟨rfl, q1, rfl⟩ := q9; exact zXc.mk (by assumption) (by first | exact zFrm.rf | assumption) (by unfold sp_thin; (try unfold spPut); (try simp only [Int.toNat_natCast]); (repeat (first | rw [if_pos (by omega)] | rw [if_neg (by omega)] | rw [if_pos (by assumption)] | rw [if_neg (by assumption)])); all_goals (first | rfl | (congr 2; omega) | (congr 1; congr 1; omega))))) ?_
  rintro _ _ ⟨rfl, aA1, aA2, rfl⟩
  obtain ⟨kA, rfl⟩ := Int.eq_ofNat_of_zero_le aA1
  simp only [Int.toNat_natCast]
  have hkA : kA < 4 := by omega
  have hrA := hC.ls hkA
  obtain ⟨fA, eA, -⟩ := id hrA
  have hlA := hrA.len
  refine z_iload_n dCls_thin_5 rfl ?_
  refine z_callVN MV_Row_takeOutAll lk_Cls_91 dCls_thin_6 (k_Row_takeOutAll hrA (by omega)) rfl rfl (Nat.le_of_ble_eq_true rfl) rfl (by assumption) (Nat.le_of_ble_eq_true rfl) (Nat.le_of_ble_eq_true rfl) (Nat.le_of_eq (Nat.zero_add _)) (Nat.le_of_eq (Nat.zero_add _)) (fun _ _ q => q.elim) ?_
  rintro _ h1 ⟨rfl, hr1, f1⟩
  have hC1 := hC.row hkA hr1 f1
  obtain ⟨-, d1, -⟩ := id hC1
  have fz1 : zFrm ad h h1 := zFrm.of2 (i := 8 + 2 * kA) (j := 9 + 2 * kA) (by omega) (by omega) f1
  obtain ⟨fr1, er1, -⟩ := id hr1
  have hl1 := hr1.len
  refine z_istore_n dCls_thin_9 (Nat.le_of_ble_eq_true rfl) ?_
  refine z_aload_n dCls_thin_10 rfl ?_
  refine z_iload_n dCls_thin_11 rfl ?_
  refine z_iconst dCls_thin_12 ?_
  refine z_callV MV_Cls_makeStale lk_Cls_58 dCls_thin_13 (k_Cls_makeStale (by assumption) (by omega) (by omega)) rfl rfl (Nat.le_of_ble_eq_true rfl) rfl (by assumption) (Nat.le_of_ble_eq_true rfl) (Nat.le_of_ble_eq_true rfl) (Nat.le_of_eq (Nat.zero_add _)) (Nat.le_of_eq (Nat.zero_add _)) (fun _ _ q => q.elim) ?_
  rintro _ h2 ⟨rfl, hC2, gz2⟩
  obtain ⟨-, d2, -⟩ := id hC2
  have fz2 : zFrm ad h h2 := by first | exact fz1.tr gz2 | exact gz2
  have hm2 := hC2.ls hkA
  simp only [zsS_l, zsS_0, zsL_l] at hm2
  obtain ⟨fm2, em2, -⟩ := id hm2
  refine z_iload_n dCls_thin_16 rfl ?_
  refine z_iret rfl rfl dCls_thin_17 ?_
  first
    | (exfalso; omega)
    | exact zQc.mk (by assumption) (by first | exact zFrm.rf | assumption) (by unfold sp_thin; (try unfold spPut); (try simp only [Int.toNat_natCast]); (repeat (first | rw [if_pos (by omega)] | rw [if_neg (by omega)] | rw [if_pos (by assumption)] | rw [if_neg (by assumption)])); all_goals (first | rfl | (congr 2; omega) | (congr 1; congr 1; omega)))
theorem k_Cls_indexOf {p x b : Int} (hb : b = 0 ∨ b = 1) (hC : zCls G h ad S) (z_p : zI32 p) (z_x : zI32 x) (z_b : zI32 b) : zM G l hCls_indexOf yCls_indexOf 9 [.ref (ad 0), zi p, zi x, zi b] h (zQc G ad h (sp_indexOf S p x b)) (zXc G ad h (sp_indexOf S p x b)) 6 36 := by
  obtain ⟨c1, c2, ⟨g3, c3, d3⟩, ⟨g4, c4, d4⟩, c5, ⟨T6, c6, d6⟩, c7, c8, ⟨R9, c9⟩, c10⟩ := id hC
  obtain ⟨f16, e16, -⟩ := id c9
  refine zM.of [some (.ref (ad 0)), some (zi p), some (zi x), some (zi b)] (by decide +kernel) rfl (by decide) rfl (Nat.le_of_ble_eq_true rfl) rfl ?_
  refine z_aload_n dCls_indexOf_0 rfl ?_
  refine z_iload_n dCls_indexOf_1 rfl ?_
  refine z_callV (bc' := 5) (bs' := 30) MV_Cls_listAt lk_Cls_34 dCls_indexOf_2 (k_Cls_listAt (by assumption) (by omega)) rfl rfl (Nat.le_of_ble_eq_true rfl) rfl (by assumption) (Nat.le_of_ble_eq_true rfl) (Nat.le_of_ble_eq_true rfl) (by decide) (by decide) (fun E h9 q9 => z_out rfl (by obtain ⟨rfl, q1, rfl⟩ := q9; exact zXc.mk (by assumption) (by first | exact zFrm.rf | assumption) (by unfold sp_indexOf; (try unfold spPut); (try simp only [Int.toNat_natCast]); (repeat (first | rw [if_pos (by omega)] | rw [if_neg (by omega)] | rw [if_pos (by assumption)] | rw [if_neg (by assumption)])); all_goals (first | rfl | (congr 2; omega) | (congr 1; congr 1; omega))))) ?_
  rintro _ _ ⟨rfl, aA1, aA2, rfl⟩
  obtain ⟨kA, rfl⟩ := Int.eq_ofNat_of_zero_le aA1
  simp only [Int.toNat_natCast]
  have hkA : kA < 4 := by omega
  have hrA := hC.ls hkA
  obtain ⟨fA, eA, -⟩ := id hrA
  have hlA := hrA.len
  refine z_iload_n dCls_indexOf_5 rfl ?_
  refine z_iload_n dCls_indexOf_6 rfl ?_
  refine z_callVN MV_Row_placeOf lk_Cls_84 dCls_indexOf_7 (k_Row_placeOf hrA (by omega) (by omega)) rfl rfl (Nat.le_of_ble_eq_true rfl) rfl (by assumption) (Nat.le_of_ble_eq_true rfl) (Nat.le_of_ble_eq_true rfl) (Nat.le_of_eq (Nat.zero_add _)) (Nat.le_of_eq (Nat.zero_add _)) (fun _ _ q => q.elim) ?_
  rintro _ _ ⟨rfl, rfl⟩
  have hz := zFind_in (S.1 kA) x b
  refine z_iret rfl rfl dCls_indexOf_10 ?_
  first
    | (exfalso; omega)
    | exact zQc.mk (by assumption) (by first | exact zFrm.rf | assumption) (by unfold sp_indexOf; (try unfold spPut); (try simp only [Int.toNat_natCast]); (repeat (first | rw [if_pos (by omega)] | rw [if_neg (by omega)] | rw [if_pos (by assumption)] | rw [if_neg (by assumption)])); all_goals (first | rfl | (congr 2; omega) | (congr 1; congr 1; omega)))
theorem k_Cls_has {p x : Int}  (hC : zCls G h ad S) (z_p : zI32 p) (z_x : zI32 x) : zM G l hCls_has yCls_has 9 [.ref (ad 0), zi p, zi x] h (zQc G ad h (sp_has S p x)) (zXc G ad h (sp_has S p x)) 6 36 := by
  obtain ⟨c1, c2, ⟨g3, c3, d3⟩, ⟨g4, c4, d4⟩, c5, ⟨T6, c6, d6⟩, c7, c8, ⟨R9, c9⟩, c10⟩ := id hC
  obtain ⟨f16, e16, -⟩ := id c9
  refine zM.of [some (.ref (ad 0)), some (zi p), some (zi x)] (by decide +kernel) rfl (by decide) rfl (Nat.le_of_ble_eq_true rfl) rfl ?_
  refine z_aload_n dCls_has_0 rfl ?_
  refine z_iload_n dCls_has_1 rfl ?_
  refine z_callV (bc' := 5) (bs' := 30) MV_Cls_listAt lk_Cls_34 dCls_has_2 (k_Cls_listAt (by assumption) (by omega)) rfl rfl (Nat.le_of_ble_eq_true rfl) rfl (by assumption) (Nat.le_of_ble_eq_true rfl) (Nat.le_of_ble_eq_true rfl) (by decide) (by decide) (fun E h9 q9 => z_out rfl (by obtain ⟨rfl, q1, rfl⟩ := q9; exact zXc.mk (by assumption) (by first | exact zFrm.rf | assumption) (by unfold sp_has; (try unfold spPut); (try simp only [Int.toNat_natCast]); (repeat (first | rw [if_pos (by omega)] | rw [if_neg (by omega)] | rw [if_pos (by assumption)] | rw [if_neg (by assumption)])); all_goals (first | rfl | (congr 2; omega) | (congr 1; congr 1; omega))))) ?_
  rintro _ _ ⟨rfl, aA1, aA2, rfl⟩
  obtain ⟨kA, rfl⟩ := Int.eq_ofNat_of_zero_le aA1
  simp only [Int.toNat_natCast]
  have hkA : kA < 4 := by omega
  have hrA := hC.ls hkA
  obtain ⟨fA, eA, -⟩ := id hrA
  have hlA := hrA.len
  refine z_iload_n dCls_has_5 rfl ?_
  refine z_iconst dCls_has_6 ?_
  refine z_callVN MV_Row_placeOf lk_Cls_84 dCls_has_7 (k_Row_placeOf hrA (by omega) (by omega)) rfl rfl (Nat.le_of_ble_eq_true rfl) rfl (by assumption) (Nat.le_of_ble_eq_true rfl) (Nat.le_of_ble_eq_true rfl) (Nat.le_of_eq (Nat.zero_add _)) (Nat.le_of_eq (Nat.zero_add _)) (fun _ _ q => q.elim) ?_
  rintro _ _ ⟨rfl, rfl⟩
  have hz := zFind_in (S.1 kA) x 0
  refine z_iconst dCls_has_10 ?_
  refine z_icmp_eq (tgt := 18) dCls_has_11 (by decide) (by omega) (by omega) (fun c11 => ?_) (fun c11 => ?_)
  · refine z_iconst dCls_has_18 ?_
    refine z_iret rfl rfl dCls_has_19 ?_
    first
      | (exfalso; omega)
      | exact zQc.mk (by assumption) (by first | exact zFrm.rf | assumption) (by unfold sp_has; (try unfold spPut); (try simp only [Int.toNat_natCast]); (repeat (first | rw [if_pos (by omega)] | rw [if_neg (by omega)] | rw [if_pos (by assumption)] | rw [if_neg (by assumption)])); all_goals (first | rfl | (congr 2; omega) | (congr 1; congr 1; omega)))
  · refine z_iconst dCls_has_14 ?_
    refine z_goto (tgt := 19) dCls_has_15 (by decide) ?_
    refine z_iret rfl rfl dCls_has_19 ?_
    first
      | (exfalso; omega)
      | exact zQc.mk (by assumption) (by first | exact zFrm.rf | assumption) (by unfold sp_has; (try unfold spPut); (try simp only [Int.toNat_natCast]); (repeat (first | rw [if_pos (by omega)] | rw [if_neg (by omega)] | rw [if_pos (by assumption)] | rw [if_neg (by assumption)])); all_goals (first | rfl | (congr 2; omega) | (congr 1; congr 1; omega)))
theorem k_Cls_size {p : Int}  (hC : zCls G h ad S) (z_p : zI32 p) : zM G l hCls_size yCls_size 9 [.ref (ad 0), zi p] h (zQc G ad h (sp_size S p)) (zXc G ad h (sp_size S p)) 6 36 := by
  obtain ⟨c1, c2, ⟨g3, c3, d3⟩, ⟨g4, c4, d4⟩, c5, ⟨T6, c6, d6⟩, c7, c8, ⟨R9, c9⟩, c10⟩ := id hC
  obtain ⟨f16, e16, -⟩ := id c9
  refine zM.of [some (.ref (ad 0)), some (zi p)] (by decide +kernel) rfl (by decide) rfl (Nat.le_of_ble_eq_true rfl) rfl ?_
  refine z_aload_n dCls_size_0 rfl ?_
  refine z_iload_n dCls_size_1 rfl ?_
  refine z_callV (bc' := 5) (bs' := 30) MV_Cls_listAt lk_Cls_34 dCls_size_2 (k_Cls_listAt (by assumption) (by omega)) rfl rfl (Nat.le_of_ble_eq_true rfl) rfl (by assumption) (Nat.le_of_ble_eq_true rfl) (Nat.le_of_ble_eq_true rfl) (by decide) (by decide) (fun E h9 q9 => z_out rfl (by obtain ⟨rfl, q1, rfl⟩ := q9; exact zXc.mk (by assumption) (by first | exact zFrm.rf | assumption) (by unfold sp_size; (try unfold spPut); (try simp only [Int.toNat_natCast]); (repeat (first | rw [if_pos (by omega)] | rw [if_neg (by omega)] | rw [if_pos (by assumption)] | rw [if_neg (by assumption)])); all_goals (first | rfl | (congr 2; omega) | (congr 1; congr 1; omega))))) ?_
  rintro _ _ ⟨rfl, aA1, aA2, rfl⟩
  obtain ⟨kA, rfl⟩ := Int.eq_ofNat_of_zero_le aA1
  simp only [Int.toNat_natCast]
  have hkA : kA < 4 := by omega
  have hrA := hC.ls hkA
  obtain ⟨fA, eA, -⟩ := id hrA
  have hlA := hrA.len
  refine z_getN (k := 1) fd_Row (by decide) fl_Cls_46 dCls_size_5 (by assumption) (by rfl) ?_
  refine z_iret rfl rfl dCls_size_8 ?_
  first
    | (exfalso; omega)
    | exact zQc.mk (by assumption) (by first | exact zFrm.rf | assumption) (by unfold sp_size; (try unfold spPut); (try simp only [Int.toNat_natCast]); (repeat (first | rw [if_pos (by omega)] | rw [if_neg (by omega)] | rw [if_pos (by assumption)] | rw [if_neg (by assumption)])); all_goals (first | rfl | (congr 2; omega) | (congr 1; congr 1; omega)))
theorem k_Cls_clear {p : Int}  (hC : zCls G h ad S) (z_p : zI32 p) : zM G l hCls_clear yCls_clear 9 [.ref (ad 0), zi p] h (zQc G ad h (sp_clear S p)) (zXc G ad h (sp_clear S p)) 6 36 := by
  obtain ⟨c1, c2, ⟨g3, c3, d3⟩, ⟨g4, c4, d4⟩, c5, ⟨T6, c6, d6⟩, c7, c8, ⟨R9, c9⟩, c10⟩ := id hC
  obtain ⟨f16, e16, -⟩ := id c9
  refine zM.of [some (.ref (ad 0)), some (zi p), none, none] (by decide +kernel) rfl (by decide) rfl (Nat.le_of_ble_eq_true rfl) rfl ?_
  refine z_aload_n dCls_clear_0 rfl ?_
  refine z_iload_n dCls_clear_1 rfl ?_
  refine z_callV (bc' := 5) (bs' := 30) MV_Cls_listAt lk_Cls_34 dCls_clear_2 (k_Cls_listAt (by assumption) (by omega)) rfl rfl (Nat.le_of_ble_eq_true rfl) rfl (by assumption) (Nat.le_of_ble_eq_true rfl) (Nat.le_of_ble_eq_true rfl) (by decide) (by decide) (fun E h9 q9 => z_out rfl (by obtain ⟨rfl, q1, rfl⟩ := q9; exact zXc.mk (by assumption) (by first | exact zFrm.rf | assumption) (by unfold sp_clear; (try unfold spPut); (try simp only [Int.toNat_natCast]); (repeat (first | rw [if_pos (by omega)] | rw [if_neg (by omega)] | rw [if_pos (by assumption)] | rw [if_neg (by assumption)])); all_goals (first | rfl | (congr 2; omega) | (congr 1; congr 1; omega))))) ?_
  rintro _ _ ⟨rfl, aA1, aA2, rfl⟩
  obtain ⟨kA, rfl⟩ := Int.eq_ofNat_of_zero_le aA1
  simp only [Int.toNat_natCast]
  have hkA : kA < 4 := by omega
  have hrA := hC.ls hkA
  obtain ⟨fA, eA, -⟩ := id hrA
  have hlA := hrA.len
  refine z_astore_n dCls_clear_5 (Nat.le_of_ble_eq_true rfl) ?_
  refine z_aload_n dCls_clear_6 rfl ?_
  refine z_getN (k := 1) fd_Row (by decide) fl_Cls_46 dCls_clear_7 (by assumption) (by rfl) ?_
  refine z_istore_n dCls_clear_10 (Nat.le_of_ble_eq_true rfl) ?_
  refine z_aload_n dCls_clear_11 rfl ?_
  refine z_iconst dCls_clear_12 ?_
  refine z_putN (k := 1) fd_Row (by decide) fl_Cls_46 rfl dCls_clear_13 (by assumption) (by simp) rfl rfl ?_
  refine z_hx (fun h1 p1 g1 => ?_)
  have hr1 := hrA.cut (n := 0) (by omega) p1 g1
  have f1 : ∀ q, q ≠ ad (8 + 2 * kA) → q ≠ ad (9 + 2 * kA) → h1 q = h q := fun q hq _ => g1 q hq
  have hC1 := hC.row hkA hr1 f1
  obtain ⟨-, d1, -⟩ := id hC1
  have fz1 : zFrm ad h h1 := zFrm.of2 (i := 8 + 2 * kA) (j := 9 + 2 * kA) (by omega) (by omega) f1
  obtain ⟨fr1, er1, -⟩ := id hr1
  have hl1 := hr1.len
  refine z_aload_n dCls_clear_16 rfl ?_
  refine z_iload_n dCls_clear_17 rfl ?_
  refine z_iconst dCls_clear_18 ?_
  refine z_callV MV_Cls_makeStale lk_Cls_58 dCls_clear_19 (k_Cls_makeStale (by assumption) (by omega) (by omega)) rfl rfl (Nat.le_of_ble_eq_true rfl) rfl (by assumption) (Nat.le_of_ble_eq_true rfl) (Nat.le_of_ble_eq_true rfl) (Nat.le_of_eq (Nat.zero_add _)) (Nat.le_of_eq (Nat.zero_add _)) (fun _ _ q => q.elim) ?_
  rintro _ h2 ⟨rfl, hC2, gz2⟩
  obtain ⟨-, d2, -⟩ := id hC2
  have fz2 : zFrm ad h h2 := by first | exact fz1.tr gz2 | exact gz2
  have hm2 := hC2.ls hkA
  simp only [zsS_l, zsS_0, zsL_l] at hm2
  obtain ⟨fm2, em2, -⟩ := id hm2
  refine z_iload_n dCls_clear_22 rfl ?_
  refine z_iret rfl rfl dCls_clear_23 ?_
  first
    | (exfalso; omega)
    | exact zQc.mk (by assumption) (by first | exact zFrm.rf | assumption) (by unfold sp_clear; (try unfold spPut); (try simp only [Int.toNat_natCast]); (repeat (first | rw [if_pos (by omega)] | rw [if_neg (by omega)] | rw [if_pos (by assumption)] | rw [if_neg (by assumption)])); all_goals (first | rfl | (congr 2; omega) | (congr 1; congr 1; omega)))
theorem k_Cls_append {p f : Int}  (hC : zCls G h ad S) (z_p : zI32 p) (z_f : zI32 f) : zM G l hCls_append yCls_append 9 [.ref (ad 0), zi p, zi f] h (zQc G ad h (sp_append S p f)) (zXc G ad h (sp_append S p f)) 6 36 := by
  obtain ⟨c1, c2, ⟨g3, c3, d3⟩, ⟨g4, c4, d4⟩, c5, ⟨T6, c6, d6⟩, c7, c8, ⟨R9, c9⟩, c10⟩ := id hC
  obtain ⟨f16, e16, -⟩ := id c9
  refine zM.of [some (.ref (ad 0)), some (zi p), some (zi f), none, none] (by decide +kernel) rfl (by decide) rfl (Nat.le_of_ble_eq_true rfl) rfl ?_
  refine z_aload_n dCls_append_0 rfl ?_
  refine z_iload_n dCls_append_1 rfl ?_
  refine z_callV (bc' := 5) (bs' := 30) MV_Cls_listAt lk_Cls_34 dCls_append_2 (k_Cls_listAt (by assumption) (by omega)) rfl rfl (Nat.le_of_ble_eq_true rfl) rfl (by assumption) (Nat.le_of_ble_eq_true rfl) (Nat.le_of_ble_eq_true rfl) (by decide) (by decide) (fun E h9 q9 => z_out rfl (by obtain ⟨rfl, q1, rfl⟩ := q9; exact zXc.mk (by assumption) (by first | exact zFrm.rf | assumption) (by unfold sp_append; (try unfold spPut); (try simp only [Int.toNat_natCast]); (repeat (first | rw [if_pos (by omega)] | rw [if_neg (by omega)] | rw [if_pos (by assumption)] | rw [if_neg (by assumption)])); all_goals (first | rfl | (congr 2; omega) | (congr 1; congr 1; omega))))) ?_
  rintro _ _ ⟨rfl, aA1, aA2, rfl⟩
  obtain ⟨kA, rfl⟩ := Int.eq_ofNat_of_zero_le aA1
  simp only [Int.toNat_natCast]
  have hkA : kA < 4 := by omega
  have hrA := hC.ls hkA
  obtain ⟨fA, eA, -⟩ := id hrA
  have hlA := hrA.len
  refine z_astore_n dCls_append_5 (Nat.le_of_ble_eq_true rfl) ?_
  refine z_aload_n dCls_append_6 rfl ?_
  refine z_iload_n dCls_append_7 rfl ?_
  refine z_callV (bc' := 4) (bs' := 24) MV_Cls_listAt lk_Cls_34 dCls_append_8 (k_Cls_listAt (by assumption) (by omega)) rfl rfl (Nat.le_of_ble_eq_true rfl) rfl (by assumption) (Nat.le_of_ble_eq_true rfl) (Nat.le_of_ble_eq_true rfl) (by decide) (by decide) (fun E h9 q9 => z_out rfl (by obtain ⟨rfl, q1, rfl⟩ := q9; exact zXc.mk (by assumption) (by first | exact zFrm.rf | assumption) (by unfold sp_append; (try unfold spPut); (try simp only [Int.toNat_natCast]); (repeat (first | rw [if_pos (by omega)] | rw [if_neg (by omega)] | rw [if_pos (by assumption)] | rw [if_neg (by assumption)])); all_goals (first | rfl | (congr 2; omega) | (congr 1; congr 1; omega))))) ?_
  rintro _ _ ⟨rfl, aB1, aB2, rfl⟩
  obtain ⟨kB, rfl⟩ := Int.eq_ofNat_of_zero_le aB1
  simp only [Int.toNat_natCast]
  have hkB : kB < 4 := by omega
  have hrB := hC.ls hkB
  obtain ⟨fB, eB, -⟩ := id hrB
  have hlB := hrB.len
  refine z_astore dCls_append_11 (Nat.le_of_ble_eq_true rfl) ?_
  refine z_aload_n dCls_append_13 rfl ?_
  refine z_iload_n dCls_append_14 rfl ?_
  refine z_aload_n dCls_append_15 rfl ?_
  refine z_get (k := 3) fd_Cls (by decide) fl_Cls_29 dCls_append_16 (by assumption) (by rfl) ?_
  refine z_aload_n dCls_append_19 rfl ?_
  refine z_aload_n dCls_append_20 rfl ?_
  refine z_getN (k := 1) fd_Row (by decide) fl_Cls_46 dCls_append_21 (by assumption) (by rfl) ?_
  refine z_aload dCls_append_24 rfl ?_
  refine z_callVN MV_Row_becomeJoined lk_Cls_98 dCls_append_26 (k_Row_becomeJoined c9 hrA hrB (hC.inj (by omega) (by omega) (by omega)) (hC.inj (by omega) (by omega) (by omega)) (hC.inj (by omega) (by omega) (by omega)) (hC.inj (by omega) (by omega) (by omega)) (by omega)) rfl rfl (Nat.le_of_ble_eq_true rfl) rfl (by assumption) (Nat.le_of_ble_eq_true rfl) (Nat.le_of_ble_eq_true rfl) (Nat.le_of_eq (Nat.zero_add _)) (Nat.le_of_eq (Nat.zero_add _)) (fun _ _ q => q.elim) ?_
  rintro _ h1 (⟨rfl, m1, hR1, f1⟩ | ⟨rfl, m1, rfl⟩)
  · have hC1 := hC.res hR1 f1
    obtain ⟨-, d1, -⟩ := id hC1
    have fz1 : zFrm ad h h1 := zFrm.of2 (i := 16) (j := 17) (by omega) (by omega) f1
    obtain ⟨fr1, er1, -⟩ := id hR1
    refine z_callV (bc' := 3) (bs' := 18) MV_Cls_becomeResult lk_Cls_102 dCls_append_29 (k_Cls_becomeResult (by assumption) (by omega) (by assumption) (by omega)) rfl rfl (Nat.le_of_ble_eq_true rfl) rfl (by assumption) (Nat.le_of_ble_eq_true rfl) (Nat.le_of_ble_eq_true rfl) (by decide) (by decide) (fun _ _ q => q.elim) ?_
    rintro _ h9 ⟨(⟨b0, rfl, hC9⟩ | ⟨b0, rfl, hC9⟩), gz9⟩
    all_goals have fz9 : zFrm ad h h9 := by first | exact fz1.tr gz9 | exact gz9
    · refine z_iret rfl rfl dCls_append_32 ?_
      first
        | (exfalso; omega)
        | exact zQc.mk (by assumption) (by first | exact zFrm.rf | assumption) (by unfold sp_append; (try unfold spPut); (try simp only [Int.toNat_natCast]); (repeat (first | rw [if_pos (by omega)] | rw [if_neg (by omega)] | rw [if_pos (by assumption)] | rw [if_neg (by assumption)])); all_goals (first | rfl | (congr 2; omega) | (congr 1; congr 1; omega)))
    · refine z_iret rfl rfl dCls_append_32 ?_
      first
        | (exfalso; omega)
        | exact zQc.mk (by assumption) (by first | exact zFrm.rf | assumption) (by unfold sp_append; (try unfold spPut); (try simp only [Int.toNat_natCast]); (repeat (first | rw [if_pos (by omega)] | rw [if_neg (by omega)] | rw [if_pos (by assumption)] | rw [if_neg (by assumption)])); all_goals (first | rfl | (congr 2; omega) | (congr 1; congr 1; omega)))
  · refine z_callV (bc' := 3) (bs' := 18) MV_Cls_becomeResult lk_Cls_102 dCls_append_29 (k_Cls_becomeResult (by assumption) (by omega) (by assumption) (by omega)) rfl rfl (Nat.le_of_ble_eq_true rfl) rfl (by assumption) (Nat.le_of_ble_eq_true rfl) (Nat.le_of_ble_eq_true rfl) (by decide) (by decide) (fun _ _ q => q.elim) ?_
    rintro _ h9 ⟨(⟨b0, rfl, hC9⟩ | ⟨b0, rfl, hC9⟩), gz9⟩
    all_goals have fz9 : zFrm ad h h9 := by first | exact fz1.tr gz9 | exact gz9
    · refine z_iret rfl rfl dCls_append_32 ?_
      first
        | (exfalso; omega)
        | exact zQc.mk (by assumption) (by first | exact zFrm.rf | assumption) (by unfold sp_append; (try unfold spPut); (try simp only [Int.toNat_natCast]); (repeat (first | rw [if_pos (by omega)] | rw [if_neg (by omega)] | rw [if_pos (by assumption)] | rw [if_neg (by assumption)])); all_goals (first | rfl | (congr 2; omega) | (congr 1; congr 1; omega)))
    · refine z_iret rfl rfl dCls_append_32 ?_
      first
        | (exfalso; omega)
        | exact zQc.mk (by assumption) (by first | exact zFrm.rf | assumption) (by unfold sp_append; (try unfold spPut); (try simp only [Int.toNat_natCast]); (repeat (first | rw [if_pos (by omega)] | rw [if_neg (by omega)] | rw [if_pos (by assumption)] | rw [if_neg (by assumption)])); all_goals (first | rfl | (congr 2; omega) | (congr 1; congr 1; omega)))
theorem k_Cls_appendAt {p q f : Int}  (hC : zCls G h ad S) (z_p : zI32 p) (z_q : zI32 q) (z_f : zI32 f) : zM G l hCls_appendAt yCls_appendAt 9 [.ref (ad 0), zi p, zi q, zi f] h (zQc G ad h (sp_appendAt S p q f)) (zXc G ad h (sp_appendAt S p q f)) 6 36 := by
  obtain ⟨c1, c2, ⟨g3, c3, d3⟩, ⟨g4, c4, d4⟩, c5, ⟨T6, c6, d6⟩, c7, c8, ⟨R9, c9⟩, c10⟩ := id hC
  obtain ⟨f16, e16, -⟩ := id c9
  refine zM.of [some (.ref (ad 0)), some (zi p), some (zi q), some (zi f), none, none] (by decide +kernel) rfl (by decide) rfl (Nat.le_of_ble_eq_true rfl) rfl ?_
  refine z_aload_n dCls_appendAt_0 rfl ?_
  refine z_iload_n dCls_appendAt_1 rfl ?_
  refine z_callV (bc' := 5) (bs' := 30) MV_Cls_listAt lk_Cls_34 dCls_appendAt_2 (k_Cls_listAt (by assumption) (by omega)) rfl rfl (Nat.le_of_ble_eq_true rfl) rfl (by assumption) (Nat.le_of_ble_eq_true rfl) (Nat.le_of_ble_eq_true rfl) (by decide) (by decide) (fun E h9 q9 => z_out rfl (by obtain ⟨rfl, q1, rfl⟩ := q9; exact zXc.mk (by assumption) (by first | exact zFrm.rf | assumption) (by unfold sp_appendAt; (try unfold spPut); (try simp only [Int.toNat_natCast]); (repeat (first | rw [if_pos (by omega)] | rw [if_neg (by omega)] | rw [if_pos (by assumption)] | rw [if_neg (by assumption)])); all_goals (first | rfl | (congr 2; omega) | (congr 1; congr 1; omega))))) ?_
  rintro _ _ ⟨rfl, aA1, aA2, rfl⟩
  obtain ⟨kA, rfl⟩ := Int.eq_ofNat_of_zero_le aA1
  simp only [Int.toNat_natCast]
  have hkA : kA < 4 := by omega
  have hrA := hC.ls hkA
  obtain ⟨fA, eA, -⟩ := id hrA
  have hlA := hrA.len
  refine z_astore dCls_appendAt_5 (Nat.le_of_ble_eq_true rfl) ?_
  refine z_aload_n dCls_appendAt_7 rfl ?_
  refine z_iload_n dCls_appendAt_8 rfl ?_
  refine z_callV (bc' := 4) (bs' := 24) MV_Cls_listAt lk_Cls_34 dCls_appendAt_9 (k_Cls_listAt (by assumption) (by omega)) rfl rfl (Nat.le_of_ble_eq_true rfl) rfl (by assumption) (Nat.le_of_ble_eq_true rfl) (Nat.le_of_ble_eq_true rfl) (by decide) (by decide) (fun E h9 q9 => z_out rfl (by obtain ⟨rfl, q1, rfl⟩ := q9; exact zXc.mk (by assumption) (by first | exact zFrm.rf | assumption) (by unfold sp_appendAt; (try unfold spPut); (try simp only [Int.toNat_natCast]); (repeat (first | rw [if_pos (by omega)] | rw [if_neg (by omega)] | rw [if_pos (by assumption)] | rw [if_neg (by assumption)])); all_goals (first | rfl | (congr 2; omega) | (congr 1; congr 1; omega))))) ?_
  rintro _ _ ⟨rfl, aB1, aB2, rfl⟩
  obtain ⟨kB, rfl⟩ := Int.eq_ofNat_of_zero_le aB1
  simp only [Int.toNat_natCast]
  have hkB : kB < 4 := by omega
  have hrB := hC.ls hkB
  obtain ⟨fB, eB, -⟩ := id hrB
  have hlB := hrB.len
  refine z_astore dCls_appendAt_12 (Nat.le_of_ble_eq_true rfl) ?_
  refine z_aload dCls_appendAt_14 rfl ?_
  refine z_iload_n dCls_appendAt_16 rfl ?_
  refine z_callS (bc' := 3) (bs' := 18) MS_Cls_demandGap lk_Cls_81 dCls_appendAt_17 (k_Cls_demandGap hrA (by omega)) rfl rfl (Nat.le_of_ble_eq_true rfl)  (Nat.le_of_ble_eq_true rfl) (Nat.le_of_ble_eq_true rfl) (by decide) (by decide) (fun E h9 q9 => z_out rfl (by obtain ⟨rfl, q1, rfl⟩ := q9; exact zXc.mk (by assumption) (by first | exact zFrm.rf | assumption) (by unfold sp_appendAt; (try unfold spPut); (try simp only [Int.toNat_natCast]); (repeat (first | rw [if_pos (by omega)] | rw [if_neg (by omega)] | rw [if_pos (by assumption)] | rw [if_neg (by assumption)])); all_goals (first | rfl | (congr 2; omega) | (congr 1; congr 1; omega))))) ?_
  rintro _ _ ⟨rfl, v1, v2, rfl⟩
  refine z_aload_n dCls_appendAt_20 rfl ?_
  refine z_iload_n dCls_appendAt_21 rfl ?_
  refine z_aload_n dCls_appendAt_22 rfl ?_
  refine z_get (k := 3) fd_Cls (by decide) fl_Cls_29 dCls_appendAt_23 (by assumption) (by rfl) ?_
  refine z_aload dCls_appendAt_26 rfl ?_
  refine z_iload_n dCls_appendAt_28 rfl ?_
  refine z_aload dCls_appendAt_29 rfl ?_
  refine z_callVN MV_Row_becomeJoined lk_Cls_98 dCls_appendAt_31 (k_Row_becomeJoined c9 hrA hrB (hC.inj (by omega) (by omega) (by omega)) (hC.inj (by omega) (by omega) (by omega)) (hC.inj (by omega) (by omega) (by omega)) (hC.inj (by omega) (by omega) (by omega)) (by omega)) rfl rfl (Nat.le_of_ble_eq_true rfl) rfl (by assumption) (Nat.le_of_ble_eq_true rfl) (Nat.le_of_ble_eq_true rfl) (Nat.le_of_eq (Nat.zero_add _)) (Nat.le_of_eq (Nat.zero_add _)) (fun _ _ q => q.elim) ?_
  rintro _ h1 (⟨rfl, m1, hR1, f1⟩ | ⟨rfl, m1, rfl⟩)
  · have hC1 := hC.res hR1 f1
    obtain ⟨-, d1, -⟩ := id hC1
    have fz1 : zFrm ad h h1 := zFrm.of2 (i := 16) (j := 17) (by omega) (by omega) f1
    obtain ⟨fr1, er1, -⟩ := id hR1
    refine z_callV (bc' := 2) (bs' := 12) MV_Cls_becomeResult lk_Cls_102 dCls_appendAt_34 (k_Cls_becomeResult (by assumption) (by omega) (by assumption) (by omega)) rfl rfl (Nat.le_of_ble_eq_true rfl) rfl (by assumption) (Nat.le_of_ble_eq_true rfl) (Nat.le_of_ble_eq_true rfl) (by decide) (by decide) (fun _ _ q => q.elim) ?_
    rintro _ h9 ⟨(⟨b0, rfl, hC9⟩ | ⟨b0, rfl, hC9⟩), gz9⟩
    all_goals have fz9 : zFrm ad h h9 := by first | exact fz1.tr gz9 | exact gz9
    · refine z_iret rfl rfl dCls_appendAt_37 ?_
      first
        | (exfalso; omega)
        | exact zQc.mk (by assumption) (by first | exact zFrm.rf | assumption) (by unfold sp_appendAt; (try unfold spPut); (try simp only [Int.toNat_natCast]); (repeat (first | rw [if_pos (by omega)] | rw [if_neg (by omega)] | rw [if_pos (by assumption)] | rw [if_neg (by assumption)])); all_goals (first | rfl | (congr 2; omega) | (congr 1; congr 1; omega)))
    · refine z_iret rfl rfl dCls_appendAt_37 ?_
      first
        | (exfalso; omega)
        | exact zQc.mk (by assumption) (by first | exact zFrm.rf | assumption) (by unfold sp_appendAt; (try unfold spPut); (try simp only [Int.toNat_natCast]); (repeat (first | rw [if_pos (by omega)] | rw [if_neg (by omega)] | rw [if_pos (by assumption)] | rw [if_neg (by assumption)])); all_goals (first | rfl | (congr 2; omega) | (congr 1; congr 1; omega)))
  · refine z_callV (bc' := 2) (bs' := 12) MV_Cls_becomeResult lk_Cls_102 dCls_appendAt_34 (k_Cls_becomeResult (by assumption) (by omega) (by assumption) (by omega)) rfl rfl (Nat.le_of_ble_eq_true rfl) rfl (by assumption) (Nat.le_of_ble_eq_true rfl) (Nat.le_of_ble_eq_true rfl) (by decide) (by decide) (fun _ _ q => q.elim) ?_
    rintro _ h9 ⟨(⟨b0, rfl, hC9⟩ | ⟨b0, rfl, hC9⟩), gz9⟩
    all_goals have fz9 : zFrm ad h h9 := by first | exact fz1.tr gz9 | exact gz9
    · refine z_iret rfl rfl dCls_appendAt_37 ?_
      first
        | (exfalso; omega)
        | exact zQc.mk (by assumption) (by first | exact zFrm.rf | assumption) (by unfold sp_appendAt; (try unfold spPut); (try simp only [Int.toNat_natCast]); (repeat (first | rw [if_pos (by omega)] | rw [if_neg (by omega)] | rw [if_pos (by assumption)] | rw [if_neg (by assumption)])); all_goals (first | rfl | (congr 2; omega) | (congr 1; congr 1; omega)))
    · refine z_iret rfl rfl dCls_appendAt_37 ?_
      first
        | (exfalso; omega)
        | exact zQc.mk (by assumption) (by first | exact zFrm.rf | assumption) (by unfold sp_appendAt; (try unfold spPut); (try simp only [Int.toNat_natCast]); (repeat (first | rw [if_pos (by omega)] | rw [if_neg (by omega)] | rw [if_pos (by assumption)] | rw [if_neg (by assumption)])); all_goals (first | rfl | (congr 2; omega) | (congr 1; congr 1; omega)))
theorem k_Cls_copy {p i : Int}  (hC : zCls G h ad S) (z_p : zI32 p) (z_i : zI32 i) : zM G l hCls_copy yCls_copy 9 [.ref (ad 0), zi p, zi i] h (zQc G ad h (sp_copy S p i)) (zXc G ad h (sp_copy S p i)) 6 36 := by
  obtain ⟨c1, c2, ⟨g3, c3, d3⟩, ⟨g4, c4, d4⟩, c5, ⟨T6, c6, d6⟩, c7, c8, ⟨R9, c9⟩, c10⟩ := id hC
  obtain ⟨f16, e16, -⟩ := id c9
  refine zM.of [some (.ref (ad 0)), some (zi p), some (zi i), none, none] (by decide +kernel) rfl (by decide) rfl (Nat.le_of_ble_eq_true rfl) rfl ?_
  refine z_aload_n dCls_copy_0 rfl ?_
  refine z_iload_n dCls_copy_1 rfl ?_
  refine z_callV (bc' := 5) (bs' := 30) MV_Cls_listAt lk_Cls_34 dCls_copy_2 (k_Cls_listAt (by assumption) (by omega)) rfl rfl (Nat.le_of_ble_eq_true rfl) rfl (by assumption) (Nat.le_of_ble_eq_true rfl) (Nat.le_of_ble_eq_true rfl) (by decide) (by decide) (fun E h9 q9 => z_out rfl (by obtain ⟨rfl, q1, rfl⟩ := q9; exact zXc.mk (by assumption) (by first | exact zFrm.rf | assumption) (by unfold sp_copy; (try unfold spPut); (try simp only [Int.toNat_natCast]); (repeat (first | rw [if_pos (by omega)] | rw [if_neg (by omega)] | rw [if_pos (by assumption)] | rw [if_neg (by assumption)])); all_goals (first | rfl | (congr 2; omega) | (congr 1; congr 1; omega))))) ?_
  rintro _ _ ⟨rfl, aA1, aA2, rfl⟩
  obtain ⟨kA, rfl⟩ := Int.eq_ofNat_of_zero_le aA1
  simp only [Int.toNat_natCast]
  have hkA : kA < 4 := by omega
  have hrA := hC.ls hkA
  obtain ⟨fA, eA, -⟩ := id hrA
  have hlA := hrA.len
  refine z_astore_n dCls_copy_5 (Nat.le_of_ble_eq_true rfl) ?_
  refine z_aload_n dCls_copy_6 rfl ?_
  refine z_iload_n dCls_copy_7 rfl ?_
  refine z_callV (bc' := 4) (bs' := 24) MV_Cls_listAt lk_Cls_34 dCls_copy_8 (k_Cls_listAt (by assumption) (by omega)) rfl rfl (Nat.le_of_ble_eq_true rfl) rfl (by assumption) (Nat.le_of_ble_eq_true rfl) (Nat.le_of_ble_eq_true rfl) (by decide) (by decide) (fun E h9 q9 => z_out rfl (by obtain ⟨rfl, q1, rfl⟩ := q9; exact zXc.mk (by assumption) (by first | exact zFrm.rf | assumption) (by unfold sp_copy; (try unfold spPut); (try simp only [Int.toNat_natCast]); (repeat (first | rw [if_pos (by omega)] | rw [if_neg (by omega)] | rw [if_pos (by assumption)] | rw [if_neg (by assumption)])); all_goals (first | rfl | (congr 2; omega) | (congr 1; congr 1; omega))))) ?_
  rintro _ _ ⟨rfl, aB1, aB2, rfl⟩
  obtain ⟨kB, rfl⟩ := Int.eq_ofNat_of_zero_le aB1
  simp only [Int.toNat_natCast]
  have hkB : kB < 4 := by omega
  have hrB := hC.ls hkB
  obtain ⟨fB, eB, -⟩ := id hrB
  have hlB := hrB.len
  refine z_astore dCls_copy_11 (Nat.le_of_ble_eq_true rfl) ?_
  refine z_aload dCls_copy_13 rfl ?_
  refine z_aload_n dCls_copy_15 rfl ?_
  by_cases e9 : kA = kB
  · subst e9
    refine z_callVN MV_Row_become lk_Cls_105 dCls_copy_16 (k_Row_becomeS hrB) rfl rfl (Nat.le_of_ble_eq_true rfl) rfl (by assumption) (Nat.le_of_ble_eq_true rfl) (Nat.le_of_ble_eq_true rfl) (Nat.le_of_eq (Nat.zero_add _)) (Nat.le_of_eq (Nat.zero_add _)) (fun _ _ q => q.elim) ?_
    rintro _ h1 ⟨rfl, hr1, f1⟩
    have hC1 := hC.row hkA hr1 f1
    obtain ⟨-, d1, -⟩ := id hC1
    have fz1 : zFrm ad h h1 := zFrm.of2 (i := 8 + 2 * kA) (j := 9 + 2 * kA) (by omega) (by omega) f1
    obtain ⟨fr1, er1, -⟩ := id hr1
    have hl1 := hr1.len
    refine z_aload_n dCls_copy_19 rfl ?_
    refine z_iload_n dCls_copy_20 rfl ?_
    refine z_iconst dCls_copy_21 ?_
    refine z_callV MV_Cls_makeStale lk_Cls_58 dCls_copy_22 (k_Cls_makeStale (by assumption) (by omega) (by omega)) rfl rfl (Nat.le_of_ble_eq_true rfl) rfl (by assumption) (Nat.le_of_ble_eq_true rfl) (Nat.le_of_ble_eq_true rfl) (Nat.le_of_eq (Nat.zero_add _)) (Nat.le_of_eq (Nat.zero_add _)) (fun _ _ q => q.elim) ?_
    rintro _ h2 ⟨rfl, hC2, gz2⟩
    obtain ⟨-, d2, -⟩ := id hC2
    have fz2 : zFrm ad h h2 := by first | exact fz1.tr gz2 | exact gz2
    have hm2 := hC2.ls hkB
    simp only [zsS_l, zsS_0, zsL_l] at hm2
    obtain ⟨fm2, em2, -⟩ := id hm2
    refine z_aload dCls_copy_25 rfl ?_
    refine z_getN (k := 1) fd_Row (by decide) fl_Cls_46 dCls_copy_27 (by assumption) (by rfl) ?_
    refine z_iret rfl rfl dCls_copy_30 ?_
    first
      | (exfalso; omega)
      | exact zQc.mk (by assumption) (by first | exact zFrm.rf | assumption) (by unfold sp_copy; (try unfold spPut); (try simp only [Int.toNat_natCast]); (repeat (first | rw [if_pos (by omega)] | rw [if_neg (by omega)] | rw [if_pos (by assumption)] | rw [if_neg (by assumption)])); all_goals (first | rfl | (congr 2; omega) | (congr 1; congr 1; omega)))
  · refine z_callVN MV_Row_become lk_Cls_105 dCls_copy_16 (k_Row_become hrB hrA (hC.inj (by omega) (by omega) (by omega)) (hC.inj (by omega) (by omega) (by omega))) rfl rfl (Nat.le_of_ble_eq_true rfl) rfl (by assumption) (Nat.le_of_ble_eq_true rfl) (Nat.le_of_ble_eq_true rfl) (Nat.le_of_eq (Nat.zero_add _)) (Nat.le_of_eq (Nat.zero_add _)) (fun _ _ q => q.elim) ?_
    rintro _ h1 ⟨rfl, hr1, f1⟩
    have hC1 := hC.row hkB hr1 f1
    obtain ⟨-, d1, -⟩ := id hC1
    have fz1 : zFrm ad h h1 := zFrm.of2 (i := 8 + 2 * kB) (j := 9 + 2 * kB) (by omega) (by omega) f1
    obtain ⟨fr1, er1, -⟩ := id hr1
    have hl1 := hr1.len
    refine z_aload_n dCls_copy_19 rfl ?_
    refine z_iload_n dCls_copy_20 rfl ?_
    refine z_iconst dCls_copy_21 ?_
    refine z_callV MV_Cls_makeStale lk_Cls_58 dCls_copy_22 (k_Cls_makeStale (by assumption) (by omega) (by omega)) rfl rfl (Nat.le_of_ble_eq_true rfl) rfl (by assumption) (Nat.le_of_ble_eq_true rfl) (Nat.le_of_ble_eq_true rfl) (Nat.le_of_eq (Nat.zero_add _)) (Nat.le_of_eq (Nat.zero_add _)) (fun _ _ q => q.elim) ?_
    rintro _ h2 ⟨rfl, hC2, gz2⟩
    obtain ⟨-, d2, -⟩ := id hC2
    have fz2 : zFrm ad h h2 := by first | exact fz1.tr gz2 | exact gz2
    have hm2 := hC2.ls hkB
    simp only [zsS_l, zsS_0, zsL_l] at hm2
    obtain ⟨fm2, em2, -⟩ := id hm2
    refine z_aload dCls_copy_25 rfl ?_
    refine z_getN (k := 1) fd_Row (by decide) fl_Cls_46 dCls_copy_27 (by assumption) (by rfl) ?_
    refine z_iret rfl rfl dCls_copy_30 ?_
    first
      | (exfalso; omega)
      | exact zQc.mk (by assumption) (by first | exact zFrm.rf | assumption) (by unfold sp_copy; (try unfold spPut); (try simp only [Int.toNat_natCast]); (repeat (first | rw [if_pos (by omega)] | rw [if_neg (by omega)] | rw [if_pos (by assumption)] | rw [if_neg (by assumption)])); all_goals (first | rfl | (congr 2; omega) | (congr 1; congr 1; omega)))
theorem k_Cls_places {p m : Int}  (hC : zCls G h ad S) (z_p : zI32 p) (z_m : zI32 m) : zM G l hCls_places yCls_places 9 [.ref (ad 0), zi p, zi m] h (zQc G ad h (sp_places S p m)) (zXc G ad h (sp_places S p m)) 6 36 := by
  obtain ⟨c1, c2, ⟨g3, c3, d3⟩, ⟨g4, c4, d4⟩, c5, ⟨T6, c6, d6⟩, c7, c8, ⟨R9, c9⟩, c10⟩ := id hC
  obtain ⟨f16, e16, -⟩ := id c9
  refine zM.of [some (.ref (ad 0)), some (zi p), some (zi m), none] (by decide +kernel) rfl (by decide) rfl (Nat.le_of_ble_eq_true rfl) rfl ?_
  refine z_aload_n dCls_places_0 rfl ?_
  refine z_iload_n dCls_places_1 rfl ?_
  refine z_callV (bc' := 5) (bs' := 30) MV_Cls_listAt lk_Cls_34 dCls_places_2 (k_Cls_listAt (by assumption) (by omega)) rfl rfl (Nat.le_of_ble_eq_true rfl) rfl (by assumption) (Nat.le_of_ble_eq_true rfl) (Nat.le_of_ble_eq_true rfl) (by decide) (by decide) (fun E h9 q9 => z_out rfl (by obtain ⟨rfl, q1, rfl⟩ := q9; exact zXc.mk (by assumption) (by first | exact zFrm.rf | assumption) (by unfold sp_places; (try unfold spPut); (try simp only [Int.toNat_natCast]); (repeat (first | rw [if_pos (by omega)] | rw [if_neg (by omega)] | rw [if_pos (by assumption)] | rw [if_neg (by assumption)])); all_goals (first | rfl | (congr 2; omega) | (congr 1; congr 1; omega))))) ?_
  rintro _ _ ⟨rfl, aA1, aA2, rfl⟩
  obtain ⟨kA, rfl⟩ := Int.eq_ofNat_of_zero_le aA1
  simp only [Int.toNat_natCast]
  have hkA : kA < 4 := by omega
  have hrA := hC.ls hkA
  obtain ⟨fA, eA, -⟩ := id hrA
  have hlA := hrA.len
  refine z_astore_n dCls_places_5 (Nat.le_of_ble_eq_true rfl) ?_
  refine z_iload_n dCls_places_6 rfl ?_
  refine z_iconst dCls_places_7 ?_
  refine z_bipush dCls_places_8 rfl ?_
  refine z_callS (bc' := 4) (bs' := 24) MS_Cls_demandWithin lk_Cls_38 dCls_places_10 (k_Cls_demandWithin (by omega) (by omega) (by omega)) rfl rfl (Nat.le_of_ble_eq_true rfl)  (Nat.le_of_ble_eq_true rfl) (Nat.le_of_ble_eq_true rfl) (by decide) (by decide) (fun E h9 q9 => z_out rfl (by obtain ⟨rfl, q1, rfl⟩ := q9; exact zXc.mk (by assumption) (by first | exact zFrm.rf | assumption) (by unfold sp_places; (try unfold spPut); (try simp only [Int.toNat_natCast]); (repeat (first | rw [if_pos (by omega)] | rw [if_neg (by omega)] | rw [if_pos (by assumption)] | rw [if_neg (by assumption)])); all_goals (first | rfl | (congr 2; omega) | (congr 1; congr 1; omega))))) ?_
  rintro _ _ ⟨rfl, w1, w2, rfl⟩
  obtain ⟨N9, rfl⟩ := Int.eq_ofNat_of_zero_le w1
  refine z_aload_n dCls_places_13 rfl ?_
  refine z_iload_n dCls_places_14 rfl ?_
  refine z_callVN MV_Row_becomePlaces lk_Cls_109 dCls_places_15 (k_Row_becomePlaces (N := N9) hrA (by omega)) rfl rfl (Nat.le_of_ble_eq_true rfl) rfl (by assumption) (Nat.le_of_ble_eq_true rfl) (Nat.le_of_ble_eq_true rfl) (Nat.le_of_eq (Nat.zero_add _)) (Nat.le_of_eq (Nat.zero_add _)) (fun _ _ q => q.elim) ?_
  rintro _ h1 ⟨rfl, hr1, f1⟩
  have hC1 := hC.row hkA hr1 f1
  obtain ⟨-, d1, -⟩ := id hC1
  have fz1 : zFrm ad h h1 := zFrm.of2 (i := 8 + 2 * kA) (j := 9 + 2 * kA) (by omega) (by omega) f1
  obtain ⟨fr1, er1, -⟩ := id hr1
  have hl1 := hr1.len
  refine z_aload_n dCls_places_18 rfl ?_
  refine z_iload_n dCls_places_19 rfl ?_
  refine z_iconst dCls_places_20 ?_
  refine z_callV MV_Cls_makeStale lk_Cls_58 dCls_places_21 (k_Cls_makeStale (by assumption) (by omega) (by omega)) rfl rfl (Nat.le_of_ble_eq_true rfl) rfl (by assumption) (Nat.le_of_ble_eq_true rfl) (Nat.le_of_ble_eq_true rfl) (Nat.le_of_eq (Nat.zero_add _)) (Nat.le_of_eq (Nat.zero_add _)) (fun _ _ q => q.elim) ?_
  rintro _ h2 ⟨rfl, hC2, gz2⟩
  obtain ⟨-, d2, -⟩ := id hC2
  have fz2 : zFrm ad h h2 := by first | exact fz1.tr gz2 | exact gz2
  have hm2 := hC2.ls hkA
  simp only [zsS_l, zsS_0, zsL_l] at hm2
  obtain ⟨fm2, em2, -⟩ := id hm2
  refine z_aload_n dCls_places_24 rfl ?_
  refine z_getN (k := 1) fd_Row (by decide) fl_Cls_46 dCls_places_25 (by assumption) (by rfl) ?_
  refine z_iret rfl rfl dCls_places_28 ?_
  first
    | (exfalso; omega)
    | exact zQc.mk (by assumption) (by first | exact zFrm.rf | assumption) (by unfold sp_places; (try unfold spPut); (try simp only [Int.toNat_natCast]); (repeat (first | rw [if_pos (by omega)] | rw [if_neg (by omega)] | rw [if_pos (by assumption)] | rw [if_neg (by assumption)])); all_goals (first | rfl | (congr 2; omega) | (congr 1; congr 1; omega)))
theorem k_Cls_rotate {p b : Int}  (hC : zCls G h ad S) (z_p : zI32 p) (z_b : zI32 b) : zM G l hCls_rotate yCls_rotate 9 [.ref (ad 0), zi p, zi b] h (zQc G ad h (sp_rotate S p b)) (zXc G ad h (sp_rotate S p b)) 6 36 := by
  obtain ⟨c1, c2, ⟨g3, c3, d3⟩, ⟨g4, c4, d4⟩, c5, ⟨T6, c6, d6⟩, c7, c8, ⟨R9, c9⟩, c10⟩ := id hC
  obtain ⟨f16, e16, -⟩ := id c9
  refine zM.of [some (.ref (ad 0)), some (zi p), some (zi b), none] (by decide +kernel) rfl (by decide) rfl (Nat.le_of_ble_eq_true rfl) rfl ?_
  refine z_aload_n dCls_rotate_0 rfl ?_
  refine z_iload_n dCls_rotate_1 rfl ?_
  refine z_callV (bc' := 5) (bs' := 30) MV_Cls_listAt lk_Cls_34 dCls_rotate_2 (k_Cls_listAt (by assumption) (by omega)) rfl rfl (Nat.le_of_ble_eq_true rfl) rfl (by assumption) (Nat.le_of_ble_eq_true rfl) (Nat.le_of_ble_eq_true rfl) (by decide) (by decide) (fun E h9 q9 => z_out rfl (by obtain ⟨rfl, q1, rfl⟩ := q9; exact zXc.mk (by assumption) (by first | exact zFrm.rf | assumption) (by unfold sp_rotate; (try unfold spPut); (try simp only [Int.toNat_natCast]); (repeat (first | rw [if_pos (by omega)] | rw [if_neg (by omega)] | rw [if_pos (by assumption)] | rw [if_neg (by assumption)])); all_goals (first | rfl | (congr 2; omega) | (congr 1; congr 1; omega))))) ?_
  rintro _ _ ⟨rfl, aA1, aA2, rfl⟩
  obtain ⟨kA, rfl⟩ := Int.eq_ofNat_of_zero_le aA1
  simp only [Int.toNat_natCast]
  have hkA : kA < 4 := by omega
  have hrA := hC.ls hkA
  obtain ⟨fA, eA, -⟩ := id hrA
  have hlA := hrA.len
  refine z_astore_n dCls_rotate_5 (Nat.le_of_ble_eq_true rfl) ?_
  refine z_iload_n dCls_rotate_6 rfl ?_
  refine z_bipush dCls_rotate_7 rfl ?_
  refine z_bipush dCls_rotate_9 rfl ?_
  refine z_callS (bc' := 4) (bs' := 24) MS_Cls_demandWithin lk_Cls_38 dCls_rotate_11 (k_Cls_demandWithin (by omega) (by omega) (by omega)) rfl rfl (Nat.le_of_ble_eq_true rfl)  (Nat.le_of_ble_eq_true rfl) (Nat.le_of_ble_eq_true rfl) (by decide) (by decide) (fun E h9 q9 => z_out rfl (by obtain ⟨rfl, q1, rfl⟩ := q9; exact zXc.mk (by assumption) (by first | exact zFrm.rf | assumption) (by unfold sp_rotate; (try unfold spPut); (try simp only [Int.toNat_natCast]); (repeat (first | rw [if_pos (by omega)] | rw [if_neg (by omega)] | rw [if_pos (by assumption)] | rw [if_neg (by assumption)])); all_goals (first | rfl | (congr 2; omega) | (congr 1; congr 1; omega))))) ?_
  rintro _ _ ⟨rfl, w1, w2, rfl⟩
  refine z_aload_n dCls_rotate_14 rfl ?_
  refine z_iload_n dCls_rotate_15 rfl ?_
  refine z_callVN MV_Row_turnBy lk_Cls_112 dCls_rotate_16 (k_Row_turnBy hrA (by omega)) rfl rfl (Nat.le_of_ble_eq_true rfl) rfl (by assumption) (Nat.le_of_ble_eq_true rfl) (Nat.le_of_ble_eq_true rfl) (Nat.le_of_eq (Nat.zero_add _)) (Nat.le_of_eq (Nat.zero_add _)) (fun _ _ q => q.elim) ?_
  rintro _ h1 ⟨rfl, hr1, f1⟩
  have hC1 := hC.row hkA hr1 f1
  obtain ⟨-, d1, -⟩ := id hC1
  have fz1 : zFrm ad h h1 := zFrm.of2 (i := 8 + 2 * kA) (j := 9 + 2 * kA) (by omega) (by omega) f1
  obtain ⟨fr1, er1, -⟩ := id hr1
  have hl1 := hr1.len
  refine z_aload_n dCls_rotate_19 rfl ?_
  refine z_iload_n dCls_rotate_20 rfl ?_
  refine z_iconst dCls_rotate_21 ?_
  refine z_callV MV_Cls_makeStale lk_Cls_58 dCls_rotate_22 (k_Cls_makeStale (by assumption) (by omega) (by omega)) rfl rfl (Nat.le_of_ble_eq_true rfl) rfl (by assumption) (Nat.le_of_ble_eq_true rfl) (Nat.le_of_ble_eq_true rfl) (Nat.le_of_eq (Nat.zero_add _)) (Nat.le_of_eq (Nat.zero_add _)) (fun _ _ q => q.elim) ?_
  rintro _ h2 ⟨rfl, hC2, gz2⟩
  obtain ⟨-, d2, -⟩ := id hC2
  have fz2 : zFrm ad h h2 := by first | exact fz1.tr gz2 | exact gz2
  have hm2 := hC2.ls hkA
  simp only [zsS_l, zsS_0, zsL_l] at hm2
  obtain ⟨fm2, em2, -⟩ := id hm2
  refine z_aload_n dCls_rotate_25 rfl ?_
  refine z_callS MS_Cls_firstOf lk_Cls_115 dCls_rotate_26 (k_Cls_firstOf hm2) rfl rfl (Nat.le_of_ble_eq_true rfl)  (Nat.le_of_ble_eq_true rfl) (Nat.le_of_ble_eq_true rfl) (Nat.le_of_eq (Nat.zero_add _)) (Nat.le_of_eq (Nat.zero_add _)) (fun _ _ q => q.elim) ?_
  rintro _ _ ⟨rfl, rfl⟩
  refine z_iret rfl rfl dCls_rotate_29 ?_
  first
    | (exfalso; omega)
    | exact zQc.mk (by assumption) (by first | exact zFrm.rf | assumption) (by unfold sp_rotate; (try unfold spPut); (try simp only [Int.toNat_natCast]); (repeat (first | rw [if_pos (by omega)] | rw [if_neg (by omega)] | rw [if_pos (by assumption)] | rw [if_neg (by assumption)])); all_goals (first | rfl | (congr 2; omega) | (congr 1; congr 1; omega)))
theorem k_Cls_move {p f t : Int}  (hC : zCls G h ad S) (z_p : zI32 p) (z_f : zI32 f) (z_t : zI32 t) : zM G l hCls_move yCls_move 9 [.ref (ad 0), zi p, zi f, zi t] h (zQc G ad h (sp_move S p f t)) (zXc G ad h (sp_move S p f t)) 6 36 := by
  obtain ⟨c1, c2, ⟨g3, c3, d3⟩, ⟨g4, c4, d4⟩, c5, ⟨T6, c6, d6⟩, c7, c8, ⟨R9, c9⟩, c10⟩ := id hC
  obtain ⟨f16, e16, -⟩ := id c9
  refine zM.of [some (.ref (ad 0)), some (zi p), some (zi f), some (zi t), none, none] (by decide +kernel) rfl (by decide) rfl (Nat.le_of_ble_eq_true rfl) rfl ?_
  refine z_aload_n dCls_move_0 rfl ?_
  refine z_iload_n dCls_move_1 rfl ?_
  refine z_callV (bc' := 5) (bs' := 30) MV_Cls_listAt lk_Cls_34 dCls_move_2 (k_Cls_listAt (by assumption) (by omega)) rfl rfl (Nat.le_of_ble_eq_true rfl) rfl (by assumption) (Nat.le_of_ble_eq_true rfl) (Nat.le_of_ble_eq_true rfl) (by decide) (by decide) (fun E h9 q9 => z_out rfl (by obtain ⟨rfl, q1, rfl⟩ := q9; exact zXc.mk (by assumption) (by first | exact zFrm.rf | assumption) (by unfold sp_move; (try unfold spPut); (try simp only [Int.toNat_natCast]); (repeat (first | rw [if_pos (by omega)] | rw [if_neg (by omega)] | rw [if_pos (by assumption)] | rw [if_neg (by assumption)])); all_goals (first | rfl | (congr 2; omega) | (congr 1; congr 1; omega))))) ?_
  rintro _ _ ⟨rfl, aA1, aA2, rfl⟩
  obtain ⟨kA, rfl⟩ := Int.eq_ofNat_of_zero_le aA1
  simp only [Int.toNat_natCast]
  have hkA : kA < 4 := by omega
  have hrA := hC.ls hkA
  obtain ⟨fA, eA, -⟩ := id hrA
  have hlA := hrA.len
  refine z_astore dCls_move_5 (Nat.le_of_ble_eq_true rfl) ?_
  refine z_aload dCls_move_7 rfl ?_
  refine z_iload_n dCls_move_9 rfl ?_
  refine z_callS (bc' := 4) (bs' := 24) MS_Cls_demandPlace lk_Cls_74 dCls_move_10 (k_Cls_demandPlace hrA (by omega)) rfl rfl (Nat.le_of_ble_eq_true rfl)  (Nat.le_of_ble_eq_true rfl) (Nat.le_of_ble_eq_true rfl) (by decide) (by decide) (fun E h9 q9 => z_out rfl (by obtain ⟨rfl, q1, rfl⟩ := q9; exact zXc.mk (by assumption) (by first | exact zFrm.rf | assumption) (by unfold sp_move; (try unfold spPut); (try simp only [Int.toNat_natCast]); (repeat (first | rw [if_pos (by omega)] | rw [if_neg (by omega)] | rw [if_pos (by assumption)] | rw [if_neg (by assumption)])); all_goals (first | rfl | (congr 2; omega) | (congr 1; congr 1; omega))))) ?_
  rintro _ _ ⟨rfl, v1, v2, rfl⟩
  refine z_aload dCls_move_13 rfl ?_
  refine z_iload_n dCls_move_15 rfl ?_
  refine z_callS (bc' := 3) (bs' := 18) MS_Cls_demandPlace lk_Cls_74 dCls_move_16 (k_Cls_demandPlace hrA (by omega)) rfl rfl (Nat.le_of_ble_eq_true rfl)  (Nat.le_of_ble_eq_true rfl) (Nat.le_of_ble_eq_true rfl) (by decide) (by decide) (fun E h9 q9 => z_out rfl (by obtain ⟨rfl, q1, rfl⟩ := q9; exact zXc.mk (by assumption) (by first | exact zFrm.rf | assumption) (by unfold sp_move; (try unfold spPut); (try simp only [Int.toNat_natCast]); (repeat (first | rw [if_pos (by omega)] | rw [if_neg (by omega)] | rw [if_pos (by assumption)] | rw [if_neg (by assumption)])); all_goals (first | rfl | (congr 2; omega) | (congr 1; congr 1; omega))))) ?_
  rintro _ _ ⟨rfl, v1b, v2b, rfl⟩
  refine z_aload dCls_move_19 rfl ?_
  refine z_iload_n dCls_move_21 rfl ?_
  refine z_callVN MV_Row_takeOut lk_Cls_88 dCls_move_22 (k_Row_takeOut hrA (by omega)) rfl rfl (Nat.le_of_ble_eq_true rfl) rfl (by assumption) (Nat.le_of_ble_eq_true rfl) (Nat.le_of_ble_eq_true rfl) (Nat.le_of_eq (Nat.zero_add _)) (Nat.le_of_eq (Nat.zero_add _)) (fun _ _ q => q.elim) ?_
  rintro _ h1 (⟨rfl, m1, m2, hr1, f1⟩ | ⟨rfl, m1, rfl⟩)
  rotate_left
  · exact absurd ⟨v1, v2⟩ m1
  obtain ⟨fr1, er1, -⟩ := id hr1
  have hzd := zDel_len (S.1 kA) f
  have hit := hrA.item (j := f.toNat) (by omega)
  refine z_istore dCls_move_25 (Nat.le_of_ble_eq_true rfl) ?_
  refine z_aload dCls_move_27 rfl ?_
  refine z_iload_n dCls_move_29 rfl ?_
  refine z_iload dCls_move_30 rfl ?_
  refine z_callVN MV_Row_putIn lk_Cls_119 dCls_move_32 (k_Row_putIn hr1 (by omega) hit) rfl rfl (Nat.le_of_ble_eq_true rfl) rfl (by assumption) (Nat.le_of_ble_eq_true rfl) (Nat.le_of_ble_eq_true rfl) (Nat.le_of_eq (Nat.zero_add _)) (Nat.le_of_eq (Nat.zero_add _)) (fun _ _ q => q.elim) ?_
  rintro _ h2 (⟨rfl, m3, m4, m5, hr2, f2⟩ | ⟨rfl, m3, rfl⟩)
  rotate_left
  · exact absurd (by omega) m3
  have f3 : ∀ q, q ≠ ad (8 + 2 * kA) → q ≠ ad (9 + 2 * kA) → h2 q = h q := fun q x y => (f2 q x y).trans (f1 q x y)
  have hC2 := hC.row hkA hr2 f3
  obtain ⟨-, d2, -⟩ := id hC2
  have fz2 : zFrm ad h h2 := zFrm.of2 (i := 8 + 2 * kA) (j := 9 + 2 * kA) (by omega) (by omega) f3
  obtain ⟨fr2, er2, -⟩ := id hr2
  have hl2 := hr2.len
  refine z_pop rfl dCls_move_35 ?_
  refine z_aload_n dCls_move_36 rfl ?_
  refine z_iload_n dCls_move_37 rfl ?_
  refine z_iconst dCls_move_38 ?_
  refine z_callV MV_Cls_makeStale lk_Cls_58 dCls_move_39 (k_Cls_makeStale (by assumption) (by omega) (by omega)) rfl rfl (Nat.le_of_ble_eq_true rfl) rfl (by assumption) (Nat.le_of_ble_eq_true rfl) (Nat.le_of_ble_eq_true rfl) (Nat.le_of_eq (Nat.zero_add _)) (Nat.le_of_eq (Nat.zero_add _)) (fun _ _ q => q.elim) ?_
  rintro _ h3 ⟨rfl, hC3, gz3⟩
  obtain ⟨-, d3, -⟩ := id hC3
  have fz3 : zFrm ad h h3 := by first | exact fz2.tr gz3 | exact gz3
  have hm3 := hC3.ls hkA
  simp only [zsS_l, zsS_0, zsL_l] at hm3
  obtain ⟨fm3, em3, -⟩ := id hm3
  refine z_iload dCls_move_42 rfl ?_
  refine z_iret rfl rfl dCls_move_44 ?_
  first
    | (exfalso; omega)
    | exact zQc.mk (by assumption) (by first | exact zFrm.rf | assumption) (by unfold sp_move; (try unfold spPut); (try simp only [Int.toNat_natCast]); (repeat (first | rw [if_pos (by omega)] | rw [if_neg (by omega)] | rw [if_pos (by assumption)] | rw [if_neg (by assumption)])); all_goals (first | rfl | (congr 2; omega) | (congr 1; congr 1; omega)))
theorem k_Cls_swap {p i j : Int}  (hC : zCls G h ad S) (z_p : zI32 p) (z_i : zI32 i) (z_j : zI32 j) : zM G l hCls_swap yCls_swap 9 [.ref (ad 0), zi p, zi i, zi j] h (zQc G ad h (sp_swap S p i j)) (zXc G ad h (sp_swap S p i j)) 6 36 := by
  obtain ⟨c1, c2, ⟨g3, c3, d3⟩, ⟨g4, c4, d4⟩, c5, ⟨T6, c6, d6⟩, c7, c8, ⟨R9, c9⟩, c10⟩ := id hC
  obtain ⟨f16, e16, -⟩ := id c9
  refine zM.of [some (.ref (ad 0)), some (zi p), some (zi i), some (zi j), none] (by decide +kernel) rfl (by decide) rfl (Nat.le_of_ble_eq_true rfl) rfl ?_
  refine z_aload_n dCls_swap_0 rfl ?_
  refine z_iload_n dCls_swap_1 rfl ?_
  refine z_callV (bc' := 5) (bs' := 30) MV_Cls_listAt lk_Cls_34 dCls_swap_2 (k_Cls_listAt (by assumption) (by omega)) rfl rfl (Nat.le_of_ble_eq_true rfl) rfl (by assumption) (Nat.le_of_ble_eq_true rfl) (Nat.le_of_ble_eq_true rfl) (by decide) (by decide) (fun E h9 q9 => z_out rfl (by obtain ⟨rfl, q1, rfl⟩ := q9; exact zXc.mk (by assumption) (by first | exact zFrm.rf | assumption) (by unfold sp_swap; (try unfold spPut); (try simp only [Int.toNat_natCast]); (repeat (first | rw [if_pos (by omega)] | rw [if_neg (by omega)] | rw [if_pos (by assumption)] | rw [if_neg (by assumption)])); all_goals (first | rfl | (congr 2; omega) | (congr 1; congr 1; omega))))) ?_
  rintro _ _ ⟨rfl, aA1, aA2, rfl⟩
  obtain ⟨kA, rfl⟩ := Int.eq_ofNat_of_zero_le aA1
  simp only [Int.toNat_natCast]
  have hkA : kA < 4 := by omega
  have hrA := hC.ls hkA
  obtain ⟨fA, eA, -⟩ := id hrA
  have hlA := hrA.len
  refine z_astore dCls_swap_5 (Nat.le_of_ble_eq_true rfl) ?_
  refine z_aload dCls_swap_7 rfl ?_
  refine z_iload_n dCls_swap_9 rfl ?_
  refine z_callS (bc' := 4) (bs' := 24) MS_Cls_demandPlace lk_Cls_74 dCls_swap_10 (k_Cls_demandPlace hrA (by omega)) rfl rfl (Nat.le_of_ble_eq_true rfl)  (Nat.le_of_ble_eq_true rfl) (Nat.le_of_ble_eq_true rfl) (by decide) (by decide) (fun E h9 q9 => z_out rfl (by obtain ⟨rfl, q1, rfl⟩ := q9; exact zXc.mk (by assumption) (by first | exact zFrm.rf | assumption) (by unfold sp_swap; (try unfold spPut); (try simp only [Int.toNat_natCast]); (repeat (first | rw [if_pos (by omega)] | rw [if_neg (by omega)] | rw [if_pos (by assumption)] | rw [if_neg (by assumption)])); all_goals (first | rfl | (congr 2; omega) | (congr 1; congr 1; omega))))) ?_
  rintro _ _ ⟨rfl, v1, v2, rfl⟩
  refine z_aload dCls_swap_13 rfl ?_
  refine z_iload_n dCls_swap_15 rfl ?_
  refine z_callS (bc' := 3) (bs' := 18) MS_Cls_demandPlace lk_Cls_74 dCls_swap_16 (k_Cls_demandPlace hrA (by omega)) rfl rfl (Nat.le_of_ble_eq_true rfl)  (Nat.le_of_ble_eq_true rfl) (Nat.le_of_ble_eq_true rfl) (by decide) (by decide) (fun E h9 q9 => z_out rfl (by obtain ⟨rfl, q1, rfl⟩ := q9; exact zXc.mk (by assumption) (by first | exact zFrm.rf | assumption) (by unfold sp_swap; (try unfold spPut); (try simp only [Int.toNat_natCast]); (repeat (first | rw [if_pos (by omega)] | rw [if_neg (by omega)] | rw [if_pos (by assumption)] | rw [if_neg (by assumption)])); all_goals (first | rfl | (congr 2; omega) | (congr 1; congr 1; omega))))) ?_
  rintro _ _ ⟨rfl, v1b, v2b, rfl⟩
  refine z_aload dCls_swap_19 rfl ?_
  refine z_iload_n dCls_swap_21 rfl ?_
  refine z_iload_n dCls_swap_22 rfl ?_
  refine z_callVN MV_Row_exchange lk_Cls_123 dCls_swap_23 (k_Row_exchange hrA (by omega) (by omega)) rfl rfl (Nat.le_of_ble_eq_true rfl) rfl (by assumption) (Nat.le_of_ble_eq_true rfl) (Nat.le_of_ble_eq_true rfl) (Nat.le_of_eq (Nat.zero_add _)) (Nat.le_of_eq (Nat.zero_add _)) (fun _ _ q => q.elim) ?_
  rintro _ h1 ⟨rfl, hr1, f1⟩
  have hC1 := hC.row hkA hr1 f1
  obtain ⟨-, d1, -⟩ := id hC1
  have fz1 : zFrm ad h h1 := zFrm.of2 (i := 8 + 2 * kA) (j := 9 + 2 * kA) (by omega) (by omega) f1
  obtain ⟨fr1, er1, -⟩ := id hr1
  have hl1 := hr1.len
  refine z_aload dCls_swap_26 rfl ?_
  refine z_iload_n dCls_swap_28 rfl ?_
  refine z_callVN MV_Row_itemAt lk_Cls_70 dCls_swap_29 (k_Row_itemAt hr1 (by omega)) rfl rfl (Nat.le_of_ble_eq_true rfl) rfl (by assumption) (Nat.le_of_ble_eq_true rfl) (Nat.le_of_ble_eq_true rfl) (Nat.le_of_eq (Nat.zero_add _)) (Nat.le_of_eq (Nat.zero_add _)) (fun _ _ q => q.elim) ?_
  rintro _ _ ⟨rfl, rfl⟩
  refine z_iret rfl rfl dCls_swap_32 ?_
  first
    | (exfalso; omega)
    | exact zQc.mk (by assumption) (by first | exact zFrm.rf | assumption) (by unfold sp_swap; (try unfold spPut); (try simp only [Int.toNat_natCast]); (repeat (first | rw [if_pos (by omega)] | rw [if_neg (by omega)] | rw [if_pos (by assumption)] | rw [if_neg (by assumption)])); all_goals (first | rfl | (congr 2; omega) | (congr 1; congr 1; omega)))
theorem k_Cls_reverse {p : Int}  (hC : zCls G h ad S) (z_p : zI32 p) : zM G l hCls_reverse yCls_reverse 9 [.ref (ad 0), zi p] h (zQc G ad h (sp_reverse S p)) (zXc G ad h (sp_reverse S p)) 6 36 := by
  obtain ⟨c1, c2, ⟨g3, c3, d3⟩, ⟨g4, c4, d4⟩, c5, ⟨T6, c6, d6⟩, c7, c8, ⟨R9, c9⟩, c10⟩ := id hC
  obtain ⟨f16, e16, -⟩ := id c9
  refine zM.of [some (.ref (ad 0)), some (zi p), none] (by decide +kernel) rfl (by decide) rfl (Nat.le_of_ble_eq_true rfl) rfl ?_
  refine z_aload_n dCls_reverse_0 rfl ?_
  refine z_iload_n dCls_reverse_1 rfl ?_
  refine z_callV (bc' := 5) (bs' := 30) MV_Cls_listAt lk_Cls_34 dCls_reverse_2 (k_Cls_listAt (by assumption) (by omega)) rfl rfl (Nat.le_of_ble_eq_true rfl) rfl (by assumption) (Nat.le_of_ble_eq_true rfl) (Nat.le_of_ble_eq_true rfl) (by decide) (by decide) (fun E h9 q9 => z_out rfl (by obtain ⟨rfl, q1, rfl⟩ := q9; exact zXc.mk (by assumption) (by first | exact zFrm.rf | assumption) (by unfold sp_reverse; (try unfold spPut); (try simp only [Int.toNat_natCast]); (repeat (first | rw [if_pos (by omega)] | rw [if_neg (by omega)] | rw [if_pos (by assumption)] | rw [if_neg (by assumption)])); all_goals (first | rfl | (congr 2; omega) | (congr 1; congr 1; omega))))) ?_
  rintro _ _ ⟨rfl, aA1, aA2, rfl⟩
  obtain ⟨kA, rfl⟩ := Int.eq_ofNat_of_zero_le aA1
  simp only [Int.toNat_natCast]
  have hkA : kA < 4 := by omega
  have hrA := hC.ls hkA
  obtain ⟨fA, eA, -⟩ := id hrA
  have hlA := hrA.len
  refine z_astore_n dCls_reverse_5 (Nat.le_of_ble_eq_true rfl) ?_
  refine z_aload_n dCls_reverse_6 rfl ?_
  refine z_callVN MV_Row_turnRound lk_Cls_126 dCls_reverse_7 (k_Row_turnRound hrA) rfl rfl (Nat.le_of_ble_eq_true rfl) rfl (by assumption) (Nat.le_of_ble_eq_true rfl) (Nat.le_of_ble_eq_true rfl) (Nat.le_of_eq (Nat.zero_add _)) (Nat.le_of_eq (Nat.zero_add _)) (fun _ _ q => q.elim) ?_
  rintro _ h1 ⟨rfl, hr1, f1⟩
  have hC1 := hC.row hkA hr1 f1
  obtain ⟨-, d1, -⟩ := id hC1
  have fz1 : zFrm ad h h1 := zFrm.of2 (i := 8 + 2 * kA) (j := 9 + 2 * kA) (by omega) (by omega) f1
  obtain ⟨fr1, er1, -⟩ := id hr1
  have hl1 := hr1.len
  refine z_aload_n dCls_reverse_10 rfl ?_
  refine z_callS MS_Cls_firstOf lk_Cls_115 dCls_reverse_11 (k_Cls_firstOf hr1) rfl rfl (Nat.le_of_ble_eq_true rfl)  (Nat.le_of_ble_eq_true rfl) (Nat.le_of_ble_eq_true rfl) (Nat.le_of_eq (Nat.zero_add _)) (Nat.le_of_eq (Nat.zero_add _)) (fun _ _ q => q.elim) ?_
  rintro _ _ ⟨rfl, rfl⟩
  refine z_iret rfl rfl dCls_reverse_14 ?_
  first
    | (exfalso; omega)
    | exact zQc.mk (by assumption) (by first | exact zFrm.rf | assumption) (by unfold sp_reverse; (try unfold spPut); (try simp only [Int.toNat_natCast]); (repeat (first | rw [if_pos (by omega)] | rw [if_neg (by omega)] | rw [if_pos (by assumption)] | rw [if_neg (by assumption)])); all_goals (first | rfl | (congr 2; omega) | (congr 1; congr 1; omega)))
theorem k_Cls_through {p m i : Int}  (hC : zCls G h ad S) (z_p : zI32 p) (z_m : zI32 m) (z_i : zI32 i) : zM G l hCls_through yCls_through 9 [.ref (ad 0), zi p, zi m, zi i] h (zQc G ad h (sp_through S p m i)) (zXc G ad h (sp_through S p m i)) 6 36 := by
  obtain ⟨c1, c2, ⟨g3, c3, d3⟩, ⟨g4, c4, d4⟩, c5, ⟨T6, c6, d6⟩, c7, c8, ⟨R9, c9⟩, c10⟩ := id hC
  obtain ⟨f16, e16, -⟩ := id c9
  refine zM.of [some (.ref (ad 0)), some (zi p), some (zi m), some (zi i), none, none] (by decide +kernel) rfl (by decide) rfl (Nat.le_of_ble_eq_true rfl) rfl ?_
  refine z_aload_n dCls_through_0 rfl ?_
  refine z_iload_n dCls_through_1 rfl ?_
  refine z_callV (bc' := 5) (bs' := 30) MV_Cls_listAt lk_Cls_34 dCls_through_2 (k_Cls_listAt (by assumption) (by omega)) rfl rfl (Nat.le_of_ble_eq_true rfl) rfl (by assumption) (Nat.le_of_ble_eq_true rfl) (Nat.le_of_ble_eq_true rfl) (by decide) (by decide) (fun E h9 q9 => z_out rfl (by obtain ⟨rfl, q1, rfl⟩ := q9; exact zXc.mk (by assumption) (by first | exact zFrm.rf | assumption) (by unfold sp_through; (try unfold spPut); (try simp only [Int.toNat_natCast]); (repeat (first | rw [if_pos (by omega)] | rw [if_neg (by omega)] | rw [if_pos (by assumption)] | rw [if_neg (by assumption)])); all_goals (first | rfl | (congr 2; omega) | (congr 1; congr 1; omega))))) ?_
  rintro _ _ ⟨rfl, aA1, aA2, rfl⟩
  obtain ⟨kA, rfl⟩ := Int.eq_ofNat_of_zero_le aA1
  simp only [Int.toNat_natCast]
  have hkA : kA < 4 := by omega
  have hrA := hC.ls hkA
  obtain ⟨fA, eA, -⟩ := id hrA
  have hlA := hrA.len
  refine z_astore dCls_through_5 (Nat.le_of_ble_eq_true rfl) ?_
  refine z_aload_n dCls_through_7 rfl ?_
  refine z_iload_n dCls_through_8 rfl ?_
  refine z_callV (bc' := 4) (bs' := 24) MV_Cls_listAt lk_Cls_34 dCls_through_9 (k_Cls_listAt (by assumption) (by omega)) rfl rfl (Nat.le_of_ble_eq_true rfl) rfl (by assumption) (Nat.le_of_ble_eq_true rfl) (Nat.le_of_ble_eq_true rfl) (by decide) (by decide) (fun E h9 q9 => z_out rfl (by obtain ⟨rfl, q1, rfl⟩ := q9; exact zXc.mk (by assumption) (by first | exact zFrm.rf | assumption) (by unfold sp_through; (try unfold spPut); (try simp only [Int.toNat_natCast]); (repeat (first | rw [if_pos (by omega)] | rw [if_neg (by omega)] | rw [if_pos (by assumption)] | rw [if_neg (by assumption)])); all_goals (first | rfl | (congr 2; omega) | (congr 1; congr 1; omega))))) ?_
  rintro _ _ ⟨rfl, aB1, aB2, rfl⟩
  obtain ⟨kB, rfl⟩ := Int.eq_ofNat_of_zero_le aB1
  simp only [Int.toNat_natCast]
  have hkB : kB < 4 := by omega
  have hrB := hC.ls hkB
  obtain ⟨fB, eB, -⟩ := id hrB
  have hlB := hrB.len
  refine z_astore dCls_through_12 (Nat.le_of_ble_eq_true rfl) ?_
  refine z_aload_n dCls_through_14 rfl ?_
  refine z_iload_n dCls_through_15 rfl ?_
  refine z_callV (bc' := 3) (bs' := 18) MV_Cls_listAt lk_Cls_34 dCls_through_16 (k_Cls_listAt (by assumption) (by omega)) rfl rfl (Nat.le_of_ble_eq_true rfl) rfl (by assumption) (Nat.le_of_ble_eq_true rfl) (Nat.le_of_ble_eq_true rfl) (by decide) (by decide) (fun E h9 q9 => z_out rfl (by obtain ⟨rfl, q1, rfl⟩ := q9; exact zXc.mk (by assumption) (by first | exact zFrm.rf | assumption) (by unfold sp_through; (try unfold spPut); (try simp only [Int.toNat_natCast]); (repeat (first | rw [if_pos (by omega)] | rw [if_neg (by omega)] | rw [if_pos (by assumption)] | rw [if_neg (by assumption)])); all_goals (first | rfl | (congr 2; omega) | (congr 1; congr 1; omega))))) ?_
  rintro _ _ ⟨rfl, aC1, aC2, rfl⟩
  obtain ⟨kC, rfl⟩ := Int.eq_ofNat_of_zero_le aC1
  simp only [Int.toNat_natCast]
  have hkC : kC < 4 := by omega
  have hrC := hC.ls hkC
  obtain ⟨fC, eC, -⟩ := id hrC
  have hlC := hrC.len
  refine z_pop rfl dCls_through_19 ?_
  refine z_aload_n dCls_through_20 rfl ?_
  refine z_iload_n dCls_through_21 rfl ?_
  refine z_aload_n dCls_through_22 rfl ?_
  refine z_get (k := 3) fd_Cls (by decide) fl_Cls_29 dCls_through_23 (by assumption) (by rfl) ?_
  refine z_aload dCls_through_26 rfl ?_
  refine z_aload dCls_through_28 rfl ?_
  refine z_callVN MV_Row_becomeThrough lk_Cls_129 dCls_through_30 (k_Row_becomeThrough c9 hrA hrB (hC.inj (by omega) (by omega) (by omega)) (hC.inj (by omega) (by omega) (by omega)) (hC.inj (by omega) (by omega) (by omega)) (hC.inj (by omega) (by omega) (by omega))) rfl rfl (Nat.le_of_ble_eq_true rfl) rfl (by assumption) (Nat.le_of_ble_eq_true rfl) (Nat.le_of_ble_eq_true rfl) (Nat.le_of_eq (Nat.zero_add _)) (Nat.le_of_eq (Nat.zero_add _)) (fun _ _ q => q.elim) ?_
  rintro _ h1 (⟨rfl, m1, hR1, f1⟩ | ⟨rfl, m1, ⟨L9, hR1⟩, f1⟩)
  · have hC1 := hC.res hR1 f1
    obtain ⟨-, d1, -⟩ := id hC1
    have fz1 : zFrm ad h h1 := zFrm.of2 (i := 16) (j := 17) (by omega) (by omega) f1
    obtain ⟨fr1, er1, -⟩ := id hR1
    refine z_callV (bc' := 2) (bs' := 12) MV_Cls_becomeResult lk_Cls_102 dCls_through_33 (k_Cls_becomeResult (by assumption) (by omega) (by assumption) (by omega)) rfl rfl (Nat.le_of_ble_eq_true rfl) rfl (by assumption) (Nat.le_of_ble_eq_true rfl) (Nat.le_of_ble_eq_true rfl) (by decide) (by decide) (fun _ _ q => q.elim) ?_
    rintro _ h9 ⟨(⟨b0, rfl, hC9⟩ | ⟨b0, rfl, hC9⟩), gz9⟩
    all_goals have fz9 : zFrm ad h h9 := by first | exact fz1.tr gz9 | exact gz9
    · refine z_iret rfl rfl dCls_through_36 ?_
      first
        | (exfalso; omega)
        | exact zQc.mk (by assumption) (by first | exact zFrm.rf | assumption) (by unfold sp_through; (try unfold spPut); (try simp only [Int.toNat_natCast]); (repeat (first | rw [if_pos (by omega)] | rw [if_neg (by omega)] | rw [if_pos (by assumption)] | rw [if_neg (by assumption)])); all_goals (first | rfl | (congr 2; omega) | (congr 1; congr 1; omega)))
    · refine z_iret rfl rfl dCls_through_36 ?_
      first
        | (exfalso; omega)
        | exact zQc.mk (by assumption) (by first | exact zFrm.rf | assumption) (by unfold sp_through; (try unfold spPut); (try simp only [Int.toNat_natCast]); (repeat (first | rw [if_pos (by omega)] | rw [if_neg (by omega)] | rw [if_pos (by assumption)] | rw [if_neg (by assumption)])); all_goals (first | rfl | (congr 2; omega) | (congr 1; congr 1; omega)))
  · have hC1 := hC.res hR1 f1
    obtain ⟨-, d1, -⟩ := id hC1
    have fz1 : zFrm ad h h1 := zFrm.of2 (i := 16) (j := 17) (by omega) (by omega) f1
    obtain ⟨fr1, er1, -⟩ := id hR1
    refine z_callV (bc' := 2) (bs' := 12) MV_Cls_becomeResult lk_Cls_102 dCls_through_33 (k_Cls_becomeResult (by assumption) (by omega) (by assumption) (by omega)) rfl rfl (Nat.le_of_ble_eq_true rfl) rfl (by assumption) (Nat.le_of_ble_eq_true rfl) (Nat.le_of_ble_eq_true rfl) (by decide) (by decide) (fun _ _ q => q.elim) ?_
    rintro _ h9 ⟨(⟨b0, rfl, hC9⟩ | ⟨b0, rfl, hC9⟩), gz9⟩
    all_goals have fz9 : zFrm ad h h9 := by first | exact fz1.tr gz9 | exact gz9
    · refine z_iret rfl rfl dCls_through_36 ?_
      first
        | (exfalso; omega)
        | exact zQc.mk (by assumption) (by first | exact zFrm.rf | assumption) (by unfold sp_through; (try unfold spPut); (try simp only [Int.toNat_natCast]); (repeat (first | rw [if_pos (by omega)] | rw [if_neg (by omega)] | rw [if_pos (by assumption)] | rw [if_neg (by assumption)])); all_goals (first | rfl | (congr 2; omega) | (congr 1; congr 1; omega)))
    · refine z_iret rfl rfl dCls_through_36 ?_
      first
        | (exfalso; omega)
        | exact zQc.mk (by assumption) (by first | exact zFrm.rf | assumption) (by unfold sp_through; (try unfold spPut); (try simp only [Int.toNat_natCast]); (repeat (first | rw [if_pos (by omega)] | rw [if_neg (by omega)] | rw [if_pos (by assumption)] | rw [if_neg (by assumption)])); all_goals (first | rfl | (congr 2; omega) | (congr 1; congr 1; omega)))
theorem k_Cls_areSame {p o : Int}  (hC : zCls G h ad S) (z_p : zI32 p) (z_o : zI32 o) : zM G l hCls_areSame yCls_areSame 9 [.ref (ad 0), zi p, zi o] h (zQc G ad h (sp_areSame S p o)) (zXc G ad h (sp_areSame S p o)) 6 36 := by
  obtain ⟨c1, c2, ⟨g3, c3, d3⟩, ⟨g4, c4, d4⟩, c5, ⟨T6, c6, d6⟩, c7, c8, ⟨R9, c9⟩, c10⟩ := id hC
  obtain ⟨f16, e16, -⟩ := id c9
  refine zM.of [some (.ref (ad 0)), some (zi p), some (zi o)] (by decide +kernel) rfl (by decide) rfl (Nat.le_of_ble_eq_true rfl) rfl ?_
  refine z_aload_n dCls_areSame_0 rfl ?_
  refine z_iload_n dCls_areSame_1 rfl ?_
  refine z_callV (bc' := 5) (bs' := 30) MV_Cls_listAt lk_Cls_34 dCls_areSame_2 (k_Cls_listAt (by assumption) (by omega)) rfl rfl (Nat.le_of_ble_eq_true rfl) rfl (by assumption) (Nat.le_of_ble_eq_true rfl) (Nat.le_of_ble_eq_true rfl) (by decide) (by decide) (fun E h9 q9 => z_out rfl (by obtain ⟨rfl, q1, rfl⟩ := q9; exact zXc.mk (by assumption) (by first | exact zFrm.rf | assumption) (by unfold sp_areSame; (try unfold spPut); (try simp only [Int.toNat_natCast]); (repeat (first | rw [if_pos (by omega)] | rw [if_neg (by omega)] | rw [if_pos (by assumption)] | rw [if_neg (by assumption)])); all_goals (first | rfl | (congr 2; omega) | (congr 1; congr 1; omega))))) ?_
  rintro _ _ ⟨rfl, aA1, aA2, rfl⟩
  obtain ⟨kA, rfl⟩ := Int.eq_ofNat_of_zero_le aA1
  simp only [Int.toNat_natCast]
  have hkA : kA < 4 := by omega
  have hrA := hC.ls hkA
  obtain ⟨fA, eA, -⟩ := id hrA
  have hlA := hrA.len
  refine z_aload_n dCls_areSame_5 rfl ?_
  refine z_iload_n dCls_areSame_6 rfl ?_
  refine z_callV (bc' := 4) (bs' := 24) MV_Cls_listAt lk_Cls_34 dCls_areSame_7 (k_Cls_listAt (by assumption) (by omega)) rfl rfl (Nat.le_of_ble_eq_true rfl) rfl (by assumption) (Nat.le_of_ble_eq_true rfl) (Nat.le_of_ble_eq_true rfl) (by decide) (by decide) (fun E h9 q9 => z_out rfl (by obtain ⟨rfl, q1, rfl⟩ := q9; exact zXc.mk (by assumption) (by first | exact zFrm.rf | assumption) (by unfold sp_areSame; (try unfold spPut); (try simp only [Int.toNat_natCast]); (repeat (first | rw [if_pos (by omega)] | rw [if_neg (by omega)] | rw [if_pos (by assumption)] | rw [if_neg (by assumption)])); all_goals (first | rfl | (congr 2; omega) | (congr 1; congr 1; omega))))) ?_
  rintro _ _ ⟨rfl, aB1, aB2, rfl⟩
  obtain ⟨kB, rfl⟩ := Int.eq_ofNat_of_zero_le aB1
  simp only [Int.toNat_natCast]
  have hkB : kB < 4 := by omega
  have hrB := hC.ls hkB
  obtain ⟨fB, eB, -⟩ := id hrB
  have hlB := hrB.len
  refine z_callVN MV_Row_isAs lk_Cls_133 dCls_areSame_10 (k_Row_isAs hrA hrB) rfl rfl (Nat.le_of_ble_eq_true rfl) rfl (by assumption) (Nat.le_of_ble_eq_true rfl) (Nat.le_of_ble_eq_true rfl) (Nat.le_of_eq (Nat.zero_add _)) (Nat.le_of_eq (Nat.zero_add _)) (fun _ _ q => q.elim) ?_
  rintro _ _ ⟨b9, rfl, hb9, rfl⟩
  refine z_iret rfl (by rcases hb9 with ⟨rfl, -⟩ | ⟨rfl, -⟩ <;> rfl) dCls_areSame_13 ?_
  rcases hb9 with ⟨rfl, m1⟩ | ⟨rfl, m1⟩
  all_goals exact zQc.mk (by assumption) (by first | exact zFrm.rf | assumption) (by unfold sp_areSame; (try unfold spPut); (try simp only [Int.toNat_natCast]); (repeat (first | rw [if_pos (by omega)] | rw [if_neg (by omega)] | rw [if_pos (by assumption)] | rw [if_neg (by assumption)])); all_goals (first | rfl | (congr 2; omega) | (congr 1; congr 1; omega)))
theorem k_Cls_isMirror {p : Int}  (hC : zCls G h ad S) (z_p : zI32 p) : zM G l hCls_isMirror yCls_isMirror 9 [.ref (ad 0), zi p] h (zQc G ad h (sp_isMirror S p)) (zXc G ad h (sp_isMirror S p)) 6 36 := by
  obtain ⟨c1, c2, ⟨g3, c3, d3⟩, ⟨g4, c4, d4⟩, c5, ⟨T6, c6, d6⟩, c7, c8, ⟨R9, c9⟩, c10⟩ := id hC
  obtain ⟨f16, e16, -⟩ := id c9
  refine zM.of [some (.ref (ad 0)), some (zi p), none] (by decide +kernel) rfl (by decide) rfl (Nat.le_of_ble_eq_true rfl) rfl ?_
  refine z_aload_n dCls_isMirror_0 rfl ?_
  refine z_iload_n dCls_isMirror_1 rfl ?_
  refine z_callV (bc' := 5) (bs' := 30) MV_Cls_listAt lk_Cls_34 dCls_isMirror_2 (k_Cls_listAt (by assumption) (by omega)) rfl rfl (Nat.le_of_ble_eq_true rfl) rfl (by assumption) (Nat.le_of_ble_eq_true rfl) (Nat.le_of_ble_eq_true rfl) (by decide) (by decide) (fun E h9 q9 => z_out rfl (by obtain ⟨rfl, q1, rfl⟩ := q9; exact zXc.mk (by assumption) (by first | exact zFrm.rf | assumption) (by unfold sp_isMirror; (try unfold spPut); (try simp only [Int.toNat_natCast]); (repeat (first | rw [if_pos (by omega)] | rw [if_neg (by omega)] | rw [if_pos (by assumption)] | rw [if_neg (by assumption)])); all_goals (first | rfl | (congr 2; omega) | (congr 1; congr 1; omega))))) ?_
  rintro _ _ ⟨rfl, aA1, aA2, rfl⟩
  obtain ⟨kA, rfl⟩ := Int.eq_ofNat_of_zero_le aA1
  simp only [Int.toNat_natCast]
  have hkA : kA < 4 := by omega
  have hrA := hC.ls hkA
  obtain ⟨fA, eA, -⟩ := id hrA
  have hlA := hrA.len
  refine z_astore_n dCls_isMirror_5 (Nat.le_of_ble_eq_true rfl) ?_
  refine z_aload_n dCls_isMirror_6 rfl ?_
  refine z_get (k := 3) fd_Cls (by decide) fl_Cls_29 dCls_isMirror_7 (by assumption) (by rfl) ?_
  refine z_aload_n dCls_isMirror_10 rfl ?_
  refine z_callVN MV_Row_become lk_Cls_105 dCls_isMirror_11 (k_Row_become c9 hrA (hC.inj (by omega) (by omega) (by omega)) (hC.inj (by omega) (by omega) (by omega))) rfl rfl (Nat.le_of_ble_eq_true rfl) rfl (by assumption) (Nat.le_of_ble_eq_true rfl) (Nat.le_of_ble_eq_true rfl) (Nat.le_of_eq (Nat.zero_add _)) (Nat.le_of_eq (Nat.zero_add _)) (fun _ _ q => q.elim) ?_
  rintro _ h1 ⟨rfl, hR1, f1⟩
  have hC1 := hC.res hR1 f1
  obtain ⟨-, d1, -⟩ := id hC1
  have fz1 : zFrm ad h h1 := zFrm.of2 (i := 16) (j := 17) (by omega) (by omega) f1
  obtain ⟨fr1, er1, -⟩ := id hR1
  refine z_aload_n dCls_isMirror_14 rfl ?_
  refine z_get (k := 3) fd_Cls (by decide) fl_Cls_29 dCls_isMirror_15 (by assumption) (by rfl) ?_
  refine z_callVN MV_Row_turnRound lk_Cls_126 dCls_isMirror_18 (k_Row_turnRound hR1) rfl rfl (Nat.le_of_ble_eq_true rfl) rfl (by assumption) (Nat.le_of_ble_eq_true rfl) (Nat.le_of_ble_eq_true rfl) (Nat.le_of_eq (Nat.zero_add _)) (Nat.le_of_eq (Nat.zero_add _)) (fun _ _ q => q.elim) ?_
  rintro _ h2 ⟨rfl, hR2, f2⟩
  have f3 : ∀ q, q ≠ ad 16 → q ≠ ad 17 → h2 q = h q := fun q x y => (f2 q x y).trans (f1 q x y)
  have hrA2 := hrA.kept (f3 _ (hC.inj (by omega) (by omega) (by omega)) (hC.inj (by omega) (by omega) (by omega))) (f3 _ (hC.inj (by omega) (by omega) (by omega)) (hC.inj (by omega) (by omega) (by omega)))
  have hC2 := hC.res hR2 f3
  obtain ⟨-, d2, -⟩ := id hC2
  have fz2 : zFrm ad h h2 := zFrm.of2 (i := 16) (j := 17) (by omega) (by omega) f3
  obtain ⟨fr2, er2, -⟩ := id hR2
  refine z_aload_n dCls_isMirror_21 rfl ?_
  refine z_get (k := 3) fd_Cls (by decide) fl_Cls_29 dCls_isMirror_22 (by assumption) (by rfl) ?_
  refine z_aload_n dCls_isMirror_25 rfl ?_
  refine z_callVN MV_Row_isAs lk_Cls_133 dCls_isMirror_26 (k_Row_isAs hR2 hrA2) rfl rfl (Nat.le_of_ble_eq_true rfl) rfl (by assumption) (Nat.le_of_ble_eq_true rfl) (Nat.le_of_ble_eq_true rfl) (Nat.le_of_eq (Nat.zero_add _)) (Nat.le_of_eq (Nat.zero_add _)) (fun _ _ q => q.elim) ?_
  rintro _ _ ⟨b9, rfl, hb9, rfl⟩
  refine z_iret rfl (by rcases hb9 with ⟨rfl, -⟩ | ⟨rfl, -⟩ <;> rfl) dCls_isMirror_29 ?_
  rcases hb9 with ⟨rfl, m1⟩ | ⟨rfl, m1⟩
  all_goals exact zQc.mk (by assumption) (by first | exact zFrm.rf | assumption) (by unfold sp_isMirror; (try unfold spPut); (try simp only [Int.toNat_natCast]); (repeat (first | rw [if_pos (by omega)] | rw [if_neg (by omega)] | rw [if_pos (by assumption)] | rw [if_neg (by assumption)])); all_goals (first | rfl | (congr 2; omega) | (congr 1; congr 1; omega)))
theorem k_Cls_plus {p o : Int}  (hC : zCls G h ad S) (z_p : zI32 p) (z_o : zI32 o) : zM G l hCls_plus yCls_plus 9 [.ref (ad 0), zi p, zi o] h (zQc G ad h (sp_plus S p o)) (zXc G ad h (sp_plus S p o)) 6 36 := by
  obtain ⟨c1, c2, ⟨g3, c3, d3⟩, ⟨g4, c4, d4⟩, c5, ⟨T6, c6, d6⟩, c7, c8, ⟨R9, c9⟩, c10⟩ := id hC
  obtain ⟨f16, e16, -⟩ := id c9
  refine zM.of [some (.ref (ad 0)), some (zi p), some (zi o)] (by decide +kernel) rfl (by decide) rfl (Nat.le_of_ble_eq_true rfl) rfl ?_
  refine z_aload_n dCls_plus_0 rfl ?_
  refine z_iload_n dCls_plus_1 rfl ?_
  refine z_aload_n dCls_plus_2 rfl ?_
  refine z_get (k := 3) fd_Cls (by decide) fl_Cls_29 dCls_plus_3 (by assumption) (by rfl) ?_
  refine z_aload_n dCls_plus_6 rfl ?_
  refine z_iload_n dCls_plus_7 rfl ?_
  refine z_callV (bc' := 5) (bs' := 30) MV_Cls_listAt lk_Cls_34 dCls_plus_8 (k_Cls_listAt (by assumption) (by omega)) rfl rfl (Nat.le_of_ble_eq_true rfl) rfl (by assumption) (Nat.le_of_ble_eq_true rfl) (Nat.le_of_ble_eq_true rfl) (by decide) (by decide) (fun E h9 q9 => z_out rfl (by obtain ⟨rfl, q1, rfl⟩ := q9; exact zXc.mk (by assumption) (by first | exact zFrm.rf | assumption) (by unfold sp_plus; (try unfold spPut); (try simp only [Int.toNat_natCast]); (repeat (first | rw [if_pos (by omega)] | rw [if_neg (by omega)] | rw [if_pos (by assumption)] | rw [if_neg (by assumption)])); all_goals (first | rfl | (congr 2; omega) | (congr 1; congr 1; omega))))) ?_
  rintro _ _ ⟨rfl, aA1, aA2, rfl⟩
  obtain ⟨kA, rfl⟩ := Int.eq_ofNat_of_zero_le aA1
  simp only [Int.toNat_natCast]
  have hkA : kA < 4 := by omega
  have hrA := hC.ls hkA
  obtain ⟨fA, eA, -⟩ := id hrA
  have hlA := hrA.len
  refine z_aload_n dCls_plus_11 rfl ?_
  refine z_iload_n dCls_plus_12 rfl ?_
  refine z_callV (bc' := 4) (bs' := 24) MV_Cls_listAt lk_Cls_34 dCls_plus_13 (k_Cls_listAt (by assumption) (by omega)) rfl rfl (Nat.le_of_ble_eq_true rfl) rfl (by assumption) (Nat.le_of_ble_eq_true rfl) (Nat.le_of_ble_eq_true rfl) (by decide) (by decide) (fun E h9 q9 => z_out rfl (by obtain ⟨rfl, q1, rfl⟩ := q9; exact zXc.mk (by assumption) (by first | exact zFrm.rf | assumption) (by unfold sp_plus; (try unfold spPut); (try simp only [Int.toNat_natCast]); (repeat (first | rw [if_pos (by omega)] | rw [if_neg (by omega)] | rw [if_pos (by assumption)] | rw [if_neg (by assumption)])); all_goals (first | rfl | (congr 2; omega) | (congr 1; congr 1; omega))))) ?_
  rintro _ _ ⟨rfl, aB1, aB2, rfl⟩
  obtain ⟨kB, rfl⟩ := Int.eq_ofNat_of_zero_le aB1
  simp only [Int.toNat_natCast]
  have hkB : kB < 4 := by omega
  have hrB := hC.ls hkB
  obtain ⟨fB, eB, -⟩ := id hrB
  have hlB := hrB.len
  refine z_callVN MV_Row_becomeSum lk_Cls_200 dCls_plus_16 (k_Row_becomeSum c9 hrA hrB (hC.inj (by omega) (by omega) (by omega)) (hC.inj (by omega) (by omega) (by omega)) (hC.inj (by omega) (by omega) (by omega)) (hC.inj (by omega) (by omega) (by omega))) rfl rfl (Nat.le_of_ble_eq_true rfl) rfl (by assumption) (Nat.le_of_ble_eq_true rfl) (Nat.le_of_ble_eq_true rfl) (Nat.le_of_eq (Nat.zero_add _)) (Nat.le_of_eq (Nat.zero_add _)) (fun _ _ q => q.elim) ?_
  rintro _ h1 (⟨rfl, m1, hR1, f1⟩ | ⟨rfl, m1, ⟨L9, hR1⟩, f1⟩)
  · have hC1 := hC.res hR1 f1
    obtain ⟨-, d1, -⟩ := id hC1
    have fz1 : zFrm ad h h1 := zFrm.of2 (i := 16) (j := 17) (by omega) (by omega) f1
    obtain ⟨fr1, er1, -⟩ := id hR1
    refine z_callV (bc' := 3) (bs' := 18) MV_Cls_becomeResult lk_Cls_102 dCls_plus_19 (k_Cls_becomeResult (by assumption) (by omega) (by assumption) (by omega)) rfl rfl (Nat.le_of_ble_eq_true rfl) rfl (by assumption) (Nat.le_of_ble_eq_true rfl) (Nat.le_of_ble_eq_true rfl) (by decide) (by decide) (fun _ _ q => q.elim) ?_
    rintro _ h9 ⟨(⟨b0, rfl, hC9⟩ | ⟨b0, rfl, hC9⟩), gz9⟩
    all_goals have fz9 : zFrm ad h h9 := by first | exact fz1.tr gz9 | exact gz9
    · refine z_iret rfl rfl dCls_plus_22 ?_
      first
        | (exfalso; omega)
        | exact zQc.mk (by assumption) (by first | exact zFrm.rf | assumption) (by unfold sp_plus; (try unfold spPut); (try simp only [Int.toNat_natCast]); (repeat (first | rw [if_pos (by omega)] | rw [if_neg (by omega)] | rw [if_pos (by assumption)] | rw [if_neg (by assumption)])); all_goals (first | rfl | (congr 2; omega) | (congr 1; congr 1; omega)))
    · refine z_iret rfl rfl dCls_plus_22 ?_
      first
        | (exfalso; omega)
        | exact zQc.mk (by assumption) (by first | exact zFrm.rf | assumption) (by unfold sp_plus; (try unfold spPut); (try simp only [Int.toNat_natCast]); (repeat (first | rw [if_pos (by omega)] | rw [if_neg (by omega)] | rw [if_pos (by assumption)] | rw [if_neg (by assumption)])); all_goals (first | rfl | (congr 2; omega) | (congr 1; congr 1; omega)))
  · have hC1 := hC.res hR1 f1
    obtain ⟨-, d1, -⟩ := id hC1
    have fz1 : zFrm ad h h1 := zFrm.of2 (i := 16) (j := 17) (by omega) (by omega) f1
    obtain ⟨fr1, er1, -⟩ := id hR1
    refine z_callV (bc' := 3) (bs' := 18) MV_Cls_becomeResult lk_Cls_102 dCls_plus_19 (k_Cls_becomeResult (by assumption) (by omega) (by assumption) (by omega)) rfl rfl (Nat.le_of_ble_eq_true rfl) rfl (by assumption) (Nat.le_of_ble_eq_true rfl) (Nat.le_of_ble_eq_true rfl) (by decide) (by decide) (fun _ _ q => q.elim) ?_
    rintro _ h9 ⟨(⟨b0, rfl, hC9⟩ | ⟨b0, rfl, hC9⟩), gz9⟩
    all_goals have fz9 : zFrm ad h h9 := by first | exact fz1.tr gz9 | exact gz9
    · refine z_iret rfl rfl dCls_plus_22 ?_
      first
        | (exfalso; omega)
        | exact zQc.mk (by assumption) (by first | exact zFrm.rf | assumption) (by unfold sp_plus; (try unfold spPut); (try simp only [Int.toNat_natCast]); (repeat (first | rw [if_pos (by omega)] | rw [if_neg (by omega)] | rw [if_pos (by assumption)] | rw [if_neg (by assumption)])); all_goals (first | rfl | (congr 2; omega) | (congr 1; congr 1; omega)))
    · refine z_iret rfl rfl dCls_plus_22 ?_
      first
        | (exfalso; omega)
        | exact zQc.mk (by assumption) (by first | exact zFrm.rf | assumption) (by unfold sp_plus; (try unfold spPut); (try simp only [Int.toNat_natCast]); (repeat (first | rw [if_pos (by omega)] | rw [if_neg (by omega)] | rw [if_pos (by assumption)] | rw [if_neg (by assumption)])); all_goals (first | rfl | (congr 2; omega) | (congr 1; congr 1; omega)))
theorem k_Cls_times {p o : Int}  (hC : zCls G h ad S) (z_p : zI32 p) (z_o : zI32 o) : zM G l hCls_times yCls_times 9 [.ref (ad 0), zi p, zi o] h (zQc G ad h (sp_times S p o)) (zXc G ad h (sp_times S p o)) 6 36 := by
  obtain ⟨c1, c2, ⟨g3, c3, d3⟩, ⟨g4, c4, d4⟩, c5, ⟨T6, c6, d6⟩, c7, c8, ⟨R9, c9⟩, c10⟩ := id hC
  obtain ⟨f16, e16, -⟩ := id c9
  refine zM.of [some (.ref (ad 0)), some (zi p), some (zi o)] (by decide +kernel) rfl (by decide) rfl (Nat.le_of_ble_eq_true rfl) rfl ?_
  refine z_aload_n dCls_times_0 rfl ?_
  refine z_iload_n dCls_times_1 rfl ?_
  refine z_aload_n dCls_times_2 rfl ?_
  refine z_get (k := 3) fd_Cls (by decide) fl_Cls_29 dCls_times_3 (by assumption) (by rfl) ?_
  refine z_aload_n dCls_times_6 rfl ?_
  refine z_iload_n dCls_times_7 rfl ?_
  refine z_callV (bc' := 5) (bs' := 30) MV_Cls_listAt lk_Cls_34 dCls_times_8 (k_Cls_listAt (by assumption) (by omega)) rfl rfl (Nat.le_of_ble_eq_true rfl) rfl (by assumption) (Nat.le_of_ble_eq_true rfl) (Nat.le_of_ble_eq_true rfl) (by decide) (by decide) (fun E h9 q9 => z_out rfl (by obtain ⟨rfl, q1, rfl⟩ := q9; exact zXc.mk (by assumption) (by first | exact zFrm.rf | assumption) (by unfold sp_times; (try unfold spPut); (try simp only [Int.toNat_natCast]); (repeat (first | rw [if_pos (by omega)] | rw [if_neg (by omega)] | rw [if_pos (by assumption)] | rw [if_neg (by assumption)])); all_goals (first | rfl | (congr 2; omega) | (congr 1; congr 1; omega))))) ?_
  rintro _ _ ⟨rfl, aA1, aA2, rfl⟩
  obtain ⟨kA, rfl⟩ := Int.eq_ofNat_of_zero_le aA1
  simp only [Int.toNat_natCast]
  have hkA : kA < 4 := by omega
  have hrA := hC.ls hkA
  obtain ⟨fA, eA, -⟩ := id hrA
  have hlA := hrA.len
  refine z_aload_n dCls_times_11 rfl ?_
  refine z_iload_n dCls_times_12 rfl ?_
  refine z_callV (bc' := 4) (bs' := 24) MV_Cls_listAt lk_Cls_34 dCls_times_13 (k_Cls_listAt (by assumption) (by omega)) rfl rfl (Nat.le_of_ble_eq_true rfl) rfl (by assumption) (Nat.le_of_ble_eq_true rfl) (Nat.le_of_ble_eq_true rfl) (by decide) (by decide) (fun E h9 q9 => z_out rfl (by obtain ⟨rfl, q1, rfl⟩ := q9; exact zXc.mk (by assumption) (by first | exact zFrm.rf | assumption) (by unfold sp_times; (try unfold spPut); (try simp only [Int.toNat_natCast]); (repeat (first | rw [if_pos (by omega)] | rw [if_neg (by omega)] | rw [if_pos (by assumption)] | rw [if_neg (by assumption)])); all_goals (first | rfl | (congr 2; omega) | (congr 1; congr 1; omega))))) ?_
  rintro _ _ ⟨rfl, aB1, aB2, rfl⟩
  obtain ⟨kB, rfl⟩ := Int.eq_ofNat_of_zero_le aB1
  simp only [Int.toNat_natCast]
  have hkB : kB < 4 := by omega
  have hrB := hC.ls hkB
  obtain ⟨fB, eB, -⟩ := id hrB
  have hlB := hrB.len
  refine z_callVN MV_Row_becomeProduct lk_Cls_203 dCls_times_16 (k_Row_becomeProduct c9 hrA hrB (hC.inj (by omega) (by omega) (by omega)) (hC.inj (by omega) (by omega) (by omega)) (hC.inj (by omega) (by omega) (by omega)) (hC.inj (by omega) (by omega) (by omega))) rfl rfl (Nat.le_of_ble_eq_true rfl) rfl (by assumption) (Nat.le_of_ble_eq_true rfl) (Nat.le_of_ble_eq_true rfl) (Nat.le_of_eq (Nat.zero_add _)) (Nat.le_of_eq (Nat.zero_add _)) (fun _ _ q => q.elim) ?_
  rintro _ h1 (⟨rfl, m1, hR1, f1⟩ | ⟨rfl, m1, ⟨L9, hR1⟩, f1⟩)
  · have hC1 := hC.res hR1 f1
    obtain ⟨-, d1, -⟩ := id hC1
    have fz1 : zFrm ad h h1 := zFrm.of2 (i := 16) (j := 17) (by omega) (by omega) f1
    obtain ⟨fr1, er1, -⟩ := id hR1
    refine z_callV (bc' := 3) (bs' := 18) MV_Cls_becomeResult lk_Cls_102 dCls_times_19 (k_Cls_becomeResult (by assumption) (by omega) (by assumption) (by omega)) rfl rfl (Nat.le_of_ble_eq_true rfl) rfl (by assumption) (Nat.le_of_ble_eq_true rfl) (Nat.le_of_ble_eq_true rfl) (by decide) (by decide) (fun _ _ q => q.elim) ?_
    rintro _ h9 ⟨(⟨b0, rfl, hC9⟩ | ⟨b0, rfl, hC9⟩), gz9⟩
    all_goals have fz9 : zFrm ad h h9 := by first | exact fz1.tr gz9 | exact gz9
    · refine z_iret rfl rfl dCls_times_22 ?_
      first
        | (exfalso; omega)
        | exact zQc.mk (by assumption) (by first | exact zFrm.rf | assumption) (by unfold sp_times; (try unfold spPut); (try simp only [Int.toNat_natCast]); (repeat (first | rw [if_pos (by omega)] | rw [if_neg (by omega)] | rw [if_pos (by assumption)] | rw [if_neg (by assumption)])); all_goals (first | rfl | (congr 2; omega) | (congr 1; congr 1; omega)))
    · refine z_iret rfl rfl dCls_times_22 ?_
      first
        | (exfalso; omega)
        | exact zQc.mk (by assumption) (by first | exact zFrm.rf | assumption) (by unfold sp_times; (try unfold spPut); (try simp only [Int.toNat_natCast]); (repeat (first | rw [if_pos (by omega)] | rw [if_neg (by omega)] | rw [if_pos (by assumption)] | rw [if_neg (by assumption)])); all_goals (first | rfl | (congr 2; omega) | (congr 1; congr 1; omega)))
  · have hC1 := hC.res hR1 f1
    obtain ⟨-, d1, -⟩ := id hC1
    have fz1 : zFrm ad h h1 := zFrm.of2 (i := 16) (j := 17) (by omega) (by omega) f1
    obtain ⟨fr1, er1, -⟩ := id hR1
    refine z_callV (bc' := 3) (bs' := 18) MV_Cls_becomeResult lk_Cls_102 dCls_times_19 (k_Cls_becomeResult (by assumption) (by omega) (by assumption) (by omega)) rfl rfl (Nat.le_of_ble_eq_true rfl) rfl (by assumption) (Nat.le_of_ble_eq_true rfl) (Nat.le_of_ble_eq_true rfl) (by decide) (by decide) (fun _ _ q => q.elim) ?_
    rintro _ h9 ⟨(⟨b0, rfl, hC9⟩ | ⟨b0, rfl, hC9⟩), gz9⟩
    all_goals have fz9 : zFrm ad h h9 := by first | exact fz1.tr gz9 | exact gz9
    · refine z_iret rfl rfl dCls_times_22 ?_
      first
        | (exfalso; omega)
        | exact zQc.mk (by assumption) (by first | exact zFrm.rf | assumption) (by unfold sp_times; (try unfold spPut); (try simp only [Int.toNat_natCast]); (repeat (first | rw [if_pos (by omega)] | rw [if_neg (by omega)] | rw [if_pos (by assumption)] | rw [if_neg (by assumption)])); all_goals (first | rfl | (congr 2; omega) | (congr 1; congr 1; omega)))
    · refine z_iret rfl rfl dCls_times_22 ?_
      first
        | (exfalso; omega)
        | exact zQc.mk (by assumption) (by first | exact zFrm.rf | assumption) (by unfold sp_times; (try unfold spPut); (try simp only [Int.toNat_natCast]); (repeat (first | rw [if_pos (by omega)] | rw [if_neg (by omega)] | rw [if_pos (by assumption)] | rw [if_neg (by assumption)])); all_goals (first | rfl | (congr 2; omega) | (congr 1; congr 1; omega)))
theorem k_Cls_derive {p : Int}  (hC : zCls G h ad S) (z_p : zI32 p) : zM G l hCls_derive yCls_derive 9 [.ref (ad 0), zi p] h (zQc G ad h (sp_derive S p)) (zXc G ad h (sp_derive S p)) 6 36 := by
  obtain ⟨c1, c2, ⟨g3, c3, d3⟩, ⟨g4, c4, d4⟩, c5, ⟨T6, c6, d6⟩, c7, c8, ⟨R9, c9⟩, c10⟩ := id hC
  obtain ⟨f16, e16, -⟩ := id c9
  refine zM.of [some (.ref (ad 0)), some (zi p)] (by decide +kernel) rfl (by decide) rfl (Nat.le_of_ble_eq_true rfl) rfl ?_
  refine z_aload_n dCls_derive_0 rfl ?_
  refine z_iload_n dCls_derive_1 rfl ?_
  refine z_aload_n dCls_derive_2 rfl ?_
  refine z_get (k := 3) fd_Cls (by decide) fl_Cls_29 dCls_derive_3 (by assumption) (by rfl) ?_
  refine z_aload_n dCls_derive_6 rfl ?_
  refine z_iload_n dCls_derive_7 rfl ?_
  refine z_callV (bc' := 5) (bs' := 30) MV_Cls_listAt lk_Cls_34 dCls_derive_8 (k_Cls_listAt (by assumption) (by omega)) rfl rfl (Nat.le_of_ble_eq_true rfl) rfl (by assumption) (Nat.le_of_ble_eq_true rfl) (Nat.le_of_ble_eq_true rfl) (by decide) (by decide) (fun E h9 q9 => z_out rfl (by obtain ⟨rfl, q1, rfl⟩ := q9; exact zXc.mk (by assumption) (by first | exact zFrm.rf | assumption) (by unfold sp_derive; (try unfold spPut); (try simp only [Int.toNat_natCast]); (repeat (first | rw [if_pos (by omega)] | rw [if_neg (by omega)] | rw [if_pos (by assumption)] | rw [if_neg (by assumption)])); all_goals (first | rfl | (congr 2; omega) | (congr 1; congr 1; omega))))) ?_
  rintro _ _ ⟨rfl, aA1, aA2, rfl⟩
  obtain ⟨kA, rfl⟩ := Int.eq_ofNat_of_zero_le aA1
  simp only [Int.toNat_natCast]
  have hkA : kA < 4 := by omega
  have hrA := hC.ls hkA
  obtain ⟨fA, eA, -⟩ := id hrA
  have hlA := hrA.len
  refine z_callVN MV_Row_becomeDerived lk_Cls_209 dCls_derive_11 (k_Row_becomeDerived c9 hrA (hC.inj (by omega) (by omega) (by omega)) (hC.inj (by omega) (by omega) (by omega))) rfl rfl (Nat.le_of_ble_eq_true rfl) rfl (by assumption) (Nat.le_of_ble_eq_true rfl) (Nat.le_of_ble_eq_true rfl) (Nat.le_of_eq (Nat.zero_add _)) (Nat.le_of_eq (Nat.zero_add _)) (fun _ _ q => q.elim) ?_
  rintro _ h1 (⟨rfl, m1, hR1, f1⟩ | ⟨rfl, m1, ⟨L9, hR1⟩, f1⟩)
  · have hC1 := hC.res hR1 f1
    obtain ⟨-, d1, -⟩ := id hC1
    have fz1 : zFrm ad h h1 := zFrm.of2 (i := 16) (j := 17) (by omega) (by omega) f1
    obtain ⟨fr1, er1, -⟩ := id hR1
    refine z_callV (bc' := 4) (bs' := 24) MV_Cls_becomeResult lk_Cls_102 dCls_derive_14 (k_Cls_becomeResult (by assumption) (by omega) (by assumption) (by omega)) rfl rfl (Nat.le_of_ble_eq_true rfl) rfl (by assumption) (Nat.le_of_ble_eq_true rfl) (Nat.le_of_ble_eq_true rfl) (by decide) (by decide) (fun _ _ q => q.elim) ?_
    rintro _ h9 ⟨(⟨b0, rfl, hC9⟩ | ⟨b0, rfl, hC9⟩), gz9⟩
    all_goals have fz9 : zFrm ad h h9 := by first | exact fz1.tr gz9 | exact gz9
    · refine z_iret rfl rfl dCls_derive_17 ?_
      first
        | (exfalso; omega)
        | exact zQc.mk (by assumption) (by first | exact zFrm.rf | assumption) (by unfold sp_derive; (try unfold spPut); (try simp only [Int.toNat_natCast]); (repeat (first | rw [if_pos (by omega)] | rw [if_neg (by omega)] | rw [if_pos (by assumption)] | rw [if_neg (by assumption)])); all_goals (first | rfl | (congr 2; omega) | (congr 1; congr 1; omega)))
    · refine z_iret rfl rfl dCls_derive_17 ?_
      first
        | (exfalso; omega)
        | exact zQc.mk (by assumption) (by first | exact zFrm.rf | assumption) (by unfold sp_derive; (try unfold spPut); (try simp only [Int.toNat_natCast]); (repeat (first | rw [if_pos (by omega)] | rw [if_neg (by omega)] | rw [if_pos (by assumption)] | rw [if_neg (by assumption)])); all_goals (first | rfl | (congr 2; omega) | (congr 1; congr 1; omega)))
  · have hC1 := hC.res hR1 f1
    obtain ⟨-, d1, -⟩ := id hC1
    have fz1 : zFrm ad h h1 := zFrm.of2 (i := 16) (j := 17) (by omega) (by omega) f1
    obtain ⟨fr1, er1, -⟩ := id hR1
    refine z_callV (bc' := 4) (bs' := 24) MV_Cls_becomeResult lk_Cls_102 dCls_derive_14 (k_Cls_becomeResult (by assumption) (by omega) (by assumption) (by omega)) rfl rfl (Nat.le_of_ble_eq_true rfl) rfl (by assumption) (Nat.le_of_ble_eq_true rfl) (Nat.le_of_ble_eq_true rfl) (by decide) (by decide) (fun _ _ q => q.elim) ?_
    rintro _ h9 ⟨(⟨b0, rfl, hC9⟩ | ⟨b0, rfl, hC9⟩), gz9⟩
    all_goals have fz9 : zFrm ad h h9 := by first | exact fz1.tr gz9 | exact gz9
    · refine z_iret rfl rfl dCls_derive_17 ?_
      first
        | (exfalso; omega)
        | exact zQc.mk (by assumption) (by first | exact zFrm.rf | assumption) (by unfold sp_derive; (try unfold spPut); (try simp only [Int.toNat_natCast]); (repeat (first | rw [if_pos (by omega)] | rw [if_neg (by omega)] | rw [if_pos (by assumption)] | rw [if_neg (by assumption)])); all_goals (first | rfl | (congr 2; omega) | (congr 1; congr 1; omega)))
    · refine z_iret rfl rfl dCls_derive_17 ?_
      first
        | (exfalso; omega)
        | exact zQc.mk (by assumption) (by first | exact zFrm.rf | assumption) (by unfold sp_derive; (try unfold spPut); (try simp only [Int.toNat_natCast]); (repeat (first | rw [if_pos (by omega)] | rw [if_neg (by omega)] | rw [if_pos (by assumption)] | rw [if_neg (by assumption)])); all_goals (first | rfl | (congr 2; omega) | (congr 1; congr 1; omega)))
theorem k_Cls_shift {p : Int}  (hC : zCls G h ad S) (z_p : zI32 p) : zM G l hCls_shift yCls_shift 9 [.ref (ad 0), zi p] h (zQc G ad h (sp_shift S p)) (zXc G ad h (sp_shift S p)) 6 36 := by
  obtain ⟨c1, c2, ⟨g3, c3, d3⟩, ⟨g4, c4, d4⟩, c5, ⟨T6, c6, d6⟩, c7, c8, ⟨R9, c9⟩, c10⟩ := id hC
  obtain ⟨f16, e16, -⟩ := id c9
  refine zM.of [some (.ref (ad 0)), some (zi p), none] (by decide +kernel) rfl (by decide) rfl (Nat.le_of_ble_eq_true rfl) rfl ?_
  refine z_aload_n dCls_shift_0 rfl ?_
  refine z_iload_n dCls_shift_1 rfl ?_
  refine z_callV (bc' := 5) (bs' := 30) MV_Cls_listAt lk_Cls_34 dCls_shift_2 (k_Cls_listAt (by assumption) (by omega)) rfl rfl (Nat.le_of_ble_eq_true rfl) rfl (by assumption) (Nat.le_of_ble_eq_true rfl) (Nat.le_of_ble_eq_true rfl) (by decide) (by decide) (fun E h9 q9 => z_out rfl (by obtain ⟨rfl, q1, rfl⟩ := q9; exact zXc.mk (by assumption) (by first | exact zFrm.rf | assumption) (by unfold sp_shift; (try unfold spPut); (try simp only [Int.toNat_natCast]); (repeat (first | rw [if_pos (by omega)] | rw [if_neg (by omega)] | rw [if_pos (by assumption)] | rw [if_neg (by assumption)])); all_goals (first | rfl | (congr 2; omega) | (congr 1; congr 1; omega))))) ?_
  rintro _ _ ⟨rfl, aA1, aA2, rfl⟩
  obtain ⟨kA, rfl⟩ := Int.eq_ofNat_of_zero_le aA1
  simp only [Int.toNat_natCast]
  have hkA : kA < 4 := by omega
  have hrA := hC.ls hkA
  obtain ⟨fA, eA, -⟩ := id hrA
  have hlA := hrA.len
  refine z_astore_n dCls_shift_5 (Nat.le_of_ble_eq_true rfl) ?_
  refine z_aload_n dCls_shift_6 rfl ?_
  refine z_getN (k := 1) fd_Row (by decide) fl_Cls_46 dCls_shift_7 (by assumption) (by rfl) ?_
  refine z_if_le (tgt := 27) dCls_shift_10 (by decide) (by omega) (fun c10 => ?_) (fun c10 => ?_)
  · refine z_aload_n dCls_shift_27 rfl ?_
    refine z_iload_n dCls_shift_28 rfl ?_
    refine z_iconst dCls_shift_29 ?_
    refine z_callV MV_Cls_makeStale lk_Cls_58 dCls_shift_30 (k_Cls_makeStale (by assumption) (by omega) (by omega)) rfl rfl (Nat.le_of_ble_eq_true rfl) rfl (by assumption) (Nat.le_of_ble_eq_true rfl) (Nat.le_of_ble_eq_true rfl) (Nat.le_of_eq (Nat.zero_add _)) (Nat.le_of_eq (Nat.zero_add _)) (fun _ _ q => q.elim) ?_
    rintro _ h2 ⟨rfl, hC2, gz2⟩
    obtain ⟨-, d2, -⟩ := id hC2
    have fz2 : zFrm ad h h2 := by first | exact fz1.tr gz2 | exact gz2
    have hm2 := hC2.ls hkA
    simp only [zsS_l, zsS_0, zsL_l] at hm2
    obtain ⟨fm2, em2, -⟩ := id hm2
    refine z_aload_n dCls_shift_33 rfl ?_
    refine z_getN (k := 1) fd_Row (by decide) fl_Cls_46 dCls_shift_34 (by assumption) (by rfl) ?_
    refine z_iret rfl rfl dCls_shift_37 ?_
    first
      | (exfalso; omega)
      | exact zQc.mk (by assumption) (by first | exact zFrm.rf | assumption) (by unfold sp_shift; (try unfold spPut); (try simp only [Int.toNat_natCast]); (repeat (first | rw [if_pos (by omega)] | rw [if_neg (by omega)] | rw [if_pos (by assumption)] | rw [if_neg (by assumption)])); all_goals (first | rfl | (congr 2; omega) | (congr 1; congr 1; omega)))
  · refine z_aload_n dCls_shift_13 rfl ?_
    refine z_iconst dCls_shift_14 ?_
    refine z_iconst dCls_shift_15 ?_
    refine z_callVN MV_Row_putIn lk_Cls_119 dCls_shift_16 (k_Row_putIn hrA (by omega) (by omega)) rfl rfl (Nat.le_of_ble_eq_true rfl) rfl (by assumption) (Nat.le_of_ble_eq_true rfl) (Nat.le_of_ble_eq_true rfl) (Nat.le_of_eq (Nat.zero_add _)) (Nat.le_of_eq (Nat.zero_add _)) (fun _ _ q => q.elim) ?_
    rintro _ h1 (⟨rfl, m1, m2, m3, hr1, f1⟩ | ⟨rfl, m1, rfl⟩)
    · have hC1 := hC.row hkA hr1 f1
      obtain ⟨-, d1, -⟩ := id hC1
      have fz1 : zFrm ad h h1 := zFrm.of2 (i := 8 + 2 * kA) (j := 9 + 2 * kA) (by omega) (by omega) f1
      obtain ⟨fr1, er1, -⟩ := id hr1
      have hl1 := hr1.len
      refine z_if_ne (tgt := 27) dCls_shift_19 (by decide) (by omega) (fun c19 => ?_) (fun c19 => ?_)
      · refine z_aload_n dCls_shift_27 rfl ?_
        refine z_iload_n dCls_shift_28 rfl ?_
        refine z_iconst dCls_shift_29 ?_
        refine z_callV MV_Cls_makeStale lk_Cls_58 dCls_shift_30 (k_Cls_makeStale (by assumption) (by omega) (by omega)) rfl rfl (Nat.le_of_ble_eq_true rfl) rfl (by assumption) (Nat.le_of_ble_eq_true rfl) (Nat.le_of_ble_eq_true rfl) (Nat.le_of_eq (Nat.zero_add _)) (Nat.le_of_eq (Nat.zero_add _)) (fun _ _ q => q.elim) ?_
        rintro _ h2 ⟨rfl, hC2, gz2⟩
        obtain ⟨-, d2, -⟩ := id hC2
        have fz2 : zFrm ad h h2 := by first | exact fz1.tr gz2 | exact gz2
        have hm2 := hC2.ls hkA
        simp only [zsS_l, zsS_0, zsL_l] at hm2
        obtain ⟨fm2, em2, -⟩ := id hm2
        refine z_aload_n dCls_shift_33 rfl ?_
        refine z_getN (k := 1) fd_Row (by decide) fl_Cls_46 dCls_shift_34 (by assumption) (by rfl) ?_
        refine z_iret rfl rfl dCls_shift_37 ?_
        first
          | (exfalso; omega)
          | exact zQc.mk (by assumption) (by first | exact zFrm.rf | assumption) (by unfold sp_shift; (try unfold spPut); (try simp only [Int.toNat_natCast]); (repeat (first | rw [if_pos (by omega)] | rw [if_neg (by omega)] | rw [if_pos (by assumption)] | rw [if_neg (by assumption)])); all_goals (first | rfl | (congr 2; omega) | (congr 1; congr 1; omega)))
      · refine z_aload_n dCls_shift_22 rfl ?_
        refine z_callV MV_Cls_refuse lk_Cls_54 dCls_shift_23 (k_Cls_refuse (by assumption)) rfl rfl (Nat.le_of_ble_eq_true rfl) rfl (by assumption) (Nat.le_of_ble_eq_true rfl) (Nat.le_of_ble_eq_true rfl) (Nat.le_of_eq (Nat.zero_add _)) (Nat.le_of_eq (Nat.zero_add _)) (fun _ _ q => q.elim) ?_
        rintro _ h9 ⟨rfl, hC9, fz9⟩
        refine z_iret rfl rfl dCls_shift_26 ?_
        first
          | (exfalso; omega)
          | exact zQc.mk (by assumption) (by first | exact zFrm.rf | assumption) (by unfold sp_shift; (try unfold spPut); (try simp only [Int.toNat_natCast]); (repeat (first | rw [if_pos (by omega)] | rw [if_neg (by omega)] | rw [if_pos (by assumption)] | rw [if_neg (by assumption)])); all_goals (first | rfl | (congr 2; omega) | (congr 1; congr 1; omega)))
    · refine z_if_ne (tgt := 27) dCls_shift_19 (by decide) (by omega) (fun c19 => ?_) (fun c19 => ?_)
      · refine z_aload_n dCls_shift_27 rfl ?_
        refine z_iload_n dCls_shift_28 rfl ?_
        refine z_iconst dCls_shift_29 ?_
        refine z_callV MV_Cls_makeStale lk_Cls_58 dCls_shift_30 (k_Cls_makeStale (by assumption) (by omega) (by omega)) rfl rfl (Nat.le_of_ble_eq_true rfl) rfl (by assumption) (Nat.le_of_ble_eq_true rfl) (Nat.le_of_ble_eq_true rfl) (Nat.le_of_eq (Nat.zero_add _)) (Nat.le_of_eq (Nat.zero_add _)) (fun _ _ q => q.elim) ?_
        rintro _ h2 ⟨rfl, hC2, gz2⟩
        obtain ⟨-, d2, -⟩ := id hC2
        have fz2 : zFrm ad h h2 := by first | exact fz1.tr gz2 | exact gz2
        have hm2 := hC2.ls hkA
        simp only [zsS_l, zsS_0, zsL_l] at hm2
        obtain ⟨fm2, em2, -⟩ := id hm2
        refine z_aload_n dCls_shift_33 rfl ?_
        refine z_getN (k := 1) fd_Row (by decide) fl_Cls_46 dCls_shift_34 (by assumption) (by rfl) ?_
        refine z_iret rfl rfl dCls_shift_37 ?_
        first
          | (exfalso; omega)
          | exact zQc.mk (by assumption) (by first | exact zFrm.rf | assumption) (by unfold sp_shift; (try unfold spPut); (try simp only [Int.toNat_natCast]); (repeat (first | rw [if_pos (by omega)] | rw [if_neg (by omega)] | rw [if_pos (by assumption)] | rw [if_neg (by assumption)])); all_goals (first | rfl | (congr 2; omega) | (congr 1; congr 1; omega)))
      · refine z_aload_n dCls_shift_22 rfl ?_
        refine z_callV MV_Cls_refuse lk_Cls_54 dCls_shift_23 (k_Cls_refuse (by assumption)) rfl rfl (Nat.le_of_ble_eq_true rfl) rfl (by assumption) (Nat.le_of_ble_eq_true rfl) (Nat.le_of_ble_eq_true rfl) (Nat.le_of_eq (Nat.zero_add _)) (Nat.le_of_eq (Nat.zero_add _)) (fun _ _ q => q.elim) ?_
        rintro _ h9 ⟨rfl, hC9, fz9⟩
        refine z_iret rfl rfl dCls_shift_26 ?_
        first
          | (exfalso; omega)
          | exact zQc.mk (by assumption) (by first | exact zFrm.rf | assumption) (by unfold sp_shift; (try unfold spPut); (try simp only [Int.toNat_natCast]); (repeat (first | rw [if_pos (by omega)] | rw [if_neg (by omega)] | rw [if_pos (by assumption)] | rw [if_neg (by assumption)])); all_goals (first | rfl | (congr 2; omega) | (congr 1; congr 1; omega)))
theorem k_Cls_trim {p : Int}  (hC : zCls G h ad S) (z_p : zI32 p) : zM G l hCls_trim yCls_trim 9 [.ref (ad 0), zi p] h (zQc G ad h (sp_trim S p)) (zXc G ad h (sp_trim S p)) 6 36 := by
  obtain ⟨c1, c2, ⟨g3, c3, d3⟩, ⟨g4, c4, d4⟩, c5, ⟨T6, c6, d6⟩, c7, c8, ⟨R9, c9⟩, c10⟩ := id hC
  obtain ⟨f16, e16, -⟩ := id c9
  refine zM.of [some (.ref (ad 0)), some (zi p), none, none] (by decide +kernel) rfl (by decide) rfl (Nat.le_of_ble_eq_true rfl) rfl ?_
  refine z_aload_n dCls_trim_0 rfl ?_
  refine z_iload_n dCls_trim_1 rfl ?_
  refine z_callV (bc' := 5) (bs' := 30) MV_Cls_listAt lk_Cls_34 dCls_trim_2 (k_Cls_listAt (by assumption) (by omega)) rfl rfl (Nat.le_of_ble_eq_true rfl) rfl (by assumption) (Nat.le_of_ble_eq_true rfl) (Nat.le_of_ble_eq_true rfl) (by decide) (by decide) (fun E h9 q9 => z_out rfl (by obtain ⟨rfl, q1, rfl⟩ := q9; exact zXc.mk (by assumption) (by first | exact zFrm.rf | assumption) (by unfold sp_trim; (try unfold spPut); (try simp only [Int.toNat_natCast]); (repeat (first | rw [if_pos (by omega)] | rw [if_neg (by omega)] | rw [if_pos (by assumption)] | rw [if_neg (by assumption)])); all_goals (first | rfl | (congr 2; omega) | (congr 1; congr 1; omega))))) ?_
  rintro _ _ ⟨rfl, aA1, aA2, rfl⟩
  obtain ⟨kA, rfl⟩ := Int.eq_ofNat_of_zero_le aA1
  simp only [Int.toNat_natCast]
  have hkA : kA < 4 := by omega
  have hrA := hC.ls hkA
  obtain ⟨fA, eA, -⟩ := id hrA
  have hlA := hrA.len
  refine z_astore_n dCls_trim_5 (Nat.le_of_ble_eq_true rfl) ?_
  refine z_aload_n dCls_trim_6 rfl ?_
  refine z_getN (k := 1) fd_Row (by decide) fl_Cls_46 dCls_trim_7 (by assumption) (by rfl) ?_
  refine z_istore_n dCls_trim_10 (Nat.le_of_ble_eq_true rfl) ?_
  refine z_aload_n dCls_trim_11 rfl ?_
  refine z_aload_n dCls_trim_12 rfl ?_
  refine z_callVN MV_Row_lastNotZero lk_Cls_206 dCls_trim_13 (k_Row_lastNotZero hrA) rfl rfl (Nat.le_of_ble_eq_true rfl) rfl (by assumption) (Nat.le_of_ble_eq_true rfl) (Nat.le_of_ble_eq_true rfl) (Nat.le_of_eq (Nat.zero_add _)) (Nat.le_of_eq (Nat.zero_add _)) (fun _ _ q => q.elim) ?_
  rintro _ _ ⟨rfl, rfl⟩
  have hz := zLnz_in (S.1 kA)
  have ht : ((S.1 kA).take (zLnz (S.1 kA) + 1).toNat).length = (zLnz (S.1 kA) + 1).toNat := by rw [List.length_take]; omega
  refine z_iconst dCls_trim_16 ?_
  refine z_iadd dCls_trim_17 ?_
  refine z_putN (k := 1) fd_Row (by decide) fl_Cls_46 rfl dCls_trim_18 (by assumption) (by simp) rfl rfl ?_
  refine z_hx (fun h1 p1 g1 => ?_)
  have hr1 := hrA.cut (n := zLnz (S.1 kA) + 1) (by omega) p1 g1
  have f1 : ∀ q, q ≠ ad (8 + 2 * kA) → q ≠ ad (9 + 2 * kA) → h1 q = h q := fun q hq _ => g1 q hq
  have hC1 := hC.row hkA hr1 f1
  obtain ⟨-, d1, -⟩ := id hC1
  have fz1 : zFrm ad h h1 := zFrm.of2 (i := 8 + 2 * kA) (j := 9 + 2 * kA) (by omega) (by omega) f1
  obtain ⟨fr1, er1, -⟩ := id hr1
  have hl1 := hr1.len
  refine z_aload_n dCls_trim_21 rfl ?_
  refine z_iload_n dCls_trim_22 rfl ?_
  refine z_iconst dCls_trim_23 ?_
  refine z_callV MV_Cls_makeStale lk_Cls_58 dCls_trim_24 (k_Cls_makeStale (by assumption) (by omega) (by omega)) rfl rfl (Nat.le_of_ble_eq_true rfl) rfl (by assumption) (Nat.le_of_ble_eq_true rfl) (Nat.le_of_ble_eq_true rfl) (Nat.le_of_eq (Nat.zero_add _)) (Nat.le_of_eq (Nat.zero_add _)) (fun _ _ q => q.elim) ?_
  rintro _ h2 ⟨rfl, hC2, gz2⟩
  obtain ⟨-, d2, -⟩ := id hC2
  have fz2 : zFrm ad h h2 := by first | exact fz1.tr gz2 | exact gz2
  have hm2 := hC2.ls hkA
  simp only [zsS_l, zsS_0, zsL_l] at hm2
  obtain ⟨fm2, em2, -⟩ := id hm2
  refine z_iload_n dCls_trim_27 rfl ?_
  refine z_aload_n dCls_trim_28 rfl ?_
  refine z_getN (k := 1) fd_Row (by decide) fl_Cls_46 dCls_trim_29 (by assumption) (by rfl) ?_
  refine z_isub dCls_trim_32 ?_
  refine z_iret rfl rfl dCls_trim_33 ?_
  first
    | (exfalso; omega)
    | exact zQc.mk (by assumption) (by first | exact zFrm.rf | assumption) (by unfold sp_trim; (try unfold spPut); (try simp only [Int.toNat_natCast]); (repeat (first | rw [if_pos (by omega)] | rw [if_neg (by omega)] | rw [if_pos (by assumption)] | rw [if_neg (by assumption)])); all_goals (first | rfl | (congr 2; omega) | (congr 1; congr 1; omega)))
theorem k_Cls_value {p x : Int}  (hC : zCls G h ad S) (z_p : zI32 p) (z_x : zI32 x) : zM G l hCls_value yCls_value 9 [.ref (ad 0), zi p, zi x] h (zQc G ad h (sp_value S p x)) (zXc G ad h (sp_value S p x)) 6 36 := by
  obtain ⟨c1, c2, ⟨g3, c3, d3⟩, ⟨g4, c4, d4⟩, c5, ⟨T6, c6, d6⟩, c7, c8, ⟨R9, c9⟩, c10⟩ := id hC
  obtain ⟨f16, e16, -⟩ := id c9
  refine zM.of [some (.ref (ad 0)), some (zi p), some (zi x), none] (by decide +kernel) rfl (by decide) rfl (Nat.le_of_ble_eq_true rfl) rfl ?_
  refine z_aload_n dCls_value_0 rfl ?_
  refine z_iload_n dCls_value_1 rfl ?_
  refine z_callV (bc' := 5) (bs' := 30) MV_Cls_listAt lk_Cls_34 dCls_value_2 (k_Cls_listAt (by assumption) (by omega)) rfl rfl (Nat.le_of_ble_eq_true rfl) rfl (by assumption) (Nat.le_of_ble_eq_true rfl) (Nat.le_of_ble_eq_true rfl) (by decide) (by decide) (fun E h9 q9 => z_out rfl (by obtain ⟨rfl, q1, rfl⟩ := q9; exact zXc.mk (by assumption) (by first | exact zFrm.rf | assumption) (by unfold sp_value; (try unfold spPut); (try simp only [Int.toNat_natCast]); (repeat (first | rw [if_pos (by omega)] | rw [if_neg (by omega)] | rw [if_pos (by assumption)] | rw [if_neg (by assumption)])); all_goals (first | rfl | (congr 2; omega) | (congr 1; congr 1; omega))))) ?_
  rintro _ _ ⟨rfl, aA1, aA2, rfl⟩
  obtain ⟨kA, rfl⟩ := Int.eq_ofNat_of_zero_le aA1
  simp only [Int.toNat_natCast]
  have hkA : kA < 4 := by omega
  have hrA := hC.ls hkA
  obtain ⟨fA, eA, -⟩ := id hrA
  have hlA := hrA.len
  refine z_astore_n dCls_value_5 (Nat.le_of_ble_eq_true rfl) ?_
  refine z_iload_n dCls_value_6 rfl ?_
  refine z_bipush dCls_value_7 rfl ?_
  refine z_bipush dCls_value_9 rfl ?_
  refine z_callS (bc' := 4) (bs' := 24) MS_Cls_demandWithin lk_Cls_38 dCls_value_11 (k_Cls_demandWithin (by omega) (by omega) (by omega)) rfl rfl (Nat.le_of_ble_eq_true rfl)  (Nat.le_of_ble_eq_true rfl) (Nat.le_of_ble_eq_true rfl) (by decide) (by decide) (fun E h9 q9 => z_out rfl (by obtain ⟨rfl, q1, rfl⟩ := q9; exact zXc.mk (by assumption) (by first | exact zFrm.rf | assumption) (by unfold sp_value; (try unfold spPut); (try simp only [Int.toNat_natCast]); (repeat (first | rw [if_pos (by omega)] | rw [if_neg (by omega)] | rw [if_pos (by assumption)] | rw [if_neg (by assumption)])); all_goals (first | rfl | (congr 2; omega) | (congr 1; congr 1; omega))))) ?_
  rintro _ _ ⟨rfl, w1, w2, rfl⟩
  refine z_aload_n dCls_value_14 rfl ?_
  refine z_iload_n dCls_value_15 rfl ?_
  refine z_callVN MV_Row_restAt lk_Cls_212 dCls_value_16 (k_Row_restAt hrA (by omega)) rfl rfl (Nat.le_of_ble_eq_true rfl) rfl (by assumption) (Nat.le_of_ble_eq_true rfl) (Nat.le_of_ble_eq_true rfl) (Nat.le_of_eq (Nat.zero_add _)) (Nat.le_of_eq (Nat.zero_add _)) (fun _ _ q => q.elim) ?_
  rintro _ _ ⟨rfl, rfl⟩
  refine z_iret rfl rfl dCls_value_19 ?_
  first
    | (exfalso; omega)
    | exact zQc.mk (by assumption) (by first | exact zFrm.rf | assumption) (by unfold sp_value; (try unfold spPut); (try simp only [Int.toNat_natCast]); (repeat (first | rw [if_pos (by omega)] | rw [if_neg (by omega)] | rw [if_pos (by assumption)] | rw [if_neg (by assumption)])); all_goals (first | rfl | (congr 2; omega) | (congr 1; congr 1; omega)))
theorem k_Cls_degree {p : Int}  (hC : zCls G h ad S) (z_p : zI32 p) : zM G l hCls_degree yCls_degree 9 [.ref (ad 0), zi p] h (zQc G ad h (sp_degree S p)) (zXc G ad h (sp_degree S p)) 6 36 := by
  obtain ⟨c1, c2, ⟨g3, c3, d3⟩, ⟨g4, c4, d4⟩, c5, ⟨T6, c6, d6⟩, c7, c8, ⟨R9, c9⟩, c10⟩ := id hC
  obtain ⟨f16, e16, -⟩ := id c9
  refine zM.of [some (.ref (ad 0)), some (zi p)] (by decide +kernel) rfl (by decide) rfl (Nat.le_of_ble_eq_true rfl) rfl ?_
  refine z_aload_n dCls_degree_0 rfl ?_
  refine z_iload_n dCls_degree_1 rfl ?_
  refine z_callV (bc' := 5) (bs' := 30) MV_Cls_listAt lk_Cls_34 dCls_degree_2 (k_Cls_listAt (by assumption) (by omega)) rfl rfl (Nat.le_of_ble_eq_true rfl) rfl (by assumption) (Nat.le_of_ble_eq_true rfl) (Nat.le_of_ble_eq_true rfl) (by decide) (by decide) (fun E h9 q9 => z_out rfl (by obtain ⟨rfl, q1, rfl⟩ := q9; exact zXc.mk (by assumption) (by first | exact zFrm.rf | assumption) (by unfold sp_degree; (try unfold spPut); (try simp only [Int.toNat_natCast]); (repeat (first | rw [if_pos (by omega)] | rw [if_neg (by omega)] | rw [if_pos (by assumption)] | rw [if_neg (by assumption)])); all_goals (first | rfl | (congr 2; omega) | (congr 1; congr 1; omega))))) ?_
  rintro _ _ ⟨rfl, aA1, aA2, rfl⟩
  obtain ⟨kA, rfl⟩ := Int.eq_ofNat_of_zero_le aA1
  simp only [Int.toNat_natCast]
  have hkA : kA < 4 := by omega
  have hrA := hC.ls hkA
  obtain ⟨fA, eA, -⟩ := id hrA
  have hlA := hrA.len
  refine z_callVN MV_Row_lastNotZero lk_Cls_206 dCls_degree_5 (k_Row_lastNotZero hrA) rfl rfl (Nat.le_of_ble_eq_true rfl) rfl (by assumption) (Nat.le_of_ble_eq_true rfl) (Nat.le_of_ble_eq_true rfl) (Nat.le_of_eq (Nat.zero_add _)) (Nat.le_of_eq (Nat.zero_add _)) (fun _ _ q => q.elim) ?_
  rintro _ _ ⟨rfl, rfl⟩
  refine z_iret rfl rfl dCls_degree_8 ?_
  first
    | (exfalso; omega)
    | exact zQc.mk (by assumption) (by first | exact zFrm.rf | assumption) (by unfold sp_degree; (try unfold spPut); (try simp only [Int.toNat_natCast]); (repeat (first | rw [if_pos (by omega)] | rw [if_neg (by omega)] | rw [if_pos (by assumption)] | rw [if_neg (by assumption)])); all_goals (first | rfl | (congr 2; omega) | (congr 1; congr 1; omega)))
end CLS6
